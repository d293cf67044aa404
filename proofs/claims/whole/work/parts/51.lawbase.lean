/-! the law's world: the class's, the reference's, the two tides -/
abbrev lw_X : Type := jx_M × jx_M × jx_T
def lw_no : Nat → Prop := fun _ => False
theorem mm_in {G : jx_G} {σ : jx_M} {k : Nat} {q : Nat × va_E} (h : (mm_W G σ)[k]? = some q) : mm_rg G q.1 := by
  have h3 : ((mm_W G (fun _ _ => 0)).map Prod.fst)[k]? = some q.1 := by
    have e : (mm_W G (fun _ _ => 0)).map Prod.fst = (mm_W G σ).map Prod.fst := rfl
    rw [e, List.getElem?_map, h]
    rfl
  rw [List.getElem?_map] at h3
  cases h4 : (mm_W G (fun _ _ => 0))[k]? with
  | none => rw [h4] at h3; cases h3
  | some q2 =>
    rw [h4] at h3
    have h5 : q2.1 = q.1 := Option.some.inj h3
    exact ⟨k, q2.2, by rw [← h5]; exact h4⟩
theorem ll_in {G : jx_G} {t : jx_T} {σ : jx_M} {k : Nat} {q : Nat × va_E} (h : (ll_W G t σ)[k]? = some q) : ll_rg G q.1 := by
  have h3 : ((ll_W G (fun _ => 0, fun _ => 0, fun _ _ => 0) (fun _ _ => 0)).map Prod.fst)[k]? = some q.1 := by
    rw [ll_fst (t' := t) (σ' := σ), List.getElem?_map, h]
    rfl
  rw [List.getElem?_map] at h3
  cases h4 : (ll_W G (fun _ => 0, fun _ => 0, fun _ _ => 0) (fun _ _ => 0))[k]? with
  | none => rw [h4] at h3; cases h3
  | some q2 =>
    rw [h4] at h3
    have h5 : q2.1 = q.1 := Option.some.inj h3
    exact ⟨k, q2.2, by rw [← h5]; exact h4⟩
/-- the two tides' cells are none of the reference's -/
def lw_tm (Gl Gm : jx_G) (t : jx_T) : Prop := ∀ (k : Nat) (q : Nat × va_E), (ll_tw Gl t 0 ++ ll_tw Gl t 10)[k]? = some q → ¬ mm_rg Gm q.1
def lw_dyn (Gl Gm : jx_G) (x : lw_X) (H : Heap) : Prop := ll_dyn Gl x.2.2 x.1 H ∧ mm_dyn Gm x.2.1 H ∧ ll_tq Gl x.2.2 H ∧ lw_tm Gl Gm x.2.2
def lw_env (Gl Gm : jx_G) (b L : Nat) (xs : Nat → Int32) (A : Nat → Prop) (s : State) : Prop := jx_ex Gl A s ∧ jx_ex Gm A s ∧ va_X b L xs s s.heap ∧ b < s.heap.size ∧ ¬ A b
def lw_ok (Gl Gm : jx_G) (sz : Nat) : Prop := ll_ok Gl ∧ mm_ok Gm ∧ (∀ q, ll_rg Gl q → sz ≤ q ∧ ¬ mm_rg Gm q) ∧ ∀ q, mm_rg Gm q → sz ≤ q
theorem jx_zz_g {G : jx_G} {k n : Nat} {C nm : String} {f : Nat → Int32} {A B : Nat → Prop} {s U : State} {H : Heap} (h : jx_zz G k n C nm f A s) (hq : ∀ a : Nat, a < s.heap.size → ¬ A a → H[a]? = s.heap[a]?) (hU : U.heap = H) (hvm : s.vm.Alike U.vm) (hAB : ∀ q, B q → A q) : jx_zz G k n C nm f B U := by
  subst hU
  exact ⟨((va_Z.moved hvm h.1).kept (H1 := U.heap) hq).narrow hAB, ((va_T.moved hvm h.2).kept (H1 := U.heap) hq).narrow hAB⟩
theorem jx_ex_g {G : jx_G} {A B : Nat → Prop} {s U : State} {H : Heap} (h : jx_ex G A s) (hq : ∀ a : Nat, a < s.heap.size → ¬ A a → H[a]? = s.heap[a]?) (hU : U.heap = H) (hW : s.WarmedH U.vm) (hAB : ∀ q, B q → A q) : jx_ex G B U := by
  refine ⟨?_, jx_zz_g h.2.1 hq hU hW.alike hAB, jx_zz_g h.2.2.1 hq hU hW.alike hAB, jx_zz_g h.2.2.2.1 hq hU hW.alike hAB, je_nw_warm hW h.2.2.2.2.1, va_K.moved hW.alike h.2.2.2.2.2⟩
  subst hU
  obtain ⟨h1, h2, h3, r0, r1, r2, r3, r4, r5, r6, r7, r8⟩ := h.1
  exact ⟨((vk_S.moved hW.alike h1).kept (H1 := U.heap) hq).narrow hAB, ((va_Z.moved hW.alike h2).kept (H1 := U.heap) hq).narrow hAB, ((va_Z.moved hW.alike h3).kept (H1 := U.heap) hq).narrow hAB, vk_R.warm hW r0, vk_R.warm hW r1, vk_R.warm hW r2, vk_R.warm hW r3, vk_R.warm hW r4, vk_R.warm hW r5, vk_R.warm hW r6, vk_R.warm hW r7, vk_R.warm hW r8⟩
section LW
variable {l : Launch} {Gl Gm : jx_G} {b L : Nat} {xs : Nat → Int32} {sz : Nat} {own nm : String} {cc : ByteArray} {nL : Nat} {ret : Option FieldType} {R : Room} {Qf : List Frame → Array Value → State → State → Prop} {ce sl pc : Nat} {lv : List (Nat × Value)} {rest st : List Value} {σl σm : jx_M} {t : jx_T}
theorem lw_sld {i : Int32} {j : Nat} (hj : i = nI j) (hlt : j < L) (hL : L < 2 ^ 31) (d : decode cc pc = .ok (.iaload, 1)) (kk : jx_J l (lw_env Gl Gm b L xs) (lw_dyn Gl Gm) lw_no sz own nm cc nL ret R Qf ce sl (pc + 1) lv (.int (xs j) :: rest) (σl, σm, t)) : jx_J l (lw_env Gl Gm b L xs) (lw_dyn Gl Gm) lw_no sz own nm cc nL ret R Qf ce sl pc lv (.int i :: .ref b :: rest) (σl, σm, t) := by
  subst hj
  intro p e s m args below meth c C hr hk hn hs hE H locs ls hl hD hS
  refine va_sld C.1 C.2.1 hE.2.2.1 hE.2.2.2.1 hE.2.2.2.2 hS (vp_in_nI hlt hL) d ?_
  rw [nI_clamp (by omega)]
  exact kk p e s m args below meth c C hr hk hn hs hE H locs ls hl hD hS
theorem lw_slen (d : decode cc pc = .ok (.arraylength, 1)) (kk : jx_J l (lw_env Gl Gm b L xs) (lw_dyn Gl Gm) lw_no sz own nm cc nL ret R Qf ce sl (pc + 1) lv (.int (nI L) :: rest) (σl, σm, t)) : jx_J l (lw_env Gl Gm b L xs) (lw_dyn Gl Gm) lw_no sz own nm cc nL ret R Qf ce sl pc lv (.ref b :: rest) (σl, σm, t) := by
  intro p e s m args below meth c C hr hk hn hs hE H locs ls hl hD hS
  exact va_slen C.1 C.2.1 hE.2.2.1 hE.2.2.2.1 hE.2.2.2.2 hS d (kk p e s m args below meth c C hr hk hn hs hE H locs ls hl hD hS)
theorem lw_widen {ce2 sl2 : Nat} (h1 : ce ≤ ce2) (h2 : sl ≤ sl2) (kk : jx_J l (lw_env Gl Gm b L xs) (lw_dyn Gl Gm) lw_no sz own nm cc nL ret R Qf ce2 sl2 pc lv st (σl, σm, t)) : jx_J l (lw_env Gl Gm b L xs) (lw_dyn Gl Gm) lw_no sz own nm cc nL ret R Qf ce sl pc lv st (σl, σm, t) := by
  intro p e s m args below meth c C hr hk hn hs hE H locs ls hl hD hS
  exact W.widen h1 h2 (kk p e s m args below meth c C hr hk hn hs hE H locs ls hl hD hS)
theorem lw_cLi (hok : lw_ok Gl Gm sz) {t2 : jx_T} (htq : ∀ H, ll_tq Gl t H → ll_tq Gl t2 H) (htm : lw_tm Gl Gm t → lw_tm Gl Gm t2) {y : MethodName} {bytes : ByteArray} {maxL n index : Nat} {ret2 : Option FieldType} {rm : Room} (As : List Value) {σ1 : jx_M} {r : Int32} (hM : ∀ sz' : Nat, Met l y (Cond.code y bytes maxL ret2 :: jx_ws) rm (jx_Pc (ll_env Gl t) (ll_dyn Gl t) (ll_rg Gl) sz' σl (.ref (Gl.2 20) :: As)) (jx_Qi (ll_dyn Gl t2) σ1 r (jx_A (ll_rg Gl) sz')) 0 0 (jx_A (ll_rg Gl) sz')) (hkv : jx_kV own index RX5 y bytes maxL ret2 n) (hst : st = As.reverse ++ .ref (Gl.2 20) :: rest) (hn0 : As.length = n) (hcat : (rest.map fun v => v.category).sum ≤ 8) (hroom : jx_rm rm R maxL ce sl) (d : decode cc pc = .ok (.invokevirtual index, 3)) (k : jx_J l (lw_env Gl Gm b L xs) (lw_dyn Gl Gm) lw_no sz own nm cc nL ret R Qf ce sl (pc + 3) lv (.int r :: rest) (σ1, σm, t2)) : jx_J l (lw_env Gl Gm b L xs) (lw_dyn Gl Gm) lw_no sz own nm cc nL ret R Qf ce sl pc lv st (σl, σm, t) := by
  intro p e s m args below meth c C hr hk hn hs hE H locs ls hl hD hS
  subst hst
  have hA : ∀ q, jx_A (ll_rg Gl) H.size q → jx_A lw_no sz q := fun q h => h.elim (fun z => Or.inr (hok.2.2.1 q z).1) (fun z => Or.inr (Nat.le_trans (by rw [← hs]; exact hS.1) z))
  refine va_calli (va_runV (As := As) (rest := rest) C (hM H.size) (cwV n C.2.2.2.2 (jx_goodV hkv) rfl hroom.1.1 hroom.1.2 ⟨hkv.2.2.2.2.2.1, hkv.2.2.2.2.2.2⟩ hroom.2.1) ⟨fun a U g mk q => ⟨q.1, q.2.1, ll_jok.1 _ _ _ _ _ q.2.2.1, q.2.2.2⟩, va_recv (q := (RX5, TX5, 6)) (hE.1.2.2.2.2.2) hD.1 (ci := 5) (q0 := 0) rfl rfl, fun U hU hW => ⟨rfl, by rw [hU], ⟨va_K.sub (tys := je_tys Gl) (va_K.moved hW.alike hE.1.2.2.2.2.2) [0, 2] rfl, jx_ex_g hE.1 (fun a h1 h2 => hS.2.1 a h1 h2) hU hW hA, by rw [hU]; exact ⟨hD.2.2.1.1, fun k q hk z => z.elim (hD.2.2.1.2 k q hk) (fun z => absurd (hD.2.2.1.1 k q hk).lt (Nat.not_lt.mpr z))⟩⟩, by rw [hU]; exact hD.1⟩⟩ rfl hn0 hl.1 rfl (lv_room hcat) d ⟨hroom.2.2.1, hroom.2.2.2⟩) hS (fun q _ h => hA q h) hA (fun r1 u tt H1 locs1 ht hvm hw hB hz1 hk1 hS1 => ?_)
  have hw : r1 = r := hw
  subst hw
  have hB : ll_dyn Gl t2 σ1 tt.heap := hB
  have hkm : ∀ q : Nat, q < H.size → ¬ ll_rg Gl q → H1[q]? = H[q]? := fun q h1 h2 => hk1 q h1 (fun z => z.elim h2 (fun z => absurd h1 (Nat.not_lt.mpr z)))
  refine k p e s m args below meth c C hr hk hn hs hE H1 locs1 ls hl ⟨by rw [← ht]; exact hB, hD.2.1.kept (fun k q hq => hkm q.1 (hD.2.1 k q hq).lt (fun z => (hok.2.2.1 _ z).2 (mm_in hq))), htq H1 ⟨hD.2.2.1.1.kept (fun k q hq => hkm q.1 (hD.2.2.1.1 k q hq).lt (hD.2.2.1.2 k q hq)), hD.2.2.1.2⟩, htm hD.2.2.2⟩ hS1
theorem lw_cLl (hok : lw_ok Gl Gm sz) {t2 : jx_T} (htq : ∀ H, ll_tq Gl t H → ll_tq Gl t2 H) (htm : lw_tm Gl Gm t → lw_tm Gl Gm t2) {y : MethodName} {bytes : ByteArray} {maxL n index : Nat} {ret2 : Option FieldType} {rm : Room} (As : List Value) {σ1 : jx_M} {r : Int64} (hM : ∀ sz' : Nat, Met l y (Cond.code y bytes maxL ret2 :: jx_ws) rm (jx_Pc (ll_env Gl t) (ll_dyn Gl t) (ll_rg Gl) sz' σl (.ref (Gl.2 20) :: As)) (jx_Ql (ll_dyn Gl t2) σ1 r (jx_A (ll_rg Gl) sz')) 0 0 (jx_A (ll_rg Gl) sz')) (hkv : jx_kV own index RX5 y bytes maxL ret2 n) (hst : st = As.reverse ++ .ref (Gl.2 20) :: rest) (hn0 : As.length = n) (hcat : (rest.map fun v => v.category).sum ≤ 8) (hroom : jx_rm rm R maxL ce sl) (d : decode cc pc = .ok (.invokevirtual index, 3)) (k : jx_J l (lw_env Gl Gm b L xs) (lw_dyn Gl Gm) lw_no sz own nm cc nL ret R Qf ce sl (pc + 3) lv (.long r :: rest) (σ1, σm, t2)) : jx_J l (lw_env Gl Gm b L xs) (lw_dyn Gl Gm) lw_no sz own nm cc nL ret R Qf ce sl pc lv st (σl, σm, t) := by
  intro p e s m args below meth c C hr hk hn hs hE H locs ls hl hD hS
  subst hst
  have hA : ∀ q, jx_A (ll_rg Gl) H.size q → jx_A lw_no sz q := fun q h => h.elim (fun z => Or.inr (hok.2.2.1 q z).1) (fun z => Or.inr (Nat.le_trans (by rw [← hs]; exact hS.1) z))
  refine va_calll (va_runV (As := As) (rest := rest) C (hM H.size) (cwV n C.2.2.2.2 (jx_goodV hkv) rfl hroom.1.1 hroom.1.2 ⟨hkv.2.2.2.2.2.1, hkv.2.2.2.2.2.2⟩ hroom.2.1) ⟨fun a U g mk q => ⟨q.1, q.2.1, ll_jok.1 _ _ _ _ _ q.2.2.1, q.2.2.2⟩, va_recv (q := (RX5, TX5, 6)) (hE.1.2.2.2.2.2) hD.1 (ci := 5) (q0 := 0) rfl rfl, fun U hU hW => ⟨rfl, by rw [hU], ⟨va_K.sub (tys := je_tys Gl) (va_K.moved hW.alike hE.1.2.2.2.2.2) [0, 2] rfl, jx_ex_g hE.1 (fun a h1 h2 => hS.2.1 a h1 h2) hU hW hA, by rw [hU]; exact ⟨hD.2.2.1.1, fun k q hk z => z.elim (hD.2.2.1.2 k q hk) (fun z => absurd (hD.2.2.1.1 k q hk).lt (Nat.not_lt.mpr z))⟩⟩, by rw [hU]; exact hD.1⟩⟩ rfl hn0 hl.1 rfl (lv_room hcat) d ⟨hroom.2.2.1, hroom.2.2.2⟩) hS (fun q _ h => hA q h) hA (fun r1 u tt H1 locs1 ht hvm hw hB hz1 hk1 hS1 => ?_)
  have hw : r1 = r := hw
  subst hw
  have hB : ll_dyn Gl t2 σ1 tt.heap := hB
  have hkm : ∀ q : Nat, q < H.size → ¬ ll_rg Gl q → H1[q]? = H[q]? := fun q h1 h2 => hk1 q h1 (fun z => z.elim h2 (fun z => absurd h1 (Nat.not_lt.mpr z)))
  refine k p e s m args below meth c C hr hk hn hs hE H1 locs1 ls hl ⟨by rw [← ht]; exact hB, hD.2.1.kept (fun k q hq => hkm q.1 (hD.2.1 k q hq).lt (fun z => (hok.2.2.1 _ z).2 (mm_in hq))), htq H1 ⟨hD.2.2.1.1.kept (fun k q hq => hkm q.1 (hD.2.2.1.1 k q hq).lt (hD.2.2.1.2 k q hq)), hD.2.2.1.2⟩, htm hD.2.2.2⟩ hS1
theorem lw_cMi (hok : lw_ok Gl Gm sz) {y : MethodName} {bytes : ByteArray} {maxL n index : Nat} {ret2 : Option FieldType} {rm : Room} (As : List Value) {σ1 : jx_M} {r : Int32} (hM : ∀ sz' : Nat, Met l y (Cond.code y bytes maxL ret2 :: jx_ws) rm (jx_Pc (mm_env Gm) (mm_dyn Gm) (mm_rg Gm) sz' σm (.ref (Gm.2 10) :: As)) (jx_Qi (mm_dyn Gm) σ1 r (jx_A (mm_rg Gm) sz')) 0 0 (jx_A (mm_rg Gm) sz')) (hkv : jx_kV own index RX6 y bytes maxL ret2 n) (hst : st = As.reverse ++ .ref (Gm.2 10) :: rest) (hn0 : As.length = n) (hcat : (rest.map fun v => v.category).sum ≤ 8) (hroom : jx_rm rm R maxL ce sl) (d : decode cc pc = .ok (.invokevirtual index, 3)) (k : jx_J l (lw_env Gl Gm b L xs) (lw_dyn Gl Gm) lw_no sz own nm cc nL ret R Qf ce sl (pc + 3) lv (.int r :: rest) (σl, σ1, t)) : jx_J l (lw_env Gl Gm b L xs) (lw_dyn Gl Gm) lw_no sz own nm cc nL ret R Qf ce sl pc lv st (σl, σm, t) := by
  intro p e s m args below meth c C hr hk hn hs hE H locs ls hl hD hS
  subst hst
  have hA : ∀ q, jx_A (mm_rg Gm) H.size q → jx_A lw_no sz q := fun q h => h.elim (fun z => Or.inr (hok.2.2.2 q z)) (fun z => Or.inr (Nat.le_trans (by rw [← hs]; exact hS.1) z))
  refine va_calli (va_runV (As := As) (rest := rest) C (hM H.size) (cwV n C.2.2.2.2 (jx_goodV hkv) rfl hroom.1.1 hroom.1.2 ⟨hkv.2.2.2.2.2.1, hkv.2.2.2.2.2.2⟩ hroom.2.1) ⟨fun a U g mk q => ⟨q.1, q.2.1, mm_jok.1 _ _ _ _ _ q.2.2.1, q.2.2.2⟩, va_recv (q := (RX6, TX6, 26)) (hE.2.1.2.2.2.2.2) hD.2.1 (ci := 6) (q0 := 0) rfl rfl, fun U hU hW => ⟨rfl, by rw [hU], ⟨va_K.sub (tys := je_tys Gm) (va_K.moved hW.alike hE.2.1.2.2.2.2.2) [0, 1] rfl, jx_ex_g hE.2.1 (fun a h1 h2 => hS.2.1 a h1 h2) hU hW hA⟩, by rw [hU]; exact hD.2.1⟩⟩ rfl hn0 hl.1 rfl (lv_room hcat) d ⟨hroom.2.2.1, hroom.2.2.2⟩) hS (fun q _ h => hA q h) hA (fun r1 u tt H1 locs1 ht hvm hw hB hz1 hk1 hS1 => ?_)
  have hw : r1 = r := hw
  subst hw
  have hB : mm_dyn Gm σ1 tt.heap := hB
  have hkm : ∀ q : Nat, q < H.size → ¬ mm_rg Gm q → H1[q]? = H[q]? := fun q h1 h2 => hk1 q h1 (fun z => z.elim h2 (fun z => absurd h1 (Nat.not_lt.mpr z)))
  refine k p e s m args below meth c C hr hk hn hs hE H1 locs1 ls hl ⟨hD.1.kept (fun k q hq => hkm q.1 (hD.1 k q hq).lt (fun z => (hok.2.2.1 _ (ll_in hq)).2 z)), by rw [← ht]; exact hB, ⟨hD.2.2.1.1.kept (fun k q hq => hkm q.1 (hD.2.2.1.1 k q hq).lt (hD.2.2.2 k q hq)), hD.2.2.1.2⟩, hD.2.2.2⟩ hS1
theorem lw_cMl (hok : lw_ok Gl Gm sz) {y : MethodName} {bytes : ByteArray} {maxL n index : Nat} {ret2 : Option FieldType} {rm : Room} (As : List Value) {σ1 : jx_M} {r : Int64} (hM : ∀ sz' : Nat, Met l y (Cond.code y bytes maxL ret2 :: jx_ws) rm (jx_Pc (mm_env Gm) (mm_dyn Gm) (mm_rg Gm) sz' σm (.ref (Gm.2 10) :: As)) (jx_Ql (mm_dyn Gm) σ1 r (jx_A (mm_rg Gm) sz')) 0 0 (jx_A (mm_rg Gm) sz')) (hkv : jx_kV own index RX6 y bytes maxL ret2 n) (hst : st = As.reverse ++ .ref (Gm.2 10) :: rest) (hn0 : As.length = n) (hcat : (rest.map fun v => v.category).sum ≤ 8) (hroom : jx_rm rm R maxL ce sl) (d : decode cc pc = .ok (.invokevirtual index, 3)) (k : jx_J l (lw_env Gl Gm b L xs) (lw_dyn Gl Gm) lw_no sz own nm cc nL ret R Qf ce sl (pc + 3) lv (.long r :: rest) (σl, σ1, t)) : jx_J l (lw_env Gl Gm b L xs) (lw_dyn Gl Gm) lw_no sz own nm cc nL ret R Qf ce sl pc lv st (σl, σm, t) := by
  intro p e s m args below meth c C hr hk hn hs hE H locs ls hl hD hS
  subst hst
  have hA : ∀ q, jx_A (mm_rg Gm) H.size q → jx_A lw_no sz q := fun q h => h.elim (fun z => Or.inr (hok.2.2.2 q z)) (fun z => Or.inr (Nat.le_trans (by rw [← hs]; exact hS.1) z))
  refine va_calll (va_runV (As := As) (rest := rest) C (hM H.size) (cwV n C.2.2.2.2 (jx_goodV hkv) rfl hroom.1.1 hroom.1.2 ⟨hkv.2.2.2.2.2.1, hkv.2.2.2.2.2.2⟩ hroom.2.1) ⟨fun a U g mk q => ⟨q.1, q.2.1, mm_jok.1 _ _ _ _ _ q.2.2.1, q.2.2.2⟩, va_recv (q := (RX6, TX6, 26)) (hE.2.1.2.2.2.2.2) hD.2.1 (ci := 6) (q0 := 0) rfl rfl, fun U hU hW => ⟨rfl, by rw [hU], ⟨va_K.sub (tys := je_tys Gm) (va_K.moved hW.alike hE.2.1.2.2.2.2.2) [0, 1] rfl, jx_ex_g hE.2.1 (fun a h1 h2 => hS.2.1 a h1 h2) hU hW hA⟩, by rw [hU]; exact hD.2.1⟩⟩ rfl hn0 hl.1 rfl (lv_room hcat) d ⟨hroom.2.2.1, hroom.2.2.2⟩) hS (fun q _ h => hA q h) hA (fun r1 u tt H1 locs1 ht hvm hw hB hz1 hk1 hS1 => ?_)
  have hw : r1 = r := hw
  subst hw
  have hB : mm_dyn Gm σ1 tt.heap := hB
  have hkm : ∀ q : Nat, q < H.size → ¬ mm_rg Gm q → H1[q]? = H[q]? := fun q h1 h2 => hk1 q h1 (fun z => z.elim h2 (fun z => absurd h1 (Nat.not_lt.mpr z)))
  refine k p e s m args below meth c C hr hk hn hs hE H1 locs1 ls hl ⟨hD.1.kept (fun k q hq => hkm q.1 (hD.1 k q hq).lt (fun z => (hok.2.2.1 _ (ll_in hq)).2 z)), by rw [← ht]; exact hB, ⟨hD.2.2.1.1.kept (fun k q hq => hkm q.1 (hD.2.2.1.1 k q hq).lt (hD.2.2.2 k q hq)), hD.2.2.1.2⟩, hD.2.2.2⟩ hS1
theorem lw_cT (hok : lw_ok Gl Gm sz) {sh : jx_T → Prop} {y : MethodName} {bytes : ByteArray} {maxL n index : Nat} {ret2 : Option FieldType} {rm : Room} (As : List Value) {σ1 : jx_M} {r : Int32} (hM : ∀ sz' : Nat, Met l y (Cond.code y bytes maxL ret2 :: jx_ws) rm (jx_Pc (ll_env Gl t) (ll_dyn Gl t) (ll_rg Gl) sz' σl (.ref (Gl.2 20) :: As)) (lt_Q Gl t sz' r σ1 sh) 5 404 (jx_A (ll_rg Gl) sz')) (hkv : jx_kV own index RX5 y bytes maxL ret2 n) (hst : st = As.reverse ++ .ref (Gl.2 20) :: rest) (hn0 : As.length = n) (hcat : (rest.map fun v => v.category).sum ≤ 8) (hroom : (rm.cells = 5 ∧ rm.slots = 404) ∧ (rm.frames + 1 ≤ R.frames ∧ 8 + (maxL + 11) + rm.locals ≤ R.locals) ∧ ce + 5 ≤ R.cells ∧ sl + 404 ≤ R.slots) (d : decode cc pc = .ok (.invokevirtual index, 3)) (k : ∀ t2 : jx_T, sh t2 → jx_J l (lw_env Gl Gm b L xs) (lw_dyn Gl Gm) lw_no sz own nm cc nL ret R Qf (ce + 5) (sl + 404) (pc + 3) lv (.int r :: rest) (σ1, σm, t2)) : jx_J l (lw_env Gl Gm b L xs) (lw_dyn Gl Gm) lw_no sz own nm cc nL ret R Qf ce sl pc lv st (σl, σm, t) := by
  intro p e s m args below meth c C hr hk hn hs hE H locs ls hl hD hS
  subst hst
  have hA : ∀ q, jx_A (ll_rg Gl) H.size q → jx_A lw_no sz q := fun q h => h.elim (fun z => Or.inr (hok.2.2.1 q z).1) (fun z => Or.inr (Nat.le_trans (by rw [← hs]; exact hS.1) z))
  refine va_calli (va_runV (As := As) (rest := rest) C (hM H.size) (cwV n C.2.2.2.2 (jx_goodV hkv) rfl hroom.1.1 hroom.1.2 ⟨hkv.2.2.2.2.2.1, hkv.2.2.2.2.2.2⟩ hroom.2.1) ⟨fun a U g mk q => ⟨q.1, q.2.1, ll_jok.1 _ _ _ _ _ q.2.2.1, q.2.2.2⟩, va_recv (q := (RX5, TX5, 6)) (hE.1.2.2.2.2.2) hD.1 (ci := 5) (q0 := 0) rfl rfl, fun U hU hW => ⟨rfl, by rw [hU], ⟨va_K.sub (tys := je_tys Gl) (va_K.moved hW.alike hE.1.2.2.2.2.2) [0, 2] rfl, jx_ex_g hE.1 (fun a h1 h2 => hS.2.1 a h1 h2) hU hW hA, by rw [hU]; exact ⟨hD.2.2.1.1, fun k q hk z => z.elim (hD.2.2.1.2 k q hk) (fun z => absurd (hD.2.2.1.1 k q hk).lt (Nat.not_lt.mpr z))⟩⟩, by rw [hU]; exact hD.1⟩⟩ rfl hn0 hl.1 rfl (lv_room hcat) d ⟨hroom.2.2.1, hroom.2.2.2⟩) hS (fun q _ h => hA q h) hA (fun r1 u tt H1 locs1 ht hvm hw hB hz1 hk1 hS1 => ?_)
  have hw1 : r1 = r := hw.1
  subst hw1
  have hkm : ∀ q : Nat, q < H.size → ¬ ll_rg Gl q → H1[q]? = H[q]? := fun q h1 h2 => hk1 q h1 (fun z => z.elim h2 (fun z => absurd h1 (Nat.not_lt.mpr z)))
  rw [ht] at hB
  refine k u hw.2 p e s m args below meth c C hr hk hn hs hE H1 locs1 ls hl ⟨hB.1, hD.2.1.kept (fun k q hq => hkm q.1 (hD.2.1 k q hq).lt (fun z => (hok.2.2.1 _ z).2 (mm_in hq))), hB.2.1, fun k q hq z => ?_⟩ hS1
  rcases hB.2.2 k q hq with ⟨k', q', h1, h2⟩ | h1
  · exact hD.2.2.2 k' q' h1 (by rw [h2]; exact z)
  · obtain ⟨k3, e3, h3⟩ := z
    have h4 : ((mm_W Gm σm).map Prod.fst)[k3]? = some q.1 := by
      have e : (mm_W Gm σm).map Prod.fst = (mm_W Gm (fun _ _ => 0)).map Prod.fst := rfl
      rw [e, List.getElem?_map, h3]
      rfl
    rw [List.getElem?_map] at h4
    cases h5 : (mm_W Gm σm)[k3]? with
    | none => rw [h5] at h4; cases h4
    | some q2 =>
      rw [h5] at h4
      have h6 := (hD.2.1 k3 q2 h5).lt
      have h7 : q2.1 = q.1 := Option.some.inj h4
      rw [h7] at h6
      exact absurd h6 (Nat.not_lt.mpr h1)
end LW
