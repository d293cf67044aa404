/-! rows for the image -/
def jx_cp (σ : jx_M) (a b n : Nat) : jx_M := fun k => if k = b then va_cpy (σ a) (σ b) 0 0 n else σ k
theorem ll_setF {G : jx_G} {t : jx_T} {σ : jx_M} {k : Nat} {g : Nat → Int32} (h1 : 1 ≤ k) (h2 : k ≤ 65) : (ll_W G t σ).set (11 + k) (G.2 (100 + k), .inl (G.2 0, ll_len k, .inl g)) = ll_W G t (fun b => if b = k then g else σ b) := by
  have h0 : (fun b => if b = k then g else σ b : jx_M) 0 = σ 0 := if_neg (by omega)
  have e1 : ll_ob G t (fun b => if b = k then g else σ b) = ll_ob G t σ := by
    unfold ll_ob ll_Flamp ll_Fnow ll_Fimage ll_Fnight ll_Facts ll_Freader
    simp only [show ¬ (0 = k) from by omega, if_false]
  apply List.ext_getElem?
  intro n
  rw [List.getElem?_set]
  rcases Nat.lt_or_ge n 12 with hn | hn
  · rw [if_neg (by omega), ll_lo hn, ll_lo hn, e1]
  · obtain ⟨k2, rfl⟩ : ∃ k2, n = 11 + k2 := ⟨n - 11, by omega⟩
    rcases Nat.lt_or_ge 65 k2 with hk | hk
    · have hl : ∀ τ : jx_M, (ll_W G t τ)[11 + k2]? = none := fun τ => List.getElem?_eq_none (by
        have : (ll_W G t τ).length = 77 := by unfold ll_W ll_ar; rw [List.length_append, List.length_map, List.length_range]; rfl
        omega)
      rw [if_neg (by omega), hl, hl]
    · rw [ll_at (σ := fun b => if b = k then g else σ b) (by omega) hk]
      by_cases e : k = k2
      · subst e
        have hl : (ll_W G t σ).length = 77 := by unfold ll_W ll_ar; rw [List.length_append, List.length_map, List.length_range]; rfl
        rw [if_pos rfl, if_pos (by omega), if_pos rfl]
      · rw [if_neg (by omega), ll_at (by omega) hk, if_neg (fun q => e q.symm)]
section LE
variable {l : Launch} {G : jx_G} {t : jx_T} {sz : Nat} {own nm : String} {cc : ByteArray} {nL : Nat} {ret : Option FieldType} {R : Room} {Qf : List Frame → Array Value → State → State → Prop} {ce sl pc : Nat} {lv : List (Nat × Value)} {rest : List Value} {σ : jx_M}
theorem ll_acopy {a b index : Nat} {n : Int32} {σ2 : jx_M} (hG : ll_ok G) (hw : Cond.methodLink own index arraycopyName ∈ jx_ws) (ha1 : 1 ≤ a ∧ a ≤ 65) (hb1 : 1 ≤ b ∧ b ≤ 65) (hn0 : ¬ n < 0 ∧ n.toNatClampNeg ≤ ll_len a ∧ n.toNatClampNeg ≤ ll_len b) (ev : σ2 = jx_cp σ a b n.toNatClampNeg) (hf : 1 ≤ R.frames) (hlo : (rest.map fun v => v.category).sum + (nativeFrameWords "java/lang/System" "arraycopy" 5 + 11) ≤ R.locals) (d : decode cc pc = .ok (.invokestatic index, 3)) (kk : jx_J l (ll_env G t) (ll_dyn G t) (ll_rg G) sz own nm cc nL ret R Qf ce sl (pc + 3) lv rest σ2) : jx_J l (ll_env G t) (ll_dyn G t) (ll_rg G) sz own nm cc nL ret R Qf ce sl pc lv (.int n :: .int (0 : Int32) :: .ref (G.2 (100 + b)) :: .int (0 : Int32) :: .ref (G.2 (100 + a)) :: rest) σ := by
  subst ev
  intro p e s m args below meth c C hr hk hn hs hE H locs ls hl hD hS
  refine va_copyi C.1 C.2.1 (by rw [C.2.2.1]; exact hl.1.symm) C.2.2.2.1 (C.2.2.2.2 _ hw) (C.2.2.2.2 _ (jx_t3 (List.mem_of_getElem? (i := 2) rfl) rfl)) (C.2.2.2.2 _ (jx_t3 (List.mem_of_getElem? (i := 1) rfl) rfl)) (C.2.2.2.2 _ (jx_t1 (List.mem_of_getElem? (i := 15) rfl) rfl)) hE.1 hD (ll_D hG t σ sz) hS (11 + a) (11 + b) 0 0 (ll_at ha1.1 ha1.2) (ll_at hb1.1 hb1.2) (ty := .int) rfl rfl rfl (by decide) (by decide) hn0.1 (by rw [show (0 : Int32).toNatClampNeg = 0 from by decide, Nat.zero_add]; exact hn0.2.1) (by rw [show (0 : Int32).toNatClampNeg = 0 from by decide, Nat.zero_add]; exact hn0.2.2) (fun _ _ => rfl) hf hlo d (fun H1 locs1 hP1 _ hS1 => ?_)
  rw [show (0 : Int32).toNatClampNeg = 0 from by decide, ll_setF hb1.1 hb1.2] at hP1
  exact kk p e s m args below meth c C hr hk hn hs hE H1 locs1 ls hl hP1 hS1
theorem ll_n_now_place (d : decode cc pc = .ok (.arraylength, 1)) (kk : jx_J l (ll_env G t) (ll_dyn G t) (ll_rg G) sz own nm cc nL ret R Qf ce sl (pc + 1) lv (.int (7 : Int32) :: rest) σ) : jx_J l (ll_env G t) (ll_dyn G t) (ll_rg G) sz own nm cc nL ret R Qf ce sl pc lv (.ref (G.2 301) :: rest) σ := by
  intro p e s m args below meth c C hr hk hn hs hE H locs ls hl hD hS
  exact va_alen C.1 C.2.1 hE.1 hD 6 1 rfl (ty := .array .int) rfl (show Int32.ofNat 7 = 7 by decide) d (kk p e s m args below meth c C hr hk hn hs hE H locs ls hl hD hS)
theorem ll_n_now_voter (d : decode cc pc = .ok (.arraylength, 1)) (kk : jx_J l (ll_env G t) (ll_dyn G t) (ll_rg G) sz own nm cc nL ret R Qf ce sl (pc + 1) lv (.int (6 : Int32) :: rest) σ) : jx_J l (ll_env G t) (ll_dyn G t) (ll_rg G) sz own nm cc nL ret R Qf ce sl pc lv (.ref (G.2 302) :: rest) σ := by
  intro p e s m args below meth c C hr hk hn hs hE H locs ls hl hD hS
  exact va_alen C.1 C.2.1 hE.1 hD 7 1 rfl (ty := .array .int) rfl (show Int32.ofNat 6 = 6 by decide) d (kk p e s m args below meth c C hr hk hn hs hE H locs ls hl hD hS)
theorem ll_n_image_place (d : decode cc pc = .ok (.arraylength, 1)) (kk : jx_J l (ll_env G t) (ll_dyn G t) (ll_rg G) sz own nm cc nL ret R Qf ce sl (pc + 1) lv (.int (7 : Int32) :: rest) σ) : jx_J l (ll_env G t) (ll_dyn G t) (ll_rg G) sz own nm cc nL ret R Qf ce sl pc lv (.ref (G.2 303) :: rest) σ := by
  intro p e s m args below meth c C hr hk hn hs hE H locs ls hl hD hS
  exact va_alen C.1 C.2.1 hE.1 hD 8 1 rfl (ty := .array .int) rfl (show Int32.ofNat 7 = 7 by decide) d (kk p e s m args below meth c C hr hk hn hs hE H locs ls hl hD hS)
theorem ll_n_image_voter (d : decode cc pc = .ok (.arraylength, 1)) (kk : jx_J l (ll_env G t) (ll_dyn G t) (ll_rg G) sz own nm cc nL ret R Qf ce sl (pc + 1) lv (.int (6 : Int32) :: rest) σ) : jx_J l (ll_env G t) (ll_dyn G t) (ll_rg G) sz own nm cc nL ret R Qf ce sl pc lv (.ref (G.2 304) :: rest) σ := by
  intro p e s m args below meth c C hr hk hn hs hE H locs ls hl hD hS
  exact va_alen C.1 C.2.1 hE.1 hD 9 1 rfl (ty := .array .int) rfl (show Int32.ofNat 6 = 6 by decide) d (kk p e s m args below meth c C hr hk hn hs hE H locs ls hl hD hS)
theorem ll_n_night_goal (d : decode cc pc = .ok (.arraylength, 1)) (kk : jx_J l (ll_env G t) (ll_dyn G t) (ll_rg G) sz own nm cc nL ret R Qf ce sl (pc + 1) lv (.int (12 : Int32) :: rest) σ) : jx_J l (ll_env G t) (ll_dyn G t) (ll_rg G) sz own nm cc nL ret R Qf ce sl pc lv (.ref (G.2 305) :: rest) σ := by
  intro p e s m args below meth c C hr hk hn hs hE H locs ls hl hD hS
  exact va_alen C.1 C.2.1 hE.1 hD 10 1 rfl (ty := .array .int) rfl (show Int32.ofNat 12 = 12 by decide) d (kk p e s m args below meth c C hr hk hn hs hE H locs ls hl hD hS)
theorem ll_n_night_filled (d : decode cc pc = .ok (.arraylength, 1)) (kk : jx_J l (ll_env G t) (ll_dyn G t) (ll_rg G) sz own nm cc nL ret R Qf ce sl (pc + 1) lv (.int (3 : Int32) :: rest) σ) : jx_J l (ll_env G t) (ll_dyn G t) (ll_rg G) sz own nm cc nL ret R Qf ce sl pc lv (.ref (G.2 306) :: rest) σ := by
  intro p e s m args below meth c C hr hk hn hs hE H locs ls hl hD hS
  exact va_alen C.1 C.2.1 hE.1 hD 11 1 rfl (ty := .array .int) rfl (show Int32.ofNat 3 = 3 by decide) d (kk p e s m args below meth c C hr hk hn hs hE H locs ls hl hD hS)
theorem ll_pimage_places {index : Nat} {v : Int32} {σ2 : jx_M} (hG : ll_ok G) (hw : Cond.fieldLink own index "LampVote$Canal" "places" "I" ∈ jx_ws) (ev : σ2 = jx_mu σ 0 10 v) (d : decode cc pc = .ok (.putfield index, 3)) (kk : jx_J l (ll_env G t) (ll_dyn G t) (ll_rg G) sz own nm cc nL ret R Qf ce sl (pc + 3) lv rest σ2) : jx_J l (ll_env G t) (ll_dyn G t) (ll_rg G) sz own nm cc nL ret R Qf ce sl pc lv (.int v :: .ref (G.2 22) :: rest) σ := ll_putimage (k := 0) (ty := .int) hG (by decide) hw rfl (by decide +kernel) rfl rfl (by subst ev; rfl) d kk
theorem ll_pimage_minute {index : Nat} {v : Int32} {σ2 : jx_M} (hG : ll_ok G) (hw : Cond.fieldLink own index "LampVote$Canal" "minute" "I" ∈ jx_ws) (ev : σ2 = jx_mu σ 0 11 v) (d : decode cc pc = .ok (.putfield index, 3)) (kk : jx_J l (ll_env G t) (ll_dyn G t) (ll_rg G) sz own nm cc nL ret R Qf ce sl (pc + 3) lv rest σ2) : jx_J l (ll_env G t) (ll_dyn G t) (ll_rg G) sz own nm cc nL ret R Qf ce sl pc lv (.int v :: .ref (G.2 22) :: rest) σ := ll_putimage (k := 2) (ty := .int) hG (by decide) hw rfl (by decide +kernel) rfl rfl (by subst ev; rfl) d kk
theorem ll_pimage_voters {index : Nat} {v : Int32} {σ2 : jx_M} (hG : ll_ok G) (hw : Cond.fieldLink own index "LampVote$Canal" "voters" "I" ∈ jx_ws) (ev : σ2 = jx_mu σ 0 12 v) (d : decode cc pc = .ok (.putfield index, 3)) (kk : jx_J l (ll_env G t) (ll_dyn G t) (ll_rg G) sz own nm cc nL ret R Qf ce sl (pc + 3) lv rest σ2) : jx_J l (ll_env G t) (ll_dyn G t) (ll_rg G) sz own nm cc nL ret R Qf ce sl pc lv (.int v :: .ref (G.2 22) :: rest) σ := ll_putimage (k := 3) (ty := .int) hG (by decide) hw rfl (by decide +kernel) rfl rfl (by subst ev; rfl) d kk
theorem ll_pimage_signs {index : Nat} {v : Int32} {σ2 : jx_M} (hG : ll_ok G) (hw : Cond.fieldLink own index "LampVote$Canal" "signs" "I" ∈ jx_ws) (ev : σ2 = jx_mu σ 0 13 v) (d : decode cc pc = .ok (.putfield index, 3)) (kk : jx_J l (ll_env G t) (ll_dyn G t) (ll_rg G) sz own nm cc nL ret R Qf ce sl (pc + 3) lv rest σ2) : jx_J l (ll_env G t) (ll_dyn G t) (ll_rg G) sz own nm cc nL ret R Qf ce sl pc lv (.int v :: .ref (G.2 22) :: rest) σ := ll_putimage (k := 5) (ty := .int) hG (by decide) hw rfl (by decide +kernel) rfl rfl (by subst ev; rfl) d kk
theorem ll_pimage_tides {index : Nat} {v : Int32} {σ2 : jx_M} (hG : ll_ok G) (hw : Cond.fieldLink own index "LampVote$Canal" "tides" "I" ∈ jx_ws) (ev : σ2 = jx_mu σ 0 14 v) (d : decode cc pc = .ok (.putfield index, 3)) (kk : jx_J l (ll_env G t) (ll_dyn G t) (ll_rg G) sz own nm cc nL ret R Qf ce sl (pc + 3) lv rest σ2) : jx_J l (ll_env G t) (ll_dyn G t) (ll_rg G) sz own nm cc nL ret R Qf ce sl pc lv (.int v :: .ref (G.2 22) :: rest) σ := ll_putimage (k := 7) (ty := .int) hG (by decide) hw rfl (by decide +kernel) rfl rfl (by subst ev; rfl) d kk
theorem ll_pimage_seen {index : Nat} {v : Int32} {σ2 : jx_M} (hG : ll_ok G) (hw : Cond.fieldLink own index "LampVote$Canal" "seen" "I" ∈ jx_ws) (ev : σ2 = jx_mu σ 0 15 v) (d : decode cc pc = .ok (.putfield index, 3)) (kk : jx_J l (ll_env G t) (ll_dyn G t) (ll_rg G) sz own nm cc nL ret R Qf ce sl (pc + 3) lv rest σ2) : jx_J l (ll_env G t) (ll_dyn G t) (ll_rg G) sz own nm cc nL ret R Qf ce sl pc lv (.int v :: .ref (G.2 22) :: rest) σ := ll_putimage (k := 9) (ty := .int) hG (by decide) hw rfl (by decide +kernel) rfl rfl (by subst ev; rfl) d kk
theorem ll_pimage_tales {index : Nat} {v : Int32} {σ2 : jx_M} (hG : ll_ok G) (hw : Cond.fieldLink own index "LampVote$Canal" "tales" "I" ∈ jx_ws) (ev : σ2 = jx_mu σ 0 16 v) (d : decode cc pc = .ok (.putfield index, 3)) (kk : jx_J l (ll_env G t) (ll_dyn G t) (ll_rg G) sz own nm cc nL ret R Qf ce sl (pc + 3) lv rest σ2) : jx_J l (ll_env G t) (ll_dyn G t) (ll_rg G) sz own nm cc nL ret R Qf ce sl pc lv (.int v :: .ref (G.2 22) :: rest) σ := ll_putimage (k := 12) (ty := .int) hG (by decide) hw rfl (by decide +kernel) rfl rfl (by subst ev; rfl) d kk
def ll_tI (t : jx_T) : jx_T := (fun k => t.1 (k % 10), fun k => t.2.1 (k % 10), fun k => t.2.2 (k % 10))
def ll_tN (t : jx_T) : jx_T := (fun k => t.1 (10 + k % 10), fun k => t.2.1 (10 + k % 10), fun k => t.2.2 (10 + k % 10))
theorem ll_eI {G : jx_G} {t : jx_T} {A : Nat → Prop} {s : State} (h : ll_env G t A s) : ll_env G (ll_tI t) A s := by
  refine ⟨h.1, h.2.1, ?_, ?_⟩
  · have h1 : va_P G.1 vwCl (ll_tw G t 0) s.heap := fun k q hk => h.2.2.1 k q (by rw [List.getElem?_append_left (List.getElem?_eq_some_iff.mp hk).1]; exact hk)
    exact va_P.app h1 h1
  · intro k q hk
    rcases List.mem_append.mp (List.mem_of_getElem? hk) with z | z
    all_goals
      obtain ⟨i, hi⟩ := List.getElem?_of_mem z
      have hi2 : (ll_tw G t 0)[i]? = some q := hi
      exact h.2.2.2 i q (by rw [List.getElem?_append_left (List.getElem?_eq_some_iff.mp hi2).1]; exact hi2)
theorem ll_eN {G : jx_G} {t : jx_T} {A : Nat → Prop} {s : State} (h : ll_env G t A s) : ll_env G (ll_tN t) A s := by
  have hx : ∀ (i : Nat) (q : Nat × va_E), (ll_tw G t 10)[i]? = some q → (ll_tw G t 0 ++ ll_tw G t 10)[5 + i]? = some q := fun i q hi => by
    rw [List.getElem?_append_right (by show 5 ≤ 5 + i; omega), show 5 + i - (ll_tw G t 0).length = i from by show 5 + i - 5 = i; omega]
    exact hi
  refine ⟨h.1, h.2.1, ?_, ?_⟩
  · have h1 : va_P G.1 vwCl (ll_tw G t 10) s.heap := fun k q hk => h.2.2.1 _ q (hx k q hk)
    exact va_P.app h1 h1
  · intro k q hk
    rcases List.mem_append.mp (List.mem_of_getElem? hk) with z | z
    all_goals
      obtain ⟨i, hi⟩ := List.getElem?_of_mem z
      exact h.2.2.2 _ q (hx i q hi)
theorem ll_nwI {index : Nat} (hG : ll_ok G) (hw : Cond.fieldLink own index "LampVote$Canal" "newest" "LLampVote$Tide;" ∈ jx_ws) (d : decode cc pc = .ok (.putfield index, 3)) (kk : jx_J l (ll_env G (ll_tI t)) (ll_dyn G (ll_tI t)) (ll_rg G) sz own nm cc nL ret R Qf ce sl (pc + 3) lv rest σ) : jx_J l (ll_env G t) (ll_dyn G t) (ll_rg G) sz own nm cc nL ret R Qf ce sl pc lv (.ref (t.1 0) :: .ref (G.2 22) :: rest) σ := by
  intro p e s m args below meth c C hr hk hn hs hE H locs ls hl hD hS
  refine va_put (D := G.1) (ci := 1) (C := RX1) (T := TX1) (N := 17) C.1 C.2.1 C.2.2.2.2 il_X1 tyX1 tyX1_ok nmX1 C.2.2.2.1 hE.1 hD (ll_D hG t σ sz) hS 2 rfl rfl 8 (by decide) (C.2.2.2.2 _ hw) (fun _ h => h) rfl (ty := .object "LampVote$Tide") (by decide +kernel) rfl rfl (show 8 < 17 by decide) d (fun H1 locs1 hP1 _ hS1 => ?_)
  exact kk p e s m args below meth c C hr hk hn hs (ll_eI hE) H1 locs1 ls hl hP1 hS1
theorem ll_nwN {index : Nat} (hG : ll_ok G) (hw : Cond.fieldLink own index "LampVote$Canal" "newest" "LLampVote$Tide;" ∈ jx_ws) (d : decode cc pc = .ok (.putfield index, 3)) (kk : jx_J l (ll_env G (ll_tN t)) (ll_dyn G (ll_tN t)) (ll_rg G) sz own nm cc nL ret R Qf ce sl (pc + 3) lv rest σ) : jx_J l (ll_env G t) (ll_dyn G t) (ll_rg G) sz own nm cc nL ret R Qf ce sl pc lv (.ref (t.1 10) :: .ref (G.2 21) :: rest) σ := by
  intro p e s m args below meth c C hr hk hn hs hE H locs ls hl hD hS
  refine va_put (D := G.1) (ci := 1) (C := RX1) (T := TX1) (N := 17) C.1 C.2.1 C.2.2.2.2 il_X1 tyX1 tyX1_ok nmX1 C.2.2.2.1 hE.1 hD (ll_D hG t σ sz) hS 1 rfl rfl 8 (by decide) (C.2.2.2.2 _ hw) (fun _ h => h) rfl (ty := .object "LampVote$Tide") (by decide +kernel) rfl rfl (show 8 < 17 by decide) d (fun H1 locs1 hP1 _ hS1 => ?_)
  exact kk p e s m args below meth c C hr hk hn hs (ll_eN hE) H1 locs1 ls hl hP1 hS1
end LE
section JX
variable {l : Launch} {X : Type} {env : (Nat → Prop) → State → Prop} {dyn : X → Heap → Prop} {rg : Nat → Prop} {sz : Nat} {own nm : String} {cc : ByteArray} {nL : Nat} {ret : Option FieldType} {R : Room} {Qf : List Frame → Array Value → State → State → Prop} {ce sl pc : Nat} {lv lv' : List (Nat × Value)} {st rest : List Value} {x : X}
theorem jx_callVw {env2 : (Nat → Prop) → State → Prop} {dyn2 : X → Heap → Prop} (hen : ∀ A s, env A s → env2 A s) {Cn : String} {y : MethodName} {bytes : ByteArray} {maxL n index : Nat} {ret2 : Option FieldType} {rm : Room} {b : Nat} (As : List Value) {x1 : X} (hM : ∀ sz' : Nat, Met l y (Cond.code y bytes maxL ret2 :: jx_ws) rm (jx_Pc env dyn rg sz' x (Value.ref b :: As)) (jx_Qv dyn2 x1 (jx_A rg sz')) 0 0 (jx_A rg sz')) (hkv : jx_kV own index Cn y bytes maxL ret2 n) (hok : jx_ok rg env) (hrc : jx_rc env dyn rg b Cn) (hst : st = As.reverse ++ .ref b :: rest) (hn0 : As.length = n) (hcat : (rest.map fun v => v.category).sum ≤ 8) (hroom : jx_rm rm R maxL ce sl) (d : decode cc pc = .ok (.invokevirtual index, 3)) (k : jx_J l env2 dyn2 rg sz own nm cc nL ret R Qf ce sl (pc + 3) lv (rest) x1) : jx_J l env dyn rg sz own nm cc nL ret R Qf ce sl pc lv st x := by
  intro p e s m args below meth c C hr hk hn hs hE H locs ls hl hD hS
  subst hst
  have hA : ∀ q, jx_A rg H.size q → jx_A rg sz q := fun q h => h.elim Or.inl (fun h => Or.inr (Nat.le_trans (by rw [← hs]; exact hS.1) h))
  refine va_callv (va_runV (As := As) (rest := rest) C (hM H.size) (cwV n C.2.2.2.2 (jx_goodV hkv) rfl hroom.1.1 hroom.1.2 ⟨hkv.2.2.2.2.2.1, hkv.2.2.2.2.2.2⟩ hroom.2.1) ⟨fun a U g mk q => ⟨q.1, q.2.1, hok.1 _ _ _ _ _ q.2.2.1, q.2.2.2⟩, hrc _ _ _ _ _ hE hD hS, fun U hU hW => ⟨rfl, by rw [hU], hok.2 sz s U H locs hs hE hS hU hW, by rw [hU]; exact hD⟩⟩ rfl hn0 hl.1 rfl (lv_room hcat) d ⟨hroom.2.2.1, hroom.2.2.2⟩) hS (fun q _ h => hA q h) hA (fun u t H1 locs1 ht hvm hw hB hz1 hk1 hS1 => ?_)
  have hB : dyn2 x1 t.heap := hB
  exact k p e s m args below meth c C hr hk hn hs (hen _ _ hE) H1 locs1 ls hl (by rw [← ht]; exact hB) hS1
end JX
