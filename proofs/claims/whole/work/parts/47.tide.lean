/-! tide() of the class -/
def ly_dyn (G : jx_G) (sz : Nat) (t : jx_T) (w : va_W) (σ : jx_M) (H : Heap) : Prop := va_P G.1 vwCl (ll_W G t σ ++ w) H ∧ va_D (jx_A (ll_rg G) sz) (ll_W G t σ ++ w)
/-- the tide that holds is a new one -/
def ll_tS (t : jx_T) (σ : jx_M) (n : Nat → Nat) : jx_T := (fun k => if k < 5 then n k else t.1 k, fun k => if k < 5 then (if k = 4 then (σ 0 31).toNatClampNeg else (σ 0 30).toNatClampNeg) else t.2.1 k, fun k => if k < 5 then (if k = 4 then zc_cut 100 (σ 64) (σ 0 31) else zc_cut 10 (σ (60 + k)) (σ 0 30)) else t.2.2 k)
/-- both tides stand in the heap, beside the class's own cells -/
def ll_tq (G : jx_G) (t : jx_T) (H : Heap) : Prop := va_P G.1 vwCl (ll_tw G t 0 ++ ll_tw G t 10) H ∧ ∀ (k : Nat) (q : Nat × va_E), (ll_tw G t 0 ++ ll_tw G t 10)[k]? = some q → ¬ ll_rg G q.1
/-- a tide's cell of u is one of t's, or new -/
def ll_tn (G : jx_G) (t : jx_T) (sz : Nat) (u : jx_T) : Prop := ∀ (k : Nat) (q : Nat × va_E), (ll_tw G u 0 ++ ll_tw G u 10)[k]? = some q → (∃ (k' : Nat) (q' : Nat × va_E), (ll_tw G t 0 ++ ll_tw G t 10)[k']? = some q' ∧ q'.1 = q.1) ∨ sz ≤ q.1
def lt_Q (G : jx_G) (t : jx_T) (sz : Nat) (r : Int32) (σ : jx_M) (sh : jx_T → Prop) : Array Value → State → Outcome → State → Prop := va_Qi (fun (v : Int32) (u : jx_T) => v = r ∧ sh u) (fun u tt => ll_dyn G u σ tt.heap ∧ ll_tq G u tt.heap ∧ ll_tn G t sz u) (jx_A (ll_rg G) sz)
theorem ll_tqE {G : jx_G} {t : jx_T} {sz : Nat} {s : State} {H : Heap} {locs : List Loc} (hE : ll_env G t (jx_A (ll_rg G) sz) s) (hS : va_S (jx_A (ll_rg G) sz) s.heap H locs) : ll_tq G t H := ⟨ll_tP hE hS, fun k q hk z => hE.2.2.2 k q hk (Or.inl z)⟩
section LY
variable {l : Launch} {G : jx_G} {t t2 : jx_T} {σ : jx_M} {x : va_W} {sz : Nat} {own nm : String} {cc : ByteArray} {nL : Nat} {ret : Option FieldType} {R : Room} {Qf : List Frame → Array Value → State → State → Prop} {ce sl pc : Nat} {lv : List (Nat × Value)} {rest st : List Value}
theorem lt_written {index : Nat} (hG : ll_ok G) (h30 : ¬ σ 0 30 < 0 ∧ (σ 0 30).toNatClampNeg ≤ 100) (h31 : ¬ σ 0 31 < 0 ∧ (σ 0 31).toNatClampNeg ≤ 100) (hkv : jx_kV own index RX3 yX3_written cX3_written 1 (some (.object "LampVote$Tide")) 0) (hcat : (rest.map fun v => v.category).sum ≤ 8) (hro : rm_X3_written.frames + 1 ≤ R.frames ∧ 8 + (1 + 11) + rm_X3_written.locals ≤ R.locals) (hce : ce + 5 ≤ R.cells) (hsl : sl + 404 ≤ R.slots) (d : decode cc pc = .ok (.invokevirtual index, 3)) (kk : ∀ a b1 b2 b3 b4 : Nat, jx_J l (ll_env G t) (ly_dyn G sz t (lx_new4 G σ a b1 b2 b3 b4)) (ll_rg G) sz own nm cc nL ret R Qf (ce + 5) (sl + 404) (pc + 3) lv (.ref a :: rest) σ) : jx_J l (ll_env G t) (ll_dyn G t) (ll_rg G) sz own nm cc nL ret R Qf ce sl pc lv (.ref (G.2 25) :: rest) σ := by
  intro p e s m args below meth c C hr hk hn hs hE H locs ls hl hD hS
  have hA : ∀ q, jx_A (ll_rg G) H.size q → jx_A (ll_rg G) sz q := jx_sub2 (by rw [← hs]; exact hS.1)
  refine va_callr (va_runV (As := []) (rest := rest) C (k_X3_written l G t H.size σ h30 h31) (cwV 0 C.2.2.2.2 (jx_goodV hkv) rfl rfl rfl ⟨hkv.2.2.2.2.2.1, hkv.2.2.2.2.2.2⟩ hro) ⟨fun a U g mk q => ⟨q.1, q.2.1, ll_jok.1 _ _ _ _ _ q.2.2.1, q.2.2.2⟩, ll_rcreader _ _ _ _ _ hE hD hS, fun U hU hW => ⟨rfl, by rw [hU], ll_jok.2 sz s U H locs hs hE hS hU hW, by rw [hU]; exact ⟨(by rw [List.append_nil]; exact hD), (by rw [List.append_nil]; exact ll_D hG t σ H.size)⟩⟩⟩ rfl rfl hl.1 rfl (lv_room hcat) d ⟨hce, hsl⟩) hS (fun q _ h => hA q h) hA (fun u a tt H1 locs1 ht hvm hw hB hz1 hk1 hS1 => ?_)
  obtain ⟨⟨b1, b2, b3, b4, hu⟩, hB2⟩ := hB
  subst hu
  rw [ht] at hB2
  exact kk a b1 b2 b3 b4 p e s m args below meth c C hr hk hn hs hE H1 locs1 ls hl ⟨hB2.1, hB2.2.weaken (fun _ _ _ h => hA _ h)⟩ hS1
theorem ly_getlamp {index k : Nat} {v : Value} (hk0 : k < 6) (hw : Cond.fieldLink own index (TX5 k).1 (TX5 k).2.1 (TX5 k).2.2.1 ∈ jx_ws) (hv : (ll_Flamp G t2 σ)[k]? = some v) (d : decode cc pc = .ok (.getfield index, 3)) (kk : jx_J l (ll_env G t) (ly_dyn G sz t2 x) (ll_rg G) sz own nm cc nL ret R Qf ce sl (pc + 3) lv (v :: rest) σ) : jx_J l (ll_env G t) (ly_dyn G sz t2 x) (ll_rg G) sz own nm cc nL ret R Qf ce sl pc lv (.ref (G.2 20) :: rest) σ := by
  intro p e s m args below meth c C hr hk hn hs hE H locs ls hl hD hS
  exact va_get (C := RX5) (T := TX5) (N := 6) (ci := 5) (fs := ll_Flamp G t2 σ) C.1 C.2.1 C.2.2.2.2 il_X5 C.2.2.2.1 hE.1 hD.1 0 rfl rfl k hk0 (C.2.2.2.2 _ hw) (fun _ h => h) hv d (kk p e s m args below meth c C hr hk hn hs hE H locs ls hl hD hS)
theorem ly_getnow {index k : Nat} {v : Value} (hk0 : k < 17) (hw : Cond.fieldLink own index (TX1 k).1 (TX1 k).2.1 (TX1 k).2.2.1 ∈ jx_ws) (hv : (ll_Fnow G t2 σ)[k]? = some v) (d : decode cc pc = .ok (.getfield index, 3)) (kk : jx_J l (ll_env G t) (ly_dyn G sz t2 x) (ll_rg G) sz own nm cc nL ret R Qf ce sl (pc + 3) lv (v :: rest) σ) : jx_J l (ll_env G t) (ly_dyn G sz t2 x) (ll_rg G) sz own nm cc nL ret R Qf ce sl pc lv (.ref (G.2 21) :: rest) σ := by
  intro p e s m args below meth c C hr hk hn hs hE H locs ls hl hD hS
  exact va_get (C := RX1) (T := TX1) (N := 17) (ci := 1) (fs := ll_Fnow G t2 σ) C.1 C.2.1 C.2.2.2.2 il_X1 C.2.2.2.1 hE.1 hD.1 1 rfl rfl k hk0 (C.2.2.2.2 _ hw) (fun _ h => h) hv d (kk p e s m args below meth c C hr hk hn hs hE H locs ls hl hD hS)
theorem ly_puttides {index : Nat} {v : Int32} (hw : Cond.fieldLink own index "LampVote$Canal" "tides" "I" ∈ jx_ws) (d : decode cc pc = .ok (.putfield index, 3)) (kk : jx_J l (ll_env G t) (ly_dyn G sz t2 x) (ll_rg G) sz own nm cc nL ret R Qf ce sl (pc + 3) lv rest (jx_mu σ 0 4 v)) : jx_J l (ll_env G t) (ly_dyn G sz t2 x) (ll_rg G) sz own nm cc nL ret R Qf ce sl pc lv (.int v :: .ref (G.2 21) :: rest) σ := by
  intro p e s m args below meth c C hr hk hn hs hE H locs ls hl hD hS
  refine va_put (C := RX1) (T := TX1) (N := 17) (ci := 1) (fs := ll_Fnow G t2 σ) C.1 C.2.1 C.2.2.2.2 il_X1 tyX1 tyX1_ok nmX1 C.2.2.2.1 hE.1 hD.1 hD.2 hS 1 rfl rfl 7 (by decide) (C.2.2.2.2 _ hw) (fun _ h => h) rfl (ty := .int) (by decide +kernel) rfl rfl (show 7 < 17 by decide) d (fun H1 locs1 hP1 hD1 hS1 => ?_)
  exact kk p e s m args below meth c C hr hk hn hs hE H1 locs1 ls hl ⟨hP1, hD1⟩ hS1
theorem ly_putnewest {index : Nat} (n : Nat → Nat) (hw : Cond.fieldLink own index "LampVote$Canal" "newest" "LLampVote$Tide;" ∈ jx_ws) (d : decode cc pc = .ok (.putfield index, 3)) (kk : jx_J l (ll_env G t) (ly_dyn G sz (ll_tS t σ n) x) (ll_rg G) sz own nm cc nL ret R Qf ce sl (pc + 3) lv rest σ) : jx_J l (ll_env G t) (ly_dyn G sz t x) (ll_rg G) sz own nm cc nL ret R Qf ce sl pc lv (.ref (n 0) :: .ref (G.2 21) :: rest) σ := by
  intro p e s m args below meth c C hr hk hn hs hE H locs ls hl hD hS
  refine va_put (C := RX1) (T := TX1) (N := 17) (ci := 1) (fs := ll_Fnow G t σ) C.1 C.2.1 C.2.2.2.2 il_X1 tyX1 tyX1_ok nmX1 C.2.2.2.1 hE.1 hD.1 hD.2 hS 1 rfl rfl 8 (by decide) (C.2.2.2.2 _ hw) (fun _ h => h) rfl (ty := .object "LampVote$Tide") (by decide +kernel) rfl rfl (show 8 < 17 by decide) d (fun H1 locs1 hP1 hD1 hS1 => ?_)
  exact kk p e s m args below meth c C hr hk hn hs hE H1 locs1 ls hl ⟨hP1, hD1⟩ hS1
theorem lt_iret {r : Int32} {sh : jx_T → Prop} (hsh : sh t) (d : decode cc pc = .ok (.ireturn, 1)) (hce : ce ≤ 5) (hsl : sl ≤ 404) : jx_J l (ll_env G t) (ll_dyn G t) (ll_rg G) sz own nm cc nL (some .int) R (fun below args s => MQ below (lt_Q G t sz r σ sh) args s 5 404 (jx_A (ll_rg G) sz)) ce sl pc lv [.int r] σ := by
  intro p e s m args below meth c C hr hk hn hs hE H locs ls hl hD hS
  refine W.widen hce hsl ?_
  exact W.iret C.1 C.2.1 hr (fun tt ht hW => ⟨⟨r, t, rfl, ⟨rfl, hsh⟩, (show ll_dyn G t σ tt.heap ∧ ll_tq G t tt.heap ∧ ll_tn G t sz t by rw [ht]; exact ⟨hD, ll_tqE hE hS, fun k q hk => Or.inl ⟨k, q, hk, rfl⟩⟩)⟩, hS.F ht⟩) hS.2.2 d hk
theorem lt_iretS {r : Int32} {τ : jx_M} {sh : jx_T → Prop} {a b1 b2 b3 b4 : Nat} (hsh : sh (ll_tS t τ (fun k => ([a, b1, b2, b3, b4] : List Nat).getD k 0))) (d : decode cc pc = .ok (.ireturn, 1)) (hce : ce ≤ 5) (hsl : sl ≤ 404) : jx_J l (ll_env G t) (ly_dyn G sz (ll_tS t τ (fun k => ([a, b1, b2, b3, b4] : List Nat).getD k 0)) (lx_new4 G τ a b1 b2 b3 b4)) (ll_rg G) sz own nm cc nL (some .int) R (fun below args s => MQ below (lt_Q G t sz r σ sh) args s 5 404 (jx_A (ll_rg G) sz)) ce sl pc lv [.int r] σ := by
  intro p e s m args below meth c C hr hk hn hs hE H locs ls hl hD hS
  refine W.widen hce hsl ?_
  have hd : ll_dyn G (ll_tS t τ (fun k => ([a, b1, b2, b3, b4] : List Nat).getD k 0)) σ H := fun k q hq => hD.1 k q (by rw [List.getElem?_append_left (List.getElem?_eq_some_iff.mp hq).1]; exact hq)
  have hx : ∀ (i : Nat) (q : Nat × va_E), (lx_new4 G τ a b1 b2 b3 b4)[i]? = some q → (ll_W G (ll_tS t τ (fun k => ([a, b1, b2, b3, b4] : List Nat).getD k 0)) σ ++ lx_new4 G τ a b1 b2 b3 b4)[77 + i]? = some q := fun i q hq => by
    rw [List.getElem?_append_right (by rw [ll_Wlen]; omega), ll_Wlen, show 77 + i - 77 = i by omega]
    exact hq
  have hw1 : ll_tw G (ll_tS t τ (fun k => ([a, b1, b2, b3, b4] : List Nat).getD k 0)) 0 = lx_new4 G τ a b1 b2 b3 b4 := rfl
  have hw2 : ll_tw G (ll_tS t τ (fun k => ([a, b1, b2, b3, b4] : List Nat).getD k 0)) 10 = ll_tw G t 10 := rfl
  have ht0 := ll_tqE hE hS
  have hy : ∀ (i : Nat) (q : Nat × va_E), (ll_tw G t 10)[i]? = some q → (ll_tw G t 0 ++ ll_tw G t 10)[5 + i]? = some q := fun i q hi => by
    rw [List.getElem?_append_right (by show 5 ≤ 5 + i; omega), show 5 + i - (ll_tw G t 0).length = i from by show 5 + i - 5 = i; omega]
    exact hi
  have htq : ll_tq G (ll_tS t τ (fun k => ([a, b1, b2, b3, b4] : List Nat).getD k 0)) H := by
    unfold ll_tq
    rw [hw1, hw2]
    refine ⟨va_P.app (fun k q hq => hD.1 _ q (hx k q hq)) (fun k q hq => ht0.1 _ q (hy k q hq)), fun k q hq hz => ?_⟩
    rcases List.mem_append.mp (List.mem_of_getElem? hq) with z | z
    · obtain ⟨i, hi⟩ := List.getElem?_of_mem z
      obtain ⟨k2, e2, hk2⟩ := hz
      have h3 : ((ll_W G (ll_tS t τ (fun k => ([a, b1, b2, b3, b4] : List Nat).getD k 0)) σ).map Prod.fst)[k2]? = some q.1 := by
        rw [ll_fst (t' := (fun _ => 0, fun _ => 0, fun _ _ => 0)) (σ' := fun _ _ => 0), List.getElem?_map, hk2]
        rfl
      rw [List.getElem?_map] at h3
      cases h4 : (ll_W G (ll_tS t τ (fun k => ([a, b1, b2, b3, b4] : List Nat).getD k 0)) σ)[k2]? with
      | none => rw [h4] at h3; cases h3
      | some q2 =>
        rw [h4] at h3
        have h5 := (List.getElem?_eq_some_iff.mp h4).1
        rw [ll_Wlen] at h5
        have h6 := hD.2.1 k2 (77 + i) q2 q (by rw [List.getElem?_append_left (by rw [ll_Wlen]; omega)]; exact h4) (hx i q hi) (Option.some.inj h3)
        omega
    · obtain ⟨i, hi⟩ := List.getElem?_of_mem z
      exact ht0.2 _ q (hy i q hi) hz
  have htn : ll_tn G t sz (ll_tS t τ (fun k => ([a, b1, b2, b3, b4] : List Nat).getD k 0)) := by
    intro k q hq
    have hno := htq.2 k q hq
    rw [hw1, hw2] at hq
    rcases List.mem_append.mp (List.mem_of_getElem? hq) with z | z
    · obtain ⟨i, hi⟩ := List.getElem?_of_mem z
      exact Or.inr ((hD.2.2 _ q (hx i q hi)).resolve_left hno)
    · obtain ⟨i, hi⟩ := List.getElem?_of_mem z
      exact Or.inl ⟨_, q, hy i q hi, rfl⟩
  exact W.iret C.1 C.2.1 hr (fun tt ht hW => ⟨⟨r, _, rfl, ⟨rfl, hsh⟩, (show ll_dyn G _ σ tt.heap ∧ ll_tq G _ tt.heap ∧ ll_tn G t sz _ by rw [ht]; exact ⟨hd, htq, htn⟩)⟩, hS.F ht⟩) hS.2.2 d hk
end LY
theorem dX5_tide_0 : decode cX5_tide 0 = .ok (.aload_n 0, 1) := by decide +kernel
theorem dX5_tide_1 : decode cX5_tide 1 = .ok (.getfield 12, 3) := by decide +kernel
theorem dX5_tide_4 : decode cX5_tide 4 = .ok (.getfield 60, 3) := by decide +kernel
theorem dX5_tide_7 : decode cX5_tide 7 = .ok (.iconst 5, 1) := by decide +kernel
theorem dX5_tide_8 : decode cX5_tide 8 = .ok (.if_icmp .lt 6, 3) := by decide +kernel
theorem dX5_tide_11 : decode cX5_tide 11 = .ok (.bipush (-4), 2) := by decide +kernel
theorem dX5_tide_13 : decode cX5_tide 13 = .ok (.ireturn, 1) := by decide +kernel
theorem dX5_tide_14 : decode cX5_tide 14 = .ok (.aload_n 0, 1) := by decide +kernel
theorem dX5_tide_15 : decode cX5_tide 15 = .ok (.getfield 40, 3) := by decide +kernel
theorem dX5_tide_18 : decode cX5_tide 18 = .ok (.aload_n 0, 1) := by decide +kernel
theorem dX5_tide_19 : decode cX5_tide 19 = .ok (.getfield 12, 3) := by decide +kernel
theorem dX5_tide_22 : decode cX5_tide 22 = .ok (.getfield 56, 3) := by decide +kernel
theorem dX5_tide_25 : decode cX5_tide 25 = .ok (.aload_n 0, 1) := by decide +kernel
theorem dX5_tide_26 : decode cX5_tide 26 = .ok (.getfield 12, 3) := by decide +kernel
theorem dX5_tide_29 : decode cX5_tide 29 = .ok (.getfield 52, 3) := by decide +kernel
theorem dX5_tide_32 : decode cX5_tide 32 = .ok (.invokevirtual 63, 3) := by decide +kernel
theorem dX5_tide_35 : decode cX5_tide 35 = .ok (.istore_n 1, 1) := by decide +kernel
theorem dX5_tide_36 : decode cX5_tide 36 = .ok (.aload_n 0, 1) := by decide +kernel
theorem dX5_tide_37 : decode cX5_tide 37 = .ok (.getfield 12, 3) := by decide +kernel
theorem dX5_tide_40 : decode cX5_tide 40 = .ok (.iconst 0, 1) := by decide +kernel
theorem dX5_tide_41 : decode cX5_tide 41 = .ok (.putfield 52, 3) := by decide +kernel
theorem dX5_tide_44 : decode cX5_tide 44 = .ok (.iload_n 1, 1) := by decide +kernel
theorem dX5_tide_45 : decode cX5_tide 45 = .ok (.ifCond .lt 8, 3) := by decide +kernel
theorem dX5_tide_48 : decode cX5_tide 48 = .ok (.bipush (-10), 2) := by decide +kernel
theorem dX5_tide_50 : decode cX5_tide 50 = .ok (.iload_n 1, 1) := by decide +kernel
theorem dX5_tide_51 : decode cX5_tide 51 = .ok (.isub, 1) := by decide +kernel
theorem dX5_tide_52 : decode cX5_tide 52 = .ok (.ireturn, 1) := by decide +kernel
theorem dX5_tide_53 : decode cX5_tide 53 = .ok (.aload_n 0, 1) := by decide +kernel
theorem dX5_tide_54 : decode cX5_tide 54 = .ok (.getfield 12, 3) := by decide +kernel
theorem dX5_tide_57 : decode cX5_tide 57 = .ok (.aload_n 0, 1) := by decide +kernel
theorem dX5_tide_58 : decode cX5_tide 58 = .ok (.getfield 40, 3) := by decide +kernel
theorem dX5_tide_61 : decode cX5_tide 61 = .ok (.invokevirtual 67, 3) := by decide +kernel
theorem dX5_tide_64 : decode cX5_tide 64 = .ok (.putfield 71, 3) := by decide +kernel
theorem dX5_tide_67 : decode cX5_tide 67 = .ok (.aload_n 0, 1) := by decide +kernel
theorem dX5_tide_68 : decode cX5_tide 68 = .ok (.getfield 12, 3) := by decide +kernel
theorem dX5_tide_71 : decode cX5_tide 71 = .ok (.dup, 1) := by decide +kernel
theorem dX5_tide_72 : decode cX5_tide 72 = .ok (.getfield 60, 3) := by decide +kernel
theorem dX5_tide_75 : decode cX5_tide 75 = .ok (.iconst 1, 1) := by decide +kernel
theorem dX5_tide_76 : decode cX5_tide 76 = .ok (.iadd, 1) := by decide +kernel
theorem dX5_tide_77 : decode cX5_tide 77 = .ok (.putfield 60, 3) := by decide +kernel
theorem dX5_tide_80 : decode cX5_tide 80 = .ok (.aload_n 0, 1) := by decide +kernel
theorem dX5_tide_81 : decode cX5_tide 81 = .ok (.getfield 12, 3) := by decide +kernel
theorem dX5_tide_84 : decode cX5_tide 84 = .ok (.getfield 60, 3) := by decide +kernel
theorem dX5_tide_87 : decode cX5_tide 87 = .ok (.iconst 1, 1) := by decide +kernel
theorem dX5_tide_88 : decode cX5_tide 88 = .ok (.isub, 1) := by decide +kernel
theorem dX5_tide_89 : decode cX5_tide 89 = .ok (.ireturn, 1) := by decide +kernel
abbrev rm_X5_tide : Room := { frames := 20, cells := 5, slots := 404, locals := 600 }
/-- what tide() does: its answer, the numbers behind it, whether a new tide holds -/
def f_X5_tide (t : jx_T) (σ : jx_M) : Option (Int32 × jx_M × Option jx_M) :=
  if (σ 0 4) < (5 : Int32) then jx_bd (f_X3_faultOf t σ 14 (σ 0 3)) (fun q => jx_lt (jx_mu q.2 0 3 (0 : Int32)) (fun σ1 => if q.1 < 0 then jx_gd (decide (¬ σ1 0 30 < 0 ∧ (σ1 0 30).toNatClampNeg ≤ 100)) (jx_gd (decide (¬ σ1 0 31 < 0 ∧ (σ1 0 31).toNatClampNeg ≤ 100)) (jx_lt (jx_mu σ1 0 4 ((σ1 0 4) + (1 : Int32))) (fun σ2 => some ((σ2 0 4) - (1 : Int32), σ2, some σ1)))) else some ((-10 : Int32) - q.1, σ1, none))) else some ((-4 : Int32), σ, none)
def lt_sh (t : jx_T) (o : Option jx_M) (u : jx_T) : Prop := match o with
  | none => u = t
  | some τ => ∃ n : Nat → Nat, u = ll_tS t τ n
set_option maxHeartbeats 4000000 in
set_option maxRecDepth 100000 in
theorem k_X5_tide (l : Launch) (G : jx_G) (t : jx_T) (hG : ll_ok G) (sz : Nat) (σ : jx_M) (out : Int32 × jx_M × Option jx_M) (h : f_X5_tide t σ = some out) : Met l yX5_tide (Cond.code yX5_tide cX5_tide 2 (some .int) :: jx_ws) rm_X5_tide (jx_Pc (ll_env G t) (ll_dyn G t) (ll_rg G) sz σ [.ref (G.2 20)]) (lt_Q G t sz out.1 out.2.1 (lt_sh t out.2.2)) 5 404 (jx_A (ll_rg G) sz) := by
  unfold f_X5_tide at h
  refine jx_met (by decide) (Nat.le_of_ble_eq_true rfl) ?_
  refine jx_sub (lv' := [(0, .ref (G.2 20))]) [0] rfl ?_
  refine jx_aload_n (pc := 0) (k0 := 0) rfl dX5_tide_0 ?_
  refine ll_glamp_now (pc := 1) fl_X5_12 dX5_tide_1 ?_
  refine ll_gnow_tides (pc := 4) fl_X5_60 dX5_tide_4 ?_
  refine jx_iconst (pc := 7) (v := (5 : Int32)) (by decide) dX5_tide_7 ?_
  refine jx_icmp_lt (pc := 8) (tgt := 14) dX5_tide_8 (by decide) (fun c1 => ?_) (fun c1 => ?_)
  · have h := jx_t c1 h
    refine jx_aload_n (pc := 14) (k0 := 0) rfl dX5_tide_14 ?_
    refine ll_glamp_reader (pc := 15) fl_X5_40 dX5_tide_15 ?_
    refine jx_aload_n (pc := 18) (k0 := 0) rfl dX5_tide_18 ?_
    refine ll_glamp_now (pc := 19) fl_X5_12 dX5_tide_19 ?_
    refine ll_gnow_tape (pc := 22) fl_X5_56 dX5_tide_22 ?_
    refine jx_aload_n (pc := 25) (k0 := 0) rfl dX5_tide_25 ?_
    refine ll_glamp_now (pc := 26) fl_X5_12 dX5_tide_26 ?_
    refine ll_gnow_signs (pc := 29) fl_X5_52 dX5_tide_29 ?_
    obtain ⟨q, eq, h⟩ := jx_bd_o h
    refine jx_callVi (pc := 32) [.ref (G.2 114), .int (σ 0 3)] (fun sz' => k_X3_faultOf l G t hG sz' σ 14 (σ 0 3) q eq) kv_X5_63 ll_jok ll_rcreader rfl rfl (Nat.le_of_ble_eq_true rfl) ⟨⟨rfl, rfl⟩, ⟨(Nat.le_of_ble_eq_true rfl), (Nat.le_of_ble_eq_true rfl)⟩, Nat.zero_le _, Nat.zero_le _⟩ dX5_tide_32 ?_
    refine jx_istore_n (pc := 35) (i := 1) rfl rfl (by decide) (lv' := [(1, .int q.1), (0, .ref (G.2 20))]) rfl dX5_tide_35 ?_
    refine jx_aload_n (pc := 36) (k0 := 0) rfl dX5_tide_36 ?_
    refine ll_glamp_now (pc := 37) fl_X5_12 dX5_tide_37 ?_
    refine jx_iconst (pc := 40) (v := (0 : Int32)) (by decide) dX5_tide_40 ?_
    obtain ⟨σ1, e1, h⟩ := jx_lt_o h
    refine ll_pnow_signs (pc := 41) hG fl_X5_52 e1 dX5_tide_41 ?_
    refine jx_iload_n (pc := 44) (k0 := 1) rfl dX5_tide_44 ?_
    refine jx_if_lt (pc := 45) (tgt := 53) dX5_tide_45 (by decide) (fun c2 => ?_) (fun c2 => ?_)
    · have h := jx_t c2 h
      obtain ⟨g1, h⟩ := jx_gd_o h
      obtain ⟨g2, h⟩ := jx_gd_o h
      obtain ⟨σ2, e2, h⟩ := jx_lt_o h
      refine jx_aload_n (pc := 53) (k0 := 0) rfl dX5_tide_53 ?_
      refine ll_glamp_now (pc := 54) fl_X5_12 dX5_tide_54 ?_
      refine jx_aload_n (pc := 57) (k0 := 0) rfl dX5_tide_57 ?_
      refine ll_glamp_reader (pc := 58) fl_X5_40 dX5_tide_58 ?_
      refine lt_written (pc := 61) hG (of_decide_eq_true g1) (of_decide_eq_true g2) kv_X5_67 (Nat.le_of_ble_eq_true rfl) ⟨(Nat.le_of_ble_eq_true rfl), (Nat.le_of_ble_eq_true rfl)⟩ (Nat.le_of_ble_eq_true rfl) (Nat.le_of_ble_eq_true rfl) dX5_tide_61 (fun a b1 b2 b3 b4 => ?_)
      refine ly_putnewest (pc := 64) (fun k => ([a, b1, b2, b3, b4] : List Nat).getD k 0) fl_X5_71 dX5_tide_64 ?_
      refine jx_aload_n (pc := 67) (k0 := 0) rfl dX5_tide_67 ?_
      refine ly_getlamp (pc := 68) (k := 0) (by decide) fl_X5_12 rfl dX5_tide_68 ?_
      refine jx_dup (pc := 71) rfl dX5_tide_71 ?_
      refine ly_getnow (pc := 72) (k := 7) (by decide) fl_X5_60 rfl dX5_tide_72 ?_
      refine jx_iconst (pc := 75) (v := (1 : Int32)) (by decide) dX5_tide_75 ?_
      refine jx_iadd (pc := 76) dX5_tide_76 ?_
      refine ly_puttides (pc := 77) fl_X5_60 dX5_tide_77 ?_
      rw [← e2]
      refine jx_aload_n (pc := 80) (k0 := 0) rfl dX5_tide_80 ?_
      refine ly_getlamp (pc := 81) (k := 0) (by decide) fl_X5_12 rfl dX5_tide_81 ?_
      refine ly_getnow (pc := 84) (k := 7) (by decide) fl_X5_60 rfl dX5_tide_84 ?_
      refine jx_iconst (pc := 87) (v := (1 : Int32)) (by decide) dX5_tide_87 ?_
      refine jx_isub (pc := 88) dX5_tide_88 ?_
      have h := Option.some.inj h
      subst h
      exact lt_iretS (pc := 89) ⟨_, rfl⟩ dX5_tide_89 (Nat.le_of_ble_eq_true rfl) (Nat.le_of_ble_eq_true rfl)
    · have h := jx_f c2 h
      refine jx_bipush (pc := 48) (v := (-10 : Int32)) (by decide) dX5_tide_48 ?_
      refine jx_iload_n (pc := 50) (k0 := 1) rfl dX5_tide_50 ?_
      refine jx_isub (pc := 51) dX5_tide_51 ?_
      have h := Option.some.inj h
      subst h
      exact lt_iret (pc := 52) rfl dX5_tide_52 (Nat.le_of_ble_eq_true rfl) (Nat.le_of_ble_eq_true rfl)
  · have h := jx_f c1 h
    refine jx_bipush (pc := 11) (v := (-4 : Int32)) (by decide) dX5_tide_11 ?_
    have h := Option.some.inj h
    subst h
    exact lt_iret (pc := 13) rfl dX5_tide_13 (Nat.le_of_ble_eq_true rfl) (Nat.le_of_ble_eq_true rfl)
