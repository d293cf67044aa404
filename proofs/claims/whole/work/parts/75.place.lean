/-! places, place, voter, tale -/
def ds_ (S : Nat → Nat) (n j : Nat) : Nat := if j = 6 then n else if 10 ≤ j ∧ j < 17 then (if j - 9 < n then j - 9 else j - 10) else if 17 ≤ j ∧ j < 31 then 0 else S j
theorem ds_p {S : Nat → Nat} {n p : Nat} (hp : p < 7) : ds_ S n (10 + p) = if p + 1 < n then p + 1 else p := by
  unfold ds_
  rw [if_neg (by omega), if_pos (by omega), show 10 + p - 9 = p + 1 by omega, show 10 + p - 10 = p by omega]
theorem ds_z {S : Nat → Nat} {n j : Nat} (h : 17 ≤ j ∧ j < 31) : ds_ S n j = 0 := by
  unfold ds_
  rw [if_neg (by omega), if_neg (by omega), if_pos h]
theorem ds_o {S : Nat → Nat} {n j : Nat} (h6 : ¬ j = 6) (h : ¬ (10 ≤ j ∧ j < 31)) : ds_ S n j = S j := by
  unfold ds_
  rw [if_neg h6, if_neg (by omega), if_neg (by omega)]
theorem cl_dig {t : jx_T} {σ : jx_M} {n : Nat} (hn : 2 ≤ n ∧ n ≤ 7) : ∃ σ', f_X1_dig t σ (nI n) = some σ' ∧ (∀ b, ¬ (1 ≤ b ∧ b ≤ 7) → ¬ b = 0 → σ' b = σ b) ∧ (∀ i, ¬ i = 0 → σ' 0 i = σ 0 i) ∧ σ' 0 0 = nI n ∧ ∀ p, p < 7 → σ' (1 + p) 0 = nI (if p + 1 < n then p + 1 else p) ∧ σ' (1 + p) 1 = -nI 1 ∧ σ' (1 + p) 2 = nI 0 := by
  unfold f_X1_dig
  rw [lt_e]
  refine lq_ (fun m i τ => ∃ σ', b_X1_dig_7 t m τ (nI n) (nI i) = some σ' ∧ (∀ b, ¬ (1 ≤ b ∧ b ≤ 7) → ¬ b = 0 → σ' b = σ b) ∧ (∀ i, ¬ i = 0 → σ' 0 i = σ 0 i) ∧ σ' 0 0 = nI n ∧ ∀ p, p < 7 → σ' (1 + p) 0 = nI (if p + 1 < n then p + 1 else p) ∧ σ' (1 + p) 1 = -nI 1 ∧ σ' (1 + p) 2 = nI 0) (fun i τ => (∀ b, ¬ (1 ≤ b ∧ b ≤ 7) → ¬ b = 0 → τ b = σ b) ∧ (∀ i, ¬ i = 0 → τ 0 i = σ 0 i) ∧ τ 0 0 = nI n ∧ ∀ p, p < i → τ (1 + p) 0 = nI (if p + 1 < n then p + 1 else p) ∧ τ (1 + p) 1 = -nI 1 ∧ τ (1 + p) 2 = nI 0) 7 ?_ ?_ 0 _ (by omega) (by omega) ⟨fun b _ h => mu_a h, fun i h => mu_n h, mu_s, fun p hp => absurd hp (by omega)⟩
  · intro m τ ⟨i1, i2, i3, i4⟩
    simp only [b_X1_dig_7, g_X1_dig_7]
    simp (disch := first | omega | assumption) only [ev_add, ev_mul, ev_rem, ev_sub, ev_ltT, ev_ltF, ev_leT, ev_leF, ev_eqT, ev_eqF, ev_cl, ev_in, gd_t, bd_s, lt_e, ev_of, ↓reduceIte, decide_true, true_or, or_true, ev_l0, ev_l1, ev_l2, ev_l3, ev_l4, ev_l5, ev_l6, ev_l7, ev_l8, ev_l9, ev_l10, ev_l11, ev_l12, ev_l13, ev_l14, ev_l15, ev_l16, ev_l17, ev_l18, ev_l19, ev_l20, ev_l21, ev_l22, ev_l23, ev_l24, ev_l25, ev_l26, ev_l30, ev_l31, ev_l32, ev_l37, ev_l40, ev_l41, ev_l43, ev_l48, ev_l49, ev_l51, ev_l55, ev_l57, ev_l58, ev_l60, ev_l61, ev_l79, ev_l85, ev_l91, ev_l99, ev_l100, ev_l107, ev_l115, ev_l127, ev_l140, ev_l215, ev_l220, ev_l920, ev_l9999, ev_nT, ev_nF, ev_nlT, ev_nlF]
    exact ⟨_, rfl, i1, i2, i3, i4⟩
  · intro m p τ hp ⟨i1, i2, i3, i4⟩ ih
    have fin : ∀ a, a = (if p + 1 < n then p + 1 else p) → ∃ σ', b_X1_dig_7 t m (jx_mu (jx_mu (jx_mu τ (1 + p) 0 (nI a)) (1 + p) 1 (-nI 1)) (1 + p) 2 (nI 0)) (nI n) (nI (p + 1)) = some σ' ∧ (∀ b, ¬ (1 ≤ b ∧ b ≤ 7) → ¬ b = 0 → σ' b = σ b) ∧ (∀ i, ¬ i = 0 → σ' 0 i = σ 0 i) ∧ σ' 0 0 = nI n ∧ ∀ p, p < 7 → σ' (1 + p) 0 = nI (if p + 1 < n then p + 1 else p) ∧ σ' (1 + p) 1 = -nI 1 ∧ σ' (1 + p) 2 = nI 0 := by
      intro a ha
      refine ih _ ⟨fun b h1 h2 => ?_, fun i hi => ?_, ?_, fun q hq => ?_⟩
      · simp (disch := omega) only [mu_a]; exact i1 b h1 h2
      · simp (disch := omega) only [mu_a]; exact i2 i hi
      · simp (disch := omega) only [mu_a]; exact i3
      · by_cases e : q = p
        · subst e
          refine ⟨?_, ?_, ?_⟩
          · simp (disch := omega) only [mu_n, mu_s]; rw [ha]
          · simp (disch := omega) only [mu_n, mu_s]
          · simp (disch := omega) only [mu_n, mu_s]
        · simp (disch := omega) only [mu_a]
          exact i4 q (by omega)
    simp only [b_X1_dig_7, g_X1_dig_7, b_X1_dig_34]
    by_cases g : p + 1 < n
    · simp (disch := first | omega | assumption) only [ev_add, ev_mul, ev_rem, ev_sub, ev_ltT, ev_ltF, ev_leT, ev_leF, ev_eqT, ev_eqF, ev_cl, ev_in, gd_t, bd_s, lt_e, ev_of, ↓reduceIte, decide_true, true_or, or_true, ev_l0, ev_l1, ev_l2, ev_l3, ev_l4, ev_l5, ev_l6, ev_l7, ev_l8, ev_l9, ev_l10, ev_l11, ev_l12, ev_l13, ev_l14, ev_l15, ev_l16, ev_l17, ev_l18, ev_l19, ev_l20, ev_l21, ev_l22, ev_l23, ev_l24, ev_l25, ev_l26, ev_l30, ev_l31, ev_l32, ev_l37, ev_l40, ev_l41, ev_l43, ev_l48, ev_l49, ev_l51, ev_l55, ev_l57, ev_l58, ev_l60, ev_l61, ev_l79, ev_l85, ev_l91, ev_l99, ev_l100, ev_l107, ev_l115, ev_l127, ev_l140, ev_l215, ev_l220, ev_l920, ev_l9999, ev_nT, ev_nF, ev_nlT, ev_nlF, ll1]
      exact fin (p + 1) (by rw [if_pos g])
    · simp (disch := first | omega | assumption) only [ev_add, ev_mul, ev_rem, ev_sub, ev_ltT, ev_ltF, ev_leT, ev_leF, ev_eqT, ev_eqF, ev_cl, ev_in, gd_t, bd_s, lt_e, ev_of, ↓reduceIte, decide_true, true_or, or_true, ev_l0, ev_l1, ev_l2, ev_l3, ev_l4, ev_l5, ev_l6, ev_l7, ev_l8, ev_l9, ev_l10, ev_l11, ev_l12, ev_l13, ev_l14, ev_l15, ev_l16, ev_l17, ev_l18, ev_l19, ev_l20, ev_l21, ev_l22, ev_l23, ev_l24, ev_l25, ev_l26, ev_l30, ev_l31, ev_l32, ev_l37, ev_l40, ev_l41, ev_l43, ev_l48, ev_l49, ev_l51, ev_l55, ev_l57, ev_l58, ev_l60, ev_l61, ev_l79, ev_l85, ev_l91, ev_l99, ev_l100, ev_l107, ev_l115, ev_l127, ev_l140, ev_l215, ev_l220, ev_l920, ev_l9999, ev_nT, ev_nF, ev_nlT, ev_nlF, ll1]
      exact fin p (by rw [if_neg g])
theorem cm_first {σ : jx_M} {n : Nat} (hn : 2 ≤ n ∧ n ≤ 7) : ∃ σ', f_X6_asAtFirst σ (nI n) = some σ' ∧ (∀ b, ¬ b = 1 → σ' b = σ b) ∧ (∀ i, ¬ i = 6 → ¬ (10 ≤ i ∧ i < 31) → σ' 1 i = σ 1 i) ∧ σ' 1 6 = nI n ∧ ∀ p, p < 7 → σ' 1 (10 + p) = nI (if p + 1 < n then p + 1 else p) ∧ σ' 1 (17 + p) = -nI 1 ∧ σ' 1 (24 + p) = nI 0 := by
  unfold f_X6_asAtFirst
  rw [lt_e]
  refine lq_ (fun m i τ => ∃ σ', b_X6_asAtFirst_10 m τ (nI n) (nI i) = some σ' ∧ (∀ b, ¬ b = 1 → σ' b = σ b) ∧ (∀ i, ¬ i = 6 → ¬ (10 ≤ i ∧ i < 31) → σ' 1 i = σ 1 i) ∧ σ' 1 6 = nI n ∧ ∀ p, p < 7 → σ' 1 (10 + p) = nI (if p + 1 < n then p + 1 else p) ∧ σ' 1 (17 + p) = -nI 1 ∧ σ' 1 (24 + p) = nI 0) (fun i τ => (∀ b, ¬ b = 1 → τ b = σ b) ∧ (∀ i, ¬ i = 6 → ¬ (10 ≤ i ∧ i < 31) → τ 1 i = σ 1 i) ∧ τ 1 6 = nI n ∧ ∀ p, p < i → τ 1 (10 + p) = nI (if p + 1 < n then p + 1 else p) ∧ τ 1 (17 + p) = -nI 1 ∧ τ 1 (24 + p) = nI 0) 7 ?_ ?_ 0 _ (by omega) (by omega) ⟨fun b h => mu_a h, fun i h _ => mu_n h, mu_s, fun p hp => absurd hp (by omega)⟩
  · intro m τ ⟨i1, i2, i3, i4⟩
    simp only [b_X6_asAtFirst_10, g_X6_asAtFirst_10]
    simp (disch := first | omega | assumption) only [ev_add, ev_mul, ev_rem, ev_sub, ev_ltT, ev_ltF, ev_leT, ev_leF, ev_eqT, ev_eqF, ev_cl, ev_in, gd_t, bd_s, lt_e, ev_of, ↓reduceIte, decide_true, true_or, or_true, ev_l0, ev_l1, ev_l2, ev_l3, ev_l4, ev_l5, ev_l6, ev_l7, ev_l8, ev_l9, ev_l10, ev_l11, ev_l12, ev_l13, ev_l14, ev_l15, ev_l16, ev_l17, ev_l18, ev_l19, ev_l20, ev_l21, ev_l22, ev_l23, ev_l24, ev_l25, ev_l26, ev_l30, ev_l31, ev_l32, ev_l37, ev_l40, ev_l41, ev_l43, ev_l48, ev_l49, ev_l51, ev_l55, ev_l57, ev_l58, ev_l60, ev_l61, ev_l79, ev_l85, ev_l91, ev_l99, ev_l100, ev_l107, ev_l115, ev_l127, ev_l140, ev_l215, ev_l220, ev_l920, ev_l9999, ev_nT, ev_nF, ev_nlT, ev_nlF]
    exact ⟨_, rfl, i1, i2, i3, i4⟩
  · intro m p τ hp ⟨i1, i2, i3, i4⟩ ih
    have fin : ∀ a, a = (if p + 1 < n then p + 1 else p) → ∃ σ', b_X6_asAtFirst_10 m (jx_mu (jx_mu (jx_mu τ 1 (10 + p) (nI a)) 1 (17 + p) (-nI 1)) 1 (24 + p) (nI 0)) (nI n) (nI (p + 1)) = some σ' ∧ (∀ b, ¬ b = 1 → σ' b = σ b) ∧ (∀ i, ¬ i = 6 → ¬ (10 ≤ i ∧ i < 31) → σ' 1 i = σ 1 i) ∧ σ' 1 6 = nI n ∧ ∀ p, p < 7 → σ' 1 (10 + p) = nI (if p + 1 < n then p + 1 else p) ∧ σ' 1 (17 + p) = -nI 1 ∧ σ' 1 (24 + p) = nI 0 := by
      intro a ha
      refine ih _ ⟨fun b h1 => ?_, fun i h1 h2 => ?_, ?_, fun q hq => ?_⟩
      · simp (disch := omega) only [mu_a]; exact i1 b h1
      · simp (disch := omega) only [mu_n]; exact i2 i h1 h2
      · simp (disch := omega) only [mu_n]; exact i3
      · by_cases e : q = p
        · subst e
          refine ⟨?_, ?_, ?_⟩
          · simp (disch := omega) only [mu_n, mu_s]; rw [ha]
          · simp (disch := omega) only [mu_n, mu_s]
          · simp (disch := omega) only [mu_n, mu_s]
        · simp (disch := omega) only [mu_n]
          exact i4 q (by omega)
    simp only [b_X6_asAtFirst_10, g_X6_asAtFirst_10, b_X6_asAtFirst_38]
    by_cases g : p + 1 < n
    · simp (disch := first | omega | assumption) only [ev_add, ev_mul, ev_rem, ev_sub, ev_ltT, ev_ltF, ev_leT, ev_leF, ev_eqT, ev_eqF, ev_cl, ev_in, gd_t, bd_s, lt_e, ev_of, ↓reduceIte, decide_true, true_or, or_true, ev_l0, ev_l1, ev_l2, ev_l3, ev_l4, ev_l5, ev_l6, ev_l7, ev_l8, ev_l9, ev_l10, ev_l11, ev_l12, ev_l13, ev_l14, ev_l15, ev_l16, ev_l17, ev_l18, ev_l19, ev_l20, ev_l21, ev_l22, ev_l23, ev_l24, ev_l25, ev_l26, ev_l30, ev_l31, ev_l32, ev_l37, ev_l40, ev_l41, ev_l43, ev_l48, ev_l49, ev_l51, ev_l55, ev_l57, ev_l58, ev_l60, ev_l61, ev_l79, ev_l85, ev_l91, ev_l99, ev_l100, ev_l107, ev_l115, ev_l127, ev_l140, ev_l215, ev_l220, ev_l920, ev_l9999, ev_nT, ev_nF, ev_nlT, ev_nlF]
      exact fin (p + 1) (by rw [if_pos g])
    · simp (disch := first | omega | assumption) only [ev_add, ev_mul, ev_rem, ev_sub, ev_ltT, ev_ltF, ev_leT, ev_leF, ev_eqT, ev_eqF, ev_cl, ev_in, gd_t, bd_s, lt_e, ev_of, ↓reduceIte, decide_true, true_or, or_true, ev_l0, ev_l1, ev_l2, ev_l3, ev_l4, ev_l5, ev_l6, ev_l7, ev_l8, ev_l9, ev_l10, ev_l11, ev_l12, ev_l13, ev_l14, ev_l15, ev_l16, ev_l17, ev_l18, ev_l19, ev_l20, ev_l21, ev_l22, ev_l23, ev_l24, ev_l25, ev_l26, ev_l30, ev_l31, ev_l32, ev_l37, ev_l40, ev_l41, ev_l43, ev_l48, ev_l49, ev_l51, ev_l55, ev_l57, ev_l58, ev_l60, ev_l61, ev_l79, ev_l85, ev_l91, ev_l99, ev_l100, ev_l107, ev_l115, ev_l127, ev_l140, ev_l215, ev_l220, ev_l920, ev_l9999, ev_nT, ev_nF, ev_nlT, ev_nlF]
      exact fin p (by rw [if_neg g])
theorem in_27 {x : Int32} (h : x < 2 ∨ (7 : Int32) < x) : f_X6_in x 2 7 = some 0 := by
  unfold f_X6_in
  rcases h with h | h
  · rw [if_pos h]
  · by_cases g : x < 2
    · rw [if_pos g]
    · rw [if_neg g, if_pos h]
theorem op_places : lw_op_places RR := by
  intro t σl σm a0 hR
  obtain ⟨⟨S, F, hc, hm, hw, hb, htc, htm⟩, hi, ht, hst⟩ := id hR
  have n6 : σl 0 0 = nI (S 6) := hc.1.1
  have n7 : σl 0 1 = nI (S 7) := hc.1.2.1
  have n0 : σl 0 2 = nI (S 0) := hc.1.2.2.1
  have n4 : σl 0 3 = nI (S 4) := hc.1.2.2.2.1
  have n1 : σl 0 4 = nI (S 1) := hc.1.2.2.2.2.1
  have n2 : σl 0 5 = nI (S 2) := hc.1.2.2.2.2.2.1
  have n3 : σl 0 6 = nI (S 3) := hc.1.2.2.2.2.2.2
  have m0 : σm 1 0 = nI (S 0) := hm.1 0 (by omega) (by omega) (by omega)
  have m1 : σm 1 1 = nI (S 1) := hm.1 1 (by omega) (by omega) (by omega)
  have m2 : σm 1 2 = nI (S 2) := hm.1 2 (by omega) (by omega) (by omega)
  have m3 : σm 1 3 = nI (S 3) := hm.1 3 (by omega) (by omega) (by omega)
  have m4 : σm 1 4 = nI (S 4) := hm.1 4 (by omega) (by omega) (by omega)
  have m6 : σm 1 6 = nI (S 6) := hm.1 6 (by omega) (by omega) (by omega)
  have m7 : σm 1 7 = nI (S 7) := hm.1 7 (by omega) (by omega) (by omega)
  have bw := hw.2.1
  have b7 := hw.1 7
  unfold f_X5_places f_X6_places
  have hcs : (a0 < 2 ∨ (7 : Int32) < a0) ∨ ∃ n, (2 ≤ n ∧ n ≤ 7) ∧ a0 = nI n := by
    rcases ix_p a0 8 (by omega) with h | ⟨n, hn, rfl⟩
    · rcases h with h | h
      · exact Or.inl (Or.inl (Int32.lt_of_lt_of_le h (by decide)))
      · exact Or.inl (Or.inr (Int32.lt_of_lt_of_le (show (7 : Int32) < nI 8 by decide) h))
    · by_cases g : 2 ≤ n
      · exact Or.inr ⟨n, ⟨g, by omega⟩, rfl⟩
      · exact Or.inl (Or.inl (nI_lt (a := n) (b := 2) (by omega) (by omega)))
  rcases hcs with h | ⟨n, hn, rfl⟩
  · rw [wi_e, in_27 h, bd_s, bd_s]
    exact ⟨_, _, _, rfl, rfl, hR⟩
  · have e1 : f_X6_in (nI n) 2 7 = some 1 := by
      unfold f_X6_in
      rw [if_neg (show ¬ nI n < (2 : Int32) from nI_nlt (a := n) (b := 2) (by omega) (by omega)), if_neg (show ¬ (7 : Int32) < nI n from nI_nlt (a := 7) (b := n) (by omega) (by omega))]
    rw [wi_e, e1, bd_s, bd_s]
    by_cases z : S 0 = 0
    · obtain ⟨σl2, c1, c2, c3, c4, c5⟩ := cl_dig (t := t) (σ := σl) hn
      obtain ⟨σm2, d1, d2, d3, d4, d5⟩ := cm_first (σ := σm) hn
      simp (disch := first | omega | assumption) only [ev_add, ev_mul, ev_rem, ev_sub, ev_ltT, ev_ltF, ev_leT, ev_leF, ev_eqT, ev_eqF, ev_cl, ev_in, gd_t, bd_s, lt_e, ev_of, ↓reduceIte, decide_true, true_or, or_true, ev_l0, ev_l1, ev_l2, ev_l3, ev_l4, ev_l5, ev_l6, ev_l7, ev_l8, ev_l9, ev_l10, ev_l11, ev_l12, ev_l13, ev_l14, ev_l15, ev_l16, ev_l17, ev_l18, ev_l19, ev_l20, ev_l21, ev_l22, ev_l23, ev_l24, ev_l25, ev_l26, ev_l30, ev_l31, ev_l32, ev_l37, ev_l40, ev_l41, ev_l43, ev_l48, ev_l49, ev_l51, ev_l55, ev_l57, ev_l58, ev_l60, ev_l61, ev_l79, ev_l85, ev_l91, ev_l99, ev_l100, ev_l107, ev_l115, ev_l127, ev_l140, ev_l215, ev_l220, ev_l920, ev_l9999, ev_nT, ev_nF, ev_nlT, ev_nlF, n0, m0, z, n6, m6, c1, d1]
      refine ⟨_, _, _, rfl, rfl, RR_new S (ds_ S n) hi ht hst hw hb htc htm (ds_o (by omega) (by omega)) (fun k h1 h2 => d3 k (by omega) (by omega)) ⟨fun j hj => c2 j (by omega) (by omega), fun i hi => c3 i (by omega)⟩ ⟨d2 2 (by omega), d2 9 (by omega), congrFun (d2 0 (by omega)) 3, congrFun (d2 0 (by omega)) 22⟩ ?_ ?_ ?_⟩
      · refine ⟨⟨?_, ?_, ?_, ?_, ?_, ?_, ?_⟩, fun p hp => ?_, fun v hv => ?_, fun i hi => ?_, fun i hi => ?_, fun i hi => ?_⟩
        · rw [c4]; rfl
        · rw [c3 1 (by omega), ds_o (by omega) (by omega)]; exact n7
        · rw [c3 2 (by omega), ds_o (by omega) (by omega)]; exact n0
        · rw [c3 3 (by omega), ds_o (by omega) (by omega)]; exact n4
        · rw [c3 4 (by omega), ds_o (by omega) (by omega)]; exact n1
        · rw [c3 5 (by omega), ds_o (by omega) (by omega)]; exact n2
        · rw [c3 6 (by omega), ds_o (by omega) (by omega)]; exact n3
        · rw [ds_p hp, ds_z (by omega), ds_z (by omega)]; exact c5 p hp
        · rw [c2 (8 + v) (by omega) (by omega)]
          simp (disch := omega) only [ds_o]
          exact ⟨(hc.2.2.1 v hv).1, fun j hj => (hc.2.2.1 v hv).2 j hj⟩
        · rw [c2 14 (by omega) (by omega), ds_o (by omega) (by omega)]; exact hc.2.2.2.1 i hi
        · rw [c2 15 (by omega) (by omega), c2 16 (by omega) (by omega), ds_o (by omega) (by omega), ds_o (by omega) (by omega)]; exact hc.2.2.2.2.1 i hi
        · rw [c2 17 (by omega) (by omega), c2 18 (by omega) (by omega), c2 19 (by omega) (by omega), ds_o (by omega) (by omega), ds_o (by omega) (by omega), ds_o (by omega) (by omega)]; exact hc.2.2.2.2.2 i hi
      · refine ⟨fun k hk h5 hs => ?_, ?_, fun p hp => ?_⟩
        · by_cases g6 : k = 6
          · subst g6; rw [d4]; rfl
          · by_cases g10 : 10 ≤ k ∧ k < 31
            · by_cases g17 : k < 17
              · obtain ⟨p, rfl⟩ : ∃ p, k = 10 + p := ⟨k - 10, by omega⟩
                rw [ds_p (by omega)]; exact (d5 p (by omega)).1
              · obtain ⟨p, rfl⟩ : ∃ p, k = 24 + p := ⟨k - 24, by omega⟩
                rw [ds_z (by omega)]; exact (d5 p (by omega)).2.2
            · rw [d3 k g6 g10, ds_o g6 g10]; exact hm.1 k hk h5 hs
        · rw [d3 5 (by omega) (by omega), ds_o (by omega) (by omega)]; exact hm.2.1
        · rw [ds_z (by omega)]; exact (d5 p hp).2.1
      · refine ⟨fun k => ?_, ⟨?_, ?_, ?_, ?_, ?_, ?_, ?_, ?_⟩, fun p hp => ⟨?_, fun hq => ?_, fun hq => ?_, ?_⟩, fun v hv => ?_, fun i hi => ?_, fun i hi => ?_, fun i hi => ?_⟩
        · have z := hw.1 k
          unfold ds_
          repeat' split
          all_goals omega
        · rw [ds_o (by omega) (by omega)]; exact bw.1
        · rw [ds_o (by omega) (by omega)]; exact bw.2.1
        · rw [ds_o (by omega) (by omega)]; exact bw.2.2.1
        · rw [ds_o (by omega) (by omega)]; exact bw.2.2.2.1
        · rw [ds_o (by omega) (by omega)]; exact bw.2.2.2.2.1
        · rw [ds_o (by omega) (by omega), ds_o (by omega) (by omega)]; exact bw.2.2.2.2.2.1
        · exact hn.1
        · exact hn.2
        · rw [ds_p hp]; split <;> omega
        · rw [ds_p hp]
          have hq' : p < n := hq
          show _ < n
          split <;> omega
        · rw [ds_z (by omega)]; exact Nat.zero_le _
        · rw [ds_z (by omega)]; omega
        · rw [ds_o (by omega) (by omega)] at hv; omega
        · rw [ds_o (by omega) (by omega)] at hi ⊢; exact hw.2.2.2.2.1 i hi
        · rw [ds_o (by omega) (by omega)] at hi
          rw [ds_o (by omega) (by omega), ds_o (by omega) (by omega)]; exact hw.2.2.2.2.2.1 i hi
        · rw [ds_o (by omega) (by omega)] at hi
          rw [ds_o (by omega) (by omega), ds_o (by omega) (by omega), ds_o (by omega) (by omega), ds_o (by omega) (by omega)]; exact hw.2.2.2.2.2.2 i hi
    · simp (disch := first | omega | assumption) only [ev_add, ev_mul, ev_rem, ev_sub, ev_ltT, ev_ltF, ev_leT, ev_leF, ev_eqT, ev_eqF, ev_cl, ev_in, gd_t, bd_s, lt_e, ev_of, ↓reduceIte, decide_true, true_or, or_true, ev_l0, ev_l1, ev_l2, ev_l3, ev_l4, ev_l5, ev_l6, ev_l7, ev_l8, ev_l9, ev_l10, ev_l11, ev_l12, ev_l13, ev_l14, ev_l15, ev_l16, ev_l17, ev_l18, ev_l19, ev_l20, ev_l21, ev_l22, ev_l23, ev_l24, ev_l25, ev_l26, ev_l30, ev_l31, ev_l32, ev_l37, ev_l40, ev_l41, ev_l43, ev_l48, ev_l49, ev_l51, ev_l55, ev_l57, ev_l58, ev_l60, ev_l61, ev_l79, ev_l85, ev_l91, ev_l99, ev_l100, ev_l107, ev_l115, ev_l127, ev_l140, ev_l215, ev_l220, ev_l920, ev_l9999, ev_nT, ev_nF, ev_nlT, ev_nlF, n0, m0]
      exact ⟨_, _, _, rfl, rfl, hR⟩
