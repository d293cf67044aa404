/-! the calls that change a number or two -/
theorem ll1 : ∀ p, p < 7 → ll_len (1 + p) = 3 := by decide
theorem ll8 : ∀ v, v < 6 → ll_len (8 + v) = 8 := by decide
def upN (S : Nat → Nat) (k v : Nat) : Nat → Nat := fun j => if j = k then v else S j
theorem upN_s {S : Nat → Nat} {k v : Nat} : upN S k v k = v := if_pos rfl
theorem upN_n {S : Nat → Nat} {k v j : Nat} (h : ¬ j = k) : upN S k v j = S j := if_neg h
def kl (σ σ' : jx_M) : Prop := (∀ j, (21 ≤ j ∧ j ≤ 39) ∨ j = 60 → σ' j = σ j) ∧ ∀ i, (10 ≤ i ∧ i < 20) ∨ i = 20 ∨ i = 21 ∨ i = 40 → σ' 0 i = σ 0 i
def km (σ σ' : jx_M) : Prop := σ' 2 = σ 2 ∧ σ' 9 = σ 9 ∧ σ' 0 3 = σ 0 3 ∧ σ' 0 22 = σ 0 22
theorem rt_m_congr {s s' : Nat → Int32} {hd : Nat} {F : rt_F} (h : rt_m s hd F) (h5 : hd ≤ 5) (hs : ∀ k, 215 ≤ k → k < 920 → s' k = s k) : rt_m s' hd F := by
  intro σ p q m w a1 a2
  refine h σ p q m w a1 (fun g hg => ?_)
  obtain ⟨b1, b2⟩ := a2 g hg
  exact ⟨b1.trans (hs _ (by omega) (by omega)), fun i hi => (b2 i hi).trans (hs _ (by omega) (by omega))⟩
theorem rn_c_congr {n n' : Nat → Int32} {a a' : Nat → Nat → Int32} {S : Nat → Nat} (h : rn_c n a S) (hn : ∀ i, i < 7 → n' i = n i) (ha : ∀ j, 1 ≤ j → j ≤ 19 → a' j = a j) : rn_c n' a' S := by
  obtain ⟨h1, h2, h3, h4, h5, h6⟩ := h
  refine ⟨?_, fun p hp => ?_, fun v hv => ?_, fun i hi => ?_, fun i hi => ?_, fun i hi => ?_⟩
  · rw [hn 0 (by omega), hn 1 (by omega), hn 2 (by omega), hn 3 (by omega), hn 4 (by omega), hn 5 (by omega), hn 6 (by omega)]; exact h1
  · rw [ha (1 + p) (by omega) (by omega)]; exact h2 p hp
  · rw [ha (8 + v) (by omega) (by omega)]; exact h3 v hv
  · rw [ha 14 (by omega) (by omega)]; exact h4 i hi
  · rw [ha 15 (by omega) (by omega), ha 16 (by omega) (by omega)]; exact h5 i hi
  · rw [ha 17 (by omega) (by omega), ha 18 (by omega) (by omega), ha 19 (by omega) (by omega)]; exact h6 i hi
theorem rr_i_k {t : jx_T} {σl σm σl2 σm2 : jx_M} (hi : rr_i t σl σm) (hkl : kl σl σl2) (hkm : km σm σm2) : rr_i t σl2 σm2 := by
  rcases hi with ⟨h1, h2⟩ | ⟨h1, h2, S, F, h3⟩
  · exact Or.inl ⟨(hkl.2 40 (by omega)).trans h1, hkm.2.2.1.trans h2⟩
  · refine Or.inr ⟨(hkl.2 40 (by omega)).trans h1, hkm.2.2.1.trans h2, S, F, ?_⟩
    rw [hkm.1]
    exact ⟨rn_c_congr h3.1 (fun i hi => hkl.2 _ (by omega)) (fun j h1 h2 => hkl.1 _ (by omega)), h3.2⟩
theorem rr_t_k {σl σm σl2 σm2 : jx_M} (h : rr_t σl σm) (hkl : kl σl σl2) (hkm : km σm σm2) : rr_t σl2 σm2 := by
  obtain ⟨r, h1, h2, h3, h4⟩ := h
  refine ⟨r, h1, (hkl.2 21 (by omega)).trans h2, hkm.2.2.2.trans h3, fun i hi hr => ?_⟩
  rw [hkl.1 60 (by omega), hkm.2.1]
  exact h4 i hi hr
theorem RR_new {t : jx_T} {σl σm σl2 σm2 : jx_M} (S S' : Nat → Nat) {F : rt_F} (hi : rr_i t σl σm) (ht : rr_t σl σm) (hst : σl 0 20 = -1) (hw : rn_w S) (hb : rt_b F) (htc : rt_c t.2.1 t.2.2 F) (htm : rt_m (σm 1) (S 5) F) (h5 : S' 5 = S 5) (hk : ∀ k, 215 ≤ k → k < 920 → σm2 1 k = σm 1 k) (hkl : kl σl σl2) (hkm : km σm σm2) (hc2 : rn_c (σl2 0) σl2 S') (hm2 : rn_m (σm2 1) S') (hw2 : rn_w S') : RR t σl2 σm2 :=
  ⟨⟨S', F, hc2, hm2, hw2, hb, htc, by rw [h5]; exact rt_m_congr htm (by have := hw.2.1; omega) hk⟩, rr_i_k hi hkl hkm, rr_t_k ht hkl hkm, (hkl.2 20 (by omega)).trans hst⟩
theorem op_feed : lw_op_feed RR := by
  intro t σl σm a0 hR
  obtain ⟨⟨S, F, hc, hm, hw, hb, htc, htm⟩, hi, ht, hst⟩ := id hR
  have h4l : σl 0 3 = nI (S 4) := hc.1.2.2.2.1
  have h4m : σm 1 4 = nI (S 4) := hm.1 4 (by omega) (by omega) (by omega)
  have b4 := hw.2.1
  unfold f_X5_feed f_X6_feed
  rcases ix_p a0 128 (by omega) with h | ⟨j, hj, rfl⟩
  · simp (disch := first | omega | assumption) only [ev_add, ev_mul, ev_rem, ev_sub, ev_ltT, ev_ltF, ev_leT, ev_leF, ev_eqT, ev_eqF, ev_cl, ev_in, gd_t, bd_s, lt_e, ev_of, ↓reduceIte, decide_true, true_or, or_true, ev_l0, ev_l1, ev_l2, ev_l3, ev_l4, ev_l5, ev_l6, ev_l7, ev_l8, ev_l9, ev_l10, ev_l11, ev_l12, ev_l13, ev_l14, ev_l15, ev_l16, ev_l17, ev_l18, ev_l19, ev_l20, ev_l21, ev_l22, ev_l23, ev_l24, ev_l25, ev_l26, ev_l30, ev_l31, ev_l32, ev_l37, ev_l40, ev_l41, ev_l43, ev_l48, ev_l49, ev_l51, ev_l55, ev_l57, ev_l58, ev_l60, ev_l61, ev_l79, ev_l85, ev_l91, ev_l99, ev_l100, ev_l107, ev_l115, ev_l127, ev_l140, ev_l215, ev_l220, ev_l920, ev_l9999, wi_e, show f_X6_in a0 (nI 0) (nI 127) = _ from in_f (n := 128) h (by omega) (by omega)]
    exact ⟨_, _, _, rfl, rfl, hR⟩
  · simp (disch := first | omega | assumption) only [ev_add, ev_mul, ev_rem, ev_sub, ev_ltT, ev_ltF, ev_leT, ev_leF, ev_eqT, ev_eqF, ev_cl, ev_in, gd_t, bd_s, lt_e, ev_of, ↓reduceIte, decide_true, true_or, or_true, ev_l0, ev_l1, ev_l2, ev_l3, ev_l4, ev_l5, ev_l6, ev_l7, ev_l8, ev_l9, ev_l10, ev_l11, ev_l12, ev_l13, ev_l14, ev_l15, ev_l16, ev_l17, ev_l18, ev_l19, ev_l20, ev_l21, ev_l22, ev_l23, ev_l24, ev_l25, ev_l26, ev_l30, ev_l31, ev_l32, ev_l37, ev_l40, ev_l41, ev_l43, ev_l48, ev_l49, ev_l51, ev_l55, ev_l57, ev_l58, ev_l60, ev_l61, ev_l79, ev_l85, ev_l91, ev_l99, ev_l100, ev_l107, ev_l115, ev_l127, ev_l140, ev_l215, ev_l220, ev_l920, ev_l9999, wi_e, show f_X6_in (nI j) (nI 0) (nI 127) = _ from in_t (n := 128) hj (by omega)]
    by_cases h100 : S 4 = 100
    · simp (disch := first | omega | assumption) only [ev_add, ev_mul, ev_rem, ev_sub, ev_ltT, ev_ltF, ev_leT, ev_leF, ev_eqT, ev_eqF, ev_cl, ev_in, gd_t, bd_s, lt_e, ev_of, ↓reduceIte, decide_true, true_or, or_true, ev_l0, ev_l1, ev_l2, ev_l3, ev_l4, ev_l5, ev_l6, ev_l7, ev_l8, ev_l9, ev_l10, ev_l11, ev_l12, ev_l13, ev_l14, ev_l15, ev_l16, ev_l17, ev_l18, ev_l19, ev_l20, ev_l21, ev_l22, ev_l23, ev_l24, ev_l25, ev_l26, ev_l30, ev_l31, ev_l32, ev_l37, ev_l40, ev_l41, ev_l43, ev_l48, ev_l49, ev_l51, ev_l55, ev_l57, ev_l58, ev_l60, ev_l61, ev_l79, ev_l85, ev_l91, ev_l99, ev_l100, ev_l107, ev_l115, ev_l127, ev_l140, ev_l215, ev_l220, ev_l920, ev_l9999, h4l, h4m, h100]
      exact ⟨_, _, _, rfl, rfl, hR⟩
    · simp (disch := first | omega | assumption) only [ev_add, ev_mul, ev_rem, ev_sub, ev_ltT, ev_ltF, ev_leT, ev_leF, ev_eqT, ev_eqF, ev_cl, ev_in, gd_t, bd_s, lt_e, ev_of, ↓reduceIte, decide_true, true_or, or_true, ev_l0, ev_l1, ev_l2, ev_l3, ev_l4, ev_l5, ev_l6, ev_l7, ev_l8, ev_l9, ev_l10, ev_l11, ev_l12, ev_l13, ev_l14, ev_l15, ev_l16, ev_l17, ev_l18, ev_l19, ev_l20, ev_l21, ev_l22, ev_l23, ev_l24, ev_l25, ev_l26, ev_l30, ev_l31, ev_l32, ev_l37, ev_l40, ev_l41, ev_l43, ev_l48, ev_l49, ev_l51, ev_l55, ev_l57, ev_l58, ev_l60, ev_l61, ev_l79, ev_l85, ev_l91, ev_l99, ev_l100, ev_l107, ev_l115, ev_l127, ev_l140, ev_l215, ev_l220, ev_l920, ev_l9999, h4l, h4m, mu_s, mu_a, mu_n]
      refine ⟨_, _, _, rfl, rfl, RR_new S (upN (upN S (115 + S 4) j) 4 (S 4 + 1)) hi ht hst hw hb htc htm ?_ ?_ ?_ ⟨?_, ?_, ?_, ?_⟩ ?_ ?_ ?_⟩
      · simp (disch := omega) only [upN_n]
      · intro k h1 h2
        simp (disch := omega) only [mu_n]
      · refine ⟨fun j hj => ?_, fun i hi => ?_⟩
        all_goals (simp (disch := omega) only [mu_a, mu_n])
      · rfl
      · rfl
      · rfl
      · rfl
      · refine ⟨⟨?_, ?_, ?_, ?_, ?_, ?_, ?_⟩, fun p hp => ⟨?_, ?_, ?_⟩, fun v hv => ⟨⟨?_, ?_, ?_, ?_, ?_⟩, fun j hj => ?_⟩, fun i hi => ?_, fun i hi => ⟨?_, ?_⟩, fun i hi => ⟨?_, ?_, ?_⟩⟩
        all_goals (try simp only [mu_v, upN, and_self, true_and, and_true, false_and, and_false, ↓reduceIte, eq_self, Nat.reduceEqDiff, Nat.add_left_cancel_iff])
        all_goals (repeat' split)
        all_goals first | rfl | omega | exact hc.1.1 | exact hc.1.2.1 | exact hc.1.2.2.1 | exact hc.1.2.2.2.1 | exact hc.1.2.2.2.2.1 | exact hc.1.2.2.2.2.2.1 | exact hc.1.2.2.2.2.2.2 | exact (hc.2.1 p hp).1 | exact (hc.2.1 p hp).2.1 | exact (hc.2.1 p hp).2.2 | exact (hc.2.2.1 v hv).1.1 | exact (hc.2.2.1 v hv).1.2.1 | exact (hc.2.2.1 v hv).1.2.2.1 | exact (hc.2.2.1 v hv).1.2.2.2.1 | exact (hc.2.2.1 v hv).1.2.2.2.2 | exact (hc.2.2.1 v hv).2 j hj | exact hc.2.2.2.1 i hi | exact (hc.2.2.2.2.1 i hi).1 | exact (hc.2.2.2.2.1 i hi).2 | exact (hc.2.2.2.2.2 i hi).1 | exact (hc.2.2.2.2.2 i hi).2.1 | exact (hc.2.2.2.2.2 i hi).2.2
      · refine ⟨fun k hk h5 hs => ?_, ?_, fun p hp => ?_⟩
        all_goals (try simp only [mu_v, upN, and_self, true_and, and_true, false_and, and_false, ↓reduceIte, eq_self, Nat.reduceEqDiff, Nat.add_left_cancel_iff])
        all_goals (repeat' split)
        all_goals first | rfl | omega | exact hm.1 k hk h5 hs | exact hm.2.1 | exact hm.2.2 p hp
      · refine ⟨fun k => ?_, ⟨?_, ?_, ?_, ?_, ?_, ?_, ?_, ?_⟩, fun p hp => ⟨?_, fun hq => ?_, fun hq => ?_, ?_⟩, fun v hv => ⟨?_, ?_, ?_, ?_, ?_, fun j hj => ?_⟩, fun i hi => ?_, fun i hi => ⟨?_, ?_⟩, fun i hi => ⟨?_, ?_, ?_⟩⟩
        all_goals (try simp (disch := omega) only [upN_s, upN_n] at *)
        all_goals (try simp only [upN, and_self, true_and, and_true, false_and, and_false, ↓reduceIte, eq_self])
        all_goals (repeat' split)
        all_goals first | omega | exact hw.1 _ | (have z := hw.2.1; omega) | (have z := hw.2.2.1 p hp; have z2 := hw.2.1; omega) | (have z := hw.2.2.2.1 v (by omega); have z2 := hw.2.1; first | omega | (have z3 := z.2.2.2.2.2 j hj; omega)) | (have z := hw.2.2.2.2.1 i (by omega); omega) | (have z := hw.2.2.2.2.2.1 i (by omega); omega) | (have z := hw.2.2.2.2.2.2 i (by omega); omega)
