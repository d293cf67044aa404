/-! the night: where lamps go, by minutes and by place -/
def nc_l (S : Nat → Nat) (F : rt_F) (σ : jx_M) : Prop := ∀ p, p < S 6 → (∀ t, t < 12 → σ (41 + t) p = nI (sp_g S F p (S 7 + t))) ∧ (∀ d, d < 3 → σ (53 + d) p = nI (sp_f S F 2 p (S 7 + d))) ∧ σ 56 p = nI (1 + sp_f S F 3 p (S 7 + 12))
def nc_m (S : Nat → Nat) (F : rt_F) (k : Nat) (σ : jx_M) : Prop := (∀ t p, t < 12 → p < S 6 → σ 5 (7 * t + p) = nI (if p = k then p else sp_g S F p (S 7 + t))) ∧ ∀ p, p < S 6 → σ 6 p = nI (1 + sp_f S F 3 p (S 7 + 12))
def ch_k (σ σ' : jx_M) : Prop := ∀ b, ¬ b = 20 → ¬ (41 ≤ b ∧ b ≤ 56) → σ' b = σ b
theorem ch_n {σ σ' : jx_M} (h : ch_k σ σ') : nl_k σ σ' := ⟨fun b hb => h b (by omega) (by omega), fun i _ => congrFun (h 0 (by omega) (by omega)) i⟩
def nx_k (σ σ' : jx_M) : Prop := (∀ b, ¬ b = 0 → ¬ b = 3 → ¬ b = 4 → ¬ b = 5 → ¬ b = 6 → σ' b = σ b) ∧ ∀ i, ¬ (11 ≤ i ∧ i ≤ 14) → σ' 0 i = σ 0 i
theorem nx_k_n {σ σ' : jx_M} (h : nx_k σ σ') : nm_k σ σ' := ⟨h.1 1 (by omega) (by omega) (by omega) (by omega) (by omega), h.1 2 (by omega) (by omega) (by omega) (by omega) (by omega), h.1 9 (by omega) (by omega) (by omega) (by omega) (by omega), h.2 3 (by omega), h.2 22 (by omega)⟩
theorem ch_s {σ0 σ : jx_M} (h : ch_k σ0 σ) {p a x : Nat} {v : Int32} (hx : 41 ≤ x ∧ x ≤ 56) : ch_k σ0 (jx_mu (lk_m σ p a) x p v) := by
  intro b h1 h2
  rw [mu_a (by omega), lk_k h1]
  exact h b h1 h2
theorem ch_q {σ : jx_M} {p a x q b : Nat} {v : Int32} (hq : ¬ q = p) (hb : ¬ b = 20) : jx_mu (lk_m σ p a) x p v b q = σ b q := by
  rw [mu_n hq, lk_k hb]
theorem ch_c {S : Nat → Nat} {F : rt_F} {σ : jx_M} {p a x : Nat} {v : Int32} (h : ∀ q, q < p → (∀ t, t < 12 → σ (41 + t) q = nI (sp_g S F q (S 7 + t))) ∧ (∀ d, d < 3 → σ (53 + d) q = nI (sp_f S F 2 q (S 7 + d))) ∧ σ 56 q = nI (1 + sp_f S F 3 q (S 7 + 12))) : ∀ q, q < p → (∀ t, t < 12 → jx_mu (lk_m σ p a) x p v (41 + t) q = nI (sp_g S F q (S 7 + t))) ∧ (∀ d, d < 3 → jx_mu (lk_m σ p a) x p v (53 + d) q = nI (sp_f S F 2 q (S 7 + d))) ∧ jx_mu (lk_m σ p a) x p v 56 q = nI (1 + sp_f S F 3 q (S 7 + 12)) := by
  intro q hq
  obtain ⟨h1, h2, h3⟩ := h q hq
  refine ⟨fun t ht => ?_, fun d hd => ?_, ?_⟩
  · rw [ch_q (by omega) (by omega)]; exact h1 t ht
  · rw [ch_q (by omega) (by omega)]; exact h2 d hd
  · rw [ch_q (by omega) (by omega)]; exact h3
theorem ll41 : ∀ t, t < 12 → ll_len (41 + t) = 7 := by decide
theorem ll53 : ∀ t, t < 3 → ll_len (53 + t) = 7 := by decide
def ci_ (S : Nat → Nat) (F : rt_F) (σ0 : jx_M) (p : Nat) (σ : jx_M) : Prop := ch_k σ0 σ ∧ ∀ q, q < p → (∀ t, t < 12 → σ (41 + t) q = nI (sp_g S F q (S 7 + t))) ∧ (∀ d, d < 3 → σ (53 + d) q = nI (sp_f S F 2 q (S 7 + d))) ∧ σ 56 q = nI (1 + sp_f S F 3 q (S 7 + 12))
theorem chart54 {t : jx_T} {S : Nat → Nat} {F : rt_F} {σ0 : jx_M} (h : cs_l t S F σ0) (hw : cs_w S F) {p : Nat} (hp : p < S 6) (k2 : jx_M → Int32 → Option jx_M) (σ : jx_M) (h0 : ci_ S F σ0 p σ) (h1 : ∀ t, t < 12 → σ (41 + t) p = nI (sp_g S F p (S 7 + t))) : ∃ σ', b_X2_chart_54 t k2 jx_fuel σ (nI p) (nI 0) = k2 σ' (nI (p + 1)) ∧ ci_ S F σ0 (p + 1) σ' := by
  have b6 := hw.1.2.1
  have b7 := hw.1.1 7
  refine lq_ (fun n d σ => ∃ σ', b_X2_chart_54 t k2 n σ (nI p) (nI d) = k2 σ' (nI (p + 1)) ∧ ci_ S F σ0 (p + 1) σ') (fun d σ => ci_ S F σ0 p σ ∧ (∀ t, t < 12 → σ (41 + t) p = nI (sp_g S F p (S 7 + t))) ∧ ∀ e, e < d → σ (53 + e) p = nI (sp_f S F 2 p (S 7 + e))) 3 ?_ ?_ 0 σ (by omega) (by omega) ⟨h0, h1, fun e he => absurd he (by omega)⟩
  · intro n σ ⟨i1, i2, i3⟩
    have hs := cs_l_k h (ch_n i1.1)
    have n7 : σ 0 1 = nI (S 7) := hs.1.1.2.1
    simp only [b_X2_chart_54, g_X2_chart_54]
    simp (disch := first | omega | assumption) only [ev_add, ev_mul, ev_rem, ev_sub, ev_ltT, ev_ltF, ev_leT, ev_leF, ev_eqT, ev_eqF, ev_cl, ev_in, gd_t, bd_s, lt_e, ev_of, ↓reduceIte, decide_true, true_or, or_true, ev_l0, ev_l1, ev_l2, ev_l3, ev_l4, ev_l5, ev_l6, ev_l7, ev_l8, ev_l9, ev_l10, ev_l11, ev_l12, ev_l13, ev_l14, ev_l15, ev_l16, ev_l17, ev_l18, ev_l19, ev_l20, ev_l21, ev_l22, ev_l23, ev_l24, ev_l25, ev_l26, ev_l30, ev_l31, ev_l32, ev_l37, ev_l40, ev_l41, ev_l43, ev_l48, ev_l49, ev_l51, ev_l55, ev_l57, ev_l58, ev_l60, ev_l61, ev_l79, ev_l85, ev_l91, ev_l99, ev_l100, ev_l107, ev_l115, ev_l127, ev_l140, ev_l215, ev_l220, ev_l920, ev_l9999, ev_nT, ev_nF, ev_nlT, ev_nlF, n7, cl_weight (a := S 7 + 12) hs hw hp (by omega)]
    refine ⟨_, rfl, ch_s i1.1 (by omega), fun q hq => ?_⟩
    by_cases e : q = p
    · subst e
      refine ⟨fun t ht => ?_, fun d hd => ?_, mu_s⟩
      · rw [mu_a (by omega), lk_k (by omega)]; exact i2 t ht
      · rw [mu_a (by omega), lk_k (by omega)]; exact i3 d hd
    · exact ch_c i1.2 q (by omega)
  · intro n d σ hd ⟨i1, i2, i3⟩ ih
    have hs := cs_l_k h (ch_n i1.1)
    have n7 : σ 0 1 = nI (S 7) := hs.1.1.2.1
    simp only [b_X2_chart_54, g_X2_chart_54]
    simp (disch := first | omega | assumption) only [ev_add, ev_mul, ev_rem, ev_sub, ev_ltT, ev_ltF, ev_leT, ev_leF, ev_eqT, ev_eqF, ev_cl, ev_in, gd_t, bd_s, lt_e, ev_of, ↓reduceIte, decide_true, true_or, or_true, ev_l0, ev_l1, ev_l2, ev_l3, ev_l4, ev_l5, ev_l6, ev_l7, ev_l8, ev_l9, ev_l10, ev_l11, ev_l12, ev_l13, ev_l14, ev_l15, ev_l16, ev_l17, ev_l18, ev_l19, ev_l20, ev_l21, ev_l22, ev_l23, ev_l24, ev_l25, ev_l26, ev_l30, ev_l31, ev_l32, ev_l37, ev_l40, ev_l41, ev_l43, ev_l48, ev_l49, ev_l51, ev_l55, ev_l57, ev_l58, ev_l60, ev_l61, ev_l79, ev_l85, ev_l91, ev_l99, ev_l100, ev_l107, ev_l115, ev_l127, ev_l140, ev_l215, ev_l220, ev_l920, ev_l9999, ev_nT, ev_nF, ev_nlT, ev_nlF, n7, cl_filled (a := S 7 + d) hs hw hp (by omega), ll53]
    refine ih _ ⟨⟨ch_s i1.1 (by omega), ch_c i1.2⟩, fun t ht => ?_, fun e he => ?_⟩
    · rw [mu_a (by omega), lk_k (by omega)]; exact i2 t ht
    · by_cases g : e = d
      · subst g; exact mu_s
      · rw [mu_a (by omega), lk_k (by omega)]; exact i3 e (by omega)
theorem chart15 {t : jx_T} {S : Nat → Nat} {F : rt_F} {σ0 : jx_M} (h : cs_l t S F σ0) (hw : cs_w S F) {p : Nat} (hp : p < S 6) (k2 : jx_M → Int32 → Option jx_M) (σ : jx_M) (h0 : ci_ S F σ0 p σ) : ∃ σ', b_X2_chart_15 t k2 jx_fuel σ (nI p) (nI 0) = k2 σ' (nI (p + 1)) ∧ ci_ S F σ0 (p + 1) σ' := by
  have b6 := hw.1.2.1
  have b7 := hw.1.1 7
  refine lq_ (fun n d σ => ∃ σ', b_X2_chart_15 t k2 n σ (nI p) (nI d) = k2 σ' (nI (p + 1)) ∧ ci_ S F σ0 (p + 1) σ') (fun d σ => ci_ S F σ0 p σ ∧ ∀ e, e < d → σ (41 + e) p = nI (sp_g S F p (S 7 + e))) 12 ?_ ?_ 0 σ (by omega) (by omega) ⟨h0, fun e he => absurd he (by omega)⟩
  · intro n σ ⟨i1, i2⟩
    simp only [b_X2_chart_15, g_X2_chart_15]
    simp (disch := first | omega | assumption) only [ev_add, ev_mul, ev_rem, ev_sub, ev_ltT, ev_ltF, ev_leT, ev_leF, ev_eqT, ev_eqF, ev_cl, ev_in, gd_t, bd_s, lt_e, ev_of, ↓reduceIte, decide_true, true_or, or_true, ev_l0, ev_l1, ev_l2, ev_l3, ev_l4, ev_l5, ev_l6, ev_l7, ev_l8, ev_l9, ev_l10, ev_l11, ev_l12, ev_l13, ev_l14, ev_l15, ev_l16, ev_l17, ev_l18, ev_l19, ev_l20, ev_l21, ev_l22, ev_l23, ev_l24, ev_l25, ev_l26, ev_l30, ev_l31, ev_l32, ev_l37, ev_l40, ev_l41, ev_l43, ev_l48, ev_l49, ev_l51, ev_l55, ev_l57, ev_l58, ev_l60, ev_l61, ev_l79, ev_l85, ev_l91, ev_l99, ev_l100, ev_l107, ev_l115, ev_l127, ev_l140, ev_l215, ev_l220, ev_l920, ev_l9999, ev_nT, ev_nF, ev_nlT, ev_nlF]
    exact chart54 h hw hp k2 σ i1 i2
  · intro n d σ hd ⟨i1, i2⟩ ih
    have hs := cs_l_k h (ch_n i1.1)
    have n7 : σ 0 1 = nI (S 7) := hs.1.1.2.1
    simp only [b_X2_chart_15, g_X2_chart_15]
    simp (disch := first | omega | assumption) only [ev_add, ev_mul, ev_rem, ev_sub, ev_ltT, ev_ltF, ev_leT, ev_leF, ev_eqT, ev_eqF, ev_cl, ev_in, gd_t, bd_s, lt_e, ev_of, ↓reduceIte, decide_true, true_or, or_true, ev_l0, ev_l1, ev_l2, ev_l3, ev_l4, ev_l5, ev_l6, ev_l7, ev_l8, ev_l9, ev_l10, ev_l11, ev_l12, ev_l13, ev_l14, ev_l15, ev_l16, ev_l17, ev_l18, ev_l19, ev_l20, ev_l21, ev_l22, ev_l23, ev_l24, ev_l25, ev_l26, ev_l30, ev_l31, ev_l32, ev_l37, ev_l40, ev_l41, ev_l43, ev_l48, ev_l49, ev_l51, ev_l55, ev_l57, ev_l58, ev_l60, ev_l61, ev_l79, ev_l85, ev_l91, ev_l99, ev_l100, ev_l107, ev_l115, ev_l127, ev_l140, ev_l215, ev_l220, ev_l920, ev_l9999, ev_nT, ev_nF, ev_nlT, ev_nlF, n7, cl_goal (a := S 7 + d) hs hw hp (by omega), ll41]
    refine ih _ ⟨⟨ch_s i1.1 (by omega), ch_c i1.2⟩, fun e he => ?_⟩
    by_cases g : e = d
    · subst g; exact mu_s
    · rw [mu_a (by omega), lk_k (by omega)]; exact i2 e (by omega)
theorem chart_e {t : jx_T} {S : Nat → Nat} {F : rt_F} {σ : jx_M} (h : cs_l t S F σ) (hw : cs_w S F) : ∃ σ', f_X2_chart t σ = some σ' ∧ ch_k σ σ' ∧ nc_l S F σ' := by
  have b6 := hw.1.2.1
  have b7 := hw.1.1 7
  unfold f_X2_chart
  refine lq_ (fun n p τ => ∃ σ', b_X2_chart_2 t n τ (nI p) = some σ' ∧ ch_k σ σ' ∧ nc_l S F σ') (fun p τ => ci_ S F σ p τ) (S 6) ?_ ?_ 0 σ (by omega) (by omega) ⟨fun _ _ _ => rfl, fun q hq => absurd hq (by omega)⟩
  · intro n τ i1
    have n6 : τ 0 0 = nI (S 6) := (cs_l_k h (ch_n i1.1)).1.1.1
    simp only [b_X2_chart_2, g_X2_chart_2]
    simp (disch := first | omega | assumption) only [ev_add, ev_mul, ev_rem, ev_sub, ev_ltT, ev_ltF, ev_leT, ev_leF, ev_eqT, ev_eqF, ev_cl, ev_in, gd_t, bd_s, lt_e, ev_of, ↓reduceIte, decide_true, true_or, or_true, ev_l0, ev_l1, ev_l2, ev_l3, ev_l4, ev_l5, ev_l6, ev_l7, ev_l8, ev_l9, ev_l10, ev_l11, ev_l12, ev_l13, ev_l14, ev_l15, ev_l16, ev_l17, ev_l18, ev_l19, ev_l20, ev_l21, ev_l22, ev_l23, ev_l24, ev_l25, ev_l26, ev_l30, ev_l31, ev_l32, ev_l37, ev_l40, ev_l41, ev_l43, ev_l48, ev_l49, ev_l51, ev_l55, ev_l57, ev_l58, ev_l60, ev_l61, ev_l79, ev_l85, ev_l91, ev_l99, ev_l100, ev_l107, ev_l115, ev_l127, ev_l140, ev_l215, ev_l220, ev_l920, ev_l9999, ev_nT, ev_nF, ev_nlT, ev_nlF, n6]
    exact ⟨_, rfl, i1.1, i1.2⟩
  · intro n p τ hp i1 ih
    have n6 : τ 0 0 = nI (S 6) := (cs_l_k h (ch_n i1.1)).1.1.1
    simp only [b_X2_chart_2, g_X2_chart_2]
    simp (disch := first | omega | assumption) only [ev_add, ev_mul, ev_rem, ev_sub, ev_ltT, ev_ltF, ev_leT, ev_leF, ev_eqT, ev_eqF, ev_cl, ev_in, gd_t, bd_s, lt_e, ev_of, ↓reduceIte, decide_true, true_or, or_true, ev_l0, ev_l1, ev_l2, ev_l3, ev_l4, ev_l5, ev_l6, ev_l7, ev_l8, ev_l9, ev_l10, ev_l11, ev_l12, ev_l13, ev_l14, ev_l15, ev_l16, ev_l17, ev_l18, ev_l19, ev_l20, ev_l21, ev_l22, ev_l23, ev_l24, ev_l25, ev_l26, ev_l30, ev_l31, ev_l32, ev_l37, ev_l40, ev_l41, ev_l43, ev_l48, ev_l49, ev_l51, ev_l55, ev_l57, ev_l58, ev_l60, ev_l61, ev_l79, ev_l85, ev_l91, ev_l99, ev_l100, ev_l107, ev_l115, ev_l127, ev_l140, ev_l215, ev_l220, ev_l920, ev_l9999, ev_nT, ev_nF, ev_nlT, ev_nlF, n6]
    obtain ⟨τ', e1, e2⟩ := chart15 h hw hp (b_X2_chart_2 t n) τ i1
    rw [e1]
    exact ih _ e2
/-! the reference -/
def mi_ (S : Nat → Nat) (F : rt_F) (σ0 : jx_M) (u : Nat) (σ : jx_M) : Prop := nx_k σ0 σ ∧ ∀ t p, t < u → p < S 6 → σ 5 (7 * t + p) = nI (sp_g S F p (S 7 + t))
theorem nx_s {σ0 σ σ1 : jx_M} (h : nx_k σ0 σ) (g : ml_k σ σ1) {x i : Nat} {v : Int32} (hx : x = 5 ∨ x = 6) : nx_k σ0 (jx_mu σ1 x i v) := by
  refine ⟨fun b h0 h3 h4 h5 h6 => ?_, fun j hj => ?_⟩
  · rw [mu_a (by omega), g.1 b h0 h3 h4]; exact h.1 b h0 h3 h4 h5 h6
  · rw [mu_a (by omega), g.2 j hj]; exact h.2 j hj
theorem lfn10 {S : Nat → Nat} {F : rt_F} {σ0 : jx_M} (h : cs_m S F σ0) (hw : cs_w S F) {u : Nat} (hu : u < 12) (k2 : jx_M → Int32 → Option jx_M) (σ : jx_M) (h0 : mi_ S F σ0 u σ) : ∃ σ', b_X6_looksForNight_10 k2 jx_fuel σ (nI u) (nI 0) = k2 σ' (nI (u + 1)) ∧ mi_ S F σ0 (u + 1) σ' := by
  have b6 := hw.1.2.1
  have b7 := hw.1.1 7
  refine lq_ (fun n p σ => ∃ σ', b_X6_looksForNight_10 k2 n σ (nI u) (nI p) = k2 σ' (nI (u + 1)) ∧ mi_ S F σ0 (u + 1) σ') (fun p σ => mi_ S F σ0 u σ ∧ ∀ q, q < p → σ 5 (7 * u + q) = nI (sp_g S F q (S 7 + u))) (S 6) ?_ ?_ 0 σ (by omega) (by omega) ⟨h0, fun e he => absurd he (by omega)⟩
  · intro n σ ⟨i1, i2⟩
    have m6 : σ 1 6 = nI (S 6) := by rw [(nx_k_n i1.1).1]; exact h.1.1 6 (by omega) (by omega) (by omega)
    simp only [b_X6_looksForNight_10, g_X6_looksForNight_10]
    simp (disch := first | omega | assumption) only [ev_add, ev_mul, ev_rem, ev_sub, ev_ltT, ev_ltF, ev_leT, ev_leF, ev_eqT, ev_eqF, ev_cl, ev_in, gd_t, bd_s, lt_e, ev_of, ↓reduceIte, decide_true, true_or, or_true, ev_l0, ev_l1, ev_l2, ev_l3, ev_l4, ev_l5, ev_l6, ev_l7, ev_l8, ev_l9, ev_l10, ev_l11, ev_l12, ev_l13, ev_l14, ev_l15, ev_l16, ev_l17, ev_l18, ev_l19, ev_l20, ev_l21, ev_l22, ev_l23, ev_l24, ev_l25, ev_l26, ev_l30, ev_l31, ev_l32, ev_l37, ev_l40, ev_l41, ev_l43, ev_l48, ev_l49, ev_l51, ev_l55, ev_l57, ev_l58, ev_l60, ev_l61, ev_l79, ev_l85, ev_l91, ev_l99, ev_l100, ev_l107, ev_l115, ev_l127, ev_l140, ev_l215, ev_l220, ev_l920, ev_l9999, ev_nT, ev_nF, ev_nlT, ev_nlF, m6]
    refine ⟨_, rfl, i1.1, fun t p ht hp => ?_⟩
    by_cases e : t = u
    · subst e; exact i2 p hp
    · exact i1.2 t p (by omega) hp
  · intro n p σ hp ⟨i1, i2⟩ ih
    have e1 : σ 1 = σ0 1 := (nx_k_n i1.1).1
    have hs := cs_m_k h e1
    have m6 : σ 1 6 = nI (S 6) := hs.1.1 6 (by omega) (by omega) (by omega)
    have m7 : σ 1 7 = nI (S 7) := hs.1.1 7 (by omega) (by omega) (by omega)
    obtain ⟨σ1, g1, g2, -, -⟩ := cm_goes hs hw hp (show S 7 + u < 2 ^ 31 by omega)
    simp only [b_X6_looksForNight_10, g_X6_looksForNight_10]
    simp (disch := first | omega | assumption) only [ev_add, ev_mul, ev_rem, ev_sub, ev_ltT, ev_ltF, ev_leT, ev_leF, ev_eqT, ev_eqF, ev_cl, ev_in, gd_t, bd_s, lt_e, ev_of, ↓reduceIte, decide_true, true_or, or_true, ev_l0, ev_l1, ev_l2, ev_l3, ev_l4, ev_l5, ev_l6, ev_l7, ev_l8, ev_l9, ev_l10, ev_l11, ev_l12, ev_l13, ev_l14, ev_l15, ev_l16, ev_l17, ev_l18, ev_l19, ev_l20, ev_l21, ev_l22, ev_l23, ev_l24, ev_l25, ev_l26, ev_l30, ev_l31, ev_l32, ev_l37, ev_l40, ev_l41, ev_l43, ev_l48, ev_l49, ev_l51, ev_l55, ev_l57, ev_l58, ev_l60, ev_l61, ev_l79, ev_l85, ev_l91, ev_l99, ev_l100, ev_l107, ev_l115, ev_l127, ev_l140, ev_l215, ev_l220, ev_l920, ev_l9999, ev_nT, ev_nF, ev_nlT, ev_nlF, m6, m7, g1]
    have f5 : σ1 5 = σ 5 := g2.1 5 (by omega) (by omega) (by omega)
    refine ih _ ⟨⟨nx_s i1.1 g2 (by omega), fun t q ht hq => ?_⟩, fun q hq => ?_⟩
    · rw [mu_n (by omega), f5]; exact i1.2 t q ht hq
    · by_cases g : q = p
      · subst g; exact mu_s
      · rw [mu_n (by omega), f5]; exact i2 q (by omega)
theorem lfn60 {S : Nat → Nat} {F : rt_F} {σ0 : jx_M} (h : cs_m S F σ0) (hw : cs_w S F) (σ : jx_M) (h0 : mi_ S F σ0 12 σ) : ∃ σ', b_X6_looksForNight_60 jx_fuel σ (nI 0) = some σ' ∧ nx_k σ0 σ' ∧ nc_m S F 7 σ' := by
  have b6 := hw.1.2.1
  have b7 := hw.1.1 7
  refine lq_ (fun n p σ => ∃ σ', b_X6_looksForNight_60 n σ (nI p) = some σ' ∧ nx_k σ0 σ' ∧ nc_m S F 7 σ') (fun p σ => mi_ S F σ0 12 σ ∧ ∀ q, q < p → σ 6 q = nI (1 + sp_f S F 3 q (S 7 + 12))) (S 6) ?_ ?_ 0 σ (by omega) (by omega) ⟨h0, fun e he => absurd he (by omega)⟩
  · intro n σ ⟨i1, i2⟩
    have m6 : σ 1 6 = nI (S 6) := by rw [(nx_k_n i1.1).1]; exact h.1.1 6 (by omega) (by omega) (by omega)
    simp only [b_X6_looksForNight_60, g_X6_looksForNight_60]
    simp (disch := first | omega | assumption) only [ev_add, ev_mul, ev_rem, ev_sub, ev_ltT, ev_ltF, ev_leT, ev_leF, ev_eqT, ev_eqF, ev_cl, ev_in, gd_t, bd_s, lt_e, ev_of, ↓reduceIte, decide_true, true_or, or_true, ev_l0, ev_l1, ev_l2, ev_l3, ev_l4, ev_l5, ev_l6, ev_l7, ev_l8, ev_l9, ev_l10, ev_l11, ev_l12, ev_l13, ev_l14, ev_l15, ev_l16, ev_l17, ev_l18, ev_l19, ev_l20, ev_l21, ev_l22, ev_l23, ev_l24, ev_l25, ev_l26, ev_l30, ev_l31, ev_l32, ev_l37, ev_l40, ev_l41, ev_l43, ev_l48, ev_l49, ev_l51, ev_l55, ev_l57, ev_l58, ev_l60, ev_l61, ev_l79, ev_l85, ev_l91, ev_l99, ev_l100, ev_l107, ev_l115, ev_l127, ev_l140, ev_l215, ev_l220, ev_l920, ev_l9999, ev_nT, ev_nF, ev_nlT, ev_nlF, m6]
    refine ⟨_, rfl, i1.1, fun t p ht hp => ?_, i2⟩
    rw [if_neg (by omega)]
    exact i1.2 t p ht hp
  · intro n p σ hp ⟨i1, i2⟩ ih
    have e1 : σ 1 = σ0 1 := (nx_k_n i1.1).1
    have hs := cs_m_k h e1
    have m6 : σ 1 6 = nI (S 6) := hs.1.1 6 (by omega) (by omega) (by omega)
    have m7 : σ 1 7 = nI (S 7) := hs.1.1 7 (by omega) (by omega) (by omega)
    obtain ⟨σ1, g1, g2, -, -, -, g3⟩ := cm_looks hs hw (show p < 7 by omega) (show S 7 + 12 < 2 ^ 31 by omega)
    simp only [b_X6_looksForNight_60, g_X6_looksForNight_60]
    simp (disch := first | omega | assumption) only [ev_add, ev_mul, ev_rem, ev_sub, ev_ltT, ev_ltF, ev_leT, ev_leF, ev_eqT, ev_eqF, ev_cl, ev_in, gd_t, bd_s, lt_e, ev_of, ↓reduceIte, decide_true, true_or, or_true, ev_l0, ev_l1, ev_l2, ev_l3, ev_l4, ev_l5, ev_l6, ev_l7, ev_l8, ev_l9, ev_l10, ev_l11, ev_l12, ev_l13, ev_l14, ev_l15, ev_l16, ev_l17, ev_l18, ev_l19, ev_l20, ev_l21, ev_l22, ev_l23, ev_l24, ev_l25, ev_l26, ev_l30, ev_l31, ev_l32, ev_l37, ev_l40, ev_l41, ev_l43, ev_l48, ev_l49, ev_l51, ev_l55, ev_l57, ev_l58, ev_l60, ev_l61, ev_l79, ev_l85, ev_l91, ev_l99, ev_l100, ev_l107, ev_l115, ev_l127, ev_l140, ev_l215, ev_l220, ev_l920, ev_l9999, ev_nT, ev_nF, ev_nlT, ev_nlF, m6, m7, g1, g3]
    refine ih _ ⟨⟨nx_s i1.1 g2 (by omega), fun t q ht hq => ?_⟩, fun q hq => ?_⟩
    · rw [mu_a (by omega), g2.1 5 (by omega) (by omega) (by omega)]; exact i1.2 t q ht hq
    · by_cases g : q = p
      · subst g; exact mu_s
      · rw [mu_n (by omega), g2.1 6 (by omega) (by omega) (by omega)]; exact i2 q (by omega)
theorem lfn_e {S : Nat → Nat} {F : rt_F} {σ : jx_M} (h : cs_m S F σ) (hw : cs_w S F) : ∃ σ', f_X6_looksForNight σ = some σ' ∧ nx_k σ σ' ∧ nc_m S F 7 σ' := by
  have b6 := hw.1.2.1
  unfold f_X6_looksForNight
  refine lq_ (fun n u τ => ∃ σ', b_X6_looksForNight_2 n τ (nI u) = some σ' ∧ nx_k σ σ' ∧ nc_m S F 7 σ') (fun u τ => mi_ S F σ u τ) 12 ?_ ?_ 0 σ (by omega) (by omega) ⟨⟨fun _ _ _ _ _ _ => rfl, fun _ _ => rfl⟩, fun t p ht => absurd ht (by omega)⟩
  · intro n τ i1
    simp only [b_X6_looksForNight_2, g_X6_looksForNight_2]
    simp (disch := first | omega | assumption) only [ev_add, ev_mul, ev_rem, ev_sub, ev_ltT, ev_ltF, ev_leT, ev_leF, ev_eqT, ev_eqF, ev_cl, ev_in, gd_t, bd_s, lt_e, ev_of, ↓reduceIte, decide_true, true_or, or_true, ev_l0, ev_l1, ev_l2, ev_l3, ev_l4, ev_l5, ev_l6, ev_l7, ev_l8, ev_l9, ev_l10, ev_l11, ev_l12, ev_l13, ev_l14, ev_l15, ev_l16, ev_l17, ev_l18, ev_l19, ev_l20, ev_l21, ev_l22, ev_l23, ev_l24, ev_l25, ev_l26, ev_l30, ev_l31, ev_l32, ev_l37, ev_l40, ev_l41, ev_l43, ev_l48, ev_l49, ev_l51, ev_l55, ev_l57, ev_l58, ev_l60, ev_l61, ev_l79, ev_l85, ev_l91, ev_l99, ev_l100, ev_l107, ev_l115, ev_l127, ev_l140, ev_l215, ev_l220, ev_l920, ev_l9999, ev_nT, ev_nF, ev_nlT, ev_nlF]
    exact lfn60 h hw τ i1
  · intro n u τ hu i1 ih
    simp only [b_X6_looksForNight_2, g_X6_looksForNight_2]
    simp (disch := first | omega | assumption) only [ev_add, ev_mul, ev_rem, ev_sub, ev_ltT, ev_ltF, ev_leT, ev_leF, ev_eqT, ev_eqF, ev_cl, ev_in, gd_t, bd_s, lt_e, ev_of, ↓reduceIte, decide_true, true_or, or_true, ev_l0, ev_l1, ev_l2, ev_l3, ev_l4, ev_l5, ev_l6, ev_l7, ev_l8, ev_l9, ev_l10, ev_l11, ev_l12, ev_l13, ev_l14, ev_l15, ev_l16, ev_l17, ev_l18, ev_l19, ev_l20, ev_l21, ev_l22, ev_l23, ev_l24, ev_l25, ev_l26, ev_l30, ev_l31, ev_l32, ev_l37, ev_l40, ev_l41, ev_l43, ev_l48, ev_l49, ev_l51, ev_l55, ev_l57, ev_l58, ev_l60, ev_l61, ev_l79, ev_l85, ev_l91, ev_l99, ev_l100, ev_l107, ev_l115, ev_l127, ev_l140, ev_l215, ev_l220, ev_l920, ev_l9999, ev_nT, ev_nF, ev_nlT, ev_nlF]
    obtain ⟨τ', e1, e2⟩ := lfn10 h hw hu (b_X6_looksForNight_2 n) τ i1
    rw [e1]
    exact ih _ e2
