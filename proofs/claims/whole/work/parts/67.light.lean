/-! drifting, lying, counting -/
def sp_w (S : Nat → Nat) (F : rt_F) (p : Nat) : Nat := 1 + sp_f S F 3 p (S 7 + 12)
def sp_G (S : Nat → Nat) (F : rt_F) (k t p : Nat) : Nat := if p = k then p else sp_g S F p (S 7 + t)
def sp_d (G : Nat → Nat → Nat) : Nat → Nat → Nat → Nat
  | 0, _, p => p
  | n + 1, t, p => sp_d G n (t + 1) (G t p)
def sp_l (S : Nat → Nat) (F : rt_F) (k v p : Nat) : Nat := sp_d (sp_G S F k) (min (sp_dl S v + sp_b S F v p) 12 - sp_dl S v) (sp_dl S v) p
def sp_c (S : Nat → Nat) (F : rt_F) (v p : Nat) : Nat := if 12 ≤ sp_dl S v + sp_b S F v p then 1 else if S (31 + v) = 6 then 1 else 0
theorem sp_G_lt {S : Nat → Nat} {F : rt_F} (hw : rn_w S) {k t p : Nat} (hp : p < S 6) : sp_G S F k t p < S 6 := by
  unfold sp_G
  split
  · exact hp
  · exact sp_g_lt hw hp
theorem sp_d_lt {S : Nat → Nat} {F : rt_F} (hw : rn_w S) {k : Nat} : ∀ (n t p : Nat), p < S 6 → sp_d (sp_G S F k) n t p < S 6
  | 0, _, _, h => h
  | n + 1, t, _, h => sp_d_lt hw n (t + 1) _ (sp_G_lt hw h)
theorem sp_d_st {S : Nat → Nat} {F : rt_F} {k : Nat} : ∀ (n t : Nat), sp_d (sp_G S F k) n t k = k
  | 0, _ => rfl
  | n + 1, t => by
    show sp_d (sp_G S F k) n (t + 1) (sp_G S F k t k) = k
    rw [show sp_G S F k t k = k from if_pos rfl]
    exact sp_d_st n (t + 1)
theorem sp_l_lt {S : Nat → Nat} {F : rt_F} (hw : rn_w S) {k v p : Nat} (hp : p < S 6) : sp_l S F k v p < S 6 := sp_d_lt hw _ _ _ hp
theorem sp_c_le (S : Nat → Nat) (F : rt_F) (v p : Nat) : sp_c S F v p ≤ 1 := by
  unfold sp_c
  repeat' split
  all_goals omega
theorem sp_w_le {S : Nat → Nat} {F : rt_F} (hw : cs_w S F) (p : Nat) : sp_w S F p ≤ 991 := by
  have h := (hw.2 p (S (10 + p)) ((S 7 + 12) % 12) (S (24 + p))).2.2.2
  have g : sp_f S F 3 p (S 7 + 12) ≤ 990 := h
  unfold sp_w
  omega
def st_k (k : Nat) (σ : jx_M) : Prop := ∀ p, p < 7 → (nI p = σ 0 20 ↔ p = k)
theorem st_k7 {σ : jx_M} (h : σ 0 20 = -1) : st_k 7 σ := by
  intro p hp
  rw [h]
  refine ⟨fun e => ?_, fun e => absurd e (by omega)⟩
  have z := @ev_pm p (by omega)
  exact absurd e (fun e' => (of_eq_false z) e')
theorem st_kk {σ : jx_M} {k : Nat} (h : σ 0 20 = nI k) (hk : k < 7) : st_k k σ := by
  intro p hp
  rw [h]
  exact nI_eq (by omega) (by omega)
theorem cl_afl {t : jx_T} {S : Nat → Nat} {F : rt_F} {σ : jx_M} {k : Nat} (hw : rn_w S) (hc : nc_l S F σ) (hk : st_k k σ) {b : Nat} (hb : b < 100) : ∀ (m n i p : Nat), min b 12 - i = m → m < n → i < 100 → p < S 6 → b_X2_afloat_6 t n σ (nI b) (nI p) (nI i) = some (nI (sp_d (sp_G S F k) m i p)) := by
  have b6 := hw.2.1
  intro m
  induction m with
  | zero =>
    intro n i p h1 h2 h3 hp
    obtain ⟨n', rfl⟩ : ∃ n', n = n' + 1 := ⟨n - 1, by omega⟩
    show _ = some (nI p)
    simp only [b_X2_afloat_6, g_X2_afloat_6]
    by_cases g : b ≤ i
    · simp (disch := first | omega | assumption) only [ev_add, ev_mul, ev_rem, ev_sub, ev_ltT, ev_ltF, ev_leT, ev_leF, ev_eqT, ev_eqF, ev_cl, ev_in, gd_t, bd_s, lt_e, ev_of, ↓reduceIte, decide_true, true_or, or_true, ev_l0, ev_l1, ev_l2, ev_l3, ev_l4, ev_l5, ev_l6, ev_l7, ev_l8, ev_l9, ev_l10, ev_l11, ev_l12, ev_l13, ev_l14, ev_l15, ev_l16, ev_l17, ev_l18, ev_l19, ev_l20, ev_l21, ev_l22, ev_l23, ev_l24, ev_l25, ev_l26, ev_l30, ev_l31, ev_l32, ev_l37, ev_l40, ev_l41, ev_l43, ev_l48, ev_l49, ev_l51, ev_l55, ev_l57, ev_l58, ev_l60, ev_l61, ev_l79, ev_l85, ev_l91, ev_l99, ev_l100, ev_l107, ev_l115, ev_l127, ev_l140, ev_l215, ev_l220, ev_l920, ev_l9999, ev_nT, ev_nF, ev_nlT, ev_nlF]
    · simp (disch := first | omega | assumption) only [ev_add, ev_mul, ev_rem, ev_sub, ev_ltT, ev_ltF, ev_leT, ev_leF, ev_eqT, ev_eqF, ev_cl, ev_in, gd_t, bd_s, lt_e, ev_of, ↓reduceIte, decide_true, true_or, or_true, ev_l0, ev_l1, ev_l2, ev_l3, ev_l4, ev_l5, ev_l6, ev_l7, ev_l8, ev_l9, ev_l10, ev_l11, ev_l12, ev_l13, ev_l14, ev_l15, ev_l16, ev_l17, ev_l18, ev_l19, ev_l20, ev_l21, ev_l22, ev_l23, ev_l24, ev_l25, ev_l26, ev_l30, ev_l31, ev_l32, ev_l37, ev_l40, ev_l41, ev_l43, ev_l48, ev_l49, ev_l51, ev_l55, ev_l57, ev_l58, ev_l60, ev_l61, ev_l79, ev_l85, ev_l91, ev_l99, ev_l100, ev_l107, ev_l115, ev_l127, ev_l140, ev_l215, ev_l220, ev_l920, ev_l9999, ev_nT, ev_nF, ev_nlT, ev_nlF]
  | succ m ih =>
    intro n i p h1 h2 h3 hp
    obtain ⟨n', rfl⟩ : ∃ n', n = n' + 1 := ⟨n - 1, by omega⟩
    show _ = some (nI (sp_d (sp_G S F k) m (i + 1) (sp_G S F k i p)))
    simp only [b_X2_afloat_6, g_X2_afloat_6]
    by_cases g : p = k
    · rw [show sp_G S F k i p = p from if_pos g, g, sp_d_st]
      rw [g] at hp
      simp (disch := first | omega | assumption) only [ev_add, ev_mul, ev_rem, ev_sub, ev_ltT, ev_ltF, ev_leT, ev_leF, ev_eqT, ev_eqF, ev_cl, ev_in, gd_t, bd_s, lt_e, ev_of, ↓reduceIte, decide_true, true_or, or_true, ev_l0, ev_l1, ev_l2, ev_l3, ev_l4, ev_l5, ev_l6, ev_l7, ev_l8, ev_l9, ev_l10, ev_l11, ev_l12, ev_l13, ev_l14, ev_l15, ev_l16, ev_l17, ev_l18, ev_l19, ev_l20, ev_l21, ev_l22, ev_l23, ev_l24, ev_l25, ev_l26, ev_l30, ev_l31, ev_l32, ev_l37, ev_l40, ev_l41, ev_l43, ev_l48, ev_l49, ev_l51, ev_l55, ev_l57, ev_l58, ev_l60, ev_l61, ev_l79, ev_l85, ev_l91, ev_l99, ev_l100, ev_l107, ev_l115, ev_l127, ev_l140, ev_l215, ev_l220, ev_l920, ev_l9999, ev_nT, ev_nF, ev_nlT, ev_nlF, show (nI k = σ 0 20) = True from eq_true ((hk k (by omega)).mpr rfl)]
    · have c := (hc p hp).1 i (by omega)
      have ih' := ih n' (i + 1) (sp_G S F k i p) (by omega) (by omega) (by omega) (sp_G_lt hw hp)
      rw [show sp_G S F k i p = sp_g S F p (S 7 + i) from if_neg g] at ih' ⊢
      simp (disch := first | omega | assumption) only [ev_add, ev_mul, ev_rem, ev_sub, ev_ltT, ev_ltF, ev_leT, ev_leF, ev_eqT, ev_eqF, ev_cl, ev_in, gd_t, bd_s, lt_e, ev_of, ↓reduceIte, decide_true, true_or, or_true, ev_l0, ev_l1, ev_l2, ev_l3, ev_l4, ev_l5, ev_l6, ev_l7, ev_l8, ev_l9, ev_l10, ev_l11, ev_l12, ev_l13, ev_l14, ev_l15, ev_l16, ev_l17, ev_l18, ev_l19, ev_l20, ev_l21, ev_l22, ev_l23, ev_l24, ev_l25, ev_l26, ev_l30, ev_l31, ev_l32, ev_l37, ev_l40, ev_l41, ev_l43, ev_l48, ev_l49, ev_l51, ev_l55, ev_l57, ev_l58, ev_l60, ev_l61, ev_l79, ev_l85, ev_l91, ev_l99, ev_l100, ev_l107, ev_l115, ev_l127, ev_l140, ev_l215, ev_l220, ev_l920, ev_l9999, ev_nT, ev_nF, ev_nlT, ev_nlF, show (nI p = σ 0 20) = False from eq_false (fun e => g ((hk p (by omega)).mp e)), ll41, c]
      exact ih'
theorem cl_afloat {t : jx_T} {S : Nat → Nat} {F : rt_F} {σ : jx_M} {k : Nat} (hw : rn_w S) (hc : nc_l S F σ) (hk : st_k k σ) {a b p : Nat} (ha : a < 100) (hb : b < 100) (hp : p < S 6) : f_X2_afloat t σ (nI p) (nI a) (nI b) = some (nI (sp_d (sp_G S F k) (min b 12 - a) a p)) := by
  unfold f_X2_afloat
  exact cl_afl hw hc hk hb _ jx_fuel a p rfl (show _ < 1000 by omega) ha hp
theorem cm_la {S : Nat → Nat} {F : rt_F} {σ : jx_M} {k : Nat} (hw : rn_w S) (hc : nc_m S F k σ) {b mi : Nat} (hb : b < 100) (hm : mi ≤ 12) : ∀ (m n i p : Nat), min b mi - i = m → m < n → i < 100 → p < S 6 → b_X6_lampAt_25 n σ (nI mi) (nI b) (nI p) (nI i) = some (nI (sp_d (sp_G S F k) m i p), σ) := by
  have b6 := hw.2.1
  intro m
  induction m with
  | zero =>
    intro n i p h1 h2 h3 hp
    obtain ⟨n', rfl⟩ : ∃ n', n = n' + 1 := ⟨n - 1, by omega⟩
    show _ = some (nI p, σ)
    simp only [b_X6_lampAt_25, g_X6_lampAt_25]
    by_cases g : b ≤ i
    · simp (disch := first | omega | assumption) only [ev_add, ev_mul, ev_rem, ev_sub, ev_ltT, ev_ltF, ev_leT, ev_leF, ev_eqT, ev_eqF, ev_cl, ev_in, gd_t, bd_s, lt_e, ev_of, ↓reduceIte, decide_true, true_or, or_true, ev_l0, ev_l1, ev_l2, ev_l3, ev_l4, ev_l5, ev_l6, ev_l7, ev_l8, ev_l9, ev_l10, ev_l11, ev_l12, ev_l13, ev_l14, ev_l15, ev_l16, ev_l17, ev_l18, ev_l19, ev_l20, ev_l21, ev_l22, ev_l23, ev_l24, ev_l25, ev_l26, ev_l30, ev_l31, ev_l32, ev_l37, ev_l40, ev_l41, ev_l43, ev_l48, ev_l49, ev_l51, ev_l55, ev_l57, ev_l58, ev_l60, ev_l61, ev_l79, ev_l85, ev_l91, ev_l99, ev_l100, ev_l107, ev_l115, ev_l127, ev_l140, ev_l215, ev_l220, ev_l920, ev_l9999, ev_nT, ev_nF, ev_nlT, ev_nlF]
    · simp (disch := first | omega | assumption) only [ev_add, ev_mul, ev_rem, ev_sub, ev_ltT, ev_ltF, ev_leT, ev_leF, ev_eqT, ev_eqF, ev_cl, ev_in, gd_t, bd_s, lt_e, ev_of, ↓reduceIte, decide_true, true_or, or_true, ev_l0, ev_l1, ev_l2, ev_l3, ev_l4, ev_l5, ev_l6, ev_l7, ev_l8, ev_l9, ev_l10, ev_l11, ev_l12, ev_l13, ev_l14, ev_l15, ev_l16, ev_l17, ev_l18, ev_l19, ev_l20, ev_l21, ev_l22, ev_l23, ev_l24, ev_l25, ev_l26, ev_l30, ev_l31, ev_l32, ev_l37, ev_l40, ev_l41, ev_l43, ev_l48, ev_l49, ev_l51, ev_l55, ev_l57, ev_l58, ev_l60, ev_l61, ev_l79, ev_l85, ev_l91, ev_l99, ev_l100, ev_l107, ev_l115, ev_l127, ev_l140, ev_l215, ev_l220, ev_l920, ev_l9999, ev_nT, ev_nF, ev_nlT, ev_nlF]
  | succ m ih =>
    intro n i p h1 h2 h3 hp
    obtain ⟨n', rfl⟩ : ∃ n', n = n' + 1 := ⟨n - 1, by omega⟩
    show _ = some (nI (sp_d (sp_G S F k) m (i + 1) (sp_G S F k i p)), σ)
    simp only [b_X6_lampAt_25, g_X6_lampAt_25]
    have c : σ 5 (7 * i + p) = nI (sp_G S F k i p) := hc.1 i p (by omega) hp
    have ih' := ih n' (i + 1) (sp_G S F k i p) (by omega) (by omega) (by omega) (sp_G_lt hw hp)
    simp (disch := first | omega | assumption) only [ev_add, ev_mul, ev_rem, ev_sub, ev_ltT, ev_ltF, ev_leT, ev_leF, ev_eqT, ev_eqF, ev_cl, ev_in, gd_t, bd_s, lt_e, ev_of, ↓reduceIte, decide_true, true_or, or_true, ev_l0, ev_l1, ev_l2, ev_l3, ev_l4, ev_l5, ev_l6, ev_l7, ev_l8, ev_l9, ev_l10, ev_l11, ev_l12, ev_l13, ev_l14, ev_l15, ev_l16, ev_l17, ev_l18, ev_l19, ev_l20, ev_l21, ev_l22, ev_l23, ev_l24, ev_l25, ev_l26, ev_l30, ev_l31, ev_l32, ev_l37, ev_l40, ev_l41, ev_l43, ev_l48, ev_l49, ev_l51, ev_l55, ev_l57, ev_l58, ev_l60, ev_l61, ev_l79, ev_l85, ev_l91, ev_l99, ev_l100, ev_l107, ev_l115, ev_l127, ev_l140, ev_l215, ev_l220, ev_l920, ev_l9999, ev_nT, ev_nF, ev_nlT, ev_nlF, c]
    exact ih'
theorem cm_drift {S : Nat → Nat} {F : rt_F} {σ : jx_M} {k : Nat} (hw : rn_w S) (hc : nc_m S F k σ) {b p : Nat} (hb : b ≤ 12) (hp : p < S 6) : f_X6_driftOf σ (nI p) (nI b) = some (nI (sp_d (sp_G S F k) b 0 p)) := by
  have b6 := hw.2.1
  have key : ∀ (m n i p : Nat), b - i = m → m < n → i < 100 → p < S 6 → b_X6_driftOf_5 n σ (nI b) (nI p) (nI i) = some (nI (sp_d (sp_G S F k) m i p)) := by
    intro m
    induction m with
    | zero =>
      intro n i p h1 h2 h3 hp
      obtain ⟨n', rfl⟩ : ∃ n', n = n' + 1 := ⟨n - 1, by omega⟩
      show _ = some (nI p)
      simp only [b_X6_driftOf_5, g_X6_driftOf_5]
      simp (disch := first | omega | assumption) only [ev_add, ev_mul, ev_rem, ev_sub, ev_ltT, ev_ltF, ev_leT, ev_leF, ev_eqT, ev_eqF, ev_cl, ev_in, gd_t, bd_s, lt_e, ev_of, ↓reduceIte, decide_true, true_or, or_true, ev_l0, ev_l1, ev_l2, ev_l3, ev_l4, ev_l5, ev_l6, ev_l7, ev_l8, ev_l9, ev_l10, ev_l11, ev_l12, ev_l13, ev_l14, ev_l15, ev_l16, ev_l17, ev_l18, ev_l19, ev_l20, ev_l21, ev_l22, ev_l23, ev_l24, ev_l25, ev_l26, ev_l30, ev_l31, ev_l32, ev_l37, ev_l40, ev_l41, ev_l43, ev_l48, ev_l49, ev_l51, ev_l55, ev_l57, ev_l58, ev_l60, ev_l61, ev_l79, ev_l85, ev_l91, ev_l99, ev_l100, ev_l107, ev_l115, ev_l127, ev_l140, ev_l215, ev_l220, ev_l920, ev_l9999, ev_nT, ev_nF, ev_nlT, ev_nlF]
    | succ m ih =>
      intro n i p h1 h2 h3 hp
      obtain ⟨n', rfl⟩ : ∃ n', n = n' + 1 := ⟨n - 1, by omega⟩
      show _ = some (nI (sp_d (sp_G S F k) m (i + 1) (sp_G S F k i p)))
      simp only [b_X6_driftOf_5, g_X6_driftOf_5]
      have c : σ 5 (7 * i + p) = nI (sp_G S F k i p) := hc.1 i p (by omega) hp
      have ih' := ih n' (i + 1) (sp_G S F k i p) (by omega) (by omega) (by omega) (sp_G_lt hw hp)
      simp (disch := first | omega | assumption) only [ev_add, ev_mul, ev_rem, ev_sub, ev_ltT, ev_ltF, ev_leT, ev_leF, ev_eqT, ev_eqF, ev_cl, ev_in, gd_t, bd_s, lt_e, ev_of, ↓reduceIte, decide_true, true_or, or_true, ev_l0, ev_l1, ev_l2, ev_l3, ev_l4, ev_l5, ev_l6, ev_l7, ev_l8, ev_l9, ev_l10, ev_l11, ev_l12, ev_l13, ev_l14, ev_l15, ev_l16, ev_l17, ev_l18, ev_l19, ev_l20, ev_l21, ev_l22, ev_l23, ev_l24, ev_l25, ev_l26, ev_l30, ev_l31, ev_l32, ev_l37, ev_l40, ev_l41, ev_l43, ev_l48, ev_l49, ev_l51, ev_l55, ev_l57, ev_l58, ev_l60, ev_l61, ev_l79, ev_l85, ev_l91, ev_l99, ev_l100, ev_l107, ev_l115, ev_l127, ev_l140, ev_l215, ev_l220, ev_l920, ev_l9999, ev_nT, ev_nF, ev_nlT, ev_nlF, c]
      exact ih'
  unfold f_X6_driftOf
  exact key b jx_fuel 0 p (by omega) (show _ < 1000 by omega) (by omega) hp
theorem nc_m_c {S : Nat → Nat} {F : rt_F} {k : Nat} {σ σ' : jx_M} (h : nc_m S F k σ) (h5 : σ' 5 = σ 5) (h6 : σ' 6 = σ 6) : nc_m S F k σ' := by
  unfold nc_m
  rw [h5, h6]
  exact h
theorem nc_l_c {S : Nat → Nat} {F : rt_F} {σ σ' : jx_M} (h : nc_l S F σ) (g : ∀ b, 41 ≤ b → b ≤ 56 → σ' b = σ b) : nc_l S F σ' := by
  intro p hp
  obtain ⟨h1, h2, h3⟩ := h p hp
  refine ⟨fun t ht => ?_, fun d hd => ?_, ?_⟩
  · rw [g _ (by omega) (by omega)]; exact h1 t ht
  · rw [g _ (by omega) (by omega)]; exact h2 d hd
  · rw [g _ (by omega) (by omega)]; exact h3
theorem cm_lamp {S : Nat → Nat} {F : rt_F} {σ : jx_M} {k : Nat} (h : cs_m S F σ) (hw : cs_w S F) (hc : nc_m S F k σ) {v p mi : Nat} (hv : v < 6) (hp : p < S 6) (hm : mi ≤ 12) : ∃ σ', f_X6_lampAt σ (nI v) (nI p) (nI mi) = some (nI (sp_d (sp_G S F k) (min (sp_dl S v + sp_b S F v p) mi - sp_dl S v) (sp_dl S v) p), σ') ∧ ml_k σ σ' := by
  have b6 := hw.1.2.1
  obtain ⟨σ1, g1, g2⟩ := cm_burns h hw hv (show p < 7 by omega)
  refine ⟨σ1, ?_, g2⟩
  have d := sp_dl_lt S v
  have e := sp_b_le S F v p
  have la := cm_la hw.1 (nc_m_c hc (g2.1 5 (by omega) (by omega) (by omega)) (g2.1 6 (by omega) (by omega) (by omega))) (b := sp_dl S v + sp_b S F v p) (mi := mi) (by omega) hm _ jx_fuel (sp_dl S v) p rfl (show _ < 1000 by omega) (by omega) hp
  unfold f_X6_lampAt
  simp (disch := first | omega | assumption) only [ev_add, ev_mul, ev_rem, ev_sub, ev_ltT, ev_ltF, ev_leT, ev_leF, ev_eqT, ev_eqF, ev_cl, ev_in, gd_t, bd_s, lt_e, ev_of, ↓reduceIte, decide_true, true_or, or_true, ev_l0, ev_l1, ev_l2, ev_l3, ev_l4, ev_l5, ev_l6, ev_l7, ev_l8, ev_l9, ev_l10, ev_l11, ev_l12, ev_l13, ev_l14, ev_l15, ev_l16, ev_l17, ev_l18, ev_l19, ev_l20, ev_l21, ev_l22, ev_l23, ev_l24, ev_l25, ev_l26, ev_l30, ev_l31, ev_l32, ev_l37, ev_l40, ev_l41, ev_l43, ev_l48, ev_l49, ev_l51, ev_l55, ev_l57, ev_l58, ev_l60, ev_l61, ev_l79, ev_l85, ev_l91, ev_l99, ev_l100, ev_l107, ev_l115, ev_l127, ev_l140, ev_l215, ev_l220, ev_l920, ev_l9999, ev_nT, ev_nF, ev_nlT, ev_nlF, cm_delay h.1 hw.1 hv, g1, la]
theorem cl_light {t : jx_T} {S : Nat → Nat} {F : rt_F} {σ : jx_M} {k : Nat} (h : cs_l t S F σ) (hw : cs_w S F) (hc : nc_l S F σ) (hk : st_k k σ) {v p : Nat} (hv : v < 6) (hp : p < S 6) : f_X2_light t σ (nI v) (nI p) = some (jx_mu (jx_mu σ 58 v (nI (sp_l S F k v p))) 59 v (nI (sp_c S F v p * sp_w S F (sp_l S F k v p)))) := by
  have b6 := hw.1.2.1
  have d := sp_dl_lt S v
  have e := sp_b_le S F v p
  have hL := sp_l_lt (F := F) hw.1 (k := k) (v := v) hp
  have e3 : f_X2_afloat t σ (nI p) (nI (sp_dl S v)) (nI (sp_dl S v + sp_b S F v p)) = some (nI (sp_l S F k v p)) := cl_afloat hw.1 hc hk (by omega) (by omega) hp
  have k0 := (h.1.2.2.1 v hv).1.1
  have b0 := hw.1.1 (31 + v)
  have w0 : σ 56 (sp_l S F k v p) = nI (sp_w S F (sp_l S F k v p)) := (hc _ hL).2.2
  unfold f_X2_light sp_c
  by_cases h1 : 12 ≤ sp_dl S v + sp_b S F v p
  · simp (disch := first | omega | assumption) only [ev_add, ev_mul, ev_rem, ev_sub, ev_ltT, ev_ltF, ev_leT, ev_leF, ev_eqT, ev_eqF, ev_cl, ev_in, gd_t, bd_s, lt_e, ev_of, ↓reduceIte, decide_true, true_or, or_true, ev_l0, ev_l1, ev_l2, ev_l3, ev_l4, ev_l5, ev_l6, ev_l7, ev_l8, ev_l9, ev_l10, ev_l11, ev_l12, ev_l13, ev_l14, ev_l15, ev_l16, ev_l17, ev_l18, ev_l19, ev_l20, ev_l21, ev_l22, ev_l23, ev_l24, ev_l25, ev_l26, ev_l30, ev_l31, ev_l32, ev_l37, ev_l40, ev_l41, ev_l43, ev_l48, ev_l49, ev_l51, ev_l55, ev_l57, ev_l58, ev_l60, ev_l61, ev_l79, ev_l85, ev_l91, ev_l99, ev_l100, ev_l107, ev_l115, ev_l127, ev_l140, ev_l215, ev_l220, ev_l920, ev_l9999, ev_nT, ev_nF, ev_nlT, ev_nlF, cl_delay h hw hv, cl_burns h hw hc hv hp, e3, b_X2_light_56, b_X2_light_61, b_X2_light_88, mu_s, mu_a, w0, Nat.one_mul]
  · by_cases h6 : S (31 + v) = 6
    · simp (disch := first | omega | assumption) only [ev_add, ev_mul, ev_rem, ev_sub, ev_ltT, ev_ltF, ev_leT, ev_leF, ev_eqT, ev_eqF, ev_cl, ev_in, gd_t, bd_s, lt_e, ev_of, ↓reduceIte, decide_true, true_or, or_true, ev_l0, ev_l1, ev_l2, ev_l3, ev_l4, ev_l5, ev_l6, ev_l7, ev_l8, ev_l9, ev_l10, ev_l11, ev_l12, ev_l13, ev_l14, ev_l15, ev_l16, ev_l17, ev_l18, ev_l19, ev_l20, ev_l21, ev_l22, ev_l23, ev_l24, ev_l25, ev_l26, ev_l30, ev_l31, ev_l32, ev_l37, ev_l40, ev_l41, ev_l43, ev_l48, ev_l49, ev_l51, ev_l55, ev_l57, ev_l58, ev_l60, ev_l61, ev_l79, ev_l85, ev_l91, ev_l99, ev_l100, ev_l107, ev_l115, ev_l127, ev_l140, ev_l215, ev_l220, ev_l920, ev_l9999, ev_nT, ev_nF, ev_nlT, ev_nlF, cl_delay h hw hv, cl_burns h hw hc hv hp, e3, b_X2_light_56, b_X2_light_61, b_X2_light_88, mu_s, mu_a, w0, Nat.one_mul, ll8, k0, h6]
    · simp (disch := first | omega | assumption) only [ev_add, ev_mul, ev_rem, ev_sub, ev_ltT, ev_ltF, ev_leT, ev_leF, ev_eqT, ev_eqF, ev_cl, ev_in, gd_t, bd_s, lt_e, ev_of, ↓reduceIte, decide_true, true_or, or_true, ev_l0, ev_l1, ev_l2, ev_l3, ev_l4, ev_l5, ev_l6, ev_l7, ev_l8, ev_l9, ev_l10, ev_l11, ev_l12, ev_l13, ev_l14, ev_l15, ev_l16, ev_l17, ev_l18, ev_l19, ev_l20, ev_l21, ev_l22, ev_l23, ev_l24, ev_l25, ev_l26, ev_l30, ev_l31, ev_l32, ev_l37, ev_l40, ev_l41, ev_l43, ev_l48, ev_l49, ev_l51, ev_l55, ev_l57, ev_l58, ev_l60, ev_l61, ev_l79, ev_l85, ev_l91, ev_l99, ev_l100, ev_l107, ev_l115, ev_l127, ev_l140, ev_l215, ev_l220, ev_l920, ev_l9999, ev_nT, ev_nF, ev_nlT, ev_nlF, cl_delay h hw hv, cl_burns h hw hc hv hp, e3, b_X2_light_56, b_X2_light_61, b_X2_light_88, mu_s, mu_a, w0, Nat.zero_mul, ll8, k0]
def ly_k (σ σ' : jx_M) : Prop := (∀ b, ¬ b = 0 → ¬ b = 3 → ¬ b = 4 → ¬ b = 7 → ¬ b = 8 → σ' b = σ b) ∧ ∀ i, ¬ (11 ≤ i ∧ i ≤ 14) → σ' 0 i = σ 0 i
theorem ly_k_n {σ σ' : jx_M} (h : ly_k σ σ') : nm_k σ σ' := ⟨h.1 1 (by omega) (by omega) (by omega) (by omega) (by omega), h.1 2 (by omega) (by omega) (by omega) (by omega) (by omega), h.1 9 (by omega) (by omega) (by omega) (by omega) (by omega), h.2 3 (by omega), h.2 22 (by omega)⟩
theorem ly_k_t {a b c : jx_M} (h : ly_k a b) (g : ly_k b c) : ly_k a c := ⟨fun x h1 h2 h3 h4 h5 => (g.1 x h1 h2 h3 h4 h5).trans (h.1 x h1 h2 h3 h4 h5), fun i hi => (g.2 i hi).trans (h.2 i hi)⟩
theorem ly_k_r (a : jx_M) : ly_k a a := ⟨fun _ _ _ _ _ _ => rfl, fun _ _ => rfl⟩
theorem ly_ml {a b : jx_M} (h : ml_k a b) : ly_k a b := ⟨fun x h1 h2 h3 _ _ => h.1 x h1 h2 h3, h.2⟩
theorem ly_mu {σ σ' : jx_M} (h : ly_k σ σ') {a i : Nat} {v : Int32} (ha : a = 7 ∨ a = 8) : ly_k σ (jx_mu σ' a i v) := by
  refine ⟨fun b h0 h3 h4 h7 h8 => ?_, fun j hj => ?_⟩
  · rw [mu_a (by omega)]; exact h.1 b h0 h3 h4 h7 h8
  · rw [mu_a (by omega)]; exact h.2 j hj
theorem cm_lays {S : Nat → Nat} {F : rt_F} {σ : jx_M} {k : Nat} (h : cs_m S F σ) (hw : cs_w S F) (hc : nc_m S F k σ) {v p : Nat} (hv : v < 6) (hp : p < S 6) : ∃ σ', f_X6_lays σ (nI v) (nI p) = some σ' ∧ ly_k σ σ' ∧ (∀ u, σ' 7 u = if u = v then nI (sp_l S F k v p) else σ 7 u) ∧ ∀ u, σ' 8 u = if u = v then nI (sp_c S F v p) else σ 8 u := by
  have b6 := hw.1.2.1
  have d := sp_dl_lt S v
  have e := sp_b_le S F v p
  obtain ⟨σ1, g1, g2⟩ := cm_lamp h hw hc hv hp (show 12 ≤ 12 by omega)
  have g1' : f_X6_lampAt σ (nI v) (nI p) (nI 12) = some (nI (sp_l S F k v p), σ1) := g1
  have e1 : jx_mu σ1 7 v (nI (sp_l S F k v p)) 1 = σ 1 := by rw [mu_a (by omega)]; exact (ml_k_n g2).1
  have h2 := cs_m_k h e1
  obtain ⟨σ3, g3, g4⟩ := cm_burns h2 hw hv (show p < 7 by omega)
  have k0 : jx_mu σ1 7 v (nI (sp_l S F k v p)) 1 (31 + v) = nI (S (31 + v)) := h2.1.1 (31 + v) (by omega) (by omega) (by omega)
  have b0 := hw.1.1 (31 + v)
  have q2 : ly_k σ (jx_mu σ1 7 v (nI (sp_l S F k v p))) := ly_mu (ly_ml g2) (by omega)
  have r7 : ∀ u, jx_mu σ1 7 v (nI (sp_l S F k v p)) 7 u = if u = v then nI (sp_l S F k v p) else σ 7 u := by
    intro u
    rw [mu_v, g2.1 7 (by omega) (by omega) (by omega)]
    by_cases e : u = v
    · rw [if_pos e, if_pos ⟨rfl, e⟩]
    · rw [if_neg e, if_neg (fun z => e z.2)]
  have r8 : jx_mu σ1 7 v (nI (sp_l S F k v p)) 8 = σ 8 := by rw [mu_a (by omega)]; exact g2.1 8 (by omega) (by omega) (by omega)
  unfold f_X6_lays sp_c
  by_cases h6 : S (31 + v) = 6
  · refine ⟨jx_mu (jx_mu σ1 7 v (nI (sp_l S F k v p))) 8 v (nI 1), ?_, ly_mu q2 (by omega), fun u => ?_, fun u => ?_⟩
    · simp (disch := first | omega | assumption) only [ev_add, ev_mul, ev_rem, ev_sub, ev_ltT, ev_ltF, ev_leT, ev_leF, ev_eqT, ev_eqF, ev_cl, ev_in, gd_t, bd_s, lt_e, ev_of, ↓reduceIte, decide_true, true_or, or_true, ev_l0, ev_l1, ev_l2, ev_l3, ev_l4, ev_l5, ev_l6, ev_l7, ev_l8, ev_l9, ev_l10, ev_l11, ev_l12, ev_l13, ev_l14, ev_l15, ev_l16, ev_l17, ev_l18, ev_l19, ev_l20, ev_l21, ev_l22, ev_l23, ev_l24, ev_l25, ev_l26, ev_l30, ev_l31, ev_l32, ev_l37, ev_l40, ev_l41, ev_l43, ev_l48, ev_l49, ev_l51, ev_l55, ev_l57, ev_l58, ev_l60, ev_l61, ev_l79, ev_l85, ev_l91, ev_l99, ev_l100, ev_l107, ev_l115, ev_l127, ev_l140, ev_l215, ev_l220, ev_l920, ev_l9999, ev_nT, ev_nF, ev_nlT, ev_nlF, g1', k0, h6, b_X6_lays_50, b_X6_lays_55]
    · rw [mu_a (by omega)]; exact r7 u
    · rw [mu_v, r8]
      by_cases e : u = v
      · rw [if_pos e, if_pos ⟨rfl, e⟩, if_pos h6, ite_self]
      · rw [if_neg e, if_neg (fun z => e z.2)]
  · by_cases h1 : 12 ≤ sp_dl S v + sp_b S F v p
    · refine ⟨jx_mu σ3 8 v (nI 1), ?_, ly_mu (ly_k_t q2 (ly_ml g4)) (by omega), fun u => ?_, fun u => ?_⟩
      · simp (disch := first | omega | assumption) only [ev_add, ev_mul, ev_rem, ev_sub, ev_ltT, ev_ltF, ev_leT, ev_leF, ev_eqT, ev_eqF, ev_cl, ev_in, gd_t, bd_s, lt_e, ev_of, ↓reduceIte, decide_true, true_or, or_true, ev_l0, ev_l1, ev_l2, ev_l3, ev_l4, ev_l5, ev_l6, ev_l7, ev_l8, ev_l9, ev_l10, ev_l11, ev_l12, ev_l13, ev_l14, ev_l15, ev_l16, ev_l17, ev_l18, ev_l19, ev_l20, ev_l21, ev_l22, ev_l23, ev_l24, ev_l25, ev_l26, ev_l30, ev_l31, ev_l32, ev_l37, ev_l40, ev_l41, ev_l43, ev_l48, ev_l49, ev_l51, ev_l55, ev_l57, ev_l58, ev_l60, ev_l61, ev_l79, ev_l85, ev_l91, ev_l99, ev_l100, ev_l107, ev_l115, ev_l127, ev_l140, ev_l215, ev_l220, ev_l920, ev_l9999, ev_nT, ev_nF, ev_nlT, ev_nlF, g1', k0, cm_delay h2.1 hw.1 hv, g3, b_X6_lays_50, b_X6_lays_55]
      · rw [mu_a (by omega), g4.1 7 (by omega) (by omega) (by omega)]; exact r7 u
      · rw [mu_v, g4.1 8 (by omega) (by omega) (by omega), r8]
        by_cases e : u = v
        · rw [if_pos e, if_pos ⟨rfl, e⟩, if_pos h1]
        · rw [if_neg e, if_neg (fun z => e z.2)]
    · refine ⟨jx_mu σ3 8 v (nI 0), ?_, ly_mu (ly_k_t q2 (ly_ml g4)) (by omega), fun u => ?_, fun u => ?_⟩
      · simp (disch := first | omega | assumption) only [ev_add, ev_mul, ev_rem, ev_sub, ev_ltT, ev_ltF, ev_leT, ev_leF, ev_eqT, ev_eqF, ev_cl, ev_in, gd_t, bd_s, lt_e, ev_of, ↓reduceIte, decide_true, true_or, or_true, ev_l0, ev_l1, ev_l2, ev_l3, ev_l4, ev_l5, ev_l6, ev_l7, ev_l8, ev_l9, ev_l10, ev_l11, ev_l12, ev_l13, ev_l14, ev_l15, ev_l16, ev_l17, ev_l18, ev_l19, ev_l20, ev_l21, ev_l22, ev_l23, ev_l24, ev_l25, ev_l26, ev_l30, ev_l31, ev_l32, ev_l37, ev_l40, ev_l41, ev_l43, ev_l48, ev_l49, ev_l51, ev_l55, ev_l57, ev_l58, ev_l60, ev_l61, ev_l79, ev_l85, ev_l91, ev_l99, ev_l100, ev_l107, ev_l115, ev_l127, ev_l140, ev_l215, ev_l220, ev_l920, ev_l9999, ev_nT, ev_nF, ev_nlT, ev_nlF, g1', k0, cm_delay h2.1 hw.1 hv, g3, b_X6_lays_50, b_X6_lays_55]
      · rw [mu_a (by omega), g4.1 7 (by omega) (by omega) (by omega)]; exact r7 u
      · rw [mu_v, g4.1 8 (by omega) (by omega) (by omega), r8]
        by_cases e : u = v
        · rw [if_pos e, if_pos ⟨rfl, e⟩, if_neg h1, if_neg h6]
        · rw [if_neg e, if_neg (fun z => e z.2)]
/-! the whole night -/
def ns_l (n : Nat) (S : Nat → Nat) (F : rt_F) (L C : Nat → Nat) (σ : jx_M) : Prop := ∀ v, v < n → σ 58 v = nI (L v) ∧ σ 59 v = nI (C v * sp_w S F (L v))
def ns_m (n : Nat) (L C : Nat → Nat) (σ : jx_M) : Prop := ∀ v, v < n → σ 7 v = nI (L v) ∧ σ 8 v = nI (C v)
def ns_b (S : Nat → Nat) (L C : Nat → Nat) : Prop := ∀ v, v < S 0 → L v < S 6 ∧ C v ≤ 1
def NL (t : jx_T) (S : Nat → Nat) (F : rt_F) (k : Nat) (L C : Nat → Nat) (σ : jx_M) : Prop := cs_l t S F σ ∧ nc_l S F σ ∧ st_k k σ ∧ ns_l (S 0) S F L C σ
def NM (S : Nat → Nat) (F : rt_F) (k : Nat) (L C : Nat → Nat) (σ : jx_M) : Prop := cs_m S F σ ∧ nc_m S F k σ ∧ ns_m (S 0) L C σ
def lg_k (σ σ' : jx_M) : Prop := ∀ b, ¬ b = 57 → ¬ b = 58 → ¬ b = 59 → σ' b = σ b
theorem lg_n {σ σ' : jx_M} (h : lg_k σ σ') : nl_k σ σ' := ⟨fun b hb => h b (by omega) (by omega) (by omega), fun i _ => congrFun (h 0 (by omega) (by omega) (by omega)) i⟩
theorem lg_t {a b c : jx_M} (h : lg_k a b) (g : lg_k b c) : lg_k a c := fun x h1 h2 h3 => (g x h1 h2 h3).trans (h x h1 h2 h3)
theorem lg_r (a : jx_M) : lg_k a a := fun _ _ _ _ => rfl
theorem lg_mu {σ : jx_M} {v : Nat} {x y : Int32} : lg_k σ (jx_mu (jx_mu σ 58 v x) 59 v y) := fun b h1 h2 h3 => by rw [mu_a h3, mu_a h2]
def tp_l (S : Nat → Nat) (F : rt_F) (k v : Nat) : Nat := sp_l S F k v (sp_s S v)
def tp_c (S : Nat → Nat) (F : rt_F) (v : Nat) : Nat := sp_c S F v (sp_s S v)
theorem tp_b {S : Nat → Nat} {F : rt_F} (hw : rn_w S) {k : Nat} : ns_b S (tp_l S F k) (tp_c S F) := fun v hv => ⟨sp_l_lt hw (sp_s_lt hw hv), sp_c_le S F v _⟩
theorem NL_light {t : jx_T} {S : Nat → Nat} {F : rt_F} {k : Nat} {L C : Nat → Nat} {σ : jx_M} (h : NL t S F k L C σ) (hw : cs_w S F) {v p : Nat} (hv : v < S 0) (hp : p < S 6) : ∃ σ', f_X2_light t σ (nI v) (nI p) = some σ' ∧ lg_k σ σ' ∧ NL t S F k (upN L v (sp_l S F k v p)) (upN C v (sp_c S F v p)) σ' := by
  have b6 := hw.1.2.1
  obtain ⟨h1, h2, h3, h4⟩ := h
  refine ⟨_, cl_light h1 hw h2 h3 (by omega) hp, lg_mu, cs_l_k h1 (lg_n lg_mu), nc_l_c h2 (fun b _ _ => lg_mu b (by omega) (by omega) (by omega)), ?_, ?_⟩
  · unfold st_k
    rw [show jx_mu (jx_mu σ 58 v (nI (sp_l S F k v p))) 59 v (nI (sp_c S F v p * sp_w S F (sp_l S F k v p))) 0 = σ 0 from lg_mu 0 (by omega) (by omega) (by omega)]
    exact h3
  · intro u hu
    by_cases e : u = v
    · subst e
      rw [upN_s, upN_s, mu_a (by omega), mu_s, mu_s]
      exact ⟨rfl, rfl⟩
    · rw [upN_n e, upN_n e, mu_a (by omega), mu_n e, mu_n e, mu_a (by omega)]
      exact h4 u hu
theorem NM_lays {S : Nat → Nat} {F : rt_F} {k : Nat} {L C : Nat → Nat} {σ : jx_M} (h : NM S F k L C σ) (hw : cs_w S F) {v p : Nat} (hv : v < S 0) (hp : p < S 6) : ∃ σ', f_X6_lays σ (nI v) (nI p) = some σ' ∧ ly_k σ σ' ∧ NM S F k (upN L v (sp_l S F k v p)) (upN C v (sp_c S F v p)) σ' := by
  have b6 := hw.1.2.1
  obtain ⟨h1, h2, h3⟩ := h
  obtain ⟨σ', e1, e2, e3, e4⟩ := cm_lays h1 hw h2 (show v < 6 by omega) hp
  refine ⟨σ', e1, e2, cs_m_k h1 (ly_k_n e2).1, nc_m_c h2 (e2.1 5 (by omega) (by omega) (by omega) (by omega) (by omega)) (e2.1 6 (by omega) (by omega) (by omega) (by omega) (by omega)), ?_⟩
  intro u hu
  rw [e3 u, e4 u]
  by_cases e : u = v
  · subst e
    rw [upN_s, upN_s, if_pos rfl, if_pos rfl]
    exact ⟨rfl, rfl⟩
  · rw [upN_n e, upN_n e, if_neg e, if_neg e]
    exact h3 u hu
theorem NL_all {t : jx_T} {S : Nat → Nat} {F : rt_F} {k : Nat} {σ : jx_M} (h : cs_l t S F σ) (hw : cs_w S F) (hc : nc_l S F σ) (hk : st_k k σ) : ∃ σ', f_X2_lightAll t σ = some σ' ∧ lg_k σ σ' ∧ NL t S F k (tp_l S F k) (tp_c S F) σ' := by
  have b6 := hw.1.2.1
  unfold f_X2_lightAll
  refine lq_ (fun n i τ => ∃ σ', b_X2_lightAll_2 t n τ (nI i) = some σ' ∧ lg_k σ σ' ∧ NL t S F k (tp_l S F k) (tp_c S F) σ') (fun i τ => lg_k σ τ ∧ ns_l i S F (tp_l S F k) (tp_c S F) τ) (S 0) ?_ ?_ 0 σ (by omega) (by omega) ⟨lg_r σ, fun v hv => absurd hv (by omega)⟩
  · intro n τ ⟨i1, i2⟩
    have hs := cs_l_k h (lg_n i1)
    have n0 : τ 0 2 = nI (S 0) := hs.1.1.2.2.1
    simp only [b_X2_lightAll_2, g_X2_lightAll_2]
    simp (disch := first | omega | assumption) only [ev_add, ev_mul, ev_rem, ev_sub, ev_ltT, ev_ltF, ev_leT, ev_leF, ev_eqT, ev_eqF, ev_cl, ev_in, gd_t, bd_s, lt_e, ev_of, ↓reduceIte, decide_true, true_or, or_true, ev_l0, ev_l1, ev_l2, ev_l3, ev_l4, ev_l5, ev_l6, ev_l7, ev_l8, ev_l9, ev_l10, ev_l11, ev_l12, ev_l13, ev_l14, ev_l15, ev_l16, ev_l17, ev_l18, ev_l19, ev_l20, ev_l21, ev_l22, ev_l23, ev_l24, ev_l25, ev_l26, ev_l30, ev_l31, ev_l32, ev_l37, ev_l40, ev_l41, ev_l43, ev_l48, ev_l49, ev_l51, ev_l55, ev_l57, ev_l58, ev_l60, ev_l61, ev_l79, ev_l85, ev_l91, ev_l99, ev_l100, ev_l107, ev_l115, ev_l127, ev_l140, ev_l215, ev_l220, ev_l920, ev_l9999, ev_nT, ev_nF, ev_nlT, ev_nlF, n0]
    refine ⟨_, rfl, i1, hs, nc_l_c hc (fun b _ _ => i1 b (by omega) (by omega) (by omega)), ?_, i2⟩
    unfold st_k
    rw [i1 0 (by omega) (by omega) (by omega)]
    exact hk
  · intro n v τ hv ⟨i1, i2⟩ ih
    have hs := cs_l_k h (lg_n i1)
    have n0 : τ 0 2 = nI (S 0) := hs.1.1.2.2.1
    have hk' : st_k k τ := by
      unfold st_k
      rw [i1 0 (by omega) (by omega) (by omega)]
      exact hk
    have li := cl_light hs hw (nc_l_c hc (fun b _ _ => i1 b (by omega) (by omega) (by omega))) hk' (show v < 6 by omega) (sp_s_lt hw.1 hv)
    simp only [b_X2_lightAll_2, g_X2_lightAll_2]
    simp (disch := first | omega | assumption) only [ev_add, ev_mul, ev_rem, ev_sub, ev_ltT, ev_ltF, ev_leT, ev_leF, ev_eqT, ev_eqF, ev_cl, ev_in, gd_t, bd_s, lt_e, ev_of, ↓reduceIte, decide_true, true_or, or_true, ev_l0, ev_l1, ev_l2, ev_l3, ev_l4, ev_l5, ev_l6, ev_l7, ev_l8, ev_l9, ev_l10, ev_l11, ev_l12, ev_l13, ev_l14, ev_l15, ev_l16, ev_l17, ev_l18, ev_l19, ev_l20, ev_l21, ev_l22, ev_l23, ev_l24, ev_l25, ev_l26, ev_l30, ev_l31, ev_l32, ev_l37, ev_l40, ev_l41, ev_l43, ev_l48, ev_l49, ev_l51, ev_l55, ev_l57, ev_l58, ev_l60, ev_l61, ev_l79, ev_l85, ev_l91, ev_l99, ev_l100, ev_l107, ev_l115, ev_l127, ev_l140, ev_l215, ev_l220, ev_l920, ev_l9999, ev_nT, ev_nF, ev_nlT, ev_nlF, n0, cl_sets hs hw hv, li]
    refine ih _ ⟨lg_t i1 lg_mu, fun u hu => ?_⟩
    by_cases e : u = v
    · subst e
      rw [mu_a (by omega), mu_s, mu_s]
      exact ⟨rfl, rfl⟩
    · rw [mu_a (by omega), mu_n e, mu_n e, mu_a (by omega)]
      exact i2 u (by omega)
theorem NM_all {S : Nat → Nat} {F : rt_F} {k : Nat} {σ : jx_M} (h : cs_m S F σ) (hw : cs_w S F) (hc : nc_m S F k σ) : ∃ σ', f_X6_laysAll σ = some σ' ∧ ly_k σ σ' ∧ NM S F k (tp_l S F k) (tp_c S F) σ' := by
  have b6 := hw.1.2.1
  unfold f_X6_laysAll
  refine lq_ (fun n i τ => ∃ σ', b_X6_laysAll_2 n τ (nI i) = some σ' ∧ ly_k σ σ' ∧ NM S F k (tp_l S F k) (tp_c S F) σ') (fun i τ => ly_k σ τ ∧ ns_m i (tp_l S F k) (tp_c S F) τ) (S 0) ?_ ?_ 0 σ (by omega) (by omega) ⟨ly_k_r σ, fun v hv => absurd hv (by omega)⟩
  · intro n τ ⟨i1, i2⟩
    have hs := cs_m_k h (ly_k_n i1).1
    have n0 : τ 1 0 = nI (S 0) := hs.1.1 0 (by omega) (by omega) (by omega)
    simp only [b_X6_laysAll_2, g_X6_laysAll_2]
    simp (disch := first | omega | assumption) only [ev_add, ev_mul, ev_rem, ev_sub, ev_ltT, ev_ltF, ev_leT, ev_leF, ev_eqT, ev_eqF, ev_cl, ev_in, gd_t, bd_s, lt_e, ev_of, ↓reduceIte, decide_true, true_or, or_true, ev_l0, ev_l1, ev_l2, ev_l3, ev_l4, ev_l5, ev_l6, ev_l7, ev_l8, ev_l9, ev_l10, ev_l11, ev_l12, ev_l13, ev_l14, ev_l15, ev_l16, ev_l17, ev_l18, ev_l19, ev_l20, ev_l21, ev_l22, ev_l23, ev_l24, ev_l25, ev_l26, ev_l30, ev_l31, ev_l32, ev_l37, ev_l40, ev_l41, ev_l43, ev_l48, ev_l49, ev_l51, ev_l55, ev_l57, ev_l58, ev_l60, ev_l61, ev_l79, ev_l85, ev_l91, ev_l99, ev_l100, ev_l107, ev_l115, ev_l127, ev_l140, ev_l215, ev_l220, ev_l920, ev_l9999, ev_nT, ev_nF, ev_nlT, ev_nlF, n0]
    exact ⟨_, rfl, i1, hs, nc_m_c hc (i1.1 5 (by omega) (by omega) (by omega) (by omega) (by omega)) (i1.1 6 (by omega) (by omega) (by omega) (by omega) (by omega)), i2⟩
  · intro n v τ hv ⟨i1, i2⟩ ih
    have hs := cs_m_k h (ly_k_n i1).1
    have n0 : τ 1 0 = nI (S 0) := hs.1.1 0 (by omega) (by omega) (by omega)
    have hc' := nc_m_c hc (i1.1 5 (by omega) (by omega) (by omega) (by omega) (by omega)) (i1.1 6 (by omega) (by omega) (by omega) (by omega) (by omega))
    obtain ⟨τ', e1, e2, e3, e4⟩ := cm_lays hs hw hc' (show v < 6 by omega) (sp_s_lt hw.1 hv)
    simp only [b_X6_laysAll_2, g_X6_laysAll_2]
    simp (disch := first | omega | assumption) only [ev_add, ev_mul, ev_rem, ev_sub, ev_ltT, ev_ltF, ev_leT, ev_leF, ev_eqT, ev_eqF, ev_cl, ev_in, gd_t, bd_s, lt_e, ev_of, ↓reduceIte, decide_true, true_or, or_true, ev_l0, ev_l1, ev_l2, ev_l3, ev_l4, ev_l5, ev_l6, ev_l7, ev_l8, ev_l9, ev_l10, ev_l11, ev_l12, ev_l13, ev_l14, ev_l15, ev_l16, ev_l17, ev_l18, ev_l19, ev_l20, ev_l21, ev_l22, ev_l23, ev_l24, ev_l25, ev_l26, ev_l30, ev_l31, ev_l32, ev_l37, ev_l40, ev_l41, ev_l43, ev_l48, ev_l49, ev_l51, ev_l55, ev_l57, ev_l58, ev_l60, ev_l61, ev_l79, ev_l85, ev_l91, ev_l99, ev_l100, ev_l107, ev_l115, ev_l127, ev_l140, ev_l215, ev_l220, ev_l920, ev_l9999, ev_nT, ev_nF, ev_nlT, ev_nlF, n0, cm_sets hs.1 hw.1 hv, e1]
    refine ih _ ⟨ly_k_t i1 e2, fun u hu => ?_⟩
    rw [e3 u, e4 u]
    by_cases e : u = v
    · subst e
      rw [if_pos rfl, if_pos rfl]
      exact ⟨rfl, rfl⟩
    · rw [if_neg e, if_neg e]
      exact i2 u (by omega)
theorem NL_pass {t : jx_T} {S : Nat → Nat} {F : rt_F} {σ : jx_M} (h : cs_l t S F σ) (hw : cs_w S F) (h20 : σ 0 20 = -1) : ∃ σ', f_X2_pass t σ = some σ' ∧ nl_k σ σ' ∧ σ' 0 20 = -1 ∧ NL t S F 7 (tp_l S F 7) (tp_c S F) σ' := by
  obtain ⟨σ1, e1, e2, e3⟩ := chart_e h hw
  have z1 : σ1 0 20 = -1 := (congrFun (e2 0 (by omega) (by omega)) 20).trans h20
  obtain ⟨σ2, e4, e5, e6⟩ := NL_all (cs_l_k h (ch_n e2)) hw e3 (st_k7 z1)
  refine ⟨σ2, ?_, nl_k_t (ch_n e2) (lg_n e5), (congrFun (e5 0 (by omega) (by omega) (by omega)) 20).trans z1, e6⟩
  unfold f_X2_pass
  rw [e1, bd_s, e4, bd_s]
theorem NM_pass {S : Nat → Nat} {F : rt_F} {σ : jx_M} (h : cs_m S F σ) (hw : cs_w S F) : ∃ σ1 σ', f_X6_looksForNight σ = some σ1 ∧ f_X6_laysAll σ1 = some σ' ∧ nm_k σ σ' ∧ NM S F 7 (tp_l S F 7) (tp_c S F) σ' := by
  obtain ⟨σ1, e1, e2, e3⟩ := lfn_e h hw
  obtain ⟨σ2, e4, e5, e6⟩ := NM_all (cs_m_k h (nx_k_n e2).1) hw e3
  exact ⟨σ1, σ2, e1, e4, nm_k_t (nx_k_n e2) (ly_k_n e5), e6⟩
