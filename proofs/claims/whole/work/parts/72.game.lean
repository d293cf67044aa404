/-! set, game -/
def sp_mo (S : Nat → Nat) (F : rt_F) (L C : Nat → Nat) (v : Nat) : Int32 := nI (sp_q (sp_W S F L C) (fun u => S (49 + u)) (S (49 + v)) (S 0)) - nI (sp_q (sp_W S F L C) (fun u => S (49 + u)) (1 - S (49 + v)) (S 0))
theorem cl_leadOf {t : jx_T} {S : Nat → Nat} {F : rt_F} {k : Nat} {L C : Nat → Nat} {σ : jx_M} (h : NL t S F k L C σ) (hw : cs_w S F) {v : Nat} (hv : v < S 0) : f_X2_leadOf t σ (nI v) = some (sp_mo S F L C v) := by
  have b6 := hw.1.2.1
  have wb : ∀ v, v < S 0 → S (49 + v) ≤ 1 := fun v hv => (hw.1.2.2.2.1 v hv).2.2.2.1
  have Bl := sp_B_lt (b := fun v => S (49 + v)) (n := S 0) wb
  have Bl2 := bi_p2 (i := S 0) (n := 6) (by omega)
  have k3 := (h.1.1.2.2.1 v (by omega)).1.2.2.2.1
  have bv := wb v hv
  have ld := cl_lead h hw (B := sp_B (fun v => S (49 + v)) (S 0)) (by omega)
  rw [sp_q_c (w' := sp_W S F L C) (b' := fun v => S (49 + v)) 0 (S 0) (fun u hu => ⟨rfl, sp_B_b (b := fun v => S (49 + v)) wb hu⟩), sp_q_c (w' := sp_W S F L C) (b' := fun v => S (49 + v)) 1 (S 0) (fun u hu => ⟨rfl, sp_B_b (b := fun v => S (49 + v)) wb hu⟩)] at ld
  unfold f_X2_leadOf sp_mo
  rw [cl_wishes h.1 hw, bd_s, ld, bd_s]
  have gi : jx_in (nI v) 6 = true := ev_in (by omega) (by omega)
  have ci : (nI v).toNatClampNeg = v := nI_clamp (by omega)
  rw [gi, gd_t, ci, ll8 v (by omega), show jx_in (3 : Int32) 8 = true from rfl, gd_t, k3]
  by_cases e : S (49 + v) = 1
  · rw [e, if_pos (show nI 1 = (1 : Int32) from rfl)]
  · have e0 : S (49 + v) = 0 := by omega
    rw [e0, if_neg (by decide), i3_n]
theorem cm_moreOf {S : Nat → Nat} {F : rt_F} {k : Nat} {L C : Nat → Nat} {σ : jx_M} (h : NM S F k L C σ) (hw : cs_w S F) (hb : ns_b S L C) {v : Nat} (hv : v < S 0) : f_X6_moreOf σ (nI v) = some (sp_mo S F L C v) := by
  have b6 := hw.1.2.1
  have m0 : σ 1 0 = nI (S 0) := h.1.1.1 0 (by omega) (by omega) (by omega)
  obtain ⟨k3, bv⟩ := NM_w h hw v hv
  have v1 := cm_votes hw hb m0 (NM_w h hw) h.2.1 h.2.2 (x := S (49 + v)) bv
  have v2 := cm_votes hw hb m0 (NM_w h hw) h.2.1 h.2.2 (x := 1 - S (49 + v)) (by omega)
  have g : jx_in ((49 : Int32) + nI v) 920 = true := by
    rw [show ((49 : Int32) + nI v) = nI (49 + v) from nI_add 49 v]; exact ev_in (by omega) (by omega)
  have c : ((49 : Int32) + nI v).toNatClampNeg = 49 + v := by
    rw [show ((49 : Int32) + nI v) = nI (49 + v) from nI_add 49 v]; exact nI_clamp (by omega)
  unfold f_X6_moreOf sp_mo
  rw [g, gd_t, c, k3, v1, bd_s, gd_t, show (1 : Int32) - nI (S (49 + v)) = nI (1 - S (49 + v)) from pk_sub (a := 1) (by omega), v2, bd_s]
def sp_bp (m : Nat → Int32) : Nat → Nat
  | 0 => 0
  | i + 1 => if i = 0 then 0 else if m i ≤ m (sp_bp m i) then sp_bp m i else i
theorem sp_bp_lt (m : Nat → Int32) : ∀ i, 0 < i → sp_bp m i < i
  | 0, h => absurd h (by omega)
  | 1, _ => by show (0 : Nat) < 1; omega
  | i + 2, _ => by
    have h := sp_bp_lt m (i + 1) (by omega)
    show (if i + 1 = 0 then 0 else if m (i + 1) ≤ m (sp_bp m (i + 1)) then sp_bp m (i + 1) else i + 1) < i + 2
    repeat' split
    all_goals omega
theorem upN_u {L : Nat → Nat} {v a b : Nat} : upN (upN L v a) v b = upN L v b := by
  funext u
  by_cases e : u = v
  · subst e; rw [upN_s, upN_s]
  · rw [upN_n e, upN_n e, upN_n e]
theorem upN_i {L : Nat → Nat} {v : Nat} : upN L v (L v) = L := by
  funext u
  by_cases e : u = v
  · subst e; rw [upN_s]
  · rw [upN_n e]
theorem ns_b_t {S : Nat → Nat} {F : rt_F} (hw : rn_w S) {k : Nat} {L C : Nat → Nat} (hb : ns_b S L C) {v p : Nat} (hp : p < S 6) : ns_b S (upN L v (sp_l S F k v p)) (upN C v (sp_c S F v p)) := by
  intro u hu
  by_cases e : u = v
  · subst e; rw [upN_s, upN_s]; exact ⟨sp_l_lt hw hp, sp_c_le S F u p⟩
  · rw [upN_n e, upN_n e]; exact hb u hu
def sp_tm (S : Nat → Nat) (F : rt_F) (L C : Nat → Nat) (v p : Nat) : Int32 := sp_mo S F (upN L v (sp_l S F 7 v p)) (upN C v (sp_c S F v p)) v
theorem cl_best {t : jx_T} {S : Nat → Nat} {F : rt_F} {L C : Nat → Nat} {σ : jx_M} (h : NL t S F 7 L C σ) (hw : cs_w S F) (hb : ns_b S L C) {v : Nat} (hv : v < S 0) : ∃ σ' x y, f_X2_bestFor t σ (nI v) = some (nI (sp_bp (sp_tm S F L C v) (S 6)), σ') ∧ lg_k σ σ' ∧ NL t S F 7 (upN L v x) (upN C v y) σ' := by
  have b6 := hw.1.2.1
  unfold f_X2_bestFor
  have key := lq_ (fun n i τ => ∃ σ' x y, b_X2_bestFor_7 t n τ (nI v) (nI (sp_bp (sp_tm S F L C v) i)) (if i = 0 then 0 else sp_tm S F L C v (sp_bp (sp_tm S F L C v) i)) (nI i) = some (nI (sp_bp (sp_tm S F L C v) (S 6)), σ') ∧ lg_k σ σ' ∧ NL t S F 7 (upN L v x) (upN C v y) σ') (fun i τ => lg_k σ τ ∧ ∃ x y, NL t S F 7 (upN L v x) (upN C v y) τ) (S 6) ?_ ?_ 0 σ (by omega) (by omega) ⟨lg_r σ, L v, C v, by rw [upN_i, upN_i]; exact h⟩
  · exact key
  · intro n τ ⟨i1, x, y, i2⟩
    have n6 : τ 0 0 = nI (S 6) := i2.1.1.1.1
    simp only [b_X2_bestFor_7, g_X2_bestFor_7]
    rw [n6, if_pos (Int32.le_refl _)]
    exact ⟨_, x, y, rfl, i1, i2⟩
  · intro n i τ hi ⟨i1, x, y, i2⟩ ih
    have n6 : τ 0 0 = nI (S 6) := i2.1.1.1.1
    obtain ⟨τ1, e1, e2, e3⟩ := NL_light i2 hw hv hi
    rw [upN_u, upN_u] at e3
    have lo := cl_leadOf e3 hw hv
    have ih' := ih τ1 ⟨lg_t i1 e2, _, _, e3⟩
    rw [if_neg (show ¬ i + 1 = 0 by omega)] at ih'
    rw [show sp_bp (sp_tm S F L C v) (i + 1) = (if i = 0 then 0 else if sp_tm S F L C v i ≤ sp_tm S F L C v (sp_bp (sp_tm S F L C v) i) then sp_bp (sp_tm S F L C v) i else i) from rfl] at ih'
    simp only [b_X2_bestFor_7, g_X2_bestFor_7, b_X2_bestFor_50, b_X2_bestFor_44]
    rw [n6, if_neg (nI_ge hi (by omega)), e1, bd_s, show f_X2_leadOf t τ1 (nI v) = some (sp_tm S F L C v i) from lo, bd_s]
    simp only [bd_s, lt_e, show nI i + (1 : Int32) = nI (i + 1) from nI_1 i]
    by_cases i0 : i = 0
    · subst i0
      rw [if_pos rfl] at ih'
      rw [if_pos (show nI 0 = (0 : Int32) from rfl)]
      exact ih'
    · rw [if_neg i0] at ih'
      rw [if_neg i0, if_neg (show ¬ nI i = (0 : Int32) from nI_ne0 (n := i) (by omega) (by omega))]
      by_cases g : sp_tm S F L C v i ≤ sp_tm S F L C v (sp_bp (sp_tm S F L C v) i)
      · rw [if_pos g] at ih'
        rw [if_pos g]
        exact ih'
      · rw [if_neg g] at ih'
        rw [if_neg g]
        exact ih'
theorem NM_mu {S : Nat → Nat} {F : rt_F} {k : Nat} {L C : Nat → Nat} {σ : jx_M} (h : NM S F k L C σ) {i : Nat} {x : Int32} : NM S F k L C (jx_mu σ 0 i x) := by
  refine ⟨cs_m_k h.1 (mu_a (by omega)), nc_m_c h.2.1 (mu_a (by omega)) (mu_a (by omega)), fun v hv => ?_⟩
  rw [mu_a (show ¬ 7 = 0 by omega), mu_a (show ¬ 8 = 0 by omega)]
  exact h.2.2 v hv
theorem nm_mu {σ : jx_M} {i : Nat} {x : Int32} (hi : i = 19 ∨ i = 20) : nm_k σ (jx_mu σ 0 i x) := ⟨mu_a (by omega), mu_a (by omega), mu_a (by omega), mu_n (by omega), mu_n (by omega)⟩
theorem cm_best {S : Nat → Nat} {F : rt_F} {L C : Nat → Nat} {σ : jx_M} (h : NM S F 7 L C σ) (hw : cs_w S F) (hb : ns_b S L C) {v : Nat} (hv : v < S 0) : ∃ σ', f_X6_looksForBest σ (nI v) = some σ' ∧ nm_k σ σ' ∧ NM S F 7 (upN L v (sp_l S F 7 v (sp_bp (sp_tm S F L C v) (S 6)))) (upN C v (sp_c S F v (sp_bp (sp_tm S F L C v) (S 6)))) σ' ∧ σ' 0 19 = nI (sp_bp (sp_tm S F L C v) (S 6)) ∧ σ' 0 20 = sp_tm S F L C v (sp_bp (sp_tm S F L C v) (S 6)) := by
  have b6 := hw.1.2.1
  unfold f_X6_looksForBest
  rw [lt_e]
  refine lq_ (fun n i τ => ∃ σ', b_X6_looksForBest_7 n τ (nI v) (nI i) = some σ' ∧ nm_k σ σ' ∧ NM S F 7 (upN L v (sp_l S F 7 v (sp_bp (sp_tm S F L C v) (S 6)))) (upN C v (sp_c S F v (sp_bp (sp_tm S F L C v) (S 6)))) σ' ∧ σ' 0 19 = nI (sp_bp (sp_tm S F L C v) (S 6)) ∧ σ' 0 20 = sp_tm S F L C v (sp_bp (sp_tm S F L C v) (S 6))) (fun i τ => nm_k σ τ ∧ (∃ x y, NM S F 7 (upN L v x) (upN C v y) τ) ∧ τ 0 19 = (if i = 0 then -1 else nI (sp_bp (sp_tm S F L C v) i)) ∧ (¬ i = 0 → τ 0 20 = sp_tm S F L C v (sp_bp (sp_tm S F L C v) i))) (S 6) ?_ ?_ 0 _ (by omega) (by omega) ⟨nm_mu (by omega), ⟨L v, C v, by rw [upN_i, upN_i]; exact NM_mu h⟩, mu_s, fun e => absurd rfl e⟩
  · intro n τ ⟨i1, ⟨x, y, i2⟩, i3, i4⟩
    have m6 : τ 1 6 = nI (S 6) := i2.1.1.1 6 (by omega) (by omega) (by omega)
    rw [if_neg (show ¬ S 6 = 0 by omega)] at i3
    have bl := sp_bp_lt (sp_tm S F L C v) (S 6) (by omega)
    obtain ⟨τ1, e1, e2, e3⟩ := NM_lays i2 hw hv bl
    rw [upN_u, upN_u] at e3
    simp only [b_X6_looksForBest_7, g_X6_looksForBest_7]
    rw [m6, if_pos (Int32.le_refl _), i3, e1, bd_s]
    exact ⟨τ1, rfl, nm_k_t i1 (ly_k_n e2), e3, (e2.2 19 (by omega)).trans i3, (e2.2 20 (by omega)).trans (i4 (by omega))⟩
  · intro n i τ hi ⟨i1, ⟨x, y, i2⟩, i3, i4⟩ ih
    have m6 : τ 1 6 = nI (S 6) := i2.1.1.1 6 (by omega) (by omega) (by omega)
    obtain ⟨τ1, e1, e2, e3⟩ := NM_lays i2 hw hv hi
    rw [upN_u, upN_u] at e3
    have mo : f_X6_moreOf τ1 (nI v) = some (sp_tm S F L C v i) := cm_moreOf e3 hw (ns_b_t hw.1 hb hi) hv
    have j3 : τ1 0 19 = _ := (e2.2 19 (by omega)).trans i3
    have j1 : nm_k σ τ1 := nm_k_t i1 (ly_k_n e2)
    have fin : ∀ (a : Nat), a = sp_bp (sp_tm S F L C v) (i + 1) → ∃ σ', b_X6_looksForBest_7 n (jx_mu (jx_mu τ1 0 19 (nI a)) 0 20 (sp_tm S F L C v a)) (nI v) (nI (i + 1)) = some σ' ∧ nm_k σ σ' ∧ NM S F 7 (upN L v (sp_l S F 7 v (sp_bp (sp_tm S F L C v) (S 6)))) (upN C v (sp_c S F v (sp_bp (sp_tm S F L C v) (S 6)))) σ' ∧ σ' 0 19 = nI (sp_bp (sp_tm S F L C v) (S 6)) ∧ σ' 0 20 = sp_tm S F L C v (sp_bp (sp_tm S F L C v) (S 6)) := by
      intro a ha
      refine ih _ ⟨nm_k_t j1 (nm_k_t (nm_mu (by omega)) (nm_mu (by omega))), ⟨_, _, NM_mu (NM_mu e3)⟩, ?_, fun _ => ?_⟩
      · rw [if_neg (show ¬ i + 1 = 0 by omega), mu_n (by omega), mu_s, ha]
      · rw [mu_s, ha]
    have e0 : sp_bp (sp_tm S F L C v) (i + 1) = (if i = 0 then 0 else if sp_tm S F L C v i ≤ sp_tm S F L C v (sp_bp (sp_tm S F L C v) i) then sp_bp (sp_tm S F L C v) i else i) := rfl
    simp only [b_X6_looksForBest_7, g_X6_looksForBest_7, b_X6_looksForBest_46, b_X6_looksForBest_51, b_X6_looksForBest_67, b_X6_looksForBest_84]
    rw [m6, if_neg (nI_ge hi (by omega)), e1, bd_s, mo, bd_s, j3]
    simp only [lt_e, show nI i + (1 : Int32) = nI (i + 1) from nI_1 i, show ¬ (1 : Int32) = 0 by decide, ↓reduceIte]
    by_cases i0 : i = 0
    · rw [if_pos i0] at e0
      rw [if_pos i0, if_pos (show (-1 : Int32) = -1 from rfl)]
      have f := fin i (by rw [e0, i0])
      exact f
    · rw [if_neg i0] at e0
      have bl := sp_bp_lt (sp_tm S F L C v) i (by omega)
      have j4 : τ1 0 20 = _ := (e2.2 20 (by omega)).trans (i4 i0)
      have hne : ¬ nI (sp_bp (sp_tm S F L C v) i) = (-1 : Int32) := fun e => nI_pos (n := sp_bp (sp_tm S F L C v) i) (by omega) (by rw [e]; decide)
      rw [if_neg i0, if_neg hne, j4]
      by_cases g : sp_tm S F L C v i ≤ sp_tm S F L C v (sp_bp (sp_tm S F L C v) i)
      · rw [if_pos g] at e0
        rw [if_pos g, mu_n (show ¬ 20 = 19 by omega), j4]
        have f := fin (sp_bp (sp_tm S F L C v) i) e0.symm
        exact f
      · rw [if_neg g] at e0
        rw [if_neg g]
        have f := fin i e0.symm
        exact f
theorem op_set : lw_op_set RR := by
  intro t σl σm a0 a1 hR
  obtain ⟨S, F, hl, hm, hw, h20⟩ := RR_o hR
  have n6 : σl 0 0 = nI (S 6) := hl.1.1.1
  have n7 : σl 0 1 = nI (S 7) := hl.1.1.2.1
  have n0 : σl 0 2 = nI (S 0) := hl.1.1.2.2.1
  have m0 : σm 1 0 = nI (S 0) := hm.1.1 0 (by omega) (by omega) (by omega)
  have m6 : σm 1 6 = nI (S 6) := hm.1.1 6 (by omega) (by omega) (by omega)
  have m7 : σm 1 7 = nI (S 7) := hm.1.1 7 (by omega) (by omega) (by omega)
  have bw := hw.1.2.1
  have b7 := hw.1.1 7
  unfold f_X5_set f_X6_set
  rcases ix_p a0 (S 0) (by omega) with h | ⟨v, hv, rfl⟩
  · simp (disch := first | omega | assumption) only [ev_add, ev_mul, ev_rem, ev_sub, ev_ltT, ev_ltF, ev_leT, ev_leF, ev_eqT, ev_eqF, ev_cl, ev_in, gd_t, bd_s, lt_e, ev_of, ↓reduceIte, decide_true, true_or, or_true, ev_l0, ev_l1, ev_l2, ev_l3, ev_l4, ev_l5, ev_l6, ev_l7, ev_l8, ev_l9, ev_l10, ev_l11, ev_l12, ev_l13, ev_l14, ev_l15, ev_l16, ev_l17, ev_l18, ev_l19, ev_l20, ev_l21, ev_l22, ev_l23, ev_l24, ev_l25, ev_l26, ev_l30, ev_l31, ev_l32, ev_l37, ev_l40, ev_l41, ev_l43, ev_l48, ev_l49, ev_l51, ev_l55, ev_l57, ev_l58, ev_l60, ev_l61, ev_l79, ev_l85, ev_l91, ev_l99, ev_l100, ev_l107, ev_l115, ev_l127, ev_l140, ev_l215, ev_l220, ev_l920, ev_l9999, ev_nT, ev_nF, ev_nlT, ev_nlF, hv_f n0 h, iv_f m0 (by omega) h]
    exact ⟨_, _, _, rfl, rfl, hR⟩
  · rcases ix_p a1 2 (by omega) with h | ⟨w, hw2, rfl⟩
    · simp (disch := first | omega | assumption) only [ev_add, ev_mul, ev_rem, ev_sub, ev_ltT, ev_ltF, ev_leT, ev_leF, ev_eqT, ev_eqF, ev_cl, ev_in, gd_t, bd_s, lt_e, ev_of, ↓reduceIte, decide_true, true_or, or_true, ev_l0, ev_l1, ev_l2, ev_l3, ev_l4, ev_l5, ev_l6, ev_l7, ev_l8, ev_l9, ev_l10, ev_l11, ev_l12, ev_l13, ev_l14, ev_l15, ev_l16, ev_l17, ev_l18, ev_l19, ev_l20, ev_l21, ev_l22, ev_l23, ev_l24, ev_l25, ev_l26, ev_l30, ev_l31, ev_l32, ev_l37, ev_l40, ev_l41, ev_l43, ev_l48, ev_l49, ev_l51, ev_l55, ev_l57, ev_l58, ev_l60, ev_l61, ev_l79, ev_l85, ev_l91, ev_l99, ev_l100, ev_l107, ev_l115, ev_l127, ev_l140, ev_l215, ev_l220, ev_l920, ev_l9999, ev_nT, ev_nF, ev_nlT, ev_nlF, wi_e, hv_t n0 hv (by omega), iv_t m0 hv (by omega), show f_X6_in a1 (nI 0) (nI 1) = _ from in_f (n := 2) h (by omega) (by omega)]
      exact ⟨_, _, _, rfl, rfl, hR⟩
    · obtain ⟨σl2, u1, u2, u3, u4⟩ := NL_pass hl hw h20
      obtain ⟨σm1, σm2, g1, g2, g3, g4⟩ := NM_pass hm hw
      have bb := tp_b (F := F) hw.1 (k := 7)
      obtain ⟨σl3, x, y, c1, c2, c3⟩ := cl_best u4 hw bb hv
      obtain ⟨σm3, d1, d2, d3, d4, d5⟩ := cm_best g4 hw bb hv
      have bl := sp_bp_lt (sp_tm S F (tp_l S F 7) (tp_c S F) v) (S 6) (by omega)
      obtain ⟨σl4, e1, e2, e3⟩ := NL_light c3 hw hv bl
      rw [upN_u, upN_u] at e3
      have lo : f_X2_leadOf t σl4 (nI v) = some (sp_tm S F (tp_l S F 7) (tp_c S F) v (sp_bp (sp_tm S F (tp_l S F 7) (tp_c S F) v) (S 6))) := cl_leadOf e3 hw hv
      have k3 : σl3 0 20 = -1 := by rw [c2 0 (by omega) (by omega) (by omega)]; exact u3
      have k4 : σl4 0 20 = -1 := by rw [e2 0 (by omega) (by omega) (by omega)]; exact k3
      have n3 := nl_k_t u2 (lg_n c2)
      have fin3 : RR t σl3 σm3 := RR_night hR n3 k3 (nm_k_t g3 d2)
      have fin4 : RR t σl4 σm3 := RR_night hR (nl_k_t n3 (lg_n e2)) k4 (nm_k_t g3 d2)
      simp (disch := first | omega | assumption) only [ev_add, ev_mul, ev_rem, ev_sub, ev_ltT, ev_ltF, ev_leT, ev_leF, ev_eqT, ev_eqF, ev_cl, ev_in, gd_t, bd_s, lt_e, ev_of, ↓reduceIte, decide_true, true_or, or_true, ev_l0, ev_l1, ev_l2, ev_l3, ev_l4, ev_l5, ev_l6, ev_l7, ev_l8, ev_l9, ev_l10, ev_l11, ev_l12, ev_l13, ev_l14, ev_l15, ev_l16, ev_l17, ev_l18, ev_l19, ev_l20, ev_l21, ev_l22, ev_l23, ev_l24, ev_l25, ev_l26, ev_l30, ev_l31, ev_l32, ev_l37, ev_l40, ev_l41, ev_l43, ev_l48, ev_l49, ev_l51, ev_l55, ev_l57, ev_l58, ev_l60, ev_l61, ev_l79, ev_l85, ev_l91, ev_l99, ev_l100, ev_l107, ev_l115, ev_l127, ev_l140, ev_l215, ev_l220, ev_l920, ev_l9999, ev_nT, ev_nF, ev_nlT, ev_nlF, wi_e, hv_t n0 hv (by omega), iv_t m0 hv (by omega), show f_X6_in (nI w) (nI 0) (nI 1) = _ from in_t (n := 2) hw2 (by omega), u1, g1, g2, c1, d1, d4, d5, e1, lo]
      by_cases z : w = 0
      · simp (disch := first | omega | assumption) only [ev_add, ev_mul, ev_rem, ev_sub, ev_ltT, ev_ltF, ev_leT, ev_leF, ev_eqT, ev_eqF, ev_cl, ev_in, gd_t, bd_s, lt_e, ev_of, ↓reduceIte, decide_true, true_or, or_true, ev_l0, ev_l1, ev_l2, ev_l3, ev_l4, ev_l5, ev_l6, ev_l7, ev_l8, ev_l9, ev_l10, ev_l11, ev_l12, ev_l13, ev_l14, ev_l15, ev_l16, ev_l17, ev_l18, ev_l19, ev_l20, ev_l21, ev_l22, ev_l23, ev_l24, ev_l25, ev_l26, ev_l30, ev_l31, ev_l32, ev_l37, ev_l40, ev_l41, ev_l43, ev_l48, ev_l49, ev_l51, ev_l55, ev_l57, ev_l58, ev_l60, ev_l61, ev_l79, ev_l85, ev_l91, ev_l99, ev_l100, ev_l107, ev_l115, ev_l127, ev_l140, ev_l215, ev_l220, ev_l920, ev_l9999, ev_nT, ev_nF, ev_nlT, ev_nlF, z]
        exact ⟨_, _, _, rfl, rfl, fin3⟩
      · simp (disch := first | omega | assumption) only [ev_add, ev_mul, ev_rem, ev_sub, ev_ltT, ev_ltF, ev_leT, ev_leF, ev_eqT, ev_eqF, ev_cl, ev_in, gd_t, bd_s, lt_e, ev_of, ↓reduceIte, decide_true, true_or, or_true, ev_l0, ev_l1, ev_l2, ev_l3, ev_l4, ev_l5, ev_l6, ev_l7, ev_l8, ev_l9, ev_l10, ev_l11, ev_l12, ev_l13, ev_l14, ev_l15, ev_l16, ev_l17, ev_l18, ev_l19, ev_l20, ev_l21, ev_l22, ev_l23, ev_l24, ev_l25, ev_l26, ev_l30, ev_l31, ev_l32, ev_l37, ev_l40, ev_l41, ev_l43, ev_l48, ev_l49, ev_l51, ev_l55, ev_l57, ev_l58, ev_l60, ev_l61, ev_l79, ev_l85, ev_l91, ev_l99, ev_l100, ev_l107, ev_l115, ev_l127, ev_l140, ev_l215, ev_l220, ev_l920, ev_l9999, ev_nT, ev_nF, ev_nlT, ev_nlF]
        exact ⟨_, _, _, rfl, rfl, fin4⟩
/-! two by turns: what the first has if it sets at p -/
def sp_ga (S : Nat → Nat) (F : rt_F) (L C : Nat → Nat) (v o p : Nat) : Int32 :=
  sp_mo S F (upN (upN L v (sp_l S F 7 v p)) o (sp_l S F 7 o (sp_bp (sp_tm S F (upN L v (sp_l S F 7 v p)) (upN C v (sp_c S F v p)) o) (S 6)))) (upN (upN C v (sp_c S F v p)) o (sp_c S F o (sp_bp (sp_tm S F (upN L v (sp_l S F 7 v p)) (upN C v (sp_c S F v p)) o) (S 6)))) v
theorem upN_3 {L : Nat → Nat} {v o a x y z : Nat} (h : ¬ v = o) : upN (upN (upN (upN L v a) o x) v y) o z = upN (upN L v y) o z := by
  funext u
  by_cases e : u = o
  · subst e; rw [upN_s, upN_s]
  · by_cases g : u = v
    · subst g; rw [upN_n e, upN_s, upN_n e, upN_s]
    · rw [upN_n e, upN_n g, upN_n e, upN_n g, upN_n e, upN_n g]
theorem sp_ga_i {S : Nat → Nat} {F : rt_F} {L C : Nat → Nat} {v o a x b y p : Nat} (h : ¬ v = o) : sp_ga S F (upN (upN L v a) o x) (upN (upN C v b) o y) v o p = sp_ga S F L C v o p := by
  have e : sp_tm S F (upN (upN (upN L v a) o x) v (sp_l S F 7 v p)) (upN (upN (upN C v b) o y) v (sp_c S F v p)) o = sp_tm S F (upN L v (sp_l S F 7 v p)) (upN C v (sp_c S F v p)) o := by
    funext q
    unfold sp_tm
    rw [upN_3 h, upN_3 h]
  unfold sp_ga
  rw [e, upN_3 h, upN_3 h]
theorem cl_behind {t : jx_T} {S : Nat → Nat} {F : rt_F} {L C : Nat → Nat} {σ : jx_M} (h : NL t S F 7 L C σ) (hw : cs_w S F) (hb : ns_b S L C) {v o p : Nat} (hv : v < S 0) (ho : o < S 0) (hp : p < S 6) : ∃ σ', f_X2_leadBehind t σ (nI v) (nI p) (nI o) = some (sp_ga S F L C v o p, σ') ∧ lg_k σ σ' ∧ ∃ a x b y, NL t S F 7 (upN (upN L v a) o x) (upN (upN C v b) o y) σ' ∧ ns_b S (upN (upN L v a) o x) (upN (upN C v b) o y) := by
  have b6 := hw.1.2.1
  obtain ⟨σ1, e1, e2, e3⟩ := NL_light h hw hv hp
  have nb := ns_b_t (F := F) (k := 7) hw.1 hb (v := v) hp
  obtain ⟨σ2, x, y, c1, c2, c3⟩ := cl_best e3 hw nb ho
  have bl := sp_bp_lt (sp_tm S F (upN L v (sp_l S F 7 v p)) (upN C v (sp_c S F v p)) o) (S 6) (by omega)
  obtain ⟨σ3, d1, d2, d3⟩ := NL_light c3 hw ho bl
  rw [upN_u, upN_u] at d3
  have lo := cl_leadOf d3 hw hv
  refine ⟨σ3, ?_, lg_t e2 (lg_t c2 d2), _, _, _, _, d3, ns_b_t (F := F) (k := 7) hw.1 nb bl⟩
  unfold f_X2_leadBehind
  rw [e1, bd_s, c1, bd_s, d1, bd_s, lo, bd_s]
  rfl
theorem op_game : lw_op_game RR := by
  intro t σl σm a0 a1 a2 hR
  obtain ⟨S, F, hl, hm, hw, h20⟩ := RR_o hR
  have n6 : σl 0 0 = nI (S 6) := hl.1.1.1
  have n7 : σl 0 1 = nI (S 7) := hl.1.1.2.1
  have n0 : σl 0 2 = nI (S 0) := hl.1.1.2.2.1
  have m0 : σm 1 0 = nI (S 0) := hm.1.1 0 (by omega) (by omega) (by omega)
  have m6 : σm 1 6 = nI (S 6) := hm.1.1 6 (by omega) (by omega) (by omega)
  have m7 : σm 1 7 = nI (S 7) := hm.1.1 7 (by omega) (by omega) (by omega)
  have bw := hw.1.2.1
  have b7 := hw.1.1 7
  unfold f_X5_game f_X6_game f_X2_firstOf
  rcases ix_p a0 (S 0) (by omega) with h | ⟨v, hv, rfl⟩
  · simp (disch := first | omega | assumption) only [ev_add, ev_mul, ev_rem, ev_sub, ev_ltT, ev_ltF, ev_leT, ev_leF, ev_eqT, ev_eqF, ev_cl, ev_in, gd_t, bd_s, lt_e, ev_of, ↓reduceIte, decide_true, true_or, or_true, ev_l0, ev_l1, ev_l2, ev_l3, ev_l4, ev_l5, ev_l6, ev_l7, ev_l8, ev_l9, ev_l10, ev_l11, ev_l12, ev_l13, ev_l14, ev_l15, ev_l16, ev_l17, ev_l18, ev_l19, ev_l20, ev_l21, ev_l22, ev_l23, ev_l24, ev_l25, ev_l26, ev_l30, ev_l31, ev_l32, ev_l37, ev_l40, ev_l41, ev_l43, ev_l48, ev_l49, ev_l51, ev_l55, ev_l57, ev_l58, ev_l60, ev_l61, ev_l79, ev_l85, ev_l91, ev_l99, ev_l100, ev_l107, ev_l115, ev_l127, ev_l140, ev_l215, ev_l220, ev_l920, ev_l9999, ev_nT, ev_nF, ev_nlT, ev_nlF, hv_f n0 h, iv_f m0 (by omega) h]
    exact ⟨_, _, _, rfl, rfl, hR⟩
  · rcases ix_p a1 (S 0) (by omega) with h | ⟨o, ho, rfl⟩
    · simp (disch := first | omega | assumption) only [ev_add, ev_mul, ev_rem, ev_sub, ev_ltT, ev_ltF, ev_leT, ev_leF, ev_eqT, ev_eqF, ev_cl, ev_in, gd_t, bd_s, lt_e, ev_of, ↓reduceIte, decide_true, true_or, or_true, ev_l0, ev_l1, ev_l2, ev_l3, ev_l4, ev_l5, ev_l6, ev_l7, ev_l8, ev_l9, ev_l10, ev_l11, ev_l12, ev_l13, ev_l14, ev_l15, ev_l16, ev_l17, ev_l18, ev_l19, ev_l20, ev_l21, ev_l22, ev_l23, ev_l24, ev_l25, ev_l26, ev_l30, ev_l31, ev_l32, ev_l37, ev_l40, ev_l41, ev_l43, ev_l48, ev_l49, ev_l51, ev_l55, ev_l57, ev_l58, ev_l60, ev_l61, ev_l79, ev_l85, ev_l91, ev_l99, ev_l100, ev_l107, ev_l115, ev_l127, ev_l140, ev_l215, ev_l220, ev_l920, ev_l9999, ev_nT, ev_nF, ev_nlT, ev_nlF, hv_t n0 hv (by omega), iv_t m0 hv (by omega), hv_f n0 h, iv_f m0 (by omega) h]
      exact ⟨_, _, _, rfl, rfl, hR⟩
    · rcases ix_p a2 2 (by omega) with h | ⟨w, hw2, rfl⟩
      · simp (disch := first | omega | assumption) only [ev_add, ev_mul, ev_rem, ev_sub, ev_ltT, ev_ltF, ev_leT, ev_leF, ev_eqT, ev_eqF, ev_cl, ev_in, gd_t, bd_s, lt_e, ev_of, ↓reduceIte, decide_true, true_or, or_true, ev_l0, ev_l1, ev_l2, ev_l3, ev_l4, ev_l5, ev_l6, ev_l7, ev_l8, ev_l9, ev_l10, ev_l11, ev_l12, ev_l13, ev_l14, ev_l15, ev_l16, ev_l17, ev_l18, ev_l19, ev_l20, ev_l21, ev_l22, ev_l23, ev_l24, ev_l25, ev_l26, ev_l30, ev_l31, ev_l32, ev_l37, ev_l40, ev_l41, ev_l43, ev_l48, ev_l49, ev_l51, ev_l55, ev_l57, ev_l58, ev_l60, ev_l61, ev_l79, ev_l85, ev_l91, ev_l99, ev_l100, ev_l107, ev_l115, ev_l127, ev_l140, ev_l215, ev_l220, ev_l920, ev_l9999, ev_nT, ev_nF, ev_nlT, ev_nlF, wi_e, hv_t n0 hv (by omega), iv_t m0 hv (by omega), hv_t n0 ho (by omega), iv_t m0 ho (by omega), show f_X6_in a2 (nI 0) (nI 1) = _ from in_f (n := 2) h (by omega) (by omega)]
        exact ⟨_, _, _, rfl, rfl, hR⟩
      · by_cases vo : v = o
        · simp (disch := first | omega | assumption) only [ev_add, ev_mul, ev_rem, ev_sub, ev_ltT, ev_ltF, ev_leT, ev_leF, ev_eqT, ev_eqF, ev_cl, ev_in, gd_t, bd_s, lt_e, ev_of, ↓reduceIte, decide_true, true_or, or_true, ev_l0, ev_l1, ev_l2, ev_l3, ev_l4, ev_l5, ev_l6, ev_l7, ev_l8, ev_l9, ev_l10, ev_l11, ev_l12, ev_l13, ev_l14, ev_l15, ev_l16, ev_l17, ev_l18, ev_l19, ev_l20, ev_l21, ev_l22, ev_l23, ev_l24, ev_l25, ev_l26, ev_l30, ev_l31, ev_l32, ev_l37, ev_l40, ev_l41, ev_l43, ev_l48, ev_l49, ev_l51, ev_l55, ev_l57, ev_l58, ev_l60, ev_l61, ev_l79, ev_l85, ev_l91, ev_l99, ev_l100, ev_l107, ev_l115, ev_l127, ev_l140, ev_l215, ev_l220, ev_l920, ev_l9999, ev_nT, ev_nF, ev_nlT, ev_nlF, wi_e, hv_t n0 hv (by omega), iv_t m0 hv (by omega), hv_t n0 ho (by omega), iv_t m0 ho (by omega), show f_X6_in (nI w) (nI 0) (nI 1) = _ from in_t (n := 2) hw2 (by omega), vo]
          exact ⟨_, _, _, rfl, rfl, hR⟩
        · obtain ⟨σl2, u1, u2, u3, u4⟩ := NL_pass hl hw h20
          obtain ⟨σm1, σm2, g1, g2, g3, g4⟩ := NM_pass hm hw
          have bb := tp_b (F := F) hw.1 (k := 7)
          generalize hL : tp_l S F 7 = L at u4 g4 bb
          generalize hC : tp_c S F = C at u4 g4 bb
          have k0 := lq_ (fun n i τ => ∃ σ' a x b y, b_X2_firstOf_8 t n τ (nI v) (nI o) (nI (sp_bp (sp_ga S F L C v o) i)) (if i = 0 then 0 else sp_ga S F L C v o (sp_bp (sp_ga S F L C v o) i)) (nI i) = some (nI (sp_bp (sp_ga S F L C v o) (S 6)), σ') ∧ lg_k σl2 σ' ∧ NL t S F 7 (upN (upN L v a) o x) (upN (upN C v b) o y) σ' ∧ ns_b S (upN (upN L v a) o x) (upN (upN C v b) o y)) (fun i τ => lg_k σl2 τ ∧ ∃ a x b y, NL t S F 7 (upN (upN L v a) o x) (upN (upN C v b) o y) τ ∧ ns_b S (upN (upN L v a) o x) (upN (upN C v b) o y)) (S 6) ?_ ?_ 0 σl2 (by omega) (by omega) ⟨lg_r _, L v, L o, C v, C o, by
            have e1 : upN (upN L v (L v)) o (L o) = L := by rw [upN_i]; exact upN_i
            have e2 : upN (upN C v (C v)) o (C o) = C := by rw [upN_i]; exact upN_i
            rw [e1, e2]; exact ⟨u4, bb⟩⟩
          · have k1 := lq_ (fun n i (s : jx_M × Int32) => ∃ σ', b_X6_game_55 n s.1 (nI v) (nI o) (nI w) (if i = 0 then -1 else nI (sp_bp (sp_ga S F L C v o) i)) s.2 (nI i) = some (if w = 0 then nI (sp_bp (sp_ga S F L C v o) (S 6)) else sp_ga S F L C v o (sp_bp (sp_ga S F L C v o) (S 6)), σ') ∧ nm_k σm2 σ') (fun i s => nm_k σm2 s.1 ∧ (¬ i = 0 → s.2 = sp_ga S F L C v o (sp_bp (sp_ga S F L C v o) i)) ∧ ∃ a x b y, NM S F 7 (upN (upN L v a) o x) (upN (upN C v b) o y) s.1 ∧ ns_b S (upN (upN L v a) o x) (upN (upN C v b) o y)) (S 6) ?_ ?_ 0 (σm2, nI 0) (by omega) (by omega) ⟨nm_k_r _, fun e => absurd rfl e, L v, L o, C v, C o, by
              have e1 : upN (upN L v (L v)) o (L o) = L := by rw [upN_i]; exact upN_i
              have e2 : upN (upN C v (C v)) o (C o) = C := by rw [upN_i]; exact upN_i
              rw [e1, e2]; exact ⟨g4, bb⟩⟩
            · obtain ⟨σl3, a, x, b, y, c1, c2, c3, c4⟩ := k0
              obtain ⟨σm3, d1, d2⟩ := k1
              have bl := sp_bp_lt (sp_ga S F L C v o) (S 6) (by omega)
              obtain ⟨σl4, e1, e2, -⟩ := cl_behind c3 hw c4 hv ho bl
              rw [sp_ga_i vo] at e1
              have k3 : σl3 0 20 = -1 := by rw [c2 0 (by omega) (by omega) (by omega)]; exact u3
              have k4 : σl4 0 20 = -1 := by rw [e2 0 (by omega) (by omega) (by omega)]; exact k3
              have n3 := nl_k_t u2 (lg_n c2)
              have fin3 : RR t σl3 σm3 := RR_night hR n3 k3 (nm_k_t g3 d2)
              have fin4 : RR t σl4 σm3 := RR_night hR (nl_k_t n3 (lg_n e2)) k4 (nm_k_t g3 d2)
              rw [if_pos rfl] at c1 d1
              simp (disch := first | omega | assumption) only [ev_add, ev_mul, ev_rem, ev_sub, ev_ltT, ev_ltF, ev_leT, ev_leF, ev_eqT, ev_eqF, ev_cl, ev_in, gd_t, bd_s, lt_e, ev_of, ↓reduceIte, decide_true, true_or, or_true, ev_l0, ev_l1, ev_l2, ev_l3, ev_l4, ev_l5, ev_l6, ev_l7, ev_l8, ev_l9, ev_l10, ev_l11, ev_l12, ev_l13, ev_l14, ev_l15, ev_l16, ev_l17, ev_l18, ev_l19, ev_l20, ev_l21, ev_l22, ev_l23, ev_l24, ev_l25, ev_l26, ev_l30, ev_l31, ev_l32, ev_l37, ev_l40, ev_l41, ev_l43, ev_l48, ev_l49, ev_l51, ev_l55, ev_l57, ev_l58, ev_l60, ev_l61, ev_l79, ev_l85, ev_l91, ev_l99, ev_l100, ev_l107, ev_l115, ev_l127, ev_l140, ev_l215, ev_l220, ev_l920, ev_l9999, ev_nT, ev_nF, ev_nlT, ev_nlF, wi_e, hv_t n0 hv (by omega), iv_t m0 hv (by omega), hv_t n0 ho (by omega), iv_t m0 ho (by omega), show f_X6_in (nI w) (nI 0) (nI 1) = _ from in_t (n := 2) hw2 (by omega), u1, g1, g2, show b_X2_firstOf_8 t jx_fuel σl2 (nI v) (nI o) (nI 0) (nI 0) (nI 0) = _ from c1, show b_X6_game_55 jx_fuel σm2 (nI v) (nI o) (nI w) (-nI 1) (nI 0) (nI 0) = _ from d1, e1]
              by_cases z : w = 0
              · simp (disch := first | omega | assumption) only [ev_add, ev_mul, ev_rem, ev_sub, ev_ltT, ev_ltF, ev_leT, ev_leF, ev_eqT, ev_eqF, ev_cl, ev_in, gd_t, bd_s, lt_e, ev_of, ↓reduceIte, decide_true, true_or, or_true, ev_l0, ev_l1, ev_l2, ev_l3, ev_l4, ev_l5, ev_l6, ev_l7, ev_l8, ev_l9, ev_l10, ev_l11, ev_l12, ev_l13, ev_l14, ev_l15, ev_l16, ev_l17, ev_l18, ev_l19, ev_l20, ev_l21, ev_l22, ev_l23, ev_l24, ev_l25, ev_l26, ev_l30, ev_l31, ev_l32, ev_l37, ev_l40, ev_l41, ev_l43, ev_l48, ev_l49, ev_l51, ev_l55, ev_l57, ev_l58, ev_l60, ev_l61, ev_l79, ev_l85, ev_l91, ev_l99, ev_l100, ev_l107, ev_l115, ev_l127, ev_l140, ev_l215, ev_l220, ev_l920, ev_l9999, ev_nT, ev_nF, ev_nlT, ev_nlF, z]
                exact ⟨_, _, _, rfl, rfl, fin3⟩
              · simp (disch := first | omega | assumption) only [ev_add, ev_mul, ev_rem, ev_sub, ev_ltT, ev_ltF, ev_leT, ev_leF, ev_eqT, ev_eqF, ev_cl, ev_in, gd_t, bd_s, lt_e, ev_of, ↓reduceIte, decide_true, true_or, or_true, ev_l0, ev_l1, ev_l2, ev_l3, ev_l4, ev_l5, ev_l6, ev_l7, ev_l8, ev_l9, ev_l10, ev_l11, ev_l12, ev_l13, ev_l14, ev_l15, ev_l16, ev_l17, ev_l18, ev_l19, ev_l20, ev_l21, ev_l22, ev_l23, ev_l24, ev_l25, ev_l26, ev_l30, ev_l31, ev_l32, ev_l37, ev_l40, ev_l41, ev_l43, ev_l48, ev_l49, ev_l51, ev_l55, ev_l57, ev_l58, ev_l60, ev_l61, ev_l79, ev_l85, ev_l91, ev_l99, ev_l100, ev_l107, ev_l115, ev_l127, ev_l140, ev_l215, ev_l220, ev_l920, ev_l9999, ev_nT, ev_nF, ev_nlT, ev_nlF]
                exact ⟨_, _, _, rfl, rfl, fin4⟩
            · intro n s ⟨i1, i2, a, x, b, y, i3, i4⟩
              have r6 : s.1 1 6 = nI (S 6) := i3.1.1.1 6 (by omega) (by omega) (by omega)
              simp only [b_X6_game_55, g_X6_game_55]
              rw [r6, if_pos (Int32.le_refl _), if_neg (show ¬ S 6 = 0 by omega), i2 (by omega)]
              refine ⟨s.1, ?_, i1⟩
              by_cases z : w = 0
              · rw [if_pos z, z, if_pos (show nI 0 = (0 : Int32) from rfl)]
              · rw [if_neg z, if_neg (nI_ne0 (by omega) (by omega))]
            · intro n i s hi ⟨i1, i2, a, x, b, y, i3, i4⟩ ih
              have r6 : s.1 1 6 = nI (S 6) := i3.1.1.1 6 (by omega) (by omega) (by omega)
              obtain ⟨τ1, e1, e2, e3⟩ := NM_lays i3 hw hv hi
              have nb := ns_b_t (F := F) (k := 7) hw.1 i4 (v := v) hi
              obtain ⟨τ2, f1, f2, f3, -, -⟩ := cm_best e3 hw nb ho
              have bl := sp_bp_lt (sp_tm S F (upN (upN (upN L v a) o x) v (sp_l S F 7 v i)) (upN (upN (upN C v b) o y) v (sp_c S F v i)) o) (S 6) (by omega)
              have nc := ns_b_t (F := F) (k := 7) hw.1 nb (v := o) bl
              have mo := cm_moreOf f3 hw nc hv
              have mo' : f_X6_moreOf τ2 (nI v) = some (sp_ga S F L C v o i) := mo.trans (congrArg some (sp_ga_i vo))
              rw [upN_3 vo, upN_3 vo] at f3 nc
              have kk : nm_k σm2 τ2 := nm_k_t i1 (nm_k_t (ly_k_n e2) f2)
              have e0 : sp_bp (sp_ga S F L C v o) (i + 1) = (if i = 0 then 0 else if sp_ga S F L C v o i ≤ sp_ga S F L C v o (sp_bp (sp_ga S F L C v o) i) then sp_bp (sp_ga S F L C v o) i else i) := rfl
              simp only [b_X6_game_55, g_X6_game_55, b_X6_game_99, b_X6_game_104, b_X6_game_118, b_X6_game_132]
              rw [r6, if_neg (nI_ge hi (by omega)), e1, bd_s, f1, bd_s, mo', bd_s]
              simp only [lt_e, show nI i + (1 : Int32) = nI (i + 1) from nI_1 i, show ¬ (1 : Int32) = 0 by decide, ↓reduceIte]
              by_cases i0 : i = 0
              · rw [if_pos i0] at e0
                rw [if_pos i0, if_pos (show (-1 : Int32) = -1 from rfl)]
                have ih' := ih (τ2, sp_ga S F L C v o i) ⟨kk, fun _ => by rw [e0, i0], _, _, _, _, f3, nc⟩
                rw [if_neg (show ¬ i + 1 = 0 by omega), e0] at ih'
                rw [i0] at ih' ⊢
                exact ih'
              · rw [if_neg i0] at e0
                have bl := sp_bp_lt (sp_ga S F L C v o) i (by omega)
                have hne : ¬ nI (sp_bp (sp_ga S F L C v o) i) = (-1 : Int32) := fun e => nI_pos (n := sp_bp (sp_ga S F L C v o) i) (by omega) (by rw [e]; decide)
                rw [if_neg i0, if_neg hne, i2 i0]
                by_cases g : sp_ga S F L C v o i ≤ sp_ga S F L C v o (sp_bp (sp_ga S F L C v o) i)
                · rw [if_pos g] at e0
                  rw [if_pos g]
                  have ih' := ih (τ2, sp_ga S F L C v o (sp_bp (sp_ga S F L C v o) i)) ⟨kk, fun _ => by rw [e0], _, _, _, _, f3, nc⟩
                  rw [if_neg (show ¬ i + 1 = 0 by omega), e0] at ih'
                  exact ih'
                · rw [if_neg g] at e0
                  rw [if_neg g]
                  have ih' := ih (τ2, sp_ga S F L C v o i) ⟨kk, fun _ => by rw [e0], _, _, _, _, f3, nc⟩
                  rw [if_neg (show ¬ i + 1 = 0 by omega), e0] at ih'
                  exact ih'
          · intro n τ ⟨i1, a, x, b, y, i2, i3⟩
            have p6 : τ 0 0 = nI (S 6) := i2.1.1.1.1
            simp only [b_X2_firstOf_8, g_X2_firstOf_8]
            rw [p6, if_pos (Int32.le_refl _)]
            exact ⟨_, a, x, b, y, rfl, i1, i2, i3⟩
          · intro n i τ hi ⟨i1, a, x, b, y, i2, i3⟩ ih
            have p6 : τ 0 0 = nI (S 6) := i2.1.1.1.1
            obtain ⟨τ1, e1, e2, a', x', b', y', e3, e4⟩ := cl_behind i2 hw i3 hv ho hi
            rw [sp_ga_i vo] at e1
            rw [upN_3 vo, upN_3 vo] at e3 e4
            have ih' := ih τ1 ⟨lg_t i1 e2, _, _, _, _, e3, e4⟩
            rw [if_neg (show ¬ i + 1 = 0 by omega)] at ih'
            rw [show sp_bp (sp_ga S F L C v o) (i + 1) = (if i = 0 then 0 else if sp_ga S F L C v o i ≤ sp_ga S F L C v o (sp_bp (sp_ga S F L C v o) i) then sp_bp (sp_ga S F L C v o) i else i) from rfl] at ih'
            simp only [b_X2_firstOf_8, g_X2_firstOf_8, b_X2_firstOf_49, b_X2_firstOf_42]
            rw [p6, if_neg (nI_ge hi (by omega)), e1, bd_s]
            simp only [lt_e, show nI i + (1 : Int32) = nI (i + 1) from nI_1 i]
            by_cases i0 : i = 0
            · subst i0
              rw [if_pos rfl] at ih'
              rw [if_pos (show nI 0 = (0 : Int32) from rfl)]
              exact ih'
            · rw [if_neg i0] at ih'
              rw [if_neg i0, if_neg (show ¬ nI i = (0 : Int32) from nI_ne0 (n := i) (by omega) (by omega))]
              by_cases g : sp_ga S F L C v o i ≤ sp_ga S F L C v o (sp_bp (sp_ga S F L C v o) i)
              · rw [if_pos g] at ih'
                rw [if_pos g]
                exact ih'
              · rw [if_neg g] at ih'
                rw [if_neg g]
                exact ih'
