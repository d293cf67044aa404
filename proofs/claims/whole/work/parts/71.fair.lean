/-! fair, stick -/
def sp_u (L : Nat → Nat) (way n : Nat) : Nat := if sp_q (fun _ => 1) (fun v => way / 2 ^ L v % 2) 0 n ≤ sp_q (fun _ => 1) (fun v => way / 2 ^ L v % 2) 1 n then sp_q (fun _ => 1) (fun v => way / 2 ^ L v % 2) 1 n - sp_q (fun _ => 1) (fun v => way / 2 ^ L v % 2) 0 n else sp_q (fun _ => 1) (fun v => way / 2 ^ L v % 2) 0 n - sp_q (fun _ => 1) (fun v => way / 2 ^ L v % 2) 1 n
theorem sp_q1 (b : Nat → Nat) (x : Nat) : ∀ n, sp_q (fun _ => 1) b x n ≤ n
  | 0 => Nat.le_refl 0
  | n + 1 => by
    have h := sp_q1 b x n
    show sp_q (fun _ => 1) b x n + (if b n = x then 1 else 0) ≤ n + 1
    split <;> omega
theorem sp_u_le (L : Nat → Nat) (way n : Nat) : sp_u L way n ≤ n := by
  have h0 := sp_q1 (fun v => way / 2 ^ L v % 2) 0 n
  have h1 := sp_q1 (fun v => way / 2 ^ L v % 2) 1 n
  unfold sp_u
  split <;> omega
theorem i3_d {a b : Nat} (ha : a < 2 ^ 30) (hb : b < 2 ^ 30) : (if (0 : Int32) ≤ nI a - nI b then nI a - nI b else 0 - (nI a - nI b)) = nI (if b ≤ a then a - b else b - a) := by
  by_cases h : b ≤ a
  · rw [if_pos h, pk_sub h, if_pos (nI_pos' (by omega))]
  · have z : (0 : Int32).toInt = 0 := rfl
    rw [if_neg h, if_neg (show ¬ ((0 : Int32) ≤ nI a - nI b) by rw [Int32.le_iff_toInt_le, pk_sub_toInt ha hb, z]; omega), Int32.zero_sub, i3_n, pk_sub (by omega)]
theorem i3_e {a b : Nat} (ha : a < 2 ^ 30) (hb : b < 2 ^ 30) : (if (0 : Int32) ≤ nI a - nI b then nI a - nI b else -(nI a - nI b)) = nI (if b ≤ a then a - b else b - a) := by
  rw [← i3_d ha hb, Int32.zero_sub]
theorem cl_unf {t : jx_T} {S : Nat → Nat} {F : rt_F} {k : Nat} {L C : Nat → Nat} {σ : jx_M} (h : NL t S F k L C σ) (hw : cs_w S F) (hb : ns_b S L C) {way : Nat} (hx : way < 2 ^ 31) : f_X2_unfairness t σ (nI way) = some (nI (sp_u L way (S 0))) := by
  have b6 := hw.1.2.1
  have n0 : σ 0 2 = nI (S 0) := h.1.1.1.2.2.1
  have q0 := sp_q1 (fun v => way / 2 ^ L v % 2) 0 (S 0)
  have q1 := sp_q1 (fun v => way / 2 ^ L v % 2) 1 (S 0)
  unfold f_X2_unfairness
  have key := lq_ (X := Unit) (fun n i _ => b_X2_unfairness_4 t n σ (nI way) (nI (sp_q (fun _ => 1) (fun v => way / 2 ^ L v % 2) 1 i) - nI (sp_q (fun _ => 1) (fun v => way / 2 ^ L v % 2) 0 i)) (nI i) = some (nI (sp_u L way (S 0)))) (fun _ _ => True) (S 0) ?_ ?_ 0 () (by omega) (by omega) trivial
  · have key' : b_X2_unfairness_4 t jx_fuel σ (nI way) (nI 0 - nI 0) (nI 0) = _ := key
    rw [show (nI 0 - nI 0 : Int32) = 0 by decide] at key'
    exact key'
  · intro n _ _
    simp only [b_X2_unfairness_4, g_X2_unfairness_4]
    rw [n0, if_pos (Int32.le_refl _), i3_d (by omega) (by omega)]
    rfl
  · intro n i _ hi _ ih
    have w8 : σ 58 i = nI (L i) := (h.2.2.2 i hi).1
    have bL := (hb i hi).1
    have ih' := ih () trivial
    simp only [b_X2_unfairness_4, g_X2_unfairness_4, b_X2_unfairness_35]
    rw [show ∀ y, sp_q (fun _ => 1) (fun v => way / 2 ^ L v % 2) y (i + 1) = sp_q (fun _ => 1) (fun v => way / 2 ^ L v % 2) y i + (if way / 2 ^ L i % 2 = y then 1 else 0) from fun _ => rfl, show ∀ y, sp_q (fun _ => 1) (fun v => way / 2 ^ L v % 2) y (i + 1) = sp_q (fun _ => 1) (fun v => way / 2 ^ L v % 2) y i + (if way / 2 ^ L i % 2 = y then 1 else 0) from fun _ => rfl] at ih'
    by_cases g : way / 2 ^ L i % 2 = 1
    · rw [if_pos g, if_neg (by omega), Nat.add_zero] at ih'
      simp (disch := first | omega | assumption) only [ev_add, ev_mul, ev_rem, ev_sub, ev_ltT, ev_ltF, ev_leT, ev_leF, ev_eqT, ev_eqF, ev_cl, ev_in, gd_t, bd_s, lt_e, ev_of, ↓reduceIte, decide_true, true_or, or_true, ev_l0, ev_l1, ev_l2, ev_l3, ev_l4, ev_l5, ev_l6, ev_l7, ev_l8, ev_l9, ev_l10, ev_l11, ev_l12, ev_l13, ev_l14, ev_l15, ev_l16, ev_l17, ev_l18, ev_l19, ev_l20, ev_l21, ev_l22, ev_l23, ev_l24, ev_l25, ev_l26, ev_l30, ev_l31, ev_l32, ev_l37, ev_l40, ev_l41, ev_l43, ev_l48, ev_l49, ev_l51, ev_l55, ev_l57, ev_l58, ev_l60, ev_l61, ev_l79, ev_l85, ev_l91, ev_l99, ev_l100, ev_l107, ev_l115, ev_l127, ev_l140, ev_l215, ev_l220, ev_l920, ev_l9999, ev_nT, ev_nF, ev_nlT, ev_nlF, n0, w8, bi_shr hx (show L i < 8 by omega), g, i3_a]
      exact ih'
    · have g0 : way / 2 ^ L i % 2 = 0 := by omega
      rw [if_neg g, if_pos g0, Nat.add_zero] at ih'
      simp (disch := first | omega | assumption) only [ev_add, ev_mul, ev_rem, ev_sub, ev_ltT, ev_ltF, ev_leT, ev_leF, ev_eqT, ev_eqF, ev_cl, ev_in, gd_t, bd_s, lt_e, ev_of, ↓reduceIte, decide_true, true_or, or_true, ev_l0, ev_l1, ev_l2, ev_l3, ev_l4, ev_l5, ev_l6, ev_l7, ev_l8, ev_l9, ev_l10, ev_l11, ev_l12, ev_l13, ev_l14, ev_l15, ev_l16, ev_l17, ev_l18, ev_l19, ev_l20, ev_l21, ev_l22, ev_l23, ev_l24, ev_l25, ev_l26, ev_l30, ev_l31, ev_l32, ev_l37, ev_l40, ev_l41, ev_l43, ev_l48, ev_l49, ev_l51, ev_l55, ev_l57, ev_l58, ev_l60, ev_l61, ev_l79, ev_l85, ev_l91, ev_l99, ev_l100, ev_l107, ev_l115, ev_l127, ev_l140, ev_l215, ev_l220, ev_l920, ev_l9999, ev_nT, ev_nF, ev_nlT, ev_nlF, n0, w8, bi_shr hx (show L i < 8 by omega), g0, i3_s]
      exact ih'
theorem cm_unf {S : Nat → Nat} {F : rt_F} {k : Nat} {L C : Nat → Nat} {σ : jx_M} (h : NM S F k L C σ) (hw : cs_w S F) (hb : ns_b S L C) {way : Nat} (hx : way < 2 ^ 31) (k27 : jx_M → Int32 → Int32 → Int32 → Int32 → Option (Int32 × jx_M)) (v1 v2 v3 : Int32) : b_X6_fair_47 k27 jx_fuel σ v1 v2 v3 (nI way) (nI 0) (nI 0) = b_X6_fair_103 k27 σ v1 v2 v3 (nI way) (nI (sp_u L way (S 0))) := by
  have b6 := hw.1.2.1
  have n0 : σ 1 0 = nI (S 0) := h.1.1.1 0 (by omega) (by omega) (by omega)
  have q0 := sp_q1 (fun v => way / 2 ^ L v % 2) 0 (S 0)
  have q1 := sp_q1 (fun v => way / 2 ^ L v % 2) 1 (S 0)
  have key := lq_ (X := Unit) (fun n i _ => b_X6_fair_47 k27 n σ v1 v2 v3 (nI way) (nI (sp_q (fun _ => 1) (fun v => way / 2 ^ L v % 2) 1 i) - nI (sp_q (fun _ => 1) (fun v => way / 2 ^ L v % 2) 0 i)) (nI i) = b_X6_fair_103 k27 σ v1 v2 v3 (nI way) (nI (sp_u L way (S 0)))) (fun _ _ => True) (S 0) ?_ ?_ 0 () (by omega) (by omega) trivial
  · have key' : b_X6_fair_47 k27 jx_fuel σ v1 v2 v3 (nI way) (nI 0 - nI 0) (nI 0) = _ := key
    rw [show (nI 0 - nI 0 : Int32) = nI 0 by decide] at key'
    exact key'
  · intro n _ _
    simp only [b_X6_fair_47, g_X6_fair_47]
    rw [n0, if_pos (Int32.le_refl _)]
    have e := i3_e (a := sp_q (fun _ => 1) (fun v => way / 2 ^ L v % 2) 1 (S 0)) (b := sp_q (fun _ => 1) (fun v => way / 2 ^ L v % 2) 0 (S 0)) (by omega) (by omega)
    by_cases g : (0 : Int32) ≤ nI (sp_q (fun _ => 1) (fun v => way / 2 ^ L v % 2) 1 (S 0)) - nI (sp_q (fun _ => 1) (fun v => way / 2 ^ L v % 2) 0 (S 0))
    · rw [if_pos g] at e ⊢
      rw [e]; rfl
    · rw [if_neg g] at e ⊢
      rw [e]; rfl
  · intro n i _ hi _ ih
    have w8 : σ 7 i = nI (L i) := (h.2.2 i hi).1
    have bL := (hb i hi).1
    have ih' := ih () trivial
    simp only [b_X6_fair_47, g_X6_fair_47, b_X6_fair_81]
    rw [show ∀ y, sp_q (fun _ => 1) (fun v => way / 2 ^ L v % 2) y (i + 1) = sp_q (fun _ => 1) (fun v => way / 2 ^ L v % 2) y i + (if way / 2 ^ L i % 2 = y then 1 else 0) from fun _ => rfl, show ∀ y, sp_q (fun _ => 1) (fun v => way / 2 ^ L v % 2) y (i + 1) = sp_q (fun _ => 1) (fun v => way / 2 ^ L v % 2) y i + (if way / 2 ^ L i % 2 = y then 1 else 0) from fun _ => rfl] at ih'
    by_cases g : way / 2 ^ L i % 2 = 1
    · rw [if_pos g, if_neg (by omega), Nat.add_zero] at ih'
      simp (disch := first | omega | assumption) only [ev_add, ev_mul, ev_rem, ev_sub, ev_ltT, ev_ltF, ev_leT, ev_leF, ev_eqT, ev_eqF, ev_cl, ev_in, gd_t, bd_s, lt_e, ev_of, ↓reduceIte, decide_true, true_or, or_true, ev_l0, ev_l1, ev_l2, ev_l3, ev_l4, ev_l5, ev_l6, ev_l7, ev_l8, ev_l9, ev_l10, ev_l11, ev_l12, ev_l13, ev_l14, ev_l15, ev_l16, ev_l17, ev_l18, ev_l19, ev_l20, ev_l21, ev_l22, ev_l23, ev_l24, ev_l25, ev_l26, ev_l30, ev_l31, ev_l32, ev_l37, ev_l40, ev_l41, ev_l43, ev_l48, ev_l49, ev_l51, ev_l55, ev_l57, ev_l58, ev_l60, ev_l61, ev_l79, ev_l85, ev_l91, ev_l99, ev_l100, ev_l107, ev_l115, ev_l127, ev_l140, ev_l215, ev_l220, ev_l920, ev_l9999, ev_nT, ev_nF, ev_nlT, ev_nlF, n0, w8, bi_shr hx (show L i < 8 by omega), g, i3_a]
      exact ih'
    · have g0 : way / 2 ^ L i % 2 = 0 := by omega
      rw [if_neg g, if_pos g0, Nat.add_zero] at ih'
      simp (disch := first | omega | assumption) only [ev_add, ev_mul, ev_rem, ev_sub, ev_ltT, ev_ltF, ev_leT, ev_leF, ev_eqT, ev_eqF, ev_cl, ev_in, gd_t, bd_s, lt_e, ev_of, ↓reduceIte, decide_true, true_or, or_true, ev_l0, ev_l1, ev_l2, ev_l3, ev_l4, ev_l5, ev_l6, ev_l7, ev_l8, ev_l9, ev_l10, ev_l11, ev_l12, ev_l13, ev_l14, ev_l15, ev_l16, ev_l17, ev_l18, ev_l19, ev_l20, ev_l21, ev_l22, ev_l23, ev_l24, ev_l25, ev_l26, ev_l30, ev_l31, ev_l32, ev_l37, ev_l40, ev_l41, ev_l43, ev_l48, ev_l49, ev_l51, ev_l55, ev_l57, ev_l58, ev_l60, ev_l61, ev_l79, ev_l85, ev_l91, ev_l99, ev_l100, ev_l107, ev_l115, ev_l127, ev_l140, ev_l215, ev_l220, ev_l920, ev_l9999, ev_nT, ev_nF, ev_nlT, ev_nlF, n0, w8, bi_shr hx (show L i < 8 by omega), g0, i3_s]
      exact ih'
def sp_bf (u : Nat → Nat) : Nat → Nat
  | 0 => 0
  | j + 1 => if u (2 * sp_bf u j) ≤ u (2 * j) then sp_bf u j else j
theorem sp_bf_le (u : Nat → Nat) : ∀ j, sp_bf u j ≤ j
  | 0 => Nat.le_refl 0
  | j + 1 => by
    have h := sp_bf_le u j
    show (if u (2 * sp_bf u j) ≤ u (2 * j) then sp_bf u j else j) ≤ j + 1
    split <;> omega
theorem sp_bf_1 (u : Nat → Nat) : sp_bf u 1 = 0 := by
  show (if u (2 * 0) ≤ u (2 * 0) then 0 else 0) = 0
  exact ite_self 0
theorem p2_e {n : Nat} (h1 : 2 ≤ n) (h2 : n ≤ 7) : ∃ e, 2 ^ n = 2 * e ∧ 1 ≤ e ∧ e ≤ 64 := by
  have h : n = 2 ∨ n = 3 ∨ n = 4 ∨ n = 5 ∨ n = 6 ∨ n = 7 := by omega
  rcases h with rfl | rfl | rfl | rfl | rfl | rfl
  · exact ⟨2, by decide, by decide, by decide⟩
  · exact ⟨4, by decide, by decide, by decide⟩
  · exact ⟨8, by decide, by decide, by decide⟩
  · exact ⟨16, by decide, by decide, by decide⟩
  · exact ⟨32, by decide, by decide, by decide⟩
  · exact ⟨64, by decide, by decide, by decide⟩
theorem cl_fair {t : jx_T} {S : Nat → Nat} {F : rt_F} {k : Nat} {L C : Nat → Nat} {σ : jx_M} (h : NL t S F k L C σ) (hw : cs_w S F) (hb : ns_b S L C) {e : Nat} (he : 2 ^ S 6 = 2 * e ∧ 1 ≤ e ∧ e ≤ 64) : f_X2_fairest t σ = some (nI (2 * sp_bf (fun w => sp_u L w (S 0)) e)) := by
  have b6 := hw.1.2.1
  have n6 : σ 0 0 = nI (S 6) := h.1.1.1.1
  have b1 := sp_bf_1 (fun w => sp_u L w (S 0))
  unfold f_X2_fairest
  have key := lq_ (X := Unit) (fun n j _ => b_X2_fairest_4 t n σ (nI (2 * sp_bf (fun w => sp_u L w (S 0)) j)) (nI (2 * j)) = some (nI (2 * sp_bf (fun w => sp_u L w (S 0)) e))) (fun _ _ => True) e ?_ ?_ 1 () (by omega) (by omega) trivial
  · rw [b1] at key; exact key
  · intro n _ _
    simp only [b_X2_fairest_4, g_X2_fairest_4]
    simp (disch := first | omega | assumption) only [ev_add, ev_mul, ev_rem, ev_sub, ev_ltT, ev_ltF, ev_leT, ev_leF, ev_eqT, ev_eqF, ev_cl, ev_in, gd_t, bd_s, lt_e, ev_of, ↓reduceIte, decide_true, true_or, or_true, ev_l0, ev_l1, ev_l2, ev_l3, ev_l4, ev_l5, ev_l6, ev_l7, ev_l8, ev_l9, ev_l10, ev_l11, ev_l12, ev_l13, ev_l14, ev_l15, ev_l16, ev_l17, ev_l18, ev_l19, ev_l20, ev_l21, ev_l22, ev_l23, ev_l24, ev_l25, ev_l26, ev_l30, ev_l31, ev_l32, ev_l37, ev_l40, ev_l41, ev_l43, ev_l48, ev_l49, ev_l51, ev_l55, ev_l57, ev_l58, ev_l60, ev_l61, ev_l79, ev_l85, ev_l91, ev_l99, ev_l100, ev_l107, ev_l115, ev_l127, ev_l140, ev_l215, ev_l220, ev_l920, ev_l9999, ev_nT, ev_nF, ev_nlT, ev_nlF, n6, bi_shl (S 6) (by omega)]
  · intro n j _ hj _ ih
    have bl := sp_bf_le (fun w => sp_u L w (S 0)) j
    have u1 := sp_u_le L (2 * j) (S 0)
    have u2 := sp_u_le L (2 * sp_bf (fun w => sp_u L w (S 0)) j) (S 0)
    have ih' := ih () trivial
    simp only [b_X2_fairest_4, g_X2_fairest_4, b_X2_fairest_32]
    rw [show sp_bf (fun w => sp_u L w (S 0)) (j + 1) = (if sp_u L (2 * sp_bf (fun w => sp_u L w (S 0)) j) (S 0) ≤ sp_u L (2 * j) (S 0) then sp_bf (fun w => sp_u L w (S 0)) j else j) from rfl] at ih'
    by_cases g : sp_u L (2 * sp_bf (fun w => sp_u L w (S 0)) j) (S 0) ≤ sp_u L (2 * j) (S 0)
    · rw [if_pos g] at ih'
      simp (disch := first | omega | assumption) only [ev_add, ev_mul, ev_rem, ev_sub, ev_ltT, ev_ltF, ev_leT, ev_leF, ev_eqT, ev_eqF, ev_cl, ev_in, gd_t, bd_s, lt_e, ev_of, ↓reduceIte, decide_true, true_or, or_true, ev_l0, ev_l1, ev_l2, ev_l3, ev_l4, ev_l5, ev_l6, ev_l7, ev_l8, ev_l9, ev_l10, ev_l11, ev_l12, ev_l13, ev_l14, ev_l15, ev_l16, ev_l17, ev_l18, ev_l19, ev_l20, ev_l21, ev_l22, ev_l23, ev_l24, ev_l25, ev_l26, ev_l30, ev_l31, ev_l32, ev_l37, ev_l40, ev_l41, ev_l43, ev_l48, ev_l49, ev_l51, ev_l55, ev_l57, ev_l58, ev_l60, ev_l61, ev_l79, ev_l85, ev_l91, ev_l99, ev_l100, ev_l107, ev_l115, ev_l127, ev_l140, ev_l215, ev_l220, ev_l920, ev_l9999, ev_nT, ev_nF, ev_nlT, ev_nlF, n6, bi_shl (S 6) (by omega), cl_unf h hw hb (way := 2 * j) (by omega), cl_unf h hw hb (way := 2 * sp_bf (fun w => sp_u L w (S 0)) j) (by omega)]
      exact ih'
    · rw [if_neg g] at ih'
      simp (disch := first | omega | assumption) only [ev_add, ev_mul, ev_rem, ev_sub, ev_ltT, ev_ltF, ev_leT, ev_leF, ev_eqT, ev_eqF, ev_cl, ev_in, gd_t, bd_s, lt_e, ev_of, ↓reduceIte, decide_true, true_or, or_true, ev_l0, ev_l1, ev_l2, ev_l3, ev_l4, ev_l5, ev_l6, ev_l7, ev_l8, ev_l9, ev_l10, ev_l11, ev_l12, ev_l13, ev_l14, ev_l15, ev_l16, ev_l17, ev_l18, ev_l19, ev_l20, ev_l21, ev_l22, ev_l23, ev_l24, ev_l25, ev_l26, ev_l30, ev_l31, ev_l32, ev_l37, ev_l40, ev_l41, ev_l43, ev_l48, ev_l49, ev_l51, ev_l55, ev_l57, ev_l58, ev_l60, ev_l61, ev_l79, ev_l85, ev_l91, ev_l99, ev_l100, ev_l107, ev_l115, ev_l127, ev_l140, ev_l215, ev_l220, ev_l920, ev_l9999, ev_nT, ev_nF, ev_nlT, ev_nlF, n6, bi_shl (S 6) (by omega), cl_unf h hw hb (way := 2 * j) (by omega), cl_unf h hw hb (way := 2 * sp_bf (fun w => sp_u L w (S 0)) j) (by omega)]
      exact ih'
theorem cm_fair {S : Nat → Nat} {F : rt_F} {k : Nat} {L C : Nat → Nat} {σ : jx_M} (h : NM S F k L C σ) (hw : cs_w S F) (hb : ns_b S L C) {e : Nat} (he : 2 ^ S 6 = 2 * e ∧ 1 ≤ e ∧ e ≤ 64) {w : Nat} (hw2 : w ≤ 1) : b_X6_fair_27 jx_fuel σ (nI w) (nI 0) (nI 99) (nI 0) = some (if w = 0 then nI (2 * sp_bf (fun w => sp_u L w (S 0)) e) else nI (sp_u L (2 * sp_bf (fun w => sp_u L w (S 0)) e) (S 0)), σ) := by
  have b6 := hw.1.2.1
  have n6 : σ 1 6 = nI (S 6) := h.1.1.1 6 (by omega) (by omega) (by omega)
  refine lq_ (X := Unit) (fun n j _ => b_X6_fair_27 n σ (nI w) (nI (2 * sp_bf (fun w => sp_u L w (S 0)) j)) (nI (if j = 0 then 99 else sp_u L (2 * sp_bf (fun w => sp_u L w (S 0)) j) (S 0))) (nI (2 * j)) = some (if w = 0 then nI (2 * sp_bf (fun w => sp_u L w (S 0)) e) else nI (sp_u L (2 * sp_bf (fun w => sp_u L w (S 0)) e) (S 0)), σ)) (fun _ _ => True) e ?_ ?_ 0 () (by omega) (by omega) trivial
  · intro n _ _
    rw [if_neg (show ¬ e = 0 by omega)]
    simp only [b_X6_fair_27, g_X6_fair_27]
    by_cases z : w = 0
    · simp (disch := first | omega | assumption) only [ev_add, ev_mul, ev_rem, ev_sub, ev_ltT, ev_ltF, ev_leT, ev_leF, ev_eqT, ev_eqF, ev_cl, ev_in, gd_t, bd_s, lt_e, ev_of, ↓reduceIte, decide_true, true_or, or_true, ev_l0, ev_l1, ev_l2, ev_l3, ev_l4, ev_l5, ev_l6, ev_l7, ev_l8, ev_l9, ev_l10, ev_l11, ev_l12, ev_l13, ev_l14, ev_l15, ev_l16, ev_l17, ev_l18, ev_l19, ev_l20, ev_l21, ev_l22, ev_l23, ev_l24, ev_l25, ev_l26, ev_l30, ev_l31, ev_l32, ev_l37, ev_l40, ev_l41, ev_l43, ev_l48, ev_l49, ev_l51, ev_l55, ev_l57, ev_l58, ev_l60, ev_l61, ev_l79, ev_l85, ev_l91, ev_l99, ev_l100, ev_l107, ev_l115, ev_l127, ev_l140, ev_l215, ev_l220, ev_l920, ev_l9999, ev_nT, ev_nF, ev_nlT, ev_nlF, n6, bi_shl (S 6) (by omega), z]
    · simp (disch := first | omega | assumption) only [ev_add, ev_mul, ev_rem, ev_sub, ev_ltT, ev_ltF, ev_leT, ev_leF, ev_eqT, ev_eqF, ev_cl, ev_in, gd_t, bd_s, lt_e, ev_of, ↓reduceIte, decide_true, true_or, or_true, ev_l0, ev_l1, ev_l2, ev_l3, ev_l4, ev_l5, ev_l6, ev_l7, ev_l8, ev_l9, ev_l10, ev_l11, ev_l12, ev_l13, ev_l14, ev_l15, ev_l16, ev_l17, ev_l18, ev_l19, ev_l20, ev_l21, ev_l22, ev_l23, ev_l24, ev_l25, ev_l26, ev_l30, ev_l31, ev_l32, ev_l37, ev_l40, ev_l41, ev_l43, ev_l48, ev_l49, ev_l51, ev_l55, ev_l57, ev_l58, ev_l60, ev_l61, ev_l79, ev_l85, ev_l91, ev_l99, ev_l100, ev_l107, ev_l115, ev_l127, ev_l140, ev_l215, ev_l220, ev_l920, ev_l9999, ev_nT, ev_nF, ev_nlT, ev_nlF, n6, bi_shl (S 6) (by omega)]
  · intro n j _ hj _ ih
    have bl := sp_bf_le (fun w => sp_u L w (S 0)) j
    have u1 := sp_u_le L (2 * j) (S 0)
    have u3 := sp_u_le L 0 (S 0)
    have u2 := sp_u_le L (2 * sp_bf (fun w => sp_u L w (S 0)) j) (S 0)
    have ih' := ih () trivial
    rw [if_neg (show ¬ j + 1 = 0 by omega)] at ih'
    simp only [b_X6_fair_27, g_X6_fair_27]
    simp (disch := first | omega | assumption) only [ev_add, ev_mul, ev_rem, ev_sub, ev_ltT, ev_ltF, ev_leT, ev_leF, ev_eqT, ev_eqF, ev_cl, ev_in, gd_t, bd_s, lt_e, ev_of, ↓reduceIte, decide_true, true_or, or_true, ev_l0, ev_l1, ev_l2, ev_l3, ev_l4, ev_l5, ev_l6, ev_l7, ev_l8, ev_l9, ev_l10, ev_l11, ev_l12, ev_l13, ev_l14, ev_l15, ev_l16, ev_l17, ev_l18, ev_l19, ev_l20, ev_l21, ev_l22, ev_l23, ev_l24, ev_l25, ev_l26, ev_l30, ev_l31, ev_l32, ev_l37, ev_l40, ev_l41, ev_l43, ev_l48, ev_l49, ev_l51, ev_l55, ev_l57, ev_l58, ev_l60, ev_l61, ev_l79, ev_l85, ev_l91, ev_l99, ev_l100, ev_l107, ev_l115, ev_l127, ev_l140, ev_l215, ev_l220, ev_l920, ev_l9999, ev_nT, ev_nF, ev_nlT, ev_nlF, n6, bi_shl (S 6) (by omega), cm_unf h hw hb (way := 2 * j) (by omega), b_X6_fair_103, b_X6_fair_117, b_X6_fair_130]
    rw [show sp_bf (fun w => sp_u L w (S 0)) (j + 1) = (if sp_u L (2 * sp_bf (fun w => sp_u L w (S 0)) j) (S 0) ≤ sp_u L (2 * j) (S 0) then sp_bf (fun w => sp_u L w (S 0)) j else j) from rfl] at ih'
    by_cases j0 : j = 0
    · subst j0
      have e1 : sp_bf (fun w => sp_u L w (S 0)) 0 = 0 := rfl
      rw [e1, if_pos (Nat.le_refl _)] at ih'
      rw [e1]
      simp (disch := first | omega | assumption) only [ev_add, ev_mul, ev_rem, ev_sub, ev_ltT, ev_ltF, ev_leT, ev_leF, ev_eqT, ev_eqF, ev_cl, ev_in, gd_t, bd_s, lt_e, ev_of, ↓reduceIte, decide_true, true_or, or_true, ev_l0, ev_l1, ev_l2, ev_l3, ev_l4, ev_l5, ev_l6, ev_l7, ev_l8, ev_l9, ev_l10, ev_l11, ev_l12, ev_l13, ev_l14, ev_l15, ev_l16, ev_l17, ev_l18, ev_l19, ev_l20, ev_l21, ev_l22, ev_l23, ev_l24, ev_l25, ev_l26, ev_l30, ev_l31, ev_l32, ev_l37, ev_l40, ev_l41, ev_l43, ev_l48, ev_l49, ev_l51, ev_l55, ev_l57, ev_l58, ev_l60, ev_l61, ev_l79, ev_l85, ev_l91, ev_l99, ev_l100, ev_l107, ev_l115, ev_l127, ev_l140, ev_l215, ev_l220, ev_l920, ev_l9999, ev_nT, ev_nF, ev_nlT, ev_nlF, Nat.mul_zero, Nat.zero_add]
      exact ih'
    · by_cases g : sp_u L (2 * sp_bf (fun w => sp_u L w (S 0)) j) (S 0) ≤ sp_u L (2 * j) (S 0)
      · rw [if_pos g] at ih'
        simp (disch := first | omega | assumption) only [ev_add, ev_mul, ev_rem, ev_sub, ev_ltT, ev_ltF, ev_leT, ev_leF, ev_eqT, ev_eqF, ev_cl, ev_in, gd_t, bd_s, lt_e, ev_of, ↓reduceIte, decide_true, true_or, or_true, ev_l0, ev_l1, ev_l2, ev_l3, ev_l4, ev_l5, ev_l6, ev_l7, ev_l8, ev_l9, ev_l10, ev_l11, ev_l12, ev_l13, ev_l14, ev_l15, ev_l16, ev_l17, ev_l18, ev_l19, ev_l20, ev_l21, ev_l22, ev_l23, ev_l24, ev_l25, ev_l26, ev_l30, ev_l31, ev_l32, ev_l37, ev_l40, ev_l41, ev_l43, ev_l48, ev_l49, ev_l51, ev_l55, ev_l57, ev_l58, ev_l60, ev_l61, ev_l79, ev_l85, ev_l91, ev_l99, ev_l100, ev_l107, ev_l115, ev_l127, ev_l140, ev_l215, ev_l220, ev_l920, ev_l9999, ev_nT, ev_nF, ev_nlT, ev_nlF]
        exact ih'
      · rw [if_neg g] at ih'
        simp (disch := first | omega | assumption) only [ev_add, ev_mul, ev_rem, ev_sub, ev_ltT, ev_ltF, ev_leT, ev_leF, ev_eqT, ev_eqF, ev_cl, ev_in, gd_t, bd_s, lt_e, ev_of, ↓reduceIte, decide_true, true_or, or_true, ev_l0, ev_l1, ev_l2, ev_l3, ev_l4, ev_l5, ev_l6, ev_l7, ev_l8, ev_l9, ev_l10, ev_l11, ev_l12, ev_l13, ev_l14, ev_l15, ev_l16, ev_l17, ev_l18, ev_l19, ev_l20, ev_l21, ev_l22, ev_l23, ev_l24, ev_l25, ev_l26, ev_l30, ev_l31, ev_l32, ev_l37, ev_l40, ev_l41, ev_l43, ev_l48, ev_l49, ev_l51, ev_l55, ev_l57, ev_l58, ev_l60, ev_l61, ev_l79, ev_l85, ev_l91, ev_l99, ev_l100, ev_l107, ev_l115, ev_l127, ev_l140, ev_l215, ev_l220, ev_l920, ev_l9999, ev_nT, ev_nF, ev_nlT, ev_nlF]
        exact ih'
theorem op_fair : lw_op_fair RR := by
  intro t σl σm a0 hR
  obtain ⟨S, F, hl, hm, hw, h20⟩ := RR_o hR
  have n6 : σl 0 0 = nI (S 6) := hl.1.1.1
  have n7 : σl 0 1 = nI (S 7) := hl.1.1.2.1
  have n0 : σl 0 2 = nI (S 0) := hl.1.1.2.2.1
  have m0 : σm 1 0 = nI (S 0) := hm.1.1 0 (by omega) (by omega) (by omega)
  have m6 : σm 1 6 = nI (S 6) := hm.1.1 6 (by omega) (by omega) (by omega)
  have m7 : σm 1 7 = nI (S 7) := hm.1.1 7 (by omega) (by omega) (by omega)
  have bw := hw.1.2.1
  have b7 := hw.1.1 7
  unfold f_X5_fair f_X6_fair
  rcases ix_p a0 2 (by omega) with h | ⟨w, hw2, rfl⟩
  · simp (disch := first | omega | assumption) only [ev_add, ev_mul, ev_rem, ev_sub, ev_ltT, ev_ltF, ev_leT, ev_leF, ev_eqT, ev_eqF, ev_cl, ev_in, gd_t, bd_s, lt_e, ev_of, ↓reduceIte, decide_true, true_or, or_true, ev_l0, ev_l1, ev_l2, ev_l3, ev_l4, ev_l5, ev_l6, ev_l7, ev_l8, ev_l9, ev_l10, ev_l11, ev_l12, ev_l13, ev_l14, ev_l15, ev_l16, ev_l17, ev_l18, ev_l19, ev_l20, ev_l21, ev_l22, ev_l23, ev_l24, ev_l25, ev_l26, ev_l30, ev_l31, ev_l32, ev_l37, ev_l40, ev_l41, ev_l43, ev_l48, ev_l49, ev_l51, ev_l55, ev_l57, ev_l58, ev_l60, ev_l61, ev_l79, ev_l85, ev_l91, ev_l99, ev_l100, ev_l107, ev_l115, ev_l127, ev_l140, ev_l215, ev_l220, ev_l920, ev_l9999, ev_nT, ev_nF, ev_nlT, ev_nlF, wi_e, show f_X6_in a0 (nI 0) (nI 1) = _ from in_f (n := 2) h (by omega) (by omega)]
    exact ⟨_, _, _, rfl, rfl, hR⟩
  · obtain ⟨σl2, u1, u2, u3, u4⟩ := NL_pass hl hw h20
    obtain ⟨σm1, σm2, g1, g2, g3, g4⟩ := NM_pass hm hw
    have fin : RR t σl2 σm2 := RR_night hR u2 u3 g3
    have bb := tp_b (F := F) hw.1 (k := 7)
    obtain ⟨e, he⟩ := p2_e (n := S 6) (by omega) (by omega)
    have bl := sp_bf_le (fun w => sp_u (tp_l S F 7) w (S 0)) e
    simp (disch := first | omega | assumption) only [ev_add, ev_mul, ev_rem, ev_sub, ev_ltT, ev_ltF, ev_leT, ev_leF, ev_eqT, ev_eqF, ev_cl, ev_in, gd_t, bd_s, lt_e, ev_of, ↓reduceIte, decide_true, true_or, or_true, ev_l0, ev_l1, ev_l2, ev_l3, ev_l4, ev_l5, ev_l6, ev_l7, ev_l8, ev_l9, ev_l10, ev_l11, ev_l12, ev_l13, ev_l14, ev_l15, ev_l16, ev_l17, ev_l18, ev_l19, ev_l20, ev_l21, ev_l22, ev_l23, ev_l24, ev_l25, ev_l26, ev_l30, ev_l31, ev_l32, ev_l37, ev_l40, ev_l41, ev_l43, ev_l48, ev_l49, ev_l51, ev_l55, ev_l57, ev_l58, ev_l60, ev_l61, ev_l79, ev_l85, ev_l91, ev_l99, ev_l100, ev_l107, ev_l115, ev_l127, ev_l140, ev_l215, ev_l220, ev_l920, ev_l9999, ev_nT, ev_nF, ev_nlT, ev_nlF, wi_e, show f_X6_in (nI w) (nI 0) (nI 1) = _ from in_t (n := 2) hw2 (by omega), u1, g1, g2, cl_fair u4 hw bb he, cm_fair g4 hw bb he (show w ≤ 1 by omega), cl_unf u4 hw bb (way := 2 * sp_bf (fun w => sp_u (tp_l S F 7) w (S 0)) e) (by omega)]
    by_cases z : w = 0
    · simp (disch := first | omega | assumption) only [ev_add, ev_mul, ev_rem, ev_sub, ev_ltT, ev_ltF, ev_leT, ev_leF, ev_eqT, ev_eqF, ev_cl, ev_in, gd_t, bd_s, lt_e, ev_of, ↓reduceIte, decide_true, true_or, or_true, ev_l0, ev_l1, ev_l2, ev_l3, ev_l4, ev_l5, ev_l6, ev_l7, ev_l8, ev_l9, ev_l10, ev_l11, ev_l12, ev_l13, ev_l14, ev_l15, ev_l16, ev_l17, ev_l18, ev_l19, ev_l20, ev_l21, ev_l22, ev_l23, ev_l24, ev_l25, ev_l26, ev_l30, ev_l31, ev_l32, ev_l37, ev_l40, ev_l41, ev_l43, ev_l48, ev_l49, ev_l51, ev_l55, ev_l57, ev_l58, ev_l60, ev_l61, ev_l79, ev_l85, ev_l91, ev_l99, ev_l100, ev_l107, ev_l115, ev_l127, ev_l140, ev_l215, ev_l220, ev_l920, ev_l9999, ev_nT, ev_nF, ev_nlT, ev_nlF, z]
      exact ⟨_, _, _, rfl, rfl, fin⟩
    · simp (disch := first | omega | assumption) only [ev_add, ev_mul, ev_rem, ev_sub, ev_ltT, ev_ltF, ev_leT, ev_leF, ev_eqT, ev_eqF, ev_cl, ev_in, gd_t, bd_s, lt_e, ev_of, ↓reduceIte, decide_true, true_or, or_true, ev_l0, ev_l1, ev_l2, ev_l3, ev_l4, ev_l5, ev_l6, ev_l7, ev_l8, ev_l9, ev_l10, ev_l11, ev_l12, ev_l13, ev_l14, ev_l15, ev_l16, ev_l17, ev_l18, ev_l19, ev_l20, ev_l21, ev_l22, ev_l23, ev_l24, ev_l25, ev_l26, ev_l30, ev_l31, ev_l32, ev_l37, ev_l40, ev_l41, ev_l43, ev_l48, ev_l49, ev_l51, ev_l55, ev_l57, ev_l58, ev_l60, ev_l61, ev_l79, ev_l85, ev_l91, ev_l99, ev_l100, ev_l107, ev_l115, ev_l127, ev_l140, ev_l215, ev_l220, ev_l920, ev_l9999, ev_nT, ev_nF, ev_nlT, ev_nlF]
      exact ⟨_, _, _, rfl, rfl, fin⟩
/-! stick -/
theorem lqn_ {X : Type} (W : Nat → Nat → X → Prop) (I : Nat → X → Prop) (e : Nat) (hx : ∀ n s, I e s → W (n + 1) e s) (hs : ∀ n i s, i < e → I i s → (∀ s', I (i + 1) s' → W (n + 1) (i + 1) s') → W (n + 2) i s) (i : Nat) (s : X) (hi : i ≤ e) (he : e < 900) (h0 : I i s) : W jx_fuel i s := by
  have h : ∀ n i s, i ≤ e → e < i + n → I i s → W n i s := by
    intro n
    induction n with
    | zero => intro i s h1 h2; omega
    | succ n ih =>
      intro i s h1 h2 h3
      by_cases h : i = e
      · subst h; exact hx n s h3
      · obtain ⟨n', rfl⟩ : ∃ n', n = n' + 1 := ⟨n - 1, by omega⟩
        exact hs n' i s (by omega) h3 (fun s' h' => ih (i + 1) s' (by omega) (by omega) h')
  exact h 1000 i s hi (by omega) h0
theorem cm_st31 {S : Nat → Nat} {F : rt_F} {σ : jx_M} (hw : cs_w S F) (hc : nc_m S F 7 σ) {p : Nat} (hp : p < S 6) (k14 : jx_M → Int32 → Int32 → Option (Int32 × jx_M)) (w : Int32) : ∃ σ', b_X6_stick_31 k14 jx_fuel σ w (nI p) (nI 0) = jx_bd (f_X6_laysAll σ') (fun q2 => jx_bd (f_X6_mayor q2) (fun q3 => if q3 = w then some (nI p, q2) else k14 q2 w (nI (p + 1)))) ∧ (∀ b, ¬ b = 5 → σ' b = σ b) ∧ nc_m S F p σ' := by
  have b6 := hw.1.2.1
  refine lq_ (fun n u τ => ∃ σ', b_X6_stick_31 k14 n τ w (nI p) (nI u) = jx_bd (f_X6_laysAll σ') (fun q2 => jx_bd (f_X6_mayor q2) (fun q3 => if q3 = w then some (nI p, q2) else k14 q2 w (nI (p + 1)))) ∧ (∀ b, ¬ b = 5 → σ' b = σ b) ∧ nc_m S F p σ') (fun u τ => (∀ b, ¬ b = 5 → τ b = σ b) ∧ ∀ t q, t < 12 → q < S 6 → τ 5 (7 * t + q) = nI (if q = p ∧ t < u then q else sp_g S F q (S 7 + t))) 12 ?_ ?_ 0 σ (by omega) (by omega) ⟨fun _ _ => rfl, fun t q ht hq => ?_⟩
  · intro n τ ⟨i1, i2⟩
    refine ⟨τ, ?_, i1, fun t q ht hq => ?_, fun q hq => ?_⟩
    · simp only [b_X6_stick_31, g_X6_stick_31]
      rw [if_pos (show (12 : Int32) ≤ nI 12 by decide)]
      simp only [lt_e, show nI p + (1 : Int32) = nI (p + 1) from nI_1 p]
    · rw [i2 t q ht hq]
      by_cases e : q = p
      · rw [if_pos ⟨e, ht⟩, if_pos e]
      · rw [if_neg (fun z => e z.1), if_neg e]
    · rw [i1 6 (by omega)]; exact hc.2 q hq
  · intro n u τ hu ⟨i1, i2⟩ ih
    simp only [b_X6_stick_31, g_X6_stick_31]
    simp (disch := first | omega | assumption) only [ev_add, ev_mul, ev_rem, ev_sub, ev_ltT, ev_ltF, ev_leT, ev_leF, ev_eqT, ev_eqF, ev_cl, ev_in, gd_t, bd_s, lt_e, ev_of, ↓reduceIte, decide_true, true_or, or_true, ev_l0, ev_l1, ev_l2, ev_l3, ev_l4, ev_l5, ev_l6, ev_l7, ev_l8, ev_l9, ev_l10, ev_l11, ev_l12, ev_l13, ev_l14, ev_l15, ev_l16, ev_l17, ev_l18, ev_l19, ev_l20, ev_l21, ev_l22, ev_l23, ev_l24, ev_l25, ev_l26, ev_l30, ev_l31, ev_l32, ev_l37, ev_l40, ev_l41, ev_l43, ev_l48, ev_l49, ev_l51, ev_l55, ev_l57, ev_l58, ev_l60, ev_l61, ev_l79, ev_l85, ev_l91, ev_l99, ev_l100, ev_l107, ev_l115, ev_l127, ev_l140, ev_l215, ev_l220, ev_l920, ev_l9999, ev_nT, ev_nF, ev_nlT, ev_nlF]
    refine ih _ ⟨fun b hb => ?_, fun t q ht hq => ?_⟩
    · rw [mu_a hb]; exact i1 b hb
    · by_cases e : t = u ∧ q = p
      · obtain ⟨e1, e2⟩ := e
        subst e1; subst e2
        rw [mu_s, if_pos ⟨rfl, by omega⟩]
      · rw [mu_n (by omega), i2 t q ht hq]
        by_cases z : q = p
        · have : (t < u) ↔ (t < u + 1) := by omega
          by_cases y : t < u
          · rw [if_pos ⟨z, y⟩, if_pos ⟨z, by omega⟩]
          · rw [if_neg (fun x => y x.2), if_neg (fun x => y (by omega))]
        · rw [if_neg (fun x => z x.1), if_neg (fun x => z x.1)]
  · rw [if_neg (fun z => absurd z.2 (by omega)), hc.1 t q ht hq, if_neg (by omega)]
theorem op_stick : lw_op_stick RR := by
  intro t σl σm a0 hR
  obtain ⟨S, F, hl, hm, hw, h20⟩ := RR_o hR
  have n6 : σl 0 0 = nI (S 6) := hl.1.1.1
  have n7 : σl 0 1 = nI (S 7) := hl.1.1.2.1
  have n0 : σl 0 2 = nI (S 0) := hl.1.1.2.2.1
  have m0 : σm 1 0 = nI (S 0) := hm.1.1 0 (by omega) (by omega) (by omega)
  have m6 : σm 1 6 = nI (S 6) := hm.1.1 6 (by omega) (by omega) (by omega)
  have m7 : σm 1 7 = nI (S 7) := hm.1.1 7 (by omega) (by omega) (by omega)
  have bw := hw.1.2.1
  have b7 := hw.1.1 7
  unfold f_X5_stick f_X6_stick f_X2_stickFor
  rcases ix_p a0 2 (by omega) with h | ⟨w, hw2, rfl⟩
  · simp (disch := first | omega | assumption) only [ev_add, ev_mul, ev_rem, ev_sub, ev_ltT, ev_ltF, ev_leT, ev_leF, ev_eqT, ev_eqF, ev_cl, ev_in, gd_t, bd_s, lt_e, ev_of, ↓reduceIte, decide_true, true_or, or_true, ev_l0, ev_l1, ev_l2, ev_l3, ev_l4, ev_l5, ev_l6, ev_l7, ev_l8, ev_l9, ev_l10, ev_l11, ev_l12, ev_l13, ev_l14, ev_l15, ev_l16, ev_l17, ev_l18, ev_l19, ev_l20, ev_l21, ev_l22, ev_l23, ev_l24, ev_l25, ev_l26, ev_l30, ev_l31, ev_l32, ev_l37, ev_l40, ev_l41, ev_l43, ev_l48, ev_l49, ev_l51, ev_l55, ev_l57, ev_l58, ev_l60, ev_l61, ev_l79, ev_l85, ev_l91, ev_l99, ev_l100, ev_l107, ev_l115, ev_l127, ev_l140, ev_l215, ev_l220, ev_l920, ev_l9999, ev_nT, ev_nF, ev_nlT, ev_nlF, wi_e, show f_X6_in a0 (nI 0) (nI 1) = _ from in_f (n := 2) h (by omega) (by omega)]
    exact ⟨_, _, _, rfl, rfl, hR⟩
  · obtain ⟨σl2, u1, u2, u3⟩ := chart_e hl hw
    have hl2 := cs_l_k hl (ch_n u2)
    have z20 : σl2 0 20 = -1 := (congrFun (u2 0 (by omega) (by omega)) 20).trans h20
    have wb : ∀ v, v < S 0 → S (49 + v) ≤ 1 := fun v hv => (hw.1.2.2.2.1 v hv).2.2.2.1
    have Bl := sp_B_lt (b := fun v => S (49 + v)) (n := S 0) wb
    have Bl2 := bi_p2 (i := S 0) (n := 6) (by omega)
    have key := lqn_ (X := jx_M × jx_M) (fun n i s => ∃ r σl' σm', b_X2_stickFor_18 t n s.1 (nI w) (nI (sp_B (fun v => S (49 + v)) (S 0))) (-5) (nI i) = some (r, σl') ∧ b_X6_stick_14 n s.2 (nI w) (nI i) = some (r, σm') ∧ nl_k σl σl' ∧ σl' 0 20 = -1 ∧ nm_k σm σm') (fun i s => nl_k σl s.1 ∧ nc_l S F s.1 ∧ nm_k σm s.2) (S 6) ?_ ?_ 0 (σl2, σm) (by omega) (by omega) ⟨ch_n u2, u3, nm_k_r σm⟩
    · obtain ⟨r, σl3, σm3, q1, q2, q3, q4, q5⟩ := key
      simp (disch := first | omega | assumption) only [ev_add, ev_mul, ev_rem, ev_sub, ev_ltT, ev_ltF, ev_leT, ev_leF, ev_eqT, ev_eqF, ev_cl, ev_in, gd_t, bd_s, lt_e, ev_of, ↓reduceIte, decide_true, true_or, or_true, ev_l0, ev_l1, ev_l2, ev_l3, ev_l4, ev_l5, ev_l6, ev_l7, ev_l8, ev_l9, ev_l10, ev_l11, ev_l12, ev_l13, ev_l14, ev_l15, ev_l16, ev_l17, ev_l18, ev_l19, ev_l20, ev_l21, ev_l22, ev_l23, ev_l24, ev_l25, ev_l26, ev_l30, ev_l31, ev_l32, ev_l37, ev_l40, ev_l41, ev_l43, ev_l48, ev_l49, ev_l51, ev_l55, ev_l57, ev_l58, ev_l60, ev_l61, ev_l79, ev_l85, ev_l91, ev_l99, ev_l100, ev_l107, ev_l115, ev_l127, ev_l140, ev_l215, ev_l220, ev_l920, ev_l9999, ev_nT, ev_nF, ev_nlT, ev_nlF, wi_e, show f_X6_in (nI w) (nI 0) (nI 1) = _ from in_t (n := 2) hw2 (by omega), u1, cl_wishes hl2 hw, show b_X2_stickFor_18 t jx_fuel σl2 (nI w) (nI (sp_B (fun v => S (49 + v)) (S 0))) (-nI 5) (nI 0) = _ from q1, show b_X6_stick_14 jx_fuel σm (nI w) (nI 0) = _ from q2]
      exact ⟨_, _, _, rfl, rfl, RR_night hR q3 q4 q5⟩
    · intro n s ⟨i1, i2, i3⟩
      have p6 : s.1 0 0 = nI (S 6) := (cs_l_k hl i1).1.1.1
      have r6 : s.2 1 6 = nI (S 6) := by rw [i3.1]; exact m6
      simp only [b_X2_stickFor_18, g_X2_stickFor_18, b_X6_stick_14, g_X6_stick_14, b_X2_stickFor_64]
      rw [p6, r6, if_pos (Int32.le_refl _), if_pos (Int32.le_refl _), lt_e]
      refine ⟨_, _, _, rfl, rfl, ⟨fun a ha => ?_, fun i hi => ?_⟩, mu_s, i3⟩
      · rw [mu_a (by omega)]; exact i1.1 a ha
      · rw [mu_n hi]; exact i1.2 i hi
    · intro n p s hp ⟨i1, i2, i3⟩ ih
      have hs1 := cs_l_k hl i1
      have p6 : s.1 0 0 = nI (S 6) := hs1.1.1.1
      have hs2 := cs_m_k hm i3.1
      have r6 : s.2 1 6 = nI (S 6) := hs2.1.1 6 (by omega) (by omega) (by omega)
      have k1 : nl_k s.1 (jx_mu s.1 0 20 (nI p)) := ⟨fun a ha => mu_a (by omega), fun i hi => mu_n hi⟩
      obtain ⟨τ1, a1, a2, a3⟩ := NL_all (cs_l_k hs1 k1) hw (nc_l_c i2 (fun b _ _ => mu_a (by omega))) (st_kk (k := p) mu_s (by omega))
      obtain ⟨τ2, b1, b2, b3⟩ := lfn_e hs2 hw
      obtain ⟨τ3, c1, c2, c3⟩ := cm_st31 hw b3 hp (b_X6_stick_14 (n + 1)) (nI w)
      obtain ⟨τ4, d1, d2, d3⟩ := NM_all (cs_m_k hs2 ((c2 1 (by omega)).trans (nx_k_n b2).1)) hw c3
      have bb := tp_b (F := F) hw.1 (k := p)
      have mm : τ4 1 0 = nI (S 0) := d3.1.1.1 0 (by omega) (by omega) (by omega)
      have ma := cl_mayor a3 hw bb (B := sp_B (fun v => S (49 + v)) (S 0)) (by omega)
      rw [sp_Mb (b' := fun v => S (49 + v)) (fun v hv => sp_B_b (b := fun v => S (49 + v)) wb hv)] at ma
      have mb := cm_mayor hw bb mm (NM_w d3 hw) d3.2.1 d3.2.2
      have ka : nl_k σl τ1 := nl_k_t i1 (nl_k_t k1 (lg_n a2))
      have kb : nm_k σm τ4 := by
        refine nm_k_t i3 (nm_k_t (nx_k_n b2) (nm_k_t ?_ (ly_k_n d2)))
        exact ⟨c2 1 (by omega), c2 2 (by omega), c2 9 (by omega), congrFun (c2 0 (by omega)) 3, congrFun (c2 0 (by omega)) 22⟩
      have kc : nc_l S F τ1 := a3.2.1
      have x1 : b_X6_stick_14 (n + 2) s.2 (nI w) (nI p) = (if sp_M S F (tp_l S F p) (tp_c S F) (fun v => S (49 + v)) = nI w then some (nI p, τ4) else b_X6_stick_14 (n + 1) τ4 (nI w) (nI (p + 1))) := by
        simp only [b_X6_stick_14, g_X6_stick_14] at c1 ⊢
        rw [r6, if_neg (nI_ge hp (by omega)), b1, bd_s]
        refine (show _ = _ from c1).trans ?_
        rw [d1, bd_s, mb, bd_s]
      have x2 : b_X2_stickFor_18 t (n + 2) s.1 (nI w) (nI (sp_B (fun v => S (49 + v)) (S 0))) (-5) (nI p) = (if sp_M S F (tp_l S F p) (tp_c S F) (fun v => S (49 + v)) = nI w then b_X2_stickFor_18 t (n + 1) τ1 (nI w) (nI (sp_B (fun v => S (49 + v)) (S 0))) (nI p) (nI (p + 1)) else b_X2_stickFor_18 t (n + 1) τ1 (nI w) (nI (sp_B (fun v => S (49 + v)) (S 0))) (-5) (nI (p + 1))) := by
        show g_X2_stickFor_18 t (b_X2_stickFor_18 t (n + 1)) s.1 (nI w) (nI (sp_B (fun v => S (49 + v)) (S 0))) (-5) (nI p) = _
        unfold g_X2_stickFor_18 b_X2_stickFor_58
        rw [p6, if_neg (nI_ge hp (by omega)), if_pos rfl, lt_e, a1, bd_s, ma, bd_s]
        simp only [lt_e, show nI p + (1 : Int32) = nI (p + 1) from nI_1 p]
      rw [x1, x2]
      by_cases g : sp_M S F (tp_l S F p) (tp_c S F) (fun v => S (49 + v)) = nI w
      · rw [if_pos g, if_pos g]
        refine ⟨nI p, jx_mu τ1 0 20 (-1), τ4, ?_, rfl, ⟨fun a ha => ?_, fun i hi => ?_⟩, mu_s, kb⟩
        · show g_X2_stickFor_18 t (b_X2_stickFor_18 t n) τ1 (nI w) (nI (sp_B (fun v => S (49 + v)) (S 0))) (nI p) (nI (p + 1)) = _
          unfold g_X2_stickFor_18 b_X2_stickFor_64
          have hne : ¬ (nI p = (-5 : Int32)) := fun e => nI_pos (n := p) (by omega) (by rw [e]; decide)
          rw [if_neg hne, ite_self, lt_e]
        · rw [mu_a (by omega)]; exact ka.1 a ha
        · rw [mu_n hi]; exact ka.2 i hi
      · rw [if_neg g, if_neg g]
        exact ih (τ1, τ4) ⟨ka, kc, kb⟩
