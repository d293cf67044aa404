/-! the class's reader: what each sign does -/
theorem ev_x33 : (33 : Int32) = nI 33 := rfl
def jt_ (x : Nat) : Prop := x = 38 ∨ x = 41 ∨ x = 59 ∨ x = 124
def VR (t : jx_T) (N : Nat) (tp : Nat → Nat) (σa σv : jx_M) (j : Nat) : Prop := (j < N → (jt_ (tp j) → f_X3_takes t σa (nI (tp j)) = f_X3_takes t σv (nI (tp j))) ∧ (¬ jt_ (tp j) → ∃ σ', f_X3_takes t σa (nI (tp j)) = some (nI 0, σ') ∧ KR σa σ')) ∧ (j = N → f_X3_isWhole t σa = f_X3_isWhole t σv)
theorem VR_t {t : jx_T} {N : Nat} {tp : Nat → Nat} {a b c : jx_M} {j : Nat} (h : VR t N tp a b j) (g : VR t N tp b c j) : VR t N tp a c j :=
  ⟨fun hj => ⟨fun z => ((h.1 hj).1 z).trans ((g.1 hj).1 z), (h.1 hj).2⟩, fun hj => (h.2 hj).trans (g.2 hj)⟩
theorem tk_8 {t : jx_T} {σ : jx_M} (h : σ 0 34 = nI 8) (s : Int32) : f_X3_takes t σ s = jx_bd (f_X3_takesJoint t σ s) (fun q31 => jx_gd (decide (q31.1 = 0 ∨ q31.1 = 1)) (some (q31.1, q31.2))) := by
  unfold f_X3_takes
  rw [h, if_neg (by decide), if_neg (by decide), if_neg (by decide), if_neg (by decide), if_neg (by decide), if_neg (by decide), if_neg (by decide), if_neg (by decide)]
theorem tj_n {t : jx_T} {σ : jx_M} {x : Nat} (hx : x ≤ 127) (h : ¬ jt_ x) : f_X3_takesJoint t σ (nI x) = some (nI 0, σ) := by
  have h1 : ¬ x = 38 := fun e => h (Or.inl e)
  have h2 : ¬ x = 41 := fun e => h (Or.inr (Or.inl e))
  have h3 : ¬ x = 59 := fun e => h (Or.inr (Or.inr (Or.inl e)))
  have h4 : ¬ x = 124 := fun e => h (Or.inr (Or.inr (Or.inr e)))
  unfold f_X3_takesJoint
  rw [if_neg (show ¬ nI x = (38 : Int32) from fun e => h1 ((nI_eq (b := 38) (by omega) (by omega)).mp e)), if_neg (show ¬ nI x = (41 : Int32) from fun e => h2 ((nI_eq (b := 41) (by omega) (by omega)).mp e)), if_neg (show ¬ nI x = (59 : Int32) from fun e => h3 ((nI_eq (b := 59) (by omega) (by omega)).mp e)), if_neg (show ¬ nI x = (124 : Int32) from fun e => h4 ((nI_eq (b := 124) (by omega) (by omega)).mp e))]
  rfl
theorem tk_n {t : jx_T} {σ : jx_M} {x : Nat} (h8 : σ 0 34 = nI 8) (hx : x ≤ 127) (h : ¬ jt_ x) : f_X3_takes t σ (nI x) = some (nI 0, σ) := by
  rw [tk_8 h8, tj_n hx h]; rfl
theorem VR_r {t : jx_T} {N : Nat} {tp : Nat → Nat} {σ : jx_M} {j : Nat} (h : σ 0 34 = nI 8) (ht : tp_ N tp σ) : VR t N tp σ σ j :=
  ⟨fun hj => ⟨fun _ => rfl, fun z => ⟨σ, tk_n h (ht.2 j hj).2 z, KR_r σ⟩⟩, fun _ => rfl⟩
theorem jn_lt : ∀ x, x ≤ 3 → ¬ ((-nI x : Int32) < -3) := by
  intro x hx
  have h : x = 0 ∨ x = 1 ∨ x = 2 ∨ x = 3 := by omega
  rcases h with rfl | rfl | rfl | rfl <;> decide
theorem jn_l2 : ∀ x, x ≤ 2 → ¬ ((-nI x : Int32) < -2) := by
  intro x hx
  have h : x = 0 ∨ x = 1 ∨ x = 2 := by omega
  rcases h with rfl | rfl | rfl <;> decide
theorem RD_34 {σ : jx_M} {du c o : Nat} {P : List Nat} (h : RD σ du c P o) (d : Nat) : RD (jx_mu σ 0 34 (nI d)) d c P o := by
  obtain ⟨h1, h2, h3, h4, h5⟩ := h
  refine ⟨mu_s, ?_, ?_, ?_, ?_⟩
  · rw [mu_n (by omega)]; exact h2
  · rw [mu_n (by omega)]; exact h3
  · rw [mu_a (by omega)]; exact h4
  · rw [mu_n (by omega)]; exact h5
theorem ec_p {t : jx_T} {σ : jx_M} {du c x o : Nat} {P : List Nat} (h : RD σ du c (x :: P) o) (hp : ps_ (x :: P) o) (hl : P.length < 17) (hc : c + P.length < 100) (hx : x ≤ 3) : f_X3_endsClause t σ = f_X3_endsClause t (pp_ σ x c P.length o) := by
  unfold f_X3_endsClause
  rw [wp_e h hp hl hc (jn_lt x hx)]
theorem VR_p {t : jx_T} {N : Nat} {tp : Nat → Nat} {σ : jx_M} {j c x o : Nat} {P : List Nat} (ht : tp_ N tp σ) (h : RD σ 8 c (x :: P) o) (hp : ps_ (x :: P) o) (hl : P.length < 17) (hc : c + P.length < 100) (hx : x ≤ 3) (h38 : x = 3 → j < N → ¬ tp j = 38) : VR t N tp σ (pp_ σ x c P.length o) j := by
  have r := pp_r h
  refine ⟨fun hj => ⟨fun z => ?_, fun z => ⟨σ, tk_n h.1 (ht.2 j hj).2 z, KR_r σ⟩⟩, fun _ => ?_⟩
  · rw [tk_8 h.1, tk_8 r.1.1]
    congr 1
    unfold f_X3_takesJoint
    rcases z with z | z | z | z
    · have x2 : x ≤ 2 := by
        by_cases e : x = 3
        · exact absurd z (h38 e hj)
        · omega
      rw [z, if_pos (show nI 38 = (38 : Int32) from rfl), if_pos (show nI 38 = (38 : Int32) from rfl)]
      unfold f_X3_takesOperator
      rw [wp_e h hp hl hc (jn_l2 x x2)]
    · rw [z, if_neg (show ¬ nI 41 = (38 : Int32) by decide), if_neg (show ¬ nI 41 = (38 : Int32) by decide), if_pos (show nI 41 = (41 : Int32) from rfl), if_pos (show nI 41 = (41 : Int32) from rfl)]
      unfold f_X3_takesClosing
      rw [wp_e h hp hl hc (jn_lt x hx)]
    · rw [z, if_neg (show ¬ nI 59 = (38 : Int32) by decide), if_neg (show ¬ nI 59 = (38 : Int32) by decide), if_neg (show ¬ nI 59 = (41 : Int32) by decide), if_neg (show ¬ nI 59 = (41 : Int32) by decide), if_pos (show nI 59 = (59 : Int32) from rfl), if_pos (show nI 59 = (59 : Int32) from rfl), lt_e, lt_e]
      rw [show f_X3_endsClause t (jx_mu σ 0 34 (0 : Int32)) = _ from ec_p (RD_34 h 0) hp hl hc hx, pp_d]
    · rw [z, if_neg (show ¬ nI 124 = (38 : Int32) by decide), if_neg (show ¬ nI 124 = (38 : Int32) by decide), if_neg (show ¬ nI 124 = (41 : Int32) by decide), if_neg (show ¬ nI 124 = (41 : Int32) by decide), if_neg (show ¬ nI 124 = (59 : Int32) by decide), if_neg (show ¬ nI 124 = (59 : Int32) by decide), if_pos (show nI 124 = (124 : Int32) from rfl), if_pos (show nI 124 = (124 : Int32) from rfl)]
      unfold f_X3_takesOperator
      rw [wp_e h hp hl hc (jn_lt x hx)]
  · unfold f_X3_isWhole b_X3_isWhole_13
    rw [h.1, r.1.1, if_neg (show ¬ nI 8 = (7 : Int32) by decide), if_neg (show ¬ nI 8 = (7 : Int32) by decide), if_pos (show nI 8 = (8 : Int32) from rfl), if_pos (show nI 8 = (8 : Int32) from rfl), ec_p h hp hl hc hx]
/-! a test's end -/
theorem bi_shl2 : ∀ i, i < 31 → (nI 1 <<< (nI i &&& nI 31) : Int32) = nI (2 ^ i) := by decide
def et_ (σ : jx_M) (c wh how v : Nat) : jx_M := jx_mu (jx_mu (jx_mu σ 64 c (nI (2 ^ 12 * wh + bu (ts_b how v) 12))) 0 31 (nI (c + 1))) 0 34 (nI 8)
theorem is_e {t : jx_T} {σ : jx_M} {how v i : Nat} (h8 : σ 0 38 = nI how) (h9 : σ 0 39 = nI v) (hh : how < 3) (hv : v < 100) (hi : i < 12) : f_X3_isSo t σ (nI i) = some (nI (if ts_b how v i = true then 1 else 0)) := by
  unfold f_X3_isSo ts_b
  have h3 : how = 0 ∨ how = 1 ∨ how = 2 := by omega
  rcases h3 with rfl | rfl | rfl
  · by_cases g : i < v
    · simp (disch := first | omega | assumption) only [ev_add, ev_mul, ev_rem, ev_sub, ev_ltT, ev_ltF, ev_leT, ev_leF, ev_eqT, ev_eqF, ev_cl, ev_in, gd_t, bd_s, lt_e, ev_of, ↓reduceIte, decide_true, true_or, or_true, ev_l0, ev_l1, ev_l2, ev_l3, ev_l4, ev_l5, ev_l6, ev_l7, ev_l8, ev_l9, ev_l10, ev_l11, ev_l12, ev_l13, ev_l14, ev_l15, ev_l16, ev_l17, ev_l18, ev_l19, ev_l20, ev_l21, ev_l22, ev_l23, ev_l24, ev_l25, ev_l26, ev_l30, ev_l31, ev_l32, ev_l37, ev_l40, ev_l41, ev_l43, ev_l48, ev_l49, ev_l51, ev_l55, ev_l57, ev_l58, ev_l60, ev_l61, ev_l79, ev_l85, ev_l91, ev_l99, ev_l100, ev_l107, ev_l115, ev_l127, ev_l140, ev_l215, ev_l220, ev_l920, ev_l9999, ev_nT, ev_nF, ev_nlT, ev_nlF, h8, h9, decide_eq_true g]
    · simp (disch := first | omega | assumption) only [ev_add, ev_mul, ev_rem, ev_sub, ev_ltT, ev_ltF, ev_leT, ev_leF, ev_eqT, ev_eqF, ev_cl, ev_in, gd_t, bd_s, lt_e, ev_of, ↓reduceIte, decide_true, true_or, or_true, ev_l0, ev_l1, ev_l2, ev_l3, ev_l4, ev_l5, ev_l6, ev_l7, ev_l8, ev_l9, ev_l10, ev_l11, ev_l12, ev_l13, ev_l14, ev_l15, ev_l16, ev_l17, ev_l18, ev_l19, ev_l20, ev_l21, ev_l22, ev_l23, ev_l24, ev_l25, ev_l26, ev_l30, ev_l31, ev_l32, ev_l37, ev_l40, ev_l41, ev_l43, ev_l48, ev_l49, ev_l51, ev_l55, ev_l57, ev_l58, ev_l60, ev_l61, ev_l79, ev_l85, ev_l91, ev_l99, ev_l100, ev_l107, ev_l115, ev_l127, ev_l140, ev_l215, ev_l220, ev_l920, ev_l9999, ev_nT, ev_nF, ev_nlT, ev_nlF, h8, h9, decide_eq_false g, Bool.false_eq_true, decide_false]
  · by_cases g : i = v
    · simp (disch := first | omega | assumption) only [ev_add, ev_mul, ev_rem, ev_sub, ev_ltT, ev_ltF, ev_leT, ev_leF, ev_eqT, ev_eqF, ev_cl, ev_in, gd_t, bd_s, lt_e, ev_of, ↓reduceIte, decide_true, true_or, or_true, ev_l0, ev_l1, ev_l2, ev_l3, ev_l4, ev_l5, ev_l6, ev_l7, ev_l8, ev_l9, ev_l10, ev_l11, ev_l12, ev_l13, ev_l14, ev_l15, ev_l16, ev_l17, ev_l18, ev_l19, ev_l20, ev_l21, ev_l22, ev_l23, ev_l24, ev_l25, ev_l26, ev_l30, ev_l31, ev_l32, ev_l37, ev_l40, ev_l41, ev_l43, ev_l48, ev_l49, ev_l51, ev_l55, ev_l57, ev_l58, ev_l60, ev_l61, ev_l79, ev_l85, ev_l91, ev_l99, ev_l100, ev_l107, ev_l115, ev_l127, ev_l140, ev_l215, ev_l220, ev_l920, ev_l9999, ev_nT, ev_nF, ev_nlT, ev_nlF, h8, h9, decide_eq_true g]
    · simp (disch := first | omega | assumption) only [ev_add, ev_mul, ev_rem, ev_sub, ev_ltT, ev_ltF, ev_leT, ev_leF, ev_eqT, ev_eqF, ev_cl, ev_in, gd_t, bd_s, lt_e, ev_of, ↓reduceIte, decide_true, true_or, or_true, ev_l0, ev_l1, ev_l2, ev_l3, ev_l4, ev_l5, ev_l6, ev_l7, ev_l8, ev_l9, ev_l10, ev_l11, ev_l12, ev_l13, ev_l14, ev_l15, ev_l16, ev_l17, ev_l18, ev_l19, ev_l20, ev_l21, ev_l22, ev_l23, ev_l24, ev_l25, ev_l26, ev_l30, ev_l31, ev_l32, ev_l37, ev_l40, ev_l41, ev_l43, ev_l48, ev_l49, ev_l51, ev_l55, ev_l57, ev_l58, ev_l60, ev_l61, ev_l79, ev_l85, ev_l91, ev_l99, ev_l100, ev_l107, ev_l115, ev_l127, ev_l140, ev_l215, ev_l220, ev_l920, ev_l9999, ev_nT, ev_nF, ev_nlT, ev_nlF, h8, h9, decide_eq_false g, Bool.false_eq_true, decide_false]
  · by_cases g : v < i
    · simp (disch := first | omega | assumption) only [ev_add, ev_mul, ev_rem, ev_sub, ev_ltT, ev_ltF, ev_leT, ev_leF, ev_eqT, ev_eqF, ev_cl, ev_in, gd_t, bd_s, lt_e, ev_of, ↓reduceIte, decide_true, true_or, or_true, ev_l0, ev_l1, ev_l2, ev_l3, ev_l4, ev_l5, ev_l6, ev_l7, ev_l8, ev_l9, ev_l10, ev_l11, ev_l12, ev_l13, ev_l14, ev_l15, ev_l16, ev_l17, ev_l18, ev_l19, ev_l20, ev_l21, ev_l22, ev_l23, ev_l24, ev_l25, ev_l26, ev_l30, ev_l31, ev_l32, ev_l37, ev_l40, ev_l41, ev_l43, ev_l48, ev_l49, ev_l51, ev_l55, ev_l57, ev_l58, ev_l60, ev_l61, ev_l79, ev_l85, ev_l91, ev_l99, ev_l100, ev_l107, ev_l115, ev_l127, ev_l140, ev_l215, ev_l220, ev_l920, ev_l9999, ev_nT, ev_nF, ev_nlT, ev_nlF, h8, h9, decide_eq_true g]
    · simp (disch := first | omega | assumption) only [ev_add, ev_mul, ev_rem, ev_sub, ev_ltT, ev_ltF, ev_leT, ev_leF, ev_eqT, ev_eqF, ev_cl, ev_in, gd_t, bd_s, lt_e, ev_of, ↓reduceIte, decide_true, true_or, or_true, ev_l0, ev_l1, ev_l2, ev_l3, ev_l4, ev_l5, ev_l6, ev_l7, ev_l8, ev_l9, ev_l10, ev_l11, ev_l12, ev_l13, ev_l14, ev_l15, ev_l16, ev_l17, ev_l18, ev_l19, ev_l20, ev_l21, ev_l22, ev_l23, ev_l24, ev_l25, ev_l26, ev_l30, ev_l31, ev_l32, ev_l37, ev_l40, ev_l41, ev_l43, ev_l48, ev_l49, ev_l51, ev_l55, ev_l57, ev_l58, ev_l60, ev_l61, ev_l79, ev_l85, ev_l91, ev_l99, ev_l100, ev_l107, ev_l115, ev_l127, ev_l140, ev_l215, ev_l220, ev_l920, ev_l9999, ev_nT, ev_nF, ev_nlT, ev_nlF, h8, h9, decide_eq_false g, Bool.false_eq_true, decide_false]
theorem et_e {t : jx_T} {σ : jx_M} {c wh how v : Nat} (hc : σ 0 31 = nI c) (hc' : c < 100) (h7 : σ 0 37 = nI wh) (h8 : σ 0 38 = nI how) (h9 : σ 0 39 = nI v) (hw : wh < 4) (hh : how < 3) (hv : v < 100) : f_X3_endTest t σ = some (et_ σ c wh how v) := by
  unfold f_X3_endTest
  refine lq_ (X := Unit) (fun n i _ => b_X3_endTest_4 t n σ (nI (bu (ts_b how v) i)) (nI i) = some (et_ σ c wh how v)) (fun _ _ => True) 12 ?_ ?_ 0 () (by omega) (by omega) trivial
  · intro n _ _
    have bl := bu_lt (ts_b how v) 12
    simp only [b_X3_endTest_4, g_X3_endTest_4]
    have e : ((nI wh <<< ((12 : Int32) &&& 31)) ||| nI (bu (ts_b how v) 12)) = nI (2 ^ 12 * wh + bu (ts_b how v) 12) := by
      rw [show ((12 : Int32) &&& 31) = (nI 12 &&& nI 31) from rfl, pk_shlN _ 12 (bi_sm2 12 (by omega)) (by omega), bi_or, Nat.mul_comm, Nat.two_pow_add_eq_or_of_lt bl]
    rw [if_pos (show (12 : Int32) ≤ nI 12 by decide), h7, e, wr_e hc hc', bd_s, lt_e]
    rfl
  · intro n i _ hi _ ih
    have ih' := ih () trivial
    simp only [b_X3_endTest_4, g_X3_endTest_4, b_X3_endTest_24]
    rw [show bu (ts_b how v) (i + 1) = bu (ts_b how v) i ||| (if ts_b how v i = true then 2 ^ i else 0) from rfl] at ih'
    cases z : ts_b how v i with
    | true =>
      rw [z, if_pos rfl] at ih'
      simp (disch := first | omega | assumption) only [ev_add, ev_mul, ev_rem, ev_sub, ev_ltT, ev_ltF, ev_leT, ev_leF, ev_eqT, ev_eqF, ev_cl, ev_in, gd_t, bd_s, lt_e, ev_of, ↓reduceIte, decide_true, true_or, or_true, ev_l0, ev_l1, ev_l2, ev_l3, ev_l4, ev_l5, ev_l6, ev_l7, ev_l8, ev_l9, ev_l10, ev_l11, ev_l12, ev_l13, ev_l14, ev_l15, ev_l16, ev_l17, ev_l18, ev_l19, ev_l20, ev_l21, ev_l22, ev_l23, ev_l24, ev_l25, ev_l26, ev_l30, ev_l31, ev_l32, ev_l37, ev_l40, ev_l41, ev_l43, ev_l48, ev_l49, ev_l51, ev_l55, ev_l57, ev_l58, ev_l60, ev_l61, ev_l79, ev_l85, ev_l91, ev_l99, ev_l100, ev_l107, ev_l115, ev_l127, ev_l140, ev_l215, ev_l220, ev_l920, ev_l9999, ev_nT, ev_nF, ev_nlT, ev_nlF, is_e h8 h9 hh hv hi, z, bi_shl2 i (by omega), bi_or]
      exact ih'
    | false =>
      rw [z, if_neg (by decide), Nat.or_zero] at ih'
      simp (disch := first | omega | assumption) only [ev_add, ev_mul, ev_rem, ev_sub, ev_ltT, ev_ltF, ev_leT, ev_leF, ev_eqT, ev_eqF, ev_cl, ev_in, gd_t, bd_s, lt_e, ev_of, ↓reduceIte, decide_true, true_or, or_true, ev_l0, ev_l1, ev_l2, ev_l3, ev_l4, ev_l5, ev_l6, ev_l7, ev_l8, ev_l9, ev_l10, ev_l11, ev_l12, ev_l13, ev_l14, ev_l15, ev_l16, ev_l17, ev_l18, ev_l19, ev_l20, ev_l21, ev_l22, ev_l23, ev_l24, ev_l25, ev_l26, ev_l30, ev_l31, ev_l32, ev_l37, ev_l40, ev_l41, ev_l43, ev_l48, ev_l49, ev_l51, ev_l55, ev_l57, ev_l58, ev_l60, ev_l61, ev_l79, ev_l85, ev_l91, ev_l99, ev_l100, ev_l107, ev_l115, ev_l127, ev_l140, ev_l215, ev_l220, ev_l920, ev_l9999, ev_nT, ev_nF, ev_nlT, ev_nlF, is_e h8 h9 hh hv hi, z, Bool.false_eq_true]
      exact ih'
theorem et_r {σ : jx_M} {du c wh how v o : Nat} {P : List Nat} (h : RD σ du c P o) : RD (et_ σ c wh how v) 8 (c + 1) P o ∧ et_ σ c wh how v 64 c = nI (2 ^ 12 * wh + bu (ts_b how v) 12) ∧ KE c σ (et_ σ c wh how v) := by
  obtain ⟨h1, h2, h3, h4, h5⟩ := h
  unfold et_
  refine ⟨⟨mu_s, ?_, ?_, ?_, ?_⟩, ?_, fun b b0 b1 b2 => ?_, fun i i1 i2 => ?_, fun k hk => ?_⟩
  · simp (disch := omega) only [mu_n, mu_s]
  · simp (disch := omega) only [mu_n, mu_a]; exact h3
  · simp (disch := omega) only [mu_a]; exact h4
  · simp (disch := omega) only [mu_n, mu_a]; exact h5
  · simp (disch := omega) only [mu_a, mu_s]
  · simp (disch := omega) only [mu_a]
  · simp (disch := omega) only [mu_n, mu_a]
  · simp (disch := omega) only [mu_n, mu_a]
theorem tk_7 {t : jx_T} {σ : jx_M} (h : σ 0 34 = nI 7) (s : Int32) : f_X3_takes t σ s = jx_bd (f_X3_takesSecondDigit t σ s) (fun q25 => if q25.1 = 0 then jx_bd (f_X3_endTest t q25.2) (fun q27 => jx_bd (f_X3_takesJoint t q27 s) (fun q28 => jx_gd (decide (q28.1 = 0 ∨ q28.1 = 1)) (some (q28.1, q28.2)))) else some ((1 : Int32), q25.2)) := by
  unfold f_X3_takes
  rw [h, if_neg (by decide), if_neg (by decide), if_neg (by decide), if_neg (by decide), if_neg (by decide), if_neg (by decide), if_neg (by decide), if_pos (show nI 7 = (7 : Int32) from rfl)]
theorem sd_n {t : jx_T} {σ : jx_M} {v x : Nat} (h9 : σ 0 39 = nI v) (hv : v < 100) (hx : x ≤ 127) (h : ¬ (48 ≤ x ∧ x ≤ 57) ∨ v = 0 ∨ 9 < v) : f_X3_takesSecondDigit t σ (nI x) = some (nI 0, σ) := by
  unfold f_X3_takesSecondDigit
  by_cases g1 : x < 48
  · simp (disch := first | omega | assumption) only [ev_add, ev_mul, ev_rem, ev_sub, ev_ltT, ev_ltF, ev_leT, ev_leF, ev_eqT, ev_eqF, ev_cl, ev_in, gd_t, bd_s, lt_e, ev_of, ↓reduceIte, decide_true, true_or, or_true, ev_l0, ev_l1, ev_l2, ev_l3, ev_l4, ev_l5, ev_l6, ev_l7, ev_l8, ev_l9, ev_l10, ev_l11, ev_l12, ev_l13, ev_l14, ev_l15, ev_l16, ev_l17, ev_l18, ev_l19, ev_l20, ev_l21, ev_l22, ev_l23, ev_l24, ev_l25, ev_l26, ev_l30, ev_l31, ev_l32, ev_l37, ev_l40, ev_l41, ev_l43, ev_l48, ev_l49, ev_l51, ev_l55, ev_l57, ev_l58, ev_l60, ev_l61, ev_l79, ev_l85, ev_l91, ev_l99, ev_l100, ev_l107, ev_l115, ev_l127, ev_l140, ev_l215, ev_l220, ev_l920, ev_l9999, ev_nT, ev_nF, ev_nlT, ev_nlF]
  · by_cases g2 : 57 < x
    · simp (disch := first | omega | assumption) only [ev_add, ev_mul, ev_rem, ev_sub, ev_ltT, ev_ltF, ev_leT, ev_leF, ev_eqT, ev_eqF, ev_cl, ev_in, gd_t, bd_s, lt_e, ev_of, ↓reduceIte, decide_true, true_or, or_true, ev_l0, ev_l1, ev_l2, ev_l3, ev_l4, ev_l5, ev_l6, ev_l7, ev_l8, ev_l9, ev_l10, ev_l11, ev_l12, ev_l13, ev_l14, ev_l15, ev_l16, ev_l17, ev_l18, ev_l19, ev_l20, ev_l21, ev_l22, ev_l23, ev_l24, ev_l25, ev_l26, ev_l30, ev_l31, ev_l32, ev_l37, ev_l40, ev_l41, ev_l43, ev_l48, ev_l49, ev_l51, ev_l55, ev_l57, ev_l58, ev_l60, ev_l61, ev_l79, ev_l85, ev_l91, ev_l99, ev_l100, ev_l107, ev_l115, ev_l127, ev_l140, ev_l215, ev_l220, ev_l920, ev_l9999, ev_nT, ev_nF, ev_nlT, ev_nlF]
    · by_cases g3 : v = 0
      · simp (disch := first | omega | assumption) only [ev_add, ev_mul, ev_rem, ev_sub, ev_ltT, ev_ltF, ev_leT, ev_leF, ev_eqT, ev_eqF, ev_cl, ev_in, gd_t, bd_s, lt_e, ev_of, ↓reduceIte, decide_true, true_or, or_true, ev_l0, ev_l1, ev_l2, ev_l3, ev_l4, ev_l5, ev_l6, ev_l7, ev_l8, ev_l9, ev_l10, ev_l11, ev_l12, ev_l13, ev_l14, ev_l15, ev_l16, ev_l17, ev_l18, ev_l19, ev_l20, ev_l21, ev_l22, ev_l23, ev_l24, ev_l25, ev_l26, ev_l30, ev_l31, ev_l32, ev_l37, ev_l40, ev_l41, ev_l43, ev_l48, ev_l49, ev_l51, ev_l55, ev_l57, ev_l58, ev_l60, ev_l61, ev_l79, ev_l85, ev_l91, ev_l99, ev_l100, ev_l107, ev_l115, ev_l127, ev_l140, ev_l215, ev_l220, ev_l920, ev_l9999, ev_nT, ev_nF, ev_nlT, ev_nlF, h9, g3]
      · have g4 : 9 < v := by omega
        simp (disch := first | omega | assumption) only [ev_add, ev_mul, ev_rem, ev_sub, ev_ltT, ev_ltF, ev_leT, ev_leF, ev_eqT, ev_eqF, ev_cl, ev_in, gd_t, bd_s, lt_e, ev_of, ↓reduceIte, decide_true, true_or, or_true, ev_l0, ev_l1, ev_l2, ev_l3, ev_l4, ev_l5, ev_l6, ev_l7, ev_l8, ev_l9, ev_l10, ev_l11, ev_l12, ev_l13, ev_l14, ev_l15, ev_l16, ev_l17, ev_l18, ev_l19, ev_l20, ev_l21, ev_l22, ev_l23, ev_l24, ev_l25, ev_l26, ev_l30, ev_l31, ev_l32, ev_l37, ev_l40, ev_l41, ev_l43, ev_l48, ev_l49, ev_l51, ev_l55, ev_l57, ev_l58, ev_l60, ev_l61, ev_l79, ev_l85, ev_l91, ev_l99, ev_l100, ev_l107, ev_l115, ev_l127, ev_l140, ev_l215, ev_l220, ev_l920, ev_l9999, ev_nT, ev_nF, ev_nlT, ev_nlF, h9]
theorem sd_y {t : jx_T} {σ : jx_M} {v x : Nat} (h9 : σ 0 39 = nI v) (h1 : 48 ≤ x ∧ x ≤ 57) (h2 : 1 ≤ v ∧ v ≤ 9) : f_X3_takesSecondDigit t σ (nI x) = some (nI 1, jx_mu σ 0 39 (nI (v * 10 + x - 48))) := by
  unfold f_X3_takesSecondDigit
  simp (disch := first | omega | assumption) only [ev_add, ev_mul, ev_rem, ev_sub, ev_ltT, ev_ltF, ev_leT, ev_leF, ev_eqT, ev_eqF, ev_cl, ev_in, gd_t, bd_s, lt_e, ev_of, ↓reduceIte, decide_true, true_or, or_true, ev_l0, ev_l1, ev_l2, ev_l3, ev_l4, ev_l5, ev_l6, ev_l7, ev_l8, ev_l9, ev_l10, ev_l11, ev_l12, ev_l13, ev_l14, ev_l15, ev_l16, ev_l17, ev_l18, ev_l19, ev_l20, ev_l21, ev_l22, ev_l23, ev_l24, ev_l25, ev_l26, ev_l30, ev_l31, ev_l32, ev_l37, ev_l40, ev_l41, ev_l43, ev_l48, ev_l49, ev_l51, ev_l55, ev_l57, ev_l58, ev_l60, ev_l61, ev_l79, ev_l85, ev_l91, ev_l99, ev_l100, ev_l107, ev_l115, ev_l127, ev_l140, ev_l215, ev_l220, ev_l920, ev_l9999, ev_nT, ev_nF, ev_nlT, ev_nlF, h9]
theorem VR_e {t : jx_T} {N : Nat} {tp : Nat → Nat} {σ : jx_M} {j c wh how v o : Nat} {P : List Nat} (ht : tp_ N tp σ) (h : RD σ 7 c P o) (hc : c < 100) (h7 : σ 0 37 = nI wh) (h8 : σ 0 38 = nI how) (h9 : σ 0 39 = nI v) (hw : wh < 4) (hh : how < 3) (hv : v < 100) (hs : j < N → ¬ (48 ≤ tp j ∧ tp j ≤ 57) ∨ v = 0 ∨ 9 < v) : VR t N tp σ (et_ σ c wh how v) j := by
  have r := et_r (wh := wh) (how := how) (v := v) h
  have ee := et_e (t := t) h.2.1 hc h7 h8 h9 hw hh hv
  refine ⟨fun hj => ⟨fun z => ?_, fun z => ⟨_, ?_, KE_R r.2.2⟩⟩, fun _ => ?_⟩
  · rw [tk_7 h.1, sd_n h9 hv (ht.2 j hj).2 (hs hj), bd_s, if_pos (show (nI 0, σ).1 = 0 from rfl)]
    show jx_bd (f_X3_endTest t σ) _ = _
    rw [ee, bd_s, tk_8 r.1.1]
  · rw [tk_7 h.1, sd_n h9 hv (ht.2 j hj).2 (hs hj), bd_s, if_pos (show (nI 0, σ).1 = 0 from rfl)]
    show jx_bd (f_X3_endTest t σ) _ = _
    rw [ee, bd_s, tj_n (ht.2 j hj).2 z]
    rfl
  · unfold f_X3_isWhole
    rw [h.1, r.1.1, if_pos (show nI 7 = (7 : Int32) from rfl), ee, bd_s, if_neg (show ¬ nI 8 = (7 : Int32) by decide)]
/-! the signs of an F -/
theorem tk_4 {t : jx_T} {σ : jx_M} (h : σ 0 34 = nI 4) (s : Int32) : f_X3_takes t σ s = jx_bd (f_X3_takesFactor t σ s) (fun q16 => jx_gd (decide (q16.1 = 0 ∨ q16.1 = 1)) (some (q16.1, q16.2))) := by
  unfold f_X3_takes
  rw [h, if_neg (by decide), if_neg (by decide), if_neg (by decide), if_neg (by decide), if_pos (show nI 4 = (4 : Int32) from rfl)]
theorem t4_o {t : jx_T} {σ : jx_M} {c o x z : Nat} {P : List Nat} (h : RD σ 4 c P o) (hP : P.length < 17) (ho : o < 5) (hx : (x = 33 ∧ z = 1) ∨ (x = 40 ∧ z = 4)) : ∃ σ', f_X3_takes t σ (nI x) = some (nI 1, σ') ∧ RD σ' 4 c (z :: P) (o + 1) ∧ KE c σ σ' := by
  obtain ⟨h1, h2, h3, h4, h5⟩ := h
  refine ⟨jx_mu (jx_mu (jx_mu σ 0 33 (nI (o + 1))) 65 P.length (-nI z)) 0 32 (nI (P.length + 1)), ?_, ⟨?_, ?_, mu_s, ⟨?_, ?_⟩, ?_⟩, fun b b0 b1 b2 => ?_, fun i i1 i2 => ?_, fun k hk => ?_⟩
  · rw [tk_4 h1]
    unfold f_X3_takesFactor b_X3_takesFactor_12 b_X3_takesFactor_45
    have p1 := pe_e (t := t) (σ := jx_mu σ 0 33 (nI (o + 1))) (p := P.length) (by rw [mu_n (by omega)]; exact h3) hP
    rcases hx with ⟨rfl, rfl⟩ | ⟨rfl, rfl⟩
    · simp (disch := first | omega | assumption) only [ev_add, ev_mul, ev_rem, ev_sub, ev_ltT, ev_ltF, ev_leT, ev_leF, ev_eqT, ev_eqF, ev_cl, ev_in, gd_t, bd_s, lt_e, ev_of, ↓reduceIte, decide_true, true_or, or_true, ev_l0, ev_l1, ev_l2, ev_l3, ev_l4, ev_l5, ev_l6, ev_l7, ev_l8, ev_l9, ev_l10, ev_l11, ev_l12, ev_l13, ev_l14, ev_l15, ev_l16, ev_l17, ev_l18, ev_l19, ev_l20, ev_l21, ev_l22, ev_l23, ev_l24, ev_l25, ev_l26, ev_l30, ev_l31, ev_l32, ev_l37, ev_l40, ev_l41, ev_l43, ev_l48, ev_l49, ev_l51, ev_l55, ev_l57, ev_l58, ev_l60, ev_l61, ev_l79, ev_l85, ev_l91, ev_l99, ev_l100, ev_l107, ev_l115, ev_l127, ev_l140, ev_l215, ev_l220, ev_l920, ev_l9999, ev_nT, ev_nF, ev_nlT, ev_nlF, ev_x33, h5, show f_X3_pend t (jx_mu σ 0 33 (nI (o + 1))) (-nI 1) = _ from p1 _]
    · simp (disch := first | omega | assumption) only [ev_add, ev_mul, ev_rem, ev_sub, ev_ltT, ev_ltF, ev_leT, ev_leF, ev_eqT, ev_eqF, ev_cl, ev_in, gd_t, bd_s, lt_e, ev_of, ↓reduceIte, decide_true, true_or, or_true, ev_l0, ev_l1, ev_l2, ev_l3, ev_l4, ev_l5, ev_l6, ev_l7, ev_l8, ev_l9, ev_l10, ev_l11, ev_l12, ev_l13, ev_l14, ev_l15, ev_l16, ev_l17, ev_l18, ev_l19, ev_l20, ev_l21, ev_l22, ev_l23, ev_l24, ev_l25, ev_l26, ev_l30, ev_l31, ev_l32, ev_l37, ev_l40, ev_l41, ev_l43, ev_l48, ev_l49, ev_l51, ev_l55, ev_l57, ev_l58, ev_l60, ev_l61, ev_l79, ev_l85, ev_l91, ev_l99, ev_l100, ev_l107, ev_l115, ev_l127, ev_l140, ev_l215, ev_l220, ev_l920, ev_l9999, ev_nT, ev_nF, ev_nlT, ev_nlF, ev_x33, h5, show f_X3_pend t (jx_mu σ 0 33 (nI (o + 1))) (-nI 4) = _ from p1 _]
  · simp (disch := omega) only [mu_n, mu_a]; exact h1
  · simp (disch := omega) only [mu_n, mu_a]; exact h2
  · simp (disch := omega) only [mu_a, mu_s]
  · refine pk_l_c P (fun k hk => ?_) h4
    simp (disch := omega) only [mu_n, mu_a]
  · simp (disch := omega) only [mu_n, mu_a, mu_s]
  · simp (disch := omega) only [mu_a]
  · simp (disch := omega) only [mu_n, mu_a]
  · simp (disch := omega) only [mu_a]
theorem t4_f {t : jx_T} {σ : jx_M} {c x : Nat} {P : List Nat} (h : RD σ 4 c P 5) (hx : x = 33 ∨ x = 40) : f_X3_takes t σ (nI x) = some (nI 0, σ) := by
  rw [tk_4 h.1]
  unfold f_X3_takesFactor b_X3_takesFactor_12
  have h5 := h.2.2.2.2
  rcases hx with rfl | rfl
  · simp (disch := first | omega | assumption) only [ev_add, ev_mul, ev_rem, ev_sub, ev_ltT, ev_ltF, ev_leT, ev_leF, ev_eqT, ev_eqF, ev_cl, ev_in, gd_t, bd_s, lt_e, ev_of, ↓reduceIte, decide_true, true_or, or_true, ev_l0, ev_l1, ev_l2, ev_l3, ev_l4, ev_l5, ev_l6, ev_l7, ev_l8, ev_l9, ev_l10, ev_l11, ev_l12, ev_l13, ev_l14, ev_l15, ev_l16, ev_l17, ev_l18, ev_l19, ev_l20, ev_l21, ev_l22, ev_l23, ev_l24, ev_l25, ev_l26, ev_l30, ev_l31, ev_l32, ev_l37, ev_l40, ev_l41, ev_l43, ev_l48, ev_l49, ev_l51, ev_l55, ev_l57, ev_l58, ev_l60, ev_l61, ev_l79, ev_l85, ev_l91, ev_l99, ev_l100, ev_l107, ev_l115, ev_l127, ev_l140, ev_l215, ev_l220, ev_l920, ev_l9999, ev_nT, ev_nF, ev_nlT, ev_nlF, ev_x33, h5]
  · simp (disch := first | omega | assumption) only [ev_add, ev_mul, ev_rem, ev_sub, ev_ltT, ev_ltF, ev_leT, ev_leF, ev_eqT, ev_eqF, ev_cl, ev_in, gd_t, bd_s, lt_e, ev_of, ↓reduceIte, decide_true, true_or, or_true, ev_l0, ev_l1, ev_l2, ev_l3, ev_l4, ev_l5, ev_l6, ev_l7, ev_l8, ev_l9, ev_l10, ev_l11, ev_l12, ev_l13, ev_l14, ev_l15, ev_l16, ev_l17, ev_l18, ev_l19, ev_l20, ev_l21, ev_l22, ev_l23, ev_l24, ev_l25, ev_l26, ev_l30, ev_l31, ev_l32, ev_l37, ev_l40, ev_l41, ev_l43, ev_l48, ev_l49, ev_l51, ev_l55, ev_l57, ev_l58, ev_l60, ev_l61, ev_l79, ev_l85, ev_l91, ev_l99, ev_l100, ev_l107, ev_l115, ev_l127, ev_l140, ev_l215, ev_l220, ev_l920, ev_l9999, ev_nT, ev_nF, ev_nlT, ev_nlF, ev_x33, h5]
def sx_ (x : Nat) : Nat := if x = 112 then 0 else if x = 113 then 1 else if x = 109 then 2 else if x = 119 then 3 else 4
def rx_ (x : Nat) : Nat := if x = 60 then 0 else if x = 61 then 1 else if x = 62 then 2 else 3
theorem sx_i : ∀ x, x < 128 → f_J0_indexOf_0f7a4 1 ((nI x).toUInt32 % 65536).toInt32 = some (if sx_ x < 4 then nI (sx_ x) else -1) := by decide +kernel
theorem rx_i : ∀ x, x < 128 → f_J0_indexOf_0f7a4 2 ((nI x).toUInt32 % 65536).toInt32 = some (if rx_ x < 3 then nI (rx_ x) else -1) := by decide +kernel
theorem t4_s {t : jx_T} {σ : jx_M} {c o x : Nat} {P : List Nat} (h : RD σ 4 c P o) (hx : x ≤ 127) (h1 : ¬ x = 33) (h2 : ¬ x = 40) : ∃ σ', f_X3_takes t σ (nI x) = some (nI (if sx_ x < 4 then 1 else 0), σ') ∧ RD σ' 5 c P o ∧ KE c σ σ' ∧ (sx_ x < 4 → σ' 0 37 = nI (sx_ x)) := by
  obtain ⟨g1, g2, g3, g4, g5⟩ := h
  refine ⟨jx_mu (jx_mu σ 0 37 (if sx_ x < 4 then nI (sx_ x) else -1)) 0 34 (nI 5), ?_, ⟨mu_s, ?_, ?_, ?_, ?_⟩, KE_t (KE_0 (by omega)) (KE_0 (by omega)) (Nat.le_refl c), fun hs => ?_⟩
  · rw [tk_4 g1]
    unfold f_X3_takesFactor
    rw [if_neg (show ¬ nI x = (33 : Int32) from fun e => h1 ((nI_eq (b := 33) (by omega) (by omega)).mp e)), if_neg (show ¬ nI x = (40 : Int32) from fun e => h2 ((nI_eq (b := 40) (by omega) (by omega)).mp e)), sx_i x (by omega), bd_s, lt_e, lt_e, mu_n (show ¬ 37 = 34 by omega), mu_s]
    by_cases g : sx_ x < 4
    · rw [if_pos g, if_pos g, if_neg (nI_pos (by omega))]; rfl
    · rw [if_neg g, if_neg g, if_pos (show (-1 : Int32) < 0 by decide)]; rfl
  · rw [mu_n (by omega), mu_n (by omega)]; exact g2
  · rw [mu_n (by omega), mu_n (by omega)]; exact g3
  · rw [mu_a (by omega), mu_a (by omega)]; exact g4
  · rw [mu_n (by omega), mu_n (by omega)]; exact g5
  · rw [mu_n (by omega), mu_s, if_pos hs]
theorem t5_s {t : jx_T} {σ : jx_M} {c o x : Nat} {P : List Nat} (h : RD σ 5 c P o) (hx : x ≤ 127) : ∃ σ', f_X3_takes t σ (nI x) = some (nI (if rx_ x < 3 then 1 else 0), σ') ∧ RD σ' 6 c P o ∧ KE c σ σ' ∧ σ' 0 37 = σ 0 37 ∧ (rx_ x < 3 → σ' 0 38 = nI (rx_ x)) := by
  obtain ⟨g1, g2, g3, g4, g5⟩ := h
  refine ⟨jx_mu (jx_mu σ 0 38 (if rx_ x < 3 then nI (rx_ x) else -1)) 0 34 (nI 6), ?_, ⟨mu_s, ?_, ?_, ?_, ?_⟩, KE_t (KE_0 (by omega)) (KE_0 (by omega)) (Nat.le_refl c), ?_, fun hs => ?_⟩
  · unfold f_X3_takes f_X3_takesRelation
    rw [g1, if_neg (by decide), if_neg (by decide), if_neg (by decide), if_neg (by decide), if_neg (by decide), if_pos (show nI 5 = (5 : Int32) from rfl), rx_i x (by omega), bd_s, lt_e, lt_e, mu_n (show ¬ 38 = 34 by omega), mu_s]
    by_cases g : rx_ x < 3
    · rw [if_pos g, if_pos g, if_neg (nI_pos (by omega))]; rfl
    · rw [if_neg g, if_neg g, if_pos (show (-1 : Int32) < 0 by decide)]; rfl
  · rw [mu_n (by omega), mu_n (by omega)]; exact g2
  · rw [mu_n (by omega), mu_n (by omega)]; exact g3
  · rw [mu_a (by omega), mu_a (by omega)]; exact g4
  · rw [mu_n (by omega), mu_n (by omega)]; exact g5
  · rw [mu_n (by omega), mu_n (by omega)]
  · rw [mu_n (by omega), mu_s, if_pos hs]
/-! the digits: du 6 of a test, 2 of an amount -/
theorem td_n {t : jx_T} {σ : jx_M} {x : Nat} (hx : x ≤ 127) (h : ¬ (48 ≤ x ∧ x ≤ 57)) (a : Int32) : f_X3_takesDigit t σ (nI x) a = some (nI 0, σ) := by
  unfold f_X3_takesDigit
  by_cases g : x < 48
  · simp (disch := first | omega | assumption) only [ev_add, ev_mul, ev_rem, ev_sub, ev_ltT, ev_ltF, ev_leT, ev_leF, ev_eqT, ev_eqF, ev_cl, ev_in, gd_t, bd_s, lt_e, ev_of, ↓reduceIte, decide_true, true_or, or_true, ev_l0, ev_l1, ev_l2, ev_l3, ev_l4, ev_l5, ev_l6, ev_l7, ev_l8, ev_l9, ev_l10, ev_l11, ev_l12, ev_l13, ev_l14, ev_l15, ev_l16, ev_l17, ev_l18, ev_l19, ev_l20, ev_l21, ev_l22, ev_l23, ev_l24, ev_l25, ev_l26, ev_l30, ev_l31, ev_l32, ev_l37, ev_l40, ev_l41, ev_l43, ev_l48, ev_l49, ev_l51, ev_l55, ev_l57, ev_l58, ev_l60, ev_l61, ev_l79, ev_l85, ev_l91, ev_l99, ev_l100, ev_l107, ev_l115, ev_l127, ev_l140, ev_l215, ev_l220, ev_l920, ev_l9999, ev_nT, ev_nF, ev_nlT, ev_nlF]
  · simp (disch := first | omega | assumption) only [ev_add, ev_mul, ev_rem, ev_sub, ev_ltT, ev_ltF, ev_leT, ev_leF, ev_eqT, ev_eqF, ev_cl, ev_in, gd_t, bd_s, lt_e, ev_of, ↓reduceIte, decide_true, true_or, or_true, ev_l0, ev_l1, ev_l2, ev_l3, ev_l4, ev_l5, ev_l6, ev_l7, ev_l8, ev_l9, ev_l10, ev_l11, ev_l12, ev_l13, ev_l14, ev_l15, ev_l16, ev_l17, ev_l18, ev_l19, ev_l20, ev_l21, ev_l22, ev_l23, ev_l24, ev_l25, ev_l26, ev_l30, ev_l31, ev_l32, ev_l37, ev_l40, ev_l41, ev_l43, ev_l48, ev_l49, ev_l51, ev_l55, ev_l57, ev_l58, ev_l60, ev_l61, ev_l79, ev_l85, ev_l91, ev_l99, ev_l100, ev_l107, ev_l115, ev_l127, ev_l140, ev_l215, ev_l220, ev_l920, ev_l9999, ev_nT, ev_nF, ev_nlT, ev_nlF]
theorem td_y {t : jx_T} {σ : jx_M} {x : Nat} (h : 48 ≤ x ∧ x ≤ 57) (a : Nat) : f_X3_takesDigit t σ (nI x) (nI a) = some (nI 1, jx_mu (jx_mu σ 0 39 (nI (x - 48))) 0 34 (nI a)) := by
  unfold f_X3_takesDigit
  simp (disch := first | omega | assumption) only [ev_add, ev_mul, ev_rem, ev_sub, ev_ltT, ev_ltF, ev_leT, ev_leF, ev_eqT, ev_eqF, ev_cl, ev_in, gd_t, bd_s, lt_e, ev_of, ↓reduceIte, decide_true, true_or, or_true, ev_l0, ev_l1, ev_l2, ev_l3, ev_l4, ev_l5, ev_l6, ev_l7, ev_l8, ev_l9, ev_l10, ev_l11, ev_l12, ev_l13, ev_l14, ev_l15, ev_l16, ev_l17, ev_l18, ev_l19, ev_l20, ev_l21, ev_l22, ev_l23, ev_l24, ev_l25, ev_l26, ev_l30, ev_l31, ev_l32, ev_l37, ev_l40, ev_l41, ev_l43, ev_l48, ev_l49, ev_l51, ev_l55, ev_l57, ev_l58, ev_l60, ev_l61, ev_l79, ev_l85, ev_l91, ev_l99, ev_l100, ev_l107, ev_l115, ev_l127, ev_l140, ev_l215, ev_l220, ev_l920, ev_l9999, ev_nT, ev_nF, ev_nlT, ev_nlF]
theorem t1_n {t : jx_T} {σ : jx_M} {x du : Nat} (hd : du = 2 ∨ du = 6) (h1 : σ 0 34 = nI du) (hx : x ≤ 127) (h : ¬ (48 ≤ x ∧ x ≤ 57)) : f_X3_takes t σ (nI x) = some (nI 0, σ) := by
  unfold f_X3_takes
  rcases hd with rfl | rfl
  · rw [h1, if_neg (by decide), if_neg (by decide), if_pos (show nI 2 = (2 : Int32) from rfl), td_n hx h]; rfl
  · rw [h1, if_neg (by decide), if_neg (by decide), if_neg (by decide), if_neg (by decide), if_neg (by decide), if_neg (by decide), if_pos (show nI 6 = (6 : Int32) from rfl), td_n hx h]; rfl
theorem t1_y {t : jx_T} {σ : jx_M} {c o x du : Nat} {P : List Nat} (hd : du = 2 ∨ du = 6) (h : RD σ du c P o) (hx : 48 ≤ x ∧ x ≤ 57) : ∃ σ', f_X3_takes t σ (nI x) = some (nI 1, σ') ∧ RD σ' (du + 1) c P o ∧ KE c σ σ' ∧ σ' 0 37 = σ 0 37 ∧ σ' 0 38 = σ 0 38 ∧ σ' 0 39 = nI (x - 48) := by
  obtain ⟨g1, g2, g3, g4, g5⟩ := h
  refine ⟨jx_mu (jx_mu σ 0 39 (nI (x - 48))) 0 34 (nI (du + 1)), ?_, ⟨mu_s, ?_, ?_, ?_, ?_⟩, KE_t (KE_0 (by omega)) (KE_0 (by omega)) (Nat.le_refl c), ?_, ?_, ?_⟩
  · unfold f_X3_takes
    rcases hd with rfl | rfl
    · rw [g1, if_neg (by decide), if_neg (by decide), if_pos (show nI 2 = (2 : Int32) from rfl), show f_X3_takesDigit t σ (nI x) (3 : Int32) = _ from td_y hx 3]; rfl
    · rw [g1, if_neg (by decide), if_neg (by decide), if_neg (by decide), if_neg (by decide), if_neg (by decide), if_neg (by decide), if_pos (show nI 6 = (6 : Int32) from rfl), show f_X3_takesDigit t σ (nI x) (7 : Int32) = _ from td_y hx 7]; rfl
  · rw [mu_n (by omega), mu_n (by omega)]; exact g2
  · rw [mu_n (by omega), mu_n (by omega)]; exact g3
  · rw [mu_a (by omega), mu_a (by omega)]; exact g4
  · rw [mu_n (by omega), mu_n (by omega)]; exact g5
  · rw [mu_n (by omega), mu_n (by omega)]
  · rw [mu_n (by omega), mu_n (by omega)]
  · rw [mu_n (by omega), mu_s]
theorem t2_y {t : jx_T} {σ : jx_M} {c o x v du : Nat} {P : List Nat} (hd : du = 2 ∨ du = 6) (h : RD σ (du + 1) c P o) (h9 : σ 0 39 = nI v) (hx : 48 ≤ x ∧ x ≤ 57) (hv : 1 ≤ v ∧ v ≤ 9) : ∃ σ', f_X3_takes t σ (nI x) = some (nI 1, σ') ∧ RD σ' (du + 1) c P o ∧ KE c σ σ' ∧ σ' 0 37 = σ 0 37 ∧ σ' 0 38 = σ 0 38 ∧ σ' 0 39 = nI (v * 10 + x - 48) := by
  obtain ⟨g1, g2, g3, g4, g5⟩ := h
  refine ⟨jx_mu σ 0 39 (nI (v * 10 + x - 48)), ?_, ⟨?_, ?_, ?_, ?_, ?_⟩, KE_0 (by omega), ?_, ?_, mu_s⟩
  · rcases hd with rfl | rfl
    · unfold f_X3_takes
      rw [g1, if_neg (by decide), if_neg (by decide), if_neg (by decide), if_pos (show nI (2 + 1) = (3 : Int32) from rfl), if_neg (show ¬ nI x = (32 : Int32) from fun e => absurd ((nI_eq (b := 32) (by omega) (by omega)).mp e) (by omega)), sd_y h9 hx hv]; rfl
    · rw [tk_7 g1, sd_y h9 hx hv]; rfl
  · rw [mu_n (by omega)]; exact g1
  · rw [mu_n (by omega)]; exact g2
  · rw [mu_n (by omega)]; exact g3
  · rw [mu_a (by omega)]; exact g4
  · rw [mu_n (by omega)]; exact g5
  · rw [mu_n (by omega)]
  · rw [mu_n (by omega)]
