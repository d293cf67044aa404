/-! as, act -/
theorem du_i (t : jx_T) (σ : jx_M) : ∀ (n : Nat) (a b c : Int32), b_X0_isUnder_4 t n σ a b c = b_X0_isUnder_4 fr_t n fr_s a b c
  | 0, _, _, _ => rfl
  | n + 1, a, b, c => by
    have ih := du_i t σ n
    show g_X0_isUnder_4 t (b_X0_isUnder_4 t n) σ a b c = g_X0_isUnder_4 fr_t (b_X0_isUnder_4 fr_t n) fr_s a b c
    unfold g_X0_isUnder_4 b_X0_isUnder_31
    simp only [lt_e, ih]
theorem dd_i (t : jx_T) (σ : jx_M) : ∀ (n : Nat) (a b c : Int32), b_X0_doerOf_4 t n σ a b c = b_X0_doerOf_4 fr_t n fr_s a b c
  | 0, _, _, _ => rfl
  | n + 1, a, b, c => by
    have ih := dd_i t σ n
    show g_X0_doerOf_4 t (b_X0_doerOf_4 t n) σ a b c = g_X0_doerOf_4 fr_t (b_X0_doerOf_4 fr_t n) fr_s a b c
    unfold g_X0_doerOf_4
    simp only [lt_e, ih]
theorem du_d : ∀ k, k < 7 → ∀ c, c < 7 → f_X0_isUnder fr_t fr_s (nI k) (nI c) = f_X6_isUnder (nI k) (nI c) ∧ (f_X6_isUnder (nI k) (nI c) = some (nI 0) ∨ f_X6_isUnder (nI k) (nI c) = some (nI 1)) := by decide +kernel
theorem du_e (t : jx_T) (σ : jx_M) {k c : Nat} (hk : k < 7) (hc : c < 7) : f_X0_isUnder t σ (nI k) (nI c) = f_X6_isUnder (nI k) (nI c) := by
  rw [← (du_d k hk c hc).1]
  exact du_i t σ jx_fuel _ _ _
theorem op_as : lw_op_as RR := by
  intro t σl σm a0 a1 hR
  obtain ⟨S, F, hl, hm, hw, h20⟩ := RR_o hR
  have n6 : σl 0 0 = nI (S 6) := hl.1.1.1
  have n7 : σl 0 1 = nI (S 7) := hl.1.1.2.1
  have n0 : σl 0 2 = nI (S 0) := hl.1.1.2.2.1
  have m0 : σm 1 0 = nI (S 0) := hm.1.1 0 (by omega) (by omega) (by omega)
  have m6 : σm 1 6 = nI (S 6) := hm.1.1 6 (by omega) (by omega) (by omega)
  have m7 : σm 1 7 = nI (S 7) := hm.1.1 7 (by omega) (by omega) (by omega)
  have bw := hw.1.2.1
  have b7 := hw.1.1 7
  unfold f_X5_as f_X6_as
  rcases ix_p a0 (S 0) (by omega) with h | ⟨v, hv, rfl⟩
  · simp (disch := first | omega | assumption) only [ev_add, ev_mul, ev_rem, ev_sub, ev_ltT, ev_ltF, ev_leT, ev_leF, ev_eqT, ev_eqF, ev_cl, ev_in, gd_t, bd_s, lt_e, ev_of, ↓reduceIte, decide_true, true_or, or_true, ev_l0, ev_l1, ev_l2, ev_l3, ev_l4, ev_l5, ev_l6, ev_l7, ev_l8, ev_l9, ev_l10, ev_l11, ev_l12, ev_l13, ev_l14, ev_l15, ev_l16, ev_l17, ev_l18, ev_l19, ev_l20, ev_l21, ev_l22, ev_l23, ev_l24, ev_l25, ev_l26, ev_l30, ev_l31, ev_l32, ev_l37, ev_l40, ev_l41, ev_l43, ev_l48, ev_l49, ev_l51, ev_l55, ev_l57, ev_l58, ev_l60, ev_l61, ev_l79, ev_l85, ev_l91, ev_l99, ev_l100, ev_l107, ev_l115, ev_l127, ev_l140, ev_l215, ev_l220, ev_l920, ev_l9999, ev_nT, ev_nF, ev_nlT, ev_nlF, hv_f n0 h, iv_f m0 (by omega) h]
    exact ⟨_, rfl, rfl, hR⟩
  · rcases ix_p a1 7 (by omega) with h | ⟨k, hk, rfl⟩
    · simp (disch := first | omega | assumption) only [ev_add, ev_mul, ev_rem, ev_sub, ev_ltT, ev_ltF, ev_leT, ev_leF, ev_eqT, ev_eqF, ev_cl, ev_in, gd_t, bd_s, lt_e, ev_of, ↓reduceIte, decide_true, true_or, or_true, ev_l0, ev_l1, ev_l2, ev_l3, ev_l4, ev_l5, ev_l6, ev_l7, ev_l8, ev_l9, ev_l10, ev_l11, ev_l12, ev_l13, ev_l14, ev_l15, ev_l16, ev_l17, ev_l18, ev_l19, ev_l20, ev_l21, ev_l22, ev_l23, ev_l24, ev_l25, ev_l26, ev_l30, ev_l31, ev_l32, ev_l37, ev_l40, ev_l41, ev_l43, ev_l48, ev_l49, ev_l51, ev_l55, ev_l57, ev_l58, ev_l60, ev_l61, ev_l79, ev_l85, ev_l91, ev_l99, ev_l100, ev_l107, ev_l115, ev_l127, ev_l140, ev_l215, ev_l220, ev_l920, ev_l9999, ev_nT, ev_nF, ev_nlT, ev_nlF, wi_e, hv_t n0 hv (by omega), iv_t m0 hv (by omega), show f_X6_in a1 (nI 0) (nI 6) = _ from in_f (n := 7) h (by omega) (by omega)]
      exact ⟨_, rfl, rfl, hR⟩
    · have c := (hl.1.2.2.1 v (by omega)).1
      have b := hw.1.2.2.2.1 v hv
      have d0 := hm.1.1 (31 + v) (by omega) (by omega) (by omega)
      have d1 := hm.1.1 (37 + v) (by omega) (by omega) (by omega)
      simp (disch := first | omega | assumption) only [ev_add, ev_mul, ev_rem, ev_sub, ev_ltT, ev_ltF, ev_leT, ev_leF, ev_eqT, ev_eqF, ev_cl, ev_in, gd_t, bd_s, lt_e, ev_of, ↓reduceIte, decide_true, true_or, or_true, ev_l0, ev_l1, ev_l2, ev_l3, ev_l4, ev_l5, ev_l6, ev_l7, ev_l8, ev_l9, ev_l10, ev_l11, ev_l12, ev_l13, ev_l14, ev_l15, ev_l16, ev_l17, ev_l18, ev_l19, ev_l20, ev_l21, ev_l22, ev_l23, ev_l24, ev_l25, ev_l26, ev_l30, ev_l31, ev_l32, ev_l37, ev_l40, ev_l41, ev_l43, ev_l48, ev_l49, ev_l51, ev_l55, ev_l57, ev_l58, ev_l60, ev_l61, ev_l79, ev_l85, ev_l91, ev_l99, ev_l100, ev_l107, ev_l115, ev_l127, ev_l140, ev_l215, ev_l220, ev_l920, ev_l9999, ev_nT, ev_nF, ev_nlT, ev_nlF, wi_e, hv_t n0 hv (by omega), iv_t m0 hv (by omega), show f_X6_in (nI k) (nI 0) (nI 6) = _ from in_t (n := 7) hk (by omega), ll8, c.1, c.2.1, d0, d1, du_e t σl (show S (31 + v) < 7 by omega) hk]
      rcases (du_d (S (31 + v)) (by omega) k hk).2 with e | e
      · simp (disch := first | omega | assumption) only [ev_add, ev_mul, ev_rem, ev_sub, ev_ltT, ev_ltF, ev_leT, ev_leF, ev_eqT, ev_eqF, ev_cl, ev_in, gd_t, bd_s, lt_e, ev_of, ↓reduceIte, decide_true, true_or, or_true, ev_l0, ev_l1, ev_l2, ev_l3, ev_l4, ev_l5, ev_l6, ev_l7, ev_l8, ev_l9, ev_l10, ev_l11, ev_l12, ev_l13, ev_l14, ev_l15, ev_l16, ev_l17, ev_l18, ev_l19, ev_l20, ev_l21, ev_l22, ev_l23, ev_l24, ev_l25, ev_l26, ev_l30, ev_l31, ev_l32, ev_l37, ev_l40, ev_l41, ev_l43, ev_l48, ev_l49, ev_l51, ev_l55, ev_l57, ev_l58, ev_l60, ev_l61, ev_l79, ev_l85, ev_l91, ev_l99, ev_l100, ev_l107, ev_l115, ev_l127, ev_l140, ev_l215, ev_l220, ev_l920, ev_l9999, ev_nT, ev_nF, ev_nlT, ev_nlF, e]
        exact ⟨_, rfl, rfl, hR⟩
      · simp (disch := first | omega | assumption) only [ev_add, ev_mul, ev_rem, ev_sub, ev_ltT, ev_ltF, ev_leT, ev_leF, ev_eqT, ev_eqF, ev_cl, ev_in, gd_t, bd_s, lt_e, ev_of, ↓reduceIte, decide_true, true_or, or_true, ev_l0, ev_l1, ev_l2, ev_l3, ev_l4, ev_l5, ev_l6, ev_l7, ev_l8, ev_l9, ev_l10, ev_l11, ev_l12, ev_l13, ev_l14, ev_l15, ev_l16, ev_l17, ev_l18, ev_l19, ev_l20, ev_l21, ev_l22, ev_l23, ev_l24, ev_l25, ev_l26, ev_l30, ev_l31, ev_l32, ev_l37, ev_l40, ev_l41, ev_l43, ev_l48, ev_l49, ev_l51, ev_l55, ev_l57, ev_l58, ev_l60, ev_l61, ev_l79, ev_l85, ev_l91, ev_l99, ev_l100, ev_l107, ev_l115, ev_l127, ev_l140, ev_l215, ev_l220, ev_l920, ev_l9999, ev_nT, ev_nF, ev_nlT, ev_nlF, e]
        exact ⟨_, rfl, rfl, hR⟩
def dw_ (k a : Nat) : Nat := [0, 0, 0, 1, 0, 0, 0, 2, 0, 0, 0, 3, 1, 0, 4, 5, 2, 0, 0, 6, 3].getD (3 * k + a) 0
theorem dw_d : ∀ k, k < 7 → ∀ a, a < 3 → f_X0_doerOf fr_t fr_s (nI k) (nI a) = some (nI (dw_ k a)) := by decide +kernel
theorem dw_e (t : jx_T) (σ : jx_M) {k a : Nat} (hk : k < 7) (ha : a < 3) : f_X0_doerOf t σ (nI k) (nI a) = some (nI (dw_ k a)) := by
  rw [← dw_d k hk a ha]
  exact dd_i t σ jx_fuel _ _ _
def tr_ (r : Nat) (σl σm : jx_M) : Prop := σl 0 21 = nI r ∧ σm 0 22 = nI r ∧ ∀ i, i < 20 → i < r → σl 60 i = σm 9 i
def ak_ (σ σ' : jx_M) : Prop := (∀ b, ¬ b = 0 → ¬ b = 60 → σ' b = σ b) ∧ ∀ i, ¬ i = 21 → σ' 0 i = σ 0 i
def am_ (σ σ' : jx_M) : Prop := (∀ b, ¬ b = 0 → ¬ b = 9 → σ' b = σ b) ∧ ∀ i, ¬ i = 22 → σ' 0 i = σ 0 i
theorem ak_t {a b c : jx_M} (h : ak_ a b) (g : ak_ b c) : ak_ a c := ⟨fun x h1 h2 => (g.1 x h1 h2).trans (h.1 x h1 h2), fun i hi => (g.2 i hi).trans (h.2 i hi)⟩
theorem am_t {a b c : jx_M} (h : am_ a b) (g : am_ b c) : am_ a c := ⟨fun x h1 h2 => (g.1 x h1 h2).trans (h.1 x h1 h2), fun i hi => (g.2 i hi).trans (h.2 i hi)⟩
theorem begin_e {t : jx_T} {σl σm : jx_M} {r : Nat} (h : tr_ r σl σm) (hr : r ≤ 100) (B : Nat) : ∃ σl' σm', f_X0_begin t σl (nI B) = some σl' ∧ f_X6_ranBody σm (nI B) = some σm' ∧ tr_ (r + 1) σl' σm' ∧ ak_ σl σl' ∧ am_ σm σm' := by
  obtain ⟨h1, h2, h3⟩ := h
  unfold f_X0_begin f_X6_ranBody b_X0_begin_19 b_X6_ranBody_19
  by_cases g : 20 ≤ r
  · simp (disch := first | omega | assumption) only [ev_add, ev_mul, ev_rem, ev_sub, ev_ltT, ev_ltF, ev_leT, ev_leF, ev_eqT, ev_eqF, ev_cl, ev_in, gd_t, bd_s, lt_e, ev_of, ↓reduceIte, decide_true, true_or, or_true, ev_l0, ev_l1, ev_l2, ev_l3, ev_l4, ev_l5, ev_l6, ev_l7, ev_l8, ev_l9, ev_l10, ev_l11, ev_l12, ev_l13, ev_l14, ev_l15, ev_l16, ev_l17, ev_l18, ev_l19, ev_l20, ev_l21, ev_l22, ev_l23, ev_l24, ev_l25, ev_l26, ev_l30, ev_l31, ev_l32, ev_l37, ev_l40, ev_l41, ev_l43, ev_l48, ev_l49, ev_l51, ev_l55, ev_l57, ev_l58, ev_l60, ev_l61, ev_l79, ev_l85, ev_l91, ev_l99, ev_l100, ev_l107, ev_l115, ev_l127, ev_l140, ev_l215, ev_l220, ev_l920, ev_l9999, ev_nT, ev_nF, ev_nlT, ev_nlF, h1, h2]
    refine ⟨_, _, rfl, rfl, ⟨mu_s, mu_s, fun i h4 h5 => ?_⟩, ⟨fun b h4 h5 => mu_a h4, fun i h4 => mu_n h4⟩, ⟨fun b h4 h5 => mu_a h4, fun i h4 => mu_n h4⟩⟩
    rw [mu_a (show ¬ 60 = 0 by omega), mu_a (show ¬ 9 = 0 by omega)]
    exact h3 i h4 (by omega)
  · simp (disch := first | omega | assumption) only [ev_add, ev_mul, ev_rem, ev_sub, ev_ltT, ev_ltF, ev_leT, ev_leF, ev_eqT, ev_eqF, ev_cl, ev_in, gd_t, bd_s, lt_e, ev_of, ↓reduceIte, decide_true, true_or, or_true, ev_l0, ev_l1, ev_l2, ev_l3, ev_l4, ev_l5, ev_l6, ev_l7, ev_l8, ev_l9, ev_l10, ev_l11, ev_l12, ev_l13, ev_l14, ev_l15, ev_l16, ev_l17, ev_l18, ev_l19, ev_l20, ev_l21, ev_l22, ev_l23, ev_l24, ev_l25, ev_l26, ev_l30, ev_l31, ev_l32, ev_l37, ev_l40, ev_l41, ev_l43, ev_l48, ev_l49, ev_l51, ev_l55, ev_l57, ev_l58, ev_l60, ev_l61, ev_l79, ev_l85, ev_l91, ev_l99, ev_l100, ev_l107, ev_l115, ev_l127, ev_l140, ev_l215, ev_l220, ev_l920, ev_l9999, ev_nT, ev_nF, ev_nlT, ev_nlF, h1, h2, mu_a]
    refine ⟨_, _, rfl, rfl, ⟨mu_s, mu_s, fun i h4 h5 => ?_⟩, ⟨fun b h4 h5 => ?_, fun i h4 => ?_⟩, ⟨fun b h4 h5 => ?_, fun i h4 => ?_⟩⟩
    · rw [mu_a (show ¬ 60 = 0 by omega), mu_a (show ¬ 9 = 0 by omega)]
      by_cases e : i = r
      · subst e; rw [mu_s, mu_s]
      · rw [mu_n e, mu_n e]; exact h3 i h4 (by omega)
    · rw [mu_a h4, mu_a h5]
    · rw [mu_n h4, mu_a (by omega)]
    · rw [mu_a h4, mu_a h5]
    · rw [mu_n h4, mu_a (by omega)]
def ac_ (i k v : Nat) (σl σm : jx_M) : Prop := σl (8 + i) 0 = nI k ∧ σl (8 + i) 1 = nI v ∧ σm 0 23 = nI k ∧ σm 0 24 = nI i ∧ σm 0 25 = nI v
theorem ac_k {i k v : Nat} {σl σm σl' σm' : jx_M} (hi : i < 6) (h : ac_ i k v σl σm) (h1 : ak_ σl σl') (h2 : am_ σm σm') : ac_ i k v σl' σm' := by
  obtain ⟨a1, a2, a3, a4, a5⟩ := h
  refine ⟨?_, ?_, (h2.2 23 (by omega)).trans a3, (h2.2 24 (by omega)).trans a4, (h2.2 25 (by omega)).trans a5⟩
  · rw [h1.1 (8 + i) (by omega) (by omega)]; exact a1
  · rw [h1.1 (8 + i) (by omega) (by omega)]; exact a2
/-- the two sides of an act -/
def ar_ (r q : Nat) (σl σm : jx_M) (f g : Option (Int32 × jx_M)) : Prop := ∃ y σl' σm', f = some (y, σl') ∧ g = some (y, σm') ∧ (∃ s, s ≤ r + q ∧ tr_ s σl' σm') ∧ ak_ σl σl' ∧ am_ σm σm'
def ch_ (F : jx_M → Int32 → Int32 → Int32 → Int32 → Int32 → Option (Int32 × jx_M)) (q6 : jx_M) (a1 a4 a5 x5 x9 x11 x14 : Int32) : Option (Int32 × jx_M) :=
  if x5 = (1 : Int32) then some ((a4 + a1), q6) else if x5 = (2 : Int32) then jx_bd (F q6 a1 x9 (0 : Int32) a4 (a5 + (1 : Int32))) (fun q16 => some ((q16.1 - x14), q16.2)) else if x5 = (3 : Int32) then jx_bd (F q6 a1 x9 (1 : Int32) a4 (a5 + (1 : Int32))) (fun q18 => some ((q18.1 * (2 : Int32)), q18.2)) else if x5 = (11 : Int32) then jx_bd (F q6 a1 x11 (0 : Int32) (a4 * (3 : Int32)) (a5 + (1 : Int32))) (fun q20 => some (q20.1, q20.2)) else if x5 = (21 : Int32) then jx_bd (F q6 a1 x11 (1 : Int32) a4 (a5 + (1 : Int32))) (fun q22 => some ((-q22.1), q22.2)) else if x5 = (31 : Int32) then jx_bd (F q6 a1 x11 (2 : Int32) a4 (a5 + (1 : Int32))) (fun q24 => some ((q24.1 ^^^ (7 : Int32)), q24.2)) else if x5 = (41 : Int32) then jx_bd (F q6 a1 x11 (2 : Int32) (a4 - (1 : Int32)) (a5 + (1 : Int32))) (fun q26 => jx_bd (F q26.2 a1 x9 (0 : Int32) (2 : Int32) (a5 + (1 : Int32))) (fun q27 => some ((q26.1 + q27.1), q27.2))) else if x5 = (51 : Int32) then jx_bd (F q6 a1 x11 (0 : Int32) a4 (a5 + (1 : Int32))) (fun q29 => some ((q29.1 ^^^ a1), q29.2)) else if x5 = (61 : Int32) then jx_bd (F q6 a1 x11 (1 : Int32) a4 (a5 + (1 : Int32))) (fun q31 => some ((q31.1 + x14), q31.2)) else some ((0 : Int32), q6)
theorem run_e {t : jx_T} {F : jx_M → Int32 → Int32 → Int32 → Int32 → Int32 → Option (Int32 × jx_M)} {σ σ' : jx_M} {i k a d D B K v : Nat} {x : Int32} (hD : f_X0_doerOf t σ (nI k) (nI a) = some (nI D)) (hB : zs_BODIES (D * 3 + a) = nI B) (b1 : D < 7) (b2 : a < 3) (b3 : d ≤ 20) (b4 : i < 6) (hb : f_X0_begin t σ (nI B) = some σ') (k0 : σ' (8 + i) 0 = nI K) (k1 : σ' (8 + i) 1 = nI v) : fB_X0_run t F σ (nI i) (nI k) (nI a) x (nI d) = ch_ F σ' (nI i) x (nI d) (nI B) (nI K) (zs_ABOVE D) (nI v) := by
  have g1 : nI D * (3 : Int32) + nI a = nI (D * 3 + a) := by rw [show nI D * (3 : Int32) = nI (D * 3) from pk_mul D 3, nI_add]
  have c1 : (nI (D * 3 + a)).toNatClampNeg = D * 3 + a := nI_clamp (by omega)
  have c2 : (nI D).toNatClampNeg = D := nI_clamp (by omega)
  have c3 : (nI i).toNatClampNeg = i := nI_clamp (by omega)
  unfold fB_X0_run ch_
  rw [hD, bd_s, if_neg (nI_pos (by omega)), if_pos (show nI d ≤ (20 : Int32) from nI_le (b := 20) b3 (by omega)), g1, ev_in (show D * 3 + a < 21 by omega) (by omega), gd_t, lt_e, c1, hB, hb, bd_s, ev_in b4 (by omega), gd_t, c3, ll8 i b4, show jx_in (0 : Int32) 8 = true from rfl, gd_t, lt_e, k0, ev_in b1 (by omega), gd_t, lt_e, c2, gd_t, show jx_in (1 : Int32) 8 = true from rfl, gd_t, lt_e, k1]
theorem a1_ {t : jx_T} {σl σm : jx_M} {r i k v d n kk : Nat} (x : Int32) (hi : i < 6) (hr : r ≤ 90) (hd : d ≤ 20) (hkk : kk < 7) (hz : dw_ kk 0 = 0) (h : tr_ r σl σm) (hA : ac_ i k v σl σm) : ar_ r 1 σl σm (f_X0_run t (n + 1) σl (nI i) (nI kk) (nI 0) x (nI d)) (f_X6_plainSets σm x) := by
  obtain ⟨σl1, σm1, e1, e2, e3, e4, e5⟩ := begin_e (t := t) h (by omega) 1
  obtain ⟨b1, b2, b3, b4, b5⟩ := ac_k hi hA e4 e5
  have f : f_X0_run t (n + 1) σl (nI i) (nI kk) (nI 0) x (nI d) = some (x + nI i, σl1) := by
    show fB_X0_run t (f_X0_run t n) σl (nI i) (nI kk) (nI 0) x (nI d) = _
    rw [run_e (D := 0) (B := 1) (by rw [dw_e t σl hkk (by omega), hz]) rfl (by omega) (by omega) (by omega) hi e1 b1 b2]
    simp only [ch_, show (nI 1 = (1 : Int32)) = True from eq_true rfl, ↓reduceIte]
  have g : f_X6_plainSets σm x = some (x + nI i, σm1) := by
    unfold f_X6_plainSets
    simp (disch := first | omega | assumption) only [ev_add, ev_mul, ev_rem, ev_sub, ev_ltT, ev_ltF, ev_leT, ev_leF, ev_eqT, ev_eqF, ev_cl, ev_in, gd_t, bd_s, lt_e, ev_of, ↓reduceIte, decide_true, true_or, or_true, ev_l0, ev_l1, ev_l2, ev_l3, ev_l4, ev_l5, ev_l6, ev_l7, ev_l8, ev_l9, ev_l10, ev_l11, ev_l12, ev_l13, ev_l14, ev_l15, ev_l16, ev_l17, ev_l18, ev_l19, ev_l20, ev_l21, ev_l22, ev_l23, ev_l24, ev_l25, ev_l26, ev_l30, ev_l31, ev_l32, ev_l37, ev_l40, ev_l41, ev_l43, ev_l48, ev_l49, ev_l51, ev_l55, ev_l57, ev_l58, ev_l60, ev_l61, ev_l79, ev_l85, ev_l91, ev_l99, ev_l100, ev_l107, ev_l115, ev_l127, ev_l140, ev_l215, ev_l220, ev_l920, ev_l9999, ev_nT, ev_nF, ev_nlT, ev_nlF, e2, b4]
  exact ⟨_, _, _, f, g, ⟨r + 1, by omega, e3⟩, e4, e5⟩
theorem a2_ {t : jx_T} {σl σm : jx_M} {r i k v d n : Nat} (x : Int32) (hi : i < 6) (hr : r ≤ 80) (hd : d ≤ 10) (hk : k < 7) (h : tr_ r σl σm) (hA : ac_ i k v σl σm) : ar_ r 2 σl σm (f_X0_run t (n + 2) σl (nI i) (nI k) (nI 0) x (nI d)) (f_X6_setsActs σm x) := by
  obtain ⟨c1, c2, c3, c4, c5⟩ := id hA
  have hk' : k = 0 ∨ k = 1 ∨ k = 2 ∨ k = 3 ∨ k = 4 ∨ k = 5 ∨ k = 6 := by omega
  rcases hk' with rfl | rfl | rfl | rfl | rfl | rfl | rfl
  · obtain ⟨y, σl2, σm2, g1, g2, ⟨s, g3, g4⟩, g5, g6⟩ := a1_ (t := t) (n := n + 1) (d := d) (kk := 0) x hi (by omega) (by omega) (by omega) rfl h hA
    refine ⟨y, σl2, σm2, g1, ?_, ⟨s, by omega, g4⟩, g5, g6⟩
    unfold f_X6_setsActs
    rw [c3, show f_X6_isUnder (nI 0) 1 = some (nI 0) by decide]
    simp (disch := first | omega | assumption) only [ev_add, ev_mul, ev_rem, ev_sub, ev_ltT, ev_ltF, ev_leT, ev_leF, ev_eqT, ev_eqF, ev_cl, ev_in, gd_t, bd_s, lt_e, ev_of, ↓reduceIte, decide_true, true_or, or_true, ev_l0, ev_l1, ev_l2, ev_l3, ev_l4, ev_l5, ev_l6, ev_l7, ev_l8, ev_l9, ev_l10, ev_l11, ev_l12, ev_l13, ev_l14, ev_l15, ev_l16, ev_l17, ev_l18, ev_l19, ev_l20, ev_l21, ev_l22, ev_l23, ev_l24, ev_l25, ev_l26, ev_l30, ev_l31, ev_l32, ev_l37, ev_l40, ev_l41, ev_l43, ev_l48, ev_l49, ev_l51, ev_l55, ev_l57, ev_l58, ev_l60, ev_l61, ev_l79, ev_l85, ev_l91, ev_l99, ev_l100, ev_l107, ev_l115, ev_l127, ev_l140, ev_l215, ev_l220, ev_l920, ev_l9999, ev_nT, ev_nF, ev_nlT, ev_nlF, c3, g2]
  · obtain ⟨σl1, σm1, e1, e2, e3, e4, e5⟩ := begin_e (t := t) h (by omega) 11
    have hB := ac_k hi hA e4 e5
    obtain ⟨b1, b2, b3, b4, b5⟩ := id hB
    obtain ⟨y, σl2, σm2, g1, g2, ⟨s, g3, g4⟩, g5, g6⟩ := a1_ (t := t) (n := n + 0) (d := d + 1) (kk := 0) (x * nI 3) hi (by omega) (by omega) (by omega) rfl e3 hB
    have hC := ac_k hi hB g5 g6
    obtain ⟨z1, z2, z3, z4, z5⟩ := id hC
    refine ⟨y, σl2, σm2, ?_, ?_, ⟨s, by omega, g4⟩, ak_t e4 g5, am_t e5 g6⟩
    · show fB_X0_run t (f_X0_run t (n + 1)) σl (nI i) (nI 1) (nI 0) x (nI d) = _
      rw [run_e (D := 1) (B := 11) (by rw [dw_e t σl (by omega) (by omega)]; rfl) rfl (by omega) (by omega) (by omega) hi e1 b1 b2, show zs_ABOVE 1 = nI 0 from rfl]
      simp only [ch_, show (nI 11 = (1 : Int32)) = False from eq_false (by decide), show (nI 11 = (2 : Int32)) = False from eq_false (by decide), show (nI 11 = (3 : Int32)) = False from eq_false (by decide), show (nI 11 = (11 : Int32)) = True from eq_true rfl, ↓reduceIte]
      simp (disch := first | omega | assumption) only [ev_add, ev_mul, ev_rem, ev_sub, ev_ltT, ev_ltF, ev_leT, ev_leF, ev_eqT, ev_eqF, ev_cl, ev_in, gd_t, bd_s, lt_e, ev_of, ↓reduceIte, decide_true, true_or, or_true, ev_l0, ev_l1, ev_l2, ev_l3, ev_l4, ev_l5, ev_l6, ev_l7, ev_l8, ev_l9, ev_l10, ev_l11, ev_l12, ev_l13, ev_l14, ev_l15, ev_l16, ev_l17, ev_l18, ev_l19, ev_l20, ev_l21, ev_l22, ev_l23, ev_l24, ev_l25, ev_l26, ev_l30, ev_l31, ev_l32, ev_l37, ev_l40, ev_l41, ev_l43, ev_l48, ev_l49, ev_l51, ev_l55, ev_l57, ev_l58, ev_l60, ev_l61, ev_l79, ev_l85, ev_l91, ev_l99, ev_l100, ev_l107, ev_l115, ev_l127, ev_l140, ev_l215, ev_l220, ev_l920, ev_l9999, ev_nT, ev_nF, ev_nlT, ev_nlF, g1]
    · unfold f_X6_setsActs
      rw [c3, show f_X6_isUnder (nI 1) 1 = some (nI 1) by decide]
      simp (disch := first | omega | assumption) only [ev_add, ev_mul, ev_rem, ev_sub, ev_ltT, ev_ltF, ev_leT, ev_leF, ev_eqT, ev_eqF, ev_cl, ev_in, gd_t, bd_s, lt_e, ev_of, ↓reduceIte, decide_true, true_or, or_true, ev_l0, ev_l1, ev_l2, ev_l3, ev_l4, ev_l5, ev_l6, ev_l7, ev_l8, ev_l9, ev_l10, ev_l11, ev_l12, ev_l13, ev_l14, ev_l15, ev_l16, ev_l17, ev_l18, ev_l19, ev_l20, ev_l21, ev_l22, ev_l23, ev_l24, ev_l25, ev_l26, ev_l30, ev_l31, ev_l32, ev_l37, ev_l40, ev_l41, ev_l43, ev_l48, ev_l49, ev_l51, ev_l55, ev_l57, ev_l58, ev_l60, ev_l61, ev_l79, ev_l85, ev_l91, ev_l99, ev_l100, ev_l107, ev_l115, ev_l127, ev_l140, ev_l215, ev_l220, ev_l920, ev_l9999, ev_nT, ev_nF, ev_nlT, ev_nlF, c3, e2, g2, z3, z4, z5]
  · obtain ⟨y, σl2, σm2, g1, g2, ⟨s, g3, g4⟩, g5, g6⟩ := a1_ (t := t) (n := n + 1) (d := d) (kk := 2) x hi (by omega) (by omega) (by omega) rfl h hA
    refine ⟨y, σl2, σm2, g1, ?_, ⟨s, by omega, g4⟩, g5, g6⟩
    unfold f_X6_setsActs
    rw [c3, show f_X6_isUnder (nI 2) 1 = some (nI 0) by decide]
    simp (disch := first | omega | assumption) only [ev_add, ev_mul, ev_rem, ev_sub, ev_ltT, ev_ltF, ev_leT, ev_leF, ev_eqT, ev_eqF, ev_cl, ev_in, gd_t, bd_s, lt_e, ev_of, ↓reduceIte, decide_true, true_or, or_true, ev_l0, ev_l1, ev_l2, ev_l3, ev_l4, ev_l5, ev_l6, ev_l7, ev_l8, ev_l9, ev_l10, ev_l11, ev_l12, ev_l13, ev_l14, ev_l15, ev_l16, ev_l17, ev_l18, ev_l19, ev_l20, ev_l21, ev_l22, ev_l23, ev_l24, ev_l25, ev_l26, ev_l30, ev_l31, ev_l32, ev_l37, ev_l40, ev_l41, ev_l43, ev_l48, ev_l49, ev_l51, ev_l55, ev_l57, ev_l58, ev_l60, ev_l61, ev_l79, ev_l85, ev_l91, ev_l99, ev_l100, ev_l107, ev_l115, ev_l127, ev_l140, ev_l215, ev_l220, ev_l920, ev_l9999, ev_nT, ev_nF, ev_nlT, ev_nlF, c3, g2]
  · obtain ⟨y, σl2, σm2, g1, g2, ⟨s, g3, g4⟩, g5, g6⟩ := a1_ (t := t) (n := n + 1) (d := d) (kk := 3) x hi (by omega) (by omega) (by omega) rfl h hA
    refine ⟨y, σl2, σm2, g1, ?_, ⟨s, by omega, g4⟩, g5, g6⟩
    unfold f_X6_setsActs
    rw [c3, show f_X6_isUnder (nI 3) 1 = some (nI 0) by decide]
    simp (disch := first | omega | assumption) only [ev_add, ev_mul, ev_rem, ev_sub, ev_ltT, ev_ltF, ev_leT, ev_leF, ev_eqT, ev_eqF, ev_cl, ev_in, gd_t, bd_s, lt_e, ev_of, ↓reduceIte, decide_true, true_or, or_true, ev_l0, ev_l1, ev_l2, ev_l3, ev_l4, ev_l5, ev_l6, ev_l7, ev_l8, ev_l9, ev_l10, ev_l11, ev_l12, ev_l13, ev_l14, ev_l15, ev_l16, ev_l17, ev_l18, ev_l19, ev_l20, ev_l21, ev_l22, ev_l23, ev_l24, ev_l25, ev_l26, ev_l30, ev_l31, ev_l32, ev_l37, ev_l40, ev_l41, ev_l43, ev_l48, ev_l49, ev_l51, ev_l55, ev_l57, ev_l58, ev_l60, ev_l61, ev_l79, ev_l85, ev_l91, ev_l99, ev_l100, ev_l107, ev_l115, ev_l127, ev_l140, ev_l215, ev_l220, ev_l920, ev_l9999, ev_nT, ev_nF, ev_nlT, ev_nlF, c3, g2]
  · obtain ⟨σl1, σm1, e1, e2, e3, e4, e5⟩ := begin_e (t := t) h (by omega) 11
    have hB := ac_k hi hA e4 e5
    obtain ⟨b1, b2, b3, b4, b5⟩ := id hB
    obtain ⟨y, σl2, σm2, g1, g2, ⟨s, g3, g4⟩, g5, g6⟩ := a1_ (t := t) (n := n + 0) (d := d + 1) (kk := 0) (x * nI 3) hi (by omega) (by omega) (by omega) rfl e3 hB
    have hC := ac_k hi hB g5 g6
    obtain ⟨z1, z2, z3, z4, z5⟩ := id hC
    refine ⟨y, σl2, σm2, ?_, ?_, ⟨s, by omega, g4⟩, ak_t e4 g5, am_t e5 g6⟩
    · show fB_X0_run t (f_X0_run t (n + 1)) σl (nI i) (nI 4) (nI 0) x (nI d) = _
      rw [run_e (D := 1) (B := 11) (by rw [dw_e t σl (by omega) (by omega)]; rfl) rfl (by omega) (by omega) (by omega) hi e1 b1 b2, show zs_ABOVE 1 = nI 0 from rfl]
      simp only [ch_, show (nI 11 = (1 : Int32)) = False from eq_false (by decide), show (nI 11 = (2 : Int32)) = False from eq_false (by decide), show (nI 11 = (3 : Int32)) = False from eq_false (by decide), show (nI 11 = (11 : Int32)) = True from eq_true rfl, ↓reduceIte]
      simp (disch := first | omega | assumption) only [ev_add, ev_mul, ev_rem, ev_sub, ev_ltT, ev_ltF, ev_leT, ev_leF, ev_eqT, ev_eqF, ev_cl, ev_in, gd_t, bd_s, lt_e, ev_of, ↓reduceIte, decide_true, true_or, or_true, ev_l0, ev_l1, ev_l2, ev_l3, ev_l4, ev_l5, ev_l6, ev_l7, ev_l8, ev_l9, ev_l10, ev_l11, ev_l12, ev_l13, ev_l14, ev_l15, ev_l16, ev_l17, ev_l18, ev_l19, ev_l20, ev_l21, ev_l22, ev_l23, ev_l24, ev_l25, ev_l26, ev_l30, ev_l31, ev_l32, ev_l37, ev_l40, ev_l41, ev_l43, ev_l48, ev_l49, ev_l51, ev_l55, ev_l57, ev_l58, ev_l60, ev_l61, ev_l79, ev_l85, ev_l91, ev_l99, ev_l100, ev_l107, ev_l115, ev_l127, ev_l140, ev_l215, ev_l220, ev_l920, ev_l9999, ev_nT, ev_nF, ev_nlT, ev_nlF, g1]
    · unfold f_X6_setsActs
      rw [c3, show f_X6_isUnder (nI 4) 1 = some (nI 1) by decide]
      simp (disch := first | omega | assumption) only [ev_add, ev_mul, ev_rem, ev_sub, ev_ltT, ev_ltF, ev_leT, ev_leF, ev_eqT, ev_eqF, ev_cl, ev_in, gd_t, bd_s, lt_e, ev_of, ↓reduceIte, decide_true, true_or, or_true, ev_l0, ev_l1, ev_l2, ev_l3, ev_l4, ev_l5, ev_l6, ev_l7, ev_l8, ev_l9, ev_l10, ev_l11, ev_l12, ev_l13, ev_l14, ev_l15, ev_l16, ev_l17, ev_l18, ev_l19, ev_l20, ev_l21, ev_l22, ev_l23, ev_l24, ev_l25, ev_l26, ev_l30, ev_l31, ev_l32, ev_l37, ev_l40, ev_l41, ev_l43, ev_l48, ev_l49, ev_l51, ev_l55, ev_l57, ev_l58, ev_l60, ev_l61, ev_l79, ev_l85, ev_l91, ev_l99, ev_l100, ev_l107, ev_l115, ev_l127, ev_l140, ev_l215, ev_l220, ev_l920, ev_l9999, ev_nT, ev_nF, ev_nlT, ev_nlF, c3, e2, g2, z3, z4, z5]
  · obtain ⟨σl1, σm1, e1, e2, e3, e4, e5⟩ := begin_e (t := t) h (by omega) 51
    have hB := ac_k hi hA e4 e5
    obtain ⟨b1, b2, b3, b4, b5⟩ := id hB
    obtain ⟨y, σl2, σm2, g1, g2, ⟨s, g3, g4⟩, g5, g6⟩ := a1_ (t := t) (n := n + 0) (d := d + 1) (kk := 2) (x) hi (by omega) (by omega) (by omega) rfl e3 hB
    have hC := ac_k hi hB g5 g6
    obtain ⟨z1, z2, z3, z4, z5⟩ := id hC
    refine ⟨y ^^^ nI i, σl2, σm2, ?_, ?_, ⟨s, by omega, g4⟩, ak_t e4 g5, am_t e5 g6⟩
    · show fB_X0_run t (f_X0_run t (n + 1)) σl (nI i) (nI 5) (nI 0) x (nI d) = _
      rw [run_e (D := 5) (B := 51) (by rw [dw_e t σl (by omega) (by omega)]; rfl) rfl (by omega) (by omega) (by omega) hi e1 b1 b2, show zs_ABOVE 5 = nI 2 from rfl]
      simp only [ch_, show (nI 51 = (1 : Int32)) = False from eq_false (by decide), show (nI 51 = (2 : Int32)) = False from eq_false (by decide), show (nI 51 = (3 : Int32)) = False from eq_false (by decide), show (nI 51 = (11 : Int32)) = False from eq_false (by decide), show (nI 51 = (21 : Int32)) = False from eq_false (by decide), show (nI 51 = (31 : Int32)) = False from eq_false (by decide), show (nI 51 = (41 : Int32)) = False from eq_false (by decide), show (nI 51 = (51 : Int32)) = True from eq_true rfl, ↓reduceIte]
      simp (disch := first | omega | assumption) only [ev_add, ev_mul, ev_rem, ev_sub, ev_ltT, ev_ltF, ev_leT, ev_leF, ev_eqT, ev_eqF, ev_cl, ev_in, gd_t, bd_s, lt_e, ev_of, ↓reduceIte, decide_true, true_or, or_true, ev_l0, ev_l1, ev_l2, ev_l3, ev_l4, ev_l5, ev_l6, ev_l7, ev_l8, ev_l9, ev_l10, ev_l11, ev_l12, ev_l13, ev_l14, ev_l15, ev_l16, ev_l17, ev_l18, ev_l19, ev_l20, ev_l21, ev_l22, ev_l23, ev_l24, ev_l25, ev_l26, ev_l30, ev_l31, ev_l32, ev_l37, ev_l40, ev_l41, ev_l43, ev_l48, ev_l49, ev_l51, ev_l55, ev_l57, ev_l58, ev_l60, ev_l61, ev_l79, ev_l85, ev_l91, ev_l99, ev_l100, ev_l107, ev_l115, ev_l127, ev_l140, ev_l215, ev_l220, ev_l920, ev_l9999, ev_nT, ev_nF, ev_nlT, ev_nlF, g1]
    · unfold f_X6_setsActs
      rw [c3, show f_X6_isUnder (nI 5) 1 = some (nI 0) by decide]
      simp (disch := first | omega | assumption) only [ev_add, ev_mul, ev_rem, ev_sub, ev_ltT, ev_ltF, ev_leT, ev_leF, ev_eqT, ev_eqF, ev_cl, ev_in, gd_t, bd_s, lt_e, ev_of, ↓reduceIte, decide_true, true_or, or_true, ev_l0, ev_l1, ev_l2, ev_l3, ev_l4, ev_l5, ev_l6, ev_l7, ev_l8, ev_l9, ev_l10, ev_l11, ev_l12, ev_l13, ev_l14, ev_l15, ev_l16, ev_l17, ev_l18, ev_l19, ev_l20, ev_l21, ev_l22, ev_l23, ev_l24, ev_l25, ev_l26, ev_l30, ev_l31, ev_l32, ev_l37, ev_l40, ev_l41, ev_l43, ev_l48, ev_l49, ev_l51, ev_l55, ev_l57, ev_l58, ev_l60, ev_l61, ev_l79, ev_l85, ev_l91, ev_l99, ev_l100, ev_l107, ev_l115, ev_l127, ev_l140, ev_l215, ev_l220, ev_l920, ev_l9999, ev_nT, ev_nF, ev_nlT, ev_nlF, c3, e2, g2, z3, z4, z5]
  · obtain ⟨y, σl2, σm2, g1, g2, ⟨s, g3, g4⟩, g5, g6⟩ := a1_ (t := t) (n := n + 1) (d := d) (kk := 6) x hi (by omega) (by omega) (by omega) rfl h hA
    refine ⟨y, σl2, σm2, g1, ?_, ⟨s, by omega, g4⟩, g5, g6⟩
    unfold f_X6_setsActs
    rw [c3, show f_X6_isUnder (nI 6) 1 = some (nI 0) by decide]
    simp (disch := first | omega | assumption) only [ev_add, ev_mul, ev_rem, ev_sub, ev_ltT, ev_ltF, ev_leT, ev_leF, ev_eqT, ev_eqF, ev_cl, ev_in, gd_t, bd_s, lt_e, ev_of, ↓reduceIte, decide_true, true_or, or_true, ev_l0, ev_l1, ev_l2, ev_l3, ev_l4, ev_l5, ev_l6, ev_l7, ev_l8, ev_l9, ev_l10, ev_l11, ev_l12, ev_l13, ev_l14, ev_l15, ev_l16, ev_l17, ev_l18, ev_l19, ev_l20, ev_l21, ev_l22, ev_l23, ev_l24, ev_l25, ev_l26, ev_l30, ev_l31, ev_l32, ev_l37, ev_l40, ev_l41, ev_l43, ev_l48, ev_l49, ev_l51, ev_l55, ev_l57, ev_l58, ev_l60, ev_l61, ev_l79, ev_l85, ev_l91, ev_l99, ev_l100, ev_l107, ev_l115, ev_l127, ev_l140, ev_l215, ev_l220, ev_l920, ev_l9999, ev_nT, ev_nF, ev_nlT, ev_nlF, c3, g2]
theorem a3_ {t : jx_T} {σl σm : jx_M} {r i k v d n kk : Nat} (x : Int32) (hi : i < 6) (hr : r ≤ 75) (hd : d ≤ 9) (hk : k < 7) (hkk : kk < 7) (hz : dw_ kk 1 = 0) (h : tr_ r σl σm) (hA : ac_ i k v σl σm) : ar_ r 3 σl σm (f_X0_run t (n + 3) σl (nI i) (nI kk) (nI 1) x (nI d)) (f_X6_plainBurns σm x) := by
  obtain ⟨σl1, σm1, e1, e2, e3, e4, e5⟩ := begin_e (t := t) h (by omega) 2
  have hB := ac_k hi hA e4 e5
  obtain ⟨b1, b2, b3, b4, b5⟩ := id hB
  obtain ⟨y, σl2, σm2, g1, g2, ⟨s, g3, g4⟩, g5, g6⟩ := a2_ (t := t) (n := n) (d := d + 1) x hi (by omega) (by omega) hk e3 hB
  obtain ⟨z1, z2, z3, z4, z5⟩ := ac_k hi hB g5 g6
  refine ⟨y - nI v, σl2, σm2, ?_, ?_, ⟨s, by omega, g4⟩, ak_t e4 g5, am_t e5 g6⟩
  · show fB_X0_run t (f_X0_run t (n + 2)) σl (nI i) (nI kk) (nI 1) x (nI d) = _
    rw [run_e (D := 0) (B := 2) (by rw [dw_e t σl hkk (by omega), hz]) rfl (by omega) (by omega) (by omega) hi e1 b1 b2]
    simp only [ch_, show (nI 2 = (1 : Int32)) = False from eq_false (by decide), show (nI 2 = (2 : Int32)) = True from eq_true rfl, ↓reduceIte]
    simp (disch := first | omega | assumption) only [ev_add, ev_mul, ev_rem, ev_sub, ev_ltT, ev_ltF, ev_leT, ev_leF, ev_eqT, ev_eqF, ev_cl, ev_in, gd_t, bd_s, lt_e, ev_of, ↓reduceIte, decide_true, true_or, or_true, ev_l0, ev_l1, ev_l2, ev_l3, ev_l4, ev_l5, ev_l6, ev_l7, ev_l8, ev_l9, ev_l10, ev_l11, ev_l12, ev_l13, ev_l14, ev_l15, ev_l16, ev_l17, ev_l18, ev_l19, ev_l20, ev_l21, ev_l22, ev_l23, ev_l24, ev_l25, ev_l26, ev_l30, ev_l31, ev_l32, ev_l37, ev_l40, ev_l41, ev_l43, ev_l48, ev_l49, ev_l51, ev_l55, ev_l57, ev_l58, ev_l60, ev_l61, ev_l79, ev_l85, ev_l91, ev_l99, ev_l100, ev_l107, ev_l115, ev_l127, ev_l140, ev_l215, ev_l220, ev_l920, ev_l9999, ev_nT, ev_nF, ev_nlT, ev_nlF, g1]
  · unfold f_X6_plainBurns
    simp (disch := first | omega | assumption) only [ev_add, ev_mul, ev_rem, ev_sub, ev_ltT, ev_ltF, ev_leT, ev_leF, ev_eqT, ev_eqF, ev_cl, ev_in, gd_t, bd_s, lt_e, ev_of, ↓reduceIte, decide_true, true_or, or_true, ev_l0, ev_l1, ev_l2, ev_l3, ev_l4, ev_l5, ev_l6, ev_l7, ev_l8, ev_l9, ev_l10, ev_l11, ev_l12, ev_l13, ev_l14, ev_l15, ev_l16, ev_l17, ev_l18, ev_l19, ev_l20, ev_l21, ev_l22, ev_l23, ev_l24, ev_l25, ev_l26, ev_l30, ev_l31, ev_l32, ev_l37, ev_l40, ev_l41, ev_l43, ev_l48, ev_l49, ev_l51, ev_l55, ev_l57, ev_l58, ev_l60, ev_l61, ev_l79, ev_l85, ev_l91, ev_l99, ev_l100, ev_l107, ev_l115, ev_l127, ev_l140, ev_l215, ev_l220, ev_l920, ev_l9999, ev_nT, ev_nF, ev_nlT, ev_nlF, e2, g2, z5]
theorem a4_ {t : jx_T} {σl σm : jx_M} {r i k v d n : Nat} (x : Int32) (hi : i < 6) (hr : r ≤ 70) (hd : d ≤ 8) (hk : k < 7) (h : tr_ r σl σm) (hA : ac_ i k v σl σm) : ar_ r 4 σl σm (f_X0_run t (n + 4) σl (nI i) (nI k) (nI 1) x (nI d)) (f_X6_burnsActs σm x) := by
  obtain ⟨c1, c2, c3, c4, c5⟩ := id hA
  have hk' : k = 0 ∨ k = 1 ∨ k = 2 ∨ k = 3 ∨ k = 4 ∨ k = 5 ∨ k = 6 := by omega
  rcases hk' with rfl | rfl | rfl | rfl | rfl | rfl | rfl
  · obtain ⟨y, σl2, σm2, g1, g2, ⟨s, g3, g4⟩, g5, g6⟩ := a3_ (t := t) (n := n + 1) (d := d) (kk := 0) x hi (by omega) (by omega) (by omega) (by omega) rfl h hA
    refine ⟨y, σl2, σm2, g1, ?_, ⟨s, by omega, g4⟩, g5, g6⟩
    unfold f_X6_burnsActs
    rw [c3, show f_X6_isUnder (nI 0) 2 = some (nI 0) by decide]
    simp (disch := first | omega | assumption) only [ev_add, ev_mul, ev_rem, ev_sub, ev_ltT, ev_ltF, ev_leT, ev_leF, ev_eqT, ev_eqF, ev_cl, ev_in, gd_t, bd_s, lt_e, ev_of, ↓reduceIte, decide_true, true_or, or_true, ev_l0, ev_l1, ev_l2, ev_l3, ev_l4, ev_l5, ev_l6, ev_l7, ev_l8, ev_l9, ev_l10, ev_l11, ev_l12, ev_l13, ev_l14, ev_l15, ev_l16, ev_l17, ev_l18, ev_l19, ev_l20, ev_l21, ev_l22, ev_l23, ev_l24, ev_l25, ev_l26, ev_l30, ev_l31, ev_l32, ev_l37, ev_l40, ev_l41, ev_l43, ev_l48, ev_l49, ev_l51, ev_l55, ev_l57, ev_l58, ev_l60, ev_l61, ev_l79, ev_l85, ev_l91, ev_l99, ev_l100, ev_l107, ev_l115, ev_l127, ev_l140, ev_l215, ev_l220, ev_l920, ev_l9999, ev_nT, ev_nF, ev_nlT, ev_nlF, c3, g2]
  · obtain ⟨y, σl2, σm2, g1, g2, ⟨s, g3, g4⟩, g5, g6⟩ := a3_ (t := t) (n := n + 1) (d := d) (kk := 1) x hi (by omega) (by omega) (by omega) (by omega) rfl h hA
    refine ⟨y, σl2, σm2, g1, ?_, ⟨s, by omega, g4⟩, g5, g6⟩
    unfold f_X6_burnsActs
    rw [c3, show f_X6_isUnder (nI 1) 2 = some (nI 0) by decide]
    simp (disch := first | omega | assumption) only [ev_add, ev_mul, ev_rem, ev_sub, ev_ltT, ev_ltF, ev_leT, ev_leF, ev_eqT, ev_eqF, ev_cl, ev_in, gd_t, bd_s, lt_e, ev_of, ↓reduceIte, decide_true, true_or, or_true, ev_l0, ev_l1, ev_l2, ev_l3, ev_l4, ev_l5, ev_l6, ev_l7, ev_l8, ev_l9, ev_l10, ev_l11, ev_l12, ev_l13, ev_l14, ev_l15, ev_l16, ev_l17, ev_l18, ev_l19, ev_l20, ev_l21, ev_l22, ev_l23, ev_l24, ev_l25, ev_l26, ev_l30, ev_l31, ev_l32, ev_l37, ev_l40, ev_l41, ev_l43, ev_l48, ev_l49, ev_l51, ev_l55, ev_l57, ev_l58, ev_l60, ev_l61, ev_l79, ev_l85, ev_l91, ev_l99, ev_l100, ev_l107, ev_l115, ev_l127, ev_l140, ev_l215, ev_l220, ev_l920, ev_l9999, ev_nT, ev_nF, ev_nlT, ev_nlF, c3, g2]
  · obtain ⟨σl1, σm1, e1, e2, e3, e4, e5⟩ := begin_e (t := t) h (by omega) 21
    have hB := ac_k hi hA e4 e5
    obtain ⟨b1, b2, b3, b4, b5⟩ := id hB
    obtain ⟨y, σl2, σm2, g1, g2, ⟨s, g3, g4⟩, g5, g6⟩ := a3_ (t := t) (n := n + 0) (d := d + 1) (kk := 0) (x) hi (by omega) (by omega) (by omega) (by omega) rfl e3 hB
    have hC := ac_k hi hB g5 g6
    obtain ⟨z1, z2, z3, z4, z5⟩ := id hC
    refine ⟨-y, σl2, σm2, ?_, ?_, ⟨s, by omega, g4⟩, ak_t e4 g5, am_t e5 g6⟩
    · show fB_X0_run t (f_X0_run t (n + 3)) σl (nI i) (nI 2) (nI 1) x (nI d) = _
      rw [run_e (D := 2) (B := 21) (by rw [dw_e t σl (by omega) (by omega)]; rfl) rfl (by omega) (by omega) (by omega) hi e1 b1 b2, show zs_ABOVE 2 = nI 0 from rfl]
      simp only [ch_, show (nI 21 = (1 : Int32)) = False from eq_false (by decide), show (nI 21 = (2 : Int32)) = False from eq_false (by decide), show (nI 21 = (3 : Int32)) = False from eq_false (by decide), show (nI 21 = (11 : Int32)) = False from eq_false (by decide), show (nI 21 = (21 : Int32)) = True from eq_true rfl, ↓reduceIte]
      simp (disch := first | omega | assumption) only [ev_add, ev_mul, ev_rem, ev_sub, ev_ltT, ev_ltF, ev_leT, ev_leF, ev_eqT, ev_eqF, ev_cl, ev_in, gd_t, bd_s, lt_e, ev_of, ↓reduceIte, decide_true, true_or, or_true, ev_l0, ev_l1, ev_l2, ev_l3, ev_l4, ev_l5, ev_l6, ev_l7, ev_l8, ev_l9, ev_l10, ev_l11, ev_l12, ev_l13, ev_l14, ev_l15, ev_l16, ev_l17, ev_l18, ev_l19, ev_l20, ev_l21, ev_l22, ev_l23, ev_l24, ev_l25, ev_l26, ev_l30, ev_l31, ev_l32, ev_l37, ev_l40, ev_l41, ev_l43, ev_l48, ev_l49, ev_l51, ev_l55, ev_l57, ev_l58, ev_l60, ev_l61, ev_l79, ev_l85, ev_l91, ev_l99, ev_l100, ev_l107, ev_l115, ev_l127, ev_l140, ev_l215, ev_l220, ev_l920, ev_l9999, ev_nT, ev_nF, ev_nlT, ev_nlF, g1]
    · unfold f_X6_burnsActs
      rw [c3, show f_X6_isUnder (nI 2) 2 = some (nI 1) by decide]
      simp (disch := first | omega | assumption) only [ev_add, ev_mul, ev_rem, ev_sub, ev_ltT, ev_ltF, ev_leT, ev_leF, ev_eqT, ev_eqF, ev_cl, ev_in, gd_t, bd_s, lt_e, ev_of, ↓reduceIte, decide_true, true_or, or_true, ev_l0, ev_l1, ev_l2, ev_l3, ev_l4, ev_l5, ev_l6, ev_l7, ev_l8, ev_l9, ev_l10, ev_l11, ev_l12, ev_l13, ev_l14, ev_l15, ev_l16, ev_l17, ev_l18, ev_l19, ev_l20, ev_l21, ev_l22, ev_l23, ev_l24, ev_l25, ev_l26, ev_l30, ev_l31, ev_l32, ev_l37, ev_l40, ev_l41, ev_l43, ev_l48, ev_l49, ev_l51, ev_l55, ev_l57, ev_l58, ev_l60, ev_l61, ev_l79, ev_l85, ev_l91, ev_l99, ev_l100, ev_l107, ev_l115, ev_l127, ev_l140, ev_l215, ev_l220, ev_l920, ev_l9999, ev_nT, ev_nF, ev_nlT, ev_nlF, c3, e2, g2, z3, z4, z5]
  · obtain ⟨y, σl2, σm2, g1, g2, ⟨s, g3, g4⟩, g5, g6⟩ := a3_ (t := t) (n := n + 1) (d := d) (kk := 3) x hi (by omega) (by omega) (by omega) (by omega) rfl h hA
    refine ⟨y, σl2, σm2, g1, ?_, ⟨s, by omega, g4⟩, g5, g6⟩
    unfold f_X6_burnsActs
    rw [c3, show f_X6_isUnder (nI 3) 2 = some (nI 0) by decide]
    simp (disch := first | omega | assumption) only [ev_add, ev_mul, ev_rem, ev_sub, ev_ltT, ev_ltF, ev_leT, ev_leF, ev_eqT, ev_eqF, ev_cl, ev_in, gd_t, bd_s, lt_e, ev_of, ↓reduceIte, decide_true, true_or, or_true, ev_l0, ev_l1, ev_l2, ev_l3, ev_l4, ev_l5, ev_l6, ev_l7, ev_l8, ev_l9, ev_l10, ev_l11, ev_l12, ev_l13, ev_l14, ev_l15, ev_l16, ev_l17, ev_l18, ev_l19, ev_l20, ev_l21, ev_l22, ev_l23, ev_l24, ev_l25, ev_l26, ev_l30, ev_l31, ev_l32, ev_l37, ev_l40, ev_l41, ev_l43, ev_l48, ev_l49, ev_l51, ev_l55, ev_l57, ev_l58, ev_l60, ev_l61, ev_l79, ev_l85, ev_l91, ev_l99, ev_l100, ev_l107, ev_l115, ev_l127, ev_l140, ev_l215, ev_l220, ev_l920, ev_l9999, ev_nT, ev_nF, ev_nlT, ev_nlF, c3, g2]
  · obtain ⟨y, σl2, σm2, g1, g2, ⟨s, g3, g4⟩, g5, g6⟩ := a3_ (t := t) (n := n + 1) (d := d) (kk := 4) x hi (by omega) (by omega) (by omega) (by omega) rfl h hA
    refine ⟨y, σl2, σm2, g1, ?_, ⟨s, by omega, g4⟩, g5, g6⟩
    unfold f_X6_burnsActs
    rw [c3, show f_X6_isUnder (nI 4) 2 = some (nI 0) by decide]
    simp (disch := first | omega | assumption) only [ev_add, ev_mul, ev_rem, ev_sub, ev_ltT, ev_ltF, ev_leT, ev_leF, ev_eqT, ev_eqF, ev_cl, ev_in, gd_t, bd_s, lt_e, ev_of, ↓reduceIte, decide_true, true_or, or_true, ev_l0, ev_l1, ev_l2, ev_l3, ev_l4, ev_l5, ev_l6, ev_l7, ev_l8, ev_l9, ev_l10, ev_l11, ev_l12, ev_l13, ev_l14, ev_l15, ev_l16, ev_l17, ev_l18, ev_l19, ev_l20, ev_l21, ev_l22, ev_l23, ev_l24, ev_l25, ev_l26, ev_l30, ev_l31, ev_l32, ev_l37, ev_l40, ev_l41, ev_l43, ev_l48, ev_l49, ev_l51, ev_l55, ev_l57, ev_l58, ev_l60, ev_l61, ev_l79, ev_l85, ev_l91, ev_l99, ev_l100, ev_l107, ev_l115, ev_l127, ev_l140, ev_l215, ev_l220, ev_l920, ev_l9999, ev_nT, ev_nF, ev_nlT, ev_nlF, c3, g2]
  · obtain ⟨σl1, σm1, e1, e2, e3, e4, e5⟩ := begin_e (t := t) h (by omega) 21
    have hB := ac_k hi hA e4 e5
    obtain ⟨b1, b2, b3, b4, b5⟩ := id hB
    obtain ⟨y, σl2, σm2, g1, g2, ⟨s, g3, g4⟩, g5, g6⟩ := a3_ (t := t) (n := n + 0) (d := d + 1) (kk := 0) (x) hi (by omega) (by omega) (by omega) (by omega) rfl e3 hB
    have hC := ac_k hi hB g5 g6
    obtain ⟨z1, z2, z3, z4, z5⟩ := id hC
    refine ⟨-y, σl2, σm2, ?_, ?_, ⟨s, by omega, g4⟩, ak_t e4 g5, am_t e5 g6⟩
    · show fB_X0_run t (f_X0_run t (n + 3)) σl (nI i) (nI 5) (nI 1) x (nI d) = _
      rw [run_e (D := 2) (B := 21) (by rw [dw_e t σl (by omega) (by omega)]; rfl) rfl (by omega) (by omega) (by omega) hi e1 b1 b2, show zs_ABOVE 2 = nI 0 from rfl]
      simp only [ch_, show (nI 21 = (1 : Int32)) = False from eq_false (by decide), show (nI 21 = (2 : Int32)) = False from eq_false (by decide), show (nI 21 = (3 : Int32)) = False from eq_false (by decide), show (nI 21 = (11 : Int32)) = False from eq_false (by decide), show (nI 21 = (21 : Int32)) = True from eq_true rfl, ↓reduceIte]
      simp (disch := first | omega | assumption) only [ev_add, ev_mul, ev_rem, ev_sub, ev_ltT, ev_ltF, ev_leT, ev_leF, ev_eqT, ev_eqF, ev_cl, ev_in, gd_t, bd_s, lt_e, ev_of, ↓reduceIte, decide_true, true_or, or_true, ev_l0, ev_l1, ev_l2, ev_l3, ev_l4, ev_l5, ev_l6, ev_l7, ev_l8, ev_l9, ev_l10, ev_l11, ev_l12, ev_l13, ev_l14, ev_l15, ev_l16, ev_l17, ev_l18, ev_l19, ev_l20, ev_l21, ev_l22, ev_l23, ev_l24, ev_l25, ev_l26, ev_l30, ev_l31, ev_l32, ev_l37, ev_l40, ev_l41, ev_l43, ev_l48, ev_l49, ev_l51, ev_l55, ev_l57, ev_l58, ev_l60, ev_l61, ev_l79, ev_l85, ev_l91, ev_l99, ev_l100, ev_l107, ev_l115, ev_l127, ev_l140, ev_l215, ev_l220, ev_l920, ev_l9999, ev_nT, ev_nF, ev_nlT, ev_nlF, g1]
    · unfold f_X6_burnsActs
      rw [c3, show f_X6_isUnder (nI 5) 2 = some (nI 1) by decide]
      simp (disch := first | omega | assumption) only [ev_add, ev_mul, ev_rem, ev_sub, ev_ltT, ev_ltF, ev_leT, ev_leF, ev_eqT, ev_eqF, ev_cl, ev_in, gd_t, bd_s, lt_e, ev_of, ↓reduceIte, decide_true, true_or, or_true, ev_l0, ev_l1, ev_l2, ev_l3, ev_l4, ev_l5, ev_l6, ev_l7, ev_l8, ev_l9, ev_l10, ev_l11, ev_l12, ev_l13, ev_l14, ev_l15, ev_l16, ev_l17, ev_l18, ev_l19, ev_l20, ev_l21, ev_l22, ev_l23, ev_l24, ev_l25, ev_l26, ev_l30, ev_l31, ev_l32, ev_l37, ev_l40, ev_l41, ev_l43, ev_l48, ev_l49, ev_l51, ev_l55, ev_l57, ev_l58, ev_l60, ev_l61, ev_l79, ev_l85, ev_l91, ev_l99, ev_l100, ev_l107, ev_l115, ev_l127, ev_l140, ev_l215, ev_l220, ev_l920, ev_l9999, ev_nT, ev_nF, ev_nlT, ev_nlF, c3, e2, g2, z3, z4, z5]
  · obtain ⟨σl1, σm1, e1, e2, e3, e4, e5⟩ := begin_e (t := t) h (by omega) 61
    have hB := ac_k hi hA e4 e5
    obtain ⟨b1, b2, b3, b4, b5⟩ := id hB
    obtain ⟨y, σl2, σm2, g1, g2, ⟨s, g3, g4⟩, g5, g6⟩ := a3_ (t := t) (n := n + 0) (d := d + 1) (kk := 3) (x) hi (by omega) (by omega) (by omega) (by omega) rfl e3 hB
    have hC := ac_k hi hB g5 g6
    obtain ⟨z1, z2, z3, z4, z5⟩ := id hC
    refine ⟨y + nI v, σl2, σm2, ?_, ?_, ⟨s, by omega, g4⟩, ak_t e4 g5, am_t e5 g6⟩
    · show fB_X0_run t (f_X0_run t (n + 3)) σl (nI i) (nI 6) (nI 1) x (nI d) = _
      rw [run_e (D := 6) (B := 61) (by rw [dw_e t σl (by omega) (by omega)]; rfl) rfl (by omega) (by omega) (by omega) hi e1 b1 b2, show zs_ABOVE 6 = nI 3 from rfl]
      simp only [ch_, show (nI 61 = (1 : Int32)) = False from eq_false (by decide), show (nI 61 = (2 : Int32)) = False from eq_false (by decide), show (nI 61 = (3 : Int32)) = False from eq_false (by decide), show (nI 61 = (11 : Int32)) = False from eq_false (by decide), show (nI 61 = (21 : Int32)) = False from eq_false (by decide), show (nI 61 = (31 : Int32)) = False from eq_false (by decide), show (nI 61 = (41 : Int32)) = False from eq_false (by decide), show (nI 61 = (51 : Int32)) = False from eq_false (by decide), show (nI 61 = (61 : Int32)) = True from eq_true rfl, ↓reduceIte]
      simp (disch := first | omega | assumption) only [ev_add, ev_mul, ev_rem, ev_sub, ev_ltT, ev_ltF, ev_leT, ev_leF, ev_eqT, ev_eqF, ev_cl, ev_in, gd_t, bd_s, lt_e, ev_of, ↓reduceIte, decide_true, true_or, or_true, ev_l0, ev_l1, ev_l2, ev_l3, ev_l4, ev_l5, ev_l6, ev_l7, ev_l8, ev_l9, ev_l10, ev_l11, ev_l12, ev_l13, ev_l14, ev_l15, ev_l16, ev_l17, ev_l18, ev_l19, ev_l20, ev_l21, ev_l22, ev_l23, ev_l24, ev_l25, ev_l26, ev_l30, ev_l31, ev_l32, ev_l37, ev_l40, ev_l41, ev_l43, ev_l48, ev_l49, ev_l51, ev_l55, ev_l57, ev_l58, ev_l60, ev_l61, ev_l79, ev_l85, ev_l91, ev_l99, ev_l100, ev_l107, ev_l115, ev_l127, ev_l140, ev_l215, ev_l220, ev_l920, ev_l9999, ev_nT, ev_nF, ev_nlT, ev_nlF, g1]
    · unfold f_X6_burnsActs
      rw [c3, show f_X6_isUnder (nI 6) 2 = some (nI 0) by decide]
      simp (disch := first | omega | assumption) only [ev_add, ev_mul, ev_rem, ev_sub, ev_ltT, ev_ltF, ev_leT, ev_leF, ev_eqT, ev_eqF, ev_cl, ev_in, gd_t, bd_s, lt_e, ev_of, ↓reduceIte, decide_true, true_or, or_true, ev_l0, ev_l1, ev_l2, ev_l3, ev_l4, ev_l5, ev_l6, ev_l7, ev_l8, ev_l9, ev_l10, ev_l11, ev_l12, ev_l13, ev_l14, ev_l15, ev_l16, ev_l17, ev_l18, ev_l19, ev_l20, ev_l21, ev_l22, ev_l23, ev_l24, ev_l25, ev_l26, ev_l30, ev_l31, ev_l32, ev_l37, ev_l40, ev_l41, ev_l43, ev_l48, ev_l49, ev_l51, ev_l55, ev_l57, ev_l58, ev_l60, ev_l61, ev_l79, ev_l85, ev_l91, ev_l99, ev_l100, ev_l107, ev_l115, ev_l127, ev_l140, ev_l215, ev_l220, ev_l920, ev_l9999, ev_nT, ev_nF, ev_nlT, ev_nlF, c3, e2, g2, z3, z4, z5]
theorem a5_ {t : jx_T} {σl σm : jx_M} {r i k v d n kk : Nat} (x : Int32) (hi : i < 6) (hr : r ≤ 65) (hd : d ≤ 7) (hk : k < 7) (hkk : kk < 7) (hz : dw_ kk 2 = 0) (h : tr_ r σl σm) (hA : ac_ i k v σl σm) : ar_ r 5 σl σm (f_X0_run t (n + 5) σl (nI i) (nI kk) (nI 2) x (nI d)) (f_X6_plainTells σm x) := by
  obtain ⟨σl1, σm1, e1, e2, e3, e4, e5⟩ := begin_e (t := t) h (by omega) 3
  have hB := ac_k hi hA e4 e5
  obtain ⟨b1, b2, b3, b4, b5⟩ := id hB
  obtain ⟨y, σl2, σm2, g1, g2, ⟨s, g3, g4⟩, g5, g6⟩ := a4_ (t := t) (n := n) (d := d + 1) x hi (by omega) (by omega) hk e3 hB
  obtain ⟨z1, z2, z3, z4, z5⟩ := ac_k hi hB g5 g6
  refine ⟨y * nI 2, σl2, σm2, ?_, ?_, ⟨s, by omega, g4⟩, ak_t e4 g5, am_t e5 g6⟩
  · show fB_X0_run t (f_X0_run t (n + 4)) σl (nI i) (nI kk) (nI 2) x (nI d) = _
    rw [run_e (D := 0) (B := 3) (by rw [dw_e t σl hkk (by omega), hz]) rfl (by omega) (by omega) (by omega) hi e1 b1 b2]
    simp only [ch_, show (nI 3 = (1 : Int32)) = False from eq_false (by decide), show (nI 3 = (2 : Int32)) = False from eq_false (by decide), show (nI 3 = (3 : Int32)) = True from eq_true rfl, ↓reduceIte]
    simp (disch := first | omega | assumption) only [ev_add, ev_mul, ev_rem, ev_sub, ev_ltT, ev_ltF, ev_leT, ev_leF, ev_eqT, ev_eqF, ev_cl, ev_in, gd_t, bd_s, lt_e, ev_of, ↓reduceIte, decide_true, true_or, or_true, ev_l0, ev_l1, ev_l2, ev_l3, ev_l4, ev_l5, ev_l6, ev_l7, ev_l8, ev_l9, ev_l10, ev_l11, ev_l12, ev_l13, ev_l14, ev_l15, ev_l16, ev_l17, ev_l18, ev_l19, ev_l20, ev_l21, ev_l22, ev_l23, ev_l24, ev_l25, ev_l26, ev_l30, ev_l31, ev_l32, ev_l37, ev_l40, ev_l41, ev_l43, ev_l48, ev_l49, ev_l51, ev_l55, ev_l57, ev_l58, ev_l60, ev_l61, ev_l79, ev_l85, ev_l91, ev_l99, ev_l100, ev_l107, ev_l115, ev_l127, ev_l140, ev_l215, ev_l220, ev_l920, ev_l9999, ev_nT, ev_nF, ev_nlT, ev_nlF, g1]
  · unfold f_X6_plainTells
    simp (disch := first | omega | assumption) only [ev_add, ev_mul, ev_rem, ev_sub, ev_ltT, ev_ltF, ev_leT, ev_leF, ev_eqT, ev_eqF, ev_cl, ev_in, gd_t, bd_s, lt_e, ev_of, ↓reduceIte, decide_true, true_or, or_true, ev_l0, ev_l1, ev_l2, ev_l3, ev_l4, ev_l5, ev_l6, ev_l7, ev_l8, ev_l9, ev_l10, ev_l11, ev_l12, ev_l13, ev_l14, ev_l15, ev_l16, ev_l17, ev_l18, ev_l19, ev_l20, ev_l21, ev_l22, ev_l23, ev_l24, ev_l25, ev_l26, ev_l30, ev_l31, ev_l32, ev_l37, ev_l40, ev_l41, ev_l43, ev_l48, ev_l49, ev_l51, ev_l55, ev_l57, ev_l58, ev_l60, ev_l61, ev_l79, ev_l85, ev_l91, ev_l99, ev_l100, ev_l107, ev_l115, ev_l127, ev_l140, ev_l215, ev_l220, ev_l920, ev_l9999, ev_nT, ev_nF, ev_nlT, ev_nlF, e2, g2, z5]
theorem a6_ {t : jx_T} {σl σm : jx_M} {r i k v d n : Nat} (x : Int32) (hi : i < 6) (hr : r ≤ 50) (hd : d ≤ 6) (hk : k < 7) (h : tr_ r σl σm) (hA : ac_ i k v σl σm) : ar_ r 8 σl σm (f_X0_run t (n + 6) σl (nI i) (nI k) (nI 2) x (nI d)) (f_X6_tellsActs σm x) := by
  obtain ⟨c1, c2, c3, c4, c5⟩ := id hA
  have hk' : k = 0 ∨ k = 1 ∨ k = 2 ∨ k = 3 ∨ k = 4 ∨ k = 5 ∨ k = 6 := by omega
  rcases hk' with rfl | rfl | rfl | rfl | rfl | rfl | rfl
  · obtain ⟨y, σl2, σm2, g1, g2, ⟨s, g3, g4⟩, g5, g6⟩ := a5_ (t := t) (n := n + 1) (d := d) (kk := 0) x hi (by omega) (by omega) (by omega) (by omega) rfl h hA
    refine ⟨y, σl2, σm2, g1, ?_, ⟨s, by omega, g4⟩, g5, g6⟩
    unfold f_X6_tellsActs
    rw [c3, show f_X6_isUnder (nI 0) 3 = some (nI 0) by decide]
    simp (disch := first | omega | assumption) only [ev_add, ev_mul, ev_rem, ev_sub, ev_ltT, ev_ltF, ev_leT, ev_leF, ev_eqT, ev_eqF, ev_cl, ev_in, gd_t, bd_s, lt_e, ev_of, ↓reduceIte, decide_true, true_or, or_true, ev_l0, ev_l1, ev_l2, ev_l3, ev_l4, ev_l5, ev_l6, ev_l7, ev_l8, ev_l9, ev_l10, ev_l11, ev_l12, ev_l13, ev_l14, ev_l15, ev_l16, ev_l17, ev_l18, ev_l19, ev_l20, ev_l21, ev_l22, ev_l23, ev_l24, ev_l25, ev_l26, ev_l30, ev_l31, ev_l32, ev_l37, ev_l40, ev_l41, ev_l43, ev_l48, ev_l49, ev_l51, ev_l55, ev_l57, ev_l58, ev_l60, ev_l61, ev_l79, ev_l85, ev_l91, ev_l99, ev_l100, ev_l107, ev_l115, ev_l127, ev_l140, ev_l215, ev_l220, ev_l920, ev_l9999, ev_nT, ev_nF, ev_nlT, ev_nlF, c3, g2]
  · obtain ⟨y, σl2, σm2, g1, g2, ⟨s, g3, g4⟩, g5, g6⟩ := a5_ (t := t) (n := n + 1) (d := d) (kk := 1) x hi (by omega) (by omega) (by omega) (by omega) rfl h hA
    refine ⟨y, σl2, σm2, g1, ?_, ⟨s, by omega, g4⟩, g5, g6⟩
    unfold f_X6_tellsActs
    rw [c3, show f_X6_isUnder (nI 1) 3 = some (nI 0) by decide]
    simp (disch := first | omega | assumption) only [ev_add, ev_mul, ev_rem, ev_sub, ev_ltT, ev_ltF, ev_leT, ev_leF, ev_eqT, ev_eqF, ev_cl, ev_in, gd_t, bd_s, lt_e, ev_of, ↓reduceIte, decide_true, true_or, or_true, ev_l0, ev_l1, ev_l2, ev_l3, ev_l4, ev_l5, ev_l6, ev_l7, ev_l8, ev_l9, ev_l10, ev_l11, ev_l12, ev_l13, ev_l14, ev_l15, ev_l16, ev_l17, ev_l18, ev_l19, ev_l20, ev_l21, ev_l22, ev_l23, ev_l24, ev_l25, ev_l26, ev_l30, ev_l31, ev_l32, ev_l37, ev_l40, ev_l41, ev_l43, ev_l48, ev_l49, ev_l51, ev_l55, ev_l57, ev_l58, ev_l60, ev_l61, ev_l79, ev_l85, ev_l91, ev_l99, ev_l100, ev_l107, ev_l115, ev_l127, ev_l140, ev_l215, ev_l220, ev_l920, ev_l9999, ev_nT, ev_nF, ev_nlT, ev_nlF, c3, g2]
  · obtain ⟨y, σl2, σm2, g1, g2, ⟨s, g3, g4⟩, g5, g6⟩ := a5_ (t := t) (n := n + 1) (d := d) (kk := 2) x hi (by omega) (by omega) (by omega) (by omega) rfl h hA
    refine ⟨y, σl2, σm2, g1, ?_, ⟨s, by omega, g4⟩, g5, g6⟩
    unfold f_X6_tellsActs
    rw [c3, show f_X6_isUnder (nI 2) 3 = some (nI 0) by decide]
    simp (disch := first | omega | assumption) only [ev_add, ev_mul, ev_rem, ev_sub, ev_ltT, ev_ltF, ev_leT, ev_leF, ev_eqT, ev_eqF, ev_cl, ev_in, gd_t, bd_s, lt_e, ev_of, ↓reduceIte, decide_true, true_or, or_true, ev_l0, ev_l1, ev_l2, ev_l3, ev_l4, ev_l5, ev_l6, ev_l7, ev_l8, ev_l9, ev_l10, ev_l11, ev_l12, ev_l13, ev_l14, ev_l15, ev_l16, ev_l17, ev_l18, ev_l19, ev_l20, ev_l21, ev_l22, ev_l23, ev_l24, ev_l25, ev_l26, ev_l30, ev_l31, ev_l32, ev_l37, ev_l40, ev_l41, ev_l43, ev_l48, ev_l49, ev_l51, ev_l55, ev_l57, ev_l58, ev_l60, ev_l61, ev_l79, ev_l85, ev_l91, ev_l99, ev_l100, ev_l107, ev_l115, ev_l127, ev_l140, ev_l215, ev_l220, ev_l920, ev_l9999, ev_nT, ev_nF, ev_nlT, ev_nlF, c3, g2]
  · obtain ⟨σl1, σm1, e1, e2, e3, e4, e5⟩ := begin_e (t := t) h (by omega) 31
    have hB := ac_k hi hA e4 e5
    obtain ⟨b1, b2, b3, b4, b5⟩ := id hB
    obtain ⟨y, σl2, σm2, g1, g2, ⟨s, g3, g4⟩, g5, g6⟩ := a5_ (t := t) (n := n + 0) (d := d + 1) (kk := 0) (x) hi (by omega) (by omega) (by omega) (by omega) rfl e3 hB
    have hC := ac_k hi hB g5 g6
    obtain ⟨z1, z2, z3, z4, z5⟩ := id hC
    refine ⟨y ^^^ nI 7, σl2, σm2, ?_, ?_, ⟨s, by omega, g4⟩, ak_t e4 g5, am_t e5 g6⟩
    · show fB_X0_run t (f_X0_run t (n + 5)) σl (nI i) (nI 3) (nI 2) x (nI d) = _
      rw [run_e (D := 3) (B := 31) (by rw [dw_e t σl (by omega) (by omega)]; rfl) rfl (by omega) (by omega) (by omega) hi e1 b1 b2, show zs_ABOVE 3 = nI 0 from rfl]
      simp only [ch_, show (nI 31 = (1 : Int32)) = False from eq_false (by decide), show (nI 31 = (2 : Int32)) = False from eq_false (by decide), show (nI 31 = (3 : Int32)) = False from eq_false (by decide), show (nI 31 = (11 : Int32)) = False from eq_false (by decide), show (nI 31 = (21 : Int32)) = False from eq_false (by decide), show (nI 31 = (31 : Int32)) = True from eq_true rfl, ↓reduceIte]
      simp (disch := first | omega | assumption) only [ev_add, ev_mul, ev_rem, ev_sub, ev_ltT, ev_ltF, ev_leT, ev_leF, ev_eqT, ev_eqF, ev_cl, ev_in, gd_t, bd_s, lt_e, ev_of, ↓reduceIte, decide_true, true_or, or_true, ev_l0, ev_l1, ev_l2, ev_l3, ev_l4, ev_l5, ev_l6, ev_l7, ev_l8, ev_l9, ev_l10, ev_l11, ev_l12, ev_l13, ev_l14, ev_l15, ev_l16, ev_l17, ev_l18, ev_l19, ev_l20, ev_l21, ev_l22, ev_l23, ev_l24, ev_l25, ev_l26, ev_l30, ev_l31, ev_l32, ev_l37, ev_l40, ev_l41, ev_l43, ev_l48, ev_l49, ev_l51, ev_l55, ev_l57, ev_l58, ev_l60, ev_l61, ev_l79, ev_l85, ev_l91, ev_l99, ev_l100, ev_l107, ev_l115, ev_l127, ev_l140, ev_l215, ev_l220, ev_l920, ev_l9999, ev_nT, ev_nF, ev_nlT, ev_nlF, g1]
    · unfold f_X6_tellsActs
      rw [c3, show f_X6_isUnder (nI 3) 3 = some (nI 1) by decide]
      simp (disch := first | omega | assumption) only [ev_add, ev_mul, ev_rem, ev_sub, ev_ltT, ev_ltF, ev_leT, ev_leF, ev_eqT, ev_eqF, ev_cl, ev_in, gd_t, bd_s, lt_e, ev_of, ↓reduceIte, decide_true, true_or, or_true, ev_l0, ev_l1, ev_l2, ev_l3, ev_l4, ev_l5, ev_l6, ev_l7, ev_l8, ev_l9, ev_l10, ev_l11, ev_l12, ev_l13, ev_l14, ev_l15, ev_l16, ev_l17, ev_l18, ev_l19, ev_l20, ev_l21, ev_l22, ev_l23, ev_l24, ev_l25, ev_l26, ev_l30, ev_l31, ev_l32, ev_l37, ev_l40, ev_l41, ev_l43, ev_l48, ev_l49, ev_l51, ev_l55, ev_l57, ev_l58, ev_l60, ev_l61, ev_l79, ev_l85, ev_l91, ev_l99, ev_l100, ev_l107, ev_l115, ev_l127, ev_l140, ev_l215, ev_l220, ev_l920, ev_l9999, ev_nT, ev_nF, ev_nlT, ev_nlF, c3, e2, g2, z3, z4, z5]
  · obtain ⟨σl1, σm1, e1, e2, e3, e4, e5⟩ := begin_e (t := t) h (by omega) 41
    have hB := ac_k hi hA e4 e5
    obtain ⟨b1, b2, b3, b4, b5⟩ := id hB
    obtain ⟨y, σl2, σm2, g1, g2, ⟨s, g3, g4⟩, g5, g6⟩ := a5_ (t := t) (n := n + 0) (d := d + 1) (kk := 1) (x - nI 1) hi (by omega) (by omega) (by omega) (by omega) rfl e3 hB
    have hC := ac_k hi hB g5 g6
    obtain ⟨z1, z2, z3, z4, z5⟩ := id hC
    obtain ⟨y2, σl3, σm3, w1, w2, ⟨s2, w3, w4⟩, w5, w6⟩ := a2_ (t := t) (n := n + 3) (d := d + 1) (nI 2) hi (by omega) (by omega) (by omega) g4 hC
    refine ⟨y + y2, σl3, σm3, ?_, ?_, ⟨s2, by omega, w4⟩, ak_t e4 (ak_t g5 w5), am_t e5 (am_t g6 w6)⟩
    · show fB_X0_run t (f_X0_run t (n + 5)) σl (nI i) (nI 4) (nI 2) x (nI d) = _
      rw [run_e (D := 4) (B := 41) (by rw [dw_e t σl (by omega) (by omega)]; rfl) rfl (by omega) (by omega) (by omega) hi e1 b1 b2, show zs_ABOVE 4 = nI 1 from rfl]
      simp only [ch_, show (nI 41 = (1 : Int32)) = False from eq_false (by decide), show (nI 41 = (2 : Int32)) = False from eq_false (by decide), show (nI 41 = (3 : Int32)) = False from eq_false (by decide), show (nI 41 = (11 : Int32)) = False from eq_false (by decide), show (nI 41 = (21 : Int32)) = False from eq_false (by decide), show (nI 41 = (31 : Int32)) = False from eq_false (by decide), show (nI 41 = (41 : Int32)) = True from eq_true rfl, ↓reduceIte]
      simp (disch := first | omega | assumption) only [ev_add, ev_mul, ev_rem, ev_sub, ev_ltT, ev_ltF, ev_leT, ev_leF, ev_eqT, ev_eqF, ev_cl, ev_in, gd_t, bd_s, lt_e, ev_of, ↓reduceIte, decide_true, true_or, or_true, ev_l0, ev_l1, ev_l2, ev_l3, ev_l4, ev_l5, ev_l6, ev_l7, ev_l8, ev_l9, ev_l10, ev_l11, ev_l12, ev_l13, ev_l14, ev_l15, ev_l16, ev_l17, ev_l18, ev_l19, ev_l20, ev_l21, ev_l22, ev_l23, ev_l24, ev_l25, ev_l26, ev_l30, ev_l31, ev_l32, ev_l37, ev_l40, ev_l41, ev_l43, ev_l48, ev_l49, ev_l51, ev_l55, ev_l57, ev_l58, ev_l60, ev_l61, ev_l79, ev_l85, ev_l91, ev_l99, ev_l100, ev_l107, ev_l115, ev_l127, ev_l140, ev_l215, ev_l220, ev_l920, ev_l9999, ev_nT, ev_nF, ev_nlT, ev_nlF, g1, w1]
    · unfold f_X6_tellsActs
      rw [c3, show f_X6_isUnder (nI 4) 3 = some (nI 0) by decide]
      simp (disch := first | omega | assumption) only [ev_add, ev_mul, ev_rem, ev_sub, ev_ltT, ev_ltF, ev_leT, ev_leF, ev_eqT, ev_eqF, ev_cl, ev_in, gd_t, bd_s, lt_e, ev_of, ↓reduceIte, decide_true, true_or, or_true, ev_l0, ev_l1, ev_l2, ev_l3, ev_l4, ev_l5, ev_l6, ev_l7, ev_l8, ev_l9, ev_l10, ev_l11, ev_l12, ev_l13, ev_l14, ev_l15, ev_l16, ev_l17, ev_l18, ev_l19, ev_l20, ev_l21, ev_l22, ev_l23, ev_l24, ev_l25, ev_l26, ev_l30, ev_l31, ev_l32, ev_l37, ev_l40, ev_l41, ev_l43, ev_l48, ev_l49, ev_l51, ev_l55, ev_l57, ev_l58, ev_l60, ev_l61, ev_l79, ev_l85, ev_l91, ev_l99, ev_l100, ev_l107, ev_l115, ev_l127, ev_l140, ev_l215, ev_l220, ev_l920, ev_l9999, ev_nT, ev_nF, ev_nlT, ev_nlF, c3, e2, g2, z3, z4, z5, w2]
  · obtain ⟨y, σl2, σm2, g1, g2, ⟨s, g3, g4⟩, g5, g6⟩ := a5_ (t := t) (n := n + 1) (d := d) (kk := 5) x hi (by omega) (by omega) (by omega) (by omega) rfl h hA
    refine ⟨y, σl2, σm2, g1, ?_, ⟨s, by omega, g4⟩, g5, g6⟩
    unfold f_X6_tellsActs
    rw [c3, show f_X6_isUnder (nI 5) 3 = some (nI 0) by decide]
    simp (disch := first | omega | assumption) only [ev_add, ev_mul, ev_rem, ev_sub, ev_ltT, ev_ltF, ev_leT, ev_leF, ev_eqT, ev_eqF, ev_cl, ev_in, gd_t, bd_s, lt_e, ev_of, ↓reduceIte, decide_true, true_or, or_true, ev_l0, ev_l1, ev_l2, ev_l3, ev_l4, ev_l5, ev_l6, ev_l7, ev_l8, ev_l9, ev_l10, ev_l11, ev_l12, ev_l13, ev_l14, ev_l15, ev_l16, ev_l17, ev_l18, ev_l19, ev_l20, ev_l21, ev_l22, ev_l23, ev_l24, ev_l25, ev_l26, ev_l30, ev_l31, ev_l32, ev_l37, ev_l40, ev_l41, ev_l43, ev_l48, ev_l49, ev_l51, ev_l55, ev_l57, ev_l58, ev_l60, ev_l61, ev_l79, ev_l85, ev_l91, ev_l99, ev_l100, ev_l107, ev_l115, ev_l127, ev_l140, ev_l215, ev_l220, ev_l920, ev_l9999, ev_nT, ev_nF, ev_nlT, ev_nlF, c3, g2]
  · obtain ⟨σl1, σm1, e1, e2, e3, e4, e5⟩ := begin_e (t := t) h (by omega) 31
    have hB := ac_k hi hA e4 e5
    obtain ⟨b1, b2, b3, b4, b5⟩ := id hB
    obtain ⟨y, σl2, σm2, g1, g2, ⟨s, g3, g4⟩, g5, g6⟩ := a5_ (t := t) (n := n + 0) (d := d + 1) (kk := 0) (x) hi (by omega) (by omega) (by omega) (by omega) rfl e3 hB
    have hC := ac_k hi hB g5 g6
    obtain ⟨z1, z2, z3, z4, z5⟩ := id hC
    refine ⟨y ^^^ nI 7, σl2, σm2, ?_, ?_, ⟨s, by omega, g4⟩, ak_t e4 g5, am_t e5 g6⟩
    · show fB_X0_run t (f_X0_run t (n + 5)) σl (nI i) (nI 6) (nI 2) x (nI d) = _
      rw [run_e (D := 3) (B := 31) (by rw [dw_e t σl (by omega) (by omega)]; rfl) rfl (by omega) (by omega) (by omega) hi e1 b1 b2, show zs_ABOVE 3 = nI 0 from rfl]
      simp only [ch_, show (nI 31 = (1 : Int32)) = False from eq_false (by decide), show (nI 31 = (2 : Int32)) = False from eq_false (by decide), show (nI 31 = (3 : Int32)) = False from eq_false (by decide), show (nI 31 = (11 : Int32)) = False from eq_false (by decide), show (nI 31 = (21 : Int32)) = False from eq_false (by decide), show (nI 31 = (31 : Int32)) = True from eq_true rfl, ↓reduceIte]
      simp (disch := first | omega | assumption) only [ev_add, ev_mul, ev_rem, ev_sub, ev_ltT, ev_ltF, ev_leT, ev_leF, ev_eqT, ev_eqF, ev_cl, ev_in, gd_t, bd_s, lt_e, ev_of, ↓reduceIte, decide_true, true_or, or_true, ev_l0, ev_l1, ev_l2, ev_l3, ev_l4, ev_l5, ev_l6, ev_l7, ev_l8, ev_l9, ev_l10, ev_l11, ev_l12, ev_l13, ev_l14, ev_l15, ev_l16, ev_l17, ev_l18, ev_l19, ev_l20, ev_l21, ev_l22, ev_l23, ev_l24, ev_l25, ev_l26, ev_l30, ev_l31, ev_l32, ev_l37, ev_l40, ev_l41, ev_l43, ev_l48, ev_l49, ev_l51, ev_l55, ev_l57, ev_l58, ev_l60, ev_l61, ev_l79, ev_l85, ev_l91, ev_l99, ev_l100, ev_l107, ev_l115, ev_l127, ev_l140, ev_l215, ev_l220, ev_l920, ev_l9999, ev_nT, ev_nF, ev_nlT, ev_nlF, g1]
    · unfold f_X6_tellsActs
      rw [c3, show f_X6_isUnder (nI 6) 3 = some (nI 1) by decide]
      simp (disch := first | omega | assumption) only [ev_add, ev_mul, ev_rem, ev_sub, ev_ltT, ev_ltF, ev_leT, ev_leF, ev_eqT, ev_eqF, ev_cl, ev_in, gd_t, bd_s, lt_e, ev_of, ↓reduceIte, decide_true, true_or, or_true, ev_l0, ev_l1, ev_l2, ev_l3, ev_l4, ev_l5, ev_l6, ev_l7, ev_l8, ev_l9, ev_l10, ev_l11, ev_l12, ev_l13, ev_l14, ev_l15, ev_l16, ev_l17, ev_l18, ev_l19, ev_l20, ev_l21, ev_l22, ev_l23, ev_l24, ev_l25, ev_l26, ev_l30, ev_l31, ev_l32, ev_l37, ev_l40, ev_l41, ev_l43, ev_l48, ev_l49, ev_l51, ev_l55, ev_l57, ev_l58, ev_l60, ev_l61, ev_l79, ev_l85, ev_l91, ev_l99, ev_l100, ev_l107, ev_l115, ev_l127, ev_l140, ev_l215, ev_l220, ev_l920, ev_l9999, ev_nT, ev_nF, ev_nlT, ev_nlF, c3, e2, g2, z3, z4, z5]
theorem RR_act {t : jx_T} {σl σm σl2 σm2 : jx_M} (h : RR t σl σm) (hl : ∀ b, ¬ b = 0 → ¬ b = 60 → σl2 b = σl b) (h0 : ∀ i, ¬ i = 21 → σl2 0 i = σl 0 i) (hm : ∀ b, ¬ b = 0 → ¬ b = 9 → σm2 b = σm b) (h3 : σm2 0 3 = σm 0 3) (ht : rr_t σl2 σm2) : RR t σl2 σm2 := by
  obtain ⟨⟨S, F, hc, hmm, hw, hb, htc, htm⟩, hi, -, hst⟩ := h
  have e1 : σm2 1 = σm 1 := hm 1 (by omega) (by omega)
  refine ⟨⟨S, F, rn_c_congr hc (fun i hi => h0 i (by omega)) (fun j h1 h2 => hl j (by omega) (by omega)), ?_, hw, hb, htc, ?_⟩, ?_, ht, (h0 20 (by omega)).trans hst⟩
  · rw [e1]; exact hmm
  · rw [e1]; exact htm
  · rcases hi with ⟨g1, g2⟩ | ⟨g1, g2, S', F', g3⟩
    · exact Or.inl ⟨(h0 40 (by omega)).trans g1, h3.trans g2⟩
    · refine Or.inr ⟨(h0 40 (by omega)).trans g1, h3.trans g2, S', F', ?_⟩
      rw [hm 2 (by omega) (by omega)]
      exact ⟨rn_c_congr g3.1 (fun i hi => h0 _ (by omega)) (fun j h1 h2 => hl _ (by omega) (by omega)), g3.2⟩
theorem op_act : lw_op_act RR := by
  intro t σl σm a0 a1 x hR
  obtain ⟨S, F, hl, hm, hw, h20⟩ := RR_o hR
  have n6 : σl 0 0 = nI (S 6) := hl.1.1.1
  have n7 : σl 0 1 = nI (S 7) := hl.1.1.2.1
  have n0 : σl 0 2 = nI (S 0) := hl.1.1.2.2.1
  have m0 : σm 1 0 = nI (S 0) := hm.1.1 0 (by omega) (by omega) (by omega)
  have m6 : σm 1 6 = nI (S 6) := hm.1.1 6 (by omega) (by omega) (by omega)
  have m7 : σm 1 7 = nI (S 7) := hm.1.1 7 (by omega) (by omega) (by omega)
  have bw := hw.1.2.1
  have b7 := hw.1.1 7
  unfold f_X5_act f_X6_act f_X0_forget f_X0_answer
  have t0 : tr_ 0 (jx_mu σl 0 21 (nI 0)) (jx_mu σm 0 22 (nI 0)) := ⟨mu_s, mu_s, fun i _ h => absurd h (by omega)⟩
  have nul : RR t (jx_mu σl 0 21 (nI 0)) (jx_mu σm 0 22 (nI 0)) := by
    refine RR_act hR (fun b h1 h2 => mu_a h1) (fun i hi => mu_n hi) (fun b h1 h2 => mu_a h1) (mu_n (by omega)) ?_
    exact ⟨0, by omega, mu_s, mu_s, fun i _ h => absurd h (by omega)⟩
  have n0' : (jx_mu σl 0 21 (nI 0)) 0 2 = nI (S 0) := by rw [mu_n (by omega)]; exact n0
  have m0' : (jx_mu σm 0 22 (nI 0)) 1 0 = nI (S 0) := by rw [mu_a (by omega)]; exact m0
  rcases ix_p a0 (S 0) (by omega) with h | ⟨i, hi, rfl⟩
  · simp (disch := first | omega | assumption) only [ev_add, ev_mul, ev_rem, ev_sub, ev_ltT, ev_ltF, ev_leT, ev_leF, ev_eqT, ev_eqF, ev_cl, ev_in, gd_t, bd_s, lt_e, ev_of, ↓reduceIte, decide_true, true_or, or_true, ev_l0, ev_l1, ev_l2, ev_l3, ev_l4, ev_l5, ev_l6, ev_l7, ev_l8, ev_l9, ev_l10, ev_l11, ev_l12, ev_l13, ev_l14, ev_l15, ev_l16, ev_l17, ev_l18, ev_l19, ev_l20, ev_l21, ev_l22, ev_l23, ev_l24, ev_l25, ev_l26, ev_l30, ev_l31, ev_l32, ev_l37, ev_l40, ev_l41, ev_l43, ev_l48, ev_l49, ev_l51, ev_l55, ev_l57, ev_l58, ev_l60, ev_l61, ev_l79, ev_l85, ev_l91, ev_l99, ev_l100, ev_l107, ev_l115, ev_l127, ev_l140, ev_l215, ev_l220, ev_l920, ev_l9999, ev_nT, ev_nF, ev_nlT, ev_nlF, hv_f n0' h, iv_f m0' (by omega) h]
    exact ⟨_, _, _, rfl, rfl, nul⟩
  · rcases ix_p a1 3 (by omega) with h | ⟨k, hk, rfl⟩
    · simp (disch := first | omega | assumption) only [ev_add, ev_mul, ev_rem, ev_sub, ev_ltT, ev_ltF, ev_leT, ev_leF, ev_eqT, ev_eqF, ev_cl, ev_in, gd_t, bd_s, lt_e, ev_of, ↓reduceIte, decide_true, true_or, or_true, ev_l0, ev_l1, ev_l2, ev_l3, ev_l4, ev_l5, ev_l6, ev_l7, ev_l8, ev_l9, ev_l10, ev_l11, ev_l12, ev_l13, ev_l14, ev_l15, ev_l16, ev_l17, ev_l18, ev_l19, ev_l20, ev_l21, ev_l22, ev_l23, ev_l24, ev_l25, ev_l26, ev_l30, ev_l31, ev_l32, ev_l37, ev_l40, ev_l41, ev_l43, ev_l48, ev_l49, ev_l51, ev_l55, ev_l57, ev_l58, ev_l60, ev_l61, ev_l79, ev_l85, ev_l91, ev_l99, ev_l100, ev_l107, ev_l115, ev_l127, ev_l140, ev_l215, ev_l220, ev_l920, ev_l9999, ev_nT, ev_nF, ev_nlT, ev_nlF, wi_e, hv_t n0' hi (by omega), iv_t m0' hi (by omega), show f_X6_in a1 (nI 0) (nI 2) = _ from in_f (n := 3) h (by omega) (by omega)]
      exact ⟨_, _, _, rfl, rfl, nul⟩
    · have c := (hl.1.2.2.1 i (by omega)).1
      have b := hw.1.2.2.2.1 i hi
      have d0 := hm.1.1 (31 + i) (by omega) (by omega) (by omega)
      have d1 := hm.1.1 (37 + i) (by omega) (by omega) (by omega)
      have A : ac_ i (S (31 + i)) (S (37 + i)) (jx_mu σl 0 21 (nI 0)) (jx_mu (jx_mu (jx_mu (jx_mu σm 0 22 (nI 0)) 0 23 (nI (S (31 + i)))) 0 24 (nI i)) 0 25 (nI (S (37 + i)))) := by
        refine ⟨?_, ?_, ?_, ?_, mu_s⟩
        · rw [mu_a (by omega)]; exact c.1
        · rw [mu_a (by omega)]; exact c.2.1
        · rw [mu_n (by omega), mu_n (by omega), mu_s]
        · rw [mu_n (by omega), mu_s]
      have T : tr_ 0 (jx_mu σl 0 21 (nI 0)) (jx_mu (jx_mu (jx_mu (jx_mu σm 0 22 (nI 0)) 0 23 (nI (S (31 + i)))) 0 24 (nI i)) 0 25 (nI (S (37 + i)))) := by
        refine ⟨mu_s, ?_, fun i _ h => absurd h (by omega)⟩
        rw [mu_n (by omega), mu_n (by omega), mu_n (by omega), mu_s]
      have fin : ∀ q f g, q ≤ 8 → ar_ 0 q (jx_mu σl 0 21 (nI 0)) (jx_mu (jx_mu (jx_mu (jx_mu σm 0 22 (nI 0)) 0 23 (nI (S (31 + i)))) 0 24 (nI i)) 0 25 (nI (S (37 + i)))) f g → ∃ y σl2 σm2, f = some (y, σl2) ∧ g = some (y, σm2) ∧ RR t σl2 σm2 := by
        intro q f g hq ⟨y, σl2, σm2, g1, g2, ⟨s, g3, g4⟩, g5, g6⟩
        refine ⟨y, σl2, σm2, g1, g2, RR_act hR (fun b h1 h2 => ?_) (fun i hi => ?_) (fun b h1 h2 => ?_) ?_ ⟨s, by omega, g4.1, g4.2.1, g4.2.2⟩⟩
        · rw [g5.1 b h1 h2, mu_a h1]
        · rw [g5.2 i hi, mu_n hi]
        · rw [g6.1 b h1 h2]; simp only [mu_a h1]
        · rw [g6.2 3 (by omega)]; simp (disch := omega) only [mu_n]
      have hk' : k = 0 ∨ k = 1 ∨ k = 2 := by omega
      rcases hk' with rfl | rfl | rfl
      · obtain ⟨y, σl2, σm2, g1, g2, g3⟩ := fin _ _ _ (by omega) (a2_ (t := t) (n := 23) (d := 0) x (show i < 6 by omega) (by omega) (by omega) (show S (31 + i) < 7 by omega) T A)
        simp (disch := first | omega | assumption) only [ev_add, ev_mul, ev_rem, ev_sub, ev_ltT, ev_ltF, ev_leT, ev_leF, ev_eqT, ev_eqF, ev_cl, ev_in, gd_t, bd_s, lt_e, ev_of, ↓reduceIte, decide_true, true_or, or_true, ev_l0, ev_l1, ev_l2, ev_l3, ev_l4, ev_l5, ev_l6, ev_l7, ev_l8, ev_l9, ev_l10, ev_l11, ev_l12, ev_l13, ev_l14, ev_l15, ev_l16, ev_l17, ev_l18, ev_l19, ev_l20, ev_l21, ev_l22, ev_l23, ev_l24, ev_l25, ev_l26, ev_l30, ev_l31, ev_l32, ev_l37, ev_l40, ev_l41, ev_l43, ev_l48, ev_l49, ev_l51, ev_l55, ev_l57, ev_l58, ev_l60, ev_l61, ev_l79, ev_l85, ev_l91, ev_l99, ev_l100, ev_l107, ev_l115, ev_l127, ev_l140, ev_l215, ev_l220, ev_l920, ev_l9999, ev_nT, ev_nF, ev_nlT, ev_nlF, wi_e, hv_t n0' hi (by omega), iv_t m0' hi (by omega), show f_X6_in (nI 0) (nI 0) (nI 2) = _ from in_t (n := 3) (by omega) (by omega), ll8, mu_a, mu_n, c.1, d0, d1, show f_X0_run t 25 (jx_mu σl 0 21 (nI 0)) (nI i) (nI (S (31 + i))) (nI 0) x (nI 0) = _ from g1, g2]
        exact ⟨_, _, _, rfl, rfl, g3⟩
      · obtain ⟨y, σl2, σm2, g1, g2, g3⟩ := fin _ _ _ (by omega) (a4_ (t := t) (n := 21) (d := 0) x (show i < 6 by omega) (by omega) (by omega) (show S (31 + i) < 7 by omega) T A)
        simp (disch := first | omega | assumption) only [ev_add, ev_mul, ev_rem, ev_sub, ev_ltT, ev_ltF, ev_leT, ev_leF, ev_eqT, ev_eqF, ev_cl, ev_in, gd_t, bd_s, lt_e, ev_of, ↓reduceIte, decide_true, true_or, or_true, ev_l0, ev_l1, ev_l2, ev_l3, ev_l4, ev_l5, ev_l6, ev_l7, ev_l8, ev_l9, ev_l10, ev_l11, ev_l12, ev_l13, ev_l14, ev_l15, ev_l16, ev_l17, ev_l18, ev_l19, ev_l20, ev_l21, ev_l22, ev_l23, ev_l24, ev_l25, ev_l26, ev_l30, ev_l31, ev_l32, ev_l37, ev_l40, ev_l41, ev_l43, ev_l48, ev_l49, ev_l51, ev_l55, ev_l57, ev_l58, ev_l60, ev_l61, ev_l79, ev_l85, ev_l91, ev_l99, ev_l100, ev_l107, ev_l115, ev_l127, ev_l140, ev_l215, ev_l220, ev_l920, ev_l9999, ev_nT, ev_nF, ev_nlT, ev_nlF, wi_e, hv_t n0' hi (by omega), iv_t m0' hi (by omega), show f_X6_in (nI 1) (nI 0) (nI 2) = _ from in_t (n := 3) (by omega) (by omega), ll8, mu_a, mu_n, c.1, d0, d1, show f_X0_run t 25 (jx_mu σl 0 21 (nI 0)) (nI i) (nI (S (31 + i))) (nI 1) x (nI 0) = _ from g1, g2]
        exact ⟨_, _, _, rfl, rfl, g3⟩
      · obtain ⟨y, σl2, σm2, g1, g2, g3⟩ := fin _ _ _ (by omega) (a6_ (t := t) (n := 19) (d := 0) x (show i < 6 by omega) (by omega) (by omega) (show S (31 + i) < 7 by omega) T A)
        simp (disch := first | omega | assumption) only [ev_add, ev_mul, ev_rem, ev_sub, ev_ltT, ev_ltF, ev_leT, ev_leF, ev_eqT, ev_eqF, ev_cl, ev_in, gd_t, bd_s, lt_e, ev_of, ↓reduceIte, decide_true, true_or, or_true, ev_l0, ev_l1, ev_l2, ev_l3, ev_l4, ev_l5, ev_l6, ev_l7, ev_l8, ev_l9, ev_l10, ev_l11, ev_l12, ev_l13, ev_l14, ev_l15, ev_l16, ev_l17, ev_l18, ev_l19, ev_l20, ev_l21, ev_l22, ev_l23, ev_l24, ev_l25, ev_l26, ev_l30, ev_l31, ev_l32, ev_l37, ev_l40, ev_l41, ev_l43, ev_l48, ev_l49, ev_l51, ev_l55, ev_l57, ev_l58, ev_l60, ev_l61, ev_l79, ev_l85, ev_l91, ev_l99, ev_l100, ev_l107, ev_l115, ev_l127, ev_l140, ev_l215, ev_l220, ev_l920, ev_l9999, ev_nT, ev_nF, ev_nlT, ev_nlF, wi_e, hv_t n0' hi (by omega), iv_t m0' hi (by omega), show f_X6_in (nI 2) (nI 0) (nI 2) = _ from in_t (n := 3) (by omega) (by omega), ll8, mu_a, mu_n, c.1, d0, d1, show f_X0_run t 25 (jx_mu σl 0 21 (nI 0)) (nI i) (nI (S (31 + i))) (nI 2) x (nI 0) = _ from g1, g2]
        exact ⟨_, _, _, rfl, rfl, g3⟩
