/-! reading: the reference -/
def MD (a N : Nat) (σ : jx_M) (i o e : Nat) : Prop := σ 0 4 = nI a ∧ σ 0 5 = nI i ∧ σ 0 6 = nI N ∧ σ 0 7 = nI 0 ∧ σ 0 8 = nI o ∧ σ 1 (215 + a) = nI e
def MW (σ : jx_M) (j : Nat) : Prop := σ 0 7 = nI 1 ∧ σ 0 5 = nI j
def tm_ (N : Nat) (tp : Nat → Nat) (σ : jx_M) : Prop := N ≤ 100 ∧ ∀ k, k < N → σ 1 (115 + k) = nI (tp k) ∧ tp k ≤ 127
def KM (a e : Nat) (σ σ' : jx_M) : Prop := (∀ b, ¬ b = 0 → ¬ b = 1 → σ' b = σ b) ∧ (∀ i, ¬ i = 5 → ¬ i = 7 → ¬ i = 8 → σ' 0 i = σ 0 i) ∧ ∀ k, ¬ k = 215 + a → ¬ (220 + 140 * a + e ≤ k ∧ k < 220 + 140 * a + 140) → σ' 1 k = σ 1 k
theorem KM_t {a e e' : Nat} {x y z : jx_M} (h : KM a e x y) (g : KM a e' y z) (he : e ≤ e') : KM a e x z :=
  ⟨fun b h0 h1 => (g.1 b h0 h1).trans (h.1 b h0 h1), fun i h1 h2 h3 => (g.2.1 i h1 h2 h3).trans (h.2.1 i h1 h2 h3), fun k h1 h2 => (g.2.2 k h1 (by omega)).trans (h.2.2 k h1 h2)⟩
theorem KM_r (a e : Nat) (x : jx_M) : KM a e x x := ⟨fun _ _ _ => rfl, fun _ _ _ _ => rfl, fun _ _ _ => rfl⟩
theorem KM_0 {a e i : Nat} {σ : jx_M} {x : Int32} (hi : i = 5 ∨ i = 7 ∨ i = 8) : KM a e σ (jx_mu σ 0 i x) :=
  ⟨fun b h0 _ => mu_a h0, fun j h1 h2 h3 => mu_n (by omega), fun k _ _ => by rw [mu_a (by omega)]⟩
theorem tm_k {N a e : Nat} {tp : Nat → Nat} {σ σ' : jx_M} (h : tm_ N tp σ) (k : KM a e σ σ') : tm_ N tp σ' := by
  have hN := h.1
  refine ⟨h.1, fun j hj => ⟨?_, (h.2 j hj).2⟩⟩
  rw [k.2.2 (115 + j) (by omega) (by omega)]
  exact (h.2 j hj).1
def hv_ (N : Nat) (tp : Nat → Nat) (i : Nat) : Int32 := if i < N then nI (tp i) else -1
theorem here_e {N i : Nat} {tp : Nat → Nat} {σ : jx_M} (ht : tm_ N tp σ) (h5 : σ 0 5 = nI i) (h6 : σ 0 6 = nI N) (hi : i ≤ N) : f_X6_here σ = some (hv_ N tp i) := by
  have hN := ht.1
  unfold f_X6_here hv_
  by_cases g : i < N
  · rw [h5, h6, if_neg (nI_ge g (by omega)), if_pos g, show (115 : Int32) + nI i = nI (115 + i) from nI_add 115 i, ev_in (show 115 + i < 920 by omega) (by omega), gd_t, nI_clamp (show 115 + i < 2 ^ 31 by omega), (ht.2 i g).1]
  · rw [h5, h6, if_pos (nI_le (by omega) (by omega)), if_neg g]
theorem hv_i {N i x : Nat} {tp : Nat → Nat} (h : ∀ k, k < N → tp k ≤ 127) (hx : x < 2 ^ 31) : hv_ N tp i = nI x ↔ (i < N ∧ tp i = x) := by
  unfold hv_
  by_cases g : i < N
  · rw [if_pos g]
    have := h i g
    exact ⟨fun e => ⟨g, (nI_eq (by omega) hx).mp e⟩, fun e => by rw [e.2]⟩
  · rw [if_neg g]
    exact ⟨fun e => absurd (show nI x < 0 by rw [← e]; decide) (nI_pos hx), fun e => absurd e.1 g⟩
theorem hv_in {N i : Nat} {tp : Nat → Nat} (h : ∀ k, k < N → tp k ≤ 127) : f_X6_in (hv_ N tp i) (48 : Int32) (57 : Int32) = some (nI (if i < N ∧ 48 ≤ tp i ∧ tp i ≤ 57 then 1 else 0)) := by
  unfold f_X6_in hv_
  by_cases g : i < N
  · have := h i g
    rw [if_pos g]
    by_cases g1 : tp i < 48
    · rw [if_pos (show nI (tp i) < (48 : Int32) from nI_lt (b := 48) g1 (by omega)), if_neg (by omega)]; rfl
    · rw [if_neg (show ¬ nI (tp i) < (48 : Int32) from nI_nlt (b := 48) (by omega) (by omega))]
      by_cases g2 : 57 < tp i
      · rw [if_pos (show (57 : Int32) < nI (tp i) from nI_lt (a := 57) g2 (by omega)), if_neg (by omega)]; rfl
      · rw [if_neg (show ¬ (57 : Int32) < nI (tp i) from nI_nlt (a := 57) (by omega) (by omega)), if_pos (by omega)]; rfl
  · rw [if_neg g, if_pos (show (-1 : Int32) < 48 by decide), if_neg (fun z => g z.1)]; rfl
theorem MD_5 {a N i j o e : Nat} {σ : jx_M} (h : MD a N σ i o e) : MD a N (jx_mu σ 0 5 (nI j)) j o e := by
  obtain ⟨h1, h2, h3, h4, h5, h6⟩ := h
  refine ⟨?_, mu_s, ?_, ?_, ?_, ?_⟩
  · rw [mu_n (by omega)]; exact h1
  · rw [mu_n (by omega)]; exact h3
  · rw [mu_n (by omega)]; exact h4
  · rw [mu_n (by omega)]; exact h5
  · rw [mu_a (by omega)]; exact h6
theorem MD_7 {a N i o e : Nat} {σ : jx_M} (h : MD a N σ i o e) : MD a N (jx_mu σ 0 7 (nI 0)) i o e := by
  obtain ⟨h1, h2, h3, h4, h5, h6⟩ := h
  refine ⟨?_, ?_, ?_, mu_s, ?_, ?_⟩
  · rw [mu_n (by omega)]; exact h1
  · rw [mu_n (by omega)]; exact h2
  · rw [mu_n (by omega)]; exact h3
  · rw [mu_n (by omega)]; exact h5
  · rw [mu_a (by omega)]; exact h6
theorem MD_8 {a N i o o' e : Nat} {σ : jx_M} (h : MD a N σ i o e) : MD a N (jx_mu σ 0 8 (nI o')) i o' e := by
  obtain ⟨h1, h2, h3, h4, h5, h6⟩ := h
  refine ⟨?_, ?_, ?_, ?_, mu_s, ?_⟩
  · rw [mu_n (by omega)]; exact h1
  · rw [mu_n (by omega)]; exact h2
  · rw [mu_n (by omega)]; exact h3
  · rw [mu_n (by omega)]; exact h4
  · rw [mu_a (by omega)]; exact h6
theorem em_y {a N i o e : Nat} {σ : jx_M} (h : MD a N σ i o e) (ha : a < 5) (he : e < 140) (x : Int32) : ∃ σ', f_X6_emits σ x = some σ' ∧ MD a N σ' i o (e + 1) ∧ σ' 1 (220 + 140 * a + e) = x ∧ KM a e σ σ' := by
  obtain ⟨h1, h2, h3, h4, h5, h6⟩ := h
  refine ⟨jx_mu (jx_mu σ 1 (220 + 140 * a + e) x) 1 (215 + a) (nI (e + 1)), ?_, ⟨?_, ?_, ?_, ?_, ?_, mu_s⟩, ?_, fun b b0 b1 => ?_, fun i i1 i2 i3 => ?_, fun k k1 k2 => ?_⟩
  · unfold f_X6_emits
    simp (disch := first | omega | assumption) only [ev_add, ev_mul, ev_rem, ev_sub, ev_ltT, ev_ltF, ev_leT, ev_leF, ev_eqT, ev_eqF, ev_cl, ev_in, gd_t, bd_s, lt_e, ev_of, ↓reduceIte, decide_true, true_or, or_true, ev_l0, ev_l1, ev_l2, ev_l3, ev_l4, ev_l5, ev_l6, ev_l7, ev_l8, ev_l9, ev_l10, ev_l11, ev_l12, ev_l13, ev_l14, ev_l15, ev_l16, ev_l17, ev_l18, ev_l19, ev_l20, ev_l21, ev_l22, ev_l23, ev_l24, ev_l25, ev_l26, ev_l30, ev_l31, ev_l32, ev_l37, ev_l40, ev_l41, ev_l43, ev_l48, ev_l49, ev_l51, ev_l55, ev_l57, ev_l58, ev_l60, ev_l61, ev_l79, ev_l85, ev_l91, ev_l99, ev_l100, ev_l107, ev_l115, ev_l127, ev_l140, ev_l215, ev_l220, ev_l920, ev_l9999, ev_nT, ev_nF, ev_nlT, ev_nlF, h1, h4, h6, mu_a, mu_n]
  · simp (disch := omega) only [mu_a]; exact h1
  · simp (disch := omega) only [mu_a]; exact h2
  · simp (disch := omega) only [mu_a]; exact h3
  · simp (disch := omega) only [mu_a]; exact h4
  · simp (disch := omega) only [mu_a]; exact h5
  · rw [mu_n (by omega), mu_s]
  · simp (disch := omega) only [mu_a]
  · simp (disch := omega) only [mu_a]
  · rw [mu_n (by omega), mu_n (by omega)]
theorem em_w {j : Nat} {σ : jx_M} (h : MW σ j) (x : Int32) : f_X6_emits σ x = some σ := by
  unfold f_X6_emits
  rw [h.1, if_neg (by decide)]
theorem mu_y {a N i o e x : Nat} {tp : Nat → Nat} {σ : jx_M} (ht : tm_ N tp σ) (h : MD a N σ i o e) (hi : i < N) (hx : tp i = x) : ∃ σ', f_X6_must σ (nI x) = some σ' ∧ MD a N σ' (i + 1) o e ∧ KM a e σ σ' := by
  have hN := ht.1
  have hh := here_e ht h.2.1 h.2.2.1 (by omega)
  have b := (ht.2 i hi).2
  rw [show hv_ N tp i = nI x from by unfold hv_; rw [if_pos hi, hx]] at hh
  refine ⟨_, ?_, MD_5 (j := i + 1) (MD_7 h), KM_t (KM_0 (by omega)) (KM_0 (by omega)) (Nat.le_refl e)⟩
  unfold f_X6_must b_X6_must_21 b_X6_must_41
  have h5 : jx_mu σ 0 7 (nI 0) 0 5 = nI i := by rw [mu_n (by omega)]; exact h.2.1
  simp (disch := first | omega | assumption) only [ev_add, ev_mul, ev_rem, ev_sub, ev_ltT, ev_ltF, ev_leT, ev_leF, ev_eqT, ev_eqF, ev_cl, ev_in, gd_t, bd_s, lt_e, ev_of, ↓reduceIte, decide_true, true_or, or_true, ev_l0, ev_l1, ev_l2, ev_l3, ev_l4, ev_l5, ev_l6, ev_l7, ev_l8, ev_l9, ev_l10, ev_l11, ev_l12, ev_l13, ev_l14, ev_l15, ev_l16, ev_l17, ev_l18, ev_l19, ev_l20, ev_l21, ev_l22, ev_l23, ev_l24, ev_l25, ev_l26, ev_l30, ev_l31, ev_l32, ev_l37, ev_l40, ev_l41, ev_l43, ev_l48, ev_l49, ev_l51, ev_l55, ev_l57, ev_l58, ev_l60, ev_l61, ev_l79, ev_l85, ev_l91, ev_l99, ev_l100, ev_l107, ev_l115, ev_l127, ev_l140, ev_l215, ev_l220, ev_l920, ev_l9999, ev_nT, ev_nF, ev_nlT, ev_nlF, h.2.2.2.1, hh, mu_s, h5]
theorem mu_no {a N i o e x : Nat} {tp : Nat → Nat} {σ : jx_M} (ht : tm_ N tp σ) (h : MD a N σ i o e) (hi : i ≤ N) (hx : x < 2 ^ 31) (hn : ¬ (i < N ∧ tp i = x)) : ∃ σ', f_X6_must σ (nI x) = some σ' ∧ MW σ' i ∧ KM a e σ σ' := by
  have hN := ht.1
  have hh := here_e ht h.2.1 h.2.2.1 hi
  have hq : (hv_ N tp i = nI x) = False := eq_false (fun z => hn ((hv_i (fun k hk => (ht.2 k hk).2) hx).mp z))
  refine ⟨jx_mu (jx_mu σ 0 7 (nI 1)) 0 5 (nI i), ?_, ⟨by rw [mu_n (by omega), mu_s], mu_s⟩, KM_t (KM_0 (by omega)) (KM_0 (by omega)) (Nat.le_refl e)⟩
  unfold f_X6_must b_X6_must_16 b_X6_must_21 b_X6_must_41
  have h5 : jx_mu σ 0 7 (nI 1) 0 5 = nI i := by rw [mu_n (by omega)]; exact h.2.1
  simp (disch := first | omega | assumption) only [ev_add, ev_mul, ev_rem, ev_sub, ev_ltT, ev_ltF, ev_leT, ev_leF, ev_eqT, ev_eqF, ev_cl, ev_in, gd_t, bd_s, lt_e, ev_of, ↓reduceIte, decide_true, true_or, or_true, ev_l0, ev_l1, ev_l2, ev_l3, ev_l4, ev_l5, ev_l6, ev_l7, ev_l8, ev_l9, ev_l10, ev_l11, ev_l12, ev_l13, ev_l14, ev_l15, ev_l16, ev_l17, ev_l18, ev_l19, ev_l20, ev_l21, ev_l22, ev_l23, ev_l24, ev_l25, ev_l26, ev_l30, ev_l31, ev_l32, ev_l37, ev_l40, ev_l41, ev_l43, ev_l48, ev_l49, ev_l51, ev_l55, ev_l57, ev_l58, ev_l60, ev_l61, ev_l79, ev_l85, ev_l91, ev_l99, ev_l100, ev_l107, ev_l115, ev_l127, ev_l140, ev_l215, ev_l220, ev_l920, ev_l9999, ev_nT, ev_nF, ev_nlT, ev_nlF, h.2.2.2.1, hh, hq, mu_s, h5, Nat.add_zero]
theorem mu_ww {a e j : Nat} {σ : jx_M} (h : MW σ j) (x : Int32) : ∃ σ', f_X6_must σ x = some σ' ∧ MW σ' j ∧ KM a e σ σ' := by
  refine ⟨jx_mu (jx_mu σ 0 7 (nI 1)) 0 5 (nI j), ?_, ⟨by rw [mu_n (by omega), mu_s], mu_s⟩, KM_t (KM_0 (by omega)) (KM_0 (by omega)) (Nat.le_refl e)⟩
  unfold f_X6_must b_X6_must_16 b_X6_must_21 b_X6_must_41
  have h5 : jx_mu σ 0 7 (nI 1) 0 5 = nI j := by rw [mu_n (by omega)]; exact h.2
  simp (disch := first | omega | assumption) only [ev_add, ev_mul, ev_rem, ev_sub, ev_ltT, ev_ltF, ev_leT, ev_leF, ev_eqT, ev_eqF, ev_cl, ev_in, gd_t, bd_s, lt_e, ev_of, ↓reduceIte, decide_true, true_or, or_true, ev_l0, ev_l1, ev_l2, ev_l3, ev_l4, ev_l5, ev_l6, ev_l7, ev_l8, ev_l9, ev_l10, ev_l11, ev_l12, ev_l13, ev_l14, ev_l15, ev_l16, ev_l17, ev_l18, ev_l19, ev_l20, ev_l21, ev_l22, ev_l23, ev_l24, ev_l25, ev_l26, ev_l30, ev_l31, ev_l32, ev_l37, ev_l40, ev_l41, ev_l43, ev_l48, ev_l49, ev_l51, ev_l55, ev_l57, ev_l58, ev_l60, ev_l61, ev_l79, ev_l85, ev_l91, ev_l99, ev_l100, ev_l107, ev_l115, ev_l127, ev_l140, ev_l215, ev_l220, ev_l920, ev_l9999, ev_nT, ev_nF, ev_nlT, ev_nlF, h.1, mu_s, h5, Nat.add_zero]
/-! letters -/
theorem ca1 : ∀ k, k < 4 → f_J0_charAt_5068e 1 (nI k) = some (nI ([112, 113, 109, 119].getD k 0)) := by decide +kernel
theorem ca2 : ∀ k, k < 3 → f_J0_charAt_5068e 2 (nI k) = some (nI ([60, 61, 62].getD k 0)) := by decide +kernel
theorem sl_ : ∀ k, k < 7 → f_J0_length_8abf5 k = some (nI ([20, 4, 3, 5, 5, 4, 6].getD k 0)) := by decide +kernel
theorem am_st {σ : jx_M} {H : Int32} (h : f_X6_here σ = some H) {v L k c : Nat} (hl : f_J0_length_8abf5 v = some (nI L)) (hc : f_J0_charAt_5068e v (nI k) = some (nI c)) (hv : v < 7) (hk : k < L) (hL : L < 100) (n : Nat) : b_X6_among_2 (n + 1) σ v (nI k) = (if H = nI c then some (nI k, jx_mu σ 0 5 (σ 0 5 + nI 1)) else b_X6_among_2 n σ v (nI (k + 1))) := by
  show g_X6_among_2 (b_X6_among_2 n) σ v (nI k) = _
  unfold g_X6_among_2
  rw [hl, bd_s, decide_eq_true hv, gd_t, if_neg (nI_ge hk (by omega)), h, bd_s, hc, bd_s, gd_t, lt_e, lt_e, show nI k + (1 : Int32) = nI (k + 1) from nI_1 k]
  rfl
theorem am_en {σ : jx_M} {v L : Nat} (hl : f_J0_length_8abf5 v = some (nI L)) (hv : v < 7) (n : Nat) : b_X6_among_2 (n + 1) σ v (nI L) = some (-nI 1, σ) := by
  show g_X6_among_2 (b_X6_among_2 n) σ v (nI L) = _
  unfold g_X6_among_2
  rw [hl, bd_s, decide_eq_true hv, gd_t, if_pos (Int32.le_refl _)]
  rfl
theorem am_1 {σ : jx_M} {H : Int32} (h : f_X6_here σ = some H) : f_X6_among σ 1 = (if H = nI 112 then some (nI 0, jx_mu σ 0 5 (σ 0 5 + nI 1)) else if H = nI 113 then some (nI 1, jx_mu σ 0 5 (σ 0 5 + nI 1)) else if H = nI 109 then some (nI 2, jx_mu σ 0 5 (σ 0 5 + nI 1)) else if H = nI 119 then some (nI 3, jx_mu σ 0 5 (σ 0 5 + nI 1)) else some (-nI 1, σ)) := by
  unfold f_X6_among
  rw [show b_X6_among_2 jx_fuel σ 1 (0 : Int32) = _ from am_st h (sl_ 1 (by omega)) (ca1 0 (by omega)) (by omega) (show 0 < 4 by omega) (by decide) 999]
  rw [show b_X6_among_2 999 σ 1 (nI (0 + 1)) = _ from am_st h (sl_ 1 (by omega)) (ca1 1 (by omega)) (by omega) (show 1 < 4 by omega) (by decide) 998]
  rw [show b_X6_among_2 998 σ 1 (nI (1 + 1)) = _ from am_st h (sl_ 1 (by omega)) (ca1 2 (by omega)) (by omega) (show 2 < 4 by omega) (by decide) 997]
  rw [show b_X6_among_2 997 σ 1 (nI (2 + 1)) = _ from am_st h (sl_ 1 (by omega)) (ca1 3 (by omega)) (by omega) (show 3 < 4 by omega) (by decide) 996]
  rw [show b_X6_among_2 996 σ 1 (nI (3 + 1)) = _ from am_en (sl_ 1 (by omega)) (by omega) 995]
  rfl
theorem am_2 {σ : jx_M} {H : Int32} (h : f_X6_here σ = some H) : f_X6_among σ 2 = (if H = nI 60 then some (nI 0, jx_mu σ 0 5 (σ 0 5 + nI 1)) else if H = nI 61 then some (nI 1, jx_mu σ 0 5 (σ 0 5 + nI 1)) else if H = nI 62 then some (nI 2, jx_mu σ 0 5 (σ 0 5 + nI 1)) else some (-nI 1, σ)) := by
  unfold f_X6_among
  rw [show b_X6_among_2 jx_fuel σ 2 (0 : Int32) = _ from am_st h (sl_ 2 (by omega)) (ca2 0 (by omega)) (by omega) (show 0 < 3 by omega) (by decide) 999]
  rw [show b_X6_among_2 999 σ 2 (nI (0 + 1)) = _ from am_st h (sl_ 2 (by omega)) (ca2 1 (by omega)) (by omega) (show 1 < 3 by omega) (by decide) 998]
  rw [show b_X6_among_2 998 σ 2 (nI (1 + 1)) = _ from am_st h (sl_ 2 (by omega)) (ca2 2 (by omega)) (by omega) (show 2 < 3 by omega) (by decide) 997]
  rw [show b_X6_among_2 997 σ 2 (nI (2 + 1)) = _ from am_en (sl_ 2 (by omega)) (by omega) 996]
  rfl
theorem as_y {a N i o e : Nat} {tp : Nat → Nat} {σ : jx_M} (ht : tm_ N tp σ) (h : MD a N σ i o e) (hi : i < N) (hx : sx_ (tp i) < 4) : ∃ σ', f_X6_among σ 1 = some (nI (sx_ (tp i)), σ') ∧ MD a N σ' (i + 1) o e ∧ KM a e σ σ' := by
  have hN := ht.1
  have hh := here_e ht h.2.1 h.2.2.1 (by omega)
  have b := (ht.2 i hi).2
  rw [show hv_ N tp i = nI (tp i) from if_pos hi] at hh
  refine ⟨jx_mu σ 0 5 (nI (i + 1)), ?_, MD_5 (j := i + 1) h, KM_0 (by omega)⟩
  rw [am_1 hh, h.2.1, nI_add]
  unfold sx_ at hx ⊢
  by_cases e1 : tp i = 112
  · rw [if_pos e1, if_pos (by rw [e1])]
  · rw [if_neg e1] at hx
    rw [if_neg e1, if_neg (fun z => e1 ((nI_eq (by omega) (by omega)).mp z))]
    by_cases e2 : tp i = 113
    · rw [if_pos e2, if_pos (by rw [e2])]
    · rw [if_neg e2] at hx
      rw [if_neg e2, if_neg (fun z => e2 ((nI_eq (by omega) (by omega)).mp z))]
      by_cases e3 : tp i = 109
      · rw [if_pos e3, if_pos (by rw [e3])]
      · rw [if_neg e3] at hx
        rw [if_neg e3, if_neg (fun z => e3 ((nI_eq (by omega) (by omega)).mp z))]
        by_cases e4 : tp i = 119
        · rw [if_pos e4, if_pos (by rw [e4])]
        · rw [if_neg e4] at hx
          omega
theorem as_n {N i : Nat} {tp : Nat → Nat} {σ : jx_M} (ht : tm_ N tp σ) (h5 : σ 0 5 = nI i) (h6 : σ 0 6 = nI N) (hi : i ≤ N) (hx : ¬ (i < N ∧ sx_ (tp i) < 4)) : f_X6_among σ 1 = some (-nI 1, σ) := by
  have hh := here_e ht h5 h6 hi
  have tl := fun k hk => (ht.2 k hk).2
  have key : ∀ y, sx_ y < 4 → ¬ hv_ N tp i = nI y ∨ 2 ^ 31 ≤ y := fun y hy => by
    by_cases q : y < 2 ^ 31
    · exact Or.inl (fun z => by
        have w := (hv_i tl q).mp z
        exact hx ⟨w.1, by rw [w.2]; exact hy⟩)
    · exact Or.inr (by omega)
  rw [am_1 hh, if_neg ((key 112 (by decide)).resolve_right (by omega)), if_neg ((key 113 (by decide)).resolve_right (by omega)), if_neg ((key 109 (by decide)).resolve_right (by omega)), if_neg ((key 119 (by decide)).resolve_right (by omega))]
theorem ar_y {a N i o e : Nat} {tp : Nat → Nat} {σ : jx_M} (ht : tm_ N tp σ) (h : MD a N σ i o e) (hi : i < N) (hx : rx_ (tp i) < 3) : ∃ σ', f_X6_among σ 2 = some (nI (rx_ (tp i)), σ') ∧ MD a N σ' (i + 1) o e ∧ KM a e σ σ' := by
  have hN := ht.1
  have hh := here_e ht h.2.1 h.2.2.1 (by omega)
  have b := (ht.2 i hi).2
  rw [show hv_ N tp i = nI (tp i) from if_pos hi] at hh
  refine ⟨jx_mu σ 0 5 (nI (i + 1)), ?_, MD_5 (j := i + 1) h, KM_0 (by omega)⟩
  rw [am_2 hh, h.2.1, nI_add]
  unfold rx_ at hx ⊢
  by_cases e1 : tp i = 60
  · rw [if_pos e1, if_pos (by rw [e1])]
  · rw [if_neg e1] at hx
    rw [if_neg e1, if_neg (fun z => e1 ((nI_eq (by omega) (by omega)).mp z))]
    by_cases e2 : tp i = 61
    · rw [if_pos e2, if_pos (by rw [e2])]
    · rw [if_neg e2] at hx
      rw [if_neg e2, if_neg (fun z => e2 ((nI_eq (by omega) (by omega)).mp z))]
      by_cases e3 : tp i = 62
      · rw [if_pos e3, if_pos (by rw [e3])]
      · rw [if_neg e3] at hx
        omega
theorem ar_n {N i : Nat} {tp : Nat → Nat} {σ : jx_M} (ht : tm_ N tp σ) (h5 : σ 0 5 = nI i) (h6 : σ 0 6 = nI N) (hi : i ≤ N) (hx : ¬ (i < N ∧ rx_ (tp i) < 3)) : f_X6_among σ 2 = some (-nI 1, σ) := by
  have hh := here_e ht h5 h6 hi
  have tl := fun k hk => (ht.2 k hk).2
  have key : ∀ y, rx_ y < 3 → ¬ hv_ N tp i = nI y ∨ 2 ^ 31 ≤ y := fun y hy => by
    by_cases q : y < 2 ^ 31
    · exact Or.inl (fun z => by
        have w := (hv_i tl q).mp z
        exact hx ⟨w.1, by rw [w.2]; exact hy⟩)
    · exact Or.inr (by omega)
  rw [am_2 hh, if_neg ((key 60 (by decide)).resolve_right (by omega)), if_neg ((key 61 (by decide)).resolve_right (by omega)), if_neg ((key 62 (by decide)).resolve_right (by omega))]
/-! figures -/
def dg_ (N : Nat) (tp : Nat → Nat) (i : Nat) : Prop := i < N ∧ 48 ≤ tp i ∧ tp i ≤ 57
theorem fg_n {a N i o e : Nat} {tp : Nat → Nat} {σ : jx_M} (ht : tm_ N tp σ) (h : MD a N σ i o e) (hi : i ≤ N) (hx : ¬ dg_ N tp i) : ∃ σ', f_X6_figures σ = some (nI 0, σ') ∧ MW σ' i ∧ KM a e σ σ' := by
  have hh := here_e ht h.2.1 h.2.2.1 hi
  have hq := hv_in (i := i) (fun k hk => (ht.2 k hk).2)
  rw [if_neg (show ¬ (i < N ∧ 48 ≤ tp i ∧ tp i ≤ 57) from hx)] at hq
  refine ⟨jx_mu σ 0 7 (nI 1), ?_, ⟨mu_s, by rw [mu_n (by omega)]; exact h.2.1⟩, KM_0 (by omega)⟩
  unfold f_X6_figures b_X6_figures_22 b_X6_figures_27
  rw [h.2.2.2.1, if_pos (show nI 0 = (0 : Int32) from rfl), hh, bd_s, hq, bd_s, if_pos (show nI 0 = (0 : Int32) from rfl), show (decide ((1 : Int32) = 0 ∨ (1 : Int32) = 1)) = true from by decide, gd_t, lt_e]
  show g_X6_figures_34 (b_X6_figures_34 999) (jx_mu σ 0 7 (nI 1)) (nI 0) (nI 0) = _
  unfold g_X6_figures_34
  rw [if_neg (show ¬ (2 : Int32) ≤ nI 0 by decide), mu_s, if_neg (show ¬ nI 1 = (0 : Int32) by decide)]
theorem fg_w {a e j : Nat} {σ : jx_M} (h : MW σ j) : ∃ σ', f_X6_figures σ = some (nI 0, σ') ∧ MW σ' j ∧ KM a e σ σ' := by
  refine ⟨jx_mu σ 0 7 (nI 1), ?_, ⟨mu_s, by rw [mu_n (by omega)]; exact h.2⟩, KM_0 (by omega)⟩
  unfold f_X6_figures b_X6_figures_22 b_X6_figures_27
  rw [h.1, if_neg (show ¬ nI 1 = (0 : Int32) by decide), show (decide ((1 : Int32) = 0 ∨ (1 : Int32) = 1)) = true from by decide, gd_t, lt_e]
  show g_X6_figures_34 (b_X6_figures_34 999) (jx_mu σ 0 7 (nI 1)) (nI 0) (nI 0) = _
  unfold g_X6_figures_34
  rw [if_neg (show ¬ (2 : Int32) ≤ nI 0 by decide), mu_s, if_neg (show ¬ nI 1 = (0 : Int32) by decide)]
def f2_ (N : Nat) (tp : Nat → Nat) (i : Nat) : Prop := 49 ≤ tp i ∧ dg_ N tp (i + 1)
theorem fg_y {a N i o e : Nat} {tp : Nat → Nat} {σ : jx_M} (ht : tm_ N tp σ) (h : MD a N σ i o e) (hx : dg_ N tp i) : ∃ σ' v k, f_X6_figures σ = some (nI v, σ') ∧ MD a N σ' (i + k) o e ∧ KM a e σ σ' ∧ ((f2_ N tp i ∧ k = 2 ∧ v = (tp i - 48) * 10 + tp (i + 1) - 48) ∨ (¬ f2_ N tp i ∧ k = 1 ∧ v = tp i - 48)) := by
  have hN := ht.1
  have tl := fun k hk => (ht.2 k hk).2
  have hh := here_e ht h.2.1 h.2.2.1 (show i ≤ N by have := hx.1; omega)
  have hq := hv_in (i := i) tl
  rw [if_pos (show i < N ∧ 48 ≤ tp i ∧ tp i ≤ 57 from hx)] at hq
  have m7 := MD_7 h
  have t7 := tm_k ht (KM_0 (a := a) (e := e) (x := nI 0) (i := 7) (by omega))
  have hh7 := here_e t7 m7.2.1 m7.2.2.1 (show i ≤ N by have := hx.1; omega)
  have m8 := MD_5 (j := i + 1) m7
  have t8 := tm_k t7 (KM_0 (a := a) (e := e) (x := nI (i + 1)) (i := 5) (by omega))
  have hh8 := here_e t8 m8.2.1 m8.2.2.1 (show i + 1 ≤ N by have := hx.1; omega)
  have hq8 := hv_in (i := i + 1) tl
  have hv : hv_ N tp i = nI (tp i) := if_pos hx.1
  have e0 : f_X6_figures σ = b_X6_figures_34 (997 + 1 + 1 + 1) (jx_mu σ 0 7 (nI 0)) (nI 0) (nI 0) := by
    unfold f_X6_figures b_X6_figures_27
    rw [h.2.2.2.1, if_pos (show nI 0 = (0 : Int32) from rfl), hh, bd_s, hq, bd_s, if_neg (show ¬ nI 1 = (0 : Int32) by decide), show (decide ((0 : Int32) = 0 ∨ (0 : Int32) = 1)) = true from by decide, gd_t, lt_e]
    rfl
  have e1 : b_X6_figures_34 (997 + 1 + 1 + 1) (jx_mu σ 0 7 (nI 0)) (nI 0) (nI 0) = b_X6_figures_34 (997 + 1 + 1) (jx_mu (jx_mu σ 0 7 (nI 0)) 0 5 (nI (i + 1))) (nI (tp i - 48)) (nI 1) := by
    show g_X6_figures_34 (b_X6_figures_34 (997 + 1 + 1)) (jx_mu σ 0 7 (nI 0)) (nI 0) (nI 0) = _
    unfold g_X6_figures_34 b_X6_figures_68
    rw [if_neg (show ¬ (2 : Int32) ≤ nI 0 by decide), m7.2.2.2.1, if_pos (show nI 0 = (0 : Int32) from rfl), hh7, bd_s, hq, bd_s, if_neg (show ¬ nI 1 = (0 : Int32) by decide), if_pos (show nI 0 = (0 : Int32) from rfl), bd_s, lt_e, lt_e, lt_e, hv, m7.2.1, show (10 : Int32) * nI 0 + nI (tp i) - (48 : Int32) = nI (tp i - 48) from by
      rw [show (10 : Int32) * nI 0 = nI 0 by decide, nI_add, Nat.zero_add]; exact pk_sub (b := 48) hx.2.1, show nI i + (1 : Int32) = nI (i + 1) from nI_1 i]
    rfl
  rw [e0, e1]
  by_cases d2 : dg_ N tp (i + 1)
  · rw [if_pos (show i + 1 < N ∧ 48 ≤ tp (i + 1) ∧ tp (i + 1) ≤ 57 from d2)] at hq8
    by_cases d1 : 49 ≤ tp i
    · have hv1 : hv_ N tp (i + 1) = nI (tp (i + 1)) := if_pos d2.1
      have b8 := tl (i + 1) d2.1
      have b7 := tl i hx.1
      have d3 := d2.2.1
      refine ⟨jx_mu (jx_mu (jx_mu σ 0 7 (nI 0)) 0 5 (nI (i + 1))) 0 5 (nI (i + 2)), (tp i - 48) * 10 + tp (i + 1) - 48, 2, ?_, MD_5 (j := i + 2) m8, KM_t (KM_0 (by omega)) (KM_t (KM_0 (by omega)) (KM_0 (by omega)) (Nat.le_refl e)) (Nat.le_refl e), Or.inl ⟨⟨d1, d2⟩, rfl, rfl⟩⟩
      show g_X6_figures_34 (b_X6_figures_34 (997 + 1)) (jx_mu (jx_mu σ 0 7 (nI 0)) 0 5 (nI (i + 1))) (nI (tp i - 48)) (nI 1) = _
      unfold g_X6_figures_34 b_X6_figures_68
      rw [if_neg (show ¬ (2 : Int32) ≤ nI 1 by decide), m8.2.2.2.1, if_pos (show nI 0 = (0 : Int32) from rfl), hh8, bd_s, hq8, bd_s, if_neg (show ¬ nI 1 = (0 : Int32) by decide), if_neg (show ¬ nI 1 = (0 : Int32) by decide), if_neg (nI_nle (by omega) (by omega)), bd_s, lt_e, lt_e, lt_e, hv1, m8.2.1, show (10 : Int32) * nI (tp i - 48) + nI (tp (i + 1)) - (48 : Int32) = nI ((tp i - 48) * 10 + tp (i + 1) - 48) from by
        rw [show (10 : Int32) * nI (tp i - 48) = nI (10 * (tp i - 48)) from pk_mul 10 _, nI_add, Nat.mul_comm]; exact pk_sub (b := 48) (by omega), show nI (i + 1) + (1 : Int32) = nI (i + 2) from nI_1 (i + 1)]
      show g_X6_figures_34 (b_X6_figures_34 997) _ _ (nI 1 + 1) = _
      unfold g_X6_figures_34
      rw [if_pos (show (2 : Int32) ≤ nI 1 + 1 by decide)]
    · refine ⟨_, tp i - 48, 1, ?_, m8, KM_t (KM_0 (by omega)) (KM_0 (by omega)) (Nat.le_refl e), Or.inr ⟨fun z => d1 z.1, rfl, rfl⟩⟩
      show g_X6_figures_34 (b_X6_figures_34 (997 + 1)) (jx_mu (jx_mu σ 0 7 (nI 0)) 0 5 (nI (i + 1))) (nI (tp i - 48)) (nI 1) = _
      unfold g_X6_figures_34
      rw [if_neg (show ¬ (2 : Int32) ≤ nI 1 by decide), m8.2.2.2.1, if_pos (show nI 0 = (0 : Int32) from rfl), hh8, bd_s, hq8, bd_s, if_neg (show ¬ nI 1 = (0 : Int32) by decide), if_neg (show ¬ nI 1 = (0 : Int32) by decide), show tp i - 48 = 0 by omega, if_pos (show nI 0 ≤ (0 : Int32) by decide)]
  · rw [if_neg (show ¬ (i + 1 < N ∧ 48 ≤ tp (i + 1) ∧ tp (i + 1) ≤ 57) from d2)] at hq8
    refine ⟨_, tp i - 48, 1, ?_, m8, KM_t (KM_0 (by omega)) (KM_0 (by omega)) (Nat.le_refl e), Or.inr ⟨fun z => d2 z.2, rfl, rfl⟩⟩
    show g_X6_figures_34 (b_X6_figures_34 (997 + 1)) (jx_mu (jx_mu σ 0 7 (nI 0)) 0 5 (nI (i + 1))) (nI (tp i - 48)) (nI 1) = _
    unfold g_X6_figures_34
    rw [if_neg (show ¬ (2 : Int32) ≤ nI 1 by decide), m8.2.2.2.1, if_pos (show nI 0 = (0 : Int32) from rfl), hh8, bd_s, hq8, bd_s, if_pos (show nI 0 = (0 : Int32) from rfl)]
