/-! the night: what both sides ask of it, as natural numbers -/
theorem lq_ {X : Type} (W : Nat → Nat → X → Prop) (I : Nat → X → Prop) (e : Nat) (hx : ∀ n s, I e s → W (n + 1) e s) (hs : ∀ n i s, i < e → I i s → (∀ s', I (i + 1) s' → W n (i + 1) s') → W (n + 1) i s) (i : Nat) (s : X) (hi : i ≤ e) (he : e < 1000) (h0 : I i s) : W jx_fuel i s := by
  have h : ∀ n i s, i ≤ e → e < i + n → I i s → W n i s := by
    intro n
    induction n with
    | zero => intro i s h1 h2; omega
    | succ n ih =>
      intro i s h1 h2 h3
      by_cases h : i = e
      · subst h; exact hx n s h3
      · exact hs n i s (by omega) h3 (fun s' h' => ih (i + 1) s' (by omega) (by omega) h')
  exact h 1000 i s hi (by omega) h0
theorem ev_nT {a b : Nat} (h : a = b) : (a = b) = True := eq_true h
theorem ev_nF {a b : Nat} (h : ¬ a = b) : (a = b) = False := eq_false h
theorem ev_nlT {a b : Nat} (h : a ≤ b) : (a ≤ b) = True := eq_true h
theorem ev_nlF {a b : Nat} (h : ¬ a ≤ b) : (a ≤ b) = False := eq_false h
theorem ev_01 {x : Nat} (h : x ≤ 1) : (nI x = nI 0 ∨ nI x = nI 1) = True := by
  have h' : x = 0 ∨ x = 1 := by omega
  rcases h' with rfl | rfl
  · exact eq_true (Or.inl rfl)
  · exact eq_true (Or.inr rfl)
theorem ev_m1 : (nI 0 - nI 1 : Int32) < nI 0 := by decide
theorem ev_m1' : ((nI 0 - nI 1 : Int32) < nI 0) = True := eq_true (by decide)
theorem ev_pm {a : Nat} (h : a < 2 ^ 31) : (nI a = -nI 1) = False := by
  refine eq_false (fun e => nI_pos h ?_)
  rw [e]; decide
theorem ev_mm : ((nI 0 - nI 1 : Int32) = -nI 1) = True := eq_true (by decide)
def nl_k (σ σ' : jx_M) : Prop := (∀ a, (1 ≤ a ∧ a ≤ 19) ∨ (21 ≤ a ∧ a ≤ 39) ∨ a = 60 → σ' a = σ a) ∧ ∀ i, ¬ i = 20 → σ' 0 i = σ 0 i
def nm_k (σ σ' : jx_M) : Prop := σ' 1 = σ 1 ∧ σ' 2 = σ 2 ∧ σ' 9 = σ 9 ∧ σ' 0 3 = σ 0 3 ∧ σ' 0 22 = σ 0 22
theorem nl_k_t {a b c : jx_M} (h : nl_k a b) (g : nl_k b c) : nl_k a c := ⟨fun x hx => (g.1 x hx).trans (h.1 x hx), fun i hi => (g.2 i hi).trans (h.2 i hi)⟩
theorem nm_k_t {a b c : jx_M} (h : nm_k a b) (g : nm_k b c) : nm_k a c := ⟨g.1.trans h.1, g.2.1.trans h.2.1, g.2.2.1.trans h.2.2.1, g.2.2.2.1.trans h.2.2.2.1, g.2.2.2.2.trans h.2.2.2.2⟩
theorem nl_k_r (a : jx_M) : nl_k a a := ⟨fun _ _ => rfl, fun _ _ => rfl⟩
theorem nm_k_r (a : jx_M) : nm_k a a := ⟨rfl, rfl, rfl, rfl, rfl⟩
def cs_l (t : jx_T) (S : Nat → Nat) (F : rt_F) (σ : jx_M) : Prop := rn_c (σ 0) σ S ∧ rt_c t.2.1 t.2.2 F
def cs_m (S : Nat → Nat) (F : rt_F) (σ : jx_M) : Prop := rn_m (σ 1) S ∧ rt_m (σ 1) (S 5) F
def cs_w (S : Nat → Nat) (F : rt_F) : Prop := rn_w S ∧ rt_b F
theorem cs_l_k {t : jx_T} {S : Nat → Nat} {F : rt_F} {σ σ' : jx_M} (h : cs_l t S F σ) (k : nl_k σ σ') : cs_l t S F σ' := ⟨rn_c_congr h.1 (fun i hi => k.2 i (by omega)) (fun j h1 h2 => k.1 j (by omega)), h.2⟩
theorem cs_m_k {S : Nat → Nat} {F : rt_F} {σ σ' : jx_M} (h : cs_m S F σ) (k : σ' 1 = σ 1) : cs_m S F σ' := by
  unfold cs_m
  rw [k]
  exact h
theorem RR_night {t : jx_T} {σl σm σl2 σm2 : jx_M} (h : RR t σl σm) (hl : nl_k σl σl2) (h20 : σl2 0 20 = -1) (hm : nm_k σm σm2) : RR t σl2 σm2 := by
  obtain ⟨⟨S, F, hc, hm', hw, hb, htc, htm⟩, hi, ht, hst⟩ := h
  have kl1 : kl σl σl2 := by
    refine ⟨fun j hj => hl.1 j (by omega), fun i hi => ?_⟩
    by_cases e : i = 20
    · subst e; exact h20.trans hst.symm
    · exact hl.2 i e
  have km1 : km σm σm2 := ⟨hm.2.1, hm.2.2.1, hm.2.2.2.1, hm.2.2.2.2⟩
  refine ⟨⟨S, F, (cs_l_k (t := t) (F := F) ⟨hc, htc⟩ hl).1, ?_, hw, hb, htc, ?_⟩, rr_i_k hi kl1 km1, rr_t_k ht kl1 km1, h20⟩
  · rw [hm.1]; exact hm'
  · rw [hm.1]; exact htm
def sp_f (S : Nat → Nat) (F : rt_F) (w p a : Nat) : Nat := F w p (S (10 + p)) (a % 12) (S (24 + p))
def sp_g (S : Nat → Nat) (F : rt_F) (p a : Nat) : Nat := if sp_f S F 1 p a = 0 then (if S (17 + p) = 0 then S (10 + p) else if sp_f S F 0 p a = 0 then S (10 + p) else S (17 + p) - 1) else p
theorem sp_g_lt {S : Nat → Nat} {F : rt_F} (hw : rn_w S) {p a : Nat} (hp : p < S 6) : sp_g S F p a < S 6 := by
  have b6 := hw.2.1
  have b := hw.2.2.1 p (by omega)
  unfold sp_g
  repeat' split
  all_goals omega
/-! looking: the class -/
def lk_m (σ : jx_M) (p a : Nat) : jx_M := jx_mu (jx_mu (jx_mu (jx_mu σ 20 0 (nI p)) 20 1 (σ (1 + p) 0)) 20 2 (nI (a % 12))) 20 3 (σ (1 + p) 2)
theorem lk_e {t : jx_T} {σ : jx_M} {p a : Nat} (hp : p < 7) (ha : a < 2 ^ 31) : f_X1_look t σ (nI p) (nI a) = some (20, lk_m σ p a) := by
  unfold f_X1_look lk_m
  simp (disch := first | omega | assumption) only [ev_add, ev_mul, ev_rem, ev_sub, ev_ltT, ev_ltF, ev_leT, ev_leF, ev_eqT, ev_eqF, ev_cl, ev_in, gd_t, bd_s, lt_e, ev_of, ↓reduceIte, decide_true, true_or, or_true, ev_l0, ev_l1, ev_l2, ev_l3, ev_l4, ev_l5, ev_l6, ev_l7, ev_l8, ev_l9, ev_l10, ev_l11, ev_l12, ev_l13, ev_l14, ev_l15, ev_l16, ev_l17, ev_l18, ev_l19, ev_l20, ev_l21, ev_l22, ev_l23, ev_l24, ev_l25, ev_l26, ev_l30, ev_l31, ev_l32, ev_l37, ev_l40, ev_l41, ev_l43, ev_l48, ev_l49, ev_l51, ev_l55, ev_l57, ev_l58, ev_l60, ev_l61, ev_l79, ev_l85, ev_l91, ev_l99, ev_l100, ev_l107, ev_l115, ev_l127, ev_l140, ev_l215, ev_l220, ev_l920, ev_l9999, ev_nT, ev_nF, ev_nlT, ev_nlF, ll1, mu_a]
theorem lk_k {σ : jx_M} {p a b : Nat} (h : ¬ b = 20) : lk_m σ p a b = σ b := by
  unfold lk_m
  simp only [mu_a h]
theorem lk_n {σ : jx_M} {p a : Nat} : nl_k σ (lk_m σ p a) := ⟨fun b hb => lk_k (by omega), fun i hi => congrFun (lk_k (by omega)) i⟩
theorem lk_a {t : jx_T} {S : Nat → Nat} {F : rt_F} {σ : jx_M} (h : cs_l t S F σ) (hw : rn_w S) {p a : Nat} (hp : p < 7) : f_X4_any t (lk_m σ p a) (nI 0) 20 = some (nI (sp_f S F 0 p a)) ∧ f_X4_any t (lk_m σ p a) (nI 1) 20 = some (nI (sp_f S F 1 p a)) ∧ f_X4_sum t (lk_m σ p a) (nI 2) 20 = some (nI (sp_f S F 2 p a)) ∧ f_X4_sum t (lk_m σ p a) (nI 3) 20 = some (nI (sp_f S F 3 p a)) := by
  have b := hw.2.2.1 p hp
  have e := h.1.2.1 p hp
  refine h.2 t (lk_m σ p a) p (S (10 + p)) (a % 12) (S (24 + p)) (fun k _ _ => ⟨rfl, rfl⟩) ?_ ?_ ?_ ?_ (by omega) (by omega) (by omega) (by omega)
  · unfold lk_m; rw [mu_n (by omega), mu_n (by omega), mu_n (by omega), mu_s]
  · unfold lk_m; rw [mu_n (by omega), mu_n (by omega), mu_s]; exact e.1
  · unfold lk_m; rw [mu_n (by omega), mu_s]
  · unfold lk_m; rw [mu_s]; exact e.2.2
theorem cl_goal {t : jx_T} {S : Nat → Nat} {F : rt_F} {σ : jx_M} (h : cs_l t S F σ) (hw : cs_w S F) {p a : Nat} (hp : p < S 6) (ha : a < 2 ^ 31) : f_X1_goal t σ (nI p) (nI a) = some (nI (sp_g S F p a), lk_m σ p a) := by
  have b6 := hw.1.2.1
  obtain ⟨a0, a1, a2, a3⟩ := lk_a h hw.1 (p := p) (a := a) (by omega)
  have e := h.1.2.1 p (by omega)
  have b := hw.1.2.2.1 p (by omega)
  have bf := hw.2 p (S (10 + p)) (a % 12) (S (24 + p))
  have n6 : lk_m σ p a 0 0 = nI (S 6) := by rw [lk_k (by omega)]; exact h.1.1.1
  unfold f_X1_goal sp_g
  rw [lk_e (by omega) ha]
  have x0 : sp_f S F 0 p a ≤ 1 := bf.1
  have x1 : sp_f S F 1 p a ≤ 1 := bf.2.1
  simp (disch := first | omega | assumption) only [ev_add, ev_mul, ev_rem, ev_sub, ev_ltT, ev_ltF, ev_leT, ev_leF, ev_eqT, ev_eqF, ev_cl, ev_in, gd_t, bd_s, lt_e, ev_of, ↓reduceIte, decide_true, true_or, or_true, ev_l0, ev_l1, ev_l2, ev_l3, ev_l4, ev_l5, ev_l6, ev_l7, ev_l8, ev_l9, ev_l10, ev_l11, ev_l12, ev_l13, ev_l14, ev_l15, ev_l16, ev_l17, ev_l18, ev_l19, ev_l20, ev_l21, ev_l22, ev_l23, ev_l24, ev_l25, ev_l26, ev_l30, ev_l31, ev_l32, ev_l37, ev_l40, ev_l41, ev_l43, ev_l48, ev_l49, ev_l51, ev_l55, ev_l57, ev_l58, ev_l60, ev_l61, ev_l79, ev_l85, ev_l91, ev_l99, ev_l100, ev_l107, ev_l115, ev_l127, ev_l140, ev_l215, ev_l220, ev_l920, ev_l9999, ev_nT, ev_nF, ev_nlT, ev_nlF, ll1, lk_k, e.1, e.2.1, a1]
  by_cases h1 : sp_f S F 1 p a = 0
  · rw [if_pos h1]
    simp (disch := first | omega | assumption) only [ev_add, ev_mul, ev_rem, ev_sub, ev_ltT, ev_ltF, ev_leT, ev_leF, ev_eqT, ev_eqF, ev_cl, ev_in, gd_t, bd_s, lt_e, ev_of, ↓reduceIte, decide_true, true_or, or_true, ev_l0, ev_l1, ev_l2, ev_l3, ev_l4, ev_l5, ev_l6, ev_l7, ev_l8, ev_l9, ev_l10, ev_l11, ev_l12, ev_l13, ev_l14, ev_l15, ev_l16, ev_l17, ev_l18, ev_l19, ev_l20, ev_l21, ev_l22, ev_l23, ev_l24, ev_l25, ev_l26, ev_l30, ev_l31, ev_l32, ev_l37, ev_l40, ev_l41, ev_l43, ev_l48, ev_l49, ev_l51, ev_l55, ev_l57, ev_l58, ev_l60, ev_l61, ev_l79, ev_l85, ev_l91, ev_l99, ev_l100, ev_l107, ev_l115, ev_l127, ev_l140, ev_l215, ev_l220, ev_l920, ev_l9999, ev_nT, ev_nF, ev_nlT, ev_nlF, h1]
    by_cases h2 : S (17 + p) = 0
    · simp (disch := first | omega | assumption) only [ev_add, ev_mul, ev_rem, ev_sub, ev_ltT, ev_ltF, ev_leT, ev_leF, ev_eqT, ev_eqF, ev_cl, ev_in, gd_t, bd_s, lt_e, ev_of, ↓reduceIte, decide_true, true_or, or_true, ev_l0, ev_l1, ev_l2, ev_l3, ev_l4, ev_l5, ev_l6, ev_l7, ev_l8, ev_l9, ev_l10, ev_l11, ev_l12, ev_l13, ev_l14, ev_l15, ev_l16, ev_l17, ev_l18, ev_l19, ev_l20, ev_l21, ev_l22, ev_l23, ev_l24, ev_l25, ev_l26, ev_l30, ev_l31, ev_l32, ev_l37, ev_l40, ev_l41, ev_l43, ev_l48, ev_l49, ev_l51, ev_l55, ev_l57, ev_l58, ev_l60, ev_l61, ev_l79, ev_l85, ev_l91, ev_l99, ev_l100, ev_l107, ev_l115, ev_l127, ev_l140, ev_l215, ev_l220, ev_l920, ev_l9999, ev_nT, ev_nF, ev_nlT, ev_nlF, h2, show f_X1_hasPlace t (lk_m σ p a) (nI 0 - nI 1) = _ from hp_f n6 (Or.inl ev_m1)]
    · simp (disch := first | omega | assumption) only [ev_add, ev_mul, ev_rem, ev_sub, ev_ltT, ev_ltF, ev_leT, ev_leF, ev_eqT, ev_eqF, ev_cl, ev_in, gd_t, bd_s, lt_e, ev_of, ↓reduceIte, decide_true, true_or, or_true, ev_l0, ev_l1, ev_l2, ev_l3, ev_l4, ev_l5, ev_l6, ev_l7, ev_l8, ev_l9, ev_l10, ev_l11, ev_l12, ev_l13, ev_l14, ev_l15, ev_l16, ev_l17, ev_l18, ev_l19, ev_l20, ev_l21, ev_l22, ev_l23, ev_l24, ev_l25, ev_l26, ev_l30, ev_l31, ev_l32, ev_l37, ev_l40, ev_l41, ev_l43, ev_l48, ev_l49, ev_l51, ev_l55, ev_l57, ev_l58, ev_l60, ev_l61, ev_l79, ev_l85, ev_l91, ev_l99, ev_l100, ev_l107, ev_l115, ev_l127, ev_l140, ev_l215, ev_l220, ev_l920, ev_l9999, ev_nT, ev_nF, ev_nlT, ev_nlF, hp_t n6 (show S (17 + p) - 1 < S 6 by omega) (by omega), a0]
      by_cases h3 : sp_f S F 0 p a = 0
      · simp (disch := first | omega | assumption) only [ev_add, ev_mul, ev_rem, ev_sub, ev_ltT, ev_ltF, ev_leT, ev_leF, ev_eqT, ev_eqF, ev_cl, ev_in, gd_t, bd_s, lt_e, ev_of, ↓reduceIte, decide_true, true_or, or_true, ev_l0, ev_l1, ev_l2, ev_l3, ev_l4, ev_l5, ev_l6, ev_l7, ev_l8, ev_l9, ev_l10, ev_l11, ev_l12, ev_l13, ev_l14, ev_l15, ev_l16, ev_l17, ev_l18, ev_l19, ev_l20, ev_l21, ev_l22, ev_l23, ev_l24, ev_l25, ev_l26, ev_l30, ev_l31, ev_l32, ev_l37, ev_l40, ev_l41, ev_l43, ev_l48, ev_l49, ev_l51, ev_l55, ev_l57, ev_l58, ev_l60, ev_l61, ev_l79, ev_l85, ev_l91, ev_l99, ev_l100, ev_l107, ev_l115, ev_l127, ev_l140, ev_l215, ev_l220, ev_l920, ev_l9999, ev_nT, ev_nF, ev_nlT, ev_nlF, h3]
      · simp (disch := first | omega | assumption) only [ev_add, ev_mul, ev_rem, ev_sub, ev_ltT, ev_ltF, ev_leT, ev_leF, ev_eqT, ev_eqF, ev_cl, ev_in, gd_t, bd_s, lt_e, ev_of, ↓reduceIte, decide_true, true_or, or_true, ev_l0, ev_l1, ev_l2, ev_l3, ev_l4, ev_l5, ev_l6, ev_l7, ev_l8, ev_l9, ev_l10, ev_l11, ev_l12, ev_l13, ev_l14, ev_l15, ev_l16, ev_l17, ev_l18, ev_l19, ev_l20, ev_l21, ev_l22, ev_l23, ev_l24, ev_l25, ev_l26, ev_l30, ev_l31, ev_l32, ev_l37, ev_l40, ev_l41, ev_l43, ev_l48, ev_l49, ev_l51, ev_l55, ev_l57, ev_l58, ev_l60, ev_l61, ev_l79, ev_l85, ev_l91, ev_l99, ev_l100, ev_l107, ev_l115, ev_l127, ev_l140, ev_l215, ev_l220, ev_l920, ev_l9999, ev_nT, ev_nF, ev_nlT, ev_nlF]
  · simp (disch := first | omega | assumption) only [ev_add, ev_mul, ev_rem, ev_sub, ev_ltT, ev_ltF, ev_leT, ev_leF, ev_eqT, ev_eqF, ev_cl, ev_in, gd_t, bd_s, lt_e, ev_of, ↓reduceIte, decide_true, true_or, or_true, ev_l0, ev_l1, ev_l2, ev_l3, ev_l4, ev_l5, ev_l6, ev_l7, ev_l8, ev_l9, ev_l10, ev_l11, ev_l12, ev_l13, ev_l14, ev_l15, ev_l16, ev_l17, ev_l18, ev_l19, ev_l20, ev_l21, ev_l22, ev_l23, ev_l24, ev_l25, ev_l26, ev_l30, ev_l31, ev_l32, ev_l37, ev_l40, ev_l41, ev_l43, ev_l48, ev_l49, ev_l51, ev_l55, ev_l57, ev_l58, ev_l60, ev_l61, ev_l79, ev_l85, ev_l91, ev_l99, ev_l100, ev_l107, ev_l115, ev_l127, ev_l140, ev_l215, ev_l220, ev_l920, ev_l9999, ev_nT, ev_nF, ev_nlT, ev_nlF]
theorem cl_holds {t : jx_T} {S : Nat → Nat} {F : rt_F} {σ : jx_M} (h : cs_l t S F σ) (hw : cs_w S F) {p a : Nat} (hp : p < S 6) (ha : a < 2 ^ 31) : f_X1_holdsBack t σ (nI p) (nI a) = some (nI (sp_f S F 1 p a), lk_m σ p a) := by
  have b6 := hw.1.2.1
  obtain ⟨a0, a1, a2, a3⟩ := lk_a h hw.1 (p := p) (a := a) (by omega)
  have x1 : sp_f S F 1 p a ≤ 1 := (hw.2 p (S (10 + p)) (a % 12) (S (24 + p))).2.1
  unfold f_X1_holdsBack
  rw [lk_e (by omega) ha]
  simp (disch := first | omega | assumption) only [ev_add, ev_mul, ev_rem, ev_sub, ev_ltT, ev_ltF, ev_leT, ev_leF, ev_eqT, ev_eqF, ev_cl, ev_in, gd_t, bd_s, lt_e, ev_of, ↓reduceIte, decide_true, true_or, or_true, ev_l0, ev_l1, ev_l2, ev_l3, ev_l4, ev_l5, ev_l6, ev_l7, ev_l8, ev_l9, ev_l10, ev_l11, ev_l12, ev_l13, ev_l14, ev_l15, ev_l16, ev_l17, ev_l18, ev_l19, ev_l20, ev_l21, ev_l22, ev_l23, ev_l24, ev_l25, ev_l26, ev_l30, ev_l31, ev_l32, ev_l37, ev_l40, ev_l41, ev_l43, ev_l48, ev_l49, ev_l51, ev_l55, ev_l57, ev_l58, ev_l60, ev_l61, ev_l79, ev_l85, ev_l91, ev_l99, ev_l100, ev_l107, ev_l115, ev_l127, ev_l140, ev_l215, ev_l220, ev_l920, ev_l9999, ev_nT, ev_nF, ev_nlT, ev_nlF, ev_01, a1]
theorem cl_weight {t : jx_T} {S : Nat → Nat} {F : rt_F} {σ : jx_M} (h : cs_l t S F σ) (hw : cs_w S F) {p a : Nat} (hp : p < S 6) (ha : a < 2 ^ 31) : f_X1_weight t σ (nI p) (nI a) = some (nI (1 + sp_f S F 3 p a), lk_m σ p a) := by
  have b6 := hw.1.2.1
  obtain ⟨a0, a1, a2, a3⟩ := lk_a h hw.1 (p := p) (a := a) (by omega)
  unfold f_X1_weight
  rw [lk_e (by omega) ha]
  simp (disch := first | omega | assumption) only [ev_add, ev_mul, ev_rem, ev_sub, ev_ltT, ev_ltF, ev_leT, ev_leF, ev_eqT, ev_eqF, ev_cl, ev_in, gd_t, bd_s, lt_e, ev_of, ↓reduceIte, decide_true, true_or, or_true, ev_l0, ev_l1, ev_l2, ev_l3, ev_l4, ev_l5, ev_l6, ev_l7, ev_l8, ev_l9, ev_l10, ev_l11, ev_l12, ev_l13, ev_l14, ev_l15, ev_l16, ev_l17, ev_l18, ev_l19, ev_l20, ev_l21, ev_l22, ev_l23, ev_l24, ev_l25, ev_l26, ev_l30, ev_l31, ev_l32, ev_l37, ev_l40, ev_l41, ev_l43, ev_l48, ev_l49, ev_l51, ev_l55, ev_l57, ev_l58, ev_l60, ev_l61, ev_l79, ev_l85, ev_l91, ev_l99, ev_l100, ev_l107, ev_l115, ev_l127, ev_l140, ev_l215, ev_l220, ev_l920, ev_l9999, ev_nT, ev_nF, ev_nlT, ev_nlF, a3]
theorem cl_filled {t : jx_T} {S : Nat → Nat} {F : rt_F} {σ : jx_M} (h : cs_l t S F σ) (hw : cs_w S F) {p a : Nat} (hp : p < S 6) (ha : a < 2 ^ 31) : f_X1_filled t σ (nI p) (nI a) = some (nI (sp_f S F 2 p a), lk_m σ p a) := by
  have b6 := hw.1.2.1
  obtain ⟨a0, a1, a2, a3⟩ := lk_a h hw.1 (p := p) (a := a) (by omega)
  unfold f_X1_filled
  rw [lk_e (by omega) ha]
  simp (disch := first | omega | assumption) only [ev_add, ev_mul, ev_rem, ev_sub, ev_ltT, ev_ltF, ev_leT, ev_leF, ev_eqT, ev_eqF, ev_cl, ev_in, gd_t, bd_s, lt_e, ev_of, ↓reduceIte, decide_true, true_or, or_true, ev_l0, ev_l1, ev_l2, ev_l3, ev_l4, ev_l5, ev_l6, ev_l7, ev_l8, ev_l9, ev_l10, ev_l11, ev_l12, ev_l13, ev_l14, ev_l15, ev_l16, ev_l17, ev_l18, ev_l19, ev_l20, ev_l21, ev_l22, ev_l23, ev_l24, ev_l25, ev_l26, ev_l30, ev_l31, ev_l32, ev_l37, ev_l40, ev_l41, ev_l43, ev_l48, ev_l49, ev_l51, ev_l55, ev_l57, ev_l58, ev_l60, ev_l61, ev_l79, ev_l85, ev_l91, ev_l99, ev_l100, ev_l107, ev_l115, ev_l127, ev_l140, ev_l215, ev_l220, ev_l920, ev_l9999, ev_nT, ev_nF, ev_nlT, ev_nlF, a2]
/-! looking: the reference -/
def ml_u (σ : jx_M) (p a : Nat) : jx_M := jx_mu (jx_mu (jx_mu (jx_mu (jx_mu (jx_mu (jx_mu (jx_mu σ 3 0 (nI p)) 3 1 ((jx_mu σ 3 0 (nI p)) 1 (10 + p))) 3 2 (nI (a % 12))) 3 3 ((jx_mu (jx_mu (jx_mu σ 3 0 (nI p)) 3 1 ((jx_mu σ 3 0 (nI p)) 1 (10 + p))) 3 2 (nI (a % 12))) 1 (24 + p))) 0 11 (0 : Int32)) 0 12 (0 : Int32)) 0 13 (0 : Int32)) 0 14 (1 : Int32)
def ml_k (σ σ' : jx_M) : Prop := (∀ b, ¬ b = 0 → ¬ b = 3 → ¬ b = 4 → σ' b = σ b) ∧ ∀ i, ¬ (11 ≤ i ∧ i ≤ 14) → σ' 0 i = σ 0 i
theorem ml_k_n {σ σ' : jx_M} (h : ml_k σ σ') : nm_k σ σ' := ⟨h.1 1 (by omega) (by omega) (by omega), h.1 2 (by omega) (by omega) (by omega), h.1 9 (by omega) (by omega) (by omega), h.2 3 (by omega), h.2 22 (by omega)⟩
theorem ml_k_t {a b c : jx_M} (h : ml_k a b) (g : ml_k b c) : ml_k a c := ⟨fun x h1 h2 h3 => (g.1 x h1 h2 h3).trans (h.1 x h1 h2 h3), fun i hi => (g.2 i hi).trans (h.2 i hi)⟩
theorem ml_k_r (a : jx_M) : ml_k a a := ⟨fun _ _ _ _ => rfl, fun _ _ => rfl⟩
theorem ml_e {σ : jx_M} {p a : Nat} (hp : p < 7) (ha : a < 2 ^ 31) : f_X6_looks σ (nI p) (nI a) = rt_l (ml_u σ p a) := by
  have g1 : jx_in ((10 : Int32) + nI p) 920 = true := by
    rw [show ((10 : Int32) + nI p) = nI (10 + p) from nI_add 10 p]; exact ev_in (by omega) (by omega)
  have g2 : jx_in ((24 : Int32) + nI p) 920 = true := by
    rw [show ((24 : Int32) + nI p) = nI (24 + p) from nI_add 24 p]; exact ev_in (by omega) (by omega)
  have g3 : ((10 : Int32) + nI p).toNatClampNeg = 10 + p := by
    rw [show ((10 : Int32) + nI p) = nI (10 + p) from nI_add 10 p]; exact nI_clamp (by omega)
  have g4 : ((24 : Int32) + nI p).toNatClampNeg = 24 + p := by
    rw [show ((24 : Int32) + nI p) = nI (24 + p) from nI_add 24 p]; exact nI_clamp (by omega)
  have g5 : nI a - nI a / (12 : Int32) * (12 : Int32) = nI (a % 12) := pk_rem (d := 12) ha (by omega) (by omega)
  unfold f_X6_looks rt_l ml_u
  simp only [lt_e, gd_t, g1, g2, g3, g4, g5]
theorem ml_uk {σ : jx_M} {p a : Nat} : ml_k σ (ml_u σ p a) := by
  unfold ml_u
  refine ⟨fun b h0 h3 h4 => ?_, fun i hi => ?_⟩
  · simp (disch := omega) only [mu_a]
  · simp (disch := omega) only [mu_n, mu_a]
theorem cm_looks {S : Nat → Nat} {F : rt_F} {σ : jx_M} (h : cs_m S F σ) (hw : cs_w S F) {p a : Nat} (hp : p < 7) (ha : a < 2 ^ 31) : ∃ σ', f_X6_looks σ (nI p) (nI a) = some σ' ∧ ml_k σ σ' ∧ σ' 0 11 = nI (sp_f S F 0 p a) ∧ σ' 0 12 = nI (sp_f S F 1 p a) ∧ σ' 0 13 = nI (sp_f S F 2 p a) ∧ σ' 0 14 = nI (1 + sp_f S F 3 p a) := by
  have b := hw.1.2.2.1 p hp
  have b5 := hw.1.2.1
  have e1 : ml_u σ p a 1 = σ 1 := ml_uk.1 1 (by omega) (by omega) (by omega)
  obtain ⟨σ', k1, k2, k3, k4, k5, k6⟩ := h.2 (ml_u σ p a) p (S (10 + p)) (a % 12) (S (24 + p)) (by rw [e1]; exact h.1.2.1) (fun g hg => by rw [e1]; exact ⟨rfl, fun _ _ => rfl⟩)
    (by unfold ml_u; simp (disch := omega) only [mu_n, mu_a, mu_s])
    (by
      unfold ml_u; simp (disch := omega) only [mu_n, mu_a, mu_s]
      exact h.1.1 (10 + p) (by omega) (by omega) (by omega))
    (by unfold ml_u; simp (disch := omega) only [mu_n, mu_a, mu_s])
    (by
      unfold ml_u; simp (disch := omega) only [mu_n, mu_a, mu_s]
      exact h.1.1 (24 + p) (by omega) (by omega) (by omega))
    (by omega) (by omega) (by omega) (by omega)
    (by unfold ml_u; simp (disch := omega) only [mu_n, mu_a, mu_s])
    (by unfold ml_u; simp (disch := omega) only [mu_n, mu_a, mu_s])
    (by unfold ml_u; simp (disch := omega) only [mu_n, mu_a, mu_s])
    (by unfold ml_u; simp (disch := omega) only [mu_n, mu_a, mu_s])
  refine ⟨σ', (ml_e hp ha).trans k1, ?_, k2, k3, k4, k5⟩
  refine ml_k_t ml_uk ⟨fun b h0 h3 h4 => k6.1 b h0 h4, k6.2⟩
theorem cm_goes {S : Nat → Nat} {F : rt_F} {σ : jx_M} (h : cs_m S F σ) (hw : cs_w S F) {p a : Nat} (hp : p < S 6) (ha : a < 2 ^ 31) : ∃ σ', f_X6_goesFrom σ (nI p) (nI a) = some (nI (sp_g S F p a), σ') ∧ ml_k σ σ' ∧ σ' 0 12 = nI (sp_f S F 1 p a) ∧ σ' 0 14 = nI (1 + sp_f S F 3 p a) := by
  have b6 := hw.1.2.1
  have b := hw.1.2.2.1 p (by omega)
  obtain ⟨σ', k1, k2, k3, k4, k5, k6⟩ := cm_looks h hw (show p < 7 by omega) ha
  refine ⟨σ', ?_, k2, k4, k6⟩
  have bf := hw.2 p (S (10 + p)) (a % 12) (S (24 + p))
  have x0 : sp_f S F 0 p a ≤ 1 := bf.1
  have x1 : sp_f S F 1 p a ≤ 1 := bf.2.1
  have e1 : σ' 1 = σ 1 := (ml_k_n k2).1
  have y1 : σ' 1 (10 + p) = nI (S (10 + p)) := by rw [e1]; exact h.1.1 (10 + p) (by omega) (by omega) (by omega)
  have y2 : σ' 1 (17 + p) = nI (S (17 + p)) - nI 1 := by rw [e1]; exact h.1.2.2 p (by omega)
  unfold f_X6_goesFrom sp_g
  rw [k1, bd_s]
  by_cases h1 : sp_f S F 1 p a = 0
  · rw [if_pos h1]
    simp (disch := first | omega | assumption) only [ev_add, ev_mul, ev_rem, ev_sub, ev_ltT, ev_ltF, ev_leT, ev_leF, ev_eqT, ev_eqF, ev_cl, ev_in, gd_t, bd_s, lt_e, ev_of, ↓reduceIte, decide_true, true_or, or_true, ev_l0, ev_l1, ev_l2, ev_l3, ev_l4, ev_l5, ev_l6, ev_l7, ev_l8, ev_l9, ev_l10, ev_l11, ev_l12, ev_l13, ev_l14, ev_l15, ev_l16, ev_l17, ev_l18, ev_l19, ev_l20, ev_l21, ev_l22, ev_l23, ev_l24, ev_l25, ev_l26, ev_l30, ev_l31, ev_l32, ev_l37, ev_l40, ev_l41, ev_l43, ev_l48, ev_l49, ev_l51, ev_l55, ev_l57, ev_l58, ev_l60, ev_l61, ev_l79, ev_l85, ev_l91, ev_l99, ev_l100, ev_l107, ev_l115, ev_l127, ev_l140, ev_l215, ev_l220, ev_l920, ev_l9999, ev_nT, ev_nF, ev_nlT, ev_nlF, k3, k4, h1, y1, y2]
    by_cases h3 : sp_f S F 0 p a = 0
    · simp (disch := first | omega | assumption) only [ev_add, ev_mul, ev_rem, ev_sub, ev_ltT, ev_ltF, ev_leT, ev_leF, ev_eqT, ev_eqF, ev_cl, ev_in, gd_t, bd_s, lt_e, ev_of, ↓reduceIte, decide_true, true_or, or_true, ev_l0, ev_l1, ev_l2, ev_l3, ev_l4, ev_l5, ev_l6, ev_l7, ev_l8, ev_l9, ev_l10, ev_l11, ev_l12, ev_l13, ev_l14, ev_l15, ev_l16, ev_l17, ev_l18, ev_l19, ev_l20, ev_l21, ev_l22, ev_l23, ev_l24, ev_l25, ev_l26, ev_l30, ev_l31, ev_l32, ev_l37, ev_l40, ev_l41, ev_l43, ev_l48, ev_l49, ev_l51, ev_l55, ev_l57, ev_l58, ev_l60, ev_l61, ev_l79, ev_l85, ev_l91, ev_l99, ev_l100, ev_l107, ev_l115, ev_l127, ev_l140, ev_l215, ev_l220, ev_l920, ev_l9999, ev_nT, ev_nF, ev_nlT, ev_nlF, h3, ite_self]
    · by_cases h2 : S (17 + p) = 0
      · simp (disch := first | omega | assumption) only [ev_add, ev_mul, ev_rem, ev_sub, ev_ltT, ev_ltF, ev_leT, ev_leF, ev_eqT, ev_eqF, ev_cl, ev_in, gd_t, bd_s, lt_e, ev_of, ↓reduceIte, decide_true, true_or, or_true, ev_l0, ev_l1, ev_l2, ev_l3, ev_l4, ev_l5, ev_l6, ev_l7, ev_l8, ev_l9, ev_l10, ev_l11, ev_l12, ev_l13, ev_l14, ev_l15, ev_l16, ev_l17, ev_l18, ev_l19, ev_l20, ev_l21, ev_l22, ev_l23, ev_l24, ev_l25, ev_l26, ev_l30, ev_l31, ev_l32, ev_l37, ev_l40, ev_l41, ev_l43, ev_l48, ev_l49, ev_l51, ev_l55, ev_l57, ev_l58, ev_l60, ev_l61, ev_l79, ev_l85, ev_l91, ev_l99, ev_l100, ev_l107, ev_l115, ev_l127, ev_l140, ev_l215, ev_l220, ev_l920, ev_l9999, ev_nT, ev_nF, ev_nlT, ev_nlF, h2, ev_mm]
      · simp (disch := first | omega | assumption) only [ev_add, ev_mul, ev_rem, ev_sub, ev_ltT, ev_ltF, ev_leT, ev_leF, ev_eqT, ev_eqF, ev_cl, ev_in, gd_t, bd_s, lt_e, ev_of, ↓reduceIte, decide_true, true_or, or_true, ev_l0, ev_l1, ev_l2, ev_l3, ev_l4, ev_l5, ev_l6, ev_l7, ev_l8, ev_l9, ev_l10, ev_l11, ev_l12, ev_l13, ev_l14, ev_l15, ev_l16, ev_l17, ev_l18, ev_l19, ev_l20, ev_l21, ev_l22, ev_l23, ev_l24, ev_l25, ev_l26, ev_l30, ev_l31, ev_l32, ev_l37, ev_l40, ev_l41, ev_l43, ev_l48, ev_l49, ev_l51, ev_l55, ev_l57, ev_l58, ev_l60, ev_l61, ev_l79, ev_l85, ev_l91, ev_l99, ev_l100, ev_l107, ev_l115, ev_l127, ev_l140, ev_l215, ev_l220, ev_l920, ev_l9999, ev_nT, ev_nF, ev_nlT, ev_nlF, ev_pm]
  · simp (disch := first | omega | assumption) only [ev_add, ev_mul, ev_rem, ev_sub, ev_ltT, ev_ltF, ev_leT, ev_leF, ev_eqT, ev_eqF, ev_cl, ev_in, gd_t, bd_s, lt_e, ev_of, ↓reduceIte, decide_true, true_or, or_true, ev_l0, ev_l1, ev_l2, ev_l3, ev_l4, ev_l5, ev_l6, ev_l7, ev_l8, ev_l9, ev_l10, ev_l11, ev_l12, ev_l13, ev_l14, ev_l15, ev_l16, ev_l17, ev_l18, ev_l19, ev_l20, ev_l21, ev_l22, ev_l23, ev_l24, ev_l25, ev_l26, ev_l30, ev_l31, ev_l32, ev_l37, ev_l40, ev_l41, ev_l43, ev_l48, ev_l49, ev_l51, ev_l55, ev_l57, ev_l58, ev_l60, ev_l61, ev_l79, ev_l85, ev_l91, ev_l99, ev_l100, ev_l107, ev_l115, ev_l127, ev_l140, ev_l215, ev_l220, ev_l920, ev_l9999, ev_nT, ev_nF, ev_nlT, ev_nlF, k4]
