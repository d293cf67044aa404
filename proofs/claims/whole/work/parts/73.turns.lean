/-! turns, sways -/
theorem lqf_ {X : Type} (W : Nat → Nat → X → Prop) (I : Nat → X → Prop) (e : Nat) (hx : ∀ n s, I e s → W (n + 1) e s) (hs : ∀ n i s, i < e → I i s → (∀ s', I (i + 1) s' → W n (i + 1) s') → W (n + 1) i s) : ∀ n i s, i ≤ e → e < i + n → I i s → W n i s := by
  intro n
  induction n with
  | zero => intro i s h1 h2; omega
  | succ n ih =>
    intro i s h1 h2 h3
    by_cases h : i = e
    · subst h; exact hx n s h3
    · exact hs n i s (by omega) h3 (fun s' h' => ih (i + 1) s' (by omega) (by omega) h')
def sp_x (b : Nat → Nat) (s v : Nat) : Nat := b v ^^^ (s / 2 ^ v % 2)
theorem x01 : ∀ a, a < 2 → ∀ b, b < 2 → a ^^^ b < 2 := by decide
theorem sp_x_le {b : Nat → Nat} {s v : Nat} (h : b v ≤ 1) : sp_x b s v ≤ 1 := by
  have := x01 (b v) (by omega) (s / 2 ^ v % 2) (by omega)
  unfold sp_x
  omega
theorem dm_x (x y i : Nat) : (x ^^^ y) / 2 ^ i % 2 = (x / 2 ^ i % 2) ^^^ (y / 2 ^ i % 2) := by
  rw [tb_dm, tb_dm, tb_dm, Nat.testBit_xor]
  cases x.testBit i <;> cases y.testBit i <;> rfl
theorem cm_tw {S : Nat → Nat} {σ : jx_M} {b : Nat → Nat} (m0 : σ 1 0 = nI (S 0)) (b6 : S 0 ≤ 6) (mw : ∀ v, v < S 0 → σ 1 (49 + v) = nI (b v)) {s : Nat} (hs : s < 2 ^ 31) : ∃ σ', f_X6_turnsWishes σ (nI s) = some σ' ∧ (∀ a, ¬ a = 1 → σ' a = σ a) ∧ (∀ v, v < S 0 → σ' 1 (49 + v) = nI (sp_x b s v)) ∧ ∀ i, ¬ (49 ≤ i ∧ i < 49 + S 0) → σ' 1 i = σ 1 i := by
  unfold f_X6_turnsWishes
  refine lq_ (fun n i τ => ∃ σ', b_X6_turnsWishes_2 n τ (nI s) (nI i) = some σ' ∧ (∀ a, ¬ a = 1 → σ' a = σ a) ∧ (∀ v, v < S 0 → σ' 1 (49 + v) = nI (sp_x b s v)) ∧ ∀ i, ¬ (49 ≤ i ∧ i < 49 + S 0) → σ' 1 i = σ 1 i) (fun i τ => (∀ a, ¬ a = 1 → τ a = σ a) ∧ (∀ v, v < S 0 → τ 1 (49 + v) = nI (if v < i then sp_x b s v else b v)) ∧ ∀ i, ¬ (49 ≤ i ∧ i < 49 + S 0) → τ 1 i = σ 1 i) (S 0) ?_ ?_ 0 σ (by omega) (by omega) ⟨fun _ _ => rfl, fun v hv => by rw [if_neg (by omega)]; exact mw v hv, fun _ _ => rfl⟩
  · intro n τ ⟨i1, i2, i3⟩
    simp only [b_X6_turnsWishes_2, g_X6_turnsWishes_2]
    rw [i3 0 (by omega), m0, if_pos (Int32.le_refl _)]
    refine ⟨τ, rfl, i1, fun v hv => ?_, i3⟩
    rw [i2 v hv, if_pos hv]
  · intro n i τ hi ⟨i1, i2, i3⟩ ih
    have t0 : τ 1 0 = nI (S 0) := by rw [i3 0 (by omega)]; exact m0
    have t1 := i2 i hi
    rw [if_neg (show ¬ i < i by omega)] at t1
    simp only [b_X6_turnsWishes_2, g_X6_turnsWishes_2]
    simp (disch := first | omega | assumption) only [ev_add, ev_mul, ev_rem, ev_sub, ev_ltT, ev_ltF, ev_leT, ev_leF, ev_eqT, ev_eqF, ev_cl, ev_in, gd_t, bd_s, lt_e, ev_of, ↓reduceIte, decide_true, true_or, or_true, ev_l0, ev_l1, ev_l2, ev_l3, ev_l4, ev_l5, ev_l6, ev_l7, ev_l8, ev_l9, ev_l10, ev_l11, ev_l12, ev_l13, ev_l14, ev_l15, ev_l16, ev_l17, ev_l18, ev_l19, ev_l20, ev_l21, ev_l22, ev_l23, ev_l24, ev_l25, ev_l26, ev_l30, ev_l31, ev_l32, ev_l37, ev_l40, ev_l41, ev_l43, ev_l48, ev_l49, ev_l51, ev_l55, ev_l57, ev_l58, ev_l60, ev_l61, ev_l79, ev_l85, ev_l91, ev_l99, ev_l100, ev_l107, ev_l115, ev_l127, ev_l140, ev_l215, ev_l220, ev_l920, ev_l9999, ev_nT, ev_nF, ev_nlT, ev_nlF, t0, t1, bi_shr hs (show i < 8 by omega), bi_xor]
    refine ih _ ⟨fun a ha => ?_, fun v hv => ?_, fun j hj => ?_⟩
    · rw [mu_a ha]; exact i1 a ha
    · by_cases e : v = i
      · subst e; rw [mu_s, if_pos (by omega)]; rfl
      · rw [mu_n (by omega), i2 v hv]
        by_cases g : v < i
        · rw [if_pos g, if_pos (by omega)]
        · rw [if_neg g, if_neg (by omega)]
    · rw [mu_n (by omega)]; exact i3 j hj
theorem sp_xx {b : Nat → Nat} {s v : Nat} : sp_x (sp_x b s) s v = b v := by
  unfold sp_x
  rw [Nat.xor_assoc, Nat.xor_self, Nat.xor_zero]
theorem cm_by {S : Nat → Nat} {F : rt_F} {L C : Nat → Nat} {σ : jx_M} (h : NM S F 7 L C σ) (hw : cs_w S F) (hb : ns_b S L C) {s : Nat} (hs : s < 2 ^ 31) : f_X6_mayorBy σ (nI s) = some (sp_M S F L C (sp_x (fun v => S (49 + v)) s), σ) := by
  have b6 := hw.1.2.1
  have m0 : σ 1 0 = nI (S 0) := h.1.1.1 0 (by omega) (by omega) (by omega)
  obtain ⟨σ1, e1, e2, e3, e4⟩ := cm_tw m0 (by omega) (fun v hv => (NM_w h hw v hv).1) hs
  have m1 : σ1 1 0 = nI (S 0) := by rw [e4 0 (by omega)]; exact m0
  obtain ⟨σ2, f1, f2, f3, f4⟩ := cm_tw m1 (by omega) e3 hs
  have es : σ2 = σ := by
    funext a i
    by_cases ha : a = 1
    · subst ha
      by_cases hi : 49 ≤ i ∧ i < 49 + S 0
      · obtain ⟨v, rfl⟩ : ∃ v, i = 49 + v := ⟨i - 49, by omega⟩
        rw [f3 v (by omega), sp_xx]
        exact (NM_w h hw v (by omega)).1.symm
      · rw [f4 i hi, e4 i hi]
    · rw [f2 a ha, e2 a ha]
  have mb := cm_mayor (σ := σ1) hw hb m1 (fun v hv => ⟨e3 v hv, sp_x_le (NM_w h hw v hv).2⟩) (nc_m_c h.2.1 (e2 5 (by omega)) (e2 6 (by omega))) (fun v hv => by rw [e2 7 (by omega), e2 8 (by omega)]; exact h.2.2 v hv)
  unfold f_X6_mayorBy
  rw [e1, bd_s, mb, bd_s, f1, bd_s, es]
def sp_p (s : Nat) : Nat → Nat
  | 0 => 0
  | k + 1 => sp_p s k + s / 2 ^ k % 2
theorem cnt_m {s : Nat} (hs : s < 2 ^ 31) : f_X6_count1 (nI s) = some (nI (sp_p s 7)) := by
  unfold f_X6_count1
  refine lq_ (X := Unit) (fun n i _ => b_X6_count1_4 n (nI s) (nI (sp_p s i)) (nI i) = some (nI (sp_p s 7))) (fun _ _ => True) 7 ?_ ?_ 0 () (by omega) (by omega) trivial
  · intro n _ _
    simp only [b_X6_count1_4, g_X6_count1_4]
    rw [if_pos (show (7 : Int32) ≤ nI 7 by decide)]
  · intro n i _ hi _ ih
    simp only [b_X6_count1_4, g_X6_count1_4]
    simp (disch := first | omega | assumption) only [ev_add, ev_mul, ev_rem, ev_sub, ev_ltT, ev_ltF, ev_leT, ev_leF, ev_eqT, ev_eqF, ev_cl, ev_in, gd_t, bd_s, lt_e, ev_of, ↓reduceIte, decide_true, true_or, or_true, ev_l0, ev_l1, ev_l2, ev_l3, ev_l4, ev_l5, ev_l6, ev_l7, ev_l8, ev_l9, ev_l10, ev_l11, ev_l12, ev_l13, ev_l14, ev_l15, ev_l16, ev_l17, ev_l18, ev_l19, ev_l20, ev_l21, ev_l22, ev_l23, ev_l24, ev_l25, ev_l26, ev_l30, ev_l31, ev_l32, ev_l37, ev_l40, ev_l41, ev_l43, ev_l48, ev_l49, ev_l51, ev_l55, ev_l57, ev_l58, ev_l60, ev_l61, ev_l79, ev_l85, ev_l91, ev_l99, ev_l100, ev_l107, ev_l115, ev_l127, ev_l140, ev_l215, ev_l220, ev_l920, ev_l9999, ev_nT, ev_nF, ev_nlT, ev_nlF, bi_shr hs (show i < 8 by omega)]
    exact ih () trivial
theorem cnt_l : ∀ s, s < 64 → f_J6_bitCount_0f7a4 (nI s) = some (nI (sp_p s 7)) := by decide +kernel
theorem cnt_b : ∀ n, n ≤ 6 → ∀ s, s < 2 ^ n → sp_p s 7 ≤ n := by decide +kernel
theorem sp_M_c (S : Nat → Nat) (F : rt_F) (L C b : Nat → Nat) : sp_M S F L C b = -5 ∨ sp_M S F L C b = nI 1 ∨ sp_M S F L C b = nI 0 := by
  unfold sp_M sp_my
  repeat' split
  · exact Or.inl rfl
  · exact Or.inr (Or.inl rfl)
  · exact Or.inr (Or.inr rfl)
theorem p6_ : ∀ n, n ≤ 6 → 2 ^ n ≤ 64 := by decide
theorem op_turns : lw_op_turns RR := by
  intro t σl σm a0 hR
  obtain ⟨S, F, hl, hm, hw, h20⟩ := RR_o hR
  have n6 : σl 0 0 = nI (S 6) := hl.1.1.1
  have n7 : σl 0 1 = nI (S 7) := hl.1.1.2.1
  have n0 : σl 0 2 = nI (S 0) := hl.1.1.2.2.1
  have m0 : σm 1 0 = nI (S 0) := hm.1.1 0 (by omega) (by omega) (by omega)
  have m6 : σm 1 6 = nI (S 6) := hm.1.1 6 (by omega) (by omega) (by omega)
  have m7 : σm 1 7 = nI (S 7) := hm.1.1 7 (by omega) (by omega) (by omega)
  have bw := hw.1.2.1
  have b7 := hw.1.1 7
  unfold f_X5_turns f_X6_turns f_X2_turning
  rcases ix_p a0 2 (by omega) with h | ⟨w, hw2, rfl⟩
  · simp (disch := first | omega | assumption) only [ev_add, ev_mul, ev_rem, ev_sub, ev_ltT, ev_ltF, ev_leT, ev_leF, ev_eqT, ev_eqF, ev_cl, ev_in, gd_t, bd_s, lt_e, ev_of, ↓reduceIte, decide_true, true_or, or_true, ev_l0, ev_l1, ev_l2, ev_l3, ev_l4, ev_l5, ev_l6, ev_l7, ev_l8, ev_l9, ev_l10, ev_l11, ev_l12, ev_l13, ev_l14, ev_l15, ev_l16, ev_l17, ev_l18, ev_l19, ev_l20, ev_l21, ev_l22, ev_l23, ev_l24, ev_l25, ev_l26, ev_l30, ev_l31, ev_l32, ev_l37, ev_l40, ev_l41, ev_l43, ev_l48, ev_l49, ev_l51, ev_l55, ev_l57, ev_l58, ev_l60, ev_l61, ev_l79, ev_l85, ev_l91, ev_l99, ev_l100, ev_l107, ev_l115, ev_l127, ev_l140, ev_l215, ev_l220, ev_l920, ev_l9999, ev_nT, ev_nF, ev_nlT, ev_nlF, wi_e, show f_X6_in a0 (nI 0) (nI 1) = _ from in_f (n := 2) h (by omega) (by omega)]
    exact ⟨_, _, _, rfl, rfl, hR⟩
  · obtain ⟨σl2, u1, u2, u3, u4⟩ := NL_pass hl hw h20
    obtain ⟨σm1, σm2, g1, g2, g3, g4⟩ := NM_pass hm hw
    have bb := tp_b (F := F) hw.1 (k := 7)
    generalize hL : tp_l S F 7 = L at u4 g4 bb
    generalize hC : tp_c S F = C at u4 g4 bb
    have fin : RR t σl2 σm2 := RR_night hR u2 u3 g3
    have wb : ∀ v, v < S 0 → S (49 + v) ≤ 1 := fun v hv => (hw.1.2.2.2.1 v hv).2.2.2.1
    have Bl := sp_B_lt (b := fun v => S (49 + v)) (n := S 0) wb
    have Bl2 := p6_ (S 0) (by omega)
    have n02 : σl2 0 2 = nI (S 0) := u4.1.1.1.2.2.1
    have m02 : σm2 1 0 = nI (S 0) := g4.1.1.1 0 (by omega) (by omega) (by omega)
    have ma := cl_mayor u4 hw bb (B := sp_B (fun v => S (49 + v)) (S 0)) (by omega)
    rw [sp_Mb (b' := fun v => S (49 + v)) (fun v hv => sp_B_b (b := fun v => S (49 + v)) wb hv)] at ma
    have mb := cm_mayor hw bb m02 (NM_w g4 hw) g4.2.1 g4.2.2
    have mc : ∀ s, s < 2 ^ S 0 → f_X2_mayor t σl2 (nI (sp_B (fun v => S (49 + v)) (S 0)) ^^^ nI s) = some (sp_M S F L C (sp_x (fun v => S (49 + v)) s)) := by
      intro s hs
      have xl : sp_B (fun v => S (49 + v)) (S 0) ^^^ s < 2 ^ S 0 := Nat.xor_lt_two_pow Bl hs
      rw [bi_xor, cl_mayor u4 hw bb (by omega)]
      rw [sp_Mb (b' := sp_x (fun v => S (49 + v)) s) (fun v hv => by rw [dm_x, sp_B_b (b := fun v => S (49 + v)) wb hv]; rfl)]
    generalize hM : sp_M S F L C (fun v => S (49 + v)) = M0 at ma mb
    have sh : ((1 : Int32) <<< (nI (S 0) &&& 31)) = nI (2 ^ S 0) := bi_shl (S 0) (by omega)
    have key := lqf_ (X := Int32 × Int32 × Int32) (fun n i s => ∃ r x, b_X2_turning_35 t (n + 1) σl2 (nI (sp_B (fun v => S (49 + v)) (S 0))) M0 s.1 s.2.1 (nI i) = some (r, σl2) ∧ b_X6_turns_34 n σm2 (nI w) M0 s.1 s.2.2 (nI i) = some (x, σm2) ∧ ((r = -5 ∧ x = -5) ∨ ∃ k, k < 64 ∧ r = nI k ∧ x = if w = 0 then nI (sp_p k 7) else nI k)) (fun i s => (s.1 = -5 ∧ s.2.1 = nI (S 0 + 1) ∧ s.2.2 = nI 99) ∨ ∃ k, k < 64 ∧ s.1 = nI k ∧ s.2.1 = nI (sp_p k 7) ∧ s.2.2 = nI (sp_p k 7)) (2 ^ S 0) ?_ ?_ 999 1 (-5, nI (S 0 + 1), nI 99) Nat.one_le_two_pow (by omega) (Or.inl ⟨rfl, rfl, rfl⟩)
    · obtain ⟨r, x, q1, q2, q3⟩ := key
      have q2' : b_X6_turns_34 jx_fuel σm2 (nI w) M0 (-nI 5) (nI 99) (nI 0) = some (x, σm2) := by
        show g_X6_turns_34 (b_X6_turns_34 999) σm2 (nI w) M0 (-5) (nI 99) (nI 0) = _
        unfold g_X6_turns_34
        rw [m02, sh, if_neg (nI_ge (Nat.two_pow_pos _) (by omega)), cm_by g4 hw bb (by omega), bd_s]
        have e : sp_M S F L C (sp_x (fun v => S (49 + v)) 0) = M0 := by
          rw [← hM]
          refine sp_Mb (fun v hv => ?_)
          unfold sp_x
          rw [Nat.zero_div, Nat.zero_mod, Nat.xor_zero]
        rw [e]
        simp only [b_X6_turns_82, b_X6_turns_83, b_X6_turns_96, b_X6_turns_112, ↓reduceIte, ite_self, lt_e]
        exact q2
      simp (disch := first | omega | assumption) only [ev_add, ev_mul, ev_rem, ev_sub, ev_ltT, ev_ltF, ev_leT, ev_leF, ev_eqT, ev_eqF, ev_cl, ev_in, gd_t, bd_s, lt_e, ev_of, ↓reduceIte, decide_true, true_or, or_true, ev_l0, ev_l1, ev_l2, ev_l3, ev_l4, ev_l5, ev_l6, ev_l7, ev_l8, ev_l9, ev_l10, ev_l11, ev_l12, ev_l13, ev_l14, ev_l15, ev_l16, ev_l17, ev_l18, ev_l19, ev_l20, ev_l21, ev_l22, ev_l23, ev_l24, ev_l25, ev_l26, ev_l30, ev_l31, ev_l32, ev_l37, ev_l40, ev_l41, ev_l43, ev_l48, ev_l49, ev_l51, ev_l55, ev_l57, ev_l58, ev_l60, ev_l61, ev_l79, ev_l85, ev_l91, ev_l99, ev_l100, ev_l107, ev_l115, ev_l127, ev_l140, ev_l215, ev_l220, ev_l920, ev_l9999, ev_nT, ev_nF, ev_nlT, ev_nlF, wi_e, show f_X6_in (nI w) (nI 0) (nI 1) = _ from in_t (n := 2) hw2 (by omega), u1, g1, g2, cl_wishes u4.1 hw, ma, mb, n02, show b_X2_turning_35 t jx_fuel σl2 (nI (sp_B (fun v => S (49 + v)) (S 0))) M0 (-nI 5) (nI (S 0 + 1)) (nI 1) = _ from q1, q2']
      rcases q3 with ⟨rfl, rfl⟩ | ⟨k, hk, rfl, rfl⟩
      · simp only [show (nI 0 ≤ (-5 : Int32)) = False from eq_false (by decide), ↓reduceIte, ite_self]
        exact ⟨_, _, _, rfl, rfl, fin⟩
      · by_cases z : w = 0
        · simp (disch := first | omega | assumption) only [ev_add, ev_mul, ev_rem, ev_sub, ev_ltT, ev_ltF, ev_leT, ev_leF, ev_eqT, ev_eqF, ev_cl, ev_in, gd_t, bd_s, lt_e, ev_of, ↓reduceIte, decide_true, true_or, or_true, ev_l0, ev_l1, ev_l2, ev_l3, ev_l4, ev_l5, ev_l6, ev_l7, ev_l8, ev_l9, ev_l10, ev_l11, ev_l12, ev_l13, ev_l14, ev_l15, ev_l16, ev_l17, ev_l18, ev_l19, ev_l20, ev_l21, ev_l22, ev_l23, ev_l24, ev_l25, ev_l26, ev_l30, ev_l31, ev_l32, ev_l37, ev_l40, ev_l41, ev_l43, ev_l48, ev_l49, ev_l51, ev_l55, ev_l57, ev_l58, ev_l60, ev_l61, ev_l79, ev_l85, ev_l91, ev_l99, ev_l100, ev_l107, ev_l115, ev_l127, ev_l140, ev_l215, ev_l220, ev_l920, ev_l9999, ev_nT, ev_nF, ev_nlT, ev_nlF, z, cnt_l k hk]
          exact ⟨_, _, _, rfl, rfl, fin⟩
        · have z1 : w = 1 := by omega
          simp (disch := first | omega | assumption) only [ev_add, ev_mul, ev_rem, ev_sub, ev_ltT, ev_ltF, ev_leT, ev_leF, ev_eqT, ev_eqF, ev_cl, ev_in, gd_t, bd_s, lt_e, ev_of, ↓reduceIte, decide_true, true_or, or_true, ev_l0, ev_l1, ev_l2, ev_l3, ev_l4, ev_l5, ev_l6, ev_l7, ev_l8, ev_l9, ev_l10, ev_l11, ev_l12, ev_l13, ev_l14, ev_l15, ev_l16, ev_l17, ev_l18, ev_l19, ev_l20, ev_l21, ev_l22, ev_l23, ev_l24, ev_l25, ev_l26, ev_l30, ev_l31, ev_l32, ev_l37, ev_l40, ev_l41, ev_l43, ev_l48, ev_l49, ev_l51, ev_l55, ev_l57, ev_l58, ev_l60, ev_l61, ev_l79, ev_l85, ev_l91, ev_l99, ev_l100, ev_l107, ev_l115, ev_l127, ev_l140, ev_l215, ev_l220, ev_l920, ev_l9999, ev_nT, ev_nF, ev_nlT, ev_nlF, z1]
          exact ⟨_, _, _, rfl, rfl, fin⟩
    · intro n s hI
      simp only [b_X2_turning_35, g_X2_turning_35, b_X6_turns_34, g_X6_turns_34]
      rw [n02, m02, sh, if_pos (Int32.le_refl _), if_pos (Int32.le_refl _)]
      rcases hI with ⟨e1, e2, e3⟩ | ⟨k, hk, e1, e2, e3⟩
      · rw [e1, if_pos rfl]
        exact ⟨_, _, rfl, rfl, Or.inl ⟨rfl, rfl⟩⟩
      · rw [e1, e3, if_neg (show ¬ nI k = (-5 : Int32) from fun e => nI_pos (n := k) (by omega) (by rw [e]; decide))]
        refine ⟨nI k, if w = 0 then nI (sp_p k 7) else nI k, rfl, ?_, Or.inr ⟨k, hk, rfl, rfl⟩⟩
        by_cases z : w = 0
        · rw [if_pos z, z, if_pos (show nI 0 = (0 : Int32) from rfl)]
        · rw [if_neg z, if_neg (nI_ne0 (by omega) (by omega))]
    · intro n i s hi hI ih
      have cb := cnt_b (S 0) (by omega) i hi
      have li : nI i + (1 : Int32) = nI (i + 1) := nI_1 i
      have y1 : b_X2_turning_35 t (n + 1 + 1) σl2 (nI (sp_B (fun v => S (49 + v)) (S 0))) M0 s.1 s.2.1 (nI i) = (if sp_M S F L C (sp_x (fun v => S (49 + v)) i) = M0 then b_X2_turning_35 t (n + 1) σl2 (nI (sp_B (fun v => S (49 + v)) (S 0))) M0 s.1 s.2.1 (nI (i + 1)) else if sp_M S F L C (sp_x (fun v => S (49 + v)) i) = -5 then b_X2_turning_35 t (n + 1) σl2 (nI (sp_B (fun v => S (49 + v)) (S 0))) M0 s.1 s.2.1 (nI (i + 1)) else if s.2.1 ≤ nI (sp_p i 7) then b_X2_turning_35 t (n + 1) σl2 (nI (sp_B (fun v => S (49 + v)) (S 0))) M0 s.1 s.2.1 (nI (i + 1)) else b_X2_turning_35 t (n + 1) σl2 (nI (sp_B (fun v => S (49 + v)) (S 0))) M0 (nI i) (nI (sp_p i 7)) (nI (i + 1))) := by
        show g_X2_turning_35 t (b_X2_turning_35 t (n + 1)) σl2 (nI (sp_B (fun v => S (49 + v)) (S 0))) M0 s.1 s.2.1 (nI i) = _
        unfold g_X2_turning_35
        rw [n02, sh, if_neg (nI_ge hi (by omega)), mc i hi, bd_s]
        simp only [b_X2_turning_76, b_X2_turning_77, b_X2_turning_104, ↓reduceIte, lt_e, li, cnt_l i (by omega), bd_s, show ¬ (1 : Int32) = 0 by decide]
      have y2 : b_X6_turns_34 (n + 1) σm2 (nI w) M0 s.1 s.2.2 (nI i) = (if sp_M S F L C (sp_x (fun v => S (49 + v)) i) = -5 then b_X6_turns_34 n σm2 (nI w) M0 s.1 s.2.2 (nI (i + 1)) else if sp_M S F L C (sp_x (fun v => S (49 + v)) i) = M0 then b_X6_turns_34 n σm2 (nI w) M0 s.1 s.2.2 (nI (i + 1)) else if s.2.2 ≤ nI (sp_p i 7) then b_X6_turns_34 n σm2 (nI w) M0 s.1 s.2.2 (nI (i + 1)) else b_X6_turns_34 n σm2 (nI w) M0 (nI i) (nI (sp_p i 7)) (nI (i + 1))) := by
        show g_X6_turns_34 (b_X6_turns_34 n) σm2 (nI w) M0 s.1 s.2.2 (nI i) = _
        unfold g_X6_turns_34
        rw [m02, sh, if_neg (nI_ge hi (by omega)), cm_by g4 hw bb (by omega), bd_s]
        simp only [b_X6_turns_82, b_X6_turns_83, b_X6_turns_96, b_X6_turns_112, ↓reduceIte, lt_e, li, cnt_m (s := i) (by omega), bd_s, show ¬ (1 : Int32) = 0 by decide]
      rw [y1, y2]
      by_cases c1 : sp_M S F L C (sp_x (fun v => S (49 + v)) i) = M0
      · rw [if_pos c1, if_pos c1, ite_self]
        exact ih s hI
      · rw [if_neg c1, if_neg c1]
        by_cases c2 : sp_M S F L C (sp_x (fun v => S (49 + v)) i) = -5
        · rw [if_pos c2, if_pos c2]
          exact ih s hI
        · rw [if_neg c2, if_neg c2]
          have new := ih (nI i, nI (sp_p i 7), nI (sp_p i 7)) (Or.inr ⟨i, by omega, rfl, rfl, rfl⟩)
          rcases hI with ⟨e1, e2, e3⟩ | ⟨k, hk, e1, e2, e3⟩
          · rw [e2, e3, if_neg (nI_ge (by omega) (by omega)), if_neg (nI_ge (by omega) (by omega))]
            exact new
          · by_cases c3 : nI (sp_p k 7) ≤ nI (sp_p i 7)
            · rw [e2, e3, if_pos c3, if_pos c3, ← e2, e2.trans e3.symm]
              have old := ih s (Or.inr ⟨k, hk, e1, e2, e3⟩)
              rw [e2.trans e3.symm] at old
              exact old
            · rw [e2, e3, if_neg c3, if_neg c3]
              exact new
