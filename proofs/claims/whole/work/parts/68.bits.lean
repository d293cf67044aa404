/-! bits; sums of votes (the first two: kit/laws) -/
theorem bi_and (a b : Nat) : nI a &&& nI b = nI (a &&& b) := by
  apply Int32.toBitVec_inj.1
  show BitVec.ofNat 32 a &&& BitVec.ofNat 32 b = BitVec.ofNat 32 (a &&& b)
  apply BitVec.eq_of_getLsbD_eq
  intro i hi
  simp [hi]
theorem bi_or (a b : Nat) : nI a ||| nI b = nI (a ||| b) := by
  apply Int32.toBitVec_inj.1
  show BitVec.ofNat 32 a ||| BitVec.ofNat 32 b = BitVec.ofNat 32 (a ||| b)
  apply BitVec.eq_of_getLsbD_eq
  intro i hi
  simp [hi]
theorem bi_xor (a b : Nat) : nI a ^^^ nI b = nI (a ^^^ b) := by
  apply Int32.toBitVec_inj.1
  show BitVec.ofNat 32 a ^^^ BitVec.ofNat 32 b = BitVec.ofNat 32 (a ^^^ b)
  apply BitVec.eq_of_getLsbD_eq
  intro i hi
  simp [hi]
theorem bi_sm : ∀ i, i < 8 → ((nI i &&& nI 31).toBitVec.smod 32).toNat = i := by decide
theorem bi_shr {x i : Nat} (hx : x < 2 ^ 31) (hi : i < 8) : (nI x >>> (nI i &&& nI 31)) &&& nI 1 = nI (x / 2 ^ i % 2) := by
  rw [pk_shrN hx _ i (bi_sm i hi), bi_and, Nat.and_one_is_mod]
theorem bi_shl : ∀ i, i < 8 → (nI 1 <<< (nI i &&& nI 31) : Int32) = nI (2 ^ i) := by decide
theorem bi_shb : ∀ b, b < 2 → ∀ i, i < 8 → (nI b <<< (nI i &&& nI 31) : Int32) = nI (b * 2 ^ i) := by decide
theorem bi_p2 {i n : Nat} (h : i ≤ n) : 2 ^ i ≤ 2 ^ n := Nat.pow_le_pow_right (by omega) h
def bu (P : Nat → Bool) : Nat → Nat
  | 0 => 0
  | i + 1 => bu P i ||| if P i = true then 2 ^ i else 0
theorem bu_t (P : Nat → Bool) : ∀ n i, (bu P n).testBit i = (decide (i < n) && P i)
  | 0, i => by show (0 : Nat).testBit i = _; simp
  | n + 1, i => by
    show (bu P n ||| if P n = true then 2 ^ n else 0).testBit i = _
    rw [Nat.testBit_or, bu_t P n i]
    by_cases h : i = n
    · subst h
      by_cases g : P i = true
      · simp [g]
      · simp [g]
    · have e : decide (i < n + 1) = decide (i < n) := decide_eq_decide.mpr (by omega)
      have h' : ¬ n = i := fun z => h z.symm
      rw [e]
      by_cases g : P n = true
      · rw [if_pos g]; simp [Nat.testBit_two_pow, h']
      · rw [if_neg g]; simp
theorem bu_lt (P : Nat → Bool) : ∀ n, bu P n < 2 ^ n
  | 0 => by show (0 : Nat) < 2 ^ 0; decide
  | n + 1 => by
    have h := bu_lt P n
    show (bu P n ||| if P n = true then 2 ^ n else 0) < 2 ^ (n + 1)
    refine Nat.or_lt_two_pow (Nat.lt_trans h (by rw [Nat.pow_succ]; omega)) ?_
    split
    · rw [Nat.pow_succ]; have := Nat.two_pow_pos n; omega
    · exact Nat.two_pow_pos _
theorem tb_dm (x i : Nat) : x / 2 ^ i % 2 = (x.testBit i).toNat := by
  rw [Nat.testBit_eq_decide_div_mod_eq]
  by_cases h : x / 2 ^ i % 2 = 1
  · rw [h]; rfl
  · have : x / 2 ^ i % 2 = 0 := by omega
    rw [this]; rfl
def sp_lf (P : Nat → Bool) : Nat → Nat → Int32
  | 0, _ => -5
  | n + 1, i => if P i = true then nI i else sp_lf P n (i + 1)
theorem least_e (P : Nat → Bool) {n : Nat} (hn : n ≤ 7) : f_X5_leastOf (nI (bu P n)) = some (sp_lf P n 0) := by
  have b1 := bu_lt P n
  have b2 := bi_p2 (i := n) (n := 7) hn
  unfold f_X5_leastOf
  refine lq_ (X := Unit) (fun m i _ => b_X5_leastOf_2 m (nI (bu P n)) (nI i) = some (sp_lf P (n - i) i)) (fun _ _ => True) 7 ?_ ?_ 0 () (by omega) (by omega) trivial
  · intro m _ _
    simp only [b_X5_leastOf_2, g_X5_leastOf_2]
    rw [show n - 7 = 0 by omega]
    show _ = some (-5 : Int32)
    simp (disch := first | omega | assumption) only [ev_add, ev_mul, ev_rem, ev_sub, ev_ltT, ev_ltF, ev_leT, ev_leF, ev_eqT, ev_eqF, ev_cl, ev_in, gd_t, bd_s, lt_e, ev_of, ↓reduceIte, decide_true, true_or, or_true, ev_l0, ev_l1, ev_l2, ev_l3, ev_l4, ev_l5, ev_l6, ev_l7, ev_l8, ev_l9, ev_l10, ev_l11, ev_l12, ev_l13, ev_l14, ev_l15, ev_l16, ev_l17, ev_l18, ev_l19, ev_l20, ev_l21, ev_l22, ev_l23, ev_l24, ev_l25, ev_l26, ev_l30, ev_l31, ev_l32, ev_l37, ev_l40, ev_l41, ev_l43, ev_l48, ev_l49, ev_l51, ev_l55, ev_l57, ev_l58, ev_l60, ev_l61, ev_l79, ev_l85, ev_l91, ev_l99, ev_l100, ev_l107, ev_l115, ev_l127, ev_l140, ev_l215, ev_l220, ev_l920, ev_l9999, ev_nT, ev_nF, ev_nlT, ev_nlF]
  · intro m i _ hi _ ih
    have ih' := ih () trivial
    have hx : bu P n < 2 ^ 31 := by omega
    simp only [b_X5_leastOf_2, g_X5_leastOf_2]
    simp (disch := first | omega | assumption) only [ev_add, ev_mul, ev_rem, ev_sub, ev_ltT, ev_ltF, ev_leT, ev_leF, ev_eqT, ev_eqF, ev_cl, ev_in, gd_t, bd_s, lt_e, ev_of, ↓reduceIte, decide_true, true_or, or_true, ev_l0, ev_l1, ev_l2, ev_l3, ev_l4, ev_l5, ev_l6, ev_l7, ev_l8, ev_l9, ev_l10, ev_l11, ev_l12, ev_l13, ev_l14, ev_l15, ev_l16, ev_l17, ev_l18, ev_l19, ev_l20, ev_l21, ev_l22, ev_l23, ev_l24, ev_l25, ev_l26, ev_l30, ev_l31, ev_l32, ev_l37, ev_l40, ev_l41, ev_l43, ev_l48, ev_l49, ev_l51, ev_l55, ev_l57, ev_l58, ev_l60, ev_l61, ev_l79, ev_l85, ev_l91, ev_l99, ev_l100, ev_l107, ev_l115, ev_l127, ev_l140, ev_l215, ev_l220, ev_l920, ev_l9999, ev_nT, ev_nF, ev_nlT, ev_nlF, bi_shr hx (show i < 8 by omega), tb_dm, bu_t]
    by_cases h : i < n
    · rw [show n - i = (n - (i + 1)) + 1 by omega]
      show _ = some (if P i = true then nI i else sp_lf P (n - (i + 1)) (i + 1))
      by_cases g : P i = true
      · rw [if_pos g, g, decide_eq_true h]; rfl
      · rw [if_neg g]
        have g' : P i = false := by cases z : P i with
          | true => exact absurd z g
          | false => rfl
        rw [g', Bool.and_false]
        exact ih'
    · rw [show n - i = 0 by omega]
      rw [show n - (i + 1) = 0 by omega] at ih'
      rw [decide_eq_false h, Bool.false_and]
      exact ih'
/-! sums -/
def sp_q (w b : Nat → Nat) (x : Nat) : Nat → Nat
  | 0 => 0
  | i + 1 => sp_q w b x i + if b i = x then w i else 0
theorem sp_q_le {w : Nat → Nat} (b : Nat → Nat) (x : Nat) : ∀ n, (∀ v, v < n → w v ≤ 991) → sp_q w b x n ≤ 991 * n
  | 0, _ => Nat.le_refl 0
  | n + 1, h => by
    have h1 := sp_q_le b x n (fun v hv => h v (by omega))
    have h2 := h n (by omega)
    show sp_q w b x n + (if b n = x then w n else 0) ≤ 991 * (n + 1)
    split <;> omega
theorem sp_q_c {w w' b b' : Nat → Nat} (x : Nat) : ∀ n, (∀ v, v < n → w v = w' v ∧ b v = b' v) → sp_q w b x n = sp_q w' b' x n
  | 0, _ => rfl
  | n + 1, h => by
    have h1 := sp_q_c x n (fun v hv => h v (by omega))
    have h2 := h n (by omega)
    show sp_q w b x n + (if b n = x then w n else 0) = sp_q w' b' x n + (if b' n = x then w' n else 0)
    rw [h1, h2.1, h2.2]
def sp_W (S : Nat → Nat) (F : rt_F) (L C : Nat → Nat) (v : Nat) : Nat := C v * sp_w S F (L v)
theorem sp_W_le {S : Nat → Nat} {F : rt_F} (hw : cs_w S F) {L C : Nat → Nat} (hb : ns_b S L C) {v : Nat} (hv : v < S 0) : sp_W S F L C v ≤ 991 := by
  have h1 := sp_w_le hw (L v)
  have h2 := (hb v hv).2
  have h3 : C v = 0 ∨ C v = 1 := by omega
  unfold sp_W
  rcases h3 with e | e
  · rw [e]; omega
  · rw [e]; omega
def sp_my (v0 v1 : Nat) : Int32 := if v0 = v1 then -5 else if v0 ≤ v1 then 1 else 0
theorem cm_greater {a b : Nat} (ha : a < 2 ^ 30) (hb : b < 2 ^ 30) : f_X6_greater (nI a) (nI b) = some (sp_my a b) := by
  unfold f_X6_greater sp_my
  by_cases h : a = b
  · simp (disch := first | omega | assumption) only [ev_add, ev_mul, ev_rem, ev_sub, ev_ltT, ev_ltF, ev_leT, ev_leF, ev_eqT, ev_eqF, ev_cl, ev_in, gd_t, bd_s, lt_e, ev_of, ↓reduceIte, decide_true, true_or, or_true, ev_l0, ev_l1, ev_l2, ev_l3, ev_l4, ev_l5, ev_l6, ev_l7, ev_l8, ev_l9, ev_l10, ev_l11, ev_l12, ev_l13, ev_l14, ev_l15, ev_l16, ev_l17, ev_l18, ev_l19, ev_l20, ev_l21, ev_l22, ev_l23, ev_l24, ev_l25, ev_l26, ev_l30, ev_l31, ev_l32, ev_l37, ev_l40, ev_l41, ev_l43, ev_l48, ev_l49, ev_l51, ev_l55, ev_l57, ev_l58, ev_l60, ev_l61, ev_l79, ev_l85, ev_l91, ev_l99, ev_l100, ev_l107, ev_l115, ev_l127, ev_l140, ev_l215, ev_l220, ev_l920, ev_l9999, ev_nT, ev_nF, ev_nlT, ev_nlF]
  · by_cases g : a ≤ b
    · simp (disch := first | omega | assumption) only [ev_add, ev_mul, ev_rem, ev_sub, ev_ltT, ev_ltF, ev_leT, ev_leF, ev_eqT, ev_eqF, ev_cl, ev_in, gd_t, bd_s, lt_e, ev_of, ↓reduceIte, decide_true, true_or, or_true, ev_l0, ev_l1, ev_l2, ev_l3, ev_l4, ev_l5, ev_l6, ev_l7, ev_l8, ev_l9, ev_l10, ev_l11, ev_l12, ev_l13, ev_l14, ev_l15, ev_l16, ev_l17, ev_l18, ev_l19, ev_l20, ev_l21, ev_l22, ev_l23, ev_l24, ev_l25, ev_l26, ev_l30, ev_l31, ev_l32, ev_l37, ev_l40, ev_l41, ev_l43, ev_l48, ev_l49, ev_l51, ev_l55, ev_l57, ev_l58, ev_l60, ev_l61, ev_l79, ev_l85, ev_l91, ev_l99, ev_l100, ev_l107, ev_l115, ev_l127, ev_l140, ev_l215, ev_l220, ev_l920, ev_l9999, ev_nT, ev_nF, ev_nlT, ev_nlF]
    · simp (disch := first | omega | assumption) only [ev_add, ev_mul, ev_rem, ev_sub, ev_ltT, ev_ltF, ev_leT, ev_leF, ev_eqT, ev_eqF, ev_cl, ev_in, gd_t, bd_s, lt_e, ev_of, ↓reduceIte, decide_true, true_or, or_true, ev_l0, ev_l1, ev_l2, ev_l3, ev_l4, ev_l5, ev_l6, ev_l7, ev_l8, ev_l9, ev_l10, ev_l11, ev_l12, ev_l13, ev_l14, ev_l15, ev_l16, ev_l17, ev_l18, ev_l19, ev_l20, ev_l21, ev_l22, ev_l23, ev_l24, ev_l25, ev_l26, ev_l30, ev_l31, ev_l32, ev_l37, ev_l40, ev_l41, ev_l43, ev_l48, ev_l49, ev_l51, ev_l55, ev_l57, ev_l58, ev_l60, ev_l61, ev_l79, ev_l85, ev_l91, ev_l99, ev_l100, ev_l107, ev_l115, ev_l127, ev_l140, ev_l215, ev_l220, ev_l920, ev_l9999, ev_nT, ev_nF, ev_nlT, ev_nlF]
theorem cl_winner {a b : Nat} (ha : a < 2 ^ 30) (hb : b < 2 ^ 30) : f_X2_winnerBy (nI b - nI a) = some (sp_my a b) := by
  have e := pk_sub_toInt hb ha
  have z : (0 : Int32).toInt = 0 := rfl
  unfold f_X2_winnerBy sp_my
  by_cases h : a = b
  · rw [if_pos (show nI b - nI a ≤ 0 by rw [Int32.le_iff_toInt_le, e, z]; omega), if_pos (show (0 : Int32) ≤ nI b - nI a by rw [Int32.le_iff_toInt_le, e, z]; omega), if_pos h]
  · by_cases g : a ≤ b
    · rw [if_neg (show ¬ (nI b - nI a ≤ 0) by rw [Int32.le_iff_toInt_le, e, z]; omega), if_neg h, if_pos g]
    · rw [if_pos (show nI b - nI a ≤ 0 by rw [Int32.le_iff_toInt_le, e, z]; omega), if_neg (show ¬ ((0 : Int32) ≤ nI b - nI a) by rw [Int32.le_iff_toInt_le, e, z]; omega), if_neg h, if_neg g]
theorem i3_a (a b w : Nat) : (nI a - nI b) + nI w = nI (a + w) - nI b := by
  rw [← nI_add, Int32.sub_eq_add_neg, Int32.sub_eq_add_neg, Int32.add_assoc, Int32.add_comm (-nI b) (nI w), ← Int32.add_assoc]
theorem i3_s (a b w : Nat) : (nI a - nI b) + -nI w = nI a - nI (b + w) := by
  have e : (nI a - nI (b + w)) + nI w = nI a - nI b := by
    rw [i3_a, ← nI_add b w, ← nI_add a w, Int32.sub_eq_add_neg, Int32.sub_eq_add_neg, Int32.neg_add, Int32.sub_eq_add_neg, Int32.add_assoc, Int32.add_comm (-nI b) (-nI w), ← Int32.add_assoc (nI w), ← Int32.sub_eq_add_neg (nI w), Int32.sub_self, Int32.zero_add]
  rw [← e, Int32.add_assoc, ← Int32.sub_eq_add_neg, Int32.sub_self, Int32.add_zero]
theorem i3_n (a b : Nat) : -(nI a - nI b) = nI b - nI a := Int32.neg_sub
def sp_B (b : Nat → Nat) : Nat → Nat
  | 0 => 0
  | i + 1 => sp_B b i ||| b i * 2 ^ i
theorem sp_B_e (b : Nat → Nat) : ∀ n, (∀ v, v < n → b v ≤ 1) → sp_B b n = bu (fun v => decide (b v = 1)) n
  | 0, _ => rfl
  | n + 1, h => by
    have h1 := sp_B_e b n (fun v hv => h v (by omega))
    have h2 := h n (by omega)
    have h3 : b n = 0 ∨ b n = 1 := by omega
    show sp_B b n ||| b n * 2 ^ n = bu (fun v => decide (b v = 1)) n ||| if decide (b n = 1) = true then 2 ^ n else 0
    rw [h1]
    rcases h3 with e | e
    · rw [e, Nat.zero_mul]; rfl
    · rw [e, Nat.one_mul]; rfl
theorem sp_B_lt {b : Nat → Nat} {n : Nat} (h : ∀ v, v < n → b v ≤ 1) : sp_B b n < 2 ^ n := by
  rw [sp_B_e b n h]; exact bu_lt _ n
theorem sp_B_b {b : Nat → Nat} {n : Nat} (h : ∀ v, v < n → b v ≤ 1) {v : Nat} (hv : v < n) : sp_B b n / 2 ^ v % 2 = b v := by
  rw [tb_dm, sp_B_e b n h, bu_t, decide_eq_true hv, Bool.true_and]
  have h3 : b v = 0 ∨ b v = 1 := by have := h v hv; omega
  rcases h3 with e | e
  · rw [e]; rfl
  · rw [e]; rfl
/-! the class's votes -/
theorem cl_votes {t : jx_T} {S : Nat → Nat} {F : rt_F} {k : Nat} {L C : Nat → Nat} {σ : jx_M} (h : NL t S F k L C σ) (hw : cs_w S F) (hb : ns_b S L C) {x : Nat} (hx : x ≤ 1) : f_X2_votes t σ (nI x) = some (nI (sp_q (sp_W S F L C) (fun v => S (49 + v)) x (S 0))) := by
  have b6 := hw.1.2.1
  have n0 : σ 0 2 = nI (S 0) := h.1.1.1.2.2.1
  unfold f_X2_votes
  refine lq_ (X := Unit) (fun n i _ => b_X2_votes_4 t n σ (nI x) (nI (sp_q (sp_W S F L C) (fun v => S (49 + v)) x i)) (nI i) = some (nI (sp_q (sp_W S F L C) (fun v => S (49 + v)) x (S 0)))) (fun _ _ => True) (S 0) ?_ ?_ 0 () (by omega) (by omega) trivial
  · intro n _ _
    simp only [b_X2_votes_4, g_X2_votes_4]
    simp (disch := first | omega | assumption) only [ev_add, ev_mul, ev_rem, ev_sub, ev_ltT, ev_ltF, ev_leT, ev_leF, ev_eqT, ev_eqF, ev_cl, ev_in, gd_t, bd_s, lt_e, ev_of, ↓reduceIte, decide_true, true_or, or_true, ev_l0, ev_l1, ev_l2, ev_l3, ev_l4, ev_l5, ev_l6, ev_l7, ev_l8, ev_l9, ev_l10, ev_l11, ev_l12, ev_l13, ev_l14, ev_l15, ev_l16, ev_l17, ev_l18, ev_l19, ev_l20, ev_l21, ev_l22, ev_l23, ev_l24, ev_l25, ev_l26, ev_l30, ev_l31, ev_l32, ev_l37, ev_l40, ev_l41, ev_l43, ev_l48, ev_l49, ev_l51, ev_l55, ev_l57, ev_l58, ev_l60, ev_l61, ev_l79, ev_l85, ev_l91, ev_l99, ev_l100, ev_l107, ev_l115, ev_l127, ev_l140, ev_l215, ev_l220, ev_l920, ev_l9999, ev_nT, ev_nF, ev_nlT, ev_nlF, n0]
  · intro n i _ hi _ ih
    have k3 := (h.1.1.2.2.1 i (by omega)).1.2.2.2.1
    have w9 : σ 59 i = nI (sp_W S F L C i) := (h.2.2.2 i hi).2
    have bw := hw.1.2.2.2.1 i hi
    have ih' := ih () trivial
    simp only [b_X2_votes_4, g_X2_votes_4, b_X2_votes_39]
    rw [show sp_q (sp_W S F L C) (fun v => S (49 + v)) x (i + 1) = sp_q (sp_W S F L C) (fun v => S (49 + v)) x i + (if S (49 + i) = x then sp_W S F L C i else 0) from rfl] at ih'
    by_cases g : S (49 + i) = x
    · rw [if_pos g] at ih'
      simp (disch := first | omega | assumption) only [ev_add, ev_mul, ev_rem, ev_sub, ev_ltT, ev_ltF, ev_leT, ev_leF, ev_eqT, ev_eqF, ev_cl, ev_in, gd_t, bd_s, lt_e, ev_of, ↓reduceIte, decide_true, true_or, or_true, ev_l0, ev_l1, ev_l2, ev_l3, ev_l4, ev_l5, ev_l6, ev_l7, ev_l8, ev_l9, ev_l10, ev_l11, ev_l12, ev_l13, ev_l14, ev_l15, ev_l16, ev_l17, ev_l18, ev_l19, ev_l20, ev_l21, ev_l22, ev_l23, ev_l24, ev_l25, ev_l26, ev_l30, ev_l31, ev_l32, ev_l37, ev_l40, ev_l41, ev_l43, ev_l48, ev_l49, ev_l51, ev_l55, ev_l57, ev_l58, ev_l60, ev_l61, ev_l79, ev_l85, ev_l91, ev_l99, ev_l100, ev_l107, ev_l115, ev_l127, ev_l140, ev_l215, ev_l220, ev_l920, ev_l9999, ev_nT, ev_nF, ev_nlT, ev_nlF, n0, ll8, k3, g, w9]
      exact ih'
    · rw [if_neg g] at ih'
      simp (disch := first | omega | assumption) only [ev_add, ev_mul, ev_rem, ev_sub, ev_ltT, ev_ltF, ev_leT, ev_leF, ev_eqT, ev_eqF, ev_cl, ev_in, gd_t, bd_s, lt_e, ev_of, ↓reduceIte, decide_true, true_or, or_true, ev_l0, ev_l1, ev_l2, ev_l3, ev_l4, ev_l5, ev_l6, ev_l7, ev_l8, ev_l9, ev_l10, ev_l11, ev_l12, ev_l13, ev_l14, ev_l15, ev_l16, ev_l17, ev_l18, ev_l19, ev_l20, ev_l21, ev_l22, ev_l23, ev_l24, ev_l25, ev_l26, ev_l30, ev_l31, ev_l32, ev_l37, ev_l40, ev_l41, ev_l43, ev_l48, ev_l49, ev_l51, ev_l55, ev_l57, ev_l58, ev_l60, ev_l61, ev_l79, ev_l85, ev_l91, ev_l99, ev_l100, ev_l107, ev_l115, ev_l127, ev_l140, ev_l215, ev_l220, ev_l920, ev_l9999, ev_nT, ev_nF, ev_nlT, ev_nlF, n0, ll8, k3]
      exact ih'
theorem cl_lead {t : jx_T} {S : Nat → Nat} {F : rt_F} {k : Nat} {L C : Nat → Nat} {σ : jx_M} (h : NL t S F k L C σ) (hw : cs_w S F) {B : Nat} (hB : B < 2 ^ 31) : f_X2_lead t σ (nI B) = some (nI (sp_q (sp_W S F L C) (fun v => B / 2 ^ v % 2) 1 (S 0)) - nI (sp_q (sp_W S F L C) (fun v => B / 2 ^ v % 2) 0 (S 0))) := by
  have b6 := hw.1.2.1
  have n0 : σ 0 2 = nI (S 0) := h.1.1.1.2.2.1
  unfold f_X2_lead
  have key := lq_ (X := Unit) (fun n i _ => b_X2_lead_4 t n σ (nI B) (nI (sp_q (sp_W S F L C) (fun v => B / 2 ^ v % 2) 1 i) - nI (sp_q (sp_W S F L C) (fun v => B / 2 ^ v % 2) 0 i)) (nI i) = some (nI (sp_q (sp_W S F L C) (fun v => B / 2 ^ v % 2) 1 (S 0)) - nI (sp_q (sp_W S F L C) (fun v => B / 2 ^ v % 2) 0 (S 0)))) (fun _ _ => True) (S 0) ?_ ?_ 0 () (by omega) (by omega) trivial
  · have key' : b_X2_lead_4 t jx_fuel σ (nI B) (nI 0 - nI 0) (nI 0) = _ := key
    rw [show (nI 0 - nI 0 : Int32) = 0 by decide] at key'
    exact key'
  · intro n _ _
    simp only [b_X2_lead_4, g_X2_lead_4]
    rw [n0, if_pos (Int32.le_refl _)]
  · intro n i _ hi _ ih
    have w9 : σ 59 i = nI (sp_W S F L C i) := (h.2.2.2 i hi).2
    have ih' := ih () trivial
    simp only [b_X2_lead_4, g_X2_lead_4, b_X2_lead_41]
    rw [show ∀ y, sp_q (sp_W S F L C) (fun v => B / 2 ^ v % 2) y (i + 1) = sp_q (sp_W S F L C) (fun v => B / 2 ^ v % 2) y i + (if B / 2 ^ i % 2 = y then sp_W S F L C i else 0) from fun _ => rfl, show ∀ y, sp_q (sp_W S F L C) (fun v => B / 2 ^ v % 2) y (i + 1) = sp_q (sp_W S F L C) (fun v => B / 2 ^ v % 2) y i + (if B / 2 ^ i % 2 = y then sp_W S F L C i else 0) from fun _ => rfl] at ih'
    have sh : ((nI B >>> (nI i &&& (31 : Int32))) &&& (1 : Int32)) = nI (B / 2 ^ i % 2) := bi_shr hB (by omega)
    have gi : jx_in (nI i) 6 = true := ev_in (by omega) (by omega)
    have ci : (nI i).toNatClampNeg = i := nI_clamp (by omega)
    rw [n0, if_neg (nI_ge hi (by omega)), sh]
    by_cases g : B / 2 ^ i % 2 = 1
    · rw [if_pos g, if_neg (by omega), Nat.add_zero] at ih'
      rw [g, if_pos (show nI 1 = (1 : Int32) from rfl), gi, gd_t, ci, w9, lt_e, lt_e, i3_a, show nI i + (1 : Int32) = nI (i + 1) from nI_1 i]
      exact ih'
    · have g0 : B / 2 ^ i % 2 = 0 := by omega
      rw [if_neg g, if_pos g0, Nat.add_zero] at ih'
      rw [g0, if_neg (by decide), gi, gd_t, ci, w9, lt_e, lt_e, i3_s, show nI i + (1 : Int32) = nI (i + 1) from nI_1 i]
      exact ih'
def sp_M (S : Nat → Nat) (F : rt_F) (L C b : Nat → Nat) : Int32 := sp_my (sp_q (sp_W S F L C) b 0 (S 0)) (sp_q (sp_W S F L C) b 1 (S 0))
theorem sp_q_b {S : Nat → Nat} {F : rt_F} (hw : cs_w S F) {L C : Nat → Nat} (hb : ns_b S L C) (b : Nat → Nat) (x : Nat) : sp_q (sp_W S F L C) b x (S 0) ≤ 6000 := by
  have b6 := hw.1.2.1
  have h := sp_q_le (w := sp_W S F L C) b x (S 0) (fun v hv => sp_W_le hw hb hv)
  omega
theorem cl_mayor {t : jx_T} {S : Nat → Nat} {F : rt_F} {k : Nat} {L C : Nat → Nat} {σ : jx_M} (h : NL t S F k L C σ) (hw : cs_w S F) (hb : ns_b S L C) {B : Nat} (hB : B < 2 ^ 31) : f_X2_mayor t σ (nI B) = some (sp_M S F L C (fun v => B / 2 ^ v % 2)) := by
  unfold f_X2_mayor
  rw [cl_lead h hw hB, bd_s, cl_winner (by have := sp_q_b hw hb (fun v => B / 2 ^ v % 2) 0; omega) (by have := sp_q_b hw hb (fun v => B / 2 ^ v % 2) 1; omega), bd_s]
  rfl
theorem cl_wishes {t : jx_T} {S : Nat → Nat} {F : rt_F} {σ : jx_M} (h : cs_l t S F σ) (hw : cs_w S F) : f_X1_wishes t σ = some (nI (sp_B (fun v => S (49 + v)) (S 0))) := by
  have b6 := hw.1.2.1
  have n0 : σ 0 2 = nI (S 0) := h.1.1.2.2.1
  unfold f_X1_wishes
  refine lq_ (X := Unit) (fun n i _ => b_X1_wishes_4 t n σ (nI (sp_B (fun v => S (49 + v)) i)) (nI i) = some (nI (sp_B (fun v => S (49 + v)) (S 0)))) (fun _ _ => True) (S 0) ?_ ?_ 0 () (by omega) (by omega) trivial
  · intro n _ _
    simp only [b_X1_wishes_4, g_X1_wishes_4]
    simp (disch := first | omega | assumption) only [ev_add, ev_mul, ev_rem, ev_sub, ev_ltT, ev_ltF, ev_leT, ev_leF, ev_eqT, ev_eqF, ev_cl, ev_in, gd_t, bd_s, lt_e, ev_of, ↓reduceIte, decide_true, true_or, or_true, ev_l0, ev_l1, ev_l2, ev_l3, ev_l4, ev_l5, ev_l6, ev_l7, ev_l8, ev_l9, ev_l10, ev_l11, ev_l12, ev_l13, ev_l14, ev_l15, ev_l16, ev_l17, ev_l18, ev_l19, ev_l20, ev_l21, ev_l22, ev_l23, ev_l24, ev_l25, ev_l26, ev_l30, ev_l31, ev_l32, ev_l37, ev_l40, ev_l41, ev_l43, ev_l48, ev_l49, ev_l51, ev_l55, ev_l57, ev_l58, ev_l60, ev_l61, ev_l79, ev_l85, ev_l91, ev_l99, ev_l100, ev_l107, ev_l115, ev_l127, ev_l140, ev_l215, ev_l220, ev_l920, ev_l9999, ev_nT, ev_nF, ev_nlT, ev_nlF, n0]
  · intro n i _ hi _ ih
    have k3 := (h.1.2.2.1 i (by omega)).1.2.2.2.1
    have bw := hw.1.2.2.2.1 i hi
    have ih' := ih () trivial
    simp only [b_X1_wishes_4, g_X1_wishes_4]
    simp (disch := first | omega | assumption) only [ev_add, ev_mul, ev_rem, ev_sub, ev_ltT, ev_ltF, ev_leT, ev_leF, ev_eqT, ev_eqF, ev_cl, ev_in, gd_t, bd_s, lt_e, ev_of, ↓reduceIte, decide_true, true_or, or_true, ev_l0, ev_l1, ev_l2, ev_l3, ev_l4, ev_l5, ev_l6, ev_l7, ev_l8, ev_l9, ev_l10, ev_l11, ev_l12, ev_l13, ev_l14, ev_l15, ev_l16, ev_l17, ev_l18, ev_l19, ev_l20, ev_l21, ev_l22, ev_l23, ev_l24, ev_l25, ev_l26, ev_l30, ev_l31, ev_l32, ev_l37, ev_l40, ev_l41, ev_l43, ev_l48, ev_l49, ev_l51, ev_l55, ev_l57, ev_l58, ev_l60, ev_l61, ev_l79, ev_l85, ev_l91, ev_l99, ev_l100, ev_l107, ev_l115, ev_l127, ev_l140, ev_l215, ev_l220, ev_l920, ev_l9999, ev_nT, ev_nF, ev_nlT, ev_nlF, n0, ll8, k3, bi_shb (S (49 + i)) (by omega) i (by omega), bi_or]
    exact ih'
/-! the reference's -/
theorem cm_votes {S : Nat → Nat} {F : rt_F} {k : Nat} {L C b : Nat → Nat} {σ : jx_M} (hw : cs_w S F) (hb : ns_b S L C) (m0 : σ 1 0 = nI (S 0)) (mw : ∀ v, v < S 0 → σ 1 (49 + v) = nI (b v) ∧ b v ≤ 1) (hc : nc_m S F k σ) (hs : ns_m (S 0) L C σ) {x : Nat} (hx : x ≤ 1) : f_X6_votesFor σ (nI x) = some (nI (sp_q (sp_W S F L C) b x (S 0))) := by
  have b6 := hw.1.2.1
  unfold f_X6_votesFor
  refine lq_ (X := Unit) (fun n i _ => b_X6_votesFor_4 n σ (nI x) (nI (sp_q (sp_W S F L C) b x i)) (nI i) = some (nI (sp_q (sp_W S F L C) b x (S 0)))) (fun _ _ => True) (S 0) ?_ ?_ 0 () (by omega) (by omega) trivial
  · intro n _ _
    simp only [b_X6_votesFor_4, g_X6_votesFor_4]
    simp (disch := first | omega | assumption) only [ev_add, ev_mul, ev_rem, ev_sub, ev_ltT, ev_ltF, ev_leT, ev_leF, ev_eqT, ev_eqF, ev_cl, ev_in, gd_t, bd_s, lt_e, ev_of, ↓reduceIte, decide_true, true_or, or_true, ev_l0, ev_l1, ev_l2, ev_l3, ev_l4, ev_l5, ev_l6, ev_l7, ev_l8, ev_l9, ev_l10, ev_l11, ev_l12, ev_l13, ev_l14, ev_l15, ev_l16, ev_l17, ev_l18, ev_l19, ev_l20, ev_l21, ev_l22, ev_l23, ev_l24, ev_l25, ev_l26, ev_l30, ev_l31, ev_l32, ev_l37, ev_l40, ev_l41, ev_l43, ev_l48, ev_l49, ev_l51, ev_l55, ev_l57, ev_l58, ev_l60, ev_l61, ev_l79, ev_l85, ev_l91, ev_l99, ev_l100, ev_l107, ev_l115, ev_l127, ev_l140, ev_l215, ev_l220, ev_l920, ev_l9999, ev_nT, ev_nF, ev_nlT, ev_nlF, m0]
  · intro n i _ hi _ ih
    obtain ⟨k3, k4⟩ := mw i hi
    obtain ⟨l7, l8⟩ := hs i hi
    obtain ⟨bL, bC⟩ := hb i hi
    have w6 : σ 6 (L i) = nI (sp_w S F (L i)) := hc.2 (L i) bL
    have ih' := ih () trivial
    simp only [b_X6_votesFor_4, g_X6_votesFor_4, b_X6_votesFor_51, b_X6_votesFor_52]
    rw [show sp_q (sp_W S F L C) b x (i + 1) = sp_q (sp_W S F L C) b x i + (if b i = x then C i * sp_w S F (L i) else 0) from rfl] at ih'
    by_cases c : C i = 0
    · rw [c, Nat.zero_mul, ite_self] at ih'
      simp (disch := first | omega | assumption) only [ev_add, ev_mul, ev_rem, ev_sub, ev_ltT, ev_ltF, ev_leT, ev_leF, ev_eqT, ev_eqF, ev_cl, ev_in, gd_t, bd_s, lt_e, ev_of, ↓reduceIte, decide_true, true_or, or_true, ev_l0, ev_l1, ev_l2, ev_l3, ev_l4, ev_l5, ev_l6, ev_l7, ev_l8, ev_l9, ev_l10, ev_l11, ev_l12, ev_l13, ev_l14, ev_l15, ev_l16, ev_l17, ev_l18, ev_l19, ev_l20, ev_l21, ev_l22, ev_l23, ev_l24, ev_l25, ev_l26, ev_l30, ev_l31, ev_l32, ev_l37, ev_l40, ev_l41, ev_l43, ev_l48, ev_l49, ev_l51, ev_l55, ev_l57, ev_l58, ev_l60, ev_l61, ev_l79, ev_l85, ev_l91, ev_l99, ev_l100, ev_l107, ev_l115, ev_l127, ev_l140, ev_l215, ev_l220, ev_l920, ev_l9999, ev_nT, ev_nF, ev_nlT, ev_nlF, m0, l8, c]
      exact ih'
    · have c1 : C i = 1 := by omega
      rw [c1, Nat.one_mul] at ih'
      by_cases g : b i = x
      · rw [if_pos g] at ih'
        simp (disch := first | omega | assumption) only [ev_add, ev_mul, ev_rem, ev_sub, ev_ltT, ev_ltF, ev_leT, ev_leF, ev_eqT, ev_eqF, ev_cl, ev_in, gd_t, bd_s, lt_e, ev_of, ↓reduceIte, decide_true, true_or, or_true, ev_l0, ev_l1, ev_l2, ev_l3, ev_l4, ev_l5, ev_l6, ev_l7, ev_l8, ev_l9, ev_l10, ev_l11, ev_l12, ev_l13, ev_l14, ev_l15, ev_l16, ev_l17, ev_l18, ev_l19, ev_l20, ev_l21, ev_l22, ev_l23, ev_l24, ev_l25, ev_l26, ev_l30, ev_l31, ev_l32, ev_l37, ev_l40, ev_l41, ev_l43, ev_l48, ev_l49, ev_l51, ev_l55, ev_l57, ev_l58, ev_l60, ev_l61, ev_l79, ev_l85, ev_l91, ev_l99, ev_l100, ev_l107, ev_l115, ev_l127, ev_l140, ev_l215, ev_l220, ev_l920, ev_l9999, ev_nT, ev_nF, ev_nlT, ev_nlF, m0, l8, c1, k3, g, l7, w6]
        exact ih'
      · rw [if_neg g] at ih'
        simp (disch := first | omega | assumption) only [ev_add, ev_mul, ev_rem, ev_sub, ev_ltT, ev_ltF, ev_leT, ev_leF, ev_eqT, ev_eqF, ev_cl, ev_in, gd_t, bd_s, lt_e, ev_of, ↓reduceIte, decide_true, true_or, or_true, ev_l0, ev_l1, ev_l2, ev_l3, ev_l4, ev_l5, ev_l6, ev_l7, ev_l8, ev_l9, ev_l10, ev_l11, ev_l12, ev_l13, ev_l14, ev_l15, ev_l16, ev_l17, ev_l18, ev_l19, ev_l20, ev_l21, ev_l22, ev_l23, ev_l24, ev_l25, ev_l26, ev_l30, ev_l31, ev_l32, ev_l37, ev_l40, ev_l41, ev_l43, ev_l48, ev_l49, ev_l51, ev_l55, ev_l57, ev_l58, ev_l60, ev_l61, ev_l79, ev_l85, ev_l91, ev_l99, ev_l100, ev_l107, ev_l115, ev_l127, ev_l140, ev_l215, ev_l220, ev_l920, ev_l9999, ev_nT, ev_nF, ev_nlT, ev_nlF, m0, l8, c1, k3]
        exact ih'
theorem cm_mayor {S : Nat → Nat} {F : rt_F} {k : Nat} {L C b : Nat → Nat} {σ : jx_M} (hw : cs_w S F) (hb : ns_b S L C) (m0 : σ 1 0 = nI (S 0)) (mw : ∀ v, v < S 0 → σ 1 (49 + v) = nI (b v) ∧ b v ≤ 1) (hc : nc_m S F k σ) (hs : ns_m (S 0) L C σ) : f_X6_mayor σ = some (sp_M S F L C b) := by
  unfold f_X6_mayor
  rw [show f_X6_votesFor σ 0 = _ from cm_votes hw hb m0 mw hc hs (x := 0) (by omega), bd_s, show f_X6_votesFor σ 1 = _ from cm_votes hw hb m0 mw hc hs (x := 1) (by omega), bd_s, cm_greater (by have := sp_q_b hw hb b 0; omega) (by have := sp_q_b hw hb b 1; omega), bd_s]
  rfl
theorem NM_w {S : Nat → Nat} {F : rt_F} {k : Nat} {L C : Nat → Nat} {σ : jx_M} (h : NM S F k L C σ) (hw : cs_w S F) : ∀ v, v < S 0 → σ 1 (49 + v) = nI (S (49 + v)) ∧ S (49 + v) ≤ 1 := by
  have b6 := hw.1.2.1
  exact fun v hv => ⟨h.1.1.1 (49 + v) (by omega) (by omega) (by omega), (hw.1.2.2.2.1 v hv).2.2.2.1⟩
