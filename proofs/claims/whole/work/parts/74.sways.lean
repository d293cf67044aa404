/-! sways -/
def sp_t (f : Nat → Nat) : Nat → Nat
  | 0 => 0
  | i + 1 => sp_t f i + f i
theorem sp_t_add (f : Nat → Nat) (a : Nat) : ∀ b, sp_t f (a + b) = sp_t f a + sp_t (fun s => f (a + s)) b
  | 0 => rfl
  | b + 1 => by
    show sp_t f (a + b) + f (a + b) = sp_t f a + (sp_t (fun s => f (a + s)) b + f (a + b))
    rw [sp_t_add f a b, Nat.add_assoc]
theorem sp_t_c {f g : Nat → Nat} : ∀ n, (∀ s, s < n → f s = g s) → sp_t f n = sp_t g n
  | 0, _ => rfl
  | n + 1, h => by
    show sp_t f n + f n = sp_t g n + g n
    rw [sp_t_c n (fun s hs => h s (by omega)), h n (by omega)]
theorem sp_t_le {f : Nat → Nat} (h : ∀ s, f s ≤ 1) : ∀ n, sp_t f n ≤ n
  | 0 => Nat.le_refl 0
  | n + 1 => by
    have h1 := sp_t_le h n
    have h2 := h n
    show sp_t f n + f n ≤ n + 1
    omega
theorem p2_xor {n s : Nat} (h : s < 2 ^ n) : 2 ^ n + s = 2 ^ n ^^^ s := by
  apply Nat.eq_of_testBit_eq
  intro i
  rw [Nat.testBit_xor, Nat.testBit_two_pow]
  rcases Nat.lt_trichotomy i n with g | g | g
  · rw [Nat.testBit_two_pow_add_gt g, decide_eq_false (show ¬ n = i by omega), Bool.false_xor]
  · subst g
    rw [Nat.testBit_two_pow_add_eq, decide_eq_true rfl, Bool.true_xor]
  · have e1 : (2 ^ n + s).testBit i = false := Nat.testBit_lt_two_pow (Nat.lt_of_lt_of_le (show 2 ^ n + s < 2 ^ (n + 1) by rw [Nat.pow_succ]; omega) (bi_p2 g))
    have e2 : s.testBit i = false := Nat.testBit_lt_two_pow (Nat.lt_of_lt_of_le h (bi_p2 (by omega)))
    rw [e1, e2, decide_eq_false (show ¬ n = i by omega)]; rfl
theorem sp_t_x : ∀ (n : Nat) (f : Nat → Nat) (B : Nat), B < 2 ^ n → sp_t (fun s => f (B ^^^ s)) (2 ^ n) = sp_t f (2 ^ n)
  | 0, f, B, h => by
    have e : B = 0 := by have : 2 ^ 0 = 1 := rfl; omega
    subst e
    show 0 + f (0 ^^^ 0) = 0 + f 0
    rfl
  | n + 1, f, B, h => by
    have p : 2 ^ (n + 1) = 2 ^ n + 2 ^ n := by rw [Nat.pow_succ]; omega
    rw [p, sp_t_add, sp_t_add]
    by_cases g : B < 2 ^ n
    · have i1 := sp_t_x n f B g
      have i2 := sp_t_x n (fun s => f (2 ^ n + s)) B g
      rw [i1]
      rw [← i2]
      congr 1
      refine sp_t_c _ (fun s hs => ?_)
      show f (B ^^^ (2 ^ n + s)) = f (2 ^ n + (B ^^^ s))
      rw [p2_xor hs, p2_xor (Nat.xor_lt_two_pow g hs), ← Nat.xor_assoc, Nat.xor_comm B, Nat.xor_assoc]
    · obtain ⟨A, rfl⟩ : ∃ A, B = 2 ^ n + A := ⟨B - 2 ^ n, by omega⟩
      have hA : A < 2 ^ n := by omega
      have i1 := sp_t_x n f A hA
      have i2 := sp_t_x n (fun s => f (2 ^ n + s)) A hA
      rw [← i1, ← i2, Nat.add_comm]
      congr 1
      · refine sp_t_c _ (fun s hs => ?_)
        show f ((2 ^ n + A) ^^^ (2 ^ n + s)) = f (A ^^^ s)
        rw [p2_xor hs, p2_xor hA, Nat.xor_comm (2 ^ n) s, ← Nat.xor_assoc, Nat.xor_assoc (2 ^ n) A s, Nat.xor_comm (2 ^ n) (A ^^^ s), Nat.xor_assoc, Nat.xor_self, Nat.xor_zero]
      · refine sp_t_c _ (fun s hs => ?_)
        show f ((2 ^ n + A) ^^^ s) = f (2 ^ n + (A ^^^ s))
        rw [p2_xor hA, p2_xor (Nat.xor_lt_two_pow hA hs), Nat.xor_assoc]
def fr_t : jx_T := (fun _ => 0, fun _ => 0, fun _ _ => 0)
def fr_s : jx_M := fun _ _ => 0
theorem fr_i (t : jx_T) (σ : jx_M) : ∀ (n : Nat) (a b c : Int32), b_X5_sways_44 t n σ a b c = (b_X5_sways_44 fr_t n fr_s a b c).map (fun p => (p.1, σ))
  | 0, _, _, _ => rfl
  | n + 1, a, b, c => by
    show g_X5_sways_44 t (b_X5_sways_44 t n) σ a b c = (g_X5_sways_44 fr_t (b_X5_sways_44 fr_t n) fr_s a b c).map (fun p => (p.1, σ))
    unfold g_X5_sways_44 b_X5_sways_69
    simp only [lt_e]
    by_cases h1 : c ≤ 1
    · rw [if_pos h1, if_pos h1]
      by_cases h2 : a = 0
      · rw [if_pos h2, if_pos h2]; rfl
      · rw [if_neg h2, if_neg h2]; rfl
    · rw [if_neg h1, if_neg h1]
      by_cases h3 : b - b / 2 * 2 = 0
      · rw [if_pos h3, if_pos h3]; exact fr_i t σ n a (b / 2) (c / 2)
      · rw [if_neg h3, if_neg h3]
        by_cases h2 : a = 0
        · rw [if_pos h2, if_pos h2]; rfl
        · rw [if_neg h2, if_neg h2]; rfl
theorem fr_d : ∀ n, n < 7 → ∀ u, u ≤ 2 ^ n → ∀ w, w < 2 → (b_X5_sways_44 fr_t jx_fuel fr_s (nI w) (nI u) (nI (2 ^ n))).map (fun p => p.1) = f_X6_lowest (lN u) (lN (2 ^ n)) (nI w) ∧ (f_X6_lowest (lN u) (lN (2 ^ n)) (nI w)).isSome = true := by decide +kernel
theorem fr_e (t : jx_T) (σ : jx_M) {n u w : Nat} (hn : n < 7) (hu : u ≤ 2 ^ n) (hw : w < 2) : ∃ r, b_X5_sways_44 t jx_fuel σ (nI w) (nI u) (nI (2 ^ n)) = some (r, σ) ∧ f_X6_lowest (lN u) (lN (2 ^ n)) (nI w) = some r := by
  obtain ⟨h1, h2⟩ := fr_d n hn u hu w hw
  rw [fr_i]
  cases z : f_X6_lowest (lN u) (lN (2 ^ n)) (nI w) with
  | none => rw [z] at h2; exact absurd h2 (by decide)
  | some r =>
    rw [z] at h1
    cases y : b_X5_sways_44 fr_t jx_fuel fr_s (nI w) (nI u) (nI (2 ^ n)) with
    | none => rw [y] at h1; exact absurd h1 (by intro e; cases e)
    | some p =>
      rw [y] at h1
      have e : p.1 = r := Option.some.inj h1
      exact ⟨r, by rw [← e]; rfl, rfl⟩
theorem fr_l : ∀ n, n < 7 → (1 : Int64) <<< ((nI n).toInt64 &&& 63) = lN (2 ^ n) := by decide +kernel
def sp_D (M : Nat → Int32) (k s : Nat) : Nat := if M s = M (s ^^^ k) then 0 else 1
theorem op_sways : lw_op_sways RR := by
  intro t σl σm a0 a1 hR
  obtain ⟨S, F, hl, hm, hw, h20⟩ := RR_o hR
  have n6 : σl 0 0 = nI (S 6) := hl.1.1.1
  have n7 : σl 0 1 = nI (S 7) := hl.1.1.2.1
  have n0 : σl 0 2 = nI (S 0) := hl.1.1.2.2.1
  have m0 : σm 1 0 = nI (S 0) := hm.1.1 0 (by omega) (by omega) (by omega)
  have m6 : σm 1 6 = nI (S 6) := hm.1.1 6 (by omega) (by omega) (by omega)
  have m7 : σm 1 7 = nI (S 7) := hm.1.1 7 (by omega) (by omega) (by omega)
  have bw := hw.1.2.1
  have b7 := hw.1.1 7
  unfold f_X5_sways f_X6_sways f_X2_swayed
  rcases ix_p a0 (S 0) (by omega) with h | ⟨v, hv, rfl⟩
  · simp (disch := first | omega | assumption) only [ev_add, ev_mul, ev_rem, ev_sub, ev_ltT, ev_ltF, ev_leT, ev_leF, ev_eqT, ev_eqF, ev_cl, ev_in, gd_t, bd_s, lt_e, ev_of, ↓reduceIte, decide_true, true_or, or_true, ev_l0, ev_l1, ev_l2, ev_l3, ev_l4, ev_l5, ev_l6, ev_l7, ev_l8, ev_l9, ev_l10, ev_l11, ev_l12, ev_l13, ev_l14, ev_l15, ev_l16, ev_l17, ev_l18, ev_l19, ev_l20, ev_l21, ev_l22, ev_l23, ev_l24, ev_l25, ev_l26, ev_l30, ev_l31, ev_l32, ev_l37, ev_l40, ev_l41, ev_l43, ev_l48, ev_l49, ev_l51, ev_l55, ev_l57, ev_l58, ev_l60, ev_l61, ev_l79, ev_l85, ev_l91, ev_l99, ev_l100, ev_l107, ev_l115, ev_l127, ev_l140, ev_l215, ev_l220, ev_l920, ev_l9999, ev_nT, ev_nF, ev_nlT, ev_nlF, hv_f n0 h, iv_f m0 (by omega) h]
    exact ⟨_, _, _, rfl, rfl, hR⟩
  · rcases ix_p a1 2 (by omega) with h | ⟨w, hw2, rfl⟩
    · simp (disch := first | omega | assumption) only [ev_add, ev_mul, ev_rem, ev_sub, ev_ltT, ev_ltF, ev_leT, ev_leF, ev_eqT, ev_eqF, ev_cl, ev_in, gd_t, bd_s, lt_e, ev_of, ↓reduceIte, decide_true, true_or, or_true, ev_l0, ev_l1, ev_l2, ev_l3, ev_l4, ev_l5, ev_l6, ev_l7, ev_l8, ev_l9, ev_l10, ev_l11, ev_l12, ev_l13, ev_l14, ev_l15, ev_l16, ev_l17, ev_l18, ev_l19, ev_l20, ev_l21, ev_l22, ev_l23, ev_l24, ev_l25, ev_l26, ev_l30, ev_l31, ev_l32, ev_l37, ev_l40, ev_l41, ev_l43, ev_l48, ev_l49, ev_l51, ev_l55, ev_l57, ev_l58, ev_l60, ev_l61, ev_l79, ev_l85, ev_l91, ev_l99, ev_l100, ev_l107, ev_l115, ev_l127, ev_l140, ev_l215, ev_l220, ev_l920, ev_l9999, ev_nT, ev_nF, ev_nlT, ev_nlF, wi_e, hv_t n0 hv (by omega), iv_t m0 hv (by omega), show f_X6_in a1 (nI 0) (nI 1) = _ from in_f (n := 2) h (by omega) (by omega)]
      exact ⟨_, _, _, rfl, rfl, hR⟩
    · obtain ⟨σl2, u1, u2, u3, u4⟩ := NL_pass hl hw h20
      obtain ⟨σm1, σm2, g1, g2, g3, g4⟩ := NM_pass hm hw
      have bb := tp_b (F := F) hw.1 (k := 7)
      generalize hL : tp_l S F 7 = L at u4 g4 bb
      generalize hC : tp_c S F = C at u4 g4 bb
      have fin : RR t σl2 σm2 := RR_night hR u2 u3 g3
      have wb : ∀ v, v < S 0 → S (49 + v) ≤ 1 := fun v hv => (hw.1.2.2.2.1 v hv).2.2.2.1
      have Bl := sp_B_lt (b := fun v => S (49 + v)) (n := S 0) wb
      have Bl2 := p6_ (S 0) (by omega)
      have n02 : σl2 0 2 = nI (S 0) := u4.1.1.1.2.2.1
      have m02 : σm2 1 0 = nI (S 0) := g4.1.1.1 0 (by omega) (by omega) (by omega)
      have pv : 2 ^ v < 2 ^ S 0 := Nat.pow_lt_pow_right (by omega) hv
      have sh : ((1 : Int32) <<< (nI (S 0) &&& 31)) = nI (2 ^ S 0) := bi_shl (S 0) (by omega)
      have shv : ((1 : Int32) <<< (nI v &&& 31)) = nI (2 ^ v) := bi_shl v (by omega)
      have ml : ∀ s, s < 2 ^ S 0 → f_X2_mayor t σl2 (nI s) = some (sp_M S F L C (fun v => s / 2 ^ v % 2)) := fun s hs => cl_mayor u4 hw bb (by omega)
      have mx : ∀ s, sp_M S F L C (sp_x (fun v => S (49 + v)) s) = sp_M S F L C (fun v => (sp_B (fun v => S (49 + v)) (S 0) ^^^ s) / 2 ^ v % 2) := fun s => sp_Mb (fun v hv => by rw [dm_x, sp_B_b (b := fun v => S (49 + v)) wb hv]; rfl)
      have dle : ∀ (M : Nat → Int32) (k s : Nat), sp_D M k s ≤ 1 := fun M k s => by
        unfold sp_D
        split <;> omega
      generalize hM : (fun (s : Nat) => sp_M S F L C (fun v => s / 2 ^ v % 2)) = M at ml mx
      have mlM : ∀ s, s < 2 ^ S 0 → f_X2_mayor t σl2 (nI s) = some (M s) := fun s hs => (ml s hs).trans (congrArg some (congrFun hM s))
      have mxM : ∀ s, sp_M S F L C (sp_x (fun v => S (49 + v)) s) = M (sp_B (fun v => S (49 + v)) (S 0) ^^^ s) := fun s => (mx s).trans (congrFun hM _)
      have kl := lq_ (X := Unit) (fun n i _ => b_X2_swayed_8 t n σl2 (nI v) (nI (sp_t (sp_D M (2 ^ v)) i)) (nI i) = some (nI (sp_t (sp_D M (2 ^ v)) (2 ^ S 0)), σl2)) (fun _ _ => True) (2 ^ S 0) ?_ ?_ 0 () (by omega) (by omega) trivial
      · have km := lq_ (X := Unit) (fun n i _ => b_X6_sways_34 n σm2 (nI v) (nI w) (lN (sp_t (fun s => sp_D M (2 ^ v) (sp_B (fun v => S (49 + v)) (S 0) ^^^ s)) i)) (nI i) = jx_bd (f_X6_lowest (lN (sp_t (fun s => sp_D M (2 ^ v) (sp_B (fun v => S (49 + v)) (S 0) ^^^ s)) (2 ^ S 0))) (lN (2 ^ S 0)) (nI w)) (fun q2 => some (q2, σm2))) (fun _ _ => True) (2 ^ S 0) ?_ ?_ 0 () (by omega) (by omega) trivial
        · rw [sp_t_x (S 0) (sp_D M (2 ^ v)) _ Bl] at km
          obtain ⟨r, q1, q2⟩ := fr_e t σl2 (n := S 0) (u := sp_t (sp_D M (2 ^ v)) (2 ^ S 0)) (w := w) (by omega) (sp_t_le (dle M (2 ^ v)) _) hw2
          rw [q2, bd_s] at km
          simp (disch := first | omega | assumption) only [ev_add, ev_mul, ev_rem, ev_sub, ev_ltT, ev_ltF, ev_leT, ev_leF, ev_eqT, ev_eqF, ev_cl, ev_in, gd_t, bd_s, lt_e, ev_of, ↓reduceIte, decide_true, true_or, or_true, ev_l0, ev_l1, ev_l2, ev_l3, ev_l4, ev_l5, ev_l6, ev_l7, ev_l8, ev_l9, ev_l10, ev_l11, ev_l12, ev_l13, ev_l14, ev_l15, ev_l16, ev_l17, ev_l18, ev_l19, ev_l20, ev_l21, ev_l22, ev_l23, ev_l24, ev_l25, ev_l26, ev_l30, ev_l31, ev_l32, ev_l37, ev_l40, ev_l41, ev_l43, ev_l48, ev_l49, ev_l51, ev_l55, ev_l57, ev_l58, ev_l60, ev_l61, ev_l79, ev_l85, ev_l91, ev_l99, ev_l100, ev_l107, ev_l115, ev_l127, ev_l140, ev_l215, ev_l220, ev_l920, ev_l9999, ev_nT, ev_nF, ev_nlT, ev_nlF, wi_e, hv_t n0 hv (by omega), iv_t m0 hv (by omega), show f_X6_in (nI w) (nI 0) (nI 1) = _ from in_t (n := 2) hw2 (by omega), u1, g1, g2, show b_X2_swayed_8 t jx_fuel σl2 (nI v) (nI 0) (nI 0) = _ from kl, n02, bi_shl (S 0) (by omega), q1, show b_X6_sways_34 jx_fuel σm2 (nI v) (nI w) (0 : Int64) (nI 0) = _ from km]
          exact ⟨_, _, _, rfl, rfl, fin⟩
        · intro n _ _
          simp only [b_X6_sways_34, g_X6_sways_34]
          rw [m02, sh, if_pos (Int32.le_refl _), fr_l (S 0) (by omega)]
        · intro n i _ hi _ ih
          have ih' := ih () trivial
          have li : nI i + (1 : Int32) = nI (i + 1) := nI_1 i
          have xi : i ^^^ 2 ^ v < 2 ^ S 0 := Nat.xor_lt_two_pow hi pv
          simp only [b_X6_sways_34, g_X6_sways_34, b_X6_sways_72]
          rw [m02, sh, if_neg (nI_ge hi (by omega)), cm_by g4 hw bb (by omega), bd_s, shv, bi_xor]
          simp only []
          rw [cm_by g4 hw bb (by omega), bd_s, mxM, mxM]
          simp only [lt_e, li]
          rw [show sp_t (fun s => sp_D M (2 ^ v) (sp_B (fun v => S (49 + v)) (S 0) ^^^ s)) (i + 1) = sp_t (fun s => sp_D M (2 ^ v) (sp_B (fun v => S (49 + v)) (S 0) ^^^ s)) i + (if M (sp_B (fun v => S (49 + v)) (S 0) ^^^ i) = M ((sp_B (fun v => S (49 + v)) (S 0) ^^^ i) ^^^ 2 ^ v) then 0 else 1) from rfl, Nat.xor_assoc] at ih'
          by_cases c : M (sp_B (fun v => S (49 + v)) (S 0) ^^^ i) = M (sp_B (fun v => S (49 + v)) (S 0) ^^^ (i ^^^ 2 ^ v))
          · rw [if_pos c] at ih'
            rw [if_pos c, show lN (sp_t (fun s => sp_D M (2 ^ v) (sp_B (fun v => S (49 + v)) (S 0) ^^^ s)) i) + (0 : Int64) = _ from lN_add _ 0]
            exact ih'
          · rw [if_neg c] at ih'
            rw [if_neg c, show lN (sp_t (fun s => sp_D M (2 ^ v) (sp_B (fun v => S (49 + v)) (S 0) ^^^ s)) i) + (1 : Int64) = _ from lN_add _ 1]
            exact ih'
      · intro n _ _
        simp only [b_X2_swayed_8, g_X2_swayed_8]
        rw [n02, sh, if_pos (Int32.le_refl _)]
      · intro n i _ hi _ ih
        have ih' := ih () trivial
        have li : nI i + (1 : Int32) = nI (i + 1) := nI_1 i
        have lj : nI (sp_t (sp_D M (2 ^ v)) i) + (1 : Int32) = nI (sp_t (sp_D M (2 ^ v)) i + 1) := nI_1 _
        have xi : i ^^^ 2 ^ v < 2 ^ S 0 := Nat.xor_lt_two_pow hi pv
        simp only [b_X2_swayed_8, g_X2_swayed_8, b_X2_swayed_41]
        rw [n02, sh, if_neg (nI_ge hi (by omega)), mlM i hi, bd_s, shv, bi_xor, mlM _ xi, bd_s]
        simp only [lt_e, li, lj]
        rw [show sp_t (sp_D M (2 ^ v)) (i + 1) = sp_t (sp_D M (2 ^ v)) i + (if M i = M (i ^^^ 2 ^ v) then 0 else 1) from rfl] at ih'
        by_cases c : M i = M (i ^^^ 2 ^ v)
        · rw [if_pos c] at ih'
          rw [if_pos c]
          exact ih'
        · rw [if_neg c] at ih'
          rw [if_neg c]
          exact ih'
