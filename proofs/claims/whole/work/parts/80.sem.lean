/-! what E says, told twice: bits of a long (the class), a row of truths (the reference) -/
theorem l6_shl (A : Nat) : lN A <<< ((1 : Int32).toInt64 &&& 63) = lN (2 * A) := by
  apply Int64.toBitVec_inj.1
  rw [Int64.toBitVec_shiftLeft, show (((1 : Int32).toInt64 &&& 63 : Int64).toBitVec.smod 64) = 1#64 by decide]
  show BitVec.ofNat 64 A <<< 1#64 = BitVec.ofNat 64 (2 * A)
  apply BitVec.eq_of_toNat_eq
  rw [BitVec.shiftLeft_eq', BitVec.toNat_shiftLeft, BitVec.toNat_ofNat, BitVec.toNat_ofNat, BitVec.toNat_ofNat, show 1 % 2 ^ 64 = 1 from rfl, Nat.shiftLeft_eq]
  omega
theorem l6_shr {A : Nat} (h : A < 2 ^ 62) : lN A >>> ((1 : Int32).toInt64 &&& 63) = lN (A / 2) := by
  apply Int64.toInt_inj.mp
  have e : (lN A >>> ((1 : Int32).toInt64 &&& 63)).toInt = (lN A).toInt >>> 1 := by
    rw [show (1 : Nat) = ((((1 : Int32).toInt64 &&& 63 : Int64).toBitVec.smod 64)).toNat by decide]
    exact BitVec.toInt_sshiftRight ..
  rw [e, Int.shiftRight_eq_div_pow, pk_lT (by omega), pk_lT (by omega)]
  rfl
theorem l6_and (a b : Nat) : lN a &&& lN b = lN (a &&& b) := by
  apply Int64.toBitVec_inj.1
  show BitVec.ofNat 64 a &&& BitVec.ofNat 64 b = BitVec.ofNat 64 (a &&& b)
  apply BitVec.eq_of_getLsbD_eq
  intro i hi
  simp [hi]
theorem l6_or (a b : Nat) : lN a ||| lN b = lN (a ||| b) := by
  apply Int64.toBitVec_inj.1
  show BitVec.ofNat 64 a ||| BitVec.ofNat 64 b = BitVec.ofNat 64 (a ||| b)
  apply BitVec.eq_of_getLsbD_eq
  intro i hi
  simp [hi]
theorem l6_xor (a b : Nat) : lN a ^^^ lN b = lN (a ^^^ b) := by
  apply Int64.toBitVec_inj.1
  show BitVec.ofNat 64 a ^^^ BitVec.ofNat 64 b = BitVec.ofNat 64 (a ^^^ b)
  apply BitVec.eq_of_getLsbD_eq
  intro i hi
  simp [hi]
theorem two_or {A b : Nat} (hb : b < 2) : 2 * A ||| b = 2 * A + b := (Nat.two_pow_add_eq_or_of_lt (i := 1) hb A).symm
theorem l6_m2 : ∀ i, i < 64 → (-2 : Int64).toBitVec.getLsbD i = decide (¬ i = 0) := by decide
theorem l6_o0 {A : Nat} : lN (2 * A) ||| (-2 : Int64) = -2 := by
  apply Int64.toBitVec_inj.1
  apply BitVec.eq_of_getLsbD_eq
  intro i hi
  rw [Int64.toBitVec_or, BitVec.getLsbD_or, l6_m2 i hi]
  by_cases e : i = 0
  · subst e
    show ((BitVec.ofNat 64 (2 * A)).getLsbD 0 || decide (¬ 0 = 0)) = decide (¬ 0 = 0)
    rw [BitVec.getLsbD_ofNat]
    have z : (2 * A).testBit 0 = false := by rw [Nat.testBit_zero]; exact decide_eq_false (by omega)
    rw [z]; rfl
  · rw [decide_eq_true e, Bool.or_true]
theorem l6_o1 {A : Nat} : lN (2 * A + 1) ||| (-2 : Int64) = -1 := by
  apply Int64.toBitVec_inj.1
  apply BitVec.eq_of_getLsbD_eq
  intro i hi
  have m1 : ∀ i, i < 64 → (-1 : Int64).toBitVec.getLsbD i = true := by decide
  rw [Int64.toBitVec_or, BitVec.getLsbD_or, l6_m2 i hi, m1 i hi]
  by_cases e : i = 0
  · subst e
    show ((BitVec.ofNat 64 (2 * A + 1)).getLsbD 0 || decide (¬ 0 = 0)) = true
    rw [BitVec.getLsbD_ofNat]
    have z : (2 * A + 1).testBit 0 = true := by rw [Nat.testBit_zero]; exact decide_eq_true (by omega)
    rw [z]; rfl
  · rw [decide_eq_true e, Bool.or_true]
theorem l6_a1 {x : Int64} : x &&& (-1 : Int64) = x := by
  apply Int64.toBitVec_inj.1
  apply BitVec.eq_of_getLsbD_eq
  intro i hi
  have m1 : ∀ i, i < 64 → (-1 : Int64).toBitVec.getLsbD i = true := by decide
  rw [Int64.toBitVec_and, BitVec.getLsbD_and, m1 i hi, Bool.and_true]
theorem l6_a2 {A b : Nat} (hb : b < 2) : lN (2 * A + b) &&& (-2 : Int64) = lN (2 * A) := by
  apply Int64.toBitVec_inj.1
  apply BitVec.eq_of_getLsbD_eq
  intro i hi
  rw [Int64.toBitVec_and, BitVec.getLsbD_and, l6_m2 i hi]
  show ((BitVec.ofNat 64 (2 * A + b)).getLsbD i && decide (¬ i = 0)) = (BitVec.ofNat 64 (2 * A)).getLsbD i
  rw [BitVec.getLsbD_ofNat, BitVec.getLsbD_ofNat]
  by_cases e : i = 0
  · subst e
    have z : (2 * A).testBit 0 = false := by rw [Nat.testBit_zero]; exact decide_eq_false (by omega)
    rw [z, decide_eq_false (show ¬ ¬ 0 = 0 by omega), Bool.and_false, Bool.and_false]
  · obtain ⟨j, rfl⟩ : ∃ j, i = j + 1 := ⟨i - 1, by omega⟩
    rw [Nat.testBit_succ, Nat.testBit_succ, decide_eq_true e, Bool.and_true, show (2 * A + b) / 2 = A by omega, show 2 * A / 2 = A by omega]
/-- & of the two latest answers -/
theorem l6_AND {A b c : Nat} (hA : A < 2 ^ 60) (hb : b < 2) (hc : c < 2) : (lN (2 * (2 * A + b) + c) >>> ((1 : Int32).toInt64 &&& 63)) &&& (lN (2 * (2 * A + b) + c) ||| (-2 : Int64)) = lN (2 * A + b * c) := by
  rw [l6_shr (by omega), show (2 * (2 * A + b) + c) / 2 = 2 * A + b by omega]
  have h : c = 0 ∨ c = 1 := by omega
  rcases h with rfl | rfl
  · rw [Nat.add_zero, l6_o0, l6_a2 hb, Nat.mul_zero, Nat.add_zero]
  · rw [l6_o1, l6_a1, Nat.mul_one]
theorem l6_OR {A b c : Nat} (hA : A < 2 ^ 60) (hb : b < 2) (hc : c < 2) : (lN (2 * (2 * A + b) + c) >>> ((1 : Int32).toInt64 &&& 63)) ||| (lN (2 * (2 * A + b) + c) &&& (1 : Int64)) = lN (2 * A + (b ||| c)) := by
  rw [l6_shr (by omega), show (2 * (2 * A + b) + c) / 2 = 2 * A + b by omega, show (1 : Int64) = lN 1 from rfl, l6_and, Nat.and_one_is_mod, show (2 * (2 * A + b) + c) % 2 = c by omega, l6_or, ← two_or hb, Nat.or_assoc]
  have h : b ||| c < 2 := Nat.or_lt_two_pow (n := 1) hb hc
  rw [two_or h]
theorem l6_NOT {A b : Nat} (hb : b < 2) : lN (2 * A + b) ^^^ (1 : Int64) = lN (2 * A + (1 - b)) := by
  rw [show (1 : Int64) = lN 1 from rfl, l6_xor]
  have h : b = 0 ∨ b = 1 := by omega
  have e : ∀ A : Nat, (2 * A) ^^^ 1 = 2 * A + 1 := fun A => by
    apply Nat.eq_of_testBit_eq
    intro i
    rw [Nat.testBit_xor]
    cases i with
    | zero => rw [Nat.testBit_zero, Nat.testBit_zero, Nat.testBit_zero, decide_eq_false (show ¬ 2 * A % 2 = 1 by omega), decide_eq_true (show (2 * A + 1) % 2 = 1 by omega)]; rfl
    | succ j => rw [Nat.testBit_succ, Nat.testBit_succ, Nat.testBit_succ, show 2 * A / 2 = A by omega, show (2 * A + 1) / 2 = A by omega, show 1 / 2 = 0 from rfl, Nat.zero_testBit, Bool.xor_false]
  rcases h with rfl | rfl
  · rw [Nat.add_zero, e]
  · rw [← e A, Nat.xor_assoc, Nat.xor_self, Nat.xor_zero]; rfl
def hc_ (t : jx_T) (σ : jx_M) (v E p q m w : Nat) : Prop := v < t.2.1 3 ∧ t.2.1 3 ≤ 10 ∧ t.2.2 3 v = nI E ∧ E ≤ t.2.1 4 ∧ t.2.1 4 ≤ 100 ∧ (σ 20 0 = nI p ∧ σ 20 1 = nI q ∧ σ 20 2 = nI m ∧ σ 20 3 = nI w) ∧ p < 12 ∧ q < 12 ∧ m < 12 ∧ w < 12
theorem ni_n {y : Nat} (hy : y < 2 ^ 31) {x : Int32} (hx : x < 0) : ¬ nI y = x := fun e => nI_pos hy (by rw [e]; exact hx)
theorem hl_1 {t : jx_T} {σ : jx_M} {v E p q m w c n : Nat} {V : Int64} (h : hc_ t σ v E p q m w) (hc : c < E) : b_X4_holds_24 t (n + 1) σ (nI v) 20 V (nI c) = (if t.2.2 4 c = -1 then b_X4_holds_24 t n σ (nI v) 20 (V ^^^ (1 : Int64)) (nI (c + 1)) else if t.2.2 4 c = -2 then b_X4_holds_24 t n σ (nI v) 20 ((V >>> ((1 : Int32).toInt64 &&& 63)) &&& (V ||| (-2 : Int64))) (nI (c + 1)) else if t.2.2 4 c = -3 then b_X4_holds_24 t n σ (nI v) 20 ((V >>> ((1 : Int32).toInt64 &&& 63)) ||| (V &&& (1 : Int64))) (nI (c + 1)) else jx_gd (jx_in ((t.2.2 4 c >>> ((12 : Int32) &&& 31)) - (t.2.2 4 c >>> ((12 : Int32) &&& 31)) / (4 : Int32) * (4 : Int32)) 4) (b_X4_holds_24 t n σ (nI v) 20 ((V <<< ((1 : Int32).toInt64 &&& 63)) ||| (((t.2.2 4 c >>> ((σ 20 ((t.2.2 4 c >>> ((12 : Int32) &&& 31)) - (t.2.2 4 c >>> ((12 : Int32) &&& 31)) / (4 : Int32) * (4 : Int32)).toNatClampNeg) &&& 31)) &&& (1 : Int32))).toInt64) (nI (c + 1)))) := by
  obtain ⟨h1, h2, h3, h4, h5, -⟩ := h
  show g_X4_holds_24 t (b_X4_holds_24 t n) σ (nI v) 20 V (nI c) = _
  unfold g_X4_holds_24 b_X4_holds_125
  rw [ev_in h1 (by omega), gd_t, nI_clamp (show v < 2 ^ 31 by omega), h3, if_neg (nI_ge hc (by omega)), if_neg (show ¬ Int32.ofNat (t.2.1 4) ≤ nI c from nI_ge (by omega) (by omega)), ev_in (show c < t.2.1 4 by omega) (by omega), gd_t, lt_e, nI_clamp (show c < 2 ^ 31 by omega), show ll_len 20 = 4 from rfl]
  simp only [lt_e, show nI c + (1 : Int32) = nI (c + 1) from nI_1 c]
/-- a test: 0 <, 1 =, 2 > -/
def ts_b (how x : Nat) (f : Nat) : Bool := if how = 0 then decide (f < x) else if how = 1 then decide (f = x) else decide (x < f)
def fnd (wh p q m w : Nat) : Nat := if wh = 0 then p else if wh = 1 then q else if wh = 2 then m else w
def SGl (cd : Nat → Int32) (c L D b p q m w : Nat) : Prop := ∀ (t : jx_T) (σ : jx_M) (v E : Nat), hc_ t σ v E p q m w → c + L ≤ E → (∀ k, c ≤ k → k < c + L → t.2.2 4 k = cd k) → ∀ n A, A < 2 ^ (60 - D) → b_X4_holds_24 t (n + L) σ (nI v) 20 (lN A) (nI c) = b_X4_holds_24 t n σ (nI v) 20 (lN (2 * A + b)) (nI (c + L))
def lk_ (τ : jx_M) (p q m w : Nat) : Prop := (τ 3 0 = nI p ∧ τ 3 1 = nI q ∧ τ 3 2 = nI m ∧ τ 3 3 = nI w) ∧ p < 12 ∧ q < 12 ∧ m < 12 ∧ w < 12
def SGm (sd : Nat → Int32) (e L D b p q m w : Nat) : Prop := ∀ (τ : jx_M) (fr many T : Nat), lk_ τ p q m w → fr + many ≤ 920 → e + L ≤ many → T + D ≤ 60 → (∀ k, e ≤ k → k < e + L → τ 1 (fr + k) = sd k) → ∀ n, ∃ τ', b_X6_looks_120 (n + L) τ (nI many) (nI fr) (nI T) (nI (fr + e)) = b_X6_looks_120 n τ' (nI many) (nI fr) (nI (T + 1)) (nI (fr + e + L)) ∧ (∀ a, ¬ a = 4 → τ' a = τ a) ∧ (∀ i, i < T → τ' 4 i = τ 4 i) ∧ τ' 4 T = nI b
def SG (cd sd : Nat → Int32) (c e L D : Nat) : Prop := D ≤ 40 ∧ ∀ p q m w, p < 12 → q < 12 → m < 12 → w < 12 → ∃ b, b < 2 ∧ SGl cd c L D b p q m w ∧ SGm sd e L D b p q m w
theorem SG_c {cd cd' sd sd' : Nat → Int32} {c e L D : Nat} (h : SG cd sd c e L D) (h1 : ∀ k, c ≤ k → k < c + L → cd' k = cd k) (h2 : ∀ k, e ≤ k → k < e + L → sd' k = sd k) : SG cd' sd' c e L D := by
  refine ⟨h.1, fun p q m w hp hq hm hw => ?_⟩
  obtain ⟨b, h3, h4, h5⟩ := h.2 p q m w hp hq hm hw
  exact ⟨b, h3, fun t σ v E a1 a2 a3 => h4 t σ v E a1 a2 (fun k k1 k2 => (a3 k k1 k2).trans (h1 k k1 k2)), fun τ fr many T a1 a2 a3 a4 a5 => h5 τ fr many T a1 a2 a3 a4 (fun k k1 k2 => (a5 k k1 k2).trans (h2 k k1 k2))⟩
theorem SG_D {cd sd : Nat → Int32} {c e L D D' : Nat} (h : SG cd sd c e L D) (h1 : D ≤ D') (h2 : D' ≤ 40) : SG cd sd c e L D' := by
  refine ⟨h2, fun p q m w hp hq hm hw => ?_⟩
  obtain ⟨b, h3, h4, h5⟩ := h.2 p q m w hp hq hm hw
  exact ⟨b, h3, fun t σ v E a1 a2 a3 n A hA => h4 t σ v E a1 a2 a3 n A (Nat.lt_of_lt_of_le hA (bi_p2 (by omega))), fun τ fr many T a1 a2 a3 a4 => h5 τ fr many T a1 a2 a3 (by omega)⟩
theorem bi_sm2 : ∀ i, i < 32 → ((nI i &&& nI 31).toBitVec.smod 32).toNat = i := by decide
theorem p60 {A D : Nat} (hA : A < 2 ^ (60 - D)) : A < 2 ^ 60 := Nat.lt_of_lt_of_le hA (bi_p2 (by omega))
theorem SG_test {cd sd : Nat → Int32} {c e wh how x : Nat} (hw : wh < 4) (hh : how < 3) (hx : x < 100) (h1 : cd c = nI (2 ^ 12 * wh + bu (ts_b how x) 12)) (h2 : sd e = nI (wh + 8 * how + 32 * x)) : SG cd sd c e 1 1 := by
  refine ⟨by omega, fun p q m w hp hq hm hw' => ⟨(ts_b how x (fnd wh p q m w)).toNat, by cases ts_b how x (fnd wh p q m w) <;> decide, ?_, ?_⟩⟩
  · intro t σ v E a1 a2 a3 n A hA
    have hf : fnd wh p q m w < 12 := by
      unfold fnd
      repeat' split
      all_goals assumption
    have bl := bu_lt (ts_b how x) 12
    have y1 : 2 ^ 12 * wh + bu (ts_b how x) 12 < 2 ^ 31 := by omega
    have hs : ((nI (2 ^ 12 * wh + bu (ts_b how x) 12)) >>> ((12 : Int32) &&& 31)) = nI wh := by
      rw [show ((12 : Int32) &&& 31) = (nI 12 &&& nI 31) from rfl, pk_shrN y1 _ 12 (bi_sm2 12 (by omega))]
      congr 1
      omega
    have hr : nI wh - nI wh / (4 : Int32) * (4 : Int32) = nI wh := by
      rw [show nI wh - nI wh / (4 : Int32) * (4 : Int32) = nI (wh % 4) from pk_rem (d := 4) (by omega) (by omega) (by omega), Nat.mod_eq_of_lt hw]
    have hσ : σ 20 wh = nI (fnd wh p q m w) := by
      have hw4 : wh = 0 ∨ wh = 1 ∨ wh = 2 ∨ wh = 3 := by omega
      have z := a1.2.2.2.2.2.1
      rcases hw4 with rfl | rfl | rfl | rfl
      · exact z.1
      · exact z.2.1
      · exact z.2.2.1
      · exact z.2.2.2
    rw [hl_1 a1 (by omega), a3 c (by omega) (by omega), h1, if_neg (ni_n y1 (by decide)), if_neg (ni_n y1 (by decide)), if_neg (ni_n y1 (by decide)), hs, hr, ev_in (show wh < 4 by omega) (by omega), gd_t, nI_clamp (show wh < 2 ^ 31 by omega), hσ, l6_shl]
    have hb : ((nI (2 ^ 12 * wh + bu (ts_b how x) 12) >>> (nI (fnd wh p q m w) &&& 31)) &&& (1 : Int32)) = nI (ts_b how x (fnd wh p q m w)).toNat := by
      rw [show (31 : Int32) = nI 31 from rfl, pk_shrN y1 _ _ (bi_sm2 _ (by omega)), show (1 : Int32) = nI 1 from rfl, bi_and, Nat.and_one_is_mod, tb_dm, Nat.testBit_two_pow_mul_add _ bl, if_pos hf, bu_t, decide_eq_true hf, Bool.true_and]
    have tl : (ts_b how x (fnd wh p q m w)).toNat < 2 := by cases ts_b how x (fnd wh p q m w) <;> decide
    rw [hb, nI_l (by omega), l6_or, two_or tl]
  · intro τ fr many T a1 a2 a3 a4 a5 n
    have ht := a5 e (by omega) (by omega)
    rw [h2] at ht
    have hf : fnd wh p q m w < 12 := by
      unfold fnd
      repeat' split
      all_goals assumption
    have hσ : τ 3 wh = nI (fnd wh p q m w) := by
      have hw4 : wh = 0 ∨ wh = 1 ∨ wh = 2 ∨ wh = 3 := by omega
      have z := a1.1
      rcases hw4 with rfl | rfl | rfl | rfl
      · exact z.1
      · exact z.2.1
      · exact z.2.2.1
      · exact z.2.2.2
    have z1 : nI (wh + 8 * how + 32 * x) - nI (wh + 8 * how + 32 * x) / (8 : Int32) * (8 : Int32) = nI wh := by
      rw [show nI (wh + 8 * how + 32 * x) - nI (wh + 8 * how + 32 * x) / (8 : Int32) * (8 : Int32) = nI ((wh + 8 * how + 32 * x) % 8) from pk_rem (d := 8) (by omega) (by omega) (by omega)]
      congr 1; omega
    have z2 : nI (wh + 8 * how + 32 * x) / (8 : Int32) = nI (how + 4 * x) := by
      rw [show nI (wh + 8 * how + 32 * x) / (8 : Int32) = nI ((wh + 8 * how + 32 * x) / 8) from pk_div (d := 8) (by omega) (by omega) (by omega)]
      congr 1; omega
    have z3 : nI (how + 4 * x) - nI (how + 4 * x) / (4 : Int32) * (4 : Int32) = nI how := by
      rw [show nI (how + 4 * x) - nI (how + 4 * x) / (4 : Int32) * (4 : Int32) = nI ((how + 4 * x) % 4) from pk_rem (d := 4) (by omega) (by omega) (by omega)]
      congr 1; omega
    have z4 : nI (wh + 8 * how + 32 * x) / (32 : Int32) = nI x := by
      rw [show nI (wh + 8 * how + 32 * x) / (32 : Int32) = nI ((wh + 8 * how + 32 * x) / 32) from pk_div (d := 32) (by omega) (by omega) (by omega)]
      congr 1; omega
    have li : nI (fr + e) + (1 : Int32) = nI (fr + e + 1) := nI_1 _
    have lt : nI T + (1 : Int32) = nI (T + 1) := nI_1 _
    have fin : ∀ b, b < 2 → b_X6_looks_230 (b_X6_looks_120 n) τ (nI many) (nI fr) (nI T) (nI (fr + e)) (nI b) (nI T) = b_X6_looks_120 n (jx_mu τ 4 T (nI b)) (nI many) (nI fr) (nI (T + 1)) (nI (fr + e + 1)) := by
      intro b hb
      unfold b_X6_looks_230 b_X6_looks_497
      simp (disch := first | omega | assumption) only [ev_add, ev_mul, ev_rem, ev_sub, ev_ltT, ev_ltF, ev_leT, ev_leF, ev_eqT, ev_eqF, ev_cl, ev_in, gd_t, bd_s, lt_e, ev_of, ↓reduceIte, decide_true, true_or, or_true, ev_l0, ev_l1, ev_l2, ev_l3, ev_l4, ev_l5, ev_l6, ev_l7, ev_l8, ev_l9, ev_l10, ev_l11, ev_l12, ev_l13, ev_l14, ev_l15, ev_l16, ev_l17, ev_l18, ev_l19, ev_l20, ev_l21, ev_l22, ev_l23, ev_l24, ev_l25, ev_l26, ev_l30, ev_l31, ev_l32, ev_l37, ev_l40, ev_l41, ev_l43, ev_l48, ev_l49, ev_l51, ev_l55, ev_l57, ev_l58, ev_l60, ev_l61, ev_l79, ev_l85, ev_l91, ev_l99, ev_l100, ev_l107, ev_l115, ev_l127, ev_l140, ev_l215, ev_l220, ev_l920, ev_l9999, ev_nT, ev_nF, ev_nlT, ev_nlF, ev_01]
    refine ⟨jx_mu τ 4 T (nI (ts_b how x (fnd wh p q m w)).toNat), ?_, fun a ha => mu_a ha, fun i hi => mu_n (by omega), mu_s⟩
    show g_X6_looks_120 (b_X6_looks_120 n) τ (nI many) (nI fr) (nI T) (nI (fr + e)) = _
    unfold g_X6_looks_120
    rw [show nI fr + nI many = nI (fr + many) from nI_add _ _, if_neg (nI_ge (by omega) (by omega)), ev_in (show fr + e < 920 by omega) (by omega), gd_t, lt_e, nI_clamp (show fr + e < 2 ^ 31 by omega), ht, if_neg (nI_pos (by omega)), z1, ev_in (show wh < 4 by omega) (by omega), gd_t, lt_e, nI_clamp (show wh < 2 ^ 31 by omega), hσ, lt_e, lt_e, z2, z3, z4]
    have hh3 : how = 0 ∨ how = 1 ∨ how = 2 := by omega
    rcases hh3 with rfl | rfl | rfl
    · rw [if_pos (show nI 0 = (0 : Int32) from rfl)]
      by_cases g : x ≤ fnd wh p q m w
      · rw [if_pos (nI_le g (by omega)), show ts_b 0 x (fnd wh p q m w) = false from decide_eq_false (by omega)]
        exact fin 0 (by omega)
      · rw [if_neg (nI_ge (by omega) (by omega)), show ts_b 0 x (fnd wh p q m w) = true from decide_eq_true (by omega)]
        exact fin 1 (by omega)
    · rw [if_neg (show ¬ nI 1 = (0 : Int32) by decide), if_pos (show nI 1 = (1 : Int32) from rfl)]
      by_cases g : fnd wh p q m w = x
      · rw [if_pos (by rw [g]), show ts_b 1 x (fnd wh p q m w) = true from decide_eq_true g]
        exact fin 1 (by omega)
      · rw [if_neg (fun z => g ((nI_eq (by omega) (by omega)).mp z)), show ts_b 1 x (fnd wh p q m w) = false from decide_eq_false g]
        exact fin 0 (by omega)
    · rw [if_neg (show ¬ nI 2 = (0 : Int32) by decide), if_neg (show ¬ nI 2 = (1 : Int32) by decide)]
      by_cases g : fnd wh p q m w ≤ x
      · rw [if_pos (nI_le g (by omega)), show ts_b 2 x (fnd wh p q m w) = false from decide_eq_false (by omega)]
        exact fin 0 (by omega)
      · rw [if_neg (nI_ge (by omega) (by omega)), show ts_b 2 x (fnd wh p q m w) = true from decide_eq_true (by omega)]
        exact fin 1 (by omega)
theorem SG_not {cd sd : Nat → Int32} {c e L D : Nat} (h : SG cd sd c e L D) (h1 : cd (c + L) = -1) (h2 : sd (e + L) = -1) : SG cd sd c e (L + 1) D := by
  refine ⟨h.1, fun p q m w hp hq hm hw => ?_⟩
  obtain ⟨b, hb, h4, h5⟩ := h.2 p q m w hp hq hm hw
  refine ⟨1 - b, by omega, ?_, ?_⟩
  · intro t σ v E a1 a2 a3 n A hA
    have s1 := h4 t σ v E a1 (by omega) (fun k k1 k2 => a3 k k1 (by omega)) (n + 1) A hA
    rw [show n + (L + 1) = n + 1 + L by omega, s1, hl_1 a1 (by omega), a3 (c + L) (by omega) (by omega), h1, if_pos rfl, l6_NOT hb]
    rfl
  · intro τ fr many T a1 a2 a3 a4 a5 n
    obtain ⟨τ1, s1, s2, s3, s4⟩ := h5 τ fr many T a1 a2 (by omega) a4 (fun k k1 k2 => a5 k k1 (by omega)) (n + 1)
    have ht : τ1 1 (fr + e + L) = -1 := by
      rw [s2 1 (by omega), show fr + e + L = fr + (e + L) by omega, a5 (e + L) (by omega) (by omega), h2]
    have li : nI (fr + e + L) + (1 : Int32) = nI (fr + e + L + 1) := nI_1 _
    have lt : nI (T + 1) - (1 : Int32) = nI T := nI_pred T
    have hD : T < 64 := by have := h.1; omega
    have fin : ∀ d, d < 2 → b_X6_looks_268 (b_X6_looks_120 n) τ1 (nI many) (nI fr) (nI (T + 1)) (nI (fr + e + L)) (nI d) (nI T) = b_X6_looks_120 n (jx_mu τ1 4 T (nI d)) (nI many) (nI fr) (nI (T + 1)) (nI (fr + e + L + 1)) := by
      intro d hd
      unfold b_X6_looks_268 b_X6_looks_497
      simp (disch := first | omega | assumption) only [ev_add, ev_mul, ev_rem, ev_sub, ev_ltT, ev_ltF, ev_leT, ev_leF, ev_eqT, ev_eqF, ev_cl, ev_in, gd_t, bd_s, lt_e, ev_of, ↓reduceIte, decide_true, true_or, or_true, ev_l0, ev_l1, ev_l2, ev_l3, ev_l4, ev_l5, ev_l6, ev_l7, ev_l8, ev_l9, ev_l10, ev_l11, ev_l12, ev_l13, ev_l14, ev_l15, ev_l16, ev_l17, ev_l18, ev_l19, ev_l20, ev_l21, ev_l22, ev_l23, ev_l24, ev_l25, ev_l26, ev_l30, ev_l31, ev_l32, ev_l37, ev_l40, ev_l41, ev_l43, ev_l48, ev_l49, ev_l51, ev_l55, ev_l57, ev_l58, ev_l60, ev_l61, ev_l79, ev_l85, ev_l91, ev_l99, ev_l100, ev_l107, ev_l115, ev_l127, ev_l140, ev_l215, ev_l220, ev_l920, ev_l9999, ev_nT, ev_nF, ev_nlT, ev_nlF, ev_01]
    refine ⟨jx_mu τ1 4 T (nI (1 - b)), ?_, fun a ha => (mu_a ha).trans (s2 a ha), fun i hi => (mu_n (by omega)).trans (s3 i hi), mu_s⟩
    rw [show n + (L + 1) = n + 1 + L by omega, s1]
    show g_X6_looks_120 (b_X6_looks_120 n) τ1 (nI many) (nI fr) (nI (T + 1)) (nI (fr + e + L)) = _
    unfold g_X6_looks_120
    rw [show nI fr + nI many = nI (fr + many) from nI_add _ _, if_neg (nI_ge (by omega) (by omega)), ev_in (show fr + e + L < 920 by omega) (by omega), gd_t, lt_e, nI_clamp (show fr + e + L < 2 ^ 31 by omega), ht, if_pos (show (-1 : Int32) < 0 by decide), if_pos rfl, lt, ev_in hD (by omega), gd_t, nI_clamp (show T < 2 ^ 31 by omega), s4]
    have hb2 : b = 0 ∨ b = 1 := by omega
    rcases hb2 with rfl | rfl
    · rw [if_pos (show nI 0 = (0 : Int32) from rfl)]
      exact fin 1 (by omega)
    · rw [if_neg (show ¬ nI 1 = (0 : Int32) by decide)]
      exact fin 0 (by omega)
theorem SG_bin {cd sd : Nat → Int32} {c e L1 D1 L2 D2 D : Nat} (h : SG cd sd c e L1 D1) (h' : SG cd sd (c + L1) (e + L1) L2 D2) (hD1 : D1 ≤ D) (hD2 : D2 + 1 ≤ D) (hD : D ≤ 40) (o : Bool) (h1 : cd (c + (L1 + L2)) = (if o = true then -2 else -3)) (h2 : sd (e + (L1 + L2)) = (if o = true then -2 else -3)) : SG cd sd c e (L1 + L2 + 1) D := by
  refine ⟨hD, fun p q m w hp hq hm hw => ?_⟩
  obtain ⟨b, hb, h4, h5⟩ := h.2 p q m w hp hq hm hw
  obtain ⟨b', hb', h4', h5'⟩ := h'.2 p q m w hp hq hm hw
  refine ⟨if o = true then b * b' else (b ||| b'), ?_, ?_, ?_⟩
  · cases o with
    | true =>
      have x : b = 0 ∨ b = 1 := by omega
      rcases x with rfl | rfl
      · simp
      · simp; exact hb'
    | false => exact Nat.or_lt_two_pow (n := 1) hb hb'
  · intro t σ v E a1 a2 a3 n A hA
    have p1 : A < 2 ^ (60 - D1) := Nat.lt_of_lt_of_le hA (bi_p2 (by omega))
    have p2 : 2 * A + b < 2 ^ (60 - D2) := by
      have x : 2 ^ (60 - D) * 2 ≤ 2 ^ (60 - D2) := by rw [← Nat.pow_succ]; exact bi_p2 (by omega)
      omega
    have s1 := h4 t σ v E a1 (by omega) (fun k k1 k2 => a3 k k1 (by omega)) (n + 1 + L2) A p1
    have s2 := h4' t σ v E a1 (by omega) (fun k k1 k2 => a3 k (by omega) (by omega)) (n + 1) (2 * A + b) p2
    have A60 := p60 hA
    rw [show n + (L1 + L2 + 1) = n + 1 + L2 + L1 by omega, s1, s2, hl_1 a1 (by omega), show c + L1 + L2 = c + (L1 + L2) by omega, a3 (c + (L1 + L2)) (by omega) (by omega), h1]
    cases o with
    | true => rw [if_pos rfl, if_neg (by decide), if_pos rfl, l6_AND A60 hb hb', if_pos rfl]; rfl
    | false => rw [show (if false = true then (-2 : Int32) else -3) = -3 from rfl, if_neg (show ¬ (-3 : Int32) = -1 by decide), if_neg (show ¬ (-3 : Int32) = -2 by decide), if_pos rfl, l6_OR A60 hb hb', if_neg (show ¬ false = true by decide)]; rfl
  · intro τ fr many T a1 a2 a3 a4 a5 n
    obtain ⟨τ1, s1, s2, s3, s4⟩ := h5 τ fr many T a1 a2 (by omega) (by omega) (fun k k1 k2 => a5 k k1 (by omega)) (n + 1 + L2)
    have a1' : lk_ τ1 p q m w := by
      unfold lk_
      rw [s2 3 (by omega)]
      exact a1
    obtain ⟨τ2, r1, r2, r3, r4⟩ := h5' τ1 fr many (T + 1) a1' a2 (by omega) (by omega) (fun k k1 k2 => by rw [s2 1 (by omega)]; exact a5 k (by omega) (by omega)) (n + 1)
    have ht : τ2 1 (fr + (e + (L1 + L2))) = (if o = true then -2 else -3) := by
      rw [r2 1 (by omega), s2 1 (by omega), a5 (e + (L1 + L2)) (by omega) (by omega), h2]
    have k4 : τ2 4 T = nI b := (r3 T (by omega)).trans s4
    have li : nI (fr + (e + (L1 + L2))) + (1 : Int32) = nI (fr + (e + (L1 + L2)) + 1) := nI_1 _
    have lt : nI (T + 1 + 1) + (-1 : Int32) = nI (T + 1) := by rw [← Int32.sub_eq_add_neg]; exact nI_pred (T + 1)
    have lt2 : nI (T + 1) - (1 : Int32) = nI T := nI_pred T
    have hT : T + 1 < 64 := by omega
    have fin : ∀ d, d < 2 → b_X6_looks_354 (b_X6_looks_120 n) τ2 (nI many) (nI fr) (nI (T + 1)) (nI (fr + (e + (L1 + L2)))) (nI d) (nI T) = b_X6_looks_120 n (jx_mu τ2 4 T (nI d)) (nI many) (nI fr) (nI (T + 1)) (nI (fr + (e + (L1 + L2)) + 1)) := by
      intro d hd
      unfold b_X6_looks_354 b_X6_looks_497
      simp (disch := first | omega | assumption) only [ev_add, ev_mul, ev_rem, ev_sub, ev_ltT, ev_ltF, ev_leT, ev_leF, ev_eqT, ev_eqF, ev_cl, ev_in, gd_t, bd_s, lt_e, ev_of, ↓reduceIte, decide_true, true_or, or_true, ev_l0, ev_l1, ev_l2, ev_l3, ev_l4, ev_l5, ev_l6, ev_l7, ev_l8, ev_l9, ev_l10, ev_l11, ev_l12, ev_l13, ev_l14, ev_l15, ev_l16, ev_l17, ev_l18, ev_l19, ev_l20, ev_l21, ev_l22, ev_l23, ev_l24, ev_l25, ev_l26, ev_l30, ev_l31, ev_l32, ev_l37, ev_l40, ev_l41, ev_l43, ev_l48, ev_l49, ev_l51, ev_l55, ev_l57, ev_l58, ev_l60, ev_l61, ev_l79, ev_l85, ev_l91, ev_l99, ev_l100, ev_l107, ev_l115, ev_l127, ev_l140, ev_l215, ev_l220, ev_l920, ev_l9999, ev_nT, ev_nF, ev_nlT, ev_nlF, ev_01]
    refine ⟨jx_mu τ2 4 T (nI (if o = true then b * b' else (b ||| b'))), ?_, fun a ha => (mu_a ha).trans ((r2 a ha).trans (s2 a ha)), fun i hi => (mu_n (by omega)).trans ((r3 i (by omega)).trans (s3 i hi)), mu_s⟩
    rw [show n + (L1 + L2 + 1) = n + 1 + L2 + L1 by omega, s1, show fr + e + L1 = fr + (e + L1) by omega, r1, show fr + (e + L1) + L2 = fr + (e + (L1 + L2)) by omega]
    show g_X6_looks_120 (b_X6_looks_120 n) τ2 (nI many) (nI fr) (nI (T + 1 + 1)) (nI (fr + (e + (L1 + L2)))) = _
    unfold g_X6_looks_120
    rw [show nI fr + nI many = nI (fr + many) from nI_add _ _, if_neg (nI_ge (by omega) (by omega)), ev_in (show fr + (e + (L1 + L2)) < 920 by omega) (by omega), gd_t, lt_e, nI_clamp (show fr + (e + (L1 + L2)) < 2 ^ 31 by omega), ht]
    have xb : b = 0 ∨ b = 1 := by omega
    have xb' : b' = 0 ∨ b' = 1 := by omega
    have e5 : fr + e + (L1 + L2 + 1) = fr + (e + (L1 + L2)) + 1 := by omega
    rw [e5]
    cases o with
    | true =>
      rw [if_pos rfl, if_pos rfl, if_pos (show (-2 : Int32) < 0 by decide), if_neg (show ¬ (-2 : Int32) = -1 by decide), if_neg (show ¬ (-2 : Int32) ≤ -10 by decide), lt_e, if_pos rfl, lt, lt2, ev_in (show T < 64 by omega) (by omega), gd_t, nI_clamp (show T < 2 ^ 31 by omega), k4]
      rcases xb with rfl | rfl
      · rw [if_pos (show nI 0 = (0 : Int32) from rfl), Nat.zero_mul]
        exact fin 0 (by omega)
      · rw [if_neg (show ¬ nI 1 = (0 : Int32) by decide), ev_in hT (by omega), gd_t, nI_clamp (show T + 1 < 2 ^ 31 by omega), r4, Nat.one_mul]
        rcases xb' with rfl | rfl
        · rw [if_pos (show nI 0 = (0 : Int32) from rfl)]
          exact fin 0 (by omega)
        · rw [if_neg (show ¬ nI 1 = (0 : Int32) by decide)]
          exact fin 1 (by omega)
    | false =>
      rw [if_neg (show ¬ false = true by decide), if_neg (show ¬ false = true by decide), if_pos (show (-3 : Int32) < 0 by decide), if_neg (show ¬ (-3 : Int32) = -1 by decide), if_neg (show ¬ (-3 : Int32) ≤ -10 by decide), lt_e, if_neg (show ¬ (-3 : Int32) = -2 by decide), lt, lt2, ev_in (show T < 64 by omega) (by omega), gd_t, nI_clamp (show T < 2 ^ 31 by omega), k4]
      rcases xb with rfl | rfl
      · rw [if_pos (show nI 0 = (0 : Int32) from rfl), ev_in hT (by omega), gd_t, nI_clamp (show T + 1 < 2 ^ 31 by omega), r4, Nat.zero_or]
        rcases xb' with rfl | rfl
        · rw [if_pos (show nI 0 = (0 : Int32) from rfl)]
          exact fin 0 (by omega)
        · rw [if_neg (show ¬ nI 1 = (0 : Int32) by decide)]
          exact fin 1 (by omega)
      · rw [if_neg (show ¬ nI 1 = (0 : Int32) by decide), show 1 ||| b' = 1 from by rcases xb' with rfl | rfl <;> rfl]
        exact fin 1 (by omega)
