/-! phase 2: numbers, and what holds between the two memories -/
theorem ev_l0 : (0 : Int32) = nI 0 := rfl
theorem ev_l1 : (1 : Int32) = nI 1 := rfl
theorem ev_l2 : (2 : Int32) = nI 2 := rfl
theorem ev_l3 : (3 : Int32) = nI 3 := rfl
theorem ev_l4 : (4 : Int32) = nI 4 := rfl
theorem ev_l5 : (5 : Int32) = nI 5 := rfl
theorem ev_l6 : (6 : Int32) = nI 6 := rfl
theorem ev_l7 : (7 : Int32) = nI 7 := rfl
theorem ev_l8 : (8 : Int32) = nI 8 := rfl
theorem ev_l9 : (9 : Int32) = nI 9 := rfl
theorem ev_l10 : (10 : Int32) = nI 10 := rfl
theorem ev_l11 : (11 : Int32) = nI 11 := rfl
theorem ev_l12 : (12 : Int32) = nI 12 := rfl
theorem ev_l13 : (13 : Int32) = nI 13 := rfl
theorem ev_l14 : (14 : Int32) = nI 14 := rfl
theorem ev_l15 : (15 : Int32) = nI 15 := rfl
theorem ev_l16 : (16 : Int32) = nI 16 := rfl
theorem ev_l17 : (17 : Int32) = nI 17 := rfl
theorem ev_l18 : (18 : Int32) = nI 18 := rfl
theorem ev_l19 : (19 : Int32) = nI 19 := rfl
theorem ev_l20 : (20 : Int32) = nI 20 := rfl
theorem ev_l21 : (21 : Int32) = nI 21 := rfl
theorem ev_l22 : (22 : Int32) = nI 22 := rfl
theorem ev_l23 : (23 : Int32) = nI 23 := rfl
theorem ev_l24 : (24 : Int32) = nI 24 := rfl
theorem ev_l25 : (25 : Int32) = nI 25 := rfl
theorem ev_l26 : (26 : Int32) = nI 26 := rfl
theorem ev_l30 : (30 : Int32) = nI 30 := rfl
theorem ev_l31 : (31 : Int32) = nI 31 := rfl
theorem ev_l32 : (32 : Int32) = nI 32 := rfl
theorem ev_l37 : (37 : Int32) = nI 37 := rfl
theorem ev_l40 : (40 : Int32) = nI 40 := rfl
theorem ev_l41 : (41 : Int32) = nI 41 := rfl
theorem ev_l43 : (43 : Int32) = nI 43 := rfl
theorem ev_l48 : (48 : Int32) = nI 48 := rfl
theorem ev_l49 : (49 : Int32) = nI 49 := rfl
theorem ev_l51 : (51 : Int32) = nI 51 := rfl
theorem ev_l55 : (55 : Int32) = nI 55 := rfl
theorem ev_l57 : (57 : Int32) = nI 57 := rfl
theorem ev_l58 : (58 : Int32) = nI 58 := rfl
theorem ev_l60 : (60 : Int32) = nI 60 := rfl
theorem ev_l61 : (61 : Int32) = nI 61 := rfl
theorem ev_l79 : (79 : Int32) = nI 79 := rfl
theorem ev_l85 : (85 : Int32) = nI 85 := rfl
theorem ev_l91 : (91 : Int32) = nI 91 := rfl
theorem ev_l99 : (99 : Int32) = nI 99 := rfl
theorem ev_l100 : (100 : Int32) = nI 100 := rfl
theorem ev_l107 : (107 : Int32) = nI 107 := rfl
theorem ev_l115 : (115 : Int32) = nI 115 := rfl
theorem ev_l127 : (127 : Int32) = nI 127 := rfl
theorem ev_l140 : (140 : Int32) = nI 140 := rfl
theorem ev_l215 : (215 : Int32) = nI 215 := rfl
theorem ev_l220 : (220 : Int32) = nI 220 := rfl
theorem ev_l920 : (920 : Int32) = nI 920 := rfl
theorem ev_l9999 : (9999 : Int32) = nI 9999 := rfl
theorem ev_add (a b : Nat) : nI a + nI b = nI (a + b) := nI_add a b
theorem ev_mul (a b : Nat) : nI a * nI b = nI (a * b) := pk_mul a b
theorem ev_rem {a d : Nat} (ha : a < 2 ^ 31) (h0 : 0 < d) (hd : d < 2 ^ 31) : nI a - nI a / nI d * nI d = nI (a % d) := pk_rem ha h0 hd
theorem ev_sub {a b : Nat} (h : b ≤ a) : nI a - nI b = nI (a - b) := pk_sub h
theorem ev_ltT {a b : Nat} (h : a < b) (hb : b < 2 ^ 31) : (nI a < nI b) = True := eq_true (nI_lt h hb)
theorem ev_ltF {a b : Nat} (h : b ≤ a) (ha : a < 2 ^ 31) : (nI a < nI b) = False := eq_false (nI_nlt h ha)
theorem ev_leT {a b : Nat} (h : a ≤ b) (hb : b < 2 ^ 31) : (nI a ≤ nI b) = True := eq_true (nI_le h hb)
theorem ev_leF {a b : Nat} (h : b < a) (ha : a < 2 ^ 31) : (nI a ≤ nI b) = False := eq_false (nI_ge h ha)
theorem ev_eqT {a b : Nat} (h : a = b) : (nI a = nI b) = True := eq_true (by rw [h])
theorem ev_eqF {a b : Nat} (h : ¬ a = b) (ha : a < 2 ^ 31) (hb : b < 2 ^ 31) : (nI a = nI b) = False := eq_false (fun e => h ((nI_eq ha hb).mp e))
theorem ev_cl {a : Nat} (h : a < 2 ^ 31) : (nI a).toNatClampNeg = a := nI_clamp h
theorem ev_in {a n : Nat} (h : a < n) (hn : n < 2 ^ 31) : jx_in (nI a) n = true := decide_eq_true (vp_in_nI h hn)
theorem gd_t {α : Type} (k : Option α) : jx_gd true k = k := rfl
theorem bd_s {α β : Type} (x : α) (k : α → Option β) : jx_bd (some x) k = k x := rfl
theorem lt_e {α β : Type} (e : α) (k : α → β) : jx_lt e k = k e := rfl
theorem ev_of (n : Nat) : Int32.ofNat n = nI n := rfl
theorem mu_a {σ : jx_M} {a b i : Nat} {v : Int32} (h : ¬ b = a) : jx_mu σ a i v b = σ b := if_neg h
theorem mu_s {σ : jx_M} {a i : Nat} {v : Int32} : jx_mu σ a i v a i = v := by unfold jx_mu; rw [if_pos rfl]; exact if_pos rfl
theorem mu_n {σ : jx_M} {a b i j : Nat} {v : Int32} (h : ¬ j = i) : jx_mu σ a i v b j = σ b j := by
  unfold jx_mu
  by_cases e : b = a
  · rw [if_pos e, e]; exact if_neg h
  · rw [if_neg e]
theorem mu_v {σ : jx_M} {a b i j : Nat} {v : Int32} : jx_mu σ a i v b j = if b = a ∧ j = i then v else σ b j := by
  by_cases e : b = a
  · by_cases f : j = i
    · rw [if_pos ⟨e, f⟩, e, f]; exact mu_s
    · rw [if_neg (fun z => f z.2)]; exact mu_n f
  · rw [if_neg (fun z => e z.1)]; exact congrFun (mu_a e) j
/-- a number of the script: in a range, or not -/
theorem ix_p (x : Int32) (n : Nat) (hn : n < 2 ^ 31) : (x < 0 ∨ nI n ≤ x) ∨ ∃ j : Nat, j < n ∧ x = nI j := by
  rcases pk_ix x hn with h | h | h
  · exact Or.inl (Or.inl h)
  · exact Or.inl (Or.inr h)
  · exact Or.inr h
theorem ix_T {x : Int32} (h : x < 0) : (x < nI 0) = True := eq_true h
theorem in_f {x : Int32} {n : Nat} (h : x < 0 ∨ nI n ≤ x) (hn0 : 0 < n) (hn : n < 2 ^ 31) : f_X6_in x (nI 0) (nI (n - 1)) = some (nI 0) := by
  unfold f_X6_in
  rcases h with h | h
  · rw [if_pos (show x < nI 0 from h)]; rfl
  · by_cases h0 : x < nI 0
    · rw [if_pos h0]; rfl
    · rw [if_neg h0, if_pos]
      · rfl
      · obtain ⟨j, hj, rfl⟩ := nI_of (show ¬ x < 0 from h0)
        have := (nI_leI hn hj).mp h
        exact nI_lt (by omega) hj
theorem in_t {j n : Nat} (h : j < n) (hn : n < 2 ^ 31) : f_X6_in (nI j) (nI 0) (nI (n - 1)) = some (nI 1) := by
  unfold f_X6_in
  rw [if_neg (nI_nlt (Nat.zero_le _) (by omega)), if_neg (nI_nlt (by omega) (by omega))]
  rfl
theorem wi_e (x a b : Int32) : f_X5_within x a b = f_X6_in x a b := rfl
theorem hp_f {t : jx_T} {σ : jx_M} {x : Int32} {n : Nat} (h0 : σ 0 0 = nI n) (h : x < 0 ∨ nI n ≤ x) : f_X1_hasPlace t σ x = some (nI 0) := by
  unfold f_X1_hasPlace
  rw [h0]
  rcases h with h | h
  · rw [if_pos h]; rfl
  · by_cases h1 : x < 0
    · rw [if_pos h1]; rfl
    · rw [if_neg h1, if_pos h]; rfl
theorem hp_t {t : jx_T} {σ : jx_M} {j n : Nat} (h0 : σ 0 0 = nI n) (h : j < n) (hn : n < 2 ^ 31) : f_X1_hasPlace t σ (nI j) = some (nI 1) := by
  unfold f_X1_hasPlace
  rw [h0, if_neg (nI_pos (by omega)), if_neg (nI_ge h hn)]
  rfl
theorem hv_f {t : jx_T} {σ : jx_M} {x : Int32} {n : Nat} (h0 : σ 0 2 = nI n) (h : x < 0 ∨ nI n ≤ x) : f_X1_hasVoter t σ x = some (nI 0) := by
  unfold f_X1_hasVoter
  rw [h0]
  rcases h with h | h
  · rw [if_pos h]; rfl
  · by_cases h1 : x < 0
    · rw [if_pos h1]; rfl
    · rw [if_neg h1, if_pos h]; rfl
theorem hv_t {t : jx_T} {σ : jx_M} {j n : Nat} (h0 : σ 0 2 = nI n) (h : j < n) (hn : n < 2 ^ 31) : f_X1_hasVoter t σ (nI j) = some (nI 1) := by
  unfold f_X1_hasVoter
  rw [h0, if_neg (nI_pos (by omega)), if_neg (nI_ge h hn)]
  rfl
theorem in_f0 {x : Int32} (h : x < 0 ∨ nI 0 ≤ x) : f_X6_in x (nI 0) (nI 0 - nI 1) = some (nI 0) := by
  unfold f_X6_in
  by_cases h0 : x < nI 0
  · rw [if_pos h0]; rfl
  · rw [if_neg h0, if_pos]
    · rfl
    · obtain ⟨j, hj, rfl⟩ := nI_of (show ¬ x < 0 from h0)
      exact Int32.lt_of_lt_of_le (show (nI 0 - nI 1 : Int32) < nI 0 by decide) (nI_pos' hj)
theorem ip_f {σ : jx_M} {x : Int32} {n : Nat} (h0 : σ 1 6 = nI n) (hn : n < 2 ^ 31) (h : x < 0 ∨ nI n ≤ x) : f_X6_isPlace σ x = some (nI 0) := by
  unfold f_X6_isPlace
  rw [h0]
  by_cases hz : n = 0
  · subst hz
    rw [show f_X6_in x 0 (nI 0 - 1) = _ from in_f0 h]; rfl
  · rw [show (nI n - (1 : Int32)) = nI (n - 1) from pk_sub (b := 1) (by omega), show f_X6_in x 0 (nI (n - 1)) = _ from in_f h (by omega) hn]; rfl
theorem ip_t {σ : jx_M} {j n : Nat} (h0 : σ 1 6 = nI n) (h : j < n) (hn : n < 2 ^ 31) : f_X6_isPlace σ (nI j) = some (nI 1) := by
  unfold f_X6_isPlace
  rw [h0, show (nI n - (1 : Int32)) = nI (n - 1) from pk_sub (b := 1) (by omega), show f_X6_in (nI j) 0 (nI (n - 1)) = _ from in_t h hn]; rfl
theorem iv_f {σ : jx_M} {x : Int32} {n : Nat} (h0 : σ 1 0 = nI n) (hn : n < 2 ^ 31) (h : x < 0 ∨ nI n ≤ x) : f_X6_isVoter σ x = some (nI 0) := by
  unfold f_X6_isVoter
  rw [h0]
  by_cases hz : n = 0
  · subst hz
    rw [show f_X6_in x 0 (nI 0 - 1) = _ from in_f0 h]; rfl
  · rw [show (nI n - (1 : Int32)) = nI (n - 1) from pk_sub (b := 1) (by omega), show f_X6_in x 0 (nI (n - 1)) = _ from in_f h (by omega) hn]; rfl
theorem iv_t {σ : jx_M} {j n : Nat} (h0 : σ 1 0 = nI n) (h : j < n) (hn : n < 2 ^ 31) : f_X6_isVoter σ (nI j) = some (nI 1) := by
  unfold f_X6_isVoter
  rw [h0, show (nI n - (1 : Int32)) = nI (n - 1) from pk_sub (b := 1) (by omega), show f_X6_in (nI j) 0 (nI (n - 1)) = _ from in_t h hn]; rfl
/-! the relation. S: the reference's row as natural numbers (holding and sides: one more) -/
def rn_c (n : Nat → Int32) (a : Nat → Nat → Int32) (S : Nat → Nat) : Prop :=
  (n 0 = nI (S 6) ∧ n 1 = nI (S 7) ∧ n 2 = nI (S 0) ∧ n 3 = nI (S 4) ∧ n 4 = nI (S 1) ∧ n 5 = nI (S 2) ∧ n 6 = nI (S 3)) ∧
  (∀ p, p < 7 → a (1 + p) 0 = nI (S (10 + p)) ∧ a (1 + p) 1 = nI (S (17 + p)) - 1 ∧ a (1 + p) 2 = nI (S (24 + p))) ∧
  (∀ v, v < 6 → (a (8 + v) 0 = nI (S (31 + v)) ∧ a (8 + v) 1 = nI (S (37 + v)) ∧ a (8 + v) 2 = nI (S (43 + v)) ∧ a (8 + v) 3 = nI (S (49 + v)) ∧ a (8 + v) 4 = nI (S (55 + v))) ∧ ∀ j, j < 3 → a (8 + v) (5 + j) = nI (S (61 + 3 * v + j))) ∧
  (∀ i, i < 100 → a 14 i = nI (S (115 + i))) ∧ (∀ i, i < 6 → a 15 i = nI (S (79 + i)) ∧ a 16 i = nI (S (85 + i))) ∧
  ∀ i, i < 8 → a 17 i = nI (S (91 + i)) ∧ a 18 i = nI (S (99 + i)) ∧ a 19 i = nI (S (107 + i))
def rn_m (s : Nat → Int32) (S : Nat → Nat) : Prop :=
  (∀ k, k < 215 → k ≠ 5 → ¬ (17 ≤ k ∧ k < 24) → s k = nI (S k)) ∧ s 5 = nI (S 5) - 1 ∧ ∀ p, p < 7 → s (17 + p) = nI (S (17 + p)) - 1
def rn_w (S : Nat → Nat) : Prop :=
  (∀ k, S k ≤ 9999) ∧ (S 0 ≤ 6 ∧ S 1 ≤ 5 ∧ S 2 ≤ 6 ∧ S 3 ≤ 8 ∧ S 4 ≤ 100 ∧ S 5 ≤ S 1 ∧ 2 ≤ S 6 ∧ S 6 ≤ 7) ∧
  (∀ p, p < 7 → S (10 + p) < 7 ∧ (p < S 6 → S (10 + p) < S 6) ∧ (p < S 6 → S (17 + p) ≤ S 6) ∧ S (24 + p) ≤ 2) ∧
  (∀ v, v < S 0 → S (31 + v) ≤ 6 ∧ S (37 + v) ≤ 9 ∧ S (43 + v) < S 6 ∧ S (49 + v) ≤ 1 ∧ S (55 + v) ≤ 12 ∧ ∀ j, j < 3 → S (61 + 3 * v + j) < S 6) ∧
  (∀ i, i < S 4 → S (115 + i) ≤ 127) ∧ (∀ i, i < S 2 → S (79 + i) < 7 ∧ S (85 + i) ≤ 6) ∧ ∀ i, i < S 3 → S (91 + i) < S 0 ∧ S (99 + i) ≤ 12 ∧ S (107 + i) < 7
/-- what a tide comes to: word 0 side, 1 hold, 2 oil, 3 weigh; where p, q, m and w are so -/
abbrev rt_F : Type := Nat → Nat → Nat → Nat → Nat → Nat
def rt_b (F : rt_F) : Prop := ∀ p q m w, F 0 p q m w ≤ 1 ∧ F 1 p q m w ≤ 1 ∧ F 2 p q m w ≤ 990 ∧ F 3 p q m w ≤ 990
def rt_c (ln : Nat → Nat) (ct : Nat → Nat → Int32) (F : rt_F) : Prop := ∀ (t : jx_T) (σ : jx_M) (p q m w : Nat), (∀ k, 1 ≤ k → k ≤ 4 → t.2.1 k = ln k ∧ t.2.2 k = ct k) → σ 20 0 = nI p → σ 20 1 = nI q → σ 20 2 = nI m → σ 20 3 = nI w → p < 12 → q < 12 → m < 12 → w < 12 →
  f_X4_any t σ 0 20 = some (nI (F 0 p q m w)) ∧ f_X4_any t σ 1 20 = some (nI (F 1 p q m w)) ∧ f_X4_sum t σ 2 20 = some (nI (F 2 p q m w)) ∧ f_X4_sum t σ 3 20 = some (nI (F 3 p q m w))
def rt_k (σ σ' : jx_M) : Prop := (∀ a, a ≠ 0 → a ≠ 4 → σ' a = σ a) ∧ ∀ i, ¬ (11 ≤ i ∧ i ≤ 14) → σ' 0 i = σ 0 i
def rt_l (σ : jx_M) : Option jx_M := if (σ 1 5) = (-1 : Int32) then (b_X6_looks_96 σ (0 : Int32)) else jx_gd (jx_in ((215 : Int32) + (σ 1 5)) 920) ((b_X6_looks_96 σ (σ 1 ((215 : Int32) + (σ 1 5)).toNatClampNeg)))
/-- hd: which tide holds, and one more -/
def rt_m (s : Nat → Int32) (hd : Nat) (F : rt_F) : Prop := ∀ (σ : jx_M) (p q m w : Nat), σ 1 5 = nI hd - 1 → (∀ h, hd = h + 1 → σ 1 (215 + h) = s (215 + h) ∧ ∀ i, i < 140 → σ 1 (220 + 140 * h + i) = s (220 + 140 * h + i)) → σ 3 0 = nI p → σ 3 1 = nI q → σ 3 2 = nI m → σ 3 3 = nI w → p < 12 → q < 12 → m < 12 → w < 12 → σ 0 11 = 0 → σ 0 12 = 0 → σ 0 13 = 0 → σ 0 14 = 1 →
  ∃ σ', rt_l σ = some σ' ∧ σ' 0 11 = nI (F 0 p q m w) ∧ σ' 0 12 = nI (F 1 p q m w) ∧ σ' 0 13 = nI (F 2 p q m w) ∧ σ' 0 14 = nI (1 + F 3 p q m w) ∧ rt_k σ σ'
/-- a canal, told twice -/
def rr_c (n : Nat → Int32) (a : Nat → Nat → Int32) (ln : Nat → Nat) (ct : Nat → Nat → Int32) (s : Nat → Int32) (S : Nat → Nat) (F : rt_F) : Prop := rn_c n a S ∧ rn_m s S ∧ rn_w S ∧ rt_b F ∧ rt_c ln ct F ∧ rt_m s (S 5) F
def rr_t (σl σm : jx_M) : Prop := ∃ r : Nat, r ≤ 1000 ∧ σl 0 21 = nI r ∧ σm 0 22 = nI r ∧ ∀ i, i < 20 → i < r → σl 60 i = σm 9 i
def rr_i (t : jx_T) (σl σm : jx_M) : Prop := (σl 0 40 = 0 ∧ σm 0 3 = 0) ∨ (σl 0 40 = 1 ∧ σm 0 3 = 1 ∧ ∃ S F, rr_c (fun k => σl 0 (10 + k)) (fun j => σl (20 + j)) (fun k => t.2.1 (10 + k)) (fun k => t.2.2 (10 + k)) (σm 2) S F)
def RR (t : jx_T) (σl σm : jx_M) : Prop := (∃ S F, rr_c (σl 0) σl t.2.1 t.2.2 (σm 1) S F) ∧ rr_i t σl σm ∧ rr_t σl σm ∧ σl 0 20 = -1
