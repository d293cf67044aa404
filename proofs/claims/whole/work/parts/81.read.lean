/-! reading: the class's reader, sign by sign -/
def pk_l (s : Nat → Int32) : List Nat → Prop
  | [] => True
  | x :: P => s P.length = -nI x ∧ pk_l s P
theorem pk_l_c {s s' : Nat → Int32} : ∀ (P : List Nat), (∀ k, k < P.length → s' k = s k) → pk_l s P → pk_l s' P
  | [], _, _ => trivial
  | x :: P, h, g => ⟨(h P.length (Nat.lt_succ_self _)).trans g.1, pk_l_c P (fun k hk => h k (Nat.lt_succ_of_lt hk)) g.2⟩
def RD (σ : jx_M) (du c : Nat) (P : List Nat) (o : Nat) : Prop := σ 0 34 = nI du ∧ σ 0 31 = nI c ∧ σ 0 32 = nI P.length ∧ pk_l (σ 65) P ∧ σ 0 33 = nI o
/-- kept while an E is read -/
def KE (c : Nat) (σ σ' : jx_M) : Prop := (∀ b, ¬ b = 0 → ¬ b = 64 → ¬ b = 65 → σ' b = σ b) ∧ (∀ i, ¬ (31 ≤ i ∧ i ≤ 34) → ¬ (37 ≤ i ∧ i ≤ 39) → σ' 0 i = σ 0 i) ∧ ∀ k, k < c → σ' 64 k = σ 64 k
theorem KE_t {c c' : Nat} {a b d : jx_M} (h : KE c a b) (g : KE c' b d) (hc : c ≤ c') : KE c a d :=
  ⟨fun x h0 h1 h2 => (g.1 x h0 h1 h2).trans (h.1 x h0 h1 h2), fun i h1 h2 => (g.2.1 i h1 h2).trans (h.2.1 i h1 h2), fun k hk => (g.2.2 k (by omega)).trans (h.2.2 k hk)⟩
theorem KE_r (c : Nat) (a : jx_M) : KE c a a := ⟨fun _ _ _ _ => rfl, fun _ _ _ => rfl, fun _ _ => rfl⟩
theorem KE_0 {c i : Nat} {σ : jx_M} {x : Int32} (hi : (31 ≤ i ∧ i ≤ 34) ∨ (37 ≤ i ∧ i ≤ 39)) : KE c σ (jx_mu σ 0 i x) :=
  ⟨fun b h0 _ _ => mu_a h0, fun j h1 h2 => mu_n (by omega), fun k hk => by rw [mu_a (by omega)]⟩
/-- kept while the tape is read -/
def KR (σ σ' : jx_M) : Prop := (∀ b, ¬ b = 0 → ¬ (61 ≤ b ∧ b ≤ 65) → σ' b = σ b) ∧ ∀ i, ¬ (30 ≤ i ∧ i ≤ 39) → σ' 0 i = σ 0 i
theorem KR_t {a b d : jx_M} (h : KR a b) (g : KR b d) : KR a d := ⟨fun x h0 h1 => (g.1 x h0 h1).trans (h.1 x h0 h1), fun i h1 => (g.2 i h1).trans (h.2 i h1)⟩
theorem KR_r (a : jx_M) : KR a a := ⟨fun _ _ _ => rfl, fun _ _ => rfl⟩
theorem KE_R {c : Nat} {a b : jx_M} (h : KE c a b) : KR a b := ⟨fun x h0 h1 => h.1 x h0 (by omega) (by omega), fun i h1 => h.2.1 i (by omega) (by omega)⟩
theorem KR_mu {σ : jx_M} {a i : Nat} {x : Int32} (h : (61 ≤ a ∧ a ≤ 65) ∨ (a = 0 ∧ 30 ≤ i ∧ i ≤ 39)) : KR σ (jx_mu σ a i x) := by
  refine ⟨fun b h0 h1 => mu_a (by omega), fun j hj => ?_⟩
  by_cases e : a = 0
  · subst e; exact mu_n (by omega)
  · rw [mu_a (fun z => e z.symm)]
theorem mu_w {σ : jx_M} {a b i j : Nat} {x y : Int32} (h : ¬ (a = b ∧ i = j)) : jx_mu (jx_mu σ a i x) b j y = jx_mu (jx_mu σ b j y) a i x := by
  funext c k
  rw [mu_v, mu_v, mu_v, mu_v]
  by_cases h1 : c = b ∧ k = j
  · rw [if_pos h1]
    by_cases h2 : c = a ∧ k = i
    · exact absurd ⟨h2.1.symm.trans h1.1, h2.2.symm.trans h1.2⟩ h
    · rw [if_neg h2, if_pos h1]
  · rw [if_neg h1]
    by_cases h2 : c = a ∧ k = i
    · rw [if_pos h2, if_pos h2]
    · rw [if_neg h2, if_neg h2, if_neg h1]
theorem wr_e {t : jx_T} {σ : jx_M} {c : Nat} (h : σ 0 31 = nI c) (hc : c < 100) (x : Int32) : f_X3_write t σ x = some (jx_mu (jx_mu σ 64 c x) 0 31 (nI (c + 1))) := by
  unfold f_X3_write
  simp (disch := first | omega | assumption) only [ev_add, ev_mul, ev_rem, ev_sub, ev_ltT, ev_ltF, ev_leT, ev_leF, ev_eqT, ev_eqF, ev_cl, ev_in, gd_t, bd_s, lt_e, ev_of, ↓reduceIte, decide_true, true_or, or_true, ev_l0, ev_l1, ev_l2, ev_l3, ev_l4, ev_l5, ev_l6, ev_l7, ev_l8, ev_l9, ev_l10, ev_l11, ev_l12, ev_l13, ev_l14, ev_l15, ev_l16, ev_l17, ev_l18, ev_l19, ev_l20, ev_l21, ev_l22, ev_l23, ev_l24, ev_l25, ev_l26, ev_l30, ev_l31, ev_l32, ev_l37, ev_l40, ev_l41, ev_l43, ev_l48, ev_l49, ev_l51, ev_l55, ev_l57, ev_l58, ev_l60, ev_l61, ev_l79, ev_l85, ev_l91, ev_l99, ev_l100, ev_l107, ev_l115, ev_l127, ev_l140, ev_l215, ev_l220, ev_l920, ev_l9999, ev_nT, ev_nF, ev_nlT, ev_nlF, h, mu_a]
theorem pe_e {t : jx_T} {σ : jx_M} {p : Nat} (h : σ 0 32 = nI p) (hp : p < 17) (x : Int32) : f_X3_pend t σ x = some (jx_mu (jx_mu σ 65 p x) 0 32 (nI (p + 1))) := by
  unfold f_X3_pend
  simp (disch := first | omega | assumption) only [ev_add, ev_mul, ev_rem, ev_sub, ev_ltT, ev_ltF, ev_leT, ev_leF, ev_eqT, ev_eqF, ev_cl, ev_in, gd_t, bd_s, lt_e, ev_of, ↓reduceIte, decide_true, true_or, or_true, ev_l0, ev_l1, ev_l2, ev_l3, ev_l4, ev_l5, ev_l6, ev_l7, ev_l8, ev_l9, ev_l10, ev_l11, ev_l12, ev_l13, ev_l14, ev_l15, ev_l16, ev_l17, ev_l18, ev_l19, ev_l20, ev_l21, ev_l22, ev_l23, ev_l24, ev_l25, ev_l26, ev_l30, ev_l31, ev_l32, ev_l37, ev_l40, ev_l41, ev_l43, ev_l48, ev_l49, ev_l51, ev_l55, ev_l57, ev_l58, ev_l60, ev_l61, ev_l79, ev_l85, ev_l91, ev_l99, ev_l100, ev_l107, ev_l115, ev_l127, ev_l140, ev_l215, ev_l220, ev_l920, ev_l9999, ev_nT, ev_nF, ev_nlT, ev_nlF, h, mu_a]
/-- the latest pending one goes into the code -/
def pp_ (σ : jx_M) (x c p o : Nat) : jx_M := jx_mu (jx_mu (jx_mu (if x = 1 then jx_mu σ 0 33 (nI (o - 1)) else σ) 64 c (-nI x)) 0 31 (nI (c + 1))) 0 32 (nI p)
theorem pp_k {σ : jx_M} {x c p o : Nat} : KE c σ (pp_ σ x c p o) := by
  unfold pp_
  refine ⟨fun b h0 h1 h2 => ?_, fun i h1 h2 => ?_, fun k hk => ?_⟩
  · split
    · simp (disch := omega) only [mu_a]
    · simp (disch := omega) only [mu_a]
  · split
    · simp (disch := omega) only [mu_n, mu_a]
    · simp (disch := omega) only [mu_n, mu_a]
  · split
    · simp (disch := omega) only [mu_n, mu_a]
    · simp (disch := omega) only [mu_n, mu_a]
theorem pp_d {σ : jx_M} {x c p o : Nat} {z : Int32} : pp_ (jx_mu σ 0 34 z) x c p o = jx_mu (pp_ σ x c p o) 0 34 z := by
  unfold pp_
  by_cases e : x = 1
  · rw [if_pos e, if_pos e, mu_w (σ := σ) (a := 0) (i := 34) (b := 0) (j := 33) (by omega), mu_w (a := 0) (i := 34) (b := 64) (j := c) (by omega), mu_w (a := 0) (i := 34) (b := 0) (j := 31) (by omega), mu_w (a := 0) (i := 34) (b := 0) (j := 32) (by omega)]
  · rw [if_neg e, if_neg e, mu_w (σ := σ) (a := 0) (i := 34) (b := 64) (j := c) (by omega), mu_w (a := 0) (i := 34) (b := 0) (j := 31) (by omega), mu_w (a := 0) (i := 34) (b := 0) (j := 32) (by omega)]
theorem pp_r {σ : jx_M} {du x c o : Nat} {P : List Nat} (h : RD σ du c (x :: P) o) : RD (pp_ σ x c P.length o) du (c + 1) P (if x = 1 then o - 1 else o) ∧ pp_ σ x c P.length o 64 c = -nI x := by
  obtain ⟨h1, h2, h3, h4, h5⟩ := h
  unfold pp_
  refine ⟨⟨?_, ?_, mu_s, ?_, ?_⟩, ?_⟩
  · split
    · simp (disch := omega) only [mu_n, mu_a]; exact h1
    · simp (disch := omega) only [mu_n, mu_a]; exact h1
  · simp (disch := omega) only [mu_n, mu_s]
  · refine pk_l_c P (fun k hk => ?_) h4.2
    split
    · simp (disch := omega) only [mu_a]
    · simp (disch := omega) only [mu_a]
  · split
    · simp (disch := omega) only [mu_n, mu_a, mu_s]
    · simp (disch := omega) only [mu_n, mu_a]; exact h5
  · simp (disch := omega) only [mu_a, mu_s]
theorem ni_m : ∀ x, 1 ≤ x → x ≤ 4 → ((-nI x : Int32) = -1 ↔ x = 1) := by
  intro x h1 h2
  have h : x = 1 ∨ x = 2 ∨ x = 3 ∨ x = 4 := by omega
  rcases h with rfl | rfl | rfl | rfl <;> decide
theorem wp_pop {t : jx_T} {σ : jx_M} {du c x o : Nat} {P : List Nat} (h : RD σ du c (x :: P) o) (hx : 1 ≤ x ∧ x ≤ 4) (hP : P.length < 17) (hc : c < 100) (ho : x = 1 → 1 ≤ o) {y : Int32} (hy : ¬ (-nI x : Int32) < y) (n : Nat) : b_X3_writePending_0 t (n + 1) σ y = b_X3_writePending_0 t n (pp_ σ x c P.length o) y := by
  obtain ⟨h1, h2, h3, h4, h5⟩ := h
  have e1 : nI (P.length + 1) - (1 : Int32) = nI P.length := nI_pred _
  have h3' : σ 0 32 = nI (P.length + 1) := h3
  show g_X3_writePending_0 t (b_X3_writePending_0 t n) σ y = _
  unfold g_X3_writePending_0 b_X3_writePending_47 pp_
  rw [h3', if_neg (nI_nle (by omega) (by omega)), e1, ev_in hP (by omega), gd_t, nI_clamp (show P.length < 2 ^ 31 by omega), h4.1, if_neg hy, gd_t]
  by_cases g : x = 1
  · rw [if_pos ((ni_m x hx.1 hx.2).mpr g), if_pos g, lt_e, h5, show nI o - (1 : Int32) = nI (o - 1) from pk_sub (b := 1) (ho g), mu_n (show ¬ 32 = 33 by omega), h3', e1, nI_clamp (show P.length < 2 ^ 31 by omega), ev_in hP (by omega), gd_t, mu_a (show ¬ 65 = 0 by omega), h4.1, wr_e (c := c) (by rw [mu_n (by omega)]; exact h2) hc, bd_s, lt_e]
    simp (disch := omega) only [mu_n, mu_a, h3', e1]
  · rw [if_neg (fun z => g ((ni_m x hx.1 hx.2).mp z)), if_neg g, gd_t, wr_e (c := c) h2 hc, bd_s, lt_e]
    simp (disch := omega) only [mu_n, mu_a, h3', e1]
theorem wp_nil {t : jx_T} {σ : jx_M} {du c o : Nat} (h : RD σ du c [] o) (y : Int32) (n : Nat) : b_X3_writePending_0 t (n + 1) σ y = some σ := by
  show g_X3_writePending_0 t (b_X3_writePending_0 t n) σ y = _
  unfold g_X3_writePending_0
  rw [h.2.2.1, if_pos (show nI ([] : List Nat).length ≤ (0 : Int32) from Int32.le_refl _)]
theorem wp_stop {t : jx_T} {σ : jx_M} {du c x o : Nat} {P : List Nat} (h : RD σ du c (x :: P) o) (hP : P.length < 17) {y : Int32} (hy : (-nI x : Int32) < y) (n : Nat) : b_X3_writePending_0 t (n + 1) σ y = some σ := by
  have e1 : nI (P.length + 1) - (1 : Int32) = nI P.length := nI_pred _
  have h3' : σ 0 32 = nI (P.length + 1) := h.2.2.1
  show g_X3_writePending_0 t (b_X3_writePending_0 t n) σ y = _
  unfold g_X3_writePending_0
  rw [h3', if_neg (nI_nle (by omega) (by omega)), e1, ev_in hP (by omega), gd_t, nI_clamp (show P.length < 2 ^ 31 by omega), h.2.2.2.1.1, if_pos hy]
/-- well-made stacks: NOTs among the open ones -/
def ps_ : List Nat → Nat → Prop
  | [], _ => True
  | x :: P, o => (1 ≤ x ∧ x ≤ 4) ∧ (x = 1 → 1 ≤ o) ∧ ps_ P (if x = 1 then o - 1 else o)
theorem wp_f {t : jx_T} (y : Int32) : ∀ (P : List Nat) (σ : jx_M) (du c o : Nat), RD σ du c P o → ps_ P o → P.length ≤ 17 → c + P.length ≤ 100 → ∀ n, P.length < n → b_X3_writePending_0 t n σ y = b_X3_writePending_0 t (n + 1) σ y
  | [], σ, du, c, o, h, _, _, _, n, hn => by
    obtain ⟨n', rfl⟩ : ∃ n', n = n' + 1 := ⟨n - 1, by have : 0 < n := hn; omega⟩
    rw [wp_nil h, wp_nil h]
  | x :: P, σ, du, c, o, h, hp, hl, hc, n, hn => by
    have hl' : P.length + 1 ≤ 17 := hl
    have hc' : c + (P.length + 1) ≤ 100 := hc
    have hn' : P.length + 1 < n := hn
    obtain ⟨n', rfl⟩ : ∃ n', n = n' + 1 := ⟨n - 1, by omega⟩
    by_cases hy : (-nI x : Int32) < y
    · rw [wp_stop h (by omega) hy, wp_stop h (by omega) hy]
    · rw [wp_pop h hp.1 (by omega) (by omega) hp.2.1 hy, wp_pop h hp.1 (by omega) (by omega) hp.2.1 hy]
      exact wp_f y P _ du (c + 1) _ (pp_r h).1 hp.2.2 (by omega) (by omega) n' (by omega)
theorem wp_e {t : jx_T} {σ : jx_M} {du c x o : Nat} {P : List Nat} (h : RD σ du c (x :: P) o) (hp : ps_ (x :: P) o) (hl : P.length < 17) (hc : c + P.length < 100) {y : Int32} (hy : ¬ (-nI x : Int32) < y) : f_X3_writePending t σ y = f_X3_writePending t (pp_ σ x c P.length o) y := by
  unfold f_X3_writePending
  rw [show b_X3_writePending_0 t jx_fuel σ y = _ from wp_pop h hp.1 hl (by omega) hp.2.1 hy 999]
  exact wp_f y P _ du (c + 1) _ (pp_r h).1 hp.2.2 (by omega) (by omega) 999 (by omega)
theorem wp_0 {t : jx_T} {σ : jx_M} {du c o : Nat} {P : List Nat} (h : RD σ du c P o) (hl : P.length ≤ 17) {y : Int32} (hy : P = [] ∨ ∃ x Q, P = x :: Q ∧ (-nI x : Int32) < y) : f_X3_writePending t σ y = some σ := by
  unfold f_X3_writePending
  rcases hy with rfl | ⟨x, Q, rfl, hy⟩
  · exact wp_nil h y 999
  · have hl' : Q.length + 1 ≤ 17 := hl
    exact wp_stop h (by omega) hy 999
/-! the loop over the tape -/
def bl_ (t : jx_T) (n : Nat) (σ : jx_M) (N i : Nat) : Option (Int32 × jx_M) := b_X3_faultOf_27 t n σ 14 (nI N) (nI i)
def RN (t : jx_T) (N : Nat) (σ : jx_M) (i : Nat) (σ' : jx_M) (j : Nat) : Prop := i ≤ j ∧ ∀ n, bl_ t (n + (j - i)) σ N i = bl_ t n σ' N j
theorem RN_r (t : jx_T) (N : Nat) (σ : jx_M) (i : Nat) : RN t N σ i σ i := ⟨Nat.le_refl _, fun n => by rw [Nat.sub_self]; rfl⟩
theorem RN_t {t : jx_T} {N i j k : Nat} {a b c : jx_M} (h : RN t N a i b j) (g : RN t N b j c k) : RN t N a i c k := by
  refine ⟨Nat.le_trans h.1 g.1, fun n => ?_⟩
  have h1 := h.1
  have g1 := g.1
  rw [show n + (k - i) = n + (k - j) + (j - i) by omega, h.2, g.2]
def CF (t : jx_T) (N : Nat) (σ : jx_M) (i j : Nat) : Prop := ∃ σ', (∀ n, N < i + n → bl_ t n σ N i = some (nI j, σ')) ∧ KR σ σ'
theorem CF_t {t : jx_T} {N i j k : Nat} {a b : jx_M} (h : RN t N a i b j) (hk : KR a b) (hj : j ≤ N) (g : CF t N b j k) : CF t N a i k := by
  obtain ⟨σ', g1, g2⟩ := g
  refine ⟨σ', fun n hn => ?_, KR_t hk g2⟩
  have h1 := h.1
  rw [show n = n - (j - i) + (j - i) by omega, h.2]
  exact g1 _ (by omega)
def tp_ (N : Nat) (tp : Nat → Nat) (σ : jx_M) : Prop := N ≤ 100 ∧ ∀ k, k < N → σ 14 k = nI (tp k) ∧ tp k ≤ 127
theorem tp_k {N : Nat} {tp : Nat → Nat} {σ σ' : jx_M} (h : tp_ N tp σ) (k : KR σ σ') : tp_ N tp σ' := by
  unfold tp_
  rw [k.1 14 (by omega) (by omega)]
  exact h
theorem bl_s {t : jx_T} {N i : Nat} {tp : Nat → Nat} {σ : jx_M} (h : tp_ N tp σ) (hi : i < N) (n : Nat) : bl_ t (n + 1) σ N i = jx_bd (f_X3_takes t σ (nI (tp i))) (fun q5 => if q5.1 = 0 then some (nI i, q5.2) else bl_ t n q5.2 N (i + 1)) := by
  have hN := h.1
  show g_X3_faultOf_27 t (b_X3_faultOf_27 t n) σ 14 (nI N) (nI i) = _
  unfold g_X3_faultOf_27
  rw [if_neg (nI_ge hi (by omega)), show (decide (1 ≤ 14 ∧ 14 ≤ 65)) = true from rfl, gd_t, show ll_len 14 = 100 from rfl, if_neg (show ¬ Int32.ofNat 100 ≤ nI i from nI_ge (by omega) (by omega)), ev_in (show i < 100 by omega) (by omega), gd_t, nI_clamp (show i < 2 ^ 31 by omega), (h.2 i hi).1]
  simp only [lt_e, show nI i + (1 : Int32) = nI (i + 1) from nI_1 i]
  rfl
theorem st_y {t : jx_T} {N i : Nat} {tp : Nat → Nat} {σ σ' : jx_M} (h : tp_ N tp σ) (hi : i < N) (g : f_X3_takes t σ (nI (tp i)) = some (nI 1, σ')) : RN t N σ i σ' (i + 1) := by
  refine ⟨by omega, fun n => ?_⟩
  rw [show i + 1 - i = 1 by omega, bl_s h hi, g, bd_s, if_neg (show ¬ (nI 1, σ').1 = 0 from (by decide : ¬ nI 1 = (0 : Int32)))]
theorem st_n {t : jx_T} {N i : Nat} {tp : Nat → Nat} {σ σ' : jx_M} (h : tp_ N tp σ) (hi : i < N) (g : f_X3_takes t σ (nI (tp i)) = some (nI 0, σ')) (k : KR σ σ') : CF t N σ i i := by
  refine ⟨σ', fun n hn => ?_, k⟩
  obtain ⟨n', rfl⟩ : ∃ n', n = n' + 1 := ⟨n - 1, by omega⟩
  rw [bl_s h hi, g, bd_s, if_pos (show (nI 0, σ').1 = 0 from rfl)]
theorem st_e {t : jx_T} {N : Nat} {σ σ' : jx_M} (hN : N ≤ 100) (g : f_X3_isWhole t σ = some (nI 0, σ')) (k : KR σ σ') : CF t N σ N N := by
  refine ⟨σ', fun n hn => ?_, k⟩
  obtain ⟨n', rfl⟩ : ∃ n', n = n' + 1 := ⟨n - 1, by omega⟩
  show g_X3_faultOf_27 t (b_X3_faultOf_27 t n') σ 14 (nI N) (nI N) = _
  unfold g_X3_faultOf_27 b_X3_faultOf_56
  rw [if_pos (Int32.le_refl _), g, bd_s, if_pos (show (nI 0, σ').1 = 0 from rfl)]
theorem st_w {t : jx_T} {N : Nat} {σ σ' : jx_M} (g : f_X3_isWhole t σ = some (nI 1, σ')) (n : Nat) : bl_ t (n + 1) σ N N = some (-1, σ') := by
  show g_X3_faultOf_27 t (b_X3_faultOf_27 t n) σ 14 (nI N) (nI N) = _
  unfold g_X3_faultOf_27 b_X3_faultOf_56
  rw [if_pos (Int32.le_refl _), g, bd_s, if_neg (show ¬ (nI 1, σ').1 = 0 from (by decide : ¬ nI 1 = (0 : Int32)))]
