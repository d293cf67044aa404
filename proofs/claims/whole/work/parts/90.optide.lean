/-! tide -/
theorem zc_k {m n : Nat} {f : Nat → Int32} (hn : n ≤ m) (hm : m ≤ 100) {k : Nat} (hk : k < n) : zc_cut m f (nI n) k = f k := by
  unfold zc_cut
  by_cases e : nI n = Int32.ofNat m
  · rw [if_pos e]
  · rw [if_neg e]
    have ne : ¬ n = m := fun z => e (by rw [z]; rfl)
    rw [if_pos (show nI n < Int32.ofNat m from nI_lt (by omega) (by omega)), nI_clamp (show n < 2 ^ 31 by omega), pk_cpy_in (Nat.zero_le _) (by omega)]
    rw [Nat.zero_add, Nat.sub_zero]
/-- the new tide, told twice -/
theorem mn_c {W A E CD sd : Nat → Int32} {n c : Nat} {F : rt_F} (hn : n ≤ 10) (hc : c ≤ 100) (hF : ∀ p q m w, F 0 p q m w ≤ 1 ∧ F 1 p q m w ≤ 1 ∧ F 2 p q m w ≤ 99 * n ∧ F 3 p q m w ≤ 99 * n) (h : ∀ p q m w, p < 12 → q < 12 → m < 12 → w < 12 → SM_ sd F n c p q m w ∧ SL_ W A E CD F n c p q m w) {ln : Nat → Nat} {ct : Nat → Nat → Int32} (l1 : ln 1 = n ∧ ln 2 = n ∧ ln 3 = n) (l4 : ln 4 = c) (r : ∀ k, k < n → ct 1 k = W k ∧ ct 2 k = A k ∧ ct 3 k = E k) (r4 : ∀ k, k < c → ct 4 k = CD k) : rt_c ln ct F := by
  intro t σ p q m w hk h1 h2 h3 h4 hp hq hm hw
  obtain ⟨e1, x1⟩ := hk 1 (by omega) (by omega)
  obtain ⟨e2, x2⟩ := hk 2 (by omega) (by omega)
  obtain ⟨e3, x3⟩ := hk 3 (by omega) (by omega)
  obtain ⟨e4, x4⟩ := hk 4 (by omega) (by omega)
  have c1 : ct_ t W A E CD n n c := ⟨Nat.le_refl n, hn, ⟨e1.trans l1.1, e2.trans l1.2.1, e3.trans l1.2.2⟩, ⟨by rw [e4, l4]; exact Nat.le_refl c, by rw [e4, l4]; exact hc⟩, fun k hk => by rw [x1, x2, x3]; exact r k hk, fun k hk => by rw [x4]; exact r4 k hk⟩
  have c2 : he_ σ p q m w := ⟨⟨h1, h2, h3, h4⟩, hp, hq, hm, hw⟩
  obtain ⟨b0, b1, -, -⟩ := hF p q m w
  have sl := (h p q m w hp hq hm hw).2 t σ n c1 c2
  have an : ∀ x, x < 2 → F x p q m w ≤ 1 → f_X4_any t σ (nI x) 20 = some (nI (F x p q m w)) := by
    intro x hx hb
    have s := (sl x (by omega) (999 - n + 1)).1 hx
    rw [show 999 - n + 1 + n = 1000 by omega] at s
    unfold f_X4_any
    rw [show b_X4_any_2 t jx_fuel σ (nI x) 20 (0 : Int32) = _ from s]
    by_cases e : F x p q m w = 1
    · rw [if_pos e, e]
    · rw [if_neg e, show F x p q m w = 0 by omega]
      show g_X4_any_2 t (b_X4_any_2 t (999 - n)) σ (nI x) 20 (nI n) = _
      unfold g_X4_any_2
      rw [e1, l1.1, if_pos (show Int32.ofNat n ≤ nI n from Int32.le_refl _)]
      rfl
  have su : ∀ x, 2 ≤ x → x < 4 → f_X4_sum t σ (nI x) 20 = some (nI (F x p q m w)) := by
    intro x hx hx4
    have s := (sl x hx4 (999 - n + 1)).2 hx
    rw [show 999 - n + 1 + n = 1000 by omega] at s
    unfold f_X4_sum
    rw [show b_X4_sum_5 t jx_fuel σ (nI x) 20 (0 : Int32) (0 : Int32) = _ from s]
    show g_X4_sum_5 t (b_X4_sum_5 t (999 - n)) σ (nI x) 20 (nI (F x p q m w)) (nI n) = _
    unfold g_X4_sum_5
    rw [e1, l1.1, if_pos (show Int32.ofNat n ≤ nI n from Int32.le_refl _)]
  exact ⟨an 0 (by omega) b0, an 1 (by omega) b1, su 2 (by omega) (by omega), su 3 (by omega) (by omega)⟩
theorem mn_m {W A E CD sd : Nat → Int32} {n c a : Nat} {F : rt_F} (hn : n ≤ 10) (hc : c ≤ 100) (ha : a < 5) (h : ∀ p q m w, p < 12 → q < 12 → m < 12 → w < 12 → SM_ sd F n c p q m w ∧ SL_ W A E CD F n c p q m w) {s : Nat → Int32} (h1 : s (215 + a) = nI (c + n)) (h2 : ∀ k, k < c + n → s (220 + 140 * a + k) = sd k) : rt_m s (a + 1) F := by
  intro σ p q m w k1 k2 k3 k4 k5 k6 hp hq hm hw z1 z2 z3 z4
  obtain ⟨g1, g2⟩ := k2 a rfl
  have k1' : σ 1 5 = nI a := k1.trans (nI_pred a)
  have sm := (h p q m w hp hq hm hw).1 σ (220 + 140 * a) (c + n) ⟨⟨k3, k4, k5, k6⟩, hp, hq, hm, hw⟩ (by omega) (Nat.le_refl _) (fun k hk => (g2 k (by omega)).trans (h2 k hk)) z1 z2 z3 z4 (999 - (c + n) + 1)
  obtain ⟨τ, r1, r2, r3, r4, r5, r6⟩ := sm
  refine ⟨τ, ?_, r2, r3, r4, r5, r6⟩
  unfold rt_l b_X6_looks_96
  rw [k1', if_neg (ni_n (by omega) (by decide)), show (215 : Int32) + nI a = nI (215 + a) from nI_add 215 a, ev_in (show 215 + a < 920 by omega) (by omega), gd_t, nI_clamp (show 215 + a < 2 ^ 31 by omega), g1, h1, lt_e, show (220 : Int32) + (140 : Int32) * nI a = nI (220 + 140 * a) from by rw [show (140 : Int32) * nI a = nI (140 * a) from pk_mul 140 a]; exact nI_add 220 _]
  rw [show 999 - (c + n) + 1 + (c + n) = 1000 by omega, Nat.add_zero (220 + 140 * a)] at r1
  rw [show b_X6_looks_120 jx_fuel σ (nI (c + n)) (nI (220 + 140 * a)) (0 : Int32) (nI (220 + 140 * a)) = _ from r1]
  show g_X6_looks_120 (b_X6_looks_120 (999 - (c + n))) τ (nI (c + n)) (nI (220 + 140 * a)) (nI 0) (nI (220 + 140 * a + (c + n))) = _
  unfold g_X6_looks_120
  rw [nI_add, if_pos (Int32.le_refl _)]
theorem rt_m_o {s s' : Nat → Int32} {hd : Nat} {F : rt_F} (h : rt_m s hd F) (g : ∀ k, hd = k + 1 → s' (215 + k) = s (215 + k) ∧ ∀ i, i < 140 → s' (220 + 140 * k + i) = s (220 + 140 * k + i)) : rt_m s' hd F := by
  intro σ p q m w a1 a2
  refine h σ p q m w a1 (fun k hk => ?_)
  obtain ⟨b1, b2⟩ := a2 k hk
  obtain ⟨c1, c2⟩ := g k hk
  exact ⟨b1.trans c1, fun i hi => (b2 i hi).trans (c2 i hi)⟩
theorem op_tide : lw_op_tide RR := by
  intro t σl σm hR
  obtain ⟨⟨S, F, hc, hm, hw, hb, htc, htm⟩, hi, ht, hst⟩ := id hR
  have n6 : σl 0 0 = nI (S 6) := hc.1.1
  have n7 : σl 0 1 = nI (S 7) := hc.1.2.1
  have n0 : σl 0 2 = nI (S 0) := hc.1.2.2.1
  have n4 : σl 0 3 = nI (S 4) := hc.1.2.2.2.1
  have n1 : σl 0 4 = nI (S 1) := hc.1.2.2.2.2.1
  have n2 : σl 0 5 = nI (S 2) := hc.1.2.2.2.2.2.1
  have n3 : σl 0 6 = nI (S 3) := hc.1.2.2.2.2.2.2
  have m0 : σm 1 0 = nI (S 0) := hm.1 0 (by omega) (by omega) (by omega)
  have m1 : σm 1 1 = nI (S 1) := hm.1 1 (by omega) (by omega) (by omega)
  have m2 : σm 1 2 = nI (S 2) := hm.1 2 (by omega) (by omega) (by omega)
  have m3 : σm 1 3 = nI (S 3) := hm.1 3 (by omega) (by omega) (by omega)
  have m4 : σm 1 4 = nI (S 4) := hm.1 4 (by omega) (by omega) (by omega)
  have m6 : σm 1 6 = nI (S 6) := hm.1 6 (by omega) (by omega) (by omega)
  have m7 : σm 1 7 = nI (S 7) := hm.1 7 (by omega) (by omega) (by omega)
  have bw := hw.2.1
  have b7 := hw.1 7
  unfold f_X5_tide
  by_cases full : S 1 = 5
  · unfold f_X6_tide
    rw [n1, m1, full, if_neg (show ¬ nI 5 < (5 : Int32) by decide), if_pos (show nI 5 = (5 : Int32) from rfl)]
    refine ⟨_, _, _, _, rfl, rfl, fun u hu => ?_⟩
    have e : u = t := hu
    rw [e]; exact hR
  have ha : S 1 < 5 := by omega
  have tN : S 4 ≤ 100 := by omega
  have ktl : ∀ k, k < S 4 → σl 14 k = nI (S (115 + k)) ∧ S (115 + k) ≤ 127 := fun k hk => ⟨hc.2.2.2.1 k (by omega), hw.2.2.2.2.1 k hk⟩
  have ktm : ∀ k, k < S 4 → σm 1 (115 + k) = nI (S (115 + k)) ∧ S (115 + k) ≤ 127 := fun k hk => ⟨hm.1 (115 + k) (by omega) (by omega) (by omega), hw.2.2.2.2.1 k hk⟩
  -- both as they begin
  have kl0 : KR σl (jx_mu (jx_mu (jx_mu (jx_mu (jx_mu σl 0 30 (nI 0)) 0 31 (nI 0)) 0 32 (nI 0)) 0 33 (nI 0)) 0 34 (nI 0)) := KR_t (KR_mu (by omega)) (KR_t (KR_mu (by omega)) (KR_t (KR_mu (by omega)) (KR_t (KR_mu (by omega)) (KR_mu (by omega)))))
  generalize hla : jx_mu (jx_mu (jx_mu (jx_mu (jx_mu σl 0 30 (nI 0)) 0 31 (nI 0)) 0 32 (nI 0)) 0 33 (nI 0)) 0 34 (nI 0) = σ0 at kl0
  have l30 : σ0 0 30 = nI 0 := by rw [← hla]; simp (disch := omega) only [mu_n, mu_s]
  have lrd : RD σ0 0 0 [] 0 := by
    refine ⟨?_, ?_, ?_, trivial, ?_⟩
    · rw [← hla, mu_s]
    · rw [← hla]; simp (disch := omega) only [mu_n, mu_s]
    · rw [← hla]; simp (disch := omega) only [mu_n, mu_s]; rfl
    · rw [← hla]; simp (disch := omega) only [mu_n, mu_s]
  have ltp : tp_ (S 4) (fun k => S (115 + k)) σ0 := tp_k ⟨tN, ktl⟩ kl0
  have fo : f_X3_faultOf t σl 14 (nI (S 4)) = bl_ t 1000 σ0 (S 4) 0 := by rw [← hla]; rfl
  have mu0 : ∀ b, ¬ b = 0 → ¬ b = 1 → (jx_mu (jx_mu (jx_mu (jx_mu (jx_mu (jx_mu (jx_mu σm 0 4 (nI (S 1))) 0 6 (nI (S 4))) 1 4 (nI 0)) 1 (215 + S 1) (nI 0)) 0 5 (nI 0)) 0 7 (nI 0)) 0 8 (nI 0)) b = σm b := fun b h0 h1 => by simp (disch := omega) only [mu_a]
  have mu1 : ∀ i, ¬ i = 4 → ¬ i = 215 + S 1 → (jx_mu (jx_mu (jx_mu (jx_mu (jx_mu (jx_mu (jx_mu σm 0 4 (nI (S 1))) 0 6 (nI (S 4))) 1 4 (nI 0)) 1 (215 + S 1) (nI 0)) 0 5 (nI 0)) 0 7 (nI 0)) 0 8 (nI 0)) 1 i = σm 1 i := fun i h0 h1 => by simp (disch := omega) only [mu_a, mu_n]
  have mu2 : ∀ i, i = 3 ∨ i = 22 → (jx_mu (jx_mu (jx_mu (jx_mu (jx_mu (jx_mu (jx_mu σm 0 4 (nI (S 1))) 0 6 (nI (S 4))) 1 4 (nI 0)) 1 (215 + S 1) (nI 0)) 0 5 (nI 0)) 0 7 (nI 0)) 0 8 (nI 0)) 0 i = σm 0 i := fun i h0 => by simp (disch := omega) only [mu_a, mu_n]
  have mu3 : (jx_mu (jx_mu (jx_mu (jx_mu (jx_mu (jx_mu (jx_mu σm 0 4 (nI (S 1))) 0 6 (nI (S 4))) 1 4 (nI 0)) 1 (215 + S 1) (nI 0)) 0 5 (nI 0)) 0 7 (nI 0)) 0 8 (nI 0)) 1 4 = nI 0 := by simp (disch := omega) only [mu_a, mu_n, mu_s]
  have md : MD (S 1) (S 4) (jx_mu (jx_mu (jx_mu (jx_mu (jx_mu (jx_mu (jx_mu σm 0 4 (nI (S 1))) 0 6 (nI (S 4))) 1 4 (nI 0)) 1 (215 + S 1) (nI 0)) 0 5 (nI 0)) 0 7 (nI 0)) 0 8 (nI 0)) 0 0 0 := by
    refine ⟨?_, ?_, ?_, ?_, mu_s, ?_⟩
    all_goals simp (disch := omega) only [mu_a, mu_n, mu_s]
  have e6 : (jx_mu σm 0 4 (nI (S 1))) 1 4 = nI (S 4) := by rw [mu_a (by omega)]; exact m4
  have e4 : (jx_mu (jx_mu (jx_mu σm 0 4 (nI (S 1))) 0 6 (nI (S 4))) 1 4 (nI 0)) 0 4 = nI (S 1) := by simp (disch := omega) only [mu_a, mu_n, mu_s]
  have ft : f_X6_tide σm = jx_bd (f_X6_clauseHere (jx_mu (jx_mu (jx_mu (jx_mu (jx_mu (jx_mu (jx_mu σm 0 4 (nI (S 1))) 0 6 (nI (S 4))) 1 4 (nI 0)) 1 (215 + S 1) (nI 0)) 0 5 (nI 0)) 0 7 (nI 0)) 0 8 (nI 0))) (fun q10 => (b_X6_tide_75 jx_fuel q10 (1 : Int32))) := by
    unfold f_X6_tide
    rw [m1, if_neg (show ¬ nI (S 1) = (5 : Int32) from fun z => full ((nI_eq (b := 5) (by omega) (by omega)).mp z)), lt_e, e6, lt_e, lt_e, show (jx_mu (jx_mu (jx_mu σm 0 4 (nI (S 1))) 0 6 (nI (S 4))) 1 4 (0 : Int32)) 0 4 = nI (S 1) from e4, show (215 : Int32) + nI (S 1) = nI (215 + S 1) from nI_add 215 _, ev_in (show 215 + S 1 < 920 by omega) (by omega), gd_t, nI_clamp (show 215 + S 1 < 2 ^ 31 by omega), lt_e, lt_e, lt_e, lt_e]
    rfl
  generalize hμ : jx_mu (jx_mu (jx_mu (jx_mu (jx_mu (jx_mu (jx_mu σm 0 4 (nI (S 1))) 0 6 (nI (S 4))) 1 4 (nI 0)) 1 (215 + S 1) (nI 0)) 0 5 (nI 0)) 0 7 (nI 0)) 0 8 (nI 0) = μ at mu0 mu1 mu2 mu3 md ft
  have mtp : tm_ (S 4) (fun k => S (115 + k)) μ := ⟨tN, fun k hk => ⟨by rw [mu1 _ (by omega) (by omega)]; exact (ktm k hk).1, (ktm k hk).2⟩⟩
  have to_ := ti_e (t := t) ltp mtp ha lrd l30 md
  rw [← ft] at to_
  rw [n1, if_pos (show nI (S 1) < (5 : Int32) from nI_lt (b := 5) ha (by omega)), n4, fo]
  rcases to_ with ⟨j, τ, f1, f2, f3, σ', f4, f5⟩ | ⟨n, c, τ, σ', f1, f2, f3, f4, f5, f6, f7, f8, f9, f10⟩
  · rw [f4 1000 (by omega), bd_s, lt_e, if_neg (show ¬ (nI j, σ').1 < 0 from nI_pos (by omega)), f1]
    refine ⟨_, _, _, _, rfl, rfl, fun u hu => ?_⟩
    have e : u = t := hu
    rw [e]
    have kk : KR σl σ' := KR_t kl0 f5
    have kls : kl σl (jx_mu σ' 0 3 (0 : Int32)) := ⟨fun j hj => (mu_a (by omega)).trans (kk.1 j (by omega) (by omega)), fun i hi => (mu_n (by omega)).trans (kk.2 i (by omega))⟩
    have kms : km σm τ := ⟨(f3.1 2 (by omega) (by omega)).trans (mu0 2 (by omega) (by omega)), (f3.1 9 (by omega) (by omega)).trans (mu0 9 (by omega) (by omega)), (f3.2.1 3 (by omega) (by omega) (by omega)).trans (mu2 3 (by omega)), (f3.2.1 22 (by omega) (by omega) (by omega)).trans (mu2 22 (by omega))⟩
    have s1 : ∀ i, ¬ i = 4 → ¬ i = 215 + S 1 → ¬ (220 + 140 * S 1 ≤ i ∧ i < 220 + 140 * S 1 + 140) → τ 1 i = σm 1 i := fun i i1 i2 i3 => (f3.2.2 i i2 (by omega)).trans (mu1 i i1 i2)
    have s4 : τ 1 4 = nI 0 := (f3.2.2 4 (by omega) (by omega)).trans mu3
    refine ⟨⟨upN S 4 0, F, ?_, ?_, ?_, hb, htc, ?_⟩, rr_i_k hi kls kms, rr_t_k ht kls kms, (kls.2 20 (by omega)).trans hst⟩
    · refine ⟨⟨?_, ?_, ?_, ?_, ?_, ?_, ?_⟩, fun p hp => ?_, fun v hv => ?_, fun i hi => ?_, fun i hi => ?_, fun i hi => ?_⟩
      · simp (disch := omega) only [mu_n, upN_n]; rw [kk.2 0 (by omega)]; exact n6
      · simp (disch := omega) only [mu_n, upN_n]; rw [kk.2 1 (by omega)]; exact n7
      · simp (disch := omega) only [mu_n, upN_n]; rw [kk.2 2 (by omega)]; exact n0
      · rw [mu_s, upN_s]; rfl
      · simp (disch := omega) only [mu_n, upN_n]; rw [kk.2 4 (by omega)]; exact n1
      · simp (disch := omega) only [mu_n, upN_n]; rw [kk.2 5 (by omega)]; exact n2
      · simp (disch := omega) only [mu_n, upN_n]; rw [kk.2 6 (by omega)]; exact n3
      · simp (disch := omega) only [mu_a, upN_n]; rw [kk.1 (1 + p) (by omega) (by omega)]; exact hc.2.1 p hp
      · simp (disch := omega) only [mu_a, upN_n]; rw [kk.1 (8 + v) (by omega) (by omega)]
        exact hc.2.2.1 v hv
      · simp (disch := omega) only [mu_a, upN_n]; rw [kk.1 14 (by omega) (by omega)]; exact hc.2.2.2.1 i hi
      · simp (disch := omega) only [mu_a, upN_n]; rw [kk.1 15 (by omega) (by omega), kk.1 16 (by omega) (by omega)]; exact hc.2.2.2.2.1 i hi
      · simp (disch := omega) only [mu_a, upN_n]; rw [kk.1 17 (by omega) (by omega), kk.1 18 (by omega) (by omega), kk.1 19 (by omega) (by omega)]; exact hc.2.2.2.2.2 i hi
    · refine ⟨fun k hk h5 hs => ?_, ?_, fun p hp => ?_⟩
      · by_cases e : k = 4
        · subst e; rw [upN_s]; exact s4
        · rw [upN_n e, s1 k e (by omega) (by omega)]; exact hm.1 k hk h5 hs
      · rw [upN_n (by omega), s1 5 (by omega) (by omega) (by omega)]; exact hm.2.1
      · rw [upN_n (by omega), s1 (17 + p) (by omega) (by omega) (by omega)]; exact hm.2.2 p hp
    · refine ⟨fun k => ?_, ⟨?_, ?_, ?_, ?_, ?_, ?_, ?_, ?_⟩, fun p hp => ⟨?_, fun hq => ?_, fun hq => ?_, ?_⟩, fun v hv => ⟨?_, ?_, ?_, ?_, ?_, fun j hj => ?_⟩, fun i hi => ?_, fun i hi => ⟨?_, ?_⟩, fun i hi => ⟨?_, ?_, ?_⟩⟩
      all_goals (try simp (disch := omega) only [upN_s, upN_n] at *)
      all_goals (try simp only [upN, and_self, true_and, and_true, false_and, and_false, ↓reduceIte, eq_self])
      all_goals (repeat' split)
      all_goals first | omega | exact hw.1 _ | (have z := hw.2.1; omega) | (have z := hw.2.2.1 p hp; have z2 := hw.2.1; omega) | (have z := hw.2.2.2.1 v (by omega); have z2 := hw.2.1; first | omega | (have z3 := z.2.2.2.2.2 j hj; omega)) | (have z := hw.2.2.2.2.1 i (by omega); omega) | (have z := hw.2.2.2.2.2.1 i (by omega); omega) | (have z := hw.2.2.2.2.2.2 i (by omega); omega)
    · rw [upN_n (show ¬ 5 = 4 by omega)]
      exact rt_m_o htm (fun k hk => ⟨s1 _ (by omega) (by omega) (by omega), fun i hi => s1 _ (by omega) (by omega) (by omega)⟩)
  · have kk : KR σl σ' := KR_t kl0 f4
    have x30 : (jx_mu σ' 0 3 (0 : Int32)) 0 30 = nI n := by rw [mu_n (by omega)]; exact f5
    have x31 : (jx_mu σ' 0 3 (0 : Int32)) 0 31 = nI c := by rw [mu_n (by omega)]; exact f6
    have x4 : (jx_mu σ' 0 3 (0 : Int32)) 0 4 = nI (S 1) := by rw [mu_n (by omega), kk.2 4 (by omega)]; exact n1
    have g30 : decide (¬ nI n < 0 ∧ (nI n).toNatClampNeg ≤ 100) = true := decide_eq_true ⟨nI_pos (by omega), by rw [nI_clamp (by omega)]; omega⟩
    have g31 : decide (¬ nI c < 0 ∧ (nI c).toNatClampNeg ≤ 100) = true := decide_eq_true ⟨nI_pos (by omega), by rw [nI_clamp (by omega)]; omega⟩
    have w1 : τ 1 1 = nI (S 1) := by rw [f2.2.2 1 (by omega) (by omega), mu1 1 (by omega) (by omega)]; exact m1
    rw [f3 1000 (by omega), bd_s, lt_e, if_pos (show ((-1 : Int32), σ').1 < 0 from (by decide : (-1 : Int32) < 0)), x30, g30, gd_t, x31, g31, gd_t, lt_e, x4, mu_s, f1, w1, show nI (S 1) + (1 : Int32) = nI (S 1 + 1) from nI_1 _, show nI (S 1 + 1) - (1 : Int32) = nI (S 1) from nI_pred _]
    refine ⟨_, _, _, _, rfl, rfl, fun u hu => ?_⟩
    obtain ⟨nn, e⟩ : ∃ nn, u = ll_tS t (jx_mu σ' 0 3 (0 : Int32)) nn := hu
    obtain ⟨G, G1, G2⟩ := mean_e n c f7 f8 f10
    have u1 : ∀ k, 1 ≤ k → k < 4 → u.2.1 k = n := by
      intro k k1 k2
      rw [e]
      show (if k < 5 then (if k = 4 then ((jx_mu σ' 0 3 (0 : Int32)) 0 31).toNatClampNeg else ((jx_mu σ' 0 3 (0 : Int32)) 0 30).toNatClampNeg) else t.2.1 k) = n
      rw [if_pos (by omega), if_neg (by omega), x30, nI_clamp (by omega)]
    have u4 : u.2.1 4 = c := by
      rw [e]
      show (if 4 < 5 then (if 4 = 4 then ((jx_mu σ' 0 3 (0 : Int32)) 0 31).toNatClampNeg else ((jx_mu σ' 0 3 (0 : Int32)) 0 30).toNatClampNeg) else t.2.1 4) = c
      rw [if_pos (by omega), if_pos rfl, x31, nI_clamp (by omega)]
    have v1 : ∀ k, 1 ≤ k → k < 4 → ∀ i, i < n → u.2.2 k i = σ' (60 + k) i := by
      intro k k1 k2 i hi
      rw [e]
      show (if k < 5 then (if k = 4 then zc_cut 100 ((jx_mu σ' 0 3 (0 : Int32)) 64) ((jx_mu σ' 0 3 (0 : Int32)) 0 31) else zc_cut 10 ((jx_mu σ' 0 3 (0 : Int32)) (60 + k)) ((jx_mu σ' 0 3 (0 : Int32)) 0 30)) else t.2.2 k) i = _
      rw [if_pos (by omega), if_neg (by omega), x30, zc_k f7 (by omega) hi, mu_a (by omega)]
    have v4 : ∀ i, i < c → u.2.2 4 i = σ' 64 i := by
      intro i hi
      rw [e]
      show (if 4 < 5 then (if 4 = 4 then zc_cut 100 ((jx_mu σ' 0 3 (0 : Int32)) 64) ((jx_mu σ' 0 3 (0 : Int32)) 0 31) else zc_cut 10 ((jx_mu σ' 0 3 (0 : Int32)) (60 + 4)) ((jx_mu σ' 0 3 (0 : Int32)) 0 30)) else t.2.2 4) i = _
      rw [if_pos (by omega), if_pos rfl, x31, zc_k f8 (by omega) hi, mu_a (by omega)]
    have u9 : ∀ k, 5 ≤ k → u.2.1 k = t.2.1 k ∧ u.2.2 k = t.2.2 k := by
      intro k hk
      rw [e]
      exact ⟨if_neg (by omega), if_neg (by omega)⟩
    have kls : kl σl (jx_mu (jx_mu σ' 0 3 (0 : Int32)) 0 4 (nI (S 1 + 1))) := ⟨fun j hj => (mu_a (by omega)).trans ((mu_a (by omega)).trans (kk.1 j (by omega) (by omega))), fun i hi => (mu_n (by omega)).trans ((mu_n (by omega)).trans (kk.2 i (by omega)))⟩
    have kms : km σm (jx_mu (jx_mu τ 1 1 (nI (S 1 + 1))) 1 5 (nI (S 1))) := by
      refine ⟨?_, ?_, ?_, ?_⟩
      · simp (disch := omega) only [mu_a]; exact (f2.1 2 (by omega) (by omega)).trans (mu0 2 (by omega) (by omega))
      · simp (disch := omega) only [mu_a]; exact (f2.1 9 (by omega) (by omega)).trans (mu0 9 (by omega) (by omega))
      · simp (disch := omega) only [mu_a]; exact (f2.2.1 3 (by omega) (by omega) (by omega)).trans (mu2 3 (by omega))
      · simp (disch := omega) only [mu_a]; exact (f2.2.1 22 (by omega) (by omega) (by omega)).trans (mu2 22 (by omega))
    have s1 : ∀ i, ¬ i = 4 → ¬ i = 215 + S 1 → ¬ (220 + 140 * S 1 ≤ i ∧ i < 220 + 140 * S 1 + 140) → τ 1 i = σm 1 i := fun i i1 i2 i3 => (f2.2.2 i i2 (by omega)).trans (mu1 i i1 i2)
    have s4 : τ 1 4 = nI 0 := (f2.2.2 4 (by omega) (by omega)).trans mu3
    have ri : rr_i u σl σm := by
      rcases hi with ⟨h1, h2⟩ | ⟨h1, h2, S', F', h3, h4, h5, h6, h7, h8⟩
      · exact Or.inl ⟨h1, h2⟩
      · exact Or.inr ⟨h1, h2, S', F', h3, h4, h5, h6, rt_c_c h7 (fun k k1 k2 => ⟨(u9 (10 + k) (by omega)).1, (u9 (10 + k) (by omega)).2⟩), h8⟩
    refine ⟨⟨upN (upN (upN S 1 (S 1 + 1)) 5 (S 1 + 1)) 4 0, G, ?_, ?_, ?_, fun p q m w => ?_, ?_, ?_⟩, rr_i_k ri kls kms, rr_t_k ht kls kms, (kls.2 20 (by omega)).trans hst⟩
    · refine ⟨⟨?_, ?_, ?_, ?_, ?_, ?_, ?_⟩, fun p hp => ?_, fun v hv => ?_, fun i hi => ?_, fun i hi => ?_, fun i hi => ?_⟩
      · simp (disch := omega) only [mu_n, upN_n]; rw [kk.2 0 (by omega)]; exact n6
      · simp (disch := omega) only [mu_n, upN_n]; rw [kk.2 1 (by omega)]; exact n7
      · simp (disch := omega) only [mu_n, upN_n]; rw [kk.2 2 (by omega)]; exact n0
      · rw [mu_n (by omega), mu_s, upN_s]; rfl
      · simp (disch := omega) only [mu_s, upN_n, upN_s]
      · simp (disch := omega) only [mu_n, upN_n]; rw [kk.2 5 (by omega)]; exact n2
      · simp (disch := omega) only [mu_n, upN_n]; rw [kk.2 6 (by omega)]; exact n3
      · simp (disch := omega) only [mu_a, upN_n]; rw [kk.1 (1 + p) (by omega) (by omega)]; exact hc.2.1 p hp
      · simp (disch := omega) only [mu_a, upN_n]; rw [kk.1 (8 + v) (by omega) (by omega)]
        exact hc.2.2.1 v hv
      · simp (disch := omega) only [mu_a, upN_n]; rw [kk.1 14 (by omega) (by omega)]; exact hc.2.2.2.1 i hi
      · simp (disch := omega) only [mu_a, upN_n]; rw [kk.1 15 (by omega) (by omega), kk.1 16 (by omega) (by omega)]; exact hc.2.2.2.2.1 i hi
      · simp (disch := omega) only [mu_a, upN_n]; rw [kk.1 17 (by omega) (by omega), kk.1 18 (by omega) (by omega), kk.1 19 (by omega) (by omega)]; exact hc.2.2.2.2.2 i hi
    · refine ⟨fun k hk h5 hs => ?_, ?_, fun p hp => ?_⟩
      · by_cases e : k = 4
        · subst e
          rw [upN_s]
          simp (disch := omega) only [mu_n]; exact s4
        · by_cases e1 : k = 1
          · subst e1
            simp (disch := omega) only [mu_n, mu_s, upN_n, upN_s]
          · simp (disch := omega) only [mu_n, upN_n]
            rw [s1 k e (by omega) (by omega)]; exact hm.1 k hk h5 hs
      · simp (disch := omega) only [mu_s, upN_n, upN_s]
        exact (nI_pred (S 1)).symm
      · simp (disch := omega) only [mu_n, upN_n]
        rw [s1 (17 + p) (by omega) (by omega) (by omega)]; exact hm.2.2 p hp
    · refine ⟨fun k => ?_, ⟨?_, ?_, ?_, ?_, ?_, ?_, ?_, ?_⟩, fun p hp => ⟨?_, fun hq => ?_, fun hq => ?_, ?_⟩, fun v hv => ⟨?_, ?_, ?_, ?_, ?_, fun j hj => ?_⟩, fun i hi => ?_, fun i hi => ⟨?_, ?_⟩, fun i hi => ⟨?_, ?_, ?_⟩⟩
      all_goals (try simp (disch := omega) only [upN_s, upN_n] at *)
      all_goals (try simp only [upN, and_self, true_and, and_true, false_and, and_false, ↓reduceIte, eq_self])
      all_goals (repeat' split)
      all_goals first | omega | exact hw.1 _ | (have z := hw.2.1; omega) | (have z := hw.2.2.1 p hp; have z2 := hw.2.1; omega) | (have z := hw.2.2.2.1 v (by omega); have z2 := hw.2.1; first | omega | (have z3 := z.2.2.2.2.2 j hj; omega)) | (have z := hw.2.2.2.2.1 i (by omega); omega) | (have z := hw.2.2.2.2.2.1 i (by omega); omega) | (have z := hw.2.2.2.2.2.2 i (by omega); omega)
    · obtain ⟨a1, a2, a3, a4⟩ := G1 p q m w
      exact ⟨a1, a2, by omega, by omega⟩
    · exact mn_c f7 f8 G1 G2 ⟨u1 1 (by omega) (by omega), u1 2 (by omega) (by omega), u1 3 (by omega) (by omega)⟩ u4 (fun k hk => ⟨v1 1 (by omega) (by omega) k hk, v1 2 (by omega) (by omega) k hk, v1 3 (by omega) (by omega) k hk⟩) v4
    · rw [upN_n (show ¬ 5 = 4 by omega), upN_s]
      refine mn_m f7 f8 ha G2 ?_ (fun k hk => ?_)
      · simp (disch := omega) only [mu_n]; exact f9
      · simp (disch := omega) only [mu_n]
