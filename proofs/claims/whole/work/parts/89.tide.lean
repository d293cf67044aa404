/-! tide: the clauses in turn -/
def TO (t : jx_T) (N a : Nat) (σl σm : jx_M) (f : Option (Int32 × jx_M)) : Prop := (∃ j τ, f = some ((-10 : Int32) - nI j, τ) ∧ j ≤ N ∧ KM a 0 σm τ ∧ CF t N σl 0 j) ∨ (∃ n c τ σ', f = some (nI a, jx_mu (jx_mu τ 1 1 (τ 1 1 + 1)) 1 5 (nI a)) ∧ KM a 0 σm τ ∧ (∀ m, N < m → bl_ t m σl N 0 = some (-1, σ')) ∧ KR σl σ' ∧ σ' 0 30 = nI n ∧ σ' 0 31 = nI c ∧ n ≤ 10 ∧ c ≤ 100 ∧ τ 1 (215 + a) = nI (c + n) ∧ CLS (σ' 61) (σ' 62) (σ' 63) (σ' 64) (fun k => τ 1 (220 + 140 * a + k)) n c)
def TP (t : jx_T) (N a : Nat) (tp : Nat → Nat) (σl σm : jx_M) (m : Nat) (τ : jx_M) : Prop := ∃ j σa σv c, MD a N τ j 0 (c + m + 1) ∧ KM a 0 σm τ ∧ j ≤ N ∧ RN t N σl 0 σa j ∧ KR σl σa ∧ VR t N tp σa σv j ∧ RD σv 8 c [] 0 ∧ KR σl σv ∧ σv 0 30 = nI m ∧ CLS (σv 61) (σv 62) (fun k => if k = m then nI c else σv 63 k) (σv 64) (fun k => τ 1 (220 + 140 * a + k)) (m + 1) c ∧ c + m ≤ j ∧ ¬ (j < N ∧ tp j = 38) ∧ ¬ (j < N ∧ tp j = 124)
theorem KR_i {a b c : jx_M} (h : KR a b) (g : KR a c) : KR b c := ⟨fun x h0 h1 => (g.1 x h0 h1).trans (h.1 x h0 h1).symm, fun i h1 => (g.2 i h1).trans (h.2 i h1).symm⟩
theorem cn_0 {t : jx_T} {σ : jx_M} {c : Nat} (h : RD σ 8 c [] 0) : f_X3_takes t σ (nI 41) = some (nI 0, σ) := by
  have w := wp_0 (t := t) (y := -3) h (by show 0 ≤ 17; omega) (Or.inl rfl)
  rw [tk_8 h.1]
  unfold f_X3_takesJoint f_X3_takesClosing
  rw [if_neg (show ¬ nI 41 = (38 : Int32) by decide), if_pos (show nI 41 = (41 : Int32) from rfl), w, bd_s, h.2.2.1, if_pos (show nI ([] : List Nat).length = (0 : Int32) from rfl)]
  rfl
/-- ; -/
theorem se_y {t : jx_T} {σ : jx_M} {c m : Nat} (h : RD σ 8 c [] 0) (h30 : σ 0 30 = nI m) (hm : m < 10) : f_X3_takes t σ (nI 59) = some (nI (if m = 9 then 0 else 1), jx_mu (jx_mu (jx_mu σ 0 34 (nI 0)) 63 m (nI c)) 0 30 (nI (m + 1))) := by
  have e := ec_y (t := t) (RD_34 h 0) (by rw [mu_n (by omega)]; exact h30) hm
  rw [tk_8 h.1]
  unfold f_X3_takesJoint
  rw [if_neg (show ¬ nI 59 = (38 : Int32) by decide), if_neg (show ¬ nI 59 = (41 : Int32) by decide), if_pos (show nI 59 = (59 : Int32) from rfl), lt_e, show f_X3_endsClause t (jx_mu σ 0 34 (0 : Int32)) = _ from e, bd_s, if_neg (show ¬ (nI 1, jx_mu (jx_mu (jx_mu σ 0 34 (nI 0)) 63 m (nI c)) 0 30 (nI (m + 1))).1 = (0 : Int32) from (by decide : ¬ nI 1 = (0 : Int32)))]
  show jx_bd (if (10 : Int32) ≤ jx_mu (jx_mu (jx_mu σ 0 34 (nI 0)) 63 m (nI c)) 0 30 (nI (m + 1)) 0 30 then _ else _) _ = _
  rw [mu_s]
  by_cases g : m = 9
  · subst g
    rw [if_pos (show (10 : Int32) ≤ nI (9 + 1) by decide), if_pos rfl]
    rfl
  · rw [if_neg (show ¬ (10 : Int32) ≤ nI (m + 1) from nI_ge (b := 10) (by omega) (by omega)), if_neg g]
    rfl
theorem fin_ {t : jx_T} {N a m : Nat} {tp : Nat → Nat} {σl σm τ : jx_M} (ht : tp_ N tp σl) (hm : m < 10) (h : TP t N a tp σl σm m τ) (g : ∀ j, τ 0 5 = nI j → j < N → tp j = 59 → m = 9) : TO t N a σl σm (b_X6_tide_117 τ) := by
  obtain ⟨j, σa, σv, c, q1, q2, q3, q4, q5, q6, q7, q8, q9, q10, q11, q12, q13⟩ := h
  have hN := ht.1
  have hta := tp_k ht q5
  unfold b_X6_tide_117
  rw [q1.2.2.2.1, if_pos (show nI 0 = (0 : Int32) from rfl), q1.2.1, q1.2.2.1]
  by_cases e : j = N
  · subst e
    right
    rw [if_pos rfl, lt_e, lt_e]
    have ec := ec_y (t := t) q7 q9 hm
    have iw : f_X3_isWhole t σa = some (nI 1, jx_mu (jx_mu σv 63 m (nI c)) 0 30 (nI (m + 1))) := by
      rw [q6.2 rfl]
      unfold f_X3_isWhole b_X3_isWhole_13
      rw [q7.1, if_neg (show ¬ nI 8 = (7 : Int32) by decide), if_pos (show nI 8 = (8 : Int32) from rfl), ec, bd_s, if_neg (show ¬ (nI 1, jx_mu (jx_mu σv 63 m (nI c)) 0 30 (nI (m + 1))).1 = (0 : Int32) from (by decide : ¬ nI 1 = (0 : Int32)))]
      rfl
    refine ⟨m + 1, c, τ, jx_mu (jx_mu σv 63 m (nI c)) 0 30 (nI (m + 1)), ?_, q2, fun k hk => ?_, KR_t q8 (KR_t (KR_mu (by omega)) (KR_mu (by omega))), mu_s, ?_, by omega, by omega, ?_, ?_⟩
    · rw [mu_a (show ¬ 0 = 1 by omega), mu_a (show ¬ 0 = 1 by omega), q1.1]
    · have rn := q4.2 (k - j)
      rw [show k - j + (j - 0) = k by omega] at rn
      rw [rn]
      obtain ⟨k', hk'⟩ : ∃ k', k - j = k' + 1 := ⟨k - j - 1, by omega⟩
      rw [hk']
      exact st_w iw k'
    · rw [mu_n (by omega), mu_a (by omega)]; exact q7.2.1
    · rw [q1.2.2.2.2.2]; rfl
    · refine CLS_c (m + 1) c q10 (fun k hk => ⟨?_, ?_, ?_⟩) (fun k hk => ?_) (fun k hk => rfl)
      · rw [mu_a (by omega), mu_a (by omega)]
      · rw [mu_a (by omega), mu_a (by omega)]
      · rw [mu_a (show ¬ 63 = 0 by omega)]
        by_cases y : k = m
        · subst y; rw [mu_s, if_pos rfl]
        · rw [mu_n y, if_neg y]
      · rw [mu_a (by omega), mu_a (by omega)]
  · left
    rw [if_neg (fun z => e ((nI_eq (by omega) (by omega)).mp z))]
    have hj : j < N := by omega
    refine ⟨j, τ, rfl, q3, q2, CF_t q4 q5 q3 ?_⟩
    have kav := KR_i q5 q8
    by_cases z : jt_ (tp j)
    · rcases z with z | z | z | z
      · exact absurd ⟨hj, z⟩ q12
      · refine st_n hta hj (σ' := σv) ?_ kav
        rw [(q6.1 hj).1 (Or.inr (Or.inl z)), z]; exact cn_0 q7
      · have m9 := g j q1.2.1 hj z
        refine st_n hta hj (σ' := jx_mu (jx_mu (jx_mu σv 0 34 (nI 0)) 63 m (nI c)) 0 30 (nI (m + 1))) ?_ (KR_t kav (KR_t (KR_mu (by omega)) (KR_t (KR_mu (by omega)) (KR_mu (by omega)))))
        rw [(q6.1 hj).1 (Or.inr (Or.inr (Or.inl z))), z, se_y q7 q9 hm, if_pos m9]
      · exact absurd ⟨hj, z⟩ q13
    · obtain ⟨σ', w1, w2⟩ := (q6.1 hj).2 z
      exact st_n hta hj w1 w2
theorem CLR_T {t : jx_T} {N a c i m : Nat} {tp : Nat → Nat} {σl σm σ1 τ1 τ : jx_M} (rn : RN t N σl 0 σ1 i) (k1 : KR σl σ1) (km : KM a 0 σm τ1) (cls : CLS (σ1 61) (σ1 62) (σ1 63) (σ1 64) (fun k => τ1 1 (220 + 140 * a + k)) m c) (h : CLR t N a tp (c + m) σ1 τ1 i c m τ) : TP t N a tp σl σm m τ := by
  obtain ⟨j, σa, σv, L, w, v, h1, h2, h3, h4, h5, h6, h7, h8, h9, h10, h11, h12, h13, h14, h15, h16, h17, h18, h19, h20⟩ := h
  refine ⟨j, σa, σv, c + L, ?_, KM_t km h2 (by omega), h4, RN_t rn h5, KR_t k1 h6, h7, h8, KR_t k1 (KC_R h9), h10, ?_, by omega, h19, h20⟩
  · rw [show c + L + m + 1 = c + m + L + 1 by omega]; exact h1
  · refine ⟨c, w, v, L, CLS_c m c cls (fun k hk => ⟨(h9.2.2.1 k hk).1, (h9.2.2.1 k hk).2.1, ?_⟩) h9.2.2.2 (fun k hk => h2.2.2 _ (by omega) (by omega)), rfl, h13, h14, h11, h12, if_pos rfl, h15, ?_⟩
    · show (if k = m then nI (c + L) else σv 63 k) = σ1 63 k
      rw [if_neg (by omega)]; exact (h9.2.2.1 k hk).2.2
    · show τ 1 (220 + 140 * a + (c + L + m)) = cop_ w v
      rw [show c + L + m = c + m + L by omega]; exact h16
theorem TW {t : jx_T} {N a j : Nat} {σl σm τ : jx_M} (h : MW τ j) (hj : j ≤ N) (k : KM a 0 σm τ) (c : CF t N σl 0 j) (m : Nat) (fu : Nat) : TO t N a σl σm (b_X6_tide_75 (fu + 1) τ (nI m)) := by
  left
  refine ⟨j, τ, ?_, hj, k, c⟩
  show g_X6_tide_75 (b_X6_tide_75 fu) τ (nI m) = _
  unfold g_X6_tide_75 b_X6_tide_117
  rw [h.1, if_neg (show ¬ nI 1 = (0 : Int32) by decide), if_neg (show ¬ nI 1 = (0 : Int32) by decide), h.2]
theorem tl_e {t : jx_T} {N a : Nat} {tp : Nat → Nat} {σl σm : jx_M} (ht : tp_ N tp σl) (htm : tm_ N tp σm) (ha : a < 5) : ∀ (fu m : Nat) (τ : jx_M), 9 ≤ m + fu → m < 10 → TP t N a tp σl σm m τ → TO t N a σl σm (b_X6_tide_75 (fu + 1) τ (nI (m + 1))) := by
  intro fu
  induction fu with
  | zero =>
    intro m τ h1 h2 h3
    have m9 : m = 9 := by omega
    have f := fin_ ht h2 h3 (fun _ _ _ _ => m9)
    obtain ⟨j, σa, σv, c, q1, -⟩ := h3
    have e : b_X6_tide_75 (0 + 1) τ (nI (m + 1)) = b_X6_tide_117 τ := by
      show g_X6_tide_75 (b_X6_tide_75 0) τ (nI (m + 1)) = _
      unfold g_X6_tide_75
      rw [q1.2.2.2.1, if_pos (show nI 0 = (0 : Int32) from rfl), if_pos (show (10 : Int32) ≤ nI (m + 1) from nI_le (a := 10) (by omega) (by omega))]
    rw [e]; exact f
  | succ fu ih =>
    intro m τ h1 h2 h3
    have hN := ht.1
    obtain ⟨j, σa, σv, c, q1, q2, q3, q4, q5, q6, q7, q8, q9, q10, q11, q12, q13⟩ := id h3
    have hmτ := tm_k htm q2
    have tl := fun k hk => (htm.2 k hk).2
    have hh := here_e hmτ q1.2.1 q1.2.2.1 q3
    by_cases m9 : m = 9
    · have e : b_X6_tide_75 (fu + 1 + 1) τ (nI (m + 1)) = b_X6_tide_117 τ := by
        show g_X6_tide_75 (b_X6_tide_75 (fu + 1)) τ (nI (m + 1)) = _
        unfold g_X6_tide_75
        rw [q1.2.2.2.1, if_pos (show nI 0 = (0 : Int32) from rfl), if_pos (show (10 : Int32) ≤ nI (m + 1) from nI_le (a := 10) (by omega) (by omega))]
      rw [e]; exact fin_ ht h2 h3 (fun _ _ _ _ => m9)
    · have e : b_X6_tide_75 (fu + 1 + 1) τ (nI (m + 1)) = (if hv_ N tp j = nI 59 then jx_bd (f_X6_clauseHere (jx_mu τ 0 5 (nI (j + 1)))) (fun q6 => b_X6_tide_75 (fu + 1) q6 (nI (m + 1 + 1))) else b_X6_tide_117 τ) := by
        show g_X6_tide_75 (b_X6_tide_75 (fu + 1)) τ (nI (m + 1)) = _
        unfold g_X6_tide_75
        rw [q1.2.2.2.1, if_pos (show nI 0 = (0 : Int32) from rfl), if_neg (show ¬ (10 : Int32) ≤ nI (m + 1) from nI_ge (b := 10) (by omega) (by omega)), hh, bd_s, q1.2.1, show nI j + (1 : Int32) = nI (j + 1) from nI_1 j]
        simp only [lt_e, show nI (m + 1) + (1 : Int32) = nI (m + 1 + 1) from nI_1 _]
        rfl
      rw [e]
      by_cases g : j < N ∧ tp j = 59
      · rw [if_pos ((hv_i tl (by omega)).mpr g)]
        have hta := tp_k ht q5
        have sy := se_y (t := t) q7 q9 h2
        rw [if_neg m9] at sy
        have tk : f_X3_takes t σa (nI (tp j)) = some (nI 1, jx_mu (jx_mu (jx_mu σv 0 34 (nI 0)) 63 m (nI c)) 0 30 (nI (m + 1))) := by
          rw [(q6.1 g.1).1 (Or.inr (Or.inr (Or.inl g.2))), g.2]; exact sy
        have st := st_y hta g.1 tk
        have kn : KR σl (jx_mu (jx_mu (jx_mu σv 0 34 (nI 0)) 63 m (nI c)) 0 30 (nI (m + 1))) := KR_t q8 (KR_t (KR_mu (by omega)) (KR_t (KR_mu (by omega)) (KR_mu (by omega))))
        have m1 := MD_5 (j := j + 1) q1
        have k1 : KM a 0 σm (jx_mu τ 0 5 (nI (j + 1))) := KM_t q2 (KM_0 (by omega)) (Nat.le_refl 0)
        have rd : RD (jx_mu (jx_mu (jx_mu σv 0 34 (nI 0)) 63 m (nI c)) 0 30 (nI (m + 1))) 0 c [] 0 := by
          obtain ⟨z1, z2, z3, z4, z5⟩ := q7
          refine ⟨?_, ?_, ?_, trivial, ?_⟩
          · simp (disch := omega) only [mu_n, mu_a, mu_s]
          · simp (disch := omega) only [mu_n, mu_a]; exact z2
          · simp (disch := omega) only [mu_n, mu_a]; exact z3
          · simp (disch := omega) only [mu_n, mu_a]; exact z5
        have ps : PS N a tp (jx_mu (jx_mu (jx_mu σv 0 34 (nI 0)) 63 m (nI c)) 0 30 (nI (m + 1))) (jx_mu τ 0 5 (nI (j + 1))) (j + 1) c (c + (m + 1)) (m + 1) := ⟨tp_k ht kn, tm_k htm k1, rd, m1, by have := g.1; omega, by omega, by omega, ha, mu_s, by omega⟩
        have cls : CLS ((jx_mu (jx_mu (jx_mu σv 0 34 (nI 0)) 63 m (nI c)) 0 30 (nI (m + 1))) 61) ((jx_mu (jx_mu (jx_mu σv 0 34 (nI 0)) 63 m (nI c)) 0 30 (nI (m + 1))) 62) ((jx_mu (jx_mu (jx_mu σv 0 34 (nI 0)) 63 m (nI c)) 0 30 (nI (m + 1))) 63) ((jx_mu (jx_mu (jx_mu σv 0 34 (nI 0)) 63 m (nI c)) 0 30 (nI (m + 1))) 64) (fun k => (jx_mu τ 0 5 (nI (j + 1))) 1 (220 + 140 * a + k)) (m + 1) c := by
          refine CLS_c (m + 1) c q10 (fun k hk => ⟨?_, ?_, ?_⟩) (fun k hk => ?_) (fun k hk => ?_)
          · simp (disch := omega) only [mu_a]
          · simp (disch := omega) only [mu_a]
          · rw [mu_a (show ¬ 63 = 0 by omega)]
            by_cases y : k = m
            · subst y; rw [mu_s, if_pos rfl]
            · rw [mu_n y, if_neg y, mu_a (by omega)]
          · simp (disch := omega) only [mu_a]
          · show (jx_mu τ 0 5 (nI (j + 1))) 1 (220 + 140 * a + k) = _
            rw [mu_a (by omega)]
        have rn2 : RN t N σl 0 (jx_mu (jx_mu (jx_mu σv 0 34 (nI 0)) 63 m (nI c)) 0 30 (nI (m + 1))) (j + 1) := RN_t q4 st
        rcases cl_e (t := t) ps with ⟨τ2, j2, w1, w2, w3, w4, w5⟩ | ⟨τ2, w1, w2⟩
        · rw [w1, bd_s]
          exact TW w2 w4 (KM_t k1 w3 (by omega)) (CF_t rn2 kn (by have := g.1; omega) w5) _ _
        · rw [w1, bd_s]
          exact ih (m + 1) τ2 (by omega) (by omega) (CLR_T rn2 kn k1 cls w2)
      · rw [if_neg (fun z => g ((hv_i tl (by omega)).mp z))]
        refine fin_ ht h2 h3 (fun j' hj' h4 h5 => ?_)
        have ej : j' = j := (nI_eq (by omega) (by omega)).mp (hj'.symm.trans q1.2.1)
        rw [ej] at h4 h5
        exact absurd ⟨h4, h5⟩ g
/-- the whole of it -/
theorem ti_e {t : jx_T} {N a : Nat} {tp : Nat → Nat} {σl σm : jx_M} (ht : tp_ N tp σl) (htm : tm_ N tp σm) (ha : a < 5) (hr : RD σl 0 0 [] 0) (h30 : σl 0 30 = nI 0) (hd : MD a N σm 0 0 0) : TO t N a σl σm (jx_bd (f_X6_clauseHere σm) (fun q10 => (b_X6_tide_75 jx_fuel q10 (1 : Int32)))) := by
  have ps : PS N a tp σl σm 0 0 0 0 := ⟨ht, htm, hr, hd, Nat.zero_le _, Nat.le_refl _, Nat.le_refl _, ha, h30, by omega⟩
  rcases cl_e (t := t) ps with ⟨τ2, j2, w1, w2, w3, w4, w5⟩ | ⟨τ2, w1, w2⟩
  · rw [w1, bd_s]
    exact TW w2 w4 w3 w5 1 999
  · rw [w1, bd_s]
    exact tl_e ht htm ha 999 0 τ2 (by omega) (by omega) (CLR_T (σ1 := σl) (τ1 := σm) (i := 0) (c := 0) (RN_r t N σl 0) (KR_r σl) (KM_r a 0 σm) rfl w2)
