/-! T, E and F, by the number of open ones -/
theorem every_q (F : jx_M → Option jx_M) : loop_q (b_X6_every_4 F) F 38 2 := fun _ _ => rfl
theorem some_q (F : jx_M → Option jx_M) : loop_q (b_X6_some_4 F) (f_X6_every F) 124 3 := fun _ _ => rfl
theorem every_w {F : jx_M → Option jx_M} (hF : ∀ σm j, MW σm j → F σm = some σm) {σ : jx_M} {j : Nat} (h : MW σ j) : f_X6_every F σ = some σ := by
  unfold f_X6_every
  rw [hF σ j h, bd_s]
  exact loop_w (every_q F) h 999
theorem some_w {F : jx_M → Option jx_M} (hF : ∀ σm j, MW σm j → F σm = some σm) {σ : jx_M} {j : Nat} (h : MW σ j) : f_X6_some F σ = some σ := by
  unfold f_X6_some
  rw [every_w hF h, bd_s]
  exact loop_w (some_q F) h 999
theorem OK_x {t : jx_T} {N a e i c o D : Nat} {tp : Nat → Nat} {σl σm σm' : jx_M} {P : List Nat} {ex ex' : Nat → Prop} (h : OK_ t N a tp e σl σm i c P o D ex σm') (g : ∀ j, ex j → ex' j) {D' : Nat} (hD : D ≤ D' ∧ D' ≤ 40) : OK_ t N a tp e σl σm i c P o D' ex' σm' := by
  obtain ⟨j, σa, σv, L, q1, q2, q3, q4, q5, q6, q7, q8, q9, q10, q11, q12⟩ := h
  exact ⟨j, σa, σv, L, q1, q2, q3, q4, q5, q6, q7, q8, SG_D q9 hD.1 hD.2, q10, q11, g j q12⟩
theorem every_e {t : jx_T} {N a q : Nat} {tp : Nat → Nat} {F : jx_M → Option jx_M} (hF : FPr t N a tp F q) {σl σm : jx_M} {i c o e : Nat} {P : List Nat} (hq : q ≤ o) (h : PE N a tp σl σm 4 i c P o e) (hP : P.length ≤ 3 * o + 1) (hh : hd_ 2 P) : OO t N a tp e σl σm i c P o (2 + 2 * (5 - o)) (fun j => ¬ (j < N ∧ tp j = 38)) (f_X6_every F σm) := by
  obtain ⟨ht, hm, hr, hd, hi, hp, hc, he, ho, ha⟩ := id h
  have hN := ht.1
  unfold f_X6_every
  rcases hF.2 σl σm i c P o e hq h (by omega) with ⟨σm1, j, w1, w2, w3, w4, w5⟩ | ⟨σm1, w1, w2⟩
  · left
    refine ⟨σm1, j, ?_, w2, w3, w4, w5⟩
    rw [w1, bd_s]
    exact loop_w (every_q F) w2 999
  · rw [w1, bd_s]
    obtain ⟨j, σa, σv, L, q1, q2, q3, q4, q5, q6, q7, q8, q9, q10, q11, q12⟩ := OK_x (ex' := fun _ => True) (D' := 2 + 2 * (5 - o)) w2 (fun _ _ => trivial) (by omega)
    have lp := loop_e (t := t) (D := 2 + 2 * (5 - o)) (D2 := 1 + 2 * (5 - o)) (fun _ => True) (every_q F) (Or.inl ⟨rfl, rfl⟩) ht hm ha ho hp (by omega) hh (by omega) (fun σ1 σ2 i1 c1 e1 pe => hF.2 σ1 σ2 i1 c1 (2 :: P) o e1 hq pe (by show P.length + 1 ≤ 3 * o + 2; omega)) hF.1 (fun z => absurd z (by omega)) 1000 σm1 j (by omega) ⟨σa, σv, L, q1, q2, q3, q4, q5, q6, q7, q8, q9, q10, q11, q12⟩
    rcases lp with w | ⟨σm2, x1, x2⟩
    · exact Or.inl w
    · exact Or.inr ⟨σm2, x1, OK_x x2 (fun j z => z.2) ⟨Nat.le_refl _, by omega⟩⟩
theorem some_e {t : jx_T} {N a q : Nat} {tp : Nat → Nat} {F : jx_M → Option jx_M} (hF : FPr t N a tp F q) {σl σm : jx_M} {i c o e : Nat} {P : List Nat} (hq : q ≤ o) (h : PE N a tp σl σm 4 i c P o e) (hP : P.length ≤ 3 * o) (hh : hd_ 3 P) : OO t N a tp e σl σm i c P o (3 + 2 * (5 - o)) (fun j => ¬ (j < N ∧ tp j = 38) ∧ ¬ (j < N ∧ tp j = 124)) (f_X6_some F σm) := by
  obtain ⟨ht, hm, hr, hd, hi, hp, hc, he, ho, ha⟩ := id h
  have hN := ht.1
  have hh2 : hd_ 2 P := by
    rcases hh with z | ⟨y, Q, z1, z2, z3⟩
    · exact Or.inl z
    · exact Or.inr ⟨y, Q, z1, by omega, z3⟩
  unfold f_X6_some
  rcases every_e hF hq h (by omega) hh2 with ⟨σm1, j, w1, w2, w3, w4, w5⟩ | ⟨σm1, w1, w2⟩
  · left
    refine ⟨σm1, j, ?_, w2, w3, w4, w5⟩
    rw [w1, bd_s]
    exact loop_w (some_q F) w2 999
  · rw [w1, bd_s]
    obtain ⟨j, σa, σv, L, q1, q2, q3, q4, q5, q6, q7, q8, q9, q10, q11, q12⟩ := OK_x (D' := 3 + 2 * (5 - o)) w2 (fun _ z => z) (by omega)
    have lp := loop_e (t := t) (D := 3 + 2 * (5 - o)) (D2 := 2 + 2 * (5 - o)) (fun j => ¬ (j < N ∧ tp j = 38)) (some_q F) (Or.inr ⟨rfl, rfl⟩) ht hm ha ho hp (by omega) hh (by omega) (fun σ1 σ2 i1 c1 e1 pe => every_e hF hq pe (by show P.length + 1 ≤ 3 * o + 1; omega) (Or.inr ⟨3, P, rfl, by omega, by omega⟩)) (fun σ j w => every_w hF.1 w) (fun _ j z => z) 1000 σm1 j (by omega) ⟨σa, σv, L, q1, q2, q3, q4, q5, q6, q7, q8, q9, q10, q11, q12⟩
    rcases lp with w | ⟨σm2, x1, x2⟩
    · exact Or.inl w
    · exact Or.inr ⟨σm2, x1, x2⟩
/-- ) ends what ( began -/
theorem cl_t {t : jx_T} {σ : jx_M} {c o : Nat} {P : List Nat} (h : RD σ 8 c (4 :: P) (o + 1)) (hl : P.length < 17) : ∃ σ', f_X3_takes t σ (nI 41) = some (nI 1, σ') ∧ RD σ' 8 c P o ∧ KE c σ σ' := by
  obtain ⟨h1, h2, h3, h4, h5⟩ := id h
  have w := wp_0 (t := t) (y := -3) h (by show P.length + 1 ≤ 17; omega) (Or.inr ⟨4, P, rfl, by decide⟩)
  have h3' : σ 0 32 = nI (P.length + 1) := h3
  have e1 : nI (P.length + 1) - (1 : Int32) = nI P.length := nI_pred _
  have e2 : nI (o + 1) - (1 : Int32) = nI o := nI_pred _
  refine ⟨jx_mu (jx_mu σ 0 32 (nI P.length)) 0 33 (nI o), ?_, ⟨?_, ?_, ?_, ?_, mu_s⟩, KE_t (KE_0 (by omega)) (KE_0 (by omega)) (Nat.le_refl c)⟩
  · rw [tk_8 h1]
    unfold f_X3_takesJoint f_X3_takesClosing
    rw [if_neg (show ¬ nI 41 = (38 : Int32) by decide), if_pos (show nI 41 = (41 : Int32) from rfl), w, bd_s, h3']
    by_cases z : nI (P.length + 1) = (0 : Int32)
    · exact absurd ((nI_eq (b := 0) (by omega) (by omega)).mp z) (by omega)
    · rw [if_neg z, lt_e, lt_e, e1, mu_n (show ¬ 33 = 32 by omega), h5, e2]; rfl
  · rw [mu_n (by omega), mu_n (by omega)]; exact h1
  · rw [mu_n (by omega), mu_n (by omega)]; exact h2
  · rw [mu_n (by omega), mu_s]
  · rw [mu_a (by omega), mu_a (by omega)]; exact h4.2
/-- within ( neither ; nor the end -/
theorem ec_n {t : jx_T} {σ : jx_M} {du c o : Nat} {P : List Nat} (h : RD σ du c (4 :: P) o) (hl : P.length < 17) : f_X3_endsClause t σ = some (nI 0, σ) := by
  have w := wp_0 (t := t) (y := -3) h (by show P.length + 1 ≤ 17; omega) (Or.inr ⟨4, P, rfl, by decide⟩)
  have h3' : σ 0 32 = nI (P.length + 1) := h.2.2.1
  unfold f_X3_endsClause
  rw [w, bd_s, h3', if_pos (show (0 : Int32) < nI (P.length + 1) from nI_lt (a := 0) (by omega) (by omega))]
  rfl
theorem cl_n {t : jx_T} {N j c o : Nat} {tp : Nat → Nat} {σa σv : jx_M} {P : List Nat} (hta : tp_ N tp σa) (hj : j ≤ N) (hv : VR t N tp σa σv j) (h : RD σv 8 c (4 :: P) o) (hk : KR σa σv) (hl : P.length < 17) (h1 : ¬ (j < N ∧ tp j = 38)) (h2 : ¬ (j < N ∧ tp j = 124)) (h3 : ¬ (j < N ∧ tp j = 41)) : CF t N σa j j := by
  by_cases g : j < N
  · by_cases z : jt_ (tp j)
    · have e59 : tp j = 59 := by
        rcases z with z | z | z | z
        · exact absurd ⟨g, z⟩ h1
        · exact absurd ⟨g, z⟩ h3
        · exact z
        · exact absurd ⟨g, z⟩ h2
      have tv : f_X3_takes t σv (nI 59) = some (nI 0, jx_mu σv 0 34 0) := by
        rw [tk_8 h.1]
        unfold f_X3_takesJoint
        rw [if_neg (show ¬ nI 59 = (38 : Int32) by decide), if_neg (show ¬ nI 59 = (41 : Int32) by decide), if_pos (show nI 59 = (59 : Int32) from rfl), lt_e, show f_X3_endsClause t (jx_mu σv 0 34 (0 : Int32)) = _ from ec_n (RD_34 h 0) hl, bd_s, if_pos (show (nI 0, jx_mu σv 0 34 (nI 0)).1 = (0 : Int32) from rfl)]
        rfl
      refine st_n hta g (σ' := jx_mu σv 0 34 0) ?_ (KR_t hk (KR_mu (by omega)))
      rw [(hv.1 g).1 z, e59, tv]
    · obtain ⟨σ', w1, w2⟩ := (hv.1 g).2 z
      exact st_n hta g w1 w2
  · have e : j = N := by omega
    subst e
    refine st_e hta.1 (σ' := σv) ?_ hk
    rw [hv.2 rfl]
    unfold f_X3_isWhole b_X3_isWhole_13
    rw [h.1, if_neg (show ¬ nI 8 = (7 : Int32) by decide), if_pos (show nI 8 = (8 : Int32) from rfl), ec_n h hl, bd_s, if_pos (show (nI 0, σv).1 = (0 : Int32) from rfl)]
    rfl
theorem FB {t : jx_T} {N a q : Nat} {tp : Nat → Nat} {F : jx_M → Option jx_M} (hF : FPr t N a tp F (q + 1)) : FPr t N a tp (fB_X6_factor F) q := by
  refine ⟨fun σm j h => ?_, fun σl σm i c P o e hq h hP => ?_⟩
  · unfold fB_X6_factor
    rw [h.1, if_neg (by decide)]
  obtain ⟨ht, hm, hr, hd, hi, hp, hc, he, ho, ha⟩ := id h
  have hN := ht.1
  have tl := fun k hk => (hm.2 k hk).2
  have hh := here_e hm hd.2.1 hd.2.2.1 hi
  by_cases g : i < N ∧ (tp i = 33 ∨ tp i = 40)
  · obtain ⟨g1, g2⟩ := g
    have hv : hv_ N tp i = nI (tp i) := if_pos g1
    have e0 : fB_X6_factor F σm = b_X6_factor_25 F σm (nI (tp i)) := by
      unfold fB_X6_factor
      rw [hd.2.2.2.1, if_pos (show nI 0 = (0 : Int32) from rfl), hh, bd_s, hv]
      rcases g2 with z | z
      · rw [z, if_pos (show nI 33 = (33 : Int32) from rfl)]
      · rw [z, if_neg (show ¬ nI 40 = (33 : Int32) by decide), if_pos (show nI 40 = (40 : Int32) from rfl)]
    rw [e0]
    by_cases o5 : o = 5
    · subst o5
      left
      have hw : MW (jx_mu (jx_mu (jx_mu σm 0 7 (nI 1)) 0 8 (nI 6)) 0 5 (nI i)) i := ⟨by rw [mu_n (by omega), mu_n (by omega), mu_s], mu_s⟩
      have hw8 : MW (jx_mu (jx_mu (jx_mu (jx_mu σm 0 7 (nI 1)) 0 8 (nI 6)) 0 5 (nI i)) 0 8 (nI 5)) i := ⟨by rw [mu_n (by omega)]; exact hw.1, by rw [mu_n (by omega)]; exact hw.2⟩
      have o101 : b_X6_factor_101 F (jx_mu (jx_mu (jx_mu σm 0 7 (nI 1)) 0 8 (nI 6)) 0 5 (nI i)) = some (jx_mu (jx_mu (jx_mu (jx_mu σm 0 7 (nI 1)) 0 8 (nI 6)) 0 5 (nI i)) 0 8 (nI 5)) := by
        unfold b_X6_factor_101
        rw [lt_e, mu_n (show ¬ 8 = 5 by omega), mu_s]
        rfl
      have e1 : b_X6_factor_25 F σm (nI (tp i)) = b_X6_factor_69 F (jx_mu (jx_mu σm 0 7 (nI 1)) 0 8 (nI 6)) (nI (tp i)) 0 (nI i) := by
        unfold b_X6_factor_25 b_X6_factor_39
        rw [hd.2.2.2.2.1, if_pos (show nI 5 = (5 : Int32) from rfl), show (decide ((1 : Int32) = 0 ∨ (1 : Int32) = 1)) = true from by decide, gd_t, lt_e, lt_e, mu_n (show ¬ 8 = 7 by omega), hd.2.2.2.2.1, show nI 5 + (1 : Int32) = nI 6 from rfl]
        rw [show (jx_mu (jx_mu σm 0 7 (1 : Int32)) 0 8 (nI 6)) 0 7 = nI 1 from by rw [mu_n (by omega), mu_s]; rfl, if_neg (show ¬ nI 1 = (0 : Int32) by decide), show (jx_mu (jx_mu σm 0 7 (1 : Int32)) 0 8 (nI 6)) 0 5 = nI i from by rw [mu_n (by omega), mu_n (by omega)]; exact hd.2.1]
        rfl
      have km : KM a e σm (jx_mu (jx_mu (jx_mu σm 0 7 (nI 1)) 0 8 (nI 6)) 0 5 (nI i)) := KM_t (KM_0 (by omega)) (KM_t (KM_0 (by omega)) (KM_0 (by omega)) (Nat.le_refl e)) (Nat.le_refl e)
      have cf : CF t N σl i i := st_n ht g1 (t4_f (t := t) hr g2) (KR_r σl)
      rw [e1]
      unfold b_X6_factor_69
      rw [lt_e, show nI i + (0 : Int32) = nI i from nI_add i 0]
      rcases g2 with z | z
      · rw [z, if_pos (show nI 33 = (33 : Int32) from rfl), hF.1 _ i hw, bd_s, em_w hw, bd_s, o101]
        exact ⟨_, i, rfl, hw8, KM_t km (KM_0 (by omega)) (Nat.le_refl e), hi, cf⟩
      · obtain ⟨σ4, w1, w2, w3⟩ := mu_ww (a := a) (e := e) hw (41 : Int32)
        rw [z, if_neg (show ¬ nI 40 = (33 : Int32) by decide), some_w hF.1 hw, bd_s, w1, bd_s]
        refine ⟨jx_mu σ4 0 8 (σ4 0 8 - 1), i, ?_, ⟨by rw [mu_n (by omega)]; exact w2.1, by rw [mu_n (by omega)]; exact w2.2⟩, KM_t km (KM_t w3 (KM_0 (by omega)) (Nat.le_refl e)) (Nat.le_refl e), hi, cf⟩
        unfold b_X6_factor_101
        rfl
    · have m1 := MD_5 (j := i + 1) (MD_8 (o' := o + 1) (MD_7 hd))
      have km : KM a e σm (jx_mu (jx_mu (jx_mu σm 0 7 (nI 0)) 0 8 (nI (o + 1))) 0 5 (nI (i + 1))) := KM_t (KM_0 (by omega)) (KM_t (KM_0 (by omega)) (KM_0 (by omega)) (Nat.le_refl e)) (Nat.le_refl e)
      have hm1 := tm_k hm km
      have e1 : b_X6_factor_25 F σm (nI (tp i)) = b_X6_factor_69 F (jx_mu (jx_mu σm 0 7 (nI 0)) 0 8 (nI (o + 1))) (nI (tp i)) 1 (nI i) := by
        unfold b_X6_factor_25 b_X6_factor_39
        rw [hd.2.2.2.2.1, if_neg (show ¬ nI o = (5 : Int32) from fun z => o5 ((nI_eq (b := 5) (by omega) (by omega)).mp z)), show (decide ((0 : Int32) = 0 ∨ (0 : Int32) = 1)) = true from by decide, gd_t, lt_e, lt_e, mu_n (show ¬ 8 = 7 by omega), hd.2.2.2.2.1, show nI o + (1 : Int32) = nI (o + 1) from nI_1 o]
        rw [show (jx_mu (jx_mu σm 0 7 (0 : Int32)) 0 8 (nI (o + 1))) 0 7 = nI 0 from by rw [mu_n (by omega), mu_s]; rfl, if_pos (show nI 0 = (0 : Int32) from rfl), show (jx_mu (jx_mu σm 0 7 (0 : Int32)) 0 8 (nI (o + 1))) 0 5 = nI i from by rw [mu_n (by omega), mu_n (by omega)]; exact hd.2.1]
        rfl
      rw [e1]
      unfold b_X6_factor_69
      rw [lt_e, show nI i + (1 : Int32) = nI (i + 1) from nI_1 i]
      rcases g2 with z | z
      · obtain ⟨σ1, b1, b2, b3⟩ := t4_o (t := t) (x := 33) (z := 1) hr (by omega) (by omega) (Or.inl ⟨rfl, rfl⟩)
        rw [← z] at b1
        have st := st_y ht g1 b1
        have ht1 := tp_k ht (KE_R b3)
        have pe : PE N a tp σ1 (jx_mu (jx_mu (jx_mu σm 0 7 (nI 0)) 0 8 (nI (o + 1))) 0 5 (nI (i + 1))) 4 (i + 1) c (1 :: P) (o + 1) e := by
          refine ⟨ht1, hm1, b2, m1, by omega, ⟨by omega, fun _ => by omega, ?_⟩, ?_, ?_, by omega, ha⟩
          · rw [if_pos rfl]; exact ps_m P hp (by omega)
          · show c + (P.length + 1) ≤ i + 1; omega
          · show e + (P.length + 1) ≤ i + 1; omega
        rw [z, if_pos (show nI 33 = (33 : Int32) from rfl)]
        rcases hF.2 _ _ _ _ _ _ _ (by omega) pe (by show P.length + 1 ≤ 3 * (o + 1) + 2; omega) with ⟨σm2, j2, w1, w2, w3, w4, w5⟩ | ⟨σm2, w0, j2, σa2, σv2, L2, w1, w2, w3, w4, w5, w6, w7, w8, w9, w10, w11, w12⟩
        · left
          rw [w1, bd_s, em_w w2, bd_s]
          refine ⟨jx_mu σm2 0 8 (σm2 0 8 - 1), j2, rfl, ⟨by rw [mu_n (by omega)]; exact w2.1, by rw [mu_n (by omega)]; exact w2.2⟩, KM_t km (KM_t w3 (KM_0 (by omega)) (Nat.le_refl e)) (Nat.le_refl e), w4, CF_t st (KE_R b3) (by omega) w5⟩
        · right
          have wl : c + L2 + (P.length + 1) ≤ j2 := w10
          have wm : e + L2 + (P.length + 1) ≤ j2 := w11
          obtain ⟨σm3, z1, z2, z3, z4⟩ := em_y w1 ha (show e + L2 < 140 by omega) (-nI 1)
          have pr := pp_r w7
          rw [if_pos rfl] at pr
          have hps2 : ps_ (1 :: P) (o + 1) := ⟨by omega, fun _ => by omega, by rw [if_pos rfl]; exact ps_m P hp (by omega)⟩
          have vp := VR_p (t := t) (j := j2) (tp_k ht1 (KE_R w8)) w7 hps2 (by omega) (by omega) (by omega) (fun y => absurd y (by omega))
          have m8 := MD_8 (o' := o) z2
          have k8 : KM a (e + L2 + 1) σm3 (jx_mu σm3 0 8 (nI o)) := KM_0 (by omega)
          refine ⟨jx_mu σm3 0 8 (nI o), ?_, j2, σa2, pp_ σv2 1 (c + L2) P.length (o + 1), L2 + 1, ?_, KM_t km (KM_t w2 (KM_t z4 k8 (by omega)) (by omega)) (Nat.le_refl e), w3, RN_t st w4, KR_t (KE_R b3) w5, VR_t w6 vp, pr.1, KE_t b3 (KE_t w8 pp_k (by omega)) (Nat.le_refl c), ?_, by omega, by omega, trivial⟩
          · rw [w0, bd_s, show f_X6_emits σm2 (-1 : Int32) = _ from z1, bd_s]
            unfold b_X6_factor_101
            rw [lt_e, z2.2.2.2.2.1, show nI (o + 1) - (1 : Int32) = nI o from nI_pred o]
          · rw [show e + (L2 + 1) = e + L2 + 1 by omega]; exact m8
          · have sg1 : SG (pp_ σv2 1 (c + L2) P.length (o + 1) 64) (fun k => (jx_mu σm3 0 8 (nI o)) 1 (220 + 140 * a + k)) c e L2 (1 + 2 * (5 - (o + 1))) := SG_c w9 (fun k _ k2 => pp_k.2.2 k (by omega)) (fun k _ k2 => by
              show (jx_mu σm3 0 8 (nI o)) 1 (220 + 140 * a + k) = _
              rw [mu_a (show ¬ 1 = 0 by omega)]; exact z4.2.2 _ (by omega) (by omega))
            refine SG_not (SG_D sg1 (by omega) (by omega)) pr.2 ?_
            show (jx_mu σm3 0 8 (nI o)) 1 (220 + 140 * a + (e + L2)) = _
            rw [mu_a (show ¬ 1 = 0 by omega)]; exact z3
      · obtain ⟨σ1, b1, b2, b3⟩ := t4_o (t := t) (x := 40) (z := 4) hr (by omega) (by omega) (Or.inr ⟨rfl, rfl⟩)
        rw [← z] at b1
        have st := st_y ht g1 b1
        have ht1 := tp_k ht (KE_R b3)
        have pe : PE N a tp σ1 (jx_mu (jx_mu (jx_mu σm 0 7 (nI 0)) 0 8 (nI (o + 1))) 0 5 (nI (i + 1))) 4 (i + 1) c (4 :: P) (o + 1) e := by
          refine ⟨ht1, hm1, b2, m1, by omega, ⟨by omega, fun y => absurd y (by omega), ?_⟩, ?_, ?_, by omega, ha⟩
          · rw [if_neg (by omega)]; exact ps_m P hp (by omega)
          · show c + (P.length + 1) ≤ i + 1; omega
          · show e + (P.length + 1) ≤ i + 1; omega
        rw [z, if_neg (show ¬ nI 40 = (33 : Int32) by decide)]
        rcases some_e hF (by omega) pe (by show P.length + 1 ≤ 3 * (o + 1); omega) (Or.inr ⟨4, P, rfl, by omega, by omega⟩) with ⟨σm2, j2, w1, w2, w3, w4, w5⟩ | ⟨σm2, w0, j2, σa2, σv2, L2, w1, w2, w3, w4, w5, w6, w7, w8, w9, w10, w11, w12⟩
        · left
          obtain ⟨σm3, x1, x2, x3⟩ := mu_ww (a := a) (e := e) w2 (41 : Int32)
          rw [w1, bd_s, x1, bd_s]
          refine ⟨jx_mu σm3 0 8 (σm3 0 8 - 1), j2, rfl, ⟨by rw [mu_n (by omega)]; exact x2.1, by rw [mu_n (by omega)]; exact x2.2⟩, KM_t km (KM_t w3 (KM_t x3 (KM_0 (by omega)) (Nat.le_refl e)) (Nat.le_refl e)) (Nat.le_refl e), w4, CF_t st (KE_R b3) (by omega) w5⟩
        · have hm2 := tm_k hm1 w2
          have wl : c + L2 + (P.length + 1) ≤ j2 := w10
          have wm : e + L2 + (P.length + 1) ≤ j2 := w11
          have hta2 := tp_k ht1 w5
          by_cases y : j2 < N ∧ tp j2 = 41
          · right
            obtain ⟨σm3, x1, x2, x3⟩ := mu_y hm2 w1 y.1 y.2
            obtain ⟨σ3, c1, c2, c3⟩ := cl_t (t := t) w7 (by omega)
            have tk : f_X3_takes t σa2 (nI (tp j2)) = some (nI 1, σ3) := by
              rw [(w6.1 y.1).1 (by unfold jt_; omega), y.2]; exact c1
            have st3 := st_y hta2 y.1 tk
            have m8 := MD_8 (o' := o) x2
            have k3 : KE c σ1 σ3 := KE_t w8 c3 (by omega)
            have kr3 : KR σa2 σ3 := KR_t ⟨fun b b0 b1 => (w5.1 b b0 b1).symm, fun i i1 => (w5.2 i i1).symm⟩ (KE_R k3)
            refine ⟨jx_mu σm3 0 8 (nI o), ?_, j2 + 1, σ3, σ3, L2, m8, KM_t km (KM_t w2 (KM_t x3 (KM_0 (by omega)) (Nat.le_refl _)) (by omega)) (Nat.le_refl e), by have := y.1; omega, RN_t st (RN_t w4 st3), KR_t (KE_R b3) (KE_R k3), VR_r c2.1 (tp_k ht1 (KE_R k3)), c2, KE_t b3 k3 (Nat.le_refl c), ?_, by omega, by omega, trivial⟩
            · rw [w0, bd_s, show f_X6_must σm2 (41 : Int32) = _ from x1, bd_s]
              unfold b_X6_factor_101
              rw [lt_e, x2.2.2.2.2.1, show nI (o + 1) - (1 : Int32) = nI o from nI_pred o]
            · refine SG_D (SG_c w9 (fun k _ k2 => c3.2.2 k (by omega)) (fun k _ k2 => ?_)) (by omega) (by omega)
              show (jx_mu σm3 0 8 (nI o)) 1 (220 + 140 * a + k) = _
              rw [mu_a (show ¬ 1 = 0 by omega)]; exact x3.2.2 _ (by omega) (by omega)
          · left
            obtain ⟨σm3, x1, x2, x3⟩ := mu_no (x := 41) hm2 w1 w3 (by omega) y
            have kav : KR σa2 σv2 := KR_t ⟨fun b b0 b1 => (w5.1 b b0 b1).symm, fun i i1 => (w5.2 i i1).symm⟩ (KE_R w8)
            rw [w0, bd_s, show f_X6_must σm2 (41 : Int32) = _ from x1, bd_s]
            refine ⟨jx_mu σm3 0 8 (σm3 0 8 - 1), j2, rfl, ⟨by rw [mu_n (by omega)]; exact x2.1, by rw [mu_n (by omega)]; exact x2.2⟩, KM_t km (KM_t w2 (KM_t x3 (KM_0 (by omega)) (Nat.le_refl _)) (by omega)) (Nat.le_refl e), w3, CF_t st (KE_R b3) (by omega) (CF_t w4 w5 w3 (cl_n hta2 w3 w6 w7 kav (by omega) w12.1 w12.2 y))⟩
  · have n33 : ¬ (i < N ∧ tp i = 33) := fun z => g ⟨z.1, Or.inl z.2⟩
    have n40 : ¬ (i < N ∧ tp i = 40) := fun z => g ⟨z.1, Or.inr z.2⟩
    exact fac_t F h n33 n40 (by omega)
theorem fac_0 (t : jx_T) (N a : Nat) (tp : Nat → Nat) : FPr t N a tp (f_X6_factor 8) 0 := by
  have f2 : FPr t N a tp (f_X6_factor 2) 6 := by
    refine ⟨fun σm j h => ?_, fun σl σm i c P o e hq h _ => ?_⟩
    · show fB_X6_factor (f_X6_factor 1) σm = some σm
      unfold fB_X6_factor
      rw [h.1, if_neg (by decide)]
    · have := h.2.2.2.2.2.2.2.2.1; omega
  have f3 : FPr t N a tp (f_X6_factor 3) 5 := FB f2
  have f4 : FPr t N a tp (f_X6_factor 4) 4 := FB f3
  have f5 : FPr t N a tp (f_X6_factor 5) 3 := FB f4
  have f6 : FPr t N a tp (f_X6_factor 6) 2 := FB f5
  have f7 : FPr t N a tp (f_X6_factor 7) 1 := FB f6
  exact FB f7
