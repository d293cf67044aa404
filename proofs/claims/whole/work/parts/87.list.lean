/-! one clause; clauses, one behind another -/
theorem tk_3 {t : jx_T} {σ : jx_M} {x v : Nat} (h : σ 0 34 = nI 3) (h9 : σ 0 39 = nI v) (hv : v < 100) (hx : x ≤ 127) (h32 : ¬ x = 32) (hs : ¬ (48 ≤ x ∧ x ≤ 57) ∨ v = 0 ∨ 9 < v) : f_X3_takes t σ (nI x) = some (nI 0, σ) := by
  unfold f_X3_takes
  rw [h, if_neg (by decide), if_neg (by decide), if_neg (by decide), if_pos (show nI 3 = (3 : Int32) from rfl), if_neg (show ¬ nI x = (32 : Int32) from fun z => h32 ((nI_eq (b := 32) (by omega) (by omega)).mp z)), sd_n h9 hv hx hs]
  rfl
theorem tb_y {t : jx_T} {σ : jx_M} {c n v : Nat} (h : RD σ 3 c [] 0) (h9 : σ 0 39 = nI v) (h30 : σ 0 30 = nI n) (hn : n < 10) : ∃ σ', f_X3_takes t σ (nI 32) = some (nI 1, σ') ∧ RD σ' 4 c [] 0 ∧ KC n c σ σ' ∧ σ' 0 30 = nI n ∧ σ' 61 n = σ 61 n ∧ σ' 62 n = nI v := by
  obtain ⟨h1, h2, h3, h4, h7⟩ := h
  refine ⟨jx_mu (jx_mu σ 62 n (nI v)) 0 34 (nI 4), ?_, ⟨mu_s, ?_, ?_, trivial, ?_⟩, KC_t (KC_n (by omega)) (KC_0 (by omega)) (Nat.le_refl n) (Nat.le_refl c), ?_, ?_, ?_⟩
  · unfold f_X3_takes f_X3_takesBlank
    rw [h1, if_neg (by decide), if_neg (by decide), if_neg (by decide), if_pos (show nI 3 = (3 : Int32) from rfl), if_pos (show nI 32 = (32 : Int32) from rfl), h30, ev_in hn (by omega), gd_t, nI_clamp (show n < 2 ^ 31 by omega), h9, lt_e, lt_e]
    rfl
  · simp (disch := omega) only [mu_a, mu_n]; exact h2
  · simp (disch := omega) only [mu_a, mu_n]; exact h3
  · simp (disch := omega) only [mu_a, mu_n]; exact h7
  · simp (disch := omega) only [mu_a, mu_n]; exact h30
  · simp (disch := omega) only [mu_a]
  · simp (disch := omega) only [mu_a, mu_s]
/-- with an amount -/
theorem mc_ {t : jx_T} {N a i0 i c e n w : Nat} {tp : Nat → Nat} {σl σm σ1 σ2 : jx_M} {kind : Int32} (ht : tp_ N tp σl) (htm : tm_ N tp σm) (rn : RN t N σl i0 σ1 i) (kc : KC n c σl σ1) (km : KM a e σm σ2) (hr : RD σ1 2 c [] 0) (hd : MD a N σ2 i 0 e) (hi0 : i0 < i) (hi : i ≤ N) (hc : c ≤ i) (he : e ≤ i) (ha : a < 5) (hn : n < 10) (h30 : σ1 0 30 = nI n) (h61 : σ1 61 n = nI w) (hw : w < 4) (hk : ∀ v, v < 100 → kind - nI v = cop_ w v) : OW t N a e σl σm i0 (jx_bd (f_X6_figures σ2) (fun q2 => jx_bd (f_X6_must q2.2 (32 : Int32)) (fun q3 => jx_bd (f_X6_some (f_X6_factor 8) q3) (fun q4 => jx_bd (f_X6_emits q4 (kind - q2.1)) (fun q5 => some q5))))) ∨ ∃ σm', jx_bd (f_X6_figures σ2) (fun q2 => jx_bd (f_X6_must q2.2 (32 : Int32)) (fun q3 => jx_bd (f_X6_some (f_X6_factor 8) q3) (fun q4 => jx_bd (f_X6_emits q4 (kind - q2.1)) (fun q5 => some q5)))) = some σm' ∧ CLR t N a tp e σl σm i0 c n σm' := by
  have hN := ht.1
  have ht1 := tp_k ht (KC_R kc)
  have htm2 := tm_k htm km
  rcases num_e (t := t) (du := 2) (Or.inl rfl) ht1 htm2 hr hd hi with ⟨σ3, n1, n2, n3, n4⟩ | ⟨σ3, v, k, σb, n1, n2, n3, n4, n5, n6, n7, n8, n9, n10, n11, n12, n13⟩
  · left
    obtain ⟨σ4, x1, x2, x3⟩ := mu_ww (a := a) (e := e) n2 (32 : Int32)
    refine ⟨σ4, i, ?_, x2, KM_t km (KM_t n3 x3 (Nat.le_refl e)) (Nat.le_refl e), hi, CF_t rn (KC_R kc) hi n4⟩
    rw [n1, bd_s]
    show jx_bd (f_X6_must σ3 (32 : Int32)) _ = _
    rw [x1, bd_s, some_w (fac_0 t N a tp).1 x2, bd_s, em_w x2, bd_s]
  · have htb := tp_k ht1 (KE_R n8)
    have htm3 := tm_k htm2 n3
    have b30 : σb 0 30 = nI n := by rw [n8.2.1 30 (by omega) (by omega)]; exact h30
    have b61 : σb 61 n = nI w := by rw [n8.1 61 (by omega) (by omega) (by omega)]; exact h61
    by_cases g : i + k < N ∧ tp (i + k) = 32
    · obtain ⟨σ4, x1, x2, x3⟩ := mu_y htm3 n2 g.1 g.2
      obtain ⟨σc, y1, y2, y3, y4, y5, y6⟩ := tb_y (t := t) n9 n12 b30 (by omega)
      have st := st_y htb g.1 (σ' := σc) (by rw [g.2]; exact y1)
      have cc := ce_ (t := t) (i0 := i0) (i := i + k + 1) (w := w) (v := v) ht htm (RN_t rn (RN_t n7 st)) (KC_t kc (KC_t (KE_C n8) y3 (Nat.le_refl n) (Nat.le_refl c)) (Nat.le_refl n) (Nat.le_refl c)) (KM_t km (KM_t n3 x3 (Nat.le_refl e)) (Nat.le_refl e)) y2 x2 (by omega) (by have := g.1; omega) (by omega) (by omega) ha y4 (by rw [y5]; exact b61) y6 hw n4
      rw [n1, bd_s]
      show OW t N a e σl σm i0 (jx_bd (f_X6_must σ3 (32 : Int32)) (fun q3 => jx_bd (f_X6_some (f_X6_factor 8) q3) (fun q4 => jx_bd (f_X6_emits q4 (kind - nI v)) (fun q5 => some q5)))) ∨ _
      rw [show f_X6_must σ3 (32 : Int32) = _ from x1, bd_s, hk v n4]
      rcases cc with z | ⟨σm', z1, z2⟩
      · exact Or.inl z
      · exact Or.inr ⟨σm', z1, z2⟩
    · left
      obtain ⟨σ4, x1, x2, x3⟩ := mu_no (x := 32) htm3 n2 n6 (by omega) g
      refine ⟨σ4, i + k, ?_, x2, KM_t km (KM_t n3 x3 (Nat.le_refl e)) (Nat.le_refl e), n6, CF_t rn (KC_R kc) hi (CF_t n7 (KE_R n8) n6 (cf_i htb n6 n9.1 (by omega) (by omega) (by omega) (fun hj => ⟨σb, ?_, KR_r σb⟩)))⟩
      · rw [n1, bd_s]
        show jx_bd (f_X6_must σ3 (32 : Int32)) _ = _
        rw [show f_X6_must σ3 (32 : Int32) = _ from x1, bd_s, some_w (fac_0 t N a tp).1 x2, bd_s, em_w x2, bd_s]
      · exact tk_3 n9.1 n12 n4 (ht.2 _ hj).2 (fun z => g ⟨hj, z⟩) (n13 hj)
theorem wi_0 : ∀ x, x < 128 → (wi_ x = 0 ↔ x = 115) ∧ (wi_ x = 1 ↔ x = 104) ∧ (wi_ x = 2 ↔ x = 111) ∧ (wi_ x = 3 ↔ x = 119) := by decide
theorem cl_e {t : jx_T} {N a i c e n : Nat} {tp : Nat → Nat} {σl σm : jx_M} (h : PS N a tp σl σm i c e n) : OW t N a e σl σm i (f_X6_clauseHere σm) ∨ ∃ σm', f_X6_clauseHere σm = some σm' ∧ CLR t N a tp e σl σm i c n σm' := by
  obtain ⟨ht, htm, hr, hd, hi, hc, he, ha, h30, hn⟩ := id h
  have hN := ht.1
  have tl := fun k hk => (ht.2 k hk).2
  have hh := here_e htm hd.2.1 hd.2.2.1 hi
  unfold f_X6_clauseHere
  rw [hh, bd_s]
  by_cases g : i < N ∧ wi_ (tp i) < 4
  · have hv : hv_ N tp i = nI (tp i) := if_pos g.1
    have wd := wd_ (t := t) h g.1 g.2
    have bl := wlb _ g.2
    have wz := wi_0 (tp i) (by have := tl i g.1; omega)
    rw [hv]
    have h4 : wi_ (tp i) = 0 ∨ wi_ (tp i) = 1 ∨ wi_ (tp i) = 2 ∨ wi_ (tp i) = 3 := by omega
    rcases h4 with z | z | z | z
    · have ez := wz.1.mp z
      rw [ez, if_neg (show ¬ nI 115 = (104 : Int32) by decide), if_neg (show ¬ nI 115 = (111 : Int32) by decide), if_pos (show nI 115 = (115 : Int32) from rfl)]
      rw [z] at wd bl
      unfold f_X6_plain
      rcases wd with ⟨σm', j, w1, w2, w3, w4, w5⟩ | ⟨σm', σa, w1, w2, w3, w4, w5, w6, w7, w8, w9, w10⟩
      · left
        refine ⟨σm', j, ?_, w2, w3, w4, w5⟩
        rw [show f_X6_spells σm 3 = _ from w1, bd_s, some_w (fac_0 t N a tp).1 w2, bd_s, em_w w2, bd_s, bd_s]
      · have cc := ce_ (t := t) (i0 := i) (w := 0) (v := 0) ht htm w5 w6 w3 w7 w2 (by omega) w4 (by omega) (by omega) ha w8 w9 w10 (by omega) (by omega)
        rw [show f_X6_spells σm 3 = _ from w1, bd_s]
        rcases cc with y | ⟨σ9, y1, y2⟩
        · obtain ⟨σ9, j, x1, x2⟩ := y
          exact Or.inl ⟨σ9, j, by rw [show jx_bd (f_X6_some (f_X6_factor 8) σm') (fun q2 => jx_bd (f_X6_emits q2 (-10 : Int32)) (fun q3 => some q3)) = _ from x1, bd_s], x2⟩
        · exact Or.inr ⟨σ9, by rw [show jx_bd (f_X6_some (f_X6_factor 8) σm') (fun q2 => jx_bd (f_X6_emits q2 (-10 : Int32)) (fun q3 => some q3)) = _ from y1, bd_s], y2⟩
    · have ez := wz.2.1.mp z
      rw [ez, if_pos (show nI 104 = (104 : Int32) from rfl)]
      rw [z] at wd bl
      unfold f_X6_plain
      rcases wd with ⟨σm', j, w1, w2, w3, w4, w5⟩ | ⟨σm', σa, w1, w2, w3, w4, w5, w6, w7, w8, w9, w10⟩
      · left
        refine ⟨σm', j, ?_, w2, w3, w4, w5⟩
        rw [show f_X6_spells σm 4 = _ from w1, bd_s, some_w (fac_0 t N a tp).1 w2, bd_s, em_w w2, bd_s, bd_s]
      · have cc := ce_ (t := t) (i0 := i) (w := 1) (v := 0) ht htm w5 w6 w3 w7 w2 (by omega) w4 (by omega) (by omega) ha w8 w9 w10 (by omega) (by omega)
        rw [show f_X6_spells σm 4 = _ from w1, bd_s]
        rcases cc with y | ⟨σ9, y1, y2⟩
        · obtain ⟨σ9, j, x1, x2⟩ := y
          exact Or.inl ⟨σ9, j, by rw [show jx_bd (f_X6_some (f_X6_factor 8) σm') (fun q2 => jx_bd (f_X6_emits q2 (-20 : Int32)) (fun q3 => some q3)) = _ from x1, bd_s], x2⟩
        · exact Or.inr ⟨σ9, by rw [show jx_bd (f_X6_some (f_X6_factor 8) σm') (fun q2 => jx_bd (f_X6_emits q2 (-20 : Int32)) (fun q3 => some q3)) = _ from y1, bd_s], y2⟩
    · have ez := wz.2.2.1.mp z
      rw [ez, if_neg (show ¬ nI 111 = (104 : Int32) by decide), if_pos (show nI 111 = (111 : Int32) from rfl)]
      rw [z] at wd bl
      unfold f_X6_much
      rcases wd with ⟨σm', j, w1, w2, w3, w4, w5⟩ | ⟨σm', σa, w1, w2, w3, w4, w5, w6, w7, w8, w9, w10⟩
      · left
        obtain ⟨σ3, u1, u2, u3⟩ := fg_w (a := a) (e := e) w2
        obtain ⟨σ4, x1, x2, x3⟩ := mu_ww (a := a) (e := e) u2 (32 : Int32)
        refine ⟨σ4, j, ?_, x2, KM_t w3 (KM_t u3 x3 (Nat.le_refl e)) (Nat.le_refl e), w4, w5⟩
        rw [show f_X6_spells σm 5 = _ from w1, bd_s, u1, bd_s]
        show jx_bd (jx_bd (f_X6_must σ3 (32 : Int32)) _) _ = _
        rw [x1, bd_s, some_w (fac_0 t N a tp).1 x2, bd_s, em_w x2, bd_s, bd_s]
      · have cc := mc_ (t := t) (i0 := i) (w := 2) (kind := -200) ht htm w5 w6 w3 w7 w2 (by omega) w4 (by omega) (by omega) ha hn w8 w9 (by omega) (fun v _ => rfl)
        rw [show f_X6_spells σm 5 = _ from w1, bd_s]
        rcases cc with y | ⟨σ9, y1, y2⟩
        · obtain ⟨σ9, j, x1, x2⟩ := y
          exact Or.inl ⟨σ9, j, by rw [x1, bd_s], x2⟩
        · exact Or.inr ⟨σ9, by rw [y1, bd_s], y2⟩
    · have ez := wz.2.2.2.mp z
      rw [ez, if_neg (show ¬ nI 119 = (104 : Int32) by decide), if_neg (show ¬ nI 119 = (111 : Int32) by decide), if_neg (show ¬ nI 119 = (115 : Int32) by decide), if_pos (show nI 119 = (119 : Int32) from rfl)]
      rw [z] at wd bl
      unfold f_X6_much
      rcases wd with ⟨σm', j, w1, w2, w3, w4, w5⟩ | ⟨σm', σa, w1, w2, w3, w4, w5, w6, w7, w8, w9, w10⟩
      · left
        obtain ⟨σ3, u1, u2, u3⟩ := fg_w (a := a) (e := e) w2
        obtain ⟨σ4, x1, x2, x3⟩ := mu_ww (a := a) (e := e) u2 (32 : Int32)
        refine ⟨σ4, j, ?_, x2, KM_t w3 (KM_t u3 x3 (Nat.le_refl e)) (Nat.le_refl e), w4, w5⟩
        rw [show f_X6_spells σm 6 = _ from w1, bd_s, u1, bd_s]
        show jx_bd (jx_bd (f_X6_must σ3 (32 : Int32)) _) _ = _
        rw [x1, bd_s, some_w (fac_0 t N a tp).1 x2, bd_s, em_w x2, bd_s, bd_s]
      · have cc := mc_ (t := t) (i0 := i) (w := 3) (kind := -400) ht htm w5 w6 w3 w7 w2 (by omega) w4 (by omega) (by omega) ha hn w8 w9 (by omega) (fun v _ => rfl)
        rw [show f_X6_spells σm 6 = _ from w1, bd_s]
        rcases cc with y | ⟨σ9, y1, y2⟩
        · obtain ⟨σ9, j, x1, x2⟩ := y
          exact Or.inl ⟨σ9, j, by rw [x1, bd_s], x2⟩
        · exact Or.inr ⟨σ9, by rw [y1, bd_s], y2⟩
  · left
    have nw : ∀ x, wi_ x < 4 → x < 2 ^ 31 → ¬ hv_ N tp i = nI x := fun x hx h31 z => by
      have y := (hv_i (fun k hk => (htm.2 k hk).2) h31).mp z
      exact g ⟨y.1, by rw [y.2]; exact hx⟩
    rw [if_neg (show ¬ hv_ N tp i = (104 : Int32) from nw 104 (by decide) (by omega)), if_neg (show ¬ hv_ N tp i = (111 : Int32) from nw 111 (by decide) (by omega)), if_neg (show ¬ hv_ N tp i = (115 : Int32) from nw 115 (by decide) (by omega)), if_neg (show ¬ hv_ N tp i = (119 : Int32) from nw 119 (by decide) (by omega)), lt_e]
    refine ⟨_, i, rfl, MW_7 hd, KM_0 (by omega), hi, cf_i ht hi hr.1 (by omega) (by omega) (by omega) (fun hj => ⟨σl, ?_, KR_r σl⟩)⟩
    rw [tk_0 hr.1, tw_e (tl i hj), if_neg (fun z => g ⟨hj, z⟩)]
    rfl
/-- what was read: n clauses, c codes -/
def CLS (W A E CD sd : Nat → Int32) : Nat → Nat → Prop
  | 0, c => c = 0
  | n + 1, c => ∃ c0 w v L, CLS W A E CD sd n c0 ∧ c = c0 + L ∧ w < 4 ∧ v < 100 ∧ W n = nI w ∧ A n = nI v ∧ E n = nI c ∧ SG CD sd c0 (c0 + n) L 13 ∧ sd (c0 + L + n) = cop_ w v
theorem CLS_c {W A E CD sd W' A' E' CD' sd' : Nat → Int32} : ∀ (n c : Nat), CLS W A E CD sd n c → (∀ k, k < n → W' k = W k ∧ A' k = A k ∧ E' k = E k) → (∀ k, k < c → CD' k = CD k) → (∀ k, k < c + n → sd' k = sd k) → CLS W' A' E' CD' sd' n c
  | 0, _, h, _, _, _ => h
  | n + 1, c, ⟨c0, w, v, L, h1, h2, h3, h4, h5, h6, h7, h8, h9⟩, g1, g2, g3 => by
    obtain ⟨a1, a2, a3⟩ := g1 n (by omega)
    exact ⟨c0, w, v, L, CLS_c n c0 h1 (fun k hk => g1 k (by omega)) (fun k hk => g2 k (by omega)) (fun k hk => g3 k (by omega)), h2, h3, h4, a1.trans h5, a2.trans h6, a3.trans h7, SG_c h8 (fun k _ k2 => g2 k (by omega)) (fun k _ k2 => g3 k (by omega)), (g3 _ (by omega)).trans h9⟩
/-- a clause's end -/
theorem ec_y {t : jx_T} {σ : jx_M} {du c n : Nat} (h : RD σ du c [] 0) (h30 : σ 0 30 = nI n) (hn : n < 10) : f_X3_endsClause t σ = some (nI 1, jx_mu (jx_mu σ 63 n (nI c)) 0 30 (nI (n + 1))) := by
  have w := wp_0 (t := t) (y := -3) h (by show 0 ≤ 17; omega) (Or.inl rfl)
  have h3' : σ 0 32 = nI 0 := h.2.2.1
  unfold f_X3_endsClause
  rw [w, bd_s, h3', if_neg (show ¬ (0 : Int32) < nI 0 by decide), h30, if_pos (show nI n < (10 : Int32) from nI_lt (b := 10) hn (by omega)), ev_in hn (by omega), gd_t, nI_clamp (show n < 2 ^ 31 by omega), h.2.1, lt_e, mu_a (show ¬ 0 = 63 by omega), h30, lt_e, show nI n + (1 : Int32) = nI (n + 1) from nI_1 n]
  rfl
