/-! the image: copies -/
theorem dX1_copyRow_0 : decode cX1_copyRow 0 = .ok (.aload_n 0, 1) := by decide +kernel
theorem dX1_copyRow_1 : decode cX1_copyRow 1 = .ok (.iconst 0, 1) := by decide +kernel
theorem dX1_copyRow_2 : decode cX1_copyRow 2 = .ok (.aload_n 1, 1) := by decide +kernel
theorem dX1_copyRow_3 : decode cX1_copyRow 3 = .ok (.iconst 0, 1) := by decide +kernel
theorem dX1_copyRow_4 : decode cX1_copyRow 4 = .ok (.aload_n 0, 1) := by decide +kernel
theorem dX1_copyRow_5 : decode cX1_copyRow 5 = .ok (.arraylength, 1) := by decide +kernel
theorem dX1_copyRow_6 : decode cX1_copyRow 6 = .ok (.aload_n 1, 1) := by decide +kernel
theorem dX1_copyRow_7 : decode cX1_copyRow 7 = .ok (.arraylength, 1) := by decide +kernel
theorem dX1_copyRow_8 : decode cX1_copyRow 8 = .ok (.invokestatic 82, 3) := by decide +kernel
theorem dX1_copyRow_11 : decode cX1_copyRow 11 = .ok (.invokestatic 88, 3) := by decide +kernel
theorem dX1_copyRow_14 : decode cX1_copyRow 14 = .ok (.return_, 1) := by decide +kernel
abbrev rm_X1_copyRow : Room := { frames := 1, cells := 0, slots := 0, locals := 71 }
abbrev jJ_X1_copyRow (l : Launch) (G : jx_G) (t : jx_T) (sz : Nat) (out : jx_M) (pc : Nat) (lv : List (Nat × Value)) (st : List Value) (σ : jx_M) : Prop := jx_J l (ll_env G t) (ll_dyn G t) (ll_rg G) sz RX1 "copyRow" cX1_copyRow 2 none rm_X1_copyRow (fun below args s => MQ below (jx_Qv (ll_dyn G t) out (jx_A (ll_rg G) sz)) args s 0 0 (jx_A (ll_rg G) sz)) 0 0 pc lv st σ
def f_X1_copyRow (t : jx_T) (σ : jx_M) (a0 : Nat) (a1 : Nat) : Option jx_M :=
  jx_gd (decide (1 ≤ a0 ∧ a0 ≤ 65)) (jx_gd (decide (1 ≤ a1 ∧ a1 ≤ 65)) (jx_gd (decide (1 ≤ a0 ∧ a0 ≤ 65)) (jx_gd (decide (1 ≤ a1 ∧ a1 ≤ 65)) (jx_gd (decide (¬ (if (Int32.ofNat (ll_len a1)) < (Int32.ofNat (ll_len a0)) then (Int32.ofNat (ll_len a1)) else (Int32.ofNat (ll_len a0))) < 0 ∧ (if (Int32.ofNat (ll_len a1)) < (Int32.ofNat (ll_len a0)) then (Int32.ofNat (ll_len a1)) else (Int32.ofNat (ll_len a0))).toNatClampNeg ≤ ll_len a0 ∧ (if (Int32.ofNat (ll_len a1)) < (Int32.ofNat (ll_len a0)) then (Int32.ofNat (ll_len a1)) else (Int32.ofNat (ll_len a0))).toNatClampNeg ≤ ll_len a1)) (jx_lt (jx_cp σ a0 a1 (if (Int32.ofNat (ll_len a1)) < (Int32.ofNat (ll_len a0)) then (Int32.ofNat (ll_len a1)) else (Int32.ofNat (ll_len a0))).toNatClampNeg) (fun σ6 => some σ6))))))
set_option maxHeartbeats 4000000 in
set_option maxRecDepth 100000 in
theorem k_X1_copyRow (l : Launch) (G : jx_G) (t : jx_T) (hG : ll_ok G) (sz : Nat) (σ : jx_M) (a0 : Nat) (a1 : Nat) (out : jx_M) (h : f_X1_copyRow t σ a0 a1 = some out) : Met l yX1_copyRow (Cond.code yX1_copyRow cX1_copyRow 2 none :: jx_ws) rm_X1_copyRow (jx_Pc (ll_env G t) (ll_dyn G t) (ll_rg G) sz σ [.ref (G.2 (100 + a0)), .ref (G.2 (100 + a1))]) (jx_Qv (ll_dyn G t) out (jx_A (ll_rg G) sz)) 0 0 (jx_A (ll_rg G) sz) := by
  unfold f_X1_copyRow at h
  refine jx_met (by decide) (Nat.le_of_ble_eq_true rfl) ?_
  refine jx_sub (lv' := [(0, .ref (G.2 (100 + a0))), (1, .ref (G.2 (100 + a1)))]) [0, 1] rfl ?_
  refine jx_aload_n (pc := 0) (k0 := 0) rfl dX1_copyRow_0 ?_
  refine jx_iconst (pc := 1) (v := (0 : Int32)) (by decide) dX1_copyRow_1 ?_
  refine jx_aload_n (pc := 2) (k0 := 1) rfl dX1_copyRow_2 ?_
  refine jx_iconst (pc := 3) (v := (0 : Int32)) (by decide) dX1_copyRow_3 ?_
  refine jx_aload_n (pc := 4) (k0 := 0) rfl dX1_copyRow_4 ?_
  obtain ⟨g1, h⟩ := jx_gd_o h
  refine ll_len1 (pc := 5) (k := a0) (of_decide_eq_true g1).1 (of_decide_eq_true g1).2 rfl dX1_copyRow_5 ?_
  refine jx_aload_n (pc := 6) (k0 := 1) rfl dX1_copyRow_6 ?_
  obtain ⟨g2, h⟩ := jx_gd_o h
  refine ll_len1 (pc := 7) (k := a1) (of_decide_eq_true g2).1 (of_decide_eq_true g2).2 rfl dX1_copyRow_7 ?_
  refine jx_mmin (pc := 8) km_X1_82.1 km_X1_82.2.1 km_X1_82.2.2.1 km_X1_82.2.2.2 (Nat.le_of_ble_eq_true rfl) (Nat.le_of_ble_eq_true rfl) (Nat.zero_le _) (Nat.zero_le _) dX1_copyRow_8 ?_
  obtain ⟨g3, h⟩ := jx_gd_o h
  obtain ⟨g4, h⟩ := jx_gd_o h
  obtain ⟨g5, h⟩ := jx_gd_o h
  obtain ⟨σ6, eσ6, h⟩ := jx_lt_o h
  refine ll_acopy (pc := 11) (a := a0) (b := a1) hG (jx_t4 (List.mem_of_getElem? (i := 125) rfl) rfl) (of_decide_eq_true g3) (of_decide_eq_true g4) (of_decide_eq_true g5) eσ6 (Nat.le_of_ble_eq_true rfl) (Nat.le_of_ble_eq_true rfl) dX1_copyRow_11 ?_
  have h := Option.some.inj h
  subst h
  exact jx_vret (pc := 14) dX1_copyRow_14
theorem dX1_copyRows_0 : decode cX1_copyRows 0 = .ok (.iconst 0, 1) := by decide +kernel
theorem dX1_copyRows_1 : decode cX1_copyRows 1 = .ok (.istore_n 2, 1) := by decide +kernel
theorem dX1_copyRows_2 : decode cX1_copyRows 2 = .ok (.iload_n 2, 1) := by decide +kernel
theorem dX1_copyRows_3 : decode cX1_copyRows 3 = .ok (.aload_n 0, 1) := by decide +kernel
theorem dX1_copyRows_4 : decode cX1_copyRows 4 = .ok (.arraylength, 1) := by decide +kernel
theorem dX1_copyRows_5 : decode cX1_copyRows 5 = .ok (.if_icmp .ge 24, 3) := by decide +kernel
theorem dX1_copyRows_8 : decode cX1_copyRows 8 = .ok (.iload_n 2, 1) := by decide +kernel
theorem dX1_copyRows_9 : decode cX1_copyRows 9 = .ok (.aload_n 1, 1) := by decide +kernel
theorem dX1_copyRows_10 : decode cX1_copyRows 10 = .ok (.arraylength, 1) := by decide +kernel
theorem dX1_copyRows_11 : decode cX1_copyRows 11 = .ok (.if_icmp .ge 18, 3) := by decide +kernel
theorem dX1_copyRows_14 : decode cX1_copyRows 14 = .ok (.aload_n 0, 1) := by decide +kernel
theorem dX1_copyRows_15 : decode cX1_copyRows 15 = .ok (.iload_n 2, 1) := by decide +kernel
theorem dX1_copyRows_16 : decode cX1_copyRows 16 = .ok (.aaload, 1) := by decide +kernel
theorem dX1_copyRows_17 : decode cX1_copyRows 17 = .ok (.aload_n 1, 1) := by decide +kernel
theorem dX1_copyRows_18 : decode cX1_copyRows 18 = .ok (.iload_n 2, 1) := by decide +kernel
theorem dX1_copyRows_19 : decode cX1_copyRows 19 = .ok (.aaload, 1) := by decide +kernel
theorem dX1_copyRows_20 : decode cX1_copyRows 20 = .ok (.invokestatic 78, 3) := by decide +kernel
theorem dX1_copyRows_23 : decode cX1_copyRows 23 = .ok (.iinc 2 1, 3) := by decide +kernel
theorem dX1_copyRows_26 : decode cX1_copyRows 26 = .ok (.goto (-24), 3) := by decide +kernel
theorem dX1_copyRows_29 : decode cX1_copyRows 29 = .ok (.return_, 1) := by decide +kernel
abbrev rm_X1_copyRows_Iplace : Room := { frames := 2, cells := 0, slots := 0, locals := 92 }
abbrev jJ_X1_copyRows_Iplace (l : Launch) (G : jx_G) (t : jx_T) (sz : Nat) (out : jx_M) (pc : Nat) (lv : List (Nat × Value)) (st : List Value) (σ : jx_M) : Prop := jx_J l (ll_env G t) (ll_dyn G t) (ll_rg G) sz RX1 "copyRows" cX1_copyRows 3 none rm_X1_copyRows_Iplace (fun below args s => MQ below (jx_Qv (ll_dyn G t) out (jx_A (ll_rg G) sz)) args s 0 0 (jx_A (ll_rg G) sz)) 0 0 pc lv st σ
def g_X1_copyRows_Iplace_2 (t : jx_T) (k2 : jx_M → Int32 → Option jx_M) (σ : jx_M) (v2 : Int32) : Option jx_M :=
  if (7 : Int32) ≤ v2 then some σ else if (7 : Int32) ≤ v2 then some σ else jx_gd (jx_in v2 7) (jx_gd (jx_in v2 7) (jx_bd (f_X1_copyRow t σ (1 + v2.toNatClampNeg) (21 + v2.toNatClampNeg)) (fun q5 => jx_lt (v2 + (1 : Int32)) (fun x6 => (k2 q5 x6)))))
set_option maxHeartbeats 4000000 in
set_option maxRecDepth 100000 in
theorem jg_X1_copyRows_Iplace_2 (l : Launch) (G : jx_G) (t : jx_T) (hG : ll_ok G) (sz : Nat) (out : jx_M) (k2 : jx_M → Int32 → Option jx_M) (h2 : ∀ (σ : jx_M) (v2 : Int32), k2 σ v2 = some out → jJ_X1_copyRows_Iplace l G t sz out 2 [(0, .ref (G.2 301)), (1, .ref (G.2 303)), (2, .int v2)] [] σ) (σ : jx_M) (v2 : Int32) (h : g_X1_copyRows_Iplace_2 t k2 σ v2 = some out) : jJ_X1_copyRows_Iplace l G t sz out 2 [(0, .ref (G.2 301)), (1, .ref (G.2 303)), (2, .int v2)] [] σ := by
  unfold g_X1_copyRows_Iplace_2 at h
  refine jx_iload_n (pc := 2) (k0 := 2) rfl dX1_copyRows_2 ?_
  refine jx_aload_n (pc := 3) (k0 := 0) rfl dX1_copyRows_3 ?_
  refine ll_n_now_place (pc := 4) dX1_copyRows_4 ?_
  refine jx_icmp_ge (pc := 5) (tgt := 29) dX1_copyRows_5 (by decide) (fun c1 => ?_) (fun c1 => ?_)
  · have h := jx_t c1 h
    have h := Option.some.inj h
    subst h
    exact jx_vret (pc := 29) dX1_copyRows_29
  · have h := jx_f c1 h
    refine jx_iload_n (pc := 8) (k0 := 2) rfl dX1_copyRows_8 ?_
    refine jx_aload_n (pc := 9) (k0 := 1) rfl dX1_copyRows_9 ?_
    refine ll_n_image_place (pc := 10) dX1_copyRows_10 ?_
    refine jx_icmp_ge (pc := 11) (tgt := 29) dX1_copyRows_11 (by decide) (fun c2 => ?_) (fun c2 => ?_)
    · have h := jx_t c2 h
      have h := Option.some.inj h
      subst h
      exact jx_vret (pc := 29) dX1_copyRows_29
    · have h := jx_f c2 h
      refine jx_aload_n (pc := 14) (k0 := 0) rfl dX1_copyRows_14 ?_
      refine jx_iload_n (pc := 15) (k0 := 2) rfl dX1_copyRows_15 ?_
      obtain ⟨g3, h⟩ := jx_gd_o h
      refine ll_a_now_place (pc := 16) (jx_in_o g3) dX1_copyRows_16 ?_
      refine jx_aload_n (pc := 17) (k0 := 1) rfl dX1_copyRows_17 ?_
      refine jx_iload_n (pc := 18) (k0 := 2) rfl dX1_copyRows_18 ?_
      obtain ⟨g4, h⟩ := jx_gd_o h
      refine ll_a_image_place (pc := 19) (jx_in_o g4) dX1_copyRows_19 ?_
      obtain ⟨q5, eq5, h⟩ := jx_bd_o h
      refine jx_callSv (pc := 20) [.ref (G.2 (100 + (1 + v2.toNatClampNeg))), .ref (G.2 (100 + (21 + v2.toNatClampNeg)))] (fun sz' => k_X1_copyRow l G t hG sz' σ (1 + v2.toNatClampNeg) (21 + v2.toNatClampNeg) q5 eq5) ks_X1_78 ll_jok rfl rfl (Nat.le_of_ble_eq_true rfl) ⟨⟨rfl, rfl⟩, ⟨Nat.le_of_ble_eq_true rfl, Nat.le_of_ble_eq_true rfl⟩, Nat.zero_le _, Nat.zero_le _⟩ dX1_copyRows_20 ?_
      obtain ⟨x6, ex6, h⟩ := jx_lt_o h
      refine jx_iinc (pc := 23) (i := 2) (v := v2) rfl ex6 (n := 1) (by decide) (by decide) (lv' := [(2, .int x6), (0, .ref (G.2 301)), (1, .ref (G.2 303))]) rfl dX1_copyRows_23 ?_
      refine jx_goto (pc := 26) (tgt := 2) dX1_copyRows_26 (by decide) ?_
      exact jx_sub [1, 2, 0] rfl (h2 q5 x6 h)
def b_X1_copyRows_Iplace_2 (t : jx_T)  : Nat → jx_M → Int32 → Option jx_M
  | 0, _, _ => none
  | n + 1, σ, v2 => g_X1_copyRows_Iplace_2 t (b_X1_copyRows_Iplace_2 t n) σ v2
theorem jb_X1_copyRows_Iplace_2 (l : Launch) (G : jx_G) (t : jx_T) (hG : ll_ok G) (sz : Nat) (out : jx_M)  : ∀ (n : Nat) (σ : jx_M) (v2 : Int32), b_X1_copyRows_Iplace_2 t n σ v2 = some out → jJ_X1_copyRows_Iplace l G t sz out 2 [(0, .ref (G.2 301)), (1, .ref (G.2 303)), (2, .int v2)] [] σ := by
  intro n
  induction n with
  | zero =>
    intro σ v2 h
    cases h
  | succ n ih =>
    intro σ v2 h
    exact jg_X1_copyRows_Iplace_2 l G t hG sz out (b_X1_copyRows_Iplace_2 t n) ih σ v2 h
def f_X1_copyRows_Iplace (t : jx_T) (σ : jx_M)  : Option jx_M :=
  (b_X1_copyRows_Iplace_2 t jx_fuel σ (0 : Int32))
set_option maxHeartbeats 4000000 in
set_option maxRecDepth 100000 in
theorem k_X1_copyRows_Iplace (l : Launch) (G : jx_G) (t : jx_T) (hG : ll_ok G) (sz : Nat) (σ : jx_M)  (out : jx_M) (h : f_X1_copyRows_Iplace t σ = some out) : Met l yX1_copyRows (Cond.code yX1_copyRows cX1_copyRows 3 none :: jx_ws) rm_X1_copyRows_Iplace (jx_Pc (ll_env G t) (ll_dyn G t) (ll_rg G) sz σ [.ref (G.2 301), .ref (G.2 303)]) (jx_Qv (ll_dyn G t) out (jx_A (ll_rg G) sz)) 0 0 (jx_A (ll_rg G) sz) := by
  unfold f_X1_copyRows_Iplace at h
  refine jx_met (by decide) (Nat.le_of_ble_eq_true rfl) ?_
  refine jx_sub (lv' := [(0, .ref (G.2 301)), (1, .ref (G.2 303))]) [0, 1] rfl ?_
  refine jx_iconst (pc := 0) (v := (0 : Int32)) (by decide) dX1_copyRows_0 ?_
  refine jx_istore_n (pc := 1) (i := 2) rfl rfl (by decide) (lv' := [(2, .int (0 : Int32)), (0, .ref (G.2 301)), (1, .ref (G.2 303))]) rfl dX1_copyRows_1 ?_
  exact jx_sub [1, 2, 0] rfl (jb_X1_copyRows_Iplace_2 l G t hG sz out jx_fuel σ (0 : Int32) h)
abbrev rm_X1_copyRows_Ivoter : Room := { frames := 2, cells := 0, slots := 0, locals := 92 }
abbrev jJ_X1_copyRows_Ivoter (l : Launch) (G : jx_G) (t : jx_T) (sz : Nat) (out : jx_M) (pc : Nat) (lv : List (Nat × Value)) (st : List Value) (σ : jx_M) : Prop := jx_J l (ll_env G t) (ll_dyn G t) (ll_rg G) sz RX1 "copyRows" cX1_copyRows 3 none rm_X1_copyRows_Ivoter (fun below args s => MQ below (jx_Qv (ll_dyn G t) out (jx_A (ll_rg G) sz)) args s 0 0 (jx_A (ll_rg G) sz)) 0 0 pc lv st σ
def g_X1_copyRows_Ivoter_2 (t : jx_T) (k2 : jx_M → Int32 → Option jx_M) (σ : jx_M) (v2 : Int32) : Option jx_M :=
  if (6 : Int32) ≤ v2 then some σ else if (6 : Int32) ≤ v2 then some σ else jx_gd (jx_in v2 6) (jx_gd (jx_in v2 6) (jx_bd (f_X1_copyRow t σ (8 + v2.toNatClampNeg) (28 + v2.toNatClampNeg)) (fun q5 => jx_lt (v2 + (1 : Int32)) (fun x6 => (k2 q5 x6)))))
set_option maxHeartbeats 4000000 in
set_option maxRecDepth 100000 in
theorem jg_X1_copyRows_Ivoter_2 (l : Launch) (G : jx_G) (t : jx_T) (hG : ll_ok G) (sz : Nat) (out : jx_M) (k2 : jx_M → Int32 → Option jx_M) (h2 : ∀ (σ : jx_M) (v2 : Int32), k2 σ v2 = some out → jJ_X1_copyRows_Ivoter l G t sz out 2 [(0, .ref (G.2 302)), (1, .ref (G.2 304)), (2, .int v2)] [] σ) (σ : jx_M) (v2 : Int32) (h : g_X1_copyRows_Ivoter_2 t k2 σ v2 = some out) : jJ_X1_copyRows_Ivoter l G t sz out 2 [(0, .ref (G.2 302)), (1, .ref (G.2 304)), (2, .int v2)] [] σ := by
  unfold g_X1_copyRows_Ivoter_2 at h
  refine jx_iload_n (pc := 2) (k0 := 2) rfl dX1_copyRows_2 ?_
  refine jx_aload_n (pc := 3) (k0 := 0) rfl dX1_copyRows_3 ?_
  refine ll_n_now_voter (pc := 4) dX1_copyRows_4 ?_
  refine jx_icmp_ge (pc := 5) (tgt := 29) dX1_copyRows_5 (by decide) (fun c1 => ?_) (fun c1 => ?_)
  · have h := jx_t c1 h
    have h := Option.some.inj h
    subst h
    exact jx_vret (pc := 29) dX1_copyRows_29
  · have h := jx_f c1 h
    refine jx_iload_n (pc := 8) (k0 := 2) rfl dX1_copyRows_8 ?_
    refine jx_aload_n (pc := 9) (k0 := 1) rfl dX1_copyRows_9 ?_
    refine ll_n_image_voter (pc := 10) dX1_copyRows_10 ?_
    refine jx_icmp_ge (pc := 11) (tgt := 29) dX1_copyRows_11 (by decide) (fun c2 => ?_) (fun c2 => ?_)
    · have h := jx_t c2 h
      have h := Option.some.inj h
      subst h
      exact jx_vret (pc := 29) dX1_copyRows_29
    · have h := jx_f c2 h
      refine jx_aload_n (pc := 14) (k0 := 0) rfl dX1_copyRows_14 ?_
      refine jx_iload_n (pc := 15) (k0 := 2) rfl dX1_copyRows_15 ?_
      obtain ⟨g3, h⟩ := jx_gd_o h
      refine ll_a_now_voter (pc := 16) (jx_in_o g3) dX1_copyRows_16 ?_
      refine jx_aload_n (pc := 17) (k0 := 1) rfl dX1_copyRows_17 ?_
      refine jx_iload_n (pc := 18) (k0 := 2) rfl dX1_copyRows_18 ?_
      obtain ⟨g4, h⟩ := jx_gd_o h
      refine ll_a_image_voter (pc := 19) (jx_in_o g4) dX1_copyRows_19 ?_
      obtain ⟨q5, eq5, h⟩ := jx_bd_o h
      refine jx_callSv (pc := 20) [.ref (G.2 (100 + (8 + v2.toNatClampNeg))), .ref (G.2 (100 + (28 + v2.toNatClampNeg)))] (fun sz' => k_X1_copyRow l G t hG sz' σ (8 + v2.toNatClampNeg) (28 + v2.toNatClampNeg) q5 eq5) ks_X1_78 ll_jok rfl rfl (Nat.le_of_ble_eq_true rfl) ⟨⟨rfl, rfl⟩, ⟨Nat.le_of_ble_eq_true rfl, Nat.le_of_ble_eq_true rfl⟩, Nat.zero_le _, Nat.zero_le _⟩ dX1_copyRows_20 ?_
      obtain ⟨x6, ex6, h⟩ := jx_lt_o h
      refine jx_iinc (pc := 23) (i := 2) (v := v2) rfl ex6 (n := 1) (by decide) (by decide) (lv' := [(2, .int x6), (0, .ref (G.2 302)), (1, .ref (G.2 304))]) rfl dX1_copyRows_23 ?_
      refine jx_goto (pc := 26) (tgt := 2) dX1_copyRows_26 (by decide) ?_
      exact jx_sub [1, 2, 0] rfl (h2 q5 x6 h)
def b_X1_copyRows_Ivoter_2 (t : jx_T)  : Nat → jx_M → Int32 → Option jx_M
  | 0, _, _ => none
  | n + 1, σ, v2 => g_X1_copyRows_Ivoter_2 t (b_X1_copyRows_Ivoter_2 t n) σ v2
theorem jb_X1_copyRows_Ivoter_2 (l : Launch) (G : jx_G) (t : jx_T) (hG : ll_ok G) (sz : Nat) (out : jx_M)  : ∀ (n : Nat) (σ : jx_M) (v2 : Int32), b_X1_copyRows_Ivoter_2 t n σ v2 = some out → jJ_X1_copyRows_Ivoter l G t sz out 2 [(0, .ref (G.2 302)), (1, .ref (G.2 304)), (2, .int v2)] [] σ := by
  intro n
  induction n with
  | zero =>
    intro σ v2 h
    cases h
  | succ n ih =>
    intro σ v2 h
    exact jg_X1_copyRows_Ivoter_2 l G t hG sz out (b_X1_copyRows_Ivoter_2 t n) ih σ v2 h
def f_X1_copyRows_Ivoter (t : jx_T) (σ : jx_M)  : Option jx_M :=
  (b_X1_copyRows_Ivoter_2 t jx_fuel σ (0 : Int32))
set_option maxHeartbeats 4000000 in
set_option maxRecDepth 100000 in
theorem k_X1_copyRows_Ivoter (l : Launch) (G : jx_G) (t : jx_T) (hG : ll_ok G) (sz : Nat) (σ : jx_M)  (out : jx_M) (h : f_X1_copyRows_Ivoter t σ = some out) : Met l yX1_copyRows (Cond.code yX1_copyRows cX1_copyRows 3 none :: jx_ws) rm_X1_copyRows_Ivoter (jx_Pc (ll_env G t) (ll_dyn G t) (ll_rg G) sz σ [.ref (G.2 302), .ref (G.2 304)]) (jx_Qv (ll_dyn G t) out (jx_A (ll_rg G) sz)) 0 0 (jx_A (ll_rg G) sz) := by
  unfold f_X1_copyRows_Ivoter at h
  refine jx_met (by decide) (Nat.le_of_ble_eq_true rfl) ?_
  refine jx_sub (lv' := [(0, .ref (G.2 302)), (1, .ref (G.2 304))]) [0, 1] rfl ?_
  refine jx_iconst (pc := 0) (v := (0 : Int32)) (by decide) dX1_copyRows_0 ?_
  refine jx_istore_n (pc := 1) (i := 2) rfl rfl (by decide) (lv' := [(2, .int (0 : Int32)), (0, .ref (G.2 302)), (1, .ref (G.2 304))]) rfl dX1_copyRows_1 ?_
  exact jx_sub [1, 2, 0] rfl (jb_X1_copyRows_Ivoter_2 l G t hG sz out jx_fuel σ (0 : Int32) h)
theorem dX1_copy_0 : decode cX1_copy 0 = .ok (.aload_n 0, 1) := by decide +kernel
theorem dX1_copy_1 : decode cX1_copy 1 = .ok (.aload_n 1, 1) := by decide +kernel
theorem dX1_copy_2 : decode cX1_copy 2 = .ok (.getfield 71, 3) := by decide +kernel
theorem dX1_copy_5 : decode cX1_copy 5 = .ok (.putfield 71, 3) := by decide +kernel
theorem dX1_copy_8 : decode cX1_copy 8 = .ok (.aload_n 0, 1) := by decide +kernel
theorem dX1_copy_9 : decode cX1_copy 9 = .ok (.aload_n 1, 1) := by decide +kernel
theorem dX1_copy_10 : decode cX1_copy 10 = .ok (.getfield 16, 3) := by decide +kernel
theorem dX1_copy_13 : decode cX1_copy 13 = .ok (.putfield 16, 3) := by decide +kernel
theorem dX1_copy_16 : decode cX1_copy 16 = .ok (.aload_n 0, 1) := by decide +kernel
theorem dX1_copy_17 : decode cX1_copy 17 = .ok (.aload_n 1, 1) := by decide +kernel
theorem dX1_copy_18 : decode cX1_copy 18 = .ok (.getfield 20, 3) := by decide +kernel
theorem dX1_copy_21 : decode cX1_copy 21 = .ok (.putfield 20, 3) := by decide +kernel
theorem dX1_copy_24 : decode cX1_copy 24 = .ok (.aload_n 0, 1) := by decide +kernel
theorem dX1_copy_25 : decode cX1_copy 25 = .ok (.aload_n 1, 1) := by decide +kernel
theorem dX1_copy_26 : decode cX1_copy 26 = .ok (.getfield 26, 3) := by decide +kernel
theorem dX1_copy_29 : decode cX1_copy 29 = .ok (.putfield 26, 3) := by decide +kernel
theorem dX1_copy_32 : decode cX1_copy 32 = .ok (.aload_n 0, 1) := by decide +kernel
theorem dX1_copy_33 : decode cX1_copy 33 = .ok (.aload_n 1, 1) := by decide +kernel
theorem dX1_copy_34 : decode cX1_copy 34 = .ok (.getfield 33, 3) := by decide +kernel
theorem dX1_copy_37 : decode cX1_copy 37 = .ok (.putfield 33, 3) := by decide +kernel
theorem dX1_copy_40 : decode cX1_copy 40 = .ok (.aload_n 0, 1) := by decide +kernel
theorem dX1_copy_41 : decode cX1_copy 41 = .ok (.aload_n 1, 1) := by decide +kernel
theorem dX1_copy_42 : decode cX1_copy 42 = .ok (.getfield 39, 3) := by decide +kernel
theorem dX1_copy_45 : decode cX1_copy 45 = .ok (.putfield 39, 3) := by decide +kernel
theorem dX1_copy_48 : decode cX1_copy 48 = .ok (.aload_n 0, 1) := by decide +kernel
theorem dX1_copy_49 : decode cX1_copy 49 = .ok (.aload_n 1, 1) := by decide +kernel
theorem dX1_copy_50 : decode cX1_copy 50 = .ok (.getfield 43, 3) := by decide +kernel
theorem dX1_copy_53 : decode cX1_copy 53 = .ok (.putfield 43, 3) := by decide +kernel
theorem dX1_copy_56 : decode cX1_copy 56 = .ok (.aload_n 0, 1) := by decide +kernel
theorem dX1_copy_57 : decode cX1_copy 57 = .ok (.aload_n 1, 1) := by decide +kernel
theorem dX1_copy_58 : decode cX1_copy 58 = .ok (.getfield 52, 3) := by decide +kernel
theorem dX1_copy_61 : decode cX1_copy 61 = .ok (.putfield 52, 3) := by decide +kernel
theorem dX1_copy_64 : decode cX1_copy 64 = .ok (.aload_n 1, 1) := by decide +kernel
theorem dX1_copy_65 : decode cX1_copy 65 = .ok (.getfield 11, 3) := by decide +kernel
theorem dX1_copy_68 : decode cX1_copy 68 = .ok (.aload_n 0, 1) := by decide +kernel
theorem dX1_copy_69 : decode cX1_copy 69 = .ok (.getfield 11, 3) := by decide +kernel
theorem dX1_copy_72 : decode cX1_copy 72 = .ok (.invokestatic 74, 3) := by decide +kernel
theorem dX1_copy_75 : decode cX1_copy 75 = .ok (.aload_n 1, 1) := by decide +kernel
theorem dX1_copy_76 : decode cX1_copy 76 = .ok (.getfield 23, 3) := by decide +kernel
theorem dX1_copy_79 : decode cX1_copy 79 = .ok (.aload_n 0, 1) := by decide +kernel
theorem dX1_copy_80 : decode cX1_copy 80 = .ok (.getfield 23, 3) := by decide +kernel
theorem dX1_copy_83 : decode cX1_copy 83 = .ok (.invokestatic 74, 3) := by decide +kernel
theorem dX1_copy_86 : decode cX1_copy 86 = .ok (.aload_n 1, 1) := by decide +kernel
theorem dX1_copy_87 : decode cX1_copy 87 = .ok (.getfield 29, 3) := by decide +kernel
theorem dX1_copy_90 : decode cX1_copy 90 = .ok (.aload_n 0, 1) := by decide +kernel
theorem dX1_copy_91 : decode cX1_copy 91 = .ok (.getfield 29, 3) := by decide +kernel
theorem dX1_copy_94 : decode cX1_copy 94 = .ok (.invokestatic 78, 3) := by decide +kernel
theorem dX1_copy_97 : decode cX1_copy 97 = .ok (.aload_n 1, 1) := by decide +kernel
theorem dX1_copy_98 : decode cX1_copy 98 = .ok (.getfield 46, 3) := by decide +kernel
theorem dX1_copy_101 : decode cX1_copy 101 = .ok (.aload_n 0, 1) := by decide +kernel
theorem dX1_copy_102 : decode cX1_copy 102 = .ok (.getfield 46, 3) := by decide +kernel
theorem dX1_copy_105 : decode cX1_copy 105 = .ok (.invokestatic 78, 3) := by decide +kernel
theorem dX1_copy_108 : decode cX1_copy 108 = .ok (.aload_n 1, 1) := by decide +kernel
theorem dX1_copy_109 : decode cX1_copy 109 = .ok (.getfield 49, 3) := by decide +kernel
theorem dX1_copy_112 : decode cX1_copy 112 = .ok (.aload_n 0, 1) := by decide +kernel
theorem dX1_copy_113 : decode cX1_copy 113 = .ok (.getfield 49, 3) := by decide +kernel
theorem dX1_copy_116 : decode cX1_copy 116 = .ok (.invokestatic 78, 3) := by decide +kernel
theorem dX1_copy_119 : decode cX1_copy 119 = .ok (.aload_n 1, 1) := by decide +kernel
theorem dX1_copy_120 : decode cX1_copy 120 = .ok (.getfield 55, 3) := by decide +kernel
theorem dX1_copy_123 : decode cX1_copy 123 = .ok (.aload_n 0, 1) := by decide +kernel
theorem dX1_copy_124 : decode cX1_copy 124 = .ok (.getfield 55, 3) := by decide +kernel
theorem dX1_copy_127 : decode cX1_copy 127 = .ok (.invokestatic 78, 3) := by decide +kernel
theorem dX1_copy_130 : decode cX1_copy 130 = .ok (.aload_n 1, 1) := by decide +kernel
theorem dX1_copy_131 : decode cX1_copy 131 = .ok (.getfield 58, 3) := by decide +kernel
theorem dX1_copy_134 : decode cX1_copy 134 = .ok (.aload_n 0, 1) := by decide +kernel
theorem dX1_copy_135 : decode cX1_copy 135 = .ok (.getfield 58, 3) := by decide +kernel
theorem dX1_copy_138 : decode cX1_copy 138 = .ok (.invokestatic 78, 3) := by decide +kernel
theorem dX1_copy_141 : decode cX1_copy 141 = .ok (.aload_n 1, 1) := by decide +kernel
theorem dX1_copy_142 : decode cX1_copy 142 = .ok (.getfield 61, 3) := by decide +kernel
theorem dX1_copy_145 : decode cX1_copy 145 = .ok (.aload_n 0, 1) := by decide +kernel
theorem dX1_copy_146 : decode cX1_copy 146 = .ok (.getfield 61, 3) := by decide +kernel
theorem dX1_copy_149 : decode cX1_copy 149 = .ok (.invokestatic 78, 3) := by decide +kernel
theorem dX1_copy_152 : decode cX1_copy 152 = .ok (.return_, 1) := by decide +kernel
abbrev rm_X1_copy_I : Room := { frames := 3, cells := 0, slots := 0, locals := 114 }
abbrev jJ_X1_copy_I (l : Launch) (G : jx_G) (t : jx_T) (sz : Nat) (out : jx_M) (pc : Nat) (lv : List (Nat × Value)) (st : List Value) (σ : jx_M) : Prop := jx_J l (ll_env G t) (ll_dyn G t) (ll_rg G) sz RX1 "copy" cX1_copy 2 none rm_X1_copy_I (fun below args s => MQ below (jx_Qv (ll_dyn G (ll_tI t)) out (jx_A (ll_rg G) sz)) args s 0 0 (jx_A (ll_rg G) sz)) 0 0 pc lv st σ
def f_X1_copy_I (t : jx_T) (σ : jx_M)  : Option jx_M :=
  jx_lt (jx_mu σ 0 10 (σ 0 0)) (fun σ1 => jx_lt (jx_mu σ1 0 11 (σ1 0 1)) (fun σ2 => jx_lt (jx_mu σ2 0 12 (σ2 0 2)) (fun σ3 => jx_lt (jx_mu σ3 0 13 (σ3 0 3)) (fun σ4 => jx_lt (jx_mu σ4 0 14 (σ4 0 4)) (fun σ5 => jx_lt (jx_mu σ5 0 15 (σ5 0 5)) (fun σ6 => jx_lt (jx_mu σ6 0 16 (σ6 0 6)) (fun σ7 => jx_bd (f_X1_copyRows_Iplace (ll_tI t) σ7) (fun q8 => jx_bd (f_X1_copyRows_Ivoter (ll_tI t) q8) (fun q9 => jx_bd (f_X1_copyRow (ll_tI t) q9 14 34) (fun q10 => jx_bd (f_X1_copyRow (ll_tI t) q10 15 35) (fun q11 => jx_bd (f_X1_copyRow (ll_tI t) q11 16 36) (fun q12 => jx_bd (f_X1_copyRow (ll_tI t) q12 17 37) (fun q13 => jx_bd (f_X1_copyRow (ll_tI t) q13 18 38) (fun q14 => jx_bd (f_X1_copyRow (ll_tI t) q14 19 39) (fun q15 => some q15)))))))))))))))
set_option maxHeartbeats 4000000 in
set_option maxRecDepth 100000 in
theorem k_X1_copy_I (l : Launch) (G : jx_G) (t : jx_T) (hG : ll_ok G) (sz : Nat) (σ : jx_M)  (out : jx_M) (h : f_X1_copy_I t σ = some out) : Met l yX1_copy (Cond.code yX1_copy cX1_copy 2 none :: jx_ws) rm_X1_copy_I (jx_Pc (ll_env G t) (ll_dyn G t) (ll_rg G) sz σ [.ref (G.2 22), .ref (G.2 21)]) (jx_Qv (ll_dyn G (ll_tI t)) out (jx_A (ll_rg G) sz)) 0 0 (jx_A (ll_rg G) sz) := by
  unfold f_X1_copy_I at h
  refine jx_met (by decide) (Nat.le_of_ble_eq_true rfl) ?_
  refine jx_sub (lv' := [(0, .ref (G.2 22)), (1, .ref (G.2 21))]) [0, 1] rfl ?_
  refine jx_aload_n (pc := 0) (k0 := 0) rfl dX1_copy_0 ?_
  refine jx_aload_n (pc := 1) (k0 := 1) rfl dX1_copy_1 ?_
  refine ll_gnow_places (pc := 2) fl_X1_71 dX1_copy_2 ?_
  obtain ⟨σ1, eσ1, h⟩ := jx_lt_o h
  refine ll_pimage_places (pc := 5) hG fl_X1_71 eσ1 dX1_copy_5 ?_
  refine jx_aload_n (pc := 8) (k0 := 0) rfl dX1_copy_8 ?_
  refine jx_aload_n (pc := 9) (k0 := 1) rfl dX1_copy_9 ?_
  refine ll_gnow_minute (pc := 10) fl_X1_16 dX1_copy_10 ?_
  obtain ⟨σ2, eσ2, h⟩ := jx_lt_o h
  refine ll_pimage_minute (pc := 13) hG fl_X1_16 eσ2 dX1_copy_13 ?_
  refine jx_aload_n (pc := 16) (k0 := 0) rfl dX1_copy_16 ?_
  refine jx_aload_n (pc := 17) (k0 := 1) rfl dX1_copy_17 ?_
  refine ll_gnow_voters (pc := 18) fl_X1_20 dX1_copy_18 ?_
  obtain ⟨σ3, eσ3, h⟩ := jx_lt_o h
  refine ll_pimage_voters (pc := 21) hG fl_X1_20 eσ3 dX1_copy_21 ?_
  refine jx_aload_n (pc := 24) (k0 := 0) rfl dX1_copy_24 ?_
  refine jx_aload_n (pc := 25) (k0 := 1) rfl dX1_copy_25 ?_
  refine ll_gnow_signs (pc := 26) fl_X1_26 dX1_copy_26 ?_
  obtain ⟨σ4, eσ4, h⟩ := jx_lt_o h
  refine ll_pimage_signs (pc := 29) hG fl_X1_26 eσ4 dX1_copy_29 ?_
  refine jx_aload_n (pc := 32) (k0 := 0) rfl dX1_copy_32 ?_
  refine jx_aload_n (pc := 33) (k0 := 1) rfl dX1_copy_33 ?_
  refine ll_gnow_tides (pc := 34) fl_X1_33 dX1_copy_34 ?_
  obtain ⟨σ5, eσ5, h⟩ := jx_lt_o h
  refine ll_pimage_tides (pc := 37) hG fl_X1_33 eσ5 dX1_copy_37 ?_
  refine jx_aload_n (pc := 40) (k0 := 0) rfl dX1_copy_40 ?_
  refine jx_aload_n (pc := 41) (k0 := 1) rfl dX1_copy_41 ?_
  refine ll_gnow_newest (pc := 42) fl_X1_39 dX1_copy_42 ?_
  refine ll_nwI (pc := 45) hG fl_X1_39 dX1_copy_45 ?_
  refine jx_aload_n (pc := 48) (k0 := 0) rfl dX1_copy_48 ?_
  refine jx_aload_n (pc := 49) (k0 := 1) rfl dX1_copy_49 ?_
  refine ll_gnow_seen (pc := 50) fl_X1_43 dX1_copy_50 ?_
  obtain ⟨σ6, eσ6, h⟩ := jx_lt_o h
  refine ll_pimage_seen (pc := 53) hG fl_X1_43 eσ6 dX1_copy_53 ?_
  refine jx_aload_n (pc := 56) (k0 := 0) rfl dX1_copy_56 ?_
  refine jx_aload_n (pc := 57) (k0 := 1) rfl dX1_copy_57 ?_
  refine ll_gnow_tales (pc := 58) fl_X1_52 dX1_copy_58 ?_
  obtain ⟨σ7, eσ7, h⟩ := jx_lt_o h
  refine ll_pimage_tales (pc := 61) hG fl_X1_52 eσ7 dX1_copy_61 ?_
  refine jx_aload_n (pc := 64) (k0 := 1) rfl dX1_copy_64 ?_
  refine ll_gnow_place (pc := 65) fl_X1_11 dX1_copy_65 ?_
  refine jx_aload_n (pc := 68) (k0 := 0) rfl dX1_copy_68 ?_
  refine ll_gimage_place (pc := 69) fl_X1_11 dX1_copy_69 ?_
  obtain ⟨q8, eq8, h⟩ := jx_bd_o h
  refine jx_callSv (pc := 72) [.ref (G.2 301), .ref (G.2 303)] (fun sz' => k_X1_copyRows_Iplace l G (ll_tI t) hG sz' σ7 q8 eq8) ks_X1_74 ll_jok rfl rfl (Nat.le_of_ble_eq_true rfl) ⟨⟨rfl, rfl⟩, ⟨Nat.le_of_ble_eq_true rfl, Nat.le_of_ble_eq_true rfl⟩, Nat.zero_le _, Nat.zero_le _⟩ dX1_copy_72 ?_
  refine jx_aload_n (pc := 75) (k0 := 1) rfl dX1_copy_75 ?_
  refine ll_gnow_voter (pc := 76) fl_X1_23 dX1_copy_76 ?_
  refine jx_aload_n (pc := 79) (k0 := 0) rfl dX1_copy_79 ?_
  refine ll_gimage_voter (pc := 80) fl_X1_23 dX1_copy_80 ?_
  obtain ⟨q9, eq9, h⟩ := jx_bd_o h
  refine jx_callSv (pc := 83) [.ref (G.2 302), .ref (G.2 304)] (fun sz' => k_X1_copyRows_Ivoter l G (ll_tI t) hG sz' q8 q9 eq9) ks_X1_74 ll_jok rfl rfl (Nat.le_of_ble_eq_true rfl) ⟨⟨rfl, rfl⟩, ⟨Nat.le_of_ble_eq_true rfl, Nat.le_of_ble_eq_true rfl⟩, Nat.zero_le _, Nat.zero_le _⟩ dX1_copy_83 ?_
  refine jx_aload_n (pc := 86) (k0 := 1) rfl dX1_copy_86 ?_
  refine ll_gnow_tape (pc := 87) fl_X1_29 dX1_copy_87 ?_
  refine jx_aload_n (pc := 90) (k0 := 0) rfl dX1_copy_90 ?_
  refine ll_gimage_tape (pc := 91) fl_X1_29 dX1_copy_91 ?_
  obtain ⟨q10, eq10, h⟩ := jx_bd_o h
  refine jx_callSv (pc := 94) [.ref (G.2 114), .ref (G.2 134)] (fun sz' => k_X1_copyRow l G (ll_tI t) hG sz' q9 14 34 q10 eq10) ks_X1_78 ll_jok rfl rfl (Nat.le_of_ble_eq_true rfl) ⟨⟨rfl, rfl⟩, ⟨Nat.le_of_ble_eq_true rfl, Nat.le_of_ble_eq_true rfl⟩, Nat.zero_le _, Nat.zero_le _⟩ dX1_copy_94 ?_
  refine jx_aload_n (pc := 97) (k0 := 1) rfl dX1_copy_97 ?_
  refine ll_gnow_seenPlace (pc := 98) fl_X1_46 dX1_copy_98 ?_
  refine jx_aload_n (pc := 101) (k0 := 0) rfl dX1_copy_101 ?_
  refine ll_gimage_seenPlace (pc := 102) fl_X1_46 dX1_copy_102 ?_
  obtain ⟨q11, eq11, h⟩ := jx_bd_o h
  refine jx_callSv (pc := 105) [.ref (G.2 115), .ref (G.2 135)] (fun sz' => k_X1_copyRow l G (ll_tI t) hG sz' q10 15 35 q11 eq11) ks_X1_78 ll_jok rfl rfl (Nat.le_of_ble_eq_true rfl) ⟨⟨rfl, rfl⟩, ⟨Nat.le_of_ble_eq_true rfl, Nat.le_of_ble_eq_true rfl⟩, Nat.zero_le _, Nat.zero_le _⟩ dX1_copy_105 ?_
  refine jx_aload_n (pc := 108) (k0 := 1) rfl dX1_copy_108 ?_
  refine ll_gnow_seenLamps (pc := 109) fl_X1_49 dX1_copy_109 ?_
  refine jx_aload_n (pc := 112) (k0 := 0) rfl dX1_copy_112 ?_
  refine ll_gimage_seenLamps (pc := 113) fl_X1_49 dX1_copy_113 ?_
  obtain ⟨q12, eq12, h⟩ := jx_bd_o h
  refine jx_callSv (pc := 116) [.ref (G.2 116), .ref (G.2 136)] (fun sz' => k_X1_copyRow l G (ll_tI t) hG sz' q11 16 36 q12 eq12) ks_X1_78 ll_jok rfl rfl (Nat.le_of_ble_eq_true rfl) ⟨⟨rfl, rfl⟩, ⟨Nat.le_of_ble_eq_true rfl, Nat.le_of_ble_eq_true rfl⟩, Nat.zero_le _, Nat.zero_le _⟩ dX1_copy_116 ?_
  refine jx_aload_n (pc := 119) (k0 := 1) rfl dX1_copy_119 ?_
  refine ll_gnow_taleVoter (pc := 120) fl_X1_55 dX1_copy_120 ?_
  refine jx_aload_n (pc := 123) (k0 := 0) rfl dX1_copy_123 ?_
  refine ll_gimage_taleVoter (pc := 124) fl_X1_55 dX1_copy_124 ?_
  obtain ⟨q13, eq13, h⟩ := jx_bd_o h
  refine jx_callSv (pc := 127) [.ref (G.2 117), .ref (G.2 137)] (fun sz' => k_X1_copyRow l G (ll_tI t) hG sz' q12 17 37 q13 eq13) ks_X1_78 ll_jok rfl rfl (Nat.le_of_ble_eq_true rfl) ⟨⟨rfl, rfl⟩, ⟨Nat.le_of_ble_eq_true rfl, Nat.le_of_ble_eq_true rfl⟩, Nat.zero_le _, Nat.zero_le _⟩ dX1_copy_127 ?_
  refine jx_aload_n (pc := 130) (k0 := 1) rfl dX1_copy_130 ?_
  refine ll_gnow_taleMinute (pc := 131) fl_X1_58 dX1_copy_131 ?_
  refine jx_aload_n (pc := 134) (k0 := 0) rfl dX1_copy_134 ?_
  refine ll_gimage_taleMinute (pc := 135) fl_X1_58 dX1_copy_135 ?_
  obtain ⟨q14, eq14, h⟩ := jx_bd_o h
  refine jx_callSv (pc := 138) [.ref (G.2 118), .ref (G.2 138)] (fun sz' => k_X1_copyRow l G (ll_tI t) hG sz' q13 18 38 q14 eq14) ks_X1_78 ll_jok rfl rfl (Nat.le_of_ble_eq_true rfl) ⟨⟨rfl, rfl⟩, ⟨Nat.le_of_ble_eq_true rfl, Nat.le_of_ble_eq_true rfl⟩, Nat.zero_le _, Nat.zero_le _⟩ dX1_copy_138 ?_
  refine jx_aload_n (pc := 141) (k0 := 1) rfl dX1_copy_141 ?_
  refine ll_gnow_talePlace (pc := 142) fl_X1_61 dX1_copy_142 ?_
  refine jx_aload_n (pc := 145) (k0 := 0) rfl dX1_copy_145 ?_
  refine ll_gimage_talePlace (pc := 146) fl_X1_61 dX1_copy_146 ?_
  obtain ⟨q15, eq15, h⟩ := jx_bd_o h
  refine jx_callSv (pc := 149) [.ref (G.2 119), .ref (G.2 139)] (fun sz' => k_X1_copyRow l G (ll_tI t) hG sz' q14 19 39 q15 eq15) ks_X1_78 ll_jok rfl rfl (Nat.le_of_ble_eq_true rfl) ⟨⟨rfl, rfl⟩, ⟨Nat.le_of_ble_eq_true rfl, Nat.le_of_ble_eq_true rfl⟩, Nat.zero_le _, Nat.zero_le _⟩ dX1_copy_149 ?_
  have h := Option.some.inj h
  subst h
  exact jx_vret (pc := 152) dX1_copy_152
abbrev rm_X1_copyRows_Nplace : Room := { frames := 2, cells := 0, slots := 0, locals := 92 }
abbrev jJ_X1_copyRows_Nplace (l : Launch) (G : jx_G) (t : jx_T) (sz : Nat) (out : jx_M) (pc : Nat) (lv : List (Nat × Value)) (st : List Value) (σ : jx_M) : Prop := jx_J l (ll_env G t) (ll_dyn G t) (ll_rg G) sz RX1 "copyRows" cX1_copyRows 3 none rm_X1_copyRows_Nplace (fun below args s => MQ below (jx_Qv (ll_dyn G t) out (jx_A (ll_rg G) sz)) args s 0 0 (jx_A (ll_rg G) sz)) 0 0 pc lv st σ
def g_X1_copyRows_Nplace_2 (t : jx_T) (k2 : jx_M → Int32 → Option jx_M) (σ : jx_M) (v2 : Int32) : Option jx_M :=
  if (7 : Int32) ≤ v2 then some σ else if (7 : Int32) ≤ v2 then some σ else jx_gd (jx_in v2 7) (jx_gd (jx_in v2 7) (jx_bd (f_X1_copyRow t σ (21 + v2.toNatClampNeg) (1 + v2.toNatClampNeg)) (fun q5 => jx_lt (v2 + (1 : Int32)) (fun x6 => (k2 q5 x6)))))
set_option maxHeartbeats 4000000 in
set_option maxRecDepth 100000 in
theorem jg_X1_copyRows_Nplace_2 (l : Launch) (G : jx_G) (t : jx_T) (hG : ll_ok G) (sz : Nat) (out : jx_M) (k2 : jx_M → Int32 → Option jx_M) (h2 : ∀ (σ : jx_M) (v2 : Int32), k2 σ v2 = some out → jJ_X1_copyRows_Nplace l G t sz out 2 [(0, .ref (G.2 303)), (1, .ref (G.2 301)), (2, .int v2)] [] σ) (σ : jx_M) (v2 : Int32) (h : g_X1_copyRows_Nplace_2 t k2 σ v2 = some out) : jJ_X1_copyRows_Nplace l G t sz out 2 [(0, .ref (G.2 303)), (1, .ref (G.2 301)), (2, .int v2)] [] σ := by
  unfold g_X1_copyRows_Nplace_2 at h
  refine jx_iload_n (pc := 2) (k0 := 2) rfl dX1_copyRows_2 ?_
  refine jx_aload_n (pc := 3) (k0 := 0) rfl dX1_copyRows_3 ?_
  refine ll_n_image_place (pc := 4) dX1_copyRows_4 ?_
  refine jx_icmp_ge (pc := 5) (tgt := 29) dX1_copyRows_5 (by decide) (fun c1 => ?_) (fun c1 => ?_)
  · have h := jx_t c1 h
    have h := Option.some.inj h
    subst h
    exact jx_vret (pc := 29) dX1_copyRows_29
  · have h := jx_f c1 h
    refine jx_iload_n (pc := 8) (k0 := 2) rfl dX1_copyRows_8 ?_
    refine jx_aload_n (pc := 9) (k0 := 1) rfl dX1_copyRows_9 ?_
    refine ll_n_now_place (pc := 10) dX1_copyRows_10 ?_
    refine jx_icmp_ge (pc := 11) (tgt := 29) dX1_copyRows_11 (by decide) (fun c2 => ?_) (fun c2 => ?_)
    · have h := jx_t c2 h
      have h := Option.some.inj h
      subst h
      exact jx_vret (pc := 29) dX1_copyRows_29
    · have h := jx_f c2 h
      refine jx_aload_n (pc := 14) (k0 := 0) rfl dX1_copyRows_14 ?_
      refine jx_iload_n (pc := 15) (k0 := 2) rfl dX1_copyRows_15 ?_
      obtain ⟨g3, h⟩ := jx_gd_o h
      refine ll_a_image_place (pc := 16) (jx_in_o g3) dX1_copyRows_16 ?_
      refine jx_aload_n (pc := 17) (k0 := 1) rfl dX1_copyRows_17 ?_
      refine jx_iload_n (pc := 18) (k0 := 2) rfl dX1_copyRows_18 ?_
      obtain ⟨g4, h⟩ := jx_gd_o h
      refine ll_a_now_place (pc := 19) (jx_in_o g4) dX1_copyRows_19 ?_
      obtain ⟨q5, eq5, h⟩ := jx_bd_o h
      refine jx_callSv (pc := 20) [.ref (G.2 (100 + (21 + v2.toNatClampNeg))), .ref (G.2 (100 + (1 + v2.toNatClampNeg)))] (fun sz' => k_X1_copyRow l G t hG sz' σ (21 + v2.toNatClampNeg) (1 + v2.toNatClampNeg) q5 eq5) ks_X1_78 ll_jok rfl rfl (Nat.le_of_ble_eq_true rfl) ⟨⟨rfl, rfl⟩, ⟨Nat.le_of_ble_eq_true rfl, Nat.le_of_ble_eq_true rfl⟩, Nat.zero_le _, Nat.zero_le _⟩ dX1_copyRows_20 ?_
      obtain ⟨x6, ex6, h⟩ := jx_lt_o h
      refine jx_iinc (pc := 23) (i := 2) (v := v2) rfl ex6 (n := 1) (by decide) (by decide) (lv' := [(2, .int x6), (0, .ref (G.2 303)), (1, .ref (G.2 301))]) rfl dX1_copyRows_23 ?_
      refine jx_goto (pc := 26) (tgt := 2) dX1_copyRows_26 (by decide) ?_
      exact jx_sub [1, 2, 0] rfl (h2 q5 x6 h)
def b_X1_copyRows_Nplace_2 (t : jx_T)  : Nat → jx_M → Int32 → Option jx_M
  | 0, _, _ => none
  | n + 1, σ, v2 => g_X1_copyRows_Nplace_2 t (b_X1_copyRows_Nplace_2 t n) σ v2
theorem jb_X1_copyRows_Nplace_2 (l : Launch) (G : jx_G) (t : jx_T) (hG : ll_ok G) (sz : Nat) (out : jx_M)  : ∀ (n : Nat) (σ : jx_M) (v2 : Int32), b_X1_copyRows_Nplace_2 t n σ v2 = some out → jJ_X1_copyRows_Nplace l G t sz out 2 [(0, .ref (G.2 303)), (1, .ref (G.2 301)), (2, .int v2)] [] σ := by
  intro n
  induction n with
  | zero =>
    intro σ v2 h
    cases h
  | succ n ih =>
    intro σ v2 h
    exact jg_X1_copyRows_Nplace_2 l G t hG sz out (b_X1_copyRows_Nplace_2 t n) ih σ v2 h
def f_X1_copyRows_Nplace (t : jx_T) (σ : jx_M)  : Option jx_M :=
  (b_X1_copyRows_Nplace_2 t jx_fuel σ (0 : Int32))
set_option maxHeartbeats 4000000 in
set_option maxRecDepth 100000 in
theorem k_X1_copyRows_Nplace (l : Launch) (G : jx_G) (t : jx_T) (hG : ll_ok G) (sz : Nat) (σ : jx_M)  (out : jx_M) (h : f_X1_copyRows_Nplace t σ = some out) : Met l yX1_copyRows (Cond.code yX1_copyRows cX1_copyRows 3 none :: jx_ws) rm_X1_copyRows_Nplace (jx_Pc (ll_env G t) (ll_dyn G t) (ll_rg G) sz σ [.ref (G.2 303), .ref (G.2 301)]) (jx_Qv (ll_dyn G t) out (jx_A (ll_rg G) sz)) 0 0 (jx_A (ll_rg G) sz) := by
  unfold f_X1_copyRows_Nplace at h
  refine jx_met (by decide) (Nat.le_of_ble_eq_true rfl) ?_
  refine jx_sub (lv' := [(0, .ref (G.2 303)), (1, .ref (G.2 301))]) [0, 1] rfl ?_
  refine jx_iconst (pc := 0) (v := (0 : Int32)) (by decide) dX1_copyRows_0 ?_
  refine jx_istore_n (pc := 1) (i := 2) rfl rfl (by decide) (lv' := [(2, .int (0 : Int32)), (0, .ref (G.2 303)), (1, .ref (G.2 301))]) rfl dX1_copyRows_1 ?_
  exact jx_sub [1, 2, 0] rfl (jb_X1_copyRows_Nplace_2 l G t hG sz out jx_fuel σ (0 : Int32) h)
abbrev rm_X1_copyRows_Nvoter : Room := { frames := 2, cells := 0, slots := 0, locals := 92 }
abbrev jJ_X1_copyRows_Nvoter (l : Launch) (G : jx_G) (t : jx_T) (sz : Nat) (out : jx_M) (pc : Nat) (lv : List (Nat × Value)) (st : List Value) (σ : jx_M) : Prop := jx_J l (ll_env G t) (ll_dyn G t) (ll_rg G) sz RX1 "copyRows" cX1_copyRows 3 none rm_X1_copyRows_Nvoter (fun below args s => MQ below (jx_Qv (ll_dyn G t) out (jx_A (ll_rg G) sz)) args s 0 0 (jx_A (ll_rg G) sz)) 0 0 pc lv st σ
def g_X1_copyRows_Nvoter_2 (t : jx_T) (k2 : jx_M → Int32 → Option jx_M) (σ : jx_M) (v2 : Int32) : Option jx_M :=
  if (6 : Int32) ≤ v2 then some σ else if (6 : Int32) ≤ v2 then some σ else jx_gd (jx_in v2 6) (jx_gd (jx_in v2 6) (jx_bd (f_X1_copyRow t σ (28 + v2.toNatClampNeg) (8 + v2.toNatClampNeg)) (fun q5 => jx_lt (v2 + (1 : Int32)) (fun x6 => (k2 q5 x6)))))
set_option maxHeartbeats 4000000 in
set_option maxRecDepth 100000 in
theorem jg_X1_copyRows_Nvoter_2 (l : Launch) (G : jx_G) (t : jx_T) (hG : ll_ok G) (sz : Nat) (out : jx_M) (k2 : jx_M → Int32 → Option jx_M) (h2 : ∀ (σ : jx_M) (v2 : Int32), k2 σ v2 = some out → jJ_X1_copyRows_Nvoter l G t sz out 2 [(0, .ref (G.2 304)), (1, .ref (G.2 302)), (2, .int v2)] [] σ) (σ : jx_M) (v2 : Int32) (h : g_X1_copyRows_Nvoter_2 t k2 σ v2 = some out) : jJ_X1_copyRows_Nvoter l G t sz out 2 [(0, .ref (G.2 304)), (1, .ref (G.2 302)), (2, .int v2)] [] σ := by
  unfold g_X1_copyRows_Nvoter_2 at h
  refine jx_iload_n (pc := 2) (k0 := 2) rfl dX1_copyRows_2 ?_
  refine jx_aload_n (pc := 3) (k0 := 0) rfl dX1_copyRows_3 ?_
  refine ll_n_image_voter (pc := 4) dX1_copyRows_4 ?_
  refine jx_icmp_ge (pc := 5) (tgt := 29) dX1_copyRows_5 (by decide) (fun c1 => ?_) (fun c1 => ?_)
  · have h := jx_t c1 h
    have h := Option.some.inj h
    subst h
    exact jx_vret (pc := 29) dX1_copyRows_29
  · have h := jx_f c1 h
    refine jx_iload_n (pc := 8) (k0 := 2) rfl dX1_copyRows_8 ?_
    refine jx_aload_n (pc := 9) (k0 := 1) rfl dX1_copyRows_9 ?_
    refine ll_n_now_voter (pc := 10) dX1_copyRows_10 ?_
    refine jx_icmp_ge (pc := 11) (tgt := 29) dX1_copyRows_11 (by decide) (fun c2 => ?_) (fun c2 => ?_)
    · have h := jx_t c2 h
      have h := Option.some.inj h
      subst h
      exact jx_vret (pc := 29) dX1_copyRows_29
    · have h := jx_f c2 h
      refine jx_aload_n (pc := 14) (k0 := 0) rfl dX1_copyRows_14 ?_
      refine jx_iload_n (pc := 15) (k0 := 2) rfl dX1_copyRows_15 ?_
      obtain ⟨g3, h⟩ := jx_gd_o h
      refine ll_a_image_voter (pc := 16) (jx_in_o g3) dX1_copyRows_16 ?_
      refine jx_aload_n (pc := 17) (k0 := 1) rfl dX1_copyRows_17 ?_
      refine jx_iload_n (pc := 18) (k0 := 2) rfl dX1_copyRows_18 ?_
      obtain ⟨g4, h⟩ := jx_gd_o h
      refine ll_a_now_voter (pc := 19) (jx_in_o g4) dX1_copyRows_19 ?_
      obtain ⟨q5, eq5, h⟩ := jx_bd_o h
      refine jx_callSv (pc := 20) [.ref (G.2 (100 + (28 + v2.toNatClampNeg))), .ref (G.2 (100 + (8 + v2.toNatClampNeg)))] (fun sz' => k_X1_copyRow l G t hG sz' σ (28 + v2.toNatClampNeg) (8 + v2.toNatClampNeg) q5 eq5) ks_X1_78 ll_jok rfl rfl (Nat.le_of_ble_eq_true rfl) ⟨⟨rfl, rfl⟩, ⟨Nat.le_of_ble_eq_true rfl, Nat.le_of_ble_eq_true rfl⟩, Nat.zero_le _, Nat.zero_le _⟩ dX1_copyRows_20 ?_
      obtain ⟨x6, ex6, h⟩ := jx_lt_o h
      refine jx_iinc (pc := 23) (i := 2) (v := v2) rfl ex6 (n := 1) (by decide) (by decide) (lv' := [(2, .int x6), (0, .ref (G.2 304)), (1, .ref (G.2 302))]) rfl dX1_copyRows_23 ?_
      refine jx_goto (pc := 26) (tgt := 2) dX1_copyRows_26 (by decide) ?_
      exact jx_sub [1, 2, 0] rfl (h2 q5 x6 h)
def b_X1_copyRows_Nvoter_2 (t : jx_T)  : Nat → jx_M → Int32 → Option jx_M
  | 0, _, _ => none
  | n + 1, σ, v2 => g_X1_copyRows_Nvoter_2 t (b_X1_copyRows_Nvoter_2 t n) σ v2
theorem jb_X1_copyRows_Nvoter_2 (l : Launch) (G : jx_G) (t : jx_T) (hG : ll_ok G) (sz : Nat) (out : jx_M)  : ∀ (n : Nat) (σ : jx_M) (v2 : Int32), b_X1_copyRows_Nvoter_2 t n σ v2 = some out → jJ_X1_copyRows_Nvoter l G t sz out 2 [(0, .ref (G.2 304)), (1, .ref (G.2 302)), (2, .int v2)] [] σ := by
  intro n
  induction n with
  | zero =>
    intro σ v2 h
    cases h
  | succ n ih =>
    intro σ v2 h
    exact jg_X1_copyRows_Nvoter_2 l G t hG sz out (b_X1_copyRows_Nvoter_2 t n) ih σ v2 h
def f_X1_copyRows_Nvoter (t : jx_T) (σ : jx_M)  : Option jx_M :=
  (b_X1_copyRows_Nvoter_2 t jx_fuel σ (0 : Int32))
set_option maxHeartbeats 4000000 in
set_option maxRecDepth 100000 in
theorem k_X1_copyRows_Nvoter (l : Launch) (G : jx_G) (t : jx_T) (hG : ll_ok G) (sz : Nat) (σ : jx_M)  (out : jx_M) (h : f_X1_copyRows_Nvoter t σ = some out) : Met l yX1_copyRows (Cond.code yX1_copyRows cX1_copyRows 3 none :: jx_ws) rm_X1_copyRows_Nvoter (jx_Pc (ll_env G t) (ll_dyn G t) (ll_rg G) sz σ [.ref (G.2 304), .ref (G.2 302)]) (jx_Qv (ll_dyn G t) out (jx_A (ll_rg G) sz)) 0 0 (jx_A (ll_rg G) sz) := by
  unfold f_X1_copyRows_Nvoter at h
  refine jx_met (by decide) (Nat.le_of_ble_eq_true rfl) ?_
  refine jx_sub (lv' := [(0, .ref (G.2 304)), (1, .ref (G.2 302))]) [0, 1] rfl ?_
  refine jx_iconst (pc := 0) (v := (0 : Int32)) (by decide) dX1_copyRows_0 ?_
  refine jx_istore_n (pc := 1) (i := 2) rfl rfl (by decide) (lv' := [(2, .int (0 : Int32)), (0, .ref (G.2 304)), (1, .ref (G.2 302))]) rfl dX1_copyRows_1 ?_
  exact jx_sub [1, 2, 0] rfl (jb_X1_copyRows_Nvoter_2 l G t hG sz out jx_fuel σ (0 : Int32) h)
abbrev rm_X1_copy_N : Room := { frames := 3, cells := 0, slots := 0, locals := 114 }
abbrev jJ_X1_copy_N (l : Launch) (G : jx_G) (t : jx_T) (sz : Nat) (out : jx_M) (pc : Nat) (lv : List (Nat × Value)) (st : List Value) (σ : jx_M) : Prop := jx_J l (ll_env G t) (ll_dyn G t) (ll_rg G) sz RX1 "copy" cX1_copy 2 none rm_X1_copy_N (fun below args s => MQ below (jx_Qv (ll_dyn G (ll_tN t)) out (jx_A (ll_rg G) sz)) args s 0 0 (jx_A (ll_rg G) sz)) 0 0 pc lv st σ
def f_X1_copy_N (t : jx_T) (σ : jx_M)  : Option jx_M :=
  jx_lt (jx_mu σ 0 0 (σ 0 10)) (fun σ1 => jx_lt (jx_mu σ1 0 1 (σ1 0 11)) (fun σ2 => jx_lt (jx_mu σ2 0 2 (σ2 0 12)) (fun σ3 => jx_lt (jx_mu σ3 0 3 (σ3 0 13)) (fun σ4 => jx_lt (jx_mu σ4 0 4 (σ4 0 14)) (fun σ5 => jx_lt (jx_mu σ5 0 5 (σ5 0 15)) (fun σ6 => jx_lt (jx_mu σ6 0 6 (σ6 0 16)) (fun σ7 => jx_bd (f_X1_copyRows_Nplace (ll_tN t) σ7) (fun q8 => jx_bd (f_X1_copyRows_Nvoter (ll_tN t) q8) (fun q9 => jx_bd (f_X1_copyRow (ll_tN t) q9 34 14) (fun q10 => jx_bd (f_X1_copyRow (ll_tN t) q10 35 15) (fun q11 => jx_bd (f_X1_copyRow (ll_tN t) q11 36 16) (fun q12 => jx_bd (f_X1_copyRow (ll_tN t) q12 37 17) (fun q13 => jx_bd (f_X1_copyRow (ll_tN t) q13 38 18) (fun q14 => jx_bd (f_X1_copyRow (ll_tN t) q14 39 19) (fun q15 => some q15)))))))))))))))
set_option maxHeartbeats 4000000 in
set_option maxRecDepth 100000 in
theorem k_X1_copy_N (l : Launch) (G : jx_G) (t : jx_T) (hG : ll_ok G) (sz : Nat) (σ : jx_M)  (out : jx_M) (h : f_X1_copy_N t σ = some out) : Met l yX1_copy (Cond.code yX1_copy cX1_copy 2 none :: jx_ws) rm_X1_copy_N (jx_Pc (ll_env G t) (ll_dyn G t) (ll_rg G) sz σ [.ref (G.2 21), .ref (G.2 22)]) (jx_Qv (ll_dyn G (ll_tN t)) out (jx_A (ll_rg G) sz)) 0 0 (jx_A (ll_rg G) sz) := by
  unfold f_X1_copy_N at h
  refine jx_met (by decide) (Nat.le_of_ble_eq_true rfl) ?_
  refine jx_sub (lv' := [(0, .ref (G.2 21)), (1, .ref (G.2 22))]) [0, 1] rfl ?_
  refine jx_aload_n (pc := 0) (k0 := 0) rfl dX1_copy_0 ?_
  refine jx_aload_n (pc := 1) (k0 := 1) rfl dX1_copy_1 ?_
  refine ll_gimage_places (pc := 2) fl_X1_71 dX1_copy_2 ?_
  obtain ⟨σ1, eσ1, h⟩ := jx_lt_o h
  refine ll_pnow_places (pc := 5) hG fl_X1_71 eσ1 dX1_copy_5 ?_
  refine jx_aload_n (pc := 8) (k0 := 0) rfl dX1_copy_8 ?_
  refine jx_aload_n (pc := 9) (k0 := 1) rfl dX1_copy_9 ?_
  refine ll_gimage_minute (pc := 10) fl_X1_16 dX1_copy_10 ?_
  obtain ⟨σ2, eσ2, h⟩ := jx_lt_o h
  refine ll_pnow_minute (pc := 13) hG fl_X1_16 eσ2 dX1_copy_13 ?_
  refine jx_aload_n (pc := 16) (k0 := 0) rfl dX1_copy_16 ?_
  refine jx_aload_n (pc := 17) (k0 := 1) rfl dX1_copy_17 ?_
  refine ll_gimage_voters (pc := 18) fl_X1_20 dX1_copy_18 ?_
  obtain ⟨σ3, eσ3, h⟩ := jx_lt_o h
  refine ll_pnow_voters (pc := 21) hG fl_X1_20 eσ3 dX1_copy_21 ?_
  refine jx_aload_n (pc := 24) (k0 := 0) rfl dX1_copy_24 ?_
  refine jx_aload_n (pc := 25) (k0 := 1) rfl dX1_copy_25 ?_
  refine ll_gimage_signs (pc := 26) fl_X1_26 dX1_copy_26 ?_
  obtain ⟨σ4, eσ4, h⟩ := jx_lt_o h
  refine ll_pnow_signs (pc := 29) hG fl_X1_26 eσ4 dX1_copy_29 ?_
  refine jx_aload_n (pc := 32) (k0 := 0) rfl dX1_copy_32 ?_
  refine jx_aload_n (pc := 33) (k0 := 1) rfl dX1_copy_33 ?_
  refine ll_gimage_tides (pc := 34) fl_X1_33 dX1_copy_34 ?_
  obtain ⟨σ5, eσ5, h⟩ := jx_lt_o h
  refine ll_pnow_tides (pc := 37) hG fl_X1_33 eσ5 dX1_copy_37 ?_
  refine jx_aload_n (pc := 40) (k0 := 0) rfl dX1_copy_40 ?_
  refine jx_aload_n (pc := 41) (k0 := 1) rfl dX1_copy_41 ?_
  refine ll_gimage_newest (pc := 42) fl_X1_39 dX1_copy_42 ?_
  refine ll_nwN (pc := 45) hG fl_X1_39 dX1_copy_45 ?_
  refine jx_aload_n (pc := 48) (k0 := 0) rfl dX1_copy_48 ?_
  refine jx_aload_n (pc := 49) (k0 := 1) rfl dX1_copy_49 ?_
  refine ll_gimage_seen (pc := 50) fl_X1_43 dX1_copy_50 ?_
  obtain ⟨σ6, eσ6, h⟩ := jx_lt_o h
  refine ll_pnow_seen (pc := 53) hG fl_X1_43 eσ6 dX1_copy_53 ?_
  refine jx_aload_n (pc := 56) (k0 := 0) rfl dX1_copy_56 ?_
  refine jx_aload_n (pc := 57) (k0 := 1) rfl dX1_copy_57 ?_
  refine ll_gimage_tales (pc := 58) fl_X1_52 dX1_copy_58 ?_
  obtain ⟨σ7, eσ7, h⟩ := jx_lt_o h
  refine ll_pnow_tales (pc := 61) hG fl_X1_52 eσ7 dX1_copy_61 ?_
  refine jx_aload_n (pc := 64) (k0 := 1) rfl dX1_copy_64 ?_
  refine ll_gimage_place (pc := 65) fl_X1_11 dX1_copy_65 ?_
  refine jx_aload_n (pc := 68) (k0 := 0) rfl dX1_copy_68 ?_
  refine ll_gnow_place (pc := 69) fl_X1_11 dX1_copy_69 ?_
  obtain ⟨q8, eq8, h⟩ := jx_bd_o h
  refine jx_callSv (pc := 72) [.ref (G.2 303), .ref (G.2 301)] (fun sz' => k_X1_copyRows_Nplace l G (ll_tN t) hG sz' σ7 q8 eq8) ks_X1_74 ll_jok rfl rfl (Nat.le_of_ble_eq_true rfl) ⟨⟨rfl, rfl⟩, ⟨Nat.le_of_ble_eq_true rfl, Nat.le_of_ble_eq_true rfl⟩, Nat.zero_le _, Nat.zero_le _⟩ dX1_copy_72 ?_
  refine jx_aload_n (pc := 75) (k0 := 1) rfl dX1_copy_75 ?_
  refine ll_gimage_voter (pc := 76) fl_X1_23 dX1_copy_76 ?_
  refine jx_aload_n (pc := 79) (k0 := 0) rfl dX1_copy_79 ?_
  refine ll_gnow_voter (pc := 80) fl_X1_23 dX1_copy_80 ?_
  obtain ⟨q9, eq9, h⟩ := jx_bd_o h
  refine jx_callSv (pc := 83) [.ref (G.2 304), .ref (G.2 302)] (fun sz' => k_X1_copyRows_Nvoter l G (ll_tN t) hG sz' q8 q9 eq9) ks_X1_74 ll_jok rfl rfl (Nat.le_of_ble_eq_true rfl) ⟨⟨rfl, rfl⟩, ⟨Nat.le_of_ble_eq_true rfl, Nat.le_of_ble_eq_true rfl⟩, Nat.zero_le _, Nat.zero_le _⟩ dX1_copy_83 ?_
  refine jx_aload_n (pc := 86) (k0 := 1) rfl dX1_copy_86 ?_
  refine ll_gimage_tape (pc := 87) fl_X1_29 dX1_copy_87 ?_
  refine jx_aload_n (pc := 90) (k0 := 0) rfl dX1_copy_90 ?_
  refine ll_gnow_tape (pc := 91) fl_X1_29 dX1_copy_91 ?_
  obtain ⟨q10, eq10, h⟩ := jx_bd_o h
  refine jx_callSv (pc := 94) [.ref (G.2 134), .ref (G.2 114)] (fun sz' => k_X1_copyRow l G (ll_tN t) hG sz' q9 34 14 q10 eq10) ks_X1_78 ll_jok rfl rfl (Nat.le_of_ble_eq_true rfl) ⟨⟨rfl, rfl⟩, ⟨Nat.le_of_ble_eq_true rfl, Nat.le_of_ble_eq_true rfl⟩, Nat.zero_le _, Nat.zero_le _⟩ dX1_copy_94 ?_
  refine jx_aload_n (pc := 97) (k0 := 1) rfl dX1_copy_97 ?_
  refine ll_gimage_seenPlace (pc := 98) fl_X1_46 dX1_copy_98 ?_
  refine jx_aload_n (pc := 101) (k0 := 0) rfl dX1_copy_101 ?_
  refine ll_gnow_seenPlace (pc := 102) fl_X1_46 dX1_copy_102 ?_
  obtain ⟨q11, eq11, h⟩ := jx_bd_o h
  refine jx_callSv (pc := 105) [.ref (G.2 135), .ref (G.2 115)] (fun sz' => k_X1_copyRow l G (ll_tN t) hG sz' q10 35 15 q11 eq11) ks_X1_78 ll_jok rfl rfl (Nat.le_of_ble_eq_true rfl) ⟨⟨rfl, rfl⟩, ⟨Nat.le_of_ble_eq_true rfl, Nat.le_of_ble_eq_true rfl⟩, Nat.zero_le _, Nat.zero_le _⟩ dX1_copy_105 ?_
  refine jx_aload_n (pc := 108) (k0 := 1) rfl dX1_copy_108 ?_
  refine ll_gimage_seenLamps (pc := 109) fl_X1_49 dX1_copy_109 ?_
  refine jx_aload_n (pc := 112) (k0 := 0) rfl dX1_copy_112 ?_
  refine ll_gnow_seenLamps (pc := 113) fl_X1_49 dX1_copy_113 ?_
  obtain ⟨q12, eq12, h⟩ := jx_bd_o h
  refine jx_callSv (pc := 116) [.ref (G.2 136), .ref (G.2 116)] (fun sz' => k_X1_copyRow l G (ll_tN t) hG sz' q11 36 16 q12 eq12) ks_X1_78 ll_jok rfl rfl (Nat.le_of_ble_eq_true rfl) ⟨⟨rfl, rfl⟩, ⟨Nat.le_of_ble_eq_true rfl, Nat.le_of_ble_eq_true rfl⟩, Nat.zero_le _, Nat.zero_le _⟩ dX1_copy_116 ?_
  refine jx_aload_n (pc := 119) (k0 := 1) rfl dX1_copy_119 ?_
  refine ll_gimage_taleVoter (pc := 120) fl_X1_55 dX1_copy_120 ?_
  refine jx_aload_n (pc := 123) (k0 := 0) rfl dX1_copy_123 ?_
  refine ll_gnow_taleVoter (pc := 124) fl_X1_55 dX1_copy_124 ?_
  obtain ⟨q13, eq13, h⟩ := jx_bd_o h
  refine jx_callSv (pc := 127) [.ref (G.2 137), .ref (G.2 117)] (fun sz' => k_X1_copyRow l G (ll_tN t) hG sz' q12 37 17 q13 eq13) ks_X1_78 ll_jok rfl rfl (Nat.le_of_ble_eq_true rfl) ⟨⟨rfl, rfl⟩, ⟨Nat.le_of_ble_eq_true rfl, Nat.le_of_ble_eq_true rfl⟩, Nat.zero_le _, Nat.zero_le _⟩ dX1_copy_127 ?_
  refine jx_aload_n (pc := 130) (k0 := 1) rfl dX1_copy_130 ?_
  refine ll_gimage_taleMinute (pc := 131) fl_X1_58 dX1_copy_131 ?_
  refine jx_aload_n (pc := 134) (k0 := 0) rfl dX1_copy_134 ?_
  refine ll_gnow_taleMinute (pc := 135) fl_X1_58 dX1_copy_135 ?_
  obtain ⟨q14, eq14, h⟩ := jx_bd_o h
  refine jx_callSv (pc := 138) [.ref (G.2 138), .ref (G.2 118)] (fun sz' => k_X1_copyRow l G (ll_tN t) hG sz' q13 38 18 q14 eq14) ks_X1_78 ll_jok rfl rfl (Nat.le_of_ble_eq_true rfl) ⟨⟨rfl, rfl⟩, ⟨Nat.le_of_ble_eq_true rfl, Nat.le_of_ble_eq_true rfl⟩, Nat.zero_le _, Nat.zero_le _⟩ dX1_copy_138 ?_
  refine jx_aload_n (pc := 141) (k0 := 1) rfl dX1_copy_141 ?_
  refine ll_gimage_talePlace (pc := 142) fl_X1_61 dX1_copy_142 ?_
  refine jx_aload_n (pc := 145) (k0 := 0) rfl dX1_copy_145 ?_
  refine ll_gnow_talePlace (pc := 146) fl_X1_61 dX1_copy_146 ?_
  obtain ⟨q15, eq15, h⟩ := jx_bd_o h
  refine jx_callSv (pc := 149) [.ref (G.2 139), .ref (G.2 119)] (fun sz' => k_X1_copyRow l G (ll_tN t) hG sz' q14 39 19 q15 eq15) ks_X1_78 ll_jok rfl rfl (Nat.le_of_ble_eq_true rfl) ⟨⟨rfl, rfl⟩, ⟨Nat.le_of_ble_eq_true rfl, Nat.le_of_ble_eq_true rfl⟩, Nat.zero_le _, Nat.zero_le _⟩ dX1_copy_149 ?_
  have h := Option.some.inj h
  subst h
  exact jx_vret (pc := 152) dX1_copy_152
