/-! the class's methods: a function on the memory each, and its contract -/
theorem dX1_crowded_0 : decode cX1_crowded 0 = .ok (.iconst 0, 1) := by decide +kernel
theorem dX1_crowded_1 : decode cX1_crowded 1 = .ok (.istore_n 1, 1) := by decide +kernel
theorem dX1_crowded_2 : decode cX1_crowded 2 = .ok (.iconst 1, 1) := by decide +kernel
theorem dX1_crowded_3 : decode cX1_crowded 3 = .ok (.istore_n 2, 1) := by decide +kernel
theorem dX1_crowded_4 : decode cX1_crowded 4 = .ok (.iload_n 2, 1) := by decide +kernel
theorem dX1_crowded_5 : decode cX1_crowded 5 = .ok (.aload_n 0, 1) := by decide +kernel
theorem dX1_crowded_6 : decode cX1_crowded 6 = .ok (.getfield 71, 3) := by decide +kernel
theorem dX1_crowded_9 : decode cX1_crowded 9 = .ok (.if_icmp .ge 24, 3) := by decide +kernel
theorem dX1_crowded_12 : decode cX1_crowded 12 = .ok (.aload_n 0, 1) := by decide +kernel
theorem dX1_crowded_13 : decode cX1_crowded 13 = .ok (.iload_n 2, 1) := by decide +kernel
theorem dX1_crowded_14 : decode cX1_crowded 14 = .ok (.invokevirtual 118, 3) := by decide +kernel
theorem dX1_crowded_17 : decode cX1_crowded 17 = .ok (.aload_n 0, 1) := by decide +kernel
theorem dX1_crowded_18 : decode cX1_crowded 18 = .ok (.iload_n 1, 1) := by decide +kernel
theorem dX1_crowded_19 : decode cX1_crowded 19 = .ok (.invokevirtual 118, 3) := by decide +kernel
theorem dX1_crowded_22 : decode cX1_crowded 22 = .ok (.if_icmp .le 5, 3) := by decide +kernel
theorem dX1_crowded_25 : decode cX1_crowded 25 = .ok (.iload_n 2, 1) := by decide +kernel
theorem dX1_crowded_26 : decode cX1_crowded 26 = .ok (.istore_n 1, 1) := by decide +kernel
theorem dX1_crowded_27 : decode cX1_crowded 27 = .ok (.iinc 2 1, 3) := by decide +kernel
theorem dX1_crowded_30 : decode cX1_crowded 30 = .ok (.goto (-26), 3) := by decide +kernel
theorem dX1_crowded_33 : decode cX1_crowded 33 = .ok (.iload_n 1, 1) := by decide +kernel
theorem dX1_crowded_34 : decode cX1_crowded 34 = .ok (.ireturn, 1) := by decide +kernel
abbrev rm_X1_crowded : Room := { frames := 1, cells := 0, slots := 0, locals := 23 }
abbrev jJ_X1_crowded (l : Launch) (G : jx_G) (t : jx_T) (sz : Nat) (σ0 : jx_M) (out : Int32) (pc : Nat) (lv : List (Nat × Value)) (st : List Value) (σ : jx_M) : Prop := jx_J l (ll_env G t) (ll_dyn G t) (ll_rg G) sz RX1 "crowded" cX1_crowded 3 (some .int) rm_X1_crowded (fun below args s => MQ below (jx_Qi (ll_dyn G t) σ0 out (jx_A (ll_rg G) sz)) args s 0 0 (jx_A (ll_rg G) sz)) 0 0 pc lv st σ
def b_X1_crowded_27 (t : jx_T) (k4 : jx_M → Int32 → Int32 → Option Int32) (σ : jx_M) (v1 : Int32) (v2 : Int32) : Option Int32 :=
  jx_lt (v2 + (1 : Int32)) (fun x1 => (k4 σ v1 x1))
set_option maxHeartbeats 4000000 in
set_option maxRecDepth 100000 in
theorem jb_X1_crowded_27 (l : Launch) (G : jx_G) (t : jx_T) (hG : ll_ok G) (sz : Nat) (σ0 : jx_M) (out : Int32) (k4 : jx_M → Int32 → Int32 → Option Int32) (h4 : ∀ (σ : jx_M) (v1 : Int32) (v2 : Int32), σ = σ0 → k4 σ v1 v2 = some out → jJ_X1_crowded l G t sz σ0 out 4 [(0, .ref (G.2 21)), (1, .int v1), (2, .int v2)] [] σ) (σ : jx_M) (v1 : Int32) (v2 : Int32) (e0 : σ = σ0) (h : b_X1_crowded_27 t k4 σ v1 v2 = some out) : jJ_X1_crowded l G t sz σ0 out 27 [(0, .ref (G.2 21)), (1, .int v1), (2, .int v2)] [] σ := by
  unfold b_X1_crowded_27 at h
  obtain ⟨x1, ex1, h⟩ := jx_lt_o h
  refine jx_iinc (pc := 27) (i := 2) (v := v2) rfl ex1 (n := 1) (by decide) (by decide) (lv' := [(2, .int x1), (0, .ref (G.2 21)), (1, .int v1)]) rfl dX1_crowded_27 ?_
  refine jx_goto (pc := 30) (tgt := 4) dX1_crowded_30 (by decide) ?_
  exact jx_sub [1, 2, 0] rfl (h4 σ v1 x1 e0 h)
def g_X1_crowded_4 (t : jx_T) (k4 : jx_M → Int32 → Int32 → Option Int32) (σ : jx_M) (v1 : Int32) (v2 : Int32) : Option Int32 :=
  if (σ 0 0) ≤ v2 then some v1 else jx_bd (f_X1_living t σ v2) (fun q2 => jx_bd (f_X1_living t σ v1) (fun q3 => if q2 ≤ q3 then (b_X1_crowded_27 t k4 σ v1 v2) else (b_X1_crowded_27 t k4 σ v2 v2)))
set_option maxHeartbeats 4000000 in
set_option maxRecDepth 100000 in
theorem jg_X1_crowded_4 (l : Launch) (G : jx_G) (t : jx_T) (hG : ll_ok G) (sz : Nat) (σ0 : jx_M) (out : Int32) (k4 : jx_M → Int32 → Int32 → Option Int32) (h4 : ∀ (σ : jx_M) (v1 : Int32) (v2 : Int32), σ = σ0 → k4 σ v1 v2 = some out → jJ_X1_crowded l G t sz σ0 out 4 [(0, .ref (G.2 21)), (1, .int v1), (2, .int v2)] [] σ) (σ : jx_M) (v1 : Int32) (v2 : Int32) (e0 : σ = σ0) (h : g_X1_crowded_4 t k4 σ v1 v2 = some out) : jJ_X1_crowded l G t sz σ0 out 4 [(0, .ref (G.2 21)), (1, .int v1), (2, .int v2)] [] σ := by
  unfold g_X1_crowded_4 at h
  refine jx_iload_n (pc := 4) (k0 := 2) rfl dX1_crowded_4 ?_
  refine jx_aload_n (pc := 5) (k0 := 0) rfl dX1_crowded_5 ?_
  refine ll_gnow_places (pc := 6) fl_X1_71 dX1_crowded_6 ?_
  refine jx_icmp_ge (pc := 9) (tgt := 33) dX1_crowded_9 (by decide) (fun c1 => ?_) (fun c1 => ?_)
  · have h := jx_t c1 h
    refine jx_iload_n (pc := 33) (k0 := 1) rfl dX1_crowded_33 ?_
    subst e0
    have h := Option.some.inj h
    subst h
    exact jx_iret (pc := 34) dX1_crowded_34
  · have h := jx_f c1 h
    refine jx_aload_n (pc := 12) (k0 := 0) rfl dX1_crowded_12 ?_
    refine jx_iload_n (pc := 13) (k0 := 2) rfl dX1_crowded_13 ?_
    obtain ⟨q2, eq2, h⟩ := jx_bd_o h
    refine jx_callVi (pc := 14) [.int v2] (fun sz' => k_X1_living l G t hG sz' σ v2 q2 eq2) kv_X1_118 ll_jok ll_rcnow rfl rfl (Nat.le_of_ble_eq_true rfl) ⟨⟨rfl, rfl⟩, ⟨Nat.le_of_ble_eq_true rfl, Nat.le_of_ble_eq_true rfl⟩, Nat.zero_le _, Nat.zero_le _⟩ dX1_crowded_14 ?_
    refine jx_aload_n (pc := 17) (k0 := 0) rfl dX1_crowded_17 ?_
    refine jx_iload_n (pc := 18) (k0 := 1) rfl dX1_crowded_18 ?_
    obtain ⟨q3, eq3, h⟩ := jx_bd_o h
    refine jx_callVi (pc := 19) [.int v1] (fun sz' => k_X1_living l G t hG sz' σ v1 q3 eq3) kv_X1_118 ll_jok ll_rcnow rfl rfl (Nat.le_of_ble_eq_true rfl) ⟨⟨rfl, rfl⟩, ⟨Nat.le_of_ble_eq_true rfl, Nat.le_of_ble_eq_true rfl⟩, Nat.zero_le _, Nat.zero_le _⟩ dX1_crowded_19 ?_
    refine jx_icmp_le (pc := 22) (tgt := 27) dX1_crowded_22 (by decide) (fun c4 => ?_) (fun c4 => ?_)
    · have h := jx_t c4 h
      exact jx_sub [0, 1, 2] rfl (jb_X1_crowded_27 l G t hG sz σ0 out k4 h4 σ v1 v2 e0 h)
    · have h := jx_f c4 h
      refine jx_iload_n (pc := 25) (k0 := 2) rfl dX1_crowded_25 ?_
      refine jx_istore_n (pc := 26) (i := 1) rfl rfl (by decide) (lv' := [(1, .int v2), (0, .ref (G.2 21)), (2, .int v2)]) rfl dX1_crowded_26 ?_
      exact jx_sub [1, 0, 2] rfl (jb_X1_crowded_27 l G t hG sz σ0 out k4 h4 σ v2 v2 e0 h)
def b_X1_crowded_4 (t : jx_T)  : Nat → jx_M → Int32 → Int32 → Option Int32
  | 0, _, _, _ => none
  | n + 1, σ, v1, v2 => g_X1_crowded_4 t (b_X1_crowded_4 t n) σ v1 v2
theorem jb_X1_crowded_4 (l : Launch) (G : jx_G) (t : jx_T) (hG : ll_ok G) (sz : Nat) (σ0 : jx_M) (out : Int32)  : ∀ (n : Nat) (σ : jx_M) (v1 : Int32) (v2 : Int32), σ = σ0 → b_X1_crowded_4 t n σ v1 v2 = some out → jJ_X1_crowded l G t sz σ0 out 4 [(0, .ref (G.2 21)), (1, .int v1), (2, .int v2)] [] σ := by
  intro n
  induction n with
  | zero =>
    intro σ v1 v2 e0 h
    cases h
  | succ n ih =>
    intro σ v1 v2 e0 h
    exact jg_X1_crowded_4 l G t hG sz σ0 out (b_X1_crowded_4 t n) ih σ v1 v2 e0 h
def f_X1_crowded (t : jx_T) (σ : jx_M)  : Option Int32 :=
  (b_X1_crowded_4 t jx_fuel σ (0 : Int32) (1 : Int32))
set_option maxHeartbeats 4000000 in
set_option maxRecDepth 100000 in
theorem k_X1_crowded (l : Launch) (G : jx_G) (t : jx_T) (hG : ll_ok G) (sz : Nat) (σ : jx_M)  (out : Int32) (h : f_X1_crowded t σ = some out) : Met l yX1_crowded (Cond.code yX1_crowded cX1_crowded 3 (some .int) :: jx_ws) rm_X1_crowded (jx_Pc (ll_env G t) (ll_dyn G t) (ll_rg G) sz σ [.ref (G.2 21)]) (jx_Qi (ll_dyn G t) σ out (jx_A (ll_rg G) sz)) 0 0 (jx_A (ll_rg G) sz) := by
  unfold f_X1_crowded at h
  refine jx_met (by decide) (Nat.le_of_ble_eq_true rfl) ?_
  refine jx_sub (lv' := [(0, .ref (G.2 21))]) [0] rfl ?_
  refine jx_iconst (pc := 0) (v := (0 : Int32)) (by decide) dX1_crowded_0 ?_
  refine jx_istore_n (pc := 1) (i := 1) rfl rfl (by decide) (lv' := [(1, .int (0 : Int32)), (0, .ref (G.2 21))]) rfl dX1_crowded_1 ?_
  refine jx_iconst (pc := 2) (v := (1 : Int32)) (by decide) dX1_crowded_2 ?_
  refine jx_istore_n (pc := 3) (i := 2) rfl rfl (by decide) (lv' := [(2, .int (1 : Int32)), (1, .int (0 : Int32)), (0, .ref (G.2 21))]) rfl dX1_crowded_3 ?_
  exact jx_sub [2, 1, 0] rfl (jb_X1_crowded_4 l G t hG sz σ out jx_fuel σ (0 : Int32) (1 : Int32) rfl h)
theorem dX2_burns_0 : decode cX2_burns 0 = .ok (.aload_n 0, 1) := by decide +kernel
theorem dX2_burns_1 : decode cX2_burns 1 = .ok (.getfield 36, 3) := by decide +kernel
theorem dX2_burns_4 : decode cX2_burns 4 = .ok (.getfield 55, 3) := by decide +kernel
theorem dX2_burns_7 : decode cX2_burns 7 = .ok (.iload_n 1, 1) := by decide +kernel
theorem dX2_burns_8 : decode cX2_burns 8 = .ok (.aaload, 1) := by decide +kernel
theorem dX2_burns_9 : decode cX2_burns 9 = .ok (.iconst 4, 1) := by decide +kernel
theorem dX2_burns_10 : decode cX2_burns 10 = .ok (.iaload, 1) := by decide +kernel
theorem dX2_burns_11 : decode cX2_burns 11 = .ok (.aload_n 0, 1) := by decide +kernel
theorem dX2_burns_12 : decode cX2_burns 12 = .ok (.getfield 16, 3) := by decide +kernel
theorem dX2_burns_15 : decode cX2_burns 15 = .ok (.aload_n 0, 1) := by decide +kernel
theorem dX2_burns_16 : decode cX2_burns 16 = .ok (.getfield 36, 3) := by decide +kernel
theorem dX2_burns_19 : decode cX2_burns 19 = .ok (.iload_n 1, 1) := by decide +kernel
theorem dX2_burns_20 : decode cX2_burns 20 = .ok (.invokevirtual 58, 3) := by decide +kernel
theorem dX2_burns_23 : decode cX2_burns 23 = .ok (.aaload, 1) := by decide +kernel
theorem dX2_burns_24 : decode cX2_burns 24 = .ok (.iload_n 2, 1) := by decide +kernel
theorem dX2_burns_25 : decode cX2_burns 25 = .ok (.iaload, 1) := by decide +kernel
theorem dX2_burns_26 : decode cX2_burns 26 = .ok (.iadd, 1) := by decide +kernel
theorem dX2_burns_27 : decode cX2_burns 27 = .ok (.istore_n 3, 1) := by decide +kernel
theorem dX2_burns_28 : decode cX2_burns 28 = .ok (.iload_n 3, 1) := by decide +kernel
theorem dX2_burns_29 : decode cX2_burns 29 = .ok (.bipush 12, 2) := by decide +kernel
theorem dX2_burns_31 : decode cX2_burns 31 = .ok (.invokestatic 62, 3) := by decide +kernel
theorem dX2_burns_34 : decode cX2_burns 34 = .ok (.ireturn, 1) := by decide +kernel
abbrev rm_X2_burns : Room := { frames := 1, cells := 0, slots := 0, locals := 22 }
abbrev jJ_X2_burns (l : Launch) (G : jx_G) (t : jx_T) (sz : Nat) (σ0 : jx_M) (out : Int32) (pc : Nat) (lv : List (Nat × Value)) (st : List Value) (σ : jx_M) : Prop := jx_J l (ll_env G t) (ll_dyn G t) (ll_rg G) sz RX2 "burns" cX2_burns 4 (some .int) rm_X2_burns (fun below args s => MQ below (jx_Qi (ll_dyn G t) σ0 out (jx_A (ll_rg G) sz)) args s 0 0 (jx_A (ll_rg G) sz)) 0 0 pc lv st σ
def f_X2_burns (t : jx_T) (σ : jx_M) (a1 : Int32) (a2 : Int32) : Option Int32 :=
  jx_gd (jx_in a1 6) (jx_gd (jx_in (4 : Int32) (ll_len (8 + a1.toNatClampNeg))) (jx_bd (f_X1_delay t σ a1) (fun q3 => jx_gd (jx_in q3 3) (jx_gd (jx_in a2 (ll_len (53 + q3.toNatClampNeg))) (jx_lt (((σ (8 + a1.toNatClampNeg) 4) + (σ (53 + q3.toNatClampNeg) a2.toNatClampNeg))) (fun x6 => some (if (12 : Int32) < x6 then (12 : Int32) else x6)))))))
set_option maxHeartbeats 4000000 in
set_option maxRecDepth 100000 in
theorem k_X2_burns (l : Launch) (G : jx_G) (t : jx_T) (hG : ll_ok G) (sz : Nat) (σ : jx_M) (a1 : Int32) (a2 : Int32) (out : Int32) (h : f_X2_burns t σ a1 a2 = some out) : Met l yX2_burns (Cond.code yX2_burns cX2_burns 4 (some .int) :: jx_ws) rm_X2_burns (jx_Pc (ll_env G t) (ll_dyn G t) (ll_rg G) sz σ [.ref (G.2 23), .int a1, .int a2]) (jx_Qi (ll_dyn G t) σ out (jx_A (ll_rg G) sz)) 0 0 (jx_A (ll_rg G) sz) := by
  unfold f_X2_burns at h
  refine jx_met (by decide) (Nat.le_of_ble_eq_true rfl) ?_
  refine jx_sub (lv' := [(0, .ref (G.2 23)), (1, .int a1), (2, .int a2)]) [0, 1, 2] rfl ?_
  refine jx_aload_n (pc := 0) (k0 := 0) rfl dX2_burns_0 ?_
  refine ll_gnight_canal (pc := 1) fl_X2_36 dX2_burns_1 ?_
  refine ll_gnow_voter (pc := 4) fl_X2_55 dX2_burns_4 ?_
  refine jx_iload_n (pc := 7) (k0 := 1) rfl dX2_burns_7 ?_
  obtain ⟨g1, h⟩ := jx_gd_o h
  refine ll_a_now_voter (pc := 8) (jx_in_o g1) dX2_burns_8 ?_
  refine jx_iconst (pc := 9) (v := (4 : Int32)) (by decide) dX2_burns_9 ?_
  obtain ⟨g2, h⟩ := jx_gd_o h
  refine ll_l (pc := 10) (k := (8 + a1.toNatClampNeg)) (j := 4) (jx_in_o g2) (by decide) dX2_burns_10 ?_
  refine jx_aload_n (pc := 11) (k0 := 0) rfl dX2_burns_11 ?_
  refine ll_gnight_filled (pc := 12) fl_X2_16 dX2_burns_12 ?_
  refine jx_aload_n (pc := 15) (k0 := 0) rfl dX2_burns_15 ?_
  refine ll_gnight_canal (pc := 16) fl_X2_36 dX2_burns_16 ?_
  refine jx_iload_n (pc := 19) (k0 := 1) rfl dX2_burns_19 ?_
  obtain ⟨q3, eq3, h⟩ := jx_bd_o h
  refine jx_callVi (pc := 20) [.int a1] (fun sz' => k_X1_delay l G t hG sz' σ a1 q3 eq3) kv_X2_58 ll_jok ll_rcnow rfl rfl (Nat.le_of_ble_eq_true rfl) ⟨⟨rfl, rfl⟩, ⟨Nat.le_of_ble_eq_true rfl, Nat.le_of_ble_eq_true rfl⟩, Nat.zero_le _, Nat.zero_le _⟩ dX2_burns_20 ?_
  obtain ⟨g4, h⟩ := jx_gd_o h
  refine ll_a_night_filled (pc := 23) (jx_in_o g4) dX2_burns_23 ?_
  refine jx_iload_n (pc := 24) (k0 := 2) rfl dX2_burns_24 ?_
  obtain ⟨g5, h⟩ := jx_gd_o h
  refine ll_l (pc := 25) (k := (53 + q3.toNatClampNeg)) (jx_in_o g5) rfl dX2_burns_25 ?_
  refine jx_iadd (pc := 26) dX2_burns_26 ?_
  obtain ⟨x6, ex6, h⟩ := jx_lt_o h
  refine jx_istore_n (pc := 27) (i := 3) rfl ex6 (by decide) (lv' := [(3, .int x6), (0, .ref (G.2 23)), (1, .int a1), (2, .int a2)]) rfl dX2_burns_27 ?_
  refine jx_iload_n (pc := 28) (k0 := 3) rfl dX2_burns_28 ?_
  refine jx_bipush (pc := 29) (v := (12 : Int32)) (by decide) dX2_burns_29 ?_
  refine jx_mmin (pc := 31) km_X2_62.1 km_X2_62.2.1 km_X2_62.2.2.1 km_X2_62.2.2.2 (Nat.le_of_ble_eq_true rfl) (Nat.le_of_ble_eq_true rfl) (Nat.zero_le _) (Nat.zero_le _) dX2_burns_31 ?_
  have h := Option.some.inj h
  subst h
  exact jx_iret (pc := 34) dX2_burns_34
theorem dX2_mayor_0 : decode cX2_mayor 0 = .ok (.aload_n 0, 1) := by decide +kernel
theorem dX2_mayor_1 : decode cX2_mayor 1 = .ok (.iload_n 1, 1) := by decide +kernel
theorem dX2_mayor_2 : decode cX2_mayor 2 = .ok (.invokevirtual 90, 3) := by decide +kernel
theorem dX2_mayor_5 : decode cX2_mayor 5 = .ok (.invokestatic 93, 3) := by decide +kernel
theorem dX2_mayor_8 : decode cX2_mayor 8 = .ok (.ireturn, 1) := by decide +kernel
abbrev rm_X2_mayor : Room := { frames := 1, cells := 0, slots := 0, locals := 23 }
abbrev jJ_X2_mayor (l : Launch) (G : jx_G) (t : jx_T) (sz : Nat) (σ0 : jx_M) (out : Int32) (pc : Nat) (lv : List (Nat × Value)) (st : List Value) (σ : jx_M) : Prop := jx_J l (ll_env G t) (ll_dyn G t) (ll_rg G) sz RX2 "mayor" cX2_mayor 2 (some .int) rm_X2_mayor (fun below args s => MQ below (jx_Qi (ll_dyn G t) σ0 out (jx_A (ll_rg G) sz)) args s 0 0 (jx_A (ll_rg G) sz)) 0 0 pc lv st σ
def f_X2_mayor (t : jx_T) (σ : jx_M) (a1 : Int32) : Option Int32 :=
  jx_bd (f_X2_lead t σ a1) (fun q1 => jx_bd (f_X2_winnerBy q1) (fun q2 => some q2))
set_option maxHeartbeats 4000000 in
set_option maxRecDepth 100000 in
theorem k_X2_mayor (l : Launch) (G : jx_G) (t : jx_T) (hG : ll_ok G) (sz : Nat) (σ : jx_M) (a1 : Int32) (out : Int32) (h : f_X2_mayor t σ a1 = some out) : Met l yX2_mayor (Cond.code yX2_mayor cX2_mayor 2 (some .int) :: jx_ws) rm_X2_mayor (jx_Pc (ll_env G t) (ll_dyn G t) (ll_rg G) sz σ [.ref (G.2 23), .int a1]) (jx_Qi (ll_dyn G t) σ out (jx_A (ll_rg G) sz)) 0 0 (jx_A (ll_rg G) sz) := by
  unfold f_X2_mayor at h
  refine jx_met (by decide) (Nat.le_of_ble_eq_true rfl) ?_
  refine jx_sub (lv' := [(0, .ref (G.2 23)), (1, .int a1)]) [0, 1] rfl ?_
  refine jx_aload_n (pc := 0) (k0 := 0) rfl dX2_mayor_0 ?_
  refine jx_iload_n (pc := 1) (k0 := 1) rfl dX2_mayor_1 ?_
  obtain ⟨q1, eq1, h⟩ := jx_bd_o h
  refine jx_callVi (pc := 2) [.int a1] (fun sz' => k_X2_lead l G t hG sz' σ a1 q1 eq1) kv_X2_90 ll_jok ll_rcnight rfl rfl (Nat.le_of_ble_eq_true rfl) ⟨⟨rfl, rfl⟩, ⟨Nat.le_of_ble_eq_true rfl, Nat.le_of_ble_eq_true rfl⟩, Nat.zero_le _, Nat.zero_le _⟩ dX2_mayor_2 ?_
  obtain ⟨q2, eq2, h⟩ := jx_bd_o h
  refine jx_callSi (pc := 5) [.int q1] (fun sz' => k_X2_winnerBy l G t hG sz' σ q1 q2 eq2) ks_X2_93 ll_jok rfl rfl (Nat.le_of_ble_eq_true rfl) ⟨⟨rfl, rfl⟩, ⟨Nat.le_of_ble_eq_true rfl, Nat.le_of_ble_eq_true rfl⟩, Nat.zero_le _, Nat.zero_le _⟩ dX2_mayor_5 ?_
  have h := Option.some.inj h
  subst h
  exact jx_iret (pc := 8) dX2_mayor_8
theorem dX2_leadOf_0 : decode cX2_leadOf 0 = .ok (.aload_n 0, 1) := by decide +kernel
theorem dX2_leadOf_1 : decode cX2_leadOf 1 = .ok (.aload_n 0, 1) := by decide +kernel
theorem dX2_leadOf_2 : decode cX2_leadOf 2 = .ok (.getfield 36, 3) := by decide +kernel
theorem dX2_leadOf_5 : decode cX2_leadOf 5 = .ok (.invokevirtual 96, 3) := by decide +kernel
theorem dX2_leadOf_8 : decode cX2_leadOf 8 = .ok (.invokevirtual 90, 3) := by decide +kernel
theorem dX2_leadOf_11 : decode cX2_leadOf 11 = .ok (.istore_n 2, 1) := by decide +kernel
theorem dX2_leadOf_12 : decode cX2_leadOf 12 = .ok (.aload_n 0, 1) := by decide +kernel
theorem dX2_leadOf_13 : decode cX2_leadOf 13 = .ok (.getfield 36, 3) := by decide +kernel
theorem dX2_leadOf_16 : decode cX2_leadOf 16 = .ok (.getfield 55, 3) := by decide +kernel
theorem dX2_leadOf_19 : decode cX2_leadOf 19 = .ok (.iload_n 1, 1) := by decide +kernel
theorem dX2_leadOf_20 : decode cX2_leadOf 20 = .ok (.aaload, 1) := by decide +kernel
theorem dX2_leadOf_21 : decode cX2_leadOf 21 = .ok (.iconst 3, 1) := by decide +kernel
theorem dX2_leadOf_22 : decode cX2_leadOf 22 = .ok (.iaload, 1) := by decide +kernel
theorem dX2_leadOf_23 : decode cX2_leadOf 23 = .ok (.iconst 1, 1) := by decide +kernel
theorem dX2_leadOf_24 : decode cX2_leadOf 24 = .ok (.if_icmp .ne 7, 3) := by decide +kernel
theorem dX2_leadOf_27 : decode cX2_leadOf 27 = .ok (.iload_n 2, 1) := by decide +kernel
theorem dX2_leadOf_28 : decode cX2_leadOf 28 = .ok (.goto 5, 3) := by decide +kernel
theorem dX2_leadOf_31 : decode cX2_leadOf 31 = .ok (.iload_n 2, 1) := by decide +kernel
theorem dX2_leadOf_32 : decode cX2_leadOf 32 = .ok (.ineg, 1) := by decide +kernel
theorem dX2_leadOf_33 : decode cX2_leadOf 33 = .ok (.ireturn, 1) := by decide +kernel
abbrev rm_X2_leadOf : Room := { frames := 1, cells := 0, slots := 0, locals := 23 }
abbrev jJ_X2_leadOf (l : Launch) (G : jx_G) (t : jx_T) (sz : Nat) (σ0 : jx_M) (out : Int32) (pc : Nat) (lv : List (Nat × Value)) (st : List Value) (σ : jx_M) : Prop := jx_J l (ll_env G t) (ll_dyn G t) (ll_rg G) sz RX2 "leadOf" cX2_leadOf 3 (some .int) rm_X2_leadOf (fun below args s => MQ below (jx_Qi (ll_dyn G t) σ0 out (jx_A (ll_rg G) sz)) args s 0 0 (jx_A (ll_rg G) sz)) 0 0 pc lv st σ
def f_X2_leadOf (t : jx_T) (σ : jx_M) (a1 : Int32) : Option Int32 :=
  jx_bd (f_X1_wishes t σ) (fun q1 => jx_bd (f_X2_lead t σ q1) (fun q2 => jx_gd (jx_in a1 6) (jx_gd (jx_in (3 : Int32) (ll_len (8 + a1.toNatClampNeg))) (if (σ (8 + a1.toNatClampNeg) 3) = (1 : Int32) then some q2 else some (-q2)))))
set_option maxHeartbeats 4000000 in
set_option maxRecDepth 100000 in
theorem k_X2_leadOf (l : Launch) (G : jx_G) (t : jx_T) (hG : ll_ok G) (sz : Nat) (σ : jx_M) (a1 : Int32) (out : Int32) (h : f_X2_leadOf t σ a1 = some out) : Met l yX2_leadOf (Cond.code yX2_leadOf cX2_leadOf 3 (some .int) :: jx_ws) rm_X2_leadOf (jx_Pc (ll_env G t) (ll_dyn G t) (ll_rg G) sz σ [.ref (G.2 23), .int a1]) (jx_Qi (ll_dyn G t) σ out (jx_A (ll_rg G) sz)) 0 0 (jx_A (ll_rg G) sz) := by
  unfold f_X2_leadOf at h
  refine jx_met (by decide) (Nat.le_of_ble_eq_true rfl) ?_
  refine jx_sub (lv' := [(0, .ref (G.2 23)), (1, .int a1)]) [0, 1] rfl ?_
  refine jx_aload_n (pc := 0) (k0 := 0) rfl dX2_leadOf_0 ?_
  refine jx_aload_n (pc := 1) (k0 := 0) rfl dX2_leadOf_1 ?_
  refine ll_gnight_canal (pc := 2) fl_X2_36 dX2_leadOf_2 ?_
  obtain ⟨q1, eq1, h⟩ := jx_bd_o h
  refine jx_callVi (pc := 5) [] (fun sz' => k_X1_wishes l G t hG sz' σ q1 eq1) kv_X2_96 ll_jok ll_rcnow rfl rfl (Nat.le_of_ble_eq_true rfl) ⟨⟨rfl, rfl⟩, ⟨Nat.le_of_ble_eq_true rfl, Nat.le_of_ble_eq_true rfl⟩, Nat.zero_le _, Nat.zero_le _⟩ dX2_leadOf_5 ?_
  obtain ⟨q2, eq2, h⟩ := jx_bd_o h
  refine jx_callVi (pc := 8) [.int q1] (fun sz' => k_X2_lead l G t hG sz' σ q1 q2 eq2) kv_X2_90 ll_jok ll_rcnight rfl rfl (Nat.le_of_ble_eq_true rfl) ⟨⟨rfl, rfl⟩, ⟨Nat.le_of_ble_eq_true rfl, Nat.le_of_ble_eq_true rfl⟩, Nat.zero_le _, Nat.zero_le _⟩ dX2_leadOf_8 ?_
  refine jx_istore_n (pc := 11) (i := 2) rfl rfl (by decide) (lv' := [(2, .int q2), (0, .ref (G.2 23)), (1, .int a1)]) rfl dX2_leadOf_11 ?_
  refine jx_aload_n (pc := 12) (k0 := 0) rfl dX2_leadOf_12 ?_
  refine ll_gnight_canal (pc := 13) fl_X2_36 dX2_leadOf_13 ?_
  refine ll_gnow_voter (pc := 16) fl_X2_55 dX2_leadOf_16 ?_
  refine jx_iload_n (pc := 19) (k0 := 1) rfl dX2_leadOf_19 ?_
  obtain ⟨g3, h⟩ := jx_gd_o h
  refine ll_a_now_voter (pc := 20) (jx_in_o g3) dX2_leadOf_20 ?_
  refine jx_iconst (pc := 21) (v := (3 : Int32)) (by decide) dX2_leadOf_21 ?_
  obtain ⟨g4, h⟩ := jx_gd_o h
  refine ll_l (pc := 22) (k := (8 + a1.toNatClampNeg)) (j := 3) (jx_in_o g4) (by decide) dX2_leadOf_22 ?_
  refine jx_iconst (pc := 23) (v := (1 : Int32)) (by decide) dX2_leadOf_23 ?_
  refine jx_icmp_ne (pc := 24) (tgt := 31) dX2_leadOf_24 (by decide) (fun c5 => ?_) (fun c5 => ?_)
  · have h := jx_f c5 h
    refine jx_iload_n (pc := 31) (k0 := 2) rfl dX2_leadOf_31 ?_
    refine jx_ineg (pc := 32) dX2_leadOf_32 ?_
    have h := Option.some.inj h
    subst h
    exact jx_iret (pc := 33) dX2_leadOf_33
  · have h := jx_t c5 h
    refine jx_iload_n (pc := 27) (k0 := 2) rfl dX2_leadOf_27 ?_
    refine jx_goto (pc := 28) (tgt := 33) dX2_leadOf_28 (by decide) ?_
    have h := Option.some.inj h
    subst h
    exact jx_iret (pc := 33) dX2_leadOf_33
theorem dX2_winner_0 : decode cX2_winner 0 = .ok (.iconst 0, 1) := by decide +kernel
theorem dX2_winner_1 : decode cX2_winner 1 = .ok (.istore_n 2, 1) := by decide +kernel
theorem dX2_winner_2 : decode cX2_winner 2 = .ok (.iconst 0, 1) := by decide +kernel
theorem dX2_winner_3 : decode cX2_winner 3 = .ok (.istore_n 3, 1) := by decide +kernel
theorem dX2_winner_4 : decode cX2_winner 4 = .ok (.iload_n 3, 1) := by decide +kernel
theorem dX2_winner_5 : decode cX2_winner 5 = .ok (.aload_n 0, 1) := by decide +kernel
theorem dX2_winner_6 : decode cX2_winner 6 = .ok (.getfield 36, 3) := by decide +kernel
theorem dX2_winner_9 : decode cX2_winner 9 = .ok (.getfield 74, 3) := by decide +kernel
theorem dX2_winner_12 : decode cX2_winner 12 = .ok (.if_icmp .ge 63, 3) := by decide +kernel
theorem dX2_winner_15 : decode cX2_winner 15 = .ok (.aload_n 0, 1) := by decide +kernel
theorem dX2_winner_16 : decode cX2_winner 16 = .ok (.getfield 36, 3) := by decide +kernel
theorem dX2_winner_19 : decode cX2_winner 19 = .ok (.getfield 100, 3) := by decide +kernel
theorem dX2_winner_22 : decode cX2_winner 22 = .ok (.aload_n 0, 1) := by decide +kernel
theorem dX2_winner_23 : decode cX2_winner 23 = .ok (.getfield 30, 3) := by decide +kernel
theorem dX2_winner_26 : decode cX2_winner 26 = .ok (.iload_n 3, 1) := by decide +kernel
theorem dX2_winner_27 : decode cX2_winner 27 = .ok (.iaload, 1) := by decide +kernel
theorem dX2_winner_28 : decode cX2_winner 28 = .ok (.aaload, 1) := by decide +kernel
theorem dX2_winner_29 : decode cX2_winner 29 = .ok (.iconst 2, 1) := by decide +kernel
theorem dX2_winner_30 : decode cX2_winner 30 = .ok (.iaload, 1) := by decide +kernel
theorem dX2_winner_31 : decode cX2_winner 31 = .ok (.iload_n 1, 1) := by decide +kernel
theorem dX2_winner_32 : decode cX2_winner 32 = .ok (.if_icmp .ne 37, 3) := by decide +kernel
theorem dX2_winner_35 : decode cX2_winner 35 = .ok (.iload_n 2, 1) := by decide +kernel
theorem dX2_winner_36 : decode cX2_winner 36 = .ok (.aload_n 0, 1) := by decide +kernel
theorem dX2_winner_37 : decode cX2_winner 37 = .ok (.getfield 36, 3) := by decide +kernel
theorem dX2_winner_40 : decode cX2_winner 40 = .ok (.getfield 55, 3) := by decide +kernel
theorem dX2_winner_43 : decode cX2_winner 43 = .ok (.iload_n 3, 1) := by decide +kernel
theorem dX2_winner_44 : decode cX2_winner 44 = .ok (.aaload, 1) := by decide +kernel
theorem dX2_winner_45 : decode cX2_winner 45 = .ok (.iconst 3, 1) := by decide +kernel
theorem dX2_winner_46 : decode cX2_winner 46 = .ok (.iaload, 1) := by decide +kernel
theorem dX2_winner_47 : decode cX2_winner 47 = .ok (.iconst 1, 1) := by decide +kernel
theorem dX2_winner_48 : decode cX2_winner 48 = .ok (.if_icmp .ne 12, 3) := by decide +kernel
theorem dX2_winner_51 : decode cX2_winner 51 = .ok (.aload_n 0, 1) := by decide +kernel
theorem dX2_winner_52 : decode cX2_winner 52 = .ok (.getfield 33, 3) := by decide +kernel
theorem dX2_winner_55 : decode cX2_winner 55 = .ok (.iload_n 3, 1) := by decide +kernel
theorem dX2_winner_56 : decode cX2_winner 56 = .ok (.iaload, 1) := by decide +kernel
theorem dX2_winner_57 : decode cX2_winner 57 = .ok (.goto 10, 3) := by decide +kernel
theorem dX2_winner_60 : decode cX2_winner 60 = .ok (.aload_n 0, 1) := by decide +kernel
theorem dX2_winner_61 : decode cX2_winner 61 = .ok (.getfield 33, 3) := by decide +kernel
theorem dX2_winner_64 : decode cX2_winner 64 = .ok (.iload_n 3, 1) := by decide +kernel
theorem dX2_winner_65 : decode cX2_winner 65 = .ok (.iaload, 1) := by decide +kernel
theorem dX2_winner_66 : decode cX2_winner 66 = .ok (.ineg, 1) := by decide +kernel
theorem dX2_winner_67 : decode cX2_winner 67 = .ok (.iadd, 1) := by decide +kernel
theorem dX2_winner_68 : decode cX2_winner 68 = .ok (.istore_n 2, 1) := by decide +kernel
theorem dX2_winner_69 : decode cX2_winner 69 = .ok (.iinc 3 1, 3) := by decide +kernel
theorem dX2_winner_72 : decode cX2_winner 72 = .ok (.goto (-68), 3) := by decide +kernel
theorem dX2_winner_75 : decode cX2_winner 75 = .ok (.iload_n 2, 1) := by decide +kernel
theorem dX2_winner_76 : decode cX2_winner 76 = .ok (.invokestatic 93, 3) := by decide +kernel
theorem dX2_winner_79 : decode cX2_winner 79 = .ok (.ireturn, 1) := by decide +kernel
abbrev rm_X2_winner : Room := { frames := 1, cells := 0, slots := 0, locals := 20 }
abbrev jJ_X2_winner (l : Launch) (G : jx_G) (t : jx_T) (sz : Nat) (σ0 : jx_M) (out : Int32) (pc : Nat) (lv : List (Nat × Value)) (st : List Value) (σ : jx_M) : Prop := jx_J l (ll_env G t) (ll_dyn G t) (ll_rg G) sz RX2 "winner" cX2_winner 4 (some .int) rm_X2_winner (fun below args s => MQ below (jx_Qi (ll_dyn G t) σ0 out (jx_A (ll_rg G) sz)) args s 0 0 (jx_A (ll_rg G) sz)) 0 0 pc lv st σ
def b_X2_winner_69 (t : jx_T) (k4 : jx_M → Int32 → Int32 → Int32 → Option Int32) (σ : jx_M) (v1 : Int32) (v2 : Int32) (v3 : Int32) : Option Int32 :=
  jx_lt (v3 + (1 : Int32)) (fun x1 => (k4 σ v1 v2 x1))
set_option maxHeartbeats 4000000 in
set_option maxRecDepth 100000 in
theorem jb_X2_winner_69 (l : Launch) (G : jx_G) (t : jx_T) (hG : ll_ok G) (sz : Nat) (σ0 : jx_M) (out : Int32) (k4 : jx_M → Int32 → Int32 → Int32 → Option Int32) (h4 : ∀ (σ : jx_M) (v1 : Int32) (v2 : Int32) (v3 : Int32), σ = σ0 → k4 σ v1 v2 v3 = some out → jJ_X2_winner l G t sz σ0 out 4 [(0, .ref (G.2 23)), (1, .int v1), (2, .int v2), (3, .int v3)] [] σ) (σ : jx_M) (v1 : Int32) (v2 : Int32) (v3 : Int32) (e0 : σ = σ0) (h : b_X2_winner_69 t k4 σ v1 v2 v3 = some out) : jJ_X2_winner l G t sz σ0 out 69 [(0, .ref (G.2 23)), (1, .int v1), (2, .int v2), (3, .int v3)] [] σ := by
  unfold b_X2_winner_69 at h
  obtain ⟨x1, ex1, h⟩ := jx_lt_o h
  refine jx_iinc (pc := 69) (i := 3) (v := v3) rfl ex1 (n := 1) (by decide) (by decide) (lv' := [(3, .int x1), (0, .ref (G.2 23)), (1, .int v1), (2, .int v2)]) rfl dX2_winner_69 ?_
  refine jx_goto (pc := 72) (tgt := 4) dX2_winner_72 (by decide) ?_
  exact jx_sub [1, 2, 3, 0] rfl (h4 σ v1 v2 x1 e0 h)
def b_X2_winner_67 (t : jx_T) (k4 : jx_M → Int32 → Int32 → Int32 → Option Int32) (σ : jx_M) (v1 : Int32) (v3 : Int32) (s0 : Int32) (s1 : Int32) : Option Int32 :=
  jx_lt ((s1 + s0)) (fun x1 => (b_X2_winner_69 t k4 σ v1 x1 v3))
set_option maxHeartbeats 4000000 in
set_option maxRecDepth 100000 in
theorem jb_X2_winner_67 (l : Launch) (G : jx_G) (t : jx_T) (hG : ll_ok G) (sz : Nat) (σ0 : jx_M) (out : Int32) (k4 : jx_M → Int32 → Int32 → Int32 → Option Int32) (h4 : ∀ (σ : jx_M) (v1 : Int32) (v2 : Int32) (v3 : Int32), σ = σ0 → k4 σ v1 v2 v3 = some out → jJ_X2_winner l G t sz σ0 out 4 [(0, .ref (G.2 23)), (1, .int v1), (2, .int v2), (3, .int v3)] [] σ) (σ : jx_M) (v1 : Int32) (v3 : Int32) (s0 : Int32) (s1 : Int32) (e0 : σ = σ0) (h : b_X2_winner_67 t k4 σ v1 v3 s0 s1 = some out) : jJ_X2_winner l G t sz σ0 out 67 [(0, .ref (G.2 23)), (1, .int v1), (3, .int v3)] [.int s0, .int s1] σ := by
  unfold b_X2_winner_67 at h
  refine jx_iadd (pc := 67) dX2_winner_67 ?_
  obtain ⟨x1, ex1, h⟩ := jx_lt_o h
  refine jx_istore_n (pc := 68) (i := 2) rfl ex1 (by decide) (lv' := [(2, .int x1), (0, .ref (G.2 23)), (1, .int v1), (3, .int v3)]) rfl dX2_winner_68 ?_
  exact jx_sub [1, 2, 0, 3] rfl (jb_X2_winner_69 l G t hG sz σ0 out k4 h4 σ v1 x1 v3 e0 h)
def g_X2_winner_4 (t : jx_T) (k4 : jx_M → Int32 → Int32 → Int32 → Option Int32) (σ : jx_M) (v1 : Int32) (v2 : Int32) (v3 : Int32) : Option Int32 :=
  if (σ 0 2) ≤ v3 then jx_bd (f_X2_winnerBy v2) (fun q2 => some q2) else jx_gd (jx_in v3 6) (jx_gd (jx_in (σ 58 v3.toNatClampNeg) 7) (jx_gd (jx_in (2 : Int32) (ll_len (1 + (σ 58 v3.toNatClampNeg).toNatClampNeg))) (if (σ (1 + (σ 58 v3.toNatClampNeg).toNatClampNeg) 2) = v1 then jx_gd (jx_in v3 6) (jx_gd (jx_in (3 : Int32) (ll_len (8 + v3.toNatClampNeg))) (if (σ (8 + v3.toNatClampNeg) 3) = (1 : Int32) then jx_gd (jx_in v3 6) ((b_X2_winner_67 t k4 σ v1 v3 (σ 59 v3.toNatClampNeg) v2)) else jx_gd (jx_in v3 6) ((b_X2_winner_67 t k4 σ v1 v3 (-(σ 59 v3.toNatClampNeg)) v2)))) else (b_X2_winner_69 t k4 σ v1 v2 v3))))
set_option maxHeartbeats 4000000 in
set_option maxRecDepth 100000 in
theorem jg_X2_winner_4 (l : Launch) (G : jx_G) (t : jx_T) (hG : ll_ok G) (sz : Nat) (σ0 : jx_M) (out : Int32) (k4 : jx_M → Int32 → Int32 → Int32 → Option Int32) (h4 : ∀ (σ : jx_M) (v1 : Int32) (v2 : Int32) (v3 : Int32), σ = σ0 → k4 σ v1 v2 v3 = some out → jJ_X2_winner l G t sz σ0 out 4 [(0, .ref (G.2 23)), (1, .int v1), (2, .int v2), (3, .int v3)] [] σ) (σ : jx_M) (v1 : Int32) (v2 : Int32) (v3 : Int32) (e0 : σ = σ0) (h : g_X2_winner_4 t k4 σ v1 v2 v3 = some out) : jJ_X2_winner l G t sz σ0 out 4 [(0, .ref (G.2 23)), (1, .int v1), (2, .int v2), (3, .int v3)] [] σ := by
  unfold g_X2_winner_4 at h
  refine jx_iload_n (pc := 4) (k0 := 3) rfl dX2_winner_4 ?_
  refine jx_aload_n (pc := 5) (k0 := 0) rfl dX2_winner_5 ?_
  refine ll_gnight_canal (pc := 6) fl_X2_36 dX2_winner_6 ?_
  refine ll_gnow_voters (pc := 9) fl_X2_74 dX2_winner_9 ?_
  refine jx_icmp_ge (pc := 12) (tgt := 75) dX2_winner_12 (by decide) (fun c1 => ?_) (fun c1 => ?_)
  · have h := jx_t c1 h
    refine jx_iload_n (pc := 75) (k0 := 2) rfl dX2_winner_75 ?_
    obtain ⟨q2, eq2, h⟩ := jx_bd_o h
    refine jx_callSi (pc := 76) [.int v2] (fun sz' => k_X2_winnerBy l G t hG sz' σ v2 q2 eq2) ks_X2_93 ll_jok rfl rfl (Nat.le_of_ble_eq_true rfl) ⟨⟨rfl, rfl⟩, ⟨Nat.le_of_ble_eq_true rfl, Nat.le_of_ble_eq_true rfl⟩, Nat.zero_le _, Nat.zero_le _⟩ dX2_winner_76 ?_
    subst e0
    have h := Option.some.inj h
    subst h
    exact jx_iret (pc := 79) dX2_winner_79
  · have h := jx_f c1 h
    refine jx_aload_n (pc := 15) (k0 := 0) rfl dX2_winner_15 ?_
    refine ll_gnight_canal (pc := 16) fl_X2_36 dX2_winner_16 ?_
    refine ll_gnow_place (pc := 19) fl_X2_100 dX2_winner_19 ?_
    refine jx_aload_n (pc := 22) (k0 := 0) rfl dX2_winner_22 ?_
    refine ll_gnight_lie (pc := 23) fl_X2_30 dX2_winner_23 ?_
    refine jx_iload_n (pc := 26) (k0 := 3) rfl dX2_winner_26 ?_
    obtain ⟨g3, h⟩ := jx_gd_o h
    refine ll_l (pc := 27) (k := 58) (jx_in_o g3) rfl dX2_winner_27 ?_
    obtain ⟨g4, h⟩ := jx_gd_o h
    refine ll_a_now_place (pc := 28) (jx_in_o g4) dX2_winner_28 ?_
    refine jx_iconst (pc := 29) (v := (2 : Int32)) (by decide) dX2_winner_29 ?_
    obtain ⟨g5, h⟩ := jx_gd_o h
    refine ll_l (pc := 30) (k := (1 + (σ 58 v3.toNatClampNeg).toNatClampNeg)) (j := 2) (jx_in_o g5) (by decide) dX2_winner_30 ?_
    refine jx_iload_n (pc := 31) (k0 := 1) rfl dX2_winner_31 ?_
    refine jx_icmp_ne (pc := 32) (tgt := 69) dX2_winner_32 (by decide) (fun c6 => ?_) (fun c6 => ?_)
    · have h := jx_f c6 h
      exact jx_sub [0, 1, 2, 3] rfl (jb_X2_winner_69 l G t hG sz σ0 out k4 h4 σ v1 v2 v3 e0 h)
    · have h := jx_t c6 h
      refine jx_iload_n (pc := 35) (k0 := 2) rfl dX2_winner_35 ?_
      refine jx_aload_n (pc := 36) (k0 := 0) rfl dX2_winner_36 ?_
      refine ll_gnight_canal (pc := 37) fl_X2_36 dX2_winner_37 ?_
      refine ll_gnow_voter (pc := 40) fl_X2_55 dX2_winner_40 ?_
      refine jx_iload_n (pc := 43) (k0 := 3) rfl dX2_winner_43 ?_
      obtain ⟨g7, h⟩ := jx_gd_o h
      refine ll_a_now_voter (pc := 44) (jx_in_o g7) dX2_winner_44 ?_
      refine jx_iconst (pc := 45) (v := (3 : Int32)) (by decide) dX2_winner_45 ?_
      obtain ⟨g8, h⟩ := jx_gd_o h
      refine ll_l (pc := 46) (k := (8 + v3.toNatClampNeg)) (j := 3) (jx_in_o g8) (by decide) dX2_winner_46 ?_
      refine jx_iconst (pc := 47) (v := (1 : Int32)) (by decide) dX2_winner_47 ?_
      refine jx_icmp_ne (pc := 48) (tgt := 60) dX2_winner_48 (by decide) (fun c9 => ?_) (fun c9 => ?_)
      · have h := jx_f c9 h
        refine jx_aload_n (pc := 60) (k0 := 0) rfl dX2_winner_60 ?_
        refine ll_gnight_worth (pc := 61) fl_X2_33 dX2_winner_61 ?_
        refine jx_iload_n (pc := 64) (k0 := 3) rfl dX2_winner_64 ?_
        obtain ⟨g10, h⟩ := jx_gd_o h
        refine ll_l (pc := 65) (k := 59) (jx_in_o g10) rfl dX2_winner_65 ?_
        refine jx_ineg (pc := 66) dX2_winner_66 ?_
        exact jx_sub [0, 1, 3] rfl (jb_X2_winner_67 l G t hG sz σ0 out k4 h4 σ v1 v3 (-(σ 59 v3.toNatClampNeg)) v2 e0 h)
      · have h := jx_t c9 h
        refine jx_aload_n (pc := 51) (k0 := 0) rfl dX2_winner_51 ?_
        refine ll_gnight_worth (pc := 52) fl_X2_33 dX2_winner_52 ?_
        refine jx_iload_n (pc := 55) (k0 := 3) rfl dX2_winner_55 ?_
        obtain ⟨g11, h⟩ := jx_gd_o h
        refine ll_l (pc := 56) (k := 59) (jx_in_o g11) rfl dX2_winner_56 ?_
        refine jx_goto (pc := 57) (tgt := 67) dX2_winner_57 (by decide) ?_
        exact jx_sub [0, 1, 3] rfl (jb_X2_winner_67 l G t hG sz σ0 out k4 h4 σ v1 v3 (σ 59 v3.toNatClampNeg) v2 e0 h)
def b_X2_winner_4 (t : jx_T)  : Nat → jx_M → Int32 → Int32 → Int32 → Option Int32
  | 0, _, _, _, _ => none
  | n + 1, σ, v1, v2, v3 => g_X2_winner_4 t (b_X2_winner_4 t n) σ v1 v2 v3
theorem jb_X2_winner_4 (l : Launch) (G : jx_G) (t : jx_T) (hG : ll_ok G) (sz : Nat) (σ0 : jx_M) (out : Int32)  : ∀ (n : Nat) (σ : jx_M) (v1 : Int32) (v2 : Int32) (v3 : Int32), σ = σ0 → b_X2_winner_4 t n σ v1 v2 v3 = some out → jJ_X2_winner l G t sz σ0 out 4 [(0, .ref (G.2 23)), (1, .int v1), (2, .int v2), (3, .int v3)] [] σ := by
  intro n
  induction n with
  | zero =>
    intro σ v1 v2 v3 e0 h
    cases h
  | succ n ih =>
    intro σ v1 v2 v3 e0 h
    exact jg_X2_winner_4 l G t hG sz σ0 out (b_X2_winner_4 t n) ih σ v1 v2 v3 e0 h
def f_X2_winner (t : jx_T) (σ : jx_M) (a1 : Int32) : Option Int32 :=
  (b_X2_winner_4 t jx_fuel σ a1 (0 : Int32) (0 : Int32))
set_option maxHeartbeats 4000000 in
set_option maxRecDepth 100000 in
theorem k_X2_winner (l : Launch) (G : jx_G) (t : jx_T) (hG : ll_ok G) (sz : Nat) (σ : jx_M) (a1 : Int32) (out : Int32) (h : f_X2_winner t σ a1 = some out) : Met l yX2_winner (Cond.code yX2_winner cX2_winner 4 (some .int) :: jx_ws) rm_X2_winner (jx_Pc (ll_env G t) (ll_dyn G t) (ll_rg G) sz σ [.ref (G.2 23), .int a1]) (jx_Qi (ll_dyn G t) σ out (jx_A (ll_rg G) sz)) 0 0 (jx_A (ll_rg G) sz) := by
  unfold f_X2_winner at h
  refine jx_met (by decide) (Nat.le_of_ble_eq_true rfl) ?_
  refine jx_sub (lv' := [(0, .ref (G.2 23)), (1, .int a1)]) [0, 1] rfl ?_
  refine jx_iconst (pc := 0) (v := (0 : Int32)) (by decide) dX2_winner_0 ?_
  refine jx_istore_n (pc := 1) (i := 2) rfl rfl (by decide) (lv' := [(2, .int (0 : Int32)), (0, .ref (G.2 23)), (1, .int a1)]) rfl dX2_winner_1 ?_
  refine jx_iconst (pc := 2) (v := (0 : Int32)) (by decide) dX2_winner_2 ?_
  refine jx_istore_n (pc := 3) (i := 3) rfl rfl (by decide) (lv' := [(3, .int (0 : Int32)), (2, .int (0 : Int32)), (0, .ref (G.2 23)), (1, .int a1)]) rfl dX2_winner_3 ?_
  exact jx_sub [2, 3, 1, 0] rfl (jb_X2_winner_4 l G t hG sz σ out jx_fuel σ a1 (0 : Int32) (0 : Int32) rfl h)
theorem dX2_countLamps_0 : decode cX2_countLamps 0 = .ok (.aload_n 0, 1) := by decide +kernel
theorem dX2_countLamps_1 : decode cX2_countLamps 1 = .ok (.getfield 23, 3) := by decide +kernel
theorem dX2_countLamps_4 : decode cX2_countLamps 4 = .ok (.iconst 0, 1) := by decide +kernel
theorem dX2_countLamps_5 : decode cX2_countLamps 5 = .ok (.invokestatic 123, 3) := by decide +kernel
theorem dX2_countLamps_8 : decode cX2_countLamps 8 = .ok (.iconst 0, 1) := by decide +kernel
theorem dX2_countLamps_9 : decode cX2_countLamps 9 = .ok (.istore_n 1, 1) := by decide +kernel
theorem dX2_countLamps_10 : decode cX2_countLamps 10 = .ok (.iload_n 1, 1) := by decide +kernel
theorem dX2_countLamps_11 : decode cX2_countLamps 11 = .ok (.aload_n 0, 1) := by decide +kernel
theorem dX2_countLamps_12 : decode cX2_countLamps 12 = .ok (.getfield 36, 3) := by decide +kernel
theorem dX2_countLamps_15 : decode cX2_countLamps 15 = .ok (.getfield 74, 3) := by decide +kernel
theorem dX2_countLamps_18 : decode cX2_countLamps 18 = .ok (.if_icmp .ge 24, 3) := by decide +kernel
theorem dX2_countLamps_21 : decode cX2_countLamps 21 = .ok (.aload_n 0, 1) := by decide +kernel
theorem dX2_countLamps_22 : decode cX2_countLamps 22 = .ok (.getfield 23, 3) := by decide +kernel
theorem dX2_countLamps_25 : decode cX2_countLamps 25 = .ok (.aload_n 0, 1) := by decide +kernel
theorem dX2_countLamps_26 : decode cX2_countLamps 26 = .ok (.getfield 30, 3) := by decide +kernel
theorem dX2_countLamps_29 : decode cX2_countLamps 29 = .ok (.iload_n 1, 1) := by decide +kernel
theorem dX2_countLamps_30 : decode cX2_countLamps 30 = .ok (.iaload, 1) := by decide +kernel
theorem dX2_countLamps_31 : decode cX2_countLamps 31 = .ok (.dup2, 1) := by decide +kernel
theorem dX2_countLamps_32 : decode cX2_countLamps 32 = .ok (.iaload, 1) := by decide +kernel
theorem dX2_countLamps_33 : decode cX2_countLamps 33 = .ok (.iconst 1, 1) := by decide +kernel
theorem dX2_countLamps_34 : decode cX2_countLamps 34 = .ok (.iadd, 1) := by decide +kernel
theorem dX2_countLamps_35 : decode cX2_countLamps 35 = .ok (.iastore, 1) := by decide +kernel
theorem dX2_countLamps_36 : decode cX2_countLamps 36 = .ok (.iinc 1 1, 3) := by decide +kernel
theorem dX2_countLamps_39 : decode cX2_countLamps 39 = .ok (.goto (-29), 3) := by decide +kernel
theorem dX2_countLamps_42 : decode cX2_countLamps 42 = .ok (.return_, 1) := by decide +kernel
abbrev rm_X2_countLamps : Room := { frames := 1, cells := 0, slots := 0, locals := 23 }
abbrev jJ_X2_countLamps (l : Launch) (G : jx_G) (t : jx_T) (sz : Nat) (out : jx_M) (pc : Nat) (lv : List (Nat × Value)) (st : List Value) (σ : jx_M) : Prop := jx_J l (ll_env G t) (ll_dyn G t) (ll_rg G) sz RX2 "countLamps" cX2_countLamps 2 none rm_X2_countLamps (fun below args s => MQ below (jx_Qv (ll_dyn G t) out (jx_A (ll_rg G) sz)) args s 0 0 (jx_A (ll_rg G) sz)) 0 0 pc lv st σ
def g_X2_countLamps_10 (t : jx_T) (k10 : jx_M → Int32 → Option jx_M) (σ : jx_M) (v1 : Int32) : Option jx_M :=
  if (σ 0 2) ≤ v1 then some σ else jx_gd (jx_in v1 6) (jx_gd (jx_in (σ 58 v1.toNatClampNeg) 7) (jx_gd (jx_in (σ 58 v1.toNatClampNeg) 7) (jx_lt (jx_mu σ 57 (σ 58 v1.toNatClampNeg).toNatClampNeg ((σ 57 (σ 58 v1.toNatClampNeg).toNatClampNeg) + (1 : Int32))) (fun σ5 => jx_lt (v1 + (1 : Int32)) (fun x6 => (k10 σ5 x6))))))
set_option maxHeartbeats 4000000 in
set_option maxRecDepth 100000 in
theorem jg_X2_countLamps_10 (l : Launch) (G : jx_G) (t : jx_T) (hG : ll_ok G) (sz : Nat) (out : jx_M) (k10 : jx_M → Int32 → Option jx_M) (h10 : ∀ (σ : jx_M) (v1 : Int32), k10 σ v1 = some out → jJ_X2_countLamps l G t sz out 10 [(0, .ref (G.2 23)), (1, .int v1)] [] σ) (σ : jx_M) (v1 : Int32) (h : g_X2_countLamps_10 t k10 σ v1 = some out) : jJ_X2_countLamps l G t sz out 10 [(0, .ref (G.2 23)), (1, .int v1)] [] σ := by
  unfold g_X2_countLamps_10 at h
  refine jx_iload_n (pc := 10) (k0 := 1) rfl dX2_countLamps_10 ?_
  refine jx_aload_n (pc := 11) (k0 := 0) rfl dX2_countLamps_11 ?_
  refine ll_gnight_canal (pc := 12) fl_X2_36 dX2_countLamps_12 ?_
  refine ll_gnow_voters (pc := 15) fl_X2_74 dX2_countLamps_15 ?_
  refine jx_icmp_ge (pc := 18) (tgt := 42) dX2_countLamps_18 (by decide) (fun c1 => ?_) (fun c1 => ?_)
  · have h := jx_t c1 h
    have h := Option.some.inj h
    subst h
    exact jx_vret (pc := 42) dX2_countLamps_42
  · have h := jx_f c1 h
    refine jx_aload_n (pc := 21) (k0 := 0) rfl dX2_countLamps_21 ?_
    refine ll_gnight_lamps (pc := 22) fl_X2_23 dX2_countLamps_22 ?_
    refine jx_aload_n (pc := 25) (k0 := 0) rfl dX2_countLamps_25 ?_
    refine ll_gnight_lie (pc := 26) fl_X2_30 dX2_countLamps_26 ?_
    refine jx_iload_n (pc := 29) (k0 := 1) rfl dX2_countLamps_29 ?_
    obtain ⟨g2, h⟩ := jx_gd_o h
    refine ll_l (pc := 30) (k := 58) (jx_in_o g2) rfl dX2_countLamps_30 ?_
    refine jx_dup2 (pc := 31) rfl rfl dX2_countLamps_31 ?_
    obtain ⟨g3, h⟩ := jx_gd_o h
    refine ll_l (pc := 32) (k := 57) (jx_in_o g3) rfl dX2_countLamps_32 ?_
    refine jx_iconst (pc := 33) (v := (1 : Int32)) (by decide) dX2_countLamps_33 ?_
    refine jx_iadd (pc := 34) dX2_countLamps_34 ?_
    obtain ⟨g4, h⟩ := jx_gd_o h
    obtain ⟨σ5, eσ5, h⟩ := jx_lt_o h
    refine ll_s (pc := 35) (k := 57) hG (jx_in_o g4) rfl eσ5 dX2_countLamps_35 ?_
    obtain ⟨x6, ex6, h⟩ := jx_lt_o h
    refine jx_iinc (pc := 36) (i := 1) (v := v1) rfl ex6 (n := 1) (by decide) (by decide) (lv' := [(1, .int x6), (0, .ref (G.2 23))]) rfl dX2_countLamps_36 ?_
    refine jx_goto (pc := 39) (tgt := 10) dX2_countLamps_39 (by decide) ?_
    exact jx_sub [1, 0] rfl (h10 σ5 x6 h)
def b_X2_countLamps_10 (t : jx_T)  : Nat → jx_M → Int32 → Option jx_M
  | 0, _, _ => none
  | n + 1, σ, v1 => g_X2_countLamps_10 t (b_X2_countLamps_10 t n) σ v1
theorem jb_X2_countLamps_10 (l : Launch) (G : jx_G) (t : jx_T) (hG : ll_ok G) (sz : Nat) (out : jx_M)  : ∀ (n : Nat) (σ : jx_M) (v1 : Int32), b_X2_countLamps_10 t n σ v1 = some out → jJ_X2_countLamps l G t sz out 10 [(0, .ref (G.2 23)), (1, .int v1)] [] σ := by
  intro n
  induction n with
  | zero =>
    intro σ v1 h
    cases h
  | succ n ih =>
    intro σ v1 h
    exact jg_X2_countLamps_10 l G t hG sz out (b_X2_countLamps_10 t n) ih σ v1 h
def f_X2_countLamps (t : jx_T) (σ : jx_M)  : Option jx_M :=
  jx_bd (f_J7_fill_53178 t σ 57 (0 : Int32)) (fun q1 => (b_X2_countLamps_10 t jx_fuel q1 (0 : Int32)))
set_option maxHeartbeats 4000000 in
set_option maxRecDepth 100000 in
theorem k_X2_countLamps (l : Launch) (G : jx_G) (t : jx_T) (hG : ll_ok G) (sz : Nat) (σ : jx_M)  (out : jx_M) (h : f_X2_countLamps t σ = some out) : Met l yX2_countLamps (Cond.code yX2_countLamps cX2_countLamps 2 none :: jx_ws) rm_X2_countLamps (jx_Pc (ll_env G t) (ll_dyn G t) (ll_rg G) sz σ [.ref (G.2 23)]) (jx_Qv (ll_dyn G t) out (jx_A (ll_rg G) sz)) 0 0 (jx_A (ll_rg G) sz) := by
  unfold f_X2_countLamps at h
  refine jx_met (by decide) (Nat.le_of_ble_eq_true rfl) ?_
  refine jx_sub (lv' := [(0, .ref (G.2 23))]) [0] rfl ?_
  refine jx_aload_n (pc := 0) (k0 := 0) rfl dX2_countLamps_0 ?_
  refine ll_gnight_lamps (pc := 1) fl_X2_23 dX2_countLamps_1 ?_
  refine jx_iconst (pc := 4) (v := (0 : Int32)) (by decide) dX2_countLamps_4 ?_
  obtain ⟨q1, eq1, h⟩ := jx_bd_o h
  refine jx_callSv (pc := 5) [.ref (G.2 157), .int (0 : Int32)] (fun sz' => k_J7_fill_53178 l G t hG sz' σ 57 (0 : Int32) q1 eq1) ks_X2_123 ll_jok rfl rfl (Nat.le_of_ble_eq_true rfl) ⟨⟨rfl, rfl⟩, ⟨Nat.le_of_ble_eq_true rfl, Nat.le_of_ble_eq_true rfl⟩, Nat.zero_le _, Nat.zero_le _⟩ dX2_countLamps_5 ?_
  refine jx_iconst (pc := 8) (v := (0 : Int32)) (by decide) dX2_countLamps_8 ?_
  refine jx_istore_n (pc := 9) (i := 1) rfl rfl (by decide) (lv' := [(1, .int (0 : Int32)), (0, .ref (G.2 23))]) rfl dX2_countLamps_9 ?_
  exact jx_sub [1, 0] rfl (jb_X2_countLamps_10 l G t hG sz out jx_fuel q1 (0 : Int32) h)
theorem dX2_fairest_0 : decode cX2_fairest 0 = .ok (.iconst 0, 1) := by decide +kernel
theorem dX2_fairest_1 : decode cX2_fairest 1 = .ok (.istore_n 1, 1) := by decide +kernel
theorem dX2_fairest_2 : decode cX2_fairest 2 = .ok (.iconst 2, 1) := by decide +kernel
theorem dX2_fairest_3 : decode cX2_fairest 3 = .ok (.istore_n 2, 1) := by decide +kernel
theorem dX2_fairest_4 : decode cX2_fairest 4 = .ok (.iload_n 2, 1) := by decide +kernel
theorem dX2_fairest_5 : decode cX2_fairest 5 = .ok (.iconst 1, 1) := by decide +kernel
theorem dX2_fairest_6 : decode cX2_fairest 6 = .ok (.aload_n 0, 1) := by decide +kernel
theorem dX2_fairest_7 : decode cX2_fairest 7 = .ok (.getfield 36, 3) := by decide +kernel
theorem dX2_fairest_10 : decode cX2_fairest 10 = .ok (.getfield 40, 3) := by decide +kernel
theorem dX2_fairest_13 : decode cX2_fairest 13 = .ok (.ishl, 1) := by decide +kernel
theorem dX2_fairest_14 : decode cX2_fairest 14 = .ok (.if_icmp .ge 24, 3) := by decide +kernel
theorem dX2_fairest_17 : decode cX2_fairest 17 = .ok (.aload_n 0, 1) := by decide +kernel
theorem dX2_fairest_18 : decode cX2_fairest 18 = .ok (.iload_n 2, 1) := by decide +kernel
theorem dX2_fairest_19 : decode cX2_fairest 19 = .ok (.invokevirtual 145, 3) := by decide +kernel
theorem dX2_fairest_22 : decode cX2_fairest 22 = .ok (.aload_n 0, 1) := by decide +kernel
theorem dX2_fairest_23 : decode cX2_fairest 23 = .ok (.iload_n 1, 1) := by decide +kernel
theorem dX2_fairest_24 : decode cX2_fairest 24 = .ok (.invokevirtual 145, 3) := by decide +kernel
theorem dX2_fairest_27 : decode cX2_fairest 27 = .ok (.if_icmp .ge 5, 3) := by decide +kernel
theorem dX2_fairest_30 : decode cX2_fairest 30 = .ok (.iload_n 2, 1) := by decide +kernel
theorem dX2_fairest_31 : decode cX2_fairest 31 = .ok (.istore_n 1, 1) := by decide +kernel
theorem dX2_fairest_32 : decode cX2_fairest 32 = .ok (.iinc 2 2, 3) := by decide +kernel
theorem dX2_fairest_35 : decode cX2_fairest 35 = .ok (.goto (-31), 3) := by decide +kernel
theorem dX2_fairest_38 : decode cX2_fairest 38 = .ok (.iload_n 1, 1) := by decide +kernel
theorem dX2_fairest_39 : decode cX2_fairest 39 = .ok (.ireturn, 1) := by decide +kernel
abbrev rm_X2_fairest : Room := { frames := 2, cells := 0, slots := 0, locals := 44 }
abbrev jJ_X2_fairest (l : Launch) (G : jx_G) (t : jx_T) (sz : Nat) (σ0 : jx_M) (out : Int32) (pc : Nat) (lv : List (Nat × Value)) (st : List Value) (σ : jx_M) : Prop := jx_J l (ll_env G t) (ll_dyn G t) (ll_rg G) sz RX2 "fairest" cX2_fairest 3 (some .int) rm_X2_fairest (fun below args s => MQ below (jx_Qi (ll_dyn G t) σ0 out (jx_A (ll_rg G) sz)) args s 0 0 (jx_A (ll_rg G) sz)) 0 0 pc lv st σ
def b_X2_fairest_32 (t : jx_T) (k4 : jx_M → Int32 → Int32 → Option Int32) (σ : jx_M) (v1 : Int32) (v2 : Int32) : Option Int32 :=
  jx_lt (v2 + (2 : Int32)) (fun x1 => (k4 σ v1 x1))
set_option maxHeartbeats 4000000 in
set_option maxRecDepth 100000 in
theorem jb_X2_fairest_32 (l : Launch) (G : jx_G) (t : jx_T) (hG : ll_ok G) (sz : Nat) (σ0 : jx_M) (out : Int32) (k4 : jx_M → Int32 → Int32 → Option Int32) (h4 : ∀ (σ : jx_M) (v1 : Int32) (v2 : Int32), σ = σ0 → k4 σ v1 v2 = some out → jJ_X2_fairest l G t sz σ0 out 4 [(0, .ref (G.2 23)), (1, .int v1), (2, .int v2)] [] σ) (σ : jx_M) (v1 : Int32) (v2 : Int32) (e0 : σ = σ0) (h : b_X2_fairest_32 t k4 σ v1 v2 = some out) : jJ_X2_fairest l G t sz σ0 out 32 [(0, .ref (G.2 23)), (1, .int v1), (2, .int v2)] [] σ := by
  unfold b_X2_fairest_32 at h
  obtain ⟨x1, ex1, h⟩ := jx_lt_o h
  refine jx_iinc (pc := 32) (i := 2) (v := v2) rfl ex1 (n := 2) (by decide) (by decide) (lv' := [(2, .int x1), (0, .ref (G.2 23)), (1, .int v1)]) rfl dX2_fairest_32 ?_
  refine jx_goto (pc := 35) (tgt := 4) dX2_fairest_35 (by decide) ?_
  exact jx_sub [1, 2, 0] rfl (h4 σ v1 x1 e0 h)
def g_X2_fairest_4 (t : jx_T) (k4 : jx_M → Int32 → Int32 → Option Int32) (σ : jx_M) (v1 : Int32) (v2 : Int32) : Option Int32 :=
  if ((1 : Int32) <<< ((σ 0 0) &&& 31)) ≤ v2 then some v1 else jx_bd (f_X2_unfairness t σ v2) (fun q2 => jx_bd (f_X2_unfairness t σ v1) (fun q3 => if q3 ≤ q2 then (b_X2_fairest_32 t k4 σ v1 v2) else (b_X2_fairest_32 t k4 σ v2 v2)))
set_option maxHeartbeats 4000000 in
set_option maxRecDepth 100000 in
theorem jg_X2_fairest_4 (l : Launch) (G : jx_G) (t : jx_T) (hG : ll_ok G) (sz : Nat) (σ0 : jx_M) (out : Int32) (k4 : jx_M → Int32 → Int32 → Option Int32) (h4 : ∀ (σ : jx_M) (v1 : Int32) (v2 : Int32), σ = σ0 → k4 σ v1 v2 = some out → jJ_X2_fairest l G t sz σ0 out 4 [(0, .ref (G.2 23)), (1, .int v1), (2, .int v2)] [] σ) (σ : jx_M) (v1 : Int32) (v2 : Int32) (e0 : σ = σ0) (h : g_X2_fairest_4 t k4 σ v1 v2 = some out) : jJ_X2_fairest l G t sz σ0 out 4 [(0, .ref (G.2 23)), (1, .int v1), (2, .int v2)] [] σ := by
  unfold g_X2_fairest_4 at h
  refine jx_iload_n (pc := 4) (k0 := 2) rfl dX2_fairest_4 ?_
  refine jx_iconst (pc := 5) (v := (1 : Int32)) (by decide) dX2_fairest_5 ?_
  refine jx_aload_n (pc := 6) (k0 := 0) rfl dX2_fairest_6 ?_
  refine ll_gnight_canal (pc := 7) fl_X2_36 dX2_fairest_7 ?_
  refine ll_gnow_places (pc := 10) fl_X2_40 dX2_fairest_10 ?_
  refine jx_ishl (pc := 13) dX2_fairest_13 ?_
  refine jx_icmp_ge (pc := 14) (tgt := 38) dX2_fairest_14 (by decide) (fun c1 => ?_) (fun c1 => ?_)
  · have h := jx_t c1 h
    refine jx_iload_n (pc := 38) (k0 := 1) rfl dX2_fairest_38 ?_
    subst e0
    have h := Option.some.inj h
    subst h
    exact jx_iret (pc := 39) dX2_fairest_39
  · have h := jx_f c1 h
    refine jx_aload_n (pc := 17) (k0 := 0) rfl dX2_fairest_17 ?_
    refine jx_iload_n (pc := 18) (k0 := 2) rfl dX2_fairest_18 ?_
    obtain ⟨q2, eq2, h⟩ := jx_bd_o h
    refine jx_callVi (pc := 19) [.int v2] (fun sz' => k_X2_unfairness l G t hG sz' σ v2 q2 eq2) kv_X2_145 ll_jok ll_rcnight rfl rfl (Nat.le_of_ble_eq_true rfl) ⟨⟨rfl, rfl⟩, ⟨Nat.le_of_ble_eq_true rfl, Nat.le_of_ble_eq_true rfl⟩, Nat.zero_le _, Nat.zero_le _⟩ dX2_fairest_19 ?_
    refine jx_aload_n (pc := 22) (k0 := 0) rfl dX2_fairest_22 ?_
    refine jx_iload_n (pc := 23) (k0 := 1) rfl dX2_fairest_23 ?_
    obtain ⟨q3, eq3, h⟩ := jx_bd_o h
    refine jx_callVi (pc := 24) [.int v1] (fun sz' => k_X2_unfairness l G t hG sz' σ v1 q3 eq3) kv_X2_145 ll_jok ll_rcnight rfl rfl (Nat.le_of_ble_eq_true rfl) ⟨⟨rfl, rfl⟩, ⟨Nat.le_of_ble_eq_true rfl, Nat.le_of_ble_eq_true rfl⟩, Nat.zero_le _, Nat.zero_le _⟩ dX2_fairest_24 ?_
    refine jx_icmp_ge (pc := 27) (tgt := 32) dX2_fairest_27 (by decide) (fun c4 => ?_) (fun c4 => ?_)
    · have h := jx_t c4 h
      exact jx_sub [0, 1, 2] rfl (jb_X2_fairest_32 l G t hG sz σ0 out k4 h4 σ v1 v2 e0 h)
    · have h := jx_f c4 h
      refine jx_iload_n (pc := 30) (k0 := 2) rfl dX2_fairest_30 ?_
      refine jx_istore_n (pc := 31) (i := 1) rfl rfl (by decide) (lv' := [(1, .int v2), (0, .ref (G.2 23)), (2, .int v2)]) rfl dX2_fairest_31 ?_
      exact jx_sub [1, 0, 2] rfl (jb_X2_fairest_32 l G t hG sz σ0 out k4 h4 σ v2 v2 e0 h)
def b_X2_fairest_4 (t : jx_T)  : Nat → jx_M → Int32 → Int32 → Option Int32
  | 0, _, _, _ => none
  | n + 1, σ, v1, v2 => g_X2_fairest_4 t (b_X2_fairest_4 t n) σ v1 v2
theorem jb_X2_fairest_4 (l : Launch) (G : jx_G) (t : jx_T) (hG : ll_ok G) (sz : Nat) (σ0 : jx_M) (out : Int32)  : ∀ (n : Nat) (σ : jx_M) (v1 : Int32) (v2 : Int32), σ = σ0 → b_X2_fairest_4 t n σ v1 v2 = some out → jJ_X2_fairest l G t sz σ0 out 4 [(0, .ref (G.2 23)), (1, .int v1), (2, .int v2)] [] σ := by
  intro n
  induction n with
  | zero =>
    intro σ v1 v2 e0 h
    cases h
  | succ n ih =>
    intro σ v1 v2 e0 h
    exact jg_X2_fairest_4 l G t hG sz σ0 out (b_X2_fairest_4 t n) ih σ v1 v2 e0 h
def f_X2_fairest (t : jx_T) (σ : jx_M)  : Option Int32 :=
  (b_X2_fairest_4 t jx_fuel σ (0 : Int32) (2 : Int32))
set_option maxHeartbeats 4000000 in
set_option maxRecDepth 100000 in
theorem k_X2_fairest (l : Launch) (G : jx_G) (t : jx_T) (hG : ll_ok G) (sz : Nat) (σ : jx_M)  (out : Int32) (h : f_X2_fairest t σ = some out) : Met l yX2_fairest (Cond.code yX2_fairest cX2_fairest 3 (some .int) :: jx_ws) rm_X2_fairest (jx_Pc (ll_env G t) (ll_dyn G t) (ll_rg G) sz σ [.ref (G.2 23)]) (jx_Qi (ll_dyn G t) σ out (jx_A (ll_rg G) sz)) 0 0 (jx_A (ll_rg G) sz) := by
  unfold f_X2_fairest at h
  refine jx_met (by decide) (Nat.le_of_ble_eq_true rfl) ?_
  refine jx_sub (lv' := [(0, .ref (G.2 23))]) [0] rfl ?_
  refine jx_iconst (pc := 0) (v := (0 : Int32)) (by decide) dX2_fairest_0 ?_
  refine jx_istore_n (pc := 1) (i := 1) rfl rfl (by decide) (lv' := [(1, .int (0 : Int32)), (0, .ref (G.2 23))]) rfl dX2_fairest_1 ?_
  refine jx_iconst (pc := 2) (v := (2 : Int32)) (by decide) dX2_fairest_2 ?_
  refine jx_istore_n (pc := 3) (i := 2) rfl rfl (by decide) (lv' := [(2, .int (2 : Int32)), (1, .int (0 : Int32)), (0, .ref (G.2 23))]) rfl dX2_fairest_3 ?_
  exact jx_sub [2, 1, 0] rfl (jb_X2_fairest_4 l G t hG sz σ out jx_fuel σ (0 : Int32) (2 : Int32) rfl h)
theorem dX3_takesLetter_0 : decode cX3_takesLetter 0 = .ok (.aload_n 0, 1) := by decide +kernel
theorem dX3_takesLetter_1 : decode cX3_takesLetter 1 = .ok (.getfield 104, 3) := by decide +kernel
theorem dX3_takesLetter_4 : decode cX3_takesLetter 4 = .ok (.ldc 93, 2) := by decide +kernel
theorem dX3_takesLetter_6 : decode cX3_takesLetter 6 = .ok (.invokevirtual 107, 3) := by decide +kernel
theorem dX3_takesLetter_9 : decode cX3_takesLetter 9 = .ok (.if_icmp .ge 16, 3) := by decide +kernel
theorem dX3_takesLetter_12 : decode cX3_takesLetter 12 = .ok (.ldc 93, 2) := by decide +kernel
theorem dX3_takesLetter_14 : decode cX3_takesLetter 14 = .ok (.aload_n 0, 1) := by decide +kernel
theorem dX3_takesLetter_15 : decode cX3_takesLetter 15 = .ok (.getfield 104, 3) := by decide +kernel
theorem dX3_takesLetter_18 : decode cX3_takesLetter 18 = .ok (.invokevirtual 95, 3) := by decide +kernel
theorem dX3_takesLetter_21 : decode cX3_takesLetter 21 = .ok (.iload_n 1, 1) := by decide +kernel
theorem dX3_takesLetter_22 : decode cX3_takesLetter 22 = .ok (.if_icmp .eq 5, 3) := by decide +kernel
theorem dX3_takesLetter_25 : decode cX3_takesLetter 25 = .ok (.iconst 0, 1) := by decide +kernel
theorem dX3_takesLetter_26 : decode cX3_takesLetter 26 = .ok (.ireturn, 1) := by decide +kernel
theorem dX3_takesLetter_27 : decode cX3_takesLetter 27 = .ok (.aload_n 0, 1) := by decide +kernel
theorem dX3_takesLetter_28 : decode cX3_takesLetter 28 = .ok (.dup, 1) := by decide +kernel
theorem dX3_takesLetter_29 : decode cX3_takesLetter 29 = .ok (.getfield 104, 3) := by decide +kernel
theorem dX3_takesLetter_32 : decode cX3_takesLetter 32 = .ok (.iconst 1, 1) := by decide +kernel
theorem dX3_takesLetter_33 : decode cX3_takesLetter 33 = .ok (.iadd, 1) := by decide +kernel
theorem dX3_takesLetter_34 : decode cX3_takesLetter 34 = .ok (.putfield 104, 3) := by decide +kernel
theorem dX3_takesLetter_37 : decode cX3_takesLetter 37 = .ok (.iload_n 1, 1) := by decide +kernel
theorem dX3_takesLetter_38 : decode cX3_takesLetter 38 = .ok (.bipush 32, 2) := by decide +kernel
theorem dX3_takesLetter_40 : decode cX3_takesLetter 40 = .ok (.if_icmp .ne 33, 3) := by decide +kernel
theorem dX3_takesLetter_43 : decode cX3_takesLetter 43 = .ok (.aload_n 0, 1) := by decide +kernel
theorem dX3_takesLetter_44 : decode cX3_takesLetter 44 = .ok (.aload_n 0, 1) := by decide +kernel
theorem dX3_takesLetter_45 : decode cX3_takesLetter 45 = .ok (.getfield 101, 3) := by decide +kernel
theorem dX3_takesLetter_48 : decode cX3_takesLetter 48 = .ok (.iconst 2, 1) := by decide +kernel
theorem dX3_takesLetter_49 : decode cX3_takesLetter 49 = .ok (.if_icmp .eq 11, 3) := by decide +kernel
theorem dX3_takesLetter_52 : decode cX3_takesLetter 52 = .ok (.aload_n 0, 1) := by decide +kernel
theorem dX3_takesLetter_53 : decode cX3_takesLetter 53 = .ok (.getfield 101, 3) := by decide +kernel
theorem dX3_takesLetter_56 : decode cX3_takesLetter 56 = .ok (.iconst 3, 1) := by decide +kernel
theorem dX3_takesLetter_57 : decode cX3_takesLetter 57 = .ok (.if_icmp .ne 7, 3) := by decide +kernel
theorem dX3_takesLetter_60 : decode cX3_takesLetter 60 = .ok (.iconst 2, 1) := by decide +kernel
theorem dX3_takesLetter_61 : decode cX3_takesLetter 61 = .ok (.goto 4, 3) := by decide +kernel
theorem dX3_takesLetter_64 : decode cX3_takesLetter 64 = .ok (.iconst 4, 1) := by decide +kernel
theorem dX3_takesLetter_65 : decode cX3_takesLetter 65 = .ok (.putfield 40, 3) := by decide +kernel
theorem dX3_takesLetter_68 : decode cX3_takesLetter 68 = .ok (.aload_n 0, 1) := by decide +kernel
theorem dX3_takesLetter_69 : decode cX3_takesLetter 69 = .ok (.invokevirtual 111, 3) := by decide +kernel
theorem dX3_takesLetter_72 : decode cX3_takesLetter 72 = .ok (.ireturn, 1) := by decide +kernel
theorem dX3_takesLetter_73 : decode cX3_takesLetter 73 = .ok (.iconst 1, 1) := by decide +kernel
theorem dX3_takesLetter_74 : decode cX3_takesLetter 74 = .ok (.ireturn, 1) := by decide +kernel
abbrev rm_X3_takesLetter : Room := { frames := 4, cells := 0, slots := 0, locals := 85 }
abbrev jJ_X3_takesLetter (l : Launch) (G : jx_G) (t : jx_T) (sz : Nat) (out : (Int32 × jx_M)) (pc : Nat) (lv : List (Nat × Value)) (st : List Value) (σ : jx_M) : Prop := jx_J l (ll_env G t) (ll_dyn G t) (ll_rg G) sz RX3 "takesLetter" cX3_takesLetter 2 (some .boolean) rm_X3_takesLetter (fun below args s => MQ below (jx_Qi (ll_dyn G t) out.2 out.1 (jx_A (ll_rg G) sz)) args s 0 0 (jx_A (ll_rg G) sz)) 0 0 pc lv st σ
def b_X3_takesLetter_65 (t : jx_T)  (σ : jx_M) (s0 : Int32) : Option (Int32 × jx_M) :=
  jx_lt (jx_mu σ 0 34 s0) (fun σ1 => jx_bd (f_X3_opensClause t σ1) (fun q2 => jx_gd (decide (q2.1 = 0 ∨ q2.1 = 1)) (some (q2.1, q2.2))))
set_option maxHeartbeats 4000000 in
set_option maxRecDepth 100000 in
theorem jb_X3_takesLetter_65 (l : Launch) (G : jx_G) (t : jx_T) (hG : ll_ok G) (sz : Nat) (out : (Int32 × jx_M))  (σ : jx_M) (s0 : Int32) (h : b_X3_takesLetter_65 t σ s0 = some out) : jJ_X3_takesLetter l G t sz out 65 [(0, .ref (G.2 25))] [.int s0, .ref (G.2 25)] σ := by
  unfold b_X3_takesLetter_65 at h
  obtain ⟨σ1, eσ1, h⟩ := jx_lt_o h
  refine ll_preader_due (pc := 65) hG fl_X3_40 eσ1 dX3_takesLetter_65 ?_
  refine jx_aload_n (pc := 68) (k0 := 0) rfl dX3_takesLetter_68 ?_
  obtain ⟨q2, eq2, h⟩ := jx_bd_o h
  refine jx_callVi (pc := 69) [] (fun sz' => k_X3_opensClause l G t hG sz' σ1 q2 eq2) kv_X3_111 ll_jok ll_rcreader rfl rfl (Nat.le_of_ble_eq_true rfl) ⟨⟨rfl, rfl⟩, ⟨Nat.le_of_ble_eq_true rfl, Nat.le_of_ble_eq_true rfl⟩, Nat.zero_le _, Nat.zero_le _⟩ dX3_takesLetter_69 ?_
  obtain ⟨g3, h⟩ := jx_gd_o h
  have h := Option.some.inj h
  subst h
  exact jx_zret (pc := 72) (of_decide_eq_true g3) dX3_takesLetter_72
def b_X3_takesLetter_60 (t : jx_T)  (σ : jx_M)  : Option (Int32 × jx_M) :=
  (b_X3_takesLetter_65 t σ (2 : Int32))
set_option maxHeartbeats 4000000 in
set_option maxRecDepth 100000 in
theorem jb_X3_takesLetter_60 (l : Launch) (G : jx_G) (t : jx_T) (hG : ll_ok G) (sz : Nat) (out : (Int32 × jx_M))  (σ : jx_M)  (h : b_X3_takesLetter_60 t σ = some out) : jJ_X3_takesLetter l G t sz out 60 [(0, .ref (G.2 25))] [.ref (G.2 25)] σ := by
  unfold b_X3_takesLetter_60 at h
  refine jx_iconst (pc := 60) (v := (2 : Int32)) (by decide) dX3_takesLetter_60 ?_
  refine jx_goto (pc := 61) (tgt := 65) dX3_takesLetter_61 (by decide) ?_
  exact jx_sub [0] rfl (jb_X3_takesLetter_65 l G t hG sz out σ (2 : Int32) h)
def f_X3_takesLetter (t : jx_T) (σ : jx_M) (a1 : Int32) : Option (Int32 × jx_M) :=
  jx_bd (f_J0_length_8abf5 0) (fun q1 => if q1 ≤ (σ 0 36) then some ((0 : Int32), σ) else jx_bd (f_J0_charAt_5068e 0 (σ 0 36)) (fun q3 => if q3 = a1 then jx_lt (jx_mu σ 0 36 ((σ 0 36) + (1 : Int32))) (fun σ5 => if a1 = (32 : Int32) then if (σ5 0 35) = (2 : Int32) then (b_X3_takesLetter_60 t σ5) else if (σ5 0 35) = (3 : Int32) then (b_X3_takesLetter_60 t σ5) else (b_X3_takesLetter_65 t σ5 (4 : Int32)) else some ((1 : Int32), σ5)) else some ((0 : Int32), σ)))
set_option maxHeartbeats 4000000 in
set_option maxRecDepth 100000 in
theorem k_X3_takesLetter (l : Launch) (G : jx_G) (t : jx_T) (hG : ll_ok G) (sz : Nat) (σ : jx_M) (a1 : Int32) (out : (Int32 × jx_M)) (h : f_X3_takesLetter t σ a1 = some out) : Met l yX3_takesLetter (Cond.code yX3_takesLetter cX3_takesLetter 2 (some .boolean) :: jx_ws) rm_X3_takesLetter (jx_Pc (ll_env G t) (ll_dyn G t) (ll_rg G) sz σ [.ref (G.2 25), .int a1]) (jx_Qi (ll_dyn G t) out.2 out.1 (jx_A (ll_rg G) sz)) 0 0 (jx_A (ll_rg G) sz) := by
  unfold f_X3_takesLetter at h
  refine jx_met (by decide) (Nat.le_of_ble_eq_true rfl) ?_
  refine jx_sub (lv' := [(0, .ref (G.2 25)), (1, .int a1)]) [0, 1] rfl ?_
  refine jx_aload_n (pc := 0) (k0 := 0) rfl dX3_takesLetter_0 ?_
  refine ll_greader_letter (pc := 1) fl_X3_104 dX3_takesLetter_1 ?_
  refine st_ldc_X3_93 (pc := 4) ll_hex dX3_takesLetter_4 ?_
  obtain ⟨q1, eq1, h⟩ := jx_bd_o h
  refine jx_callVi (pc := 6) [] (fun sz' => k_J0_length_8abf5 l (ll_env G t) (ll_dyn G t) (ll_rg G) G ll_jok ll_hex sz' σ 0 q1 eq1) kv_X3_107 ll_jok (st_rc ll_hex (i := 0) (by decide)) rfl rfl (Nat.le_of_ble_eq_true rfl) ⟨⟨rfl, rfl⟩, ⟨Nat.le_of_ble_eq_true rfl, Nat.le_of_ble_eq_true rfl⟩, Nat.zero_le _, Nat.zero_le _⟩ dX3_takesLetter_6 ?_
  refine jx_icmp_ge (pc := 9) (tgt := 25) dX3_takesLetter_9 (by decide) (fun c2 => ?_) (fun c2 => ?_)
  · have h := jx_t c2 h
    refine jx_iconst (pc := 25) (v := (0 : Int32)) (by decide) dX3_takesLetter_25 ?_
    have h := Option.some.inj h
    subst h
    exact jx_zret (pc := 26) (Or.inl rfl) dX3_takesLetter_26
  · have h := jx_f c2 h
    refine st_ldc_X3_93 (pc := 12) ll_hex dX3_takesLetter_12 ?_
    refine jx_aload_n (pc := 14) (k0 := 0) rfl dX3_takesLetter_14 ?_
    refine ll_greader_letter (pc := 15) fl_X3_104 dX3_takesLetter_15 ?_
    obtain ⟨q3, eq3, h⟩ := jx_bd_o h
    refine jx_callVi (pc := 18) [.int (σ 0 36)] (fun sz' => k_J0_charAt_5068e l (ll_env G t) (ll_dyn G t) (ll_rg G) G ll_jok ll_hex sz' σ 0 (σ 0 36) q3 eq3) kv_X3_95 ll_jok (st_rc ll_hex (i := 0) (by decide)) rfl rfl (Nat.le_of_ble_eq_true rfl) ⟨⟨rfl, rfl⟩, ⟨Nat.le_of_ble_eq_true rfl, Nat.le_of_ble_eq_true rfl⟩, Nat.zero_le _, Nat.zero_le _⟩ dX3_takesLetter_18 ?_
    refine jx_iload_n (pc := 21) (k0 := 1) rfl dX3_takesLetter_21 ?_
    refine jx_icmp_eq (pc := 22) (tgt := 27) dX3_takesLetter_22 (by decide) (fun c4 => ?_) (fun c4 => ?_)
    · have h := jx_t c4 h
      refine jx_aload_n (pc := 27) (k0 := 0) rfl dX3_takesLetter_27 ?_
      refine jx_dup (pc := 28) rfl dX3_takesLetter_28 ?_
      refine ll_greader_letter (pc := 29) fl_X3_104 dX3_takesLetter_29 ?_
      refine jx_iconst (pc := 32) (v := (1 : Int32)) (by decide) dX3_takesLetter_32 ?_
      refine jx_iadd (pc := 33) dX3_takesLetter_33 ?_
      obtain ⟨σ5, eσ5, h⟩ := jx_lt_o h
      refine ll_preader_letter (pc := 34) hG fl_X3_104 eσ5 dX3_takesLetter_34 ?_
      refine jx_iload_n (pc := 37) (k0 := 1) rfl dX3_takesLetter_37 ?_
      refine jx_bipush (pc := 38) (v := (32 : Int32)) (by decide) dX3_takesLetter_38 ?_
      refine jx_icmp_ne (pc := 40) (tgt := 73) dX3_takesLetter_40 (by decide) (fun c6 => ?_) (fun c6 => ?_)
      · have h := jx_f c6 h
        refine jx_iconst (pc := 73) (v := (1 : Int32)) (by decide) dX3_takesLetter_73 ?_
        have h := Option.some.inj h
        subst h
        exact jx_zret (pc := 74) (Or.inr rfl) dX3_takesLetter_74
      · have h := jx_t c6 h
        refine jx_aload_n (pc := 43) (k0 := 0) rfl dX3_takesLetter_43 ?_
        refine jx_aload_n (pc := 44) (k0 := 0) rfl dX3_takesLetter_44 ?_
        refine ll_greader_word (pc := 45) fl_X3_101 dX3_takesLetter_45 ?_
        refine jx_iconst (pc := 48) (v := (2 : Int32)) (by decide) dX3_takesLetter_48 ?_
        refine jx_icmp_eq (pc := 49) (tgt := 60) dX3_takesLetter_49 (by decide) (fun c7 => ?_) (fun c7 => ?_)
        · have h := jx_t c7 h
          exact jx_sub [0] rfl (jb_X3_takesLetter_60 l G t hG sz out σ5 h)
        · have h := jx_f c7 h
          refine jx_aload_n (pc := 52) (k0 := 0) rfl dX3_takesLetter_52 ?_
          refine ll_greader_word (pc := 53) fl_X3_101 dX3_takesLetter_53 ?_
          refine jx_iconst (pc := 56) (v := (3 : Int32)) (by decide) dX3_takesLetter_56 ?_
          refine jx_icmp_ne (pc := 57) (tgt := 64) dX3_takesLetter_57 (by decide) (fun c8 => ?_) (fun c8 => ?_)
          · have h := jx_f c8 h
            refine jx_iconst (pc := 64) (v := (4 : Int32)) (by decide) dX3_takesLetter_64 ?_
            exact jx_sub [0] rfl (jb_X3_takesLetter_65 l G t hG sz out σ5 (4 : Int32) h)
          · have h := jx_t c8 h
            exact jx_sub [0] rfl (jb_X3_takesLetter_60 l G t hG sz out σ5 h)
    · have h := jx_f c4 h
      refine jx_iconst (pc := 25) (v := (0 : Int32)) (by decide) dX3_takesLetter_25 ?_
      have h := Option.some.inj h
      subst h
      exact jx_zret (pc := 26) (Or.inl rfl) dX3_takesLetter_26
theorem dX3_takesFactor_0 : decode cX3_takesFactor 0 = .ok (.iload_n 1, 1) := by decide +kernel
theorem dX3_takesFactor_1 : decode cX3_takesFactor 1 = .ok (.bipush 33, 2) := by decide +kernel
theorem dX3_takesFactor_3 : decode cX3_takesFactor 3 = .ok (.if_icmp .eq 9, 3) := by decide +kernel
theorem dX3_takesFactor_6 : decode cX3_takesFactor 6 = .ok (.iload_n 1, 1) := by decide +kernel
theorem dX3_takesFactor_7 : decode cX3_takesFactor 7 = .ok (.bipush 40, 2) := by decide +kernel
theorem dX3_takesFactor_9 : decode cX3_takesFactor 9 = .ok (.if_icmp .ne 41, 3) := by decide +kernel
theorem dX3_takesFactor_12 : decode cX3_takesFactor 12 = .ok (.aload_n 0, 1) := by decide +kernel
theorem dX3_takesFactor_13 : decode cX3_takesFactor 13 = .ok (.getfield 37, 3) := by decide +kernel
theorem dX3_takesFactor_16 : decode cX3_takesFactor 16 = .ok (.iconst 5, 1) := by decide +kernel
theorem dX3_takesFactor_17 : decode cX3_takesFactor 17 = .ok (.if_icmp .lt 5, 3) := by decide +kernel
theorem dX3_takesFactor_20 : decode cX3_takesFactor 20 = .ok (.iconst 0, 1) := by decide +kernel
theorem dX3_takesFactor_21 : decode cX3_takesFactor 21 = .ok (.ireturn, 1) := by decide +kernel
theorem dX3_takesFactor_22 : decode cX3_takesFactor 22 = .ok (.aload_n 0, 1) := by decide +kernel
theorem dX3_takesFactor_23 : decode cX3_takesFactor 23 = .ok (.dup, 1) := by decide +kernel
theorem dX3_takesFactor_24 : decode cX3_takesFactor 24 = .ok (.getfield 37, 3) := by decide +kernel
theorem dX3_takesFactor_27 : decode cX3_takesFactor 27 = .ok (.iconst 1, 1) := by decide +kernel
theorem dX3_takesFactor_28 : decode cX3_takesFactor 28 = .ok (.iadd, 1) := by decide +kernel
theorem dX3_takesFactor_29 : decode cX3_takesFactor 29 = .ok (.putfield 37, 3) := by decide +kernel
theorem dX3_takesFactor_32 : decode cX3_takesFactor 32 = .ok (.aload_n 0, 1) := by decide +kernel
theorem dX3_takesFactor_33 : decode cX3_takesFactor 33 = .ok (.iload_n 1, 1) := by decide +kernel
theorem dX3_takesFactor_34 : decode cX3_takesFactor 34 = .ok (.bipush 33, 2) := by decide +kernel
theorem dX3_takesFactor_36 : decode cX3_takesFactor 36 = .ok (.if_icmp .ne 7, 3) := by decide +kernel
theorem dX3_takesFactor_39 : decode cX3_takesFactor 39 = .ok (.iconst (-1), 1) := by decide +kernel
theorem dX3_takesFactor_40 : decode cX3_takesFactor 40 = .ok (.goto 5, 3) := by decide +kernel
theorem dX3_takesFactor_43 : decode cX3_takesFactor 43 = .ok (.bipush (-4), 2) := by decide +kernel
theorem dX3_takesFactor_45 : decode cX3_takesFactor 45 = .ok (.invokevirtual 117, 3) := by decide +kernel
theorem dX3_takesFactor_48 : decode cX3_takesFactor 48 = .ok (.iconst 1, 1) := by decide +kernel
theorem dX3_takesFactor_49 : decode cX3_takesFactor 49 = .ok (.ireturn, 1) := by decide +kernel
theorem dX3_takesFactor_50 : decode cX3_takesFactor 50 = .ok (.aload_n 0, 1) := by decide +kernel
theorem dX3_takesFactor_51 : decode cX3_takesFactor 51 = .ok (.ldc 121, 2) := by decide +kernel
theorem dX3_takesFactor_53 : decode cX3_takesFactor 53 = .ok (.iload_n 1, 1) := by decide +kernel
theorem dX3_takesFactor_54 : decode cX3_takesFactor 54 = .ok (.i2c, 1) := by decide +kernel
theorem dX3_takesFactor_55 : decode cX3_takesFactor 55 = .ok (.invokevirtual 123, 3) := by decide +kernel
theorem dX3_takesFactor_58 : decode cX3_takesFactor 58 = .ok (.putfield 127, 3) := by decide +kernel
theorem dX3_takesFactor_61 : decode cX3_takesFactor 61 = .ok (.aload_n 0, 1) := by decide +kernel
theorem dX3_takesFactor_62 : decode cX3_takesFactor 62 = .ok (.iconst 5, 1) := by decide +kernel
theorem dX3_takesFactor_63 : decode cX3_takesFactor 63 = .ok (.putfield 40, 3) := by decide +kernel
theorem dX3_takesFactor_66 : decode cX3_takesFactor 66 = .ok (.aload_n 0, 1) := by decide +kernel
theorem dX3_takesFactor_67 : decode cX3_takesFactor 67 = .ok (.getfield 127, 3) := by decide +kernel
theorem dX3_takesFactor_70 : decode cX3_takesFactor 70 = .ok (.ifCond .lt 7, 3) := by decide +kernel
theorem dX3_takesFactor_73 : decode cX3_takesFactor 73 = .ok (.iconst 1, 1) := by decide +kernel
theorem dX3_takesFactor_74 : decode cX3_takesFactor 74 = .ok (.goto 4, 3) := by decide +kernel
theorem dX3_takesFactor_77 : decode cX3_takesFactor 77 = .ok (.iconst 0, 1) := by decide +kernel
theorem dX3_takesFactor_78 : decode cX3_takesFactor 78 = .ok (.ireturn, 1) := by decide +kernel
abbrev rm_X3_takesFactor : Room := { frames := 4, cells := 0, slots := 0, locals := 91 }
abbrev jJ_X3_takesFactor (l : Launch) (G : jx_G) (t : jx_T) (sz : Nat) (out : (Int32 × jx_M)) (pc : Nat) (lv : List (Nat × Value)) (st : List Value) (σ : jx_M) : Prop := jx_J l (ll_env G t) (ll_dyn G t) (ll_rg G) sz RX3 "takesFactor" cX3_takesFactor 2 (some .boolean) rm_X3_takesFactor (fun below args s => MQ below (jx_Qi (ll_dyn G t) out.2 out.1 (jx_A (ll_rg G) sz)) args s 0 0 (jx_A (ll_rg G) sz)) 0 0 pc lv st σ
def b_X3_takesFactor_45 (t : jx_T)  (σ : jx_M) (s0 : Int32) : Option (Int32 × jx_M) :=
  jx_bd (f_X3_pend t σ s0) (fun q1 => some ((1 : Int32), q1))
set_option maxHeartbeats 4000000 in
set_option maxRecDepth 100000 in
theorem jb_X3_takesFactor_45 (l : Launch) (G : jx_G) (t : jx_T) (hG : ll_ok G) (sz : Nat) (out : (Int32 × jx_M))  (σ : jx_M) (s0 : Int32) (h : b_X3_takesFactor_45 t σ s0 = some out) : jJ_X3_takesFactor l G t sz out 45 [] [.int s0, .ref (G.2 25)] σ := by
  unfold b_X3_takesFactor_45 at h
  obtain ⟨q1, eq1, h⟩ := jx_bd_o h
  refine jx_callVv (pc := 45) [.int s0] (fun sz' => k_X3_pend l G t hG sz' σ s0 q1 eq1) kv_X3_117 ll_jok ll_rcreader rfl rfl (Nat.le_of_ble_eq_true rfl) ⟨⟨rfl, rfl⟩, ⟨Nat.le_of_ble_eq_true rfl, Nat.le_of_ble_eq_true rfl⟩, Nat.zero_le _, Nat.zero_le _⟩ dX3_takesFactor_45 ?_
  refine jx_iconst (pc := 48) (v := (1 : Int32)) (by decide) dX3_takesFactor_48 ?_
  have h := Option.some.inj h
  subst h
  exact jx_zret (pc := 49) (Or.inr rfl) dX3_takesFactor_49
def b_X3_takesFactor_12 (t : jx_T)  (σ : jx_M) (v1 : Int32) : Option (Int32 × jx_M) :=
  if (σ 0 33) < (5 : Int32) then jx_lt (jx_mu σ 0 33 ((σ 0 33) + (1 : Int32))) (fun σ2 => if v1 = (33 : Int32) then (b_X3_takesFactor_45 t σ2 (-1 : Int32)) else (b_X3_takesFactor_45 t σ2 (-4 : Int32))) else some ((0 : Int32), σ)
set_option maxHeartbeats 4000000 in
set_option maxRecDepth 100000 in
theorem jb_X3_takesFactor_12 (l : Launch) (G : jx_G) (t : jx_T) (hG : ll_ok G) (sz : Nat) (out : (Int32 × jx_M))  (σ : jx_M) (v1 : Int32) (h : b_X3_takesFactor_12 t σ v1 = some out) : jJ_X3_takesFactor l G t sz out 12 [(0, .ref (G.2 25)), (1, .int v1)] [] σ := by
  unfold b_X3_takesFactor_12 at h
  refine jx_aload_n (pc := 12) (k0 := 0) rfl dX3_takesFactor_12 ?_
  refine ll_greader_open (pc := 13) fl_X3_37 dX3_takesFactor_13 ?_
  refine jx_iconst (pc := 16) (v := (5 : Int32)) (by decide) dX3_takesFactor_16 ?_
  refine jx_icmp_lt (pc := 17) (tgt := 22) dX3_takesFactor_17 (by decide) (fun c1 => ?_) (fun c1 => ?_)
  · have h := jx_t c1 h
    refine jx_aload_n (pc := 22) (k0 := 0) rfl dX3_takesFactor_22 ?_
    refine jx_dup (pc := 23) rfl dX3_takesFactor_23 ?_
    refine ll_greader_open (pc := 24) fl_X3_37 dX3_takesFactor_24 ?_
    refine jx_iconst (pc := 27) (v := (1 : Int32)) (by decide) dX3_takesFactor_27 ?_
    refine jx_iadd (pc := 28) dX3_takesFactor_28 ?_
    obtain ⟨σ2, eσ2, h⟩ := jx_lt_o h
    refine ll_preader_open (pc := 29) hG fl_X3_37 eσ2 dX3_takesFactor_29 ?_
    refine jx_aload_n (pc := 32) (k0 := 0) rfl dX3_takesFactor_32 ?_
    refine jx_iload_n (pc := 33) (k0 := 1) rfl dX3_takesFactor_33 ?_
    refine jx_bipush (pc := 34) (v := (33 : Int32)) (by decide) dX3_takesFactor_34 ?_
    refine jx_icmp_ne (pc := 36) (tgt := 43) dX3_takesFactor_36 (by decide) (fun c3 => ?_) (fun c3 => ?_)
    · have h := jx_f c3 h
      refine jx_bipush (pc := 43) (v := (-4 : Int32)) (by decide) dX3_takesFactor_43 ?_
      exact jx_sub [] rfl (jb_X3_takesFactor_45 l G t hG sz out σ2 (-4 : Int32) h)
    · have h := jx_t c3 h
      refine jx_iconst (pc := 39) (v := (-1 : Int32)) (by decide) dX3_takesFactor_39 ?_
      refine jx_goto (pc := 40) (tgt := 45) dX3_takesFactor_40 (by decide) ?_
      exact jx_sub [] rfl (jb_X3_takesFactor_45 l G t hG sz out σ2 (-1 : Int32) h)
  · have h := jx_f c1 h
    refine jx_iconst (pc := 20) (v := (0 : Int32)) (by decide) dX3_takesFactor_20 ?_
    have h := Option.some.inj h
    subst h
    exact jx_zret (pc := 21) (Or.inl rfl) dX3_takesFactor_21
def f_X3_takesFactor (t : jx_T) (σ : jx_M) (a1 : Int32) : Option (Int32 × jx_M) :=
  if a1 = (33 : Int32) then (b_X3_takesFactor_12 t σ a1) else if a1 = (40 : Int32) then (b_X3_takesFactor_12 t σ a1) else jx_bd (f_J0_indexOf_0f7a4 1 (a1.toUInt32 % 65536).toInt32) (fun q3 => jx_lt (jx_mu σ 0 37 q3) (fun σ4 => jx_lt (jx_mu σ4 0 34 (5 : Int32)) (fun σ5 => if (σ5 0 37) < 0 then some ((0 : Int32), σ5) else some ((1 : Int32), σ5))))
set_option maxHeartbeats 4000000 in
set_option maxRecDepth 100000 in
theorem k_X3_takesFactor (l : Launch) (G : jx_G) (t : jx_T) (hG : ll_ok G) (sz : Nat) (σ : jx_M) (a1 : Int32) (out : (Int32 × jx_M)) (h : f_X3_takesFactor t σ a1 = some out) : Met l yX3_takesFactor (Cond.code yX3_takesFactor cX3_takesFactor 2 (some .boolean) :: jx_ws) rm_X3_takesFactor (jx_Pc (ll_env G t) (ll_dyn G t) (ll_rg G) sz σ [.ref (G.2 25), .int a1]) (jx_Qi (ll_dyn G t) out.2 out.1 (jx_A (ll_rg G) sz)) 0 0 (jx_A (ll_rg G) sz) := by
  unfold f_X3_takesFactor at h
  refine jx_met (by decide) (Nat.le_of_ble_eq_true rfl) ?_
  refine jx_sub (lv' := [(0, .ref (G.2 25)), (1, .int a1)]) [0, 1] rfl ?_
  refine jx_iload_n (pc := 0) (k0 := 1) rfl dX3_takesFactor_0 ?_
  refine jx_bipush (pc := 1) (v := (33 : Int32)) (by decide) dX3_takesFactor_1 ?_
  refine jx_icmp_eq (pc := 3) (tgt := 12) dX3_takesFactor_3 (by decide) (fun c1 => ?_) (fun c1 => ?_)
  · have h := jx_t c1 h
    exact jx_sub [0, 1] rfl (jb_X3_takesFactor_12 l G t hG sz out σ a1 h)
  · have h := jx_f c1 h
    refine jx_iload_n (pc := 6) (k0 := 1) rfl dX3_takesFactor_6 ?_
    refine jx_bipush (pc := 7) (v := (40 : Int32)) (by decide) dX3_takesFactor_7 ?_
    refine jx_icmp_ne (pc := 9) (tgt := 50) dX3_takesFactor_9 (by decide) (fun c2 => ?_) (fun c2 => ?_)
    · have h := jx_f c2 h
      refine jx_aload_n (pc := 50) (k0 := 0) rfl dX3_takesFactor_50 ?_
      refine st_ldc_X3_121 (pc := 51) ll_hex dX3_takesFactor_51 ?_
      refine jx_iload_n (pc := 53) (k0 := 1) rfl dX3_takesFactor_53 ?_
      refine jx_i2c (pc := 54) dX3_takesFactor_54 ?_
      obtain ⟨q3, eq3, h⟩ := jx_bd_o h
      refine jx_callVi (pc := 55) [.int (a1.toUInt32 % 65536).toInt32] (fun sz' => k_J0_indexOf_0f7a4 l (ll_env G t) (ll_dyn G t) (ll_rg G) G ll_jok ll_hex sz' σ 1 (a1.toUInt32 % 65536).toInt32 q3 eq3) kv_X3_123 ll_jok (st_rc ll_hex (i := 1) (by decide)) rfl rfl (Nat.le_of_ble_eq_true rfl) ⟨⟨rfl, rfl⟩, ⟨Nat.le_of_ble_eq_true rfl, Nat.le_of_ble_eq_true rfl⟩, Nat.zero_le _, Nat.zero_le _⟩ dX3_takesFactor_55 ?_
      obtain ⟨σ4, eσ4, h⟩ := jx_lt_o h
      refine ll_preader_subject (pc := 58) hG fl_X3_127 eσ4 dX3_takesFactor_58 ?_
      refine jx_aload_n (pc := 61) (k0 := 0) rfl dX3_takesFactor_61 ?_
      refine jx_iconst (pc := 62) (v := (5 : Int32)) (by decide) dX3_takesFactor_62 ?_
      obtain ⟨σ5, eσ5, h⟩ := jx_lt_o h
      refine ll_preader_due (pc := 63) hG fl_X3_40 eσ5 dX3_takesFactor_63 ?_
      refine jx_aload_n (pc := 66) (k0 := 0) rfl dX3_takesFactor_66 ?_
      refine ll_greader_subject (pc := 67) fl_X3_127 dX3_takesFactor_67 ?_
      refine jx_if_lt (pc := 70) (tgt := 77) dX3_takesFactor_70 (by decide) (fun c6 => ?_) (fun c6 => ?_)
      · have h := jx_t c6 h
        refine jx_iconst (pc := 77) (v := (0 : Int32)) (by decide) dX3_takesFactor_77 ?_
        have h := Option.some.inj h
        subst h
        exact jx_zret (pc := 78) (Or.inl rfl) dX3_takesFactor_78
      · have h := jx_f c6 h
        refine jx_iconst (pc := 73) (v := (1 : Int32)) (by decide) dX3_takesFactor_73 ?_
        refine jx_goto (pc := 74) (tgt := 78) dX3_takesFactor_74 (by decide) ?_
        have h := Option.some.inj h
        subst h
        exact jx_zret (pc := 78) (Or.inr rfl) dX3_takesFactor_78
    · have h := jx_t c2 h
      exact jx_sub [0, 1] rfl (jb_X3_takesFactor_12 l G t hG sz out σ a1 h)
theorem dX3_endTest_0 : decode cX3_endTest 0 = .ok (.iconst 0, 1) := by decide +kernel
theorem dX3_endTest_1 : decode cX3_endTest 1 = .ok (.istore_n 1, 1) := by decide +kernel
theorem dX3_endTest_2 : decode cX3_endTest 2 = .ok (.iconst 0, 1) := by decide +kernel
theorem dX3_endTest_3 : decode cX3_endTest 3 = .ok (.istore_n 2, 1) := by decide +kernel
theorem dX3_endTest_4 : decode cX3_endTest 4 = .ok (.iload_n 2, 1) := by decide +kernel
theorem dX3_endTest_5 : decode cX3_endTest 5 = .ok (.bipush 12, 2) := by decide +kernel
theorem dX3_endTest_7 : decode cX3_endTest 7 = .ok (.if_icmp .ge 23, 3) := by decide +kernel
theorem dX3_endTest_10 : decode cX3_endTest 10 = .ok (.aload_n 0, 1) := by decide +kernel
theorem dX3_endTest_11 : decode cX3_endTest 11 = .ok (.iload_n 2, 1) := by decide +kernel
theorem dX3_endTest_12 : decode cX3_endTest 12 = .ok (.invokevirtual 135, 3) := by decide +kernel
theorem dX3_endTest_15 : decode cX3_endTest 15 = .ok (.ifCond .eq 9, 3) := by decide +kernel
theorem dX3_endTest_18 : decode cX3_endTest 18 = .ok (.iload_n 1, 1) := by decide +kernel
theorem dX3_endTest_19 : decode cX3_endTest 19 = .ok (.iconst 1, 1) := by decide +kernel
theorem dX3_endTest_20 : decode cX3_endTest 20 = .ok (.iload_n 2, 1) := by decide +kernel
theorem dX3_endTest_21 : decode cX3_endTest 21 = .ok (.ishl, 1) := by decide +kernel
theorem dX3_endTest_22 : decode cX3_endTest 22 = .ok (.ior, 1) := by decide +kernel
theorem dX3_endTest_23 : decode cX3_endTest 23 = .ok (.istore_n 1, 1) := by decide +kernel
theorem dX3_endTest_24 : decode cX3_endTest 24 = .ok (.iinc 2 1, 3) := by decide +kernel
theorem dX3_endTest_27 : decode cX3_endTest 27 = .ok (.goto (-23), 3) := by decide +kernel
theorem dX3_endTest_30 : decode cX3_endTest 30 = .ok (.aload_n 0, 1) := by decide +kernel
theorem dX3_endTest_31 : decode cX3_endTest 31 = .ok (.aload_n 0, 1) := by decide +kernel
theorem dX3_endTest_32 : decode cX3_endTest 32 = .ok (.getfield 127, 3) := by decide +kernel
theorem dX3_endTest_35 : decode cX3_endTest 35 = .ok (.bipush 12, 2) := by decide +kernel
theorem dX3_endTest_37 : decode cX3_endTest 37 = .ok (.ishl, 1) := by decide +kernel
theorem dX3_endTest_38 : decode cX3_endTest 38 = .ok (.iload_n 1, 1) := by decide +kernel
theorem dX3_endTest_39 : decode cX3_endTest 39 = .ok (.ior, 1) := by decide +kernel
theorem dX3_endTest_40 : decode cX3_endTest 40 = .ok (.invokevirtual 138, 3) := by decide +kernel
theorem dX3_endTest_43 : decode cX3_endTest 43 = .ok (.aload_n 0, 1) := by decide +kernel
theorem dX3_endTest_44 : decode cX3_endTest 44 = .ok (.bipush 8, 2) := by decide +kernel
theorem dX3_endTest_46 : decode cX3_endTest 46 = .ok (.putfield 40, 3) := by decide +kernel
theorem dX3_endTest_49 : decode cX3_endTest 49 = .ok (.return_, 1) := by decide +kernel
abbrev rm_X3_endTest : Room := { frames := 1, cells := 0, slots := 0, locals := 21 }
abbrev jJ_X3_endTest (l : Launch) (G : jx_G) (t : jx_T) (sz : Nat) (out : jx_M) (pc : Nat) (lv : List (Nat × Value)) (st : List Value) (σ : jx_M) : Prop := jx_J l (ll_env G t) (ll_dyn G t) (ll_rg G) sz RX3 "endTest" cX3_endTest 3 none rm_X3_endTest (fun below args s => MQ below (jx_Qv (ll_dyn G t) out (jx_A (ll_rg G) sz)) args s 0 0 (jx_A (ll_rg G) sz)) 0 0 pc lv st σ
def b_X3_endTest_24 (t : jx_T) (k4 : jx_M → Int32 → Int32 → Option jx_M) (σ : jx_M) (v1 : Int32) (v2 : Int32) : Option jx_M :=
  jx_lt (v2 + (1 : Int32)) (fun x1 => (k4 σ v1 x1))
set_option maxHeartbeats 4000000 in
set_option maxRecDepth 100000 in
theorem jb_X3_endTest_24 (l : Launch) (G : jx_G) (t : jx_T) (hG : ll_ok G) (sz : Nat) (out : jx_M) (k4 : jx_M → Int32 → Int32 → Option jx_M) (h4 : ∀ (σ : jx_M) (v1 : Int32) (v2 : Int32), k4 σ v1 v2 = some out → jJ_X3_endTest l G t sz out 4 [(0, .ref (G.2 25)), (1, .int v1), (2, .int v2)] [] σ) (σ : jx_M) (v1 : Int32) (v2 : Int32) (h : b_X3_endTest_24 t k4 σ v1 v2 = some out) : jJ_X3_endTest l G t sz out 24 [(0, .ref (G.2 25)), (1, .int v1), (2, .int v2)] [] σ := by
  unfold b_X3_endTest_24 at h
  obtain ⟨x1, ex1, h⟩ := jx_lt_o h
  refine jx_iinc (pc := 24) (i := 2) (v := v2) rfl ex1 (n := 1) (by decide) (by decide) (lv' := [(2, .int x1), (0, .ref (G.2 25)), (1, .int v1)]) rfl dX3_endTest_24 ?_
  refine jx_goto (pc := 27) (tgt := 4) dX3_endTest_27 (by decide) ?_
  exact jx_sub [1, 2, 0] rfl (h4 σ v1 x1 h)
def g_X3_endTest_4 (t : jx_T) (k4 : jx_M → Int32 → Int32 → Option jx_M) (σ : jx_M) (v1 : Int32) (v2 : Int32) : Option jx_M :=
  if (12 : Int32) ≤ v2 then jx_bd (f_X3_write t σ (((σ 0 37) <<< ((12 : Int32) &&& 31)) ||| v1)) (fun q2 => jx_lt (jx_mu q2 0 34 (8 : Int32)) (fun σ3 => some σ3)) else jx_bd (f_X3_isSo t σ v2) (fun q4 => if q4 = 0 then (b_X3_endTest_24 t k4 σ v1 v2) else jx_lt ((v1 ||| ((1 : Int32) <<< (v2 &&& 31)))) (fun x6 => (b_X3_endTest_24 t k4 σ x6 v2)))
set_option maxHeartbeats 4000000 in
set_option maxRecDepth 100000 in
theorem jg_X3_endTest_4 (l : Launch) (G : jx_G) (t : jx_T) (hG : ll_ok G) (sz : Nat) (out : jx_M) (k4 : jx_M → Int32 → Int32 → Option jx_M) (h4 : ∀ (σ : jx_M) (v1 : Int32) (v2 : Int32), k4 σ v1 v2 = some out → jJ_X3_endTest l G t sz out 4 [(0, .ref (G.2 25)), (1, .int v1), (2, .int v2)] [] σ) (σ : jx_M) (v1 : Int32) (v2 : Int32) (h : g_X3_endTest_4 t k4 σ v1 v2 = some out) : jJ_X3_endTest l G t sz out 4 [(0, .ref (G.2 25)), (1, .int v1), (2, .int v2)] [] σ := by
  unfold g_X3_endTest_4 at h
  refine jx_iload_n (pc := 4) (k0 := 2) rfl dX3_endTest_4 ?_
  refine jx_bipush (pc := 5) (v := (12 : Int32)) (by decide) dX3_endTest_5 ?_
  refine jx_icmp_ge (pc := 7) (tgt := 30) dX3_endTest_7 (by decide) (fun c1 => ?_) (fun c1 => ?_)
  · have h := jx_t c1 h
    refine jx_aload_n (pc := 30) (k0 := 0) rfl dX3_endTest_30 ?_
    refine jx_aload_n (pc := 31) (k0 := 0) rfl dX3_endTest_31 ?_
    refine ll_greader_subject (pc := 32) fl_X3_127 dX3_endTest_32 ?_
    refine jx_bipush (pc := 35) (v := (12 : Int32)) (by decide) dX3_endTest_35 ?_
    refine jx_ishl (pc := 37) dX3_endTest_37 ?_
    refine jx_iload_n (pc := 38) (k0 := 1) rfl dX3_endTest_38 ?_
    refine jx_ior (pc := 39) dX3_endTest_39 ?_
    obtain ⟨q2, eq2, h⟩ := jx_bd_o h
    refine jx_callVv (pc := 40) [.int (((σ 0 37) <<< ((12 : Int32) &&& 31)) ||| v1)] (fun sz' => k_X3_write l G t hG sz' σ (((σ 0 37) <<< ((12 : Int32) &&& 31)) ||| v1) q2 eq2) kv_X3_138 ll_jok ll_rcreader rfl rfl (Nat.le_of_ble_eq_true rfl) ⟨⟨rfl, rfl⟩, ⟨Nat.le_of_ble_eq_true rfl, Nat.le_of_ble_eq_true rfl⟩, Nat.zero_le _, Nat.zero_le _⟩ dX3_endTest_40 ?_
    refine jx_aload_n (pc := 43) (k0 := 0) rfl dX3_endTest_43 ?_
    refine jx_bipush (pc := 44) (v := (8 : Int32)) (by decide) dX3_endTest_44 ?_
    obtain ⟨σ3, eσ3, h⟩ := jx_lt_o h
    refine ll_preader_due (pc := 46) hG fl_X3_40 eσ3 dX3_endTest_46 ?_
    have h := Option.some.inj h
    subst h
    exact jx_vret (pc := 49) dX3_endTest_49
  · have h := jx_f c1 h
    refine jx_aload_n (pc := 10) (k0 := 0) rfl dX3_endTest_10 ?_
    refine jx_iload_n (pc := 11) (k0 := 2) rfl dX3_endTest_11 ?_
    obtain ⟨q4, eq4, h⟩ := jx_bd_o h
    refine jx_callVi (pc := 12) [.int v2] (fun sz' => k_X3_isSo l G t hG sz' σ v2 q4 eq4) kv_X3_135 ll_jok ll_rcreader rfl rfl (Nat.le_of_ble_eq_true rfl) ⟨⟨rfl, rfl⟩, ⟨Nat.le_of_ble_eq_true rfl, Nat.le_of_ble_eq_true rfl⟩, Nat.zero_le _, Nat.zero_le _⟩ dX3_endTest_12 ?_
    refine jx_if_eq (pc := 15) (tgt := 24) dX3_endTest_15 (by decide) (fun c5 => ?_) (fun c5 => ?_)
    · have h := jx_t c5 h
      exact jx_sub [0, 1, 2] rfl (jb_X3_endTest_24 l G t hG sz out k4 h4 σ v1 v2 h)
    · have h := jx_f c5 h
      refine jx_iload_n (pc := 18) (k0 := 1) rfl dX3_endTest_18 ?_
      refine jx_iconst (pc := 19) (v := (1 : Int32)) (by decide) dX3_endTest_19 ?_
      refine jx_iload_n (pc := 20) (k0 := 2) rfl dX3_endTest_20 ?_
      refine jx_ishl (pc := 21) dX3_endTest_21 ?_
      refine jx_ior (pc := 22) dX3_endTest_22 ?_
      obtain ⟨x6, ex6, h⟩ := jx_lt_o h
      refine jx_istore_n (pc := 23) (i := 1) rfl ex6 (by decide) (lv' := [(1, .int x6), (0, .ref (G.2 25)), (2, .int v2)]) rfl dX3_endTest_23 ?_
      exact jx_sub [1, 0, 2] rfl (jb_X3_endTest_24 l G t hG sz out k4 h4 σ x6 v2 h)
def b_X3_endTest_4 (t : jx_T)  : Nat → jx_M → Int32 → Int32 → Option jx_M
  | 0, _, _, _ => none
  | n + 1, σ, v1, v2 => g_X3_endTest_4 t (b_X3_endTest_4 t n) σ v1 v2
theorem jb_X3_endTest_4 (l : Launch) (G : jx_G) (t : jx_T) (hG : ll_ok G) (sz : Nat) (out : jx_M)  : ∀ (n : Nat) (σ : jx_M) (v1 : Int32) (v2 : Int32), b_X3_endTest_4 t n σ v1 v2 = some out → jJ_X3_endTest l G t sz out 4 [(0, .ref (G.2 25)), (1, .int v1), (2, .int v2)] [] σ := by
  intro n
  induction n with
  | zero =>
    intro σ v1 v2 h
    cases h
  | succ n ih =>
    intro σ v1 v2 h
    exact jg_X3_endTest_4 l G t hG sz out (b_X3_endTest_4 t n) ih σ v1 v2 h
def f_X3_endTest (t : jx_T) (σ : jx_M)  : Option jx_M :=
  (b_X3_endTest_4 t jx_fuel σ (0 : Int32) (0 : Int32))
set_option maxHeartbeats 4000000 in
set_option maxRecDepth 100000 in
theorem k_X3_endTest (l : Launch) (G : jx_G) (t : jx_T) (hG : ll_ok G) (sz : Nat) (σ : jx_M)  (out : jx_M) (h : f_X3_endTest t σ = some out) : Met l yX3_endTest (Cond.code yX3_endTest cX3_endTest 3 none :: jx_ws) rm_X3_endTest (jx_Pc (ll_env G t) (ll_dyn G t) (ll_rg G) sz σ [.ref (G.2 25)]) (jx_Qv (ll_dyn G t) out (jx_A (ll_rg G) sz)) 0 0 (jx_A (ll_rg G) sz) := by
  unfold f_X3_endTest at h
  refine jx_met (by decide) (Nat.le_of_ble_eq_true rfl) ?_
  refine jx_sub (lv' := [(0, .ref (G.2 25))]) [0] rfl ?_
  refine jx_iconst (pc := 0) (v := (0 : Int32)) (by decide) dX3_endTest_0 ?_
  refine jx_istore_n (pc := 1) (i := 1) rfl rfl (by decide) (lv' := [(1, .int (0 : Int32)), (0, .ref (G.2 25))]) rfl dX3_endTest_1 ?_
  refine jx_iconst (pc := 2) (v := (0 : Int32)) (by decide) dX3_endTest_2 ?_
  refine jx_istore_n (pc := 3) (i := 2) rfl rfl (by decide) (lv' := [(2, .int (0 : Int32)), (1, .int (0 : Int32)), (0, .ref (G.2 25))]) rfl dX3_endTest_3 ?_
  exact jx_sub [2, 1, 0] rfl (jb_X3_endTest_4 l G t hG sz out jx_fuel σ (0 : Int32) (0 : Int32) h)
theorem dX3_writePending_0 : decode cX3_writePending 0 = .ok (.aload_n 0, 1) := by decide +kernel
theorem dX3_writePending_1 : decode cX3_writePending 1 = .ok (.getfield 34, 3) := by decide +kernel
theorem dX3_writePending_4 : decode cX3_writePending 4 = .ok (.ifCond .le 71, 3) := by decide +kernel
theorem dX3_writePending_7 : decode cX3_writePending 7 = .ok (.aload_n 0, 1) := by decide +kernel
theorem dX3_writePending_8 : decode cX3_writePending 8 = .ok (.getfield 24, 3) := by decide +kernel
theorem dX3_writePending_11 : decode cX3_writePending 11 = .ok (.aload_n 0, 1) := by decide +kernel
theorem dX3_writePending_12 : decode cX3_writePending 12 = .ok (.getfield 34, 3) := by decide +kernel
theorem dX3_writePending_15 : decode cX3_writePending 15 = .ok (.iconst 1, 1) := by decide +kernel
theorem dX3_writePending_16 : decode cX3_writePending 16 = .ok (.isub, 1) := by decide +kernel
theorem dX3_writePending_17 : decode cX3_writePending 17 = .ok (.iaload, 1) := by decide +kernel
theorem dX3_writePending_18 : decode cX3_writePending 18 = .ok (.iload_n 1, 1) := by decide +kernel
theorem dX3_writePending_19 : decode cX3_writePending 19 = .ok (.if_icmp .lt 56, 3) := by decide +kernel
theorem dX3_writePending_22 : decode cX3_writePending 22 = .ok (.aload_n 0, 1) := by decide +kernel
theorem dX3_writePending_23 : decode cX3_writePending 23 = .ok (.getfield 24, 3) := by decide +kernel
theorem dX3_writePending_26 : decode cX3_writePending 26 = .ok (.aload_n 0, 1) := by decide +kernel
theorem dX3_writePending_27 : decode cX3_writePending 27 = .ok (.getfield 34, 3) := by decide +kernel
theorem dX3_writePending_30 : decode cX3_writePending 30 = .ok (.iconst 1, 1) := by decide +kernel
theorem dX3_writePending_31 : decode cX3_writePending 31 = .ok (.isub, 1) := by decide +kernel
theorem dX3_writePending_32 : decode cX3_writePending 32 = .ok (.iaload, 1) := by decide +kernel
theorem dX3_writePending_33 : decode cX3_writePending 33 = .ok (.iconst (-1), 1) := by decide +kernel
theorem dX3_writePending_34 : decode cX3_writePending 34 = .ok (.if_icmp .ne 13, 3) := by decide +kernel
theorem dX3_writePending_37 : decode cX3_writePending 37 = .ok (.aload_n 0, 1) := by decide +kernel
theorem dX3_writePending_38 : decode cX3_writePending 38 = .ok (.dup, 1) := by decide +kernel
theorem dX3_writePending_39 : decode cX3_writePending 39 = .ok (.getfield 37, 3) := by decide +kernel
theorem dX3_writePending_42 : decode cX3_writePending 42 = .ok (.iconst 1, 1) := by decide +kernel
theorem dX3_writePending_43 : decode cX3_writePending 43 = .ok (.isub, 1) := by decide +kernel
theorem dX3_writePending_44 : decode cX3_writePending 44 = .ok (.putfield 37, 3) := by decide +kernel
theorem dX3_writePending_47 : decode cX3_writePending 47 = .ok (.aload_n 0, 1) := by decide +kernel
theorem dX3_writePending_48 : decode cX3_writePending 48 = .ok (.aload_n 0, 1) := by decide +kernel
theorem dX3_writePending_49 : decode cX3_writePending 49 = .ok (.getfield 24, 3) := by decide +kernel
theorem dX3_writePending_52 : decode cX3_writePending 52 = .ok (.aload_n 0, 1) := by decide +kernel
theorem dX3_writePending_53 : decode cX3_writePending 53 = .ok (.getfield 34, 3) := by decide +kernel
theorem dX3_writePending_56 : decode cX3_writePending 56 = .ok (.iconst 1, 1) := by decide +kernel
theorem dX3_writePending_57 : decode cX3_writePending 57 = .ok (.isub, 1) := by decide +kernel
theorem dX3_writePending_58 : decode cX3_writePending 58 = .ok (.iaload, 1) := by decide +kernel
theorem dX3_writePending_59 : decode cX3_writePending 59 = .ok (.invokevirtual 138, 3) := by decide +kernel
theorem dX3_writePending_62 : decode cX3_writePending 62 = .ok (.aload_n 0, 1) := by decide +kernel
theorem dX3_writePending_63 : decode cX3_writePending 63 = .ok (.dup, 1) := by decide +kernel
theorem dX3_writePending_64 : decode cX3_writePending 64 = .ok (.getfield 34, 3) := by decide +kernel
theorem dX3_writePending_67 : decode cX3_writePending 67 = .ok (.iconst 1, 1) := by decide +kernel
theorem dX3_writePending_68 : decode cX3_writePending 68 = .ok (.isub, 1) := by decide +kernel
theorem dX3_writePending_69 : decode cX3_writePending 69 = .ok (.putfield 34, 3) := by decide +kernel
theorem dX3_writePending_72 : decode cX3_writePending 72 = .ok (.goto (-72), 3) := by decide +kernel
theorem dX3_writePending_75 : decode cX3_writePending 75 = .ok (.return_, 1) := by decide +kernel
abbrev rm_X3_writePending : Room := { frames := 1, cells := 0, slots := 0, locals := 21 }
abbrev jJ_X3_writePending (l : Launch) (G : jx_G) (t : jx_T) (sz : Nat) (out : jx_M) (pc : Nat) (lv : List (Nat × Value)) (st : List Value) (σ : jx_M) : Prop := jx_J l (ll_env G t) (ll_dyn G t) (ll_rg G) sz RX3 "writePending" cX3_writePending 2 none rm_X3_writePending (fun below args s => MQ below (jx_Qv (ll_dyn G t) out (jx_A (ll_rg G) sz)) args s 0 0 (jx_A (ll_rg G) sz)) 0 0 pc lv st σ
def b_X3_writePending_47 (t : jx_T) (k0 : jx_M → Int32 → Option jx_M) (σ : jx_M) (v1 : Int32) : Option jx_M :=
  jx_gd (jx_in ((σ 0 32) - (1 : Int32)) 17) (jx_bd (f_X3_write t σ (σ 65 ((σ 0 32) - (1 : Int32)).toNatClampNeg)) (fun q2 => jx_lt (jx_mu q2 0 32 ((q2 0 32) - (1 : Int32))) (fun σ3 => (k0 σ3 v1))))
set_option maxHeartbeats 4000000 in
set_option maxRecDepth 100000 in
theorem jb_X3_writePending_47 (l : Launch) (G : jx_G) (t : jx_T) (hG : ll_ok G) (sz : Nat) (out : jx_M) (k0 : jx_M → Int32 → Option jx_M) (h0 : ∀ (σ : jx_M) (v1 : Int32), k0 σ v1 = some out → jJ_X3_writePending l G t sz out 0 [(0, .ref (G.2 25)), (1, .int v1)] [] σ) (σ : jx_M) (v1 : Int32) (h : b_X3_writePending_47 t k0 σ v1 = some out) : jJ_X3_writePending l G t sz out 47 [(0, .ref (G.2 25)), (1, .int v1)] [] σ := by
  unfold b_X3_writePending_47 at h
  refine jx_aload_n (pc := 47) (k0 := 0) rfl dX3_writePending_47 ?_
  refine jx_aload_n (pc := 48) (k0 := 0) rfl dX3_writePending_48 ?_
  refine ll_greader_pending (pc := 49) fl_X3_24 dX3_writePending_49 ?_
  refine jx_aload_n (pc := 52) (k0 := 0) rfl dX3_writePending_52 ?_
  refine ll_greader_pended (pc := 53) fl_X3_34 dX3_writePending_53 ?_
  refine jx_iconst (pc := 56) (v := (1 : Int32)) (by decide) dX3_writePending_56 ?_
  refine jx_isub (pc := 57) dX3_writePending_57 ?_
  obtain ⟨g1, h⟩ := jx_gd_o h
  refine ll_l (pc := 58) (k := 65) (jx_in_o g1) rfl dX3_writePending_58 ?_
  obtain ⟨q2, eq2, h⟩ := jx_bd_o h
  refine jx_callVv (pc := 59) [.int (σ 65 ((σ 0 32) - (1 : Int32)).toNatClampNeg)] (fun sz' => k_X3_write l G t hG sz' σ (σ 65 ((σ 0 32) - (1 : Int32)).toNatClampNeg) q2 eq2) kv_X3_138 ll_jok ll_rcreader rfl rfl (Nat.le_of_ble_eq_true rfl) ⟨⟨rfl, rfl⟩, ⟨Nat.le_of_ble_eq_true rfl, Nat.le_of_ble_eq_true rfl⟩, Nat.zero_le _, Nat.zero_le _⟩ dX3_writePending_59 ?_
  refine jx_aload_n (pc := 62) (k0 := 0) rfl dX3_writePending_62 ?_
  refine jx_dup (pc := 63) rfl dX3_writePending_63 ?_
  refine ll_greader_pended (pc := 64) fl_X3_34 dX3_writePending_64 ?_
  refine jx_iconst (pc := 67) (v := (1 : Int32)) (by decide) dX3_writePending_67 ?_
  refine jx_isub (pc := 68) dX3_writePending_68 ?_
  obtain ⟨σ3, eσ3, h⟩ := jx_lt_o h
  refine ll_preader_pended (pc := 69) hG fl_X3_34 eσ3 dX3_writePending_69 ?_
  refine jx_goto (pc := 72) (tgt := 0) dX3_writePending_72 (by decide) ?_
  exact jx_sub [0, 1] rfl (h0 σ3 v1 h)
def g_X3_writePending_0 (t : jx_T) (k0 : jx_M → Int32 → Option jx_M) (σ : jx_M) (v1 : Int32) : Option jx_M :=
  if (σ 0 32) ≤ 0 then some σ else jx_gd (jx_in ((σ 0 32) - (1 : Int32)) 17) (if (σ 65 ((σ 0 32) - (1 : Int32)).toNatClampNeg) < v1 then some σ else jx_gd (jx_in ((σ 0 32) - (1 : Int32)) 17) (if (σ 65 ((σ 0 32) - (1 : Int32)).toNatClampNeg) = (-1 : Int32) then jx_lt (jx_mu σ 0 33 ((σ 0 33) - (1 : Int32))) (fun σ6 => (b_X3_writePending_47 t k0 σ6 v1)) else (b_X3_writePending_47 t k0 σ v1)))
set_option maxHeartbeats 4000000 in
set_option maxRecDepth 100000 in
theorem jg_X3_writePending_0 (l : Launch) (G : jx_G) (t : jx_T) (hG : ll_ok G) (sz : Nat) (out : jx_M) (k0 : jx_M → Int32 → Option jx_M) (h0 : ∀ (σ : jx_M) (v1 : Int32), k0 σ v1 = some out → jJ_X3_writePending l G t sz out 0 [(0, .ref (G.2 25)), (1, .int v1)] [] σ) (σ : jx_M) (v1 : Int32) (h : g_X3_writePending_0 t k0 σ v1 = some out) : jJ_X3_writePending l G t sz out 0 [(0, .ref (G.2 25)), (1, .int v1)] [] σ := by
  unfold g_X3_writePending_0 at h
  refine jx_aload_n (pc := 0) (k0 := 0) rfl dX3_writePending_0 ?_
  refine ll_greader_pended (pc := 1) fl_X3_34 dX3_writePending_1 ?_
  refine jx_if_le (pc := 4) (tgt := 75) dX3_writePending_4 (by decide) (fun c1 => ?_) (fun c1 => ?_)
  · have h := jx_t c1 h
    have h := Option.some.inj h
    subst h
    exact jx_vret (pc := 75) dX3_writePending_75
  · have h := jx_f c1 h
    refine jx_aload_n (pc := 7) (k0 := 0) rfl dX3_writePending_7 ?_
    refine ll_greader_pending (pc := 8) fl_X3_24 dX3_writePending_8 ?_
    refine jx_aload_n (pc := 11) (k0 := 0) rfl dX3_writePending_11 ?_
    refine ll_greader_pended (pc := 12) fl_X3_34 dX3_writePending_12 ?_
    refine jx_iconst (pc := 15) (v := (1 : Int32)) (by decide) dX3_writePending_15 ?_
    refine jx_isub (pc := 16) dX3_writePending_16 ?_
    obtain ⟨g2, h⟩ := jx_gd_o h
    refine ll_l (pc := 17) (k := 65) (jx_in_o g2) rfl dX3_writePending_17 ?_
    refine jx_iload_n (pc := 18) (k0 := 1) rfl dX3_writePending_18 ?_
    refine jx_icmp_lt (pc := 19) (tgt := 75) dX3_writePending_19 (by decide) (fun c3 => ?_) (fun c3 => ?_)
    · have h := jx_t c3 h
      have h := Option.some.inj h
      subst h
      exact jx_vret (pc := 75) dX3_writePending_75
    · have h := jx_f c3 h
      refine jx_aload_n (pc := 22) (k0 := 0) rfl dX3_writePending_22 ?_
      refine ll_greader_pending (pc := 23) fl_X3_24 dX3_writePending_23 ?_
      refine jx_aload_n (pc := 26) (k0 := 0) rfl dX3_writePending_26 ?_
      refine ll_greader_pended (pc := 27) fl_X3_34 dX3_writePending_27 ?_
      refine jx_iconst (pc := 30) (v := (1 : Int32)) (by decide) dX3_writePending_30 ?_
      refine jx_isub (pc := 31) dX3_writePending_31 ?_
      obtain ⟨g4, h⟩ := jx_gd_o h
      refine ll_l (pc := 32) (k := 65) (jx_in_o g4) rfl dX3_writePending_32 ?_
      refine jx_iconst (pc := 33) (v := (-1 : Int32)) (by decide) dX3_writePending_33 ?_
      refine jx_icmp_ne (pc := 34) (tgt := 47) dX3_writePending_34 (by decide) (fun c5 => ?_) (fun c5 => ?_)
      · have h := jx_f c5 h
        exact jx_sub [0, 1] rfl (jb_X3_writePending_47 l G t hG sz out k0 h0 σ v1 h)
      · have h := jx_t c5 h
        refine jx_aload_n (pc := 37) (k0 := 0) rfl dX3_writePending_37 ?_
        refine jx_dup (pc := 38) rfl dX3_writePending_38 ?_
        refine ll_greader_open (pc := 39) fl_X3_37 dX3_writePending_39 ?_
        refine jx_iconst (pc := 42) (v := (1 : Int32)) (by decide) dX3_writePending_42 ?_
        refine jx_isub (pc := 43) dX3_writePending_43 ?_
        obtain ⟨σ6, eσ6, h⟩ := jx_lt_o h
        refine ll_preader_open (pc := 44) hG fl_X3_37 eσ6 dX3_writePending_44 ?_
        exact jx_sub [0, 1] rfl (jb_X3_writePending_47 l G t hG sz out k0 h0 σ6 v1 h)
def b_X3_writePending_0 (t : jx_T)  : Nat → jx_M → Int32 → Option jx_M
  | 0, _, _ => none
  | n + 1, σ, v1 => g_X3_writePending_0 t (b_X3_writePending_0 t n) σ v1
theorem jb_X3_writePending_0 (l : Launch) (G : jx_G) (t : jx_T) (hG : ll_ok G) (sz : Nat) (out : jx_M)  : ∀ (n : Nat) (σ : jx_M) (v1 : Int32), b_X3_writePending_0 t n σ v1 = some out → jJ_X3_writePending l G t sz out 0 [(0, .ref (G.2 25)), (1, .int v1)] [] σ := by
  intro n
  induction n with
  | zero =>
    intro σ v1 h
    cases h
  | succ n ih =>
    intro σ v1 h
    exact jg_X3_writePending_0 l G t hG sz out (b_X3_writePending_0 t n) ih σ v1 h
def f_X3_writePending (t : jx_T) (σ : jx_M) (a1 : Int32) : Option jx_M :=
  (b_X3_writePending_0 t jx_fuel σ a1)
set_option maxHeartbeats 4000000 in
set_option maxRecDepth 100000 in
theorem k_X3_writePending (l : Launch) (G : jx_G) (t : jx_T) (hG : ll_ok G) (sz : Nat) (σ : jx_M) (a1 : Int32) (out : jx_M) (h : f_X3_writePending t σ a1 = some out) : Met l yX3_writePending (Cond.code yX3_writePending cX3_writePending 2 none :: jx_ws) rm_X3_writePending (jx_Pc (ll_env G t) (ll_dyn G t) (ll_rg G) sz σ [.ref (G.2 25), .int a1]) (jx_Qv (ll_dyn G t) out (jx_A (ll_rg G) sz)) 0 0 (jx_A (ll_rg G) sz) := by
  unfold f_X3_writePending at h
  refine jx_met (by decide) (Nat.le_of_ble_eq_true rfl) ?_
  refine jx_sub (lv' := [(0, .ref (G.2 25)), (1, .int a1)]) [0, 1] rfl ?_
  exact jx_sub [0, 1] rfl (jb_X3_writePending_0 l G t hG sz out jx_fuel σ a1 h)
theorem dX4_any_0 : decode cX4_any 0 = .ok (.iconst 0, 1) := by decide +kernel
theorem dX4_any_1 : decode cX4_any 1 = .ok (.istore_n 3, 1) := by decide +kernel
theorem dX4_any_2 : decode cX4_any 2 = .ok (.iload_n 3, 1) := by decide +kernel
theorem dX4_any_3 : decode cX4_any 3 = .ok (.aload_n 0, 1) := by decide +kernel
theorem dX4_any_4 : decode cX4_any 4 = .ok (.getfield 9, 3) := by decide +kernel
theorem dX4_any_7 : decode cX4_any 7 = .ok (.arraylength, 1) := by decide +kernel
theorem dX4_any_8 : decode cX4_any 8 = .ok (.if_icmp .ge 30, 3) := by decide +kernel
theorem dX4_any_11 : decode cX4_any 11 = .ok (.aload_n 0, 1) := by decide +kernel
theorem dX4_any_12 : decode cX4_any 12 = .ok (.getfield 9, 3) := by decide +kernel
theorem dX4_any_15 : decode cX4_any 15 = .ok (.iload_n 3, 1) := by decide +kernel
theorem dX4_any_16 : decode cX4_any 16 = .ok (.iaload, 1) := by decide +kernel
theorem dX4_any_17 : decode cX4_any 17 = .ok (.iload_n 1, 1) := by decide +kernel
theorem dX4_any_18 : decode cX4_any 18 = .ok (.if_icmp .ne 14, 3) := by decide +kernel
theorem dX4_any_21 : decode cX4_any 21 = .ok (.aload_n 0, 1) := by decide +kernel
theorem dX4_any_22 : decode cX4_any 22 = .ok (.iload_n 3, 1) := by decide +kernel
theorem dX4_any_23 : decode cX4_any 23 = .ok (.aload_n 2, 1) := by decide +kernel
theorem dX4_any_24 : decode cX4_any 24 = .ok (.invokevirtual 24, 3) := by decide +kernel
theorem dX4_any_27 : decode cX4_any 27 = .ok (.ifCond .eq 5, 3) := by decide +kernel
theorem dX4_any_30 : decode cX4_any 30 = .ok (.iconst 1, 1) := by decide +kernel
theorem dX4_any_31 : decode cX4_any 31 = .ok (.ireturn, 1) := by decide +kernel
theorem dX4_any_32 : decode cX4_any 32 = .ok (.iinc 3 1, 3) := by decide +kernel
theorem dX4_any_35 : decode cX4_any 35 = .ok (.goto (-33), 3) := by decide +kernel
theorem dX4_any_38 : decode cX4_any 38 = .ok (.iconst 0, 1) := by decide +kernel
theorem dX4_any_39 : decode cX4_any 39 = .ok (.ireturn, 1) := by decide +kernel
abbrev rm_X4_any : Room := { frames := 1, cells := 0, slots := 0, locals := 27 }
abbrev jJ_X4_any (l : Launch) (G : jx_G) (t : jx_T) (sz : Nat) (σ0 : jx_M) (out : Int32) (pc : Nat) (lv : List (Nat × Value)) (st : List Value) (σ : jx_M) : Prop := jx_J l (ll_env G t) (ll_dyn G t) (ll_rg G) sz RX4 "any" cX4_any 4 (some .boolean) rm_X4_any (fun below args s => MQ below (jx_Qi (ll_dyn G t) σ0 out (jx_A (ll_rg G) sz)) args s 0 0 (jx_A (ll_rg G) sz)) 0 0 pc lv st σ
def b_X4_any_32 (t : jx_T) (k2 : jx_M → Int32 → Nat → Int32 → Option Int32) (σ : jx_M) (v1 : Int32) (v2 : Nat) (v3 : Int32) : Option Int32 :=
  jx_lt (v3 + (1 : Int32)) (fun x1 => (k2 σ v1 v2 x1))
set_option maxHeartbeats 4000000 in
set_option maxRecDepth 100000 in
theorem jb_X4_any_32 (l : Launch) (G : jx_G) (t : jx_T) (hG : ll_ok G) (sz : Nat) (σ0 : jx_M) (out : Int32) (k2 : jx_M → Int32 → Nat → Int32 → Option Int32) (h2 : ∀ (σ : jx_M) (v1 : Int32) (v2 : Nat) (v3 : Int32), σ = σ0 → k2 σ v1 v2 v3 = some out → jJ_X4_any l G t sz σ0 out 2 [(0, .ref (t.1 0)), (1, .int v1), (2, .ref (G.2 (100 + v2))), (3, .int v3)] [] σ) (σ : jx_M) (v1 : Int32) (v2 : Nat) (v3 : Int32) (e0 : σ = σ0) (h : b_X4_any_32 t k2 σ v1 v2 v3 = some out) : jJ_X4_any l G t sz σ0 out 32 [(0, .ref (t.1 0)), (1, .int v1), (2, .ref (G.2 (100 + v2))), (3, .int v3)] [] σ := by
  unfold b_X4_any_32 at h
  obtain ⟨x1, ex1, h⟩ := jx_lt_o h
  refine jx_iinc (pc := 32) (i := 3) (v := v3) rfl ex1 (n := 1) (by decide) (by decide) (lv' := [(3, .int x1), (0, .ref (t.1 0)), (1, .int v1), (2, .ref (G.2 (100 + v2)))]) rfl dX4_any_32 ?_
  refine jx_goto (pc := 35) (tgt := 2) dX4_any_35 (by decide) ?_
  exact jx_sub [1, 2, 3, 0] rfl (h2 σ v1 v2 x1 e0 h)
def g_X4_any_2 (t : jx_T) (k2 : jx_M → Int32 → Nat → Int32 → Option Int32) (σ : jx_M) (v1 : Int32) (v2 : Nat) (v3 : Int32) : Option Int32 :=
  if (Int32.ofNat (t.2.1 1)) ≤ v3 then some (0 : Int32) else jx_gd (jx_in v3 (t.2.1 1)) (if (t.2.2 1 v3.toNatClampNeg) = v1 then jx_bd (f_X4_holds t σ v3 v2) (fun q4 => if q4 = 0 then (b_X4_any_32 t k2 σ v1 v2 v3) else some (1 : Int32)) else (b_X4_any_32 t k2 σ v1 v2 v3))
set_option maxHeartbeats 4000000 in
set_option maxRecDepth 100000 in
theorem jg_X4_any_2 (l : Launch) (G : jx_G) (t : jx_T) (hG : ll_ok G) (sz : Nat) (σ0 : jx_M) (out : Int32) (k2 : jx_M → Int32 → Nat → Int32 → Option Int32) (h2 : ∀ (σ : jx_M) (v1 : Int32) (v2 : Nat) (v3 : Int32), σ = σ0 → k2 σ v1 v2 v3 = some out → jJ_X4_any l G t sz σ0 out 2 [(0, .ref (t.1 0)), (1, .int v1), (2, .ref (G.2 (100 + v2))), (3, .int v3)] [] σ) (σ : jx_M) (v1 : Int32) (v2 : Nat) (v3 : Int32) (e0 : σ = σ0) (h : g_X4_any_2 t k2 σ v1 v2 v3 = some out) : jJ_X4_any l G t sz σ0 out 2 [(0, .ref (t.1 0)), (1, .int v1), (2, .ref (G.2 (100 + v2))), (3, .int v3)] [] σ := by
  unfold g_X4_any_2 at h
  refine jx_iload_n (pc := 2) (k0 := 3) rfl dX4_any_2 ?_
  refine jx_aload_n (pc := 3) (k0 := 0) rfl dX4_any_3 ?_
  refine ll_gtide_words (pc := 4) fl_X4_9 dX4_any_4 ?_
  refine ll_ntide_1 (pc := 7) dX4_any_7 ?_
  refine jx_icmp_ge (pc := 8) (tgt := 38) dX4_any_8 (by decide) (fun c1 => ?_) (fun c1 => ?_)
  · have h := jx_t c1 h
    refine jx_iconst (pc := 38) (v := (0 : Int32)) (by decide) dX4_any_38 ?_
    subst e0
    have h := Option.some.inj h
    subst h
    exact jx_zret (pc := 39) (Or.inl rfl) dX4_any_39
  · have h := jx_f c1 h
    refine jx_aload_n (pc := 11) (k0 := 0) rfl dX4_any_11 ?_
    refine ll_gtide_words (pc := 12) fl_X4_9 dX4_any_12 ?_
    refine jx_iload_n (pc := 15) (k0 := 3) rfl dX4_any_15 ?_
    obtain ⟨g2, h⟩ := jx_gd_o h
    refine ll_ltide_1 (pc := 16) (jx_in_o g2) rfl dX4_any_16 ?_
    refine jx_iload_n (pc := 17) (k0 := 1) rfl dX4_any_17 ?_
    refine jx_icmp_ne (pc := 18) (tgt := 32) dX4_any_18 (by decide) (fun c3 => ?_) (fun c3 => ?_)
    · have h := jx_f c3 h
      exact jx_sub [0, 1, 2, 3] rfl (jb_X4_any_32 l G t hG sz σ0 out k2 h2 σ v1 v2 v3 e0 h)
    · have h := jx_t c3 h
      refine jx_aload_n (pc := 21) (k0 := 0) rfl dX4_any_21 ?_
      refine jx_iload_n (pc := 22) (k0 := 3) rfl dX4_any_22 ?_
      refine jx_aload_n (pc := 23) (k0 := 2) rfl dX4_any_23 ?_
      obtain ⟨q4, eq4, h⟩ := jx_bd_o h
      refine jx_callVi (pc := 24) [.int v3, .ref (G.2 (100 + v2))] (fun sz' => k_X4_holds l G t hG sz' σ v3 v2 q4 eq4) kv_X4_24 ll_jok ll_rctide rfl rfl (Nat.le_of_ble_eq_true rfl) ⟨⟨rfl, rfl⟩, ⟨Nat.le_of_ble_eq_true rfl, Nat.le_of_ble_eq_true rfl⟩, Nat.zero_le _, Nat.zero_le _⟩ dX4_any_24 ?_
      refine jx_if_eq (pc := 27) (tgt := 32) dX4_any_27 (by decide) (fun c5 => ?_) (fun c5 => ?_)
      · have h := jx_t c5 h
        exact jx_sub [0, 1, 2, 3] rfl (jb_X4_any_32 l G t hG sz σ0 out k2 h2 σ v1 v2 v3 e0 h)
      · have h := jx_f c5 h
        refine jx_iconst (pc := 30) (v := (1 : Int32)) (by decide) dX4_any_30 ?_
        subst e0
        have h := Option.some.inj h
        subst h
        exact jx_zret (pc := 31) (Or.inr rfl) dX4_any_31
def b_X4_any_2 (t : jx_T)  : Nat → jx_M → Int32 → Nat → Int32 → Option Int32
  | 0, _, _, _, _ => none
  | n + 1, σ, v1, v2, v3 => g_X4_any_2 t (b_X4_any_2 t n) σ v1 v2 v3
theorem jb_X4_any_2 (l : Launch) (G : jx_G) (t : jx_T) (hG : ll_ok G) (sz : Nat) (σ0 : jx_M) (out : Int32)  : ∀ (n : Nat) (σ : jx_M) (v1 : Int32) (v2 : Nat) (v3 : Int32), σ = σ0 → b_X4_any_2 t n σ v1 v2 v3 = some out → jJ_X4_any l G t sz σ0 out 2 [(0, .ref (t.1 0)), (1, .int v1), (2, .ref (G.2 (100 + v2))), (3, .int v3)] [] σ := by
  intro n
  induction n with
  | zero =>
    intro σ v1 v2 v3 e0 h
    cases h
  | succ n ih =>
    intro σ v1 v2 v3 e0 h
    exact jg_X4_any_2 l G t hG sz σ0 out (b_X4_any_2 t n) ih σ v1 v2 v3 e0 h
def f_X4_any (t : jx_T) (σ : jx_M) (a1 : Int32) (a2 : Nat) : Option Int32 :=
  (b_X4_any_2 t jx_fuel σ a1 a2 (0 : Int32))
set_option maxHeartbeats 4000000 in
set_option maxRecDepth 100000 in
theorem k_X4_any (l : Launch) (G : jx_G) (t : jx_T) (hG : ll_ok G) (sz : Nat) (σ : jx_M) (a1 : Int32) (a2 : Nat) (out : Int32) (h : f_X4_any t σ a1 a2 = some out) : Met l yX4_any (Cond.code yX4_any cX4_any 4 (some .boolean) :: jx_ws) rm_X4_any (jx_Pc (ll_env G t) (ll_dyn G t) (ll_rg G) sz σ [.ref (t.1 0), .int a1, .ref (G.2 (100 + a2))]) (jx_Qi (ll_dyn G t) σ out (jx_A (ll_rg G) sz)) 0 0 (jx_A (ll_rg G) sz) := by
  unfold f_X4_any at h
  refine jx_met (by decide) (Nat.le_of_ble_eq_true rfl) ?_
  refine jx_sub (lv' := [(0, .ref (t.1 0)), (1, .int a1), (2, .ref (G.2 (100 + a2)))]) [0, 1, 2] rfl ?_
  refine jx_iconst (pc := 0) (v := (0 : Int32)) (by decide) dX4_any_0 ?_
  refine jx_istore_n (pc := 1) (i := 3) rfl rfl (by decide) (lv' := [(3, .int (0 : Int32)), (0, .ref (t.1 0)), (1, .int a1), (2, .ref (G.2 (100 + a2)))]) rfl dX4_any_1 ?_
  exact jx_sub [1, 2, 3, 0] rfl (jb_X4_any_2 l G t hG sz σ out jx_fuel σ a1 a2 (0 : Int32) rfl h)
theorem dX4_sum_0 : decode cX4_sum 0 = .ok (.iconst 0, 1) := by decide +kernel
theorem dX4_sum_1 : decode cX4_sum 1 = .ok (.istore_n 3, 1) := by decide +kernel
theorem dX4_sum_2 : decode cX4_sum 2 = .ok (.iconst 0, 1) := by decide +kernel
theorem dX4_sum_3 : decode cX4_sum 3 = .ok (.istore 4, 2) := by decide +kernel
theorem dX4_sum_5 : decode cX4_sum 5 = .ok (.iload 4, 2) := by decide +kernel
theorem dX4_sum_7 : decode cX4_sum 7 = .ok (.aload_n 0, 1) := by decide +kernel
theorem dX4_sum_8 : decode cX4_sum 8 = .ok (.getfield 9, 3) := by decide +kernel
theorem dX4_sum_11 : decode cX4_sum 11 = .ok (.arraylength, 1) := by decide +kernel
theorem dX4_sum_12 : decode cX4_sum 12 = .ok (.if_icmp .ge 40, 3) := by decide +kernel
theorem dX4_sum_15 : decode cX4_sum 15 = .ok (.aload_n 0, 1) := by decide +kernel
theorem dX4_sum_16 : decode cX4_sum 16 = .ok (.getfield 9, 3) := by decide +kernel
theorem dX4_sum_19 : decode cX4_sum 19 = .ok (.iload 4, 2) := by decide +kernel
theorem dX4_sum_21 : decode cX4_sum 21 = .ok (.iaload, 1) := by decide +kernel
theorem dX4_sum_22 : decode cX4_sum 22 = .ok (.iload_n 1, 1) := by decide +kernel
theorem dX4_sum_23 : decode cX4_sum 23 = .ok (.if_icmp .ne 23, 3) := by decide +kernel
theorem dX4_sum_26 : decode cX4_sum 26 = .ok (.aload_n 0, 1) := by decide +kernel
theorem dX4_sum_27 : decode cX4_sum 27 = .ok (.iload 4, 2) := by decide +kernel
theorem dX4_sum_29 : decode cX4_sum 29 = .ok (.aload_n 2, 1) := by decide +kernel
theorem dX4_sum_30 : decode cX4_sum 30 = .ok (.invokevirtual 24, 3) := by decide +kernel
theorem dX4_sum_33 : decode cX4_sum 33 = .ok (.ifCond .eq 13, 3) := by decide +kernel
theorem dX4_sum_36 : decode cX4_sum 36 = .ok (.iload_n 3, 1) := by decide +kernel
theorem dX4_sum_37 : decode cX4_sum 37 = .ok (.aload_n 0, 1) := by decide +kernel
theorem dX4_sum_38 : decode cX4_sum 38 = .ok (.getfield 15, 3) := by decide +kernel
theorem dX4_sum_41 : decode cX4_sum 41 = .ok (.iload 4, 2) := by decide +kernel
theorem dX4_sum_43 : decode cX4_sum 43 = .ok (.iaload, 1) := by decide +kernel
theorem dX4_sum_44 : decode cX4_sum 44 = .ok (.iadd, 1) := by decide +kernel
theorem dX4_sum_45 : decode cX4_sum 45 = .ok (.istore_n 3, 1) := by decide +kernel
theorem dX4_sum_46 : decode cX4_sum 46 = .ok (.iinc 4 1, 3) := by decide +kernel
theorem dX4_sum_49 : decode cX4_sum 49 = .ok (.goto (-44), 3) := by decide +kernel
theorem dX4_sum_52 : decode cX4_sum 52 = .ok (.iload_n 3, 1) := by decide +kernel
theorem dX4_sum_53 : decode cX4_sum 53 = .ok (.ireturn, 1) := by decide +kernel
abbrev rm_X4_sum : Room := { frames := 1, cells := 0, slots := 0, locals := 27 }
abbrev jJ_X4_sum (l : Launch) (G : jx_G) (t : jx_T) (sz : Nat) (σ0 : jx_M) (out : Int32) (pc : Nat) (lv : List (Nat × Value)) (st : List Value) (σ : jx_M) : Prop := jx_J l (ll_env G t) (ll_dyn G t) (ll_rg G) sz RX4 "sum" cX4_sum 5 (some .int) rm_X4_sum (fun below args s => MQ below (jx_Qi (ll_dyn G t) σ0 out (jx_A (ll_rg G) sz)) args s 0 0 (jx_A (ll_rg G) sz)) 0 0 pc lv st σ
def b_X4_sum_46 (t : jx_T) (k5 : jx_M → Int32 → Nat → Int32 → Int32 → Option Int32) (σ : jx_M) (v1 : Int32) (v2 : Nat) (v3 : Int32) (v4 : Int32) : Option Int32 :=
  jx_lt (v4 + (1 : Int32)) (fun x1 => (k5 σ v1 v2 v3 x1))
set_option maxHeartbeats 4000000 in
set_option maxRecDepth 100000 in
theorem jb_X4_sum_46 (l : Launch) (G : jx_G) (t : jx_T) (hG : ll_ok G) (sz : Nat) (σ0 : jx_M) (out : Int32) (k5 : jx_M → Int32 → Nat → Int32 → Int32 → Option Int32) (h5 : ∀ (σ : jx_M) (v1 : Int32) (v2 : Nat) (v3 : Int32) (v4 : Int32), σ = σ0 → k5 σ v1 v2 v3 v4 = some out → jJ_X4_sum l G t sz σ0 out 5 [(0, .ref (t.1 0)), (1, .int v1), (2, .ref (G.2 (100 + v2))), (3, .int v3), (4, .int v4)] [] σ) (σ : jx_M) (v1 : Int32) (v2 : Nat) (v3 : Int32) (v4 : Int32) (e0 : σ = σ0) (h : b_X4_sum_46 t k5 σ v1 v2 v3 v4 = some out) : jJ_X4_sum l G t sz σ0 out 46 [(0, .ref (t.1 0)), (1, .int v1), (2, .ref (G.2 (100 + v2))), (3, .int v3), (4, .int v4)] [] σ := by
  unfold b_X4_sum_46 at h
  obtain ⟨x1, ex1, h⟩ := jx_lt_o h
  refine jx_iinc (pc := 46) (i := 4) (v := v4) rfl ex1 (n := 1) (by decide) (by decide) (lv' := [(4, .int x1), (0, .ref (t.1 0)), (1, .int v1), (2, .ref (G.2 (100 + v2))), (3, .int v3)]) rfl dX4_sum_46 ?_
  refine jx_goto (pc := 49) (tgt := 5) dX4_sum_49 (by decide) ?_
  exact jx_sub [1, 2, 3, 4, 0] rfl (h5 σ v1 v2 v3 x1 e0 h)
def g_X4_sum_5 (t : jx_T) (k5 : jx_M → Int32 → Nat → Int32 → Int32 → Option Int32) (σ : jx_M) (v1 : Int32) (v2 : Nat) (v3 : Int32) (v4 : Int32) : Option Int32 :=
  if (Int32.ofNat (t.2.1 1)) ≤ v4 then some v3 else jx_gd (jx_in v4 (t.2.1 1)) (if (t.2.2 1 v4.toNatClampNeg) = v1 then jx_bd (f_X4_holds t σ v4 v2) (fun q4 => if q4 = 0 then (b_X4_sum_46 t k5 σ v1 v2 v3 v4) else jx_gd (jx_in v4 (t.2.1 2)) (jx_lt ((v3 + (t.2.2 2 v4.toNatClampNeg))) (fun x7 => (b_X4_sum_46 t k5 σ v1 v2 x7 v4)))) else (b_X4_sum_46 t k5 σ v1 v2 v3 v4))
set_option maxHeartbeats 4000000 in
set_option maxRecDepth 100000 in
theorem jg_X4_sum_5 (l : Launch) (G : jx_G) (t : jx_T) (hG : ll_ok G) (sz : Nat) (σ0 : jx_M) (out : Int32) (k5 : jx_M → Int32 → Nat → Int32 → Int32 → Option Int32) (h5 : ∀ (σ : jx_M) (v1 : Int32) (v2 : Nat) (v3 : Int32) (v4 : Int32), σ = σ0 → k5 σ v1 v2 v3 v4 = some out → jJ_X4_sum l G t sz σ0 out 5 [(0, .ref (t.1 0)), (1, .int v1), (2, .ref (G.2 (100 + v2))), (3, .int v3), (4, .int v4)] [] σ) (σ : jx_M) (v1 : Int32) (v2 : Nat) (v3 : Int32) (v4 : Int32) (e0 : σ = σ0) (h : g_X4_sum_5 t k5 σ v1 v2 v3 v4 = some out) : jJ_X4_sum l G t sz σ0 out 5 [(0, .ref (t.1 0)), (1, .int v1), (2, .ref (G.2 (100 + v2))), (3, .int v3), (4, .int v4)] [] σ := by
  unfold g_X4_sum_5 at h
  refine jx_iload (pc := 5) (i := 4) rfl dX4_sum_5 ?_
  refine jx_aload_n (pc := 7) (k0 := 0) rfl dX4_sum_7 ?_
  refine ll_gtide_words (pc := 8) fl_X4_9 dX4_sum_8 ?_
  refine ll_ntide_1 (pc := 11) dX4_sum_11 ?_
  refine jx_icmp_ge (pc := 12) (tgt := 52) dX4_sum_12 (by decide) (fun c1 => ?_) (fun c1 => ?_)
  · have h := jx_t c1 h
    refine jx_iload_n (pc := 52) (k0 := 3) rfl dX4_sum_52 ?_
    subst e0
    have h := Option.some.inj h
    subst h
    exact jx_iret (pc := 53) dX4_sum_53
  · have h := jx_f c1 h
    refine jx_aload_n (pc := 15) (k0 := 0) rfl dX4_sum_15 ?_
    refine ll_gtide_words (pc := 16) fl_X4_9 dX4_sum_16 ?_
    refine jx_iload (pc := 19) (i := 4) rfl dX4_sum_19 ?_
    obtain ⟨g2, h⟩ := jx_gd_o h
    refine ll_ltide_1 (pc := 21) (jx_in_o g2) rfl dX4_sum_21 ?_
    refine jx_iload_n (pc := 22) (k0 := 1) rfl dX4_sum_22 ?_
    refine jx_icmp_ne (pc := 23) (tgt := 46) dX4_sum_23 (by decide) (fun c3 => ?_) (fun c3 => ?_)
    · have h := jx_f c3 h
      exact jx_sub [0, 1, 2, 3, 4] rfl (jb_X4_sum_46 l G t hG sz σ0 out k5 h5 σ v1 v2 v3 v4 e0 h)
    · have h := jx_t c3 h
      refine jx_aload_n (pc := 26) (k0 := 0) rfl dX4_sum_26 ?_
      refine jx_iload (pc := 27) (i := 4) rfl dX4_sum_27 ?_
      refine jx_aload_n (pc := 29) (k0 := 2) rfl dX4_sum_29 ?_
      obtain ⟨q4, eq4, h⟩ := jx_bd_o h
      refine jx_callVi (pc := 30) [.int v4, .ref (G.2 (100 + v2))] (fun sz' => k_X4_holds l G t hG sz' σ v4 v2 q4 eq4) kv_X4_24 ll_jok ll_rctide rfl rfl (Nat.le_of_ble_eq_true rfl) ⟨⟨rfl, rfl⟩, ⟨Nat.le_of_ble_eq_true rfl, Nat.le_of_ble_eq_true rfl⟩, Nat.zero_le _, Nat.zero_le _⟩ dX4_sum_30 ?_
      refine jx_if_eq (pc := 33) (tgt := 46) dX4_sum_33 (by decide) (fun c5 => ?_) (fun c5 => ?_)
      · have h := jx_t c5 h
        exact jx_sub [0, 1, 2, 3, 4] rfl (jb_X4_sum_46 l G t hG sz σ0 out k5 h5 σ v1 v2 v3 v4 e0 h)
      · have h := jx_f c5 h
        refine jx_iload_n (pc := 36) (k0 := 3) rfl dX4_sum_36 ?_
        refine jx_aload_n (pc := 37) (k0 := 0) rfl dX4_sum_37 ?_
        refine ll_gtide_amounts (pc := 38) fl_X4_15 dX4_sum_38 ?_
        refine jx_iload (pc := 41) (i := 4) rfl dX4_sum_41 ?_
        obtain ⟨g6, h⟩ := jx_gd_o h
        refine ll_ltide_2 (pc := 43) (jx_in_o g6) rfl dX4_sum_43 ?_
        refine jx_iadd (pc := 44) dX4_sum_44 ?_
        obtain ⟨x7, ex7, h⟩ := jx_lt_o h
        refine jx_istore_n (pc := 45) (i := 3) rfl ex7 (by decide) (lv' := [(3, .int x7), (0, .ref (t.1 0)), (1, .int v1), (2, .ref (G.2 (100 + v2))), (4, .int v4)]) rfl dX4_sum_45 ?_
        exact jx_sub [1, 2, 3, 0, 4] rfl (jb_X4_sum_46 l G t hG sz σ0 out k5 h5 σ v1 v2 x7 v4 e0 h)
def b_X4_sum_5 (t : jx_T)  : Nat → jx_M → Int32 → Nat → Int32 → Int32 → Option Int32
  | 0, _, _, _, _, _ => none
  | n + 1, σ, v1, v2, v3, v4 => g_X4_sum_5 t (b_X4_sum_5 t n) σ v1 v2 v3 v4
theorem jb_X4_sum_5 (l : Launch) (G : jx_G) (t : jx_T) (hG : ll_ok G) (sz : Nat) (σ0 : jx_M) (out : Int32)  : ∀ (n : Nat) (σ : jx_M) (v1 : Int32) (v2 : Nat) (v3 : Int32) (v4 : Int32), σ = σ0 → b_X4_sum_5 t n σ v1 v2 v3 v4 = some out → jJ_X4_sum l G t sz σ0 out 5 [(0, .ref (t.1 0)), (1, .int v1), (2, .ref (G.2 (100 + v2))), (3, .int v3), (4, .int v4)] [] σ := by
  intro n
  induction n with
  | zero =>
    intro σ v1 v2 v3 v4 e0 h
    cases h
  | succ n ih =>
    intro σ v1 v2 v3 v4 e0 h
    exact jg_X4_sum_5 l G t hG sz σ0 out (b_X4_sum_5 t n) ih σ v1 v2 v3 v4 e0 h
def f_X4_sum (t : jx_T) (σ : jx_M) (a1 : Int32) (a2 : Nat) : Option Int32 :=
  (b_X4_sum_5 t jx_fuel σ a1 a2 (0 : Int32) (0 : Int32))
set_option maxHeartbeats 4000000 in
set_option maxRecDepth 100000 in
theorem k_X4_sum (l : Launch) (G : jx_G) (t : jx_T) (hG : ll_ok G) (sz : Nat) (σ : jx_M) (a1 : Int32) (a2 : Nat) (out : Int32) (h : f_X4_sum t σ a1 a2 = some out) : Met l yX4_sum (Cond.code yX4_sum cX4_sum 5 (some .int) :: jx_ws) rm_X4_sum (jx_Pc (ll_env G t) (ll_dyn G t) (ll_rg G) sz σ [.ref (t.1 0), .int a1, .ref (G.2 (100 + a2))]) (jx_Qi (ll_dyn G t) σ out (jx_A (ll_rg G) sz)) 0 0 (jx_A (ll_rg G) sz) := by
  unfold f_X4_sum at h
  refine jx_met (by decide) (Nat.le_of_ble_eq_true rfl) ?_
  refine jx_sub (lv' := [(0, .ref (t.1 0)), (1, .int a1), (2, .ref (G.2 (100 + a2)))]) [0, 1, 2] rfl ?_
  refine jx_iconst (pc := 0) (v := (0 : Int32)) (by decide) dX4_sum_0 ?_
  refine jx_istore_n (pc := 1) (i := 3) rfl rfl (by decide) (lv' := [(3, .int (0 : Int32)), (0, .ref (t.1 0)), (1, .int a1), (2, .ref (G.2 (100 + a2)))]) rfl dX4_sum_1 ?_
  refine jx_iconst (pc := 2) (v := (0 : Int32)) (by decide) dX4_sum_2 ?_
  refine jx_istore (pc := 3) (i := 4) rfl (by decide) (lv' := [(4, .int (0 : Int32)), (3, .int (0 : Int32)), (0, .ref (t.1 0)), (1, .int a1), (2, .ref (G.2 (100 + a2)))]) rfl dX4_sum_3 ?_
  exact jx_sub [2, 3, 4, 1, 0] rfl (jb_X4_sum_5 l G t hG sz σ out jx_fuel σ a1 a2 (0 : Int32) (0 : Int32) rfl h)
theorem dX5_feed_0 : decode cX5_feed 0 = .ok (.iload_n 1, 1) := by decide +kernel
theorem dX5_feed_1 : decode cX5_feed 1 = .ok (.iconst 0, 1) := by decide +kernel
theorem dX5_feed_2 : decode cX5_feed 2 = .ok (.bipush 127, 2) := by decide +kernel
theorem dX5_feed_4 : decode cX5_feed 4 = .ok (.invokestatic 48, 3) := by decide +kernel
theorem dX5_feed_7 : decode cX5_feed 7 = .ok (.ifCond .ne 6, 3) := by decide +kernel
theorem dX5_feed_10 : decode cX5_feed 10 = .ok (.bipush (-2), 2) := by decide +kernel
theorem dX5_feed_12 : decode cX5_feed 12 = .ok (.ireturn, 1) := by decide +kernel
theorem dX5_feed_13 : decode cX5_feed 13 = .ok (.aload_n 0, 1) := by decide +kernel
theorem dX5_feed_14 : decode cX5_feed 14 = .ok (.getfield 12, 3) := by decide +kernel
theorem dX5_feed_17 : decode cX5_feed 17 = .ok (.getfield 52, 3) := by decide +kernel
theorem dX5_feed_20 : decode cX5_feed 20 = .ok (.bipush 100, 2) := by decide +kernel
theorem dX5_feed_22 : decode cX5_feed 22 = .ok (.if_icmp .lt 6, 3) := by decide +kernel
theorem dX5_feed_25 : decode cX5_feed 25 = .ok (.bipush (-4), 2) := by decide +kernel
theorem dX5_feed_27 : decode cX5_feed 27 = .ok (.ireturn, 1) := by decide +kernel
theorem dX5_feed_28 : decode cX5_feed 28 = .ok (.aload_n 0, 1) := by decide +kernel
theorem dX5_feed_29 : decode cX5_feed 29 = .ok (.getfield 12, 3) := by decide +kernel
theorem dX5_feed_32 : decode cX5_feed 32 = .ok (.getfield 56, 3) := by decide +kernel
theorem dX5_feed_35 : decode cX5_feed 35 = .ok (.aload_n 0, 1) := by decide +kernel
theorem dX5_feed_36 : decode cX5_feed 36 = .ok (.getfield 12, 3) := by decide +kernel
theorem dX5_feed_39 : decode cX5_feed 39 = .ok (.getfield 52, 3) := by decide +kernel
theorem dX5_feed_42 : decode cX5_feed 42 = .ok (.iload_n 1, 1) := by decide +kernel
theorem dX5_feed_43 : decode cX5_feed 43 = .ok (.iastore, 1) := by decide +kernel
theorem dX5_feed_44 : decode cX5_feed 44 = .ok (.aload_n 0, 1) := by decide +kernel
theorem dX5_feed_45 : decode cX5_feed 45 = .ok (.getfield 12, 3) := by decide +kernel
theorem dX5_feed_48 : decode cX5_feed 48 = .ok (.dup, 1) := by decide +kernel
theorem dX5_feed_49 : decode cX5_feed 49 = .ok (.getfield 52, 3) := by decide +kernel
theorem dX5_feed_52 : decode cX5_feed 52 = .ok (.iconst 1, 1) := by decide +kernel
theorem dX5_feed_53 : decode cX5_feed 53 = .ok (.iadd, 1) := by decide +kernel
theorem dX5_feed_54 : decode cX5_feed 54 = .ok (.putfield 52, 3) := by decide +kernel
theorem dX5_feed_57 : decode cX5_feed 57 = .ok (.aload_n 0, 1) := by decide +kernel
theorem dX5_feed_58 : decode cX5_feed 58 = .ok (.getfield 12, 3) := by decide +kernel
theorem dX5_feed_61 : decode cX5_feed 61 = .ok (.getfield 52, 3) := by decide +kernel
theorem dX5_feed_64 : decode cX5_feed 64 = .ok (.ireturn, 1) := by decide +kernel
abbrev rm_X5_feed : Room := { frames := 1, cells := 0, slots := 0, locals := 22 }
abbrev jJ_X5_feed (l : Launch) (G : jx_G) (t : jx_T) (sz : Nat) (out : (Int32 × jx_M)) (pc : Nat) (lv : List (Nat × Value)) (st : List Value) (σ : jx_M) : Prop := jx_J l (ll_env G t) (ll_dyn G t) (ll_rg G) sz RX5 "feed" cX5_feed 2 (some .int) rm_X5_feed (fun below args s => MQ below (jx_Qi (ll_dyn G t) out.2 out.1 (jx_A (ll_rg G) sz)) args s 0 0 (jx_A (ll_rg G) sz)) 0 0 pc lv st σ
def f_X5_feed (t : jx_T) (σ : jx_M) (a1 : Int32) : Option (Int32 × jx_M) :=
  jx_bd (f_X5_within a1 (0 : Int32) (127 : Int32)) (fun q1 => if q1 = 0 then some ((-2 : Int32), σ) else if (σ 0 3) < (100 : Int32) then jx_gd (jx_in (σ 0 3) 100) (jx_lt (jx_mu σ 14 (σ 0 3).toNatClampNeg a1) (fun σ5 => jx_lt (jx_mu σ5 0 3 ((σ5 0 3) + (1 : Int32))) (fun σ6 => some ((σ6 0 3), σ6)))) else some ((-4 : Int32), σ))
set_option maxHeartbeats 4000000 in
set_option maxRecDepth 100000 in
theorem k_X5_feed (l : Launch) (G : jx_G) (t : jx_T) (hG : ll_ok G) (sz : Nat) (σ : jx_M) (a1 : Int32) (out : (Int32 × jx_M)) (h : f_X5_feed t σ a1 = some out) : Met l yX5_feed (Cond.code yX5_feed cX5_feed 2 (some .int) :: jx_ws) rm_X5_feed (jx_Pc (ll_env G t) (ll_dyn G t) (ll_rg G) sz σ [.ref (G.2 20), .int a1]) (jx_Qi (ll_dyn G t) out.2 out.1 (jx_A (ll_rg G) sz)) 0 0 (jx_A (ll_rg G) sz) := by
  unfold f_X5_feed at h
  refine jx_met (by decide) (Nat.le_of_ble_eq_true rfl) ?_
  refine jx_sub (lv' := [(0, .ref (G.2 20)), (1, .int a1)]) [0, 1] rfl ?_
  refine jx_iload_n (pc := 0) (k0 := 1) rfl dX5_feed_0 ?_
  refine jx_iconst (pc := 1) (v := (0 : Int32)) (by decide) dX5_feed_1 ?_
  refine jx_bipush (pc := 2) (v := (127 : Int32)) (by decide) dX5_feed_2 ?_
  obtain ⟨q1, eq1, h⟩ := jx_bd_o h
  refine jx_callSi (pc := 4) [.int a1, .int (0 : Int32), .int (127 : Int32)] (fun sz' => k_X5_within l G t hG sz' σ a1 (0 : Int32) (127 : Int32) q1 eq1) ks_X5_48 ll_jok rfl rfl (Nat.le_of_ble_eq_true rfl) ⟨⟨rfl, rfl⟩, ⟨Nat.le_of_ble_eq_true rfl, Nat.le_of_ble_eq_true rfl⟩, Nat.zero_le _, Nat.zero_le _⟩ dX5_feed_4 ?_
  refine jx_if_ne (pc := 7) (tgt := 13) dX5_feed_7 (by decide) (fun c2 => ?_) (fun c2 => ?_)
  · have h := jx_f c2 h
    refine jx_aload_n (pc := 13) (k0 := 0) rfl dX5_feed_13 ?_
    refine ll_glamp_now (pc := 14) fl_X5_12 dX5_feed_14 ?_
    refine ll_gnow_signs (pc := 17) fl_X5_52 dX5_feed_17 ?_
    refine jx_bipush (pc := 20) (v := (100 : Int32)) (by decide) dX5_feed_20 ?_
    refine jx_icmp_lt (pc := 22) (tgt := 28) dX5_feed_22 (by decide) (fun c3 => ?_) (fun c3 => ?_)
    · have h := jx_t c3 h
      refine jx_aload_n (pc := 28) (k0 := 0) rfl dX5_feed_28 ?_
      refine ll_glamp_now (pc := 29) fl_X5_12 dX5_feed_29 ?_
      refine ll_gnow_tape (pc := 32) fl_X5_56 dX5_feed_32 ?_
      refine jx_aload_n (pc := 35) (k0 := 0) rfl dX5_feed_35 ?_
      refine ll_glamp_now (pc := 36) fl_X5_12 dX5_feed_36 ?_
      refine ll_gnow_signs (pc := 39) fl_X5_52 dX5_feed_39 ?_
      refine jx_iload_n (pc := 42) (k0 := 1) rfl dX5_feed_42 ?_
      obtain ⟨g4, h⟩ := jx_gd_o h
      obtain ⟨σ5, eσ5, h⟩ := jx_lt_o h
      refine ll_s (pc := 43) (k := 14) hG (jx_in_o g4) rfl eσ5 dX5_feed_43 ?_
      refine jx_aload_n (pc := 44) (k0 := 0) rfl dX5_feed_44 ?_
      refine ll_glamp_now (pc := 45) fl_X5_12 dX5_feed_45 ?_
      refine jx_dup (pc := 48) rfl dX5_feed_48 ?_
      refine ll_gnow_signs (pc := 49) fl_X5_52 dX5_feed_49 ?_
      refine jx_iconst (pc := 52) (v := (1 : Int32)) (by decide) dX5_feed_52 ?_
      refine jx_iadd (pc := 53) dX5_feed_53 ?_
      obtain ⟨σ6, eσ6, h⟩ := jx_lt_o h
      refine ll_pnow_signs (pc := 54) hG fl_X5_52 eσ6 dX5_feed_54 ?_
      refine jx_aload_n (pc := 57) (k0 := 0) rfl dX5_feed_57 ?_
      refine ll_glamp_now (pc := 58) fl_X5_12 dX5_feed_58 ?_
      refine ll_gnow_signs (pc := 61) fl_X5_52 dX5_feed_61 ?_
      have h := Option.some.inj h
      subst h
      exact jx_iret (pc := 64) dX5_feed_64
    · have h := jx_f c3 h
      refine jx_bipush (pc := 25) (v := (-4 : Int32)) (by decide) dX5_feed_25 ?_
      have h := Option.some.inj h
      subst h
      exact jx_iret (pc := 27) dX5_feed_27
  · have h := jx_t c2 h
    refine jx_bipush (pc := 10) (v := (-2 : Int32)) (by decide) dX5_feed_10 ?_
    have h := Option.some.inj h
    subst h
    exact jx_iret (pc := 12) dX5_feed_12
theorem dX5_places_0 : decode cX5_places 0 = .ok (.iload_n 1, 1) := by decide +kernel
theorem dX5_places_1 : decode cX5_places 1 = .ok (.iconst 2, 1) := by decide +kernel
theorem dX5_places_2 : decode cX5_places 2 = .ok (.bipush 7, 2) := by decide +kernel
theorem dX5_places_4 : decode cX5_places 4 = .ok (.invokestatic 48, 3) := by decide +kernel
theorem dX5_places_7 : decode cX5_places 7 = .ok (.ifCond .ne 6, 3) := by decide +kernel
theorem dX5_places_10 : decode cX5_places 10 = .ok (.bipush (-2), 2) := by decide +kernel
theorem dX5_places_12 : decode cX5_places 12 = .ok (.ireturn, 1) := by decide +kernel
theorem dX5_places_13 : decode cX5_places 13 = .ok (.aload_n 0, 1) := by decide +kernel
theorem dX5_places_14 : decode cX5_places 14 = .ok (.getfield 12, 3) := by decide +kernel
theorem dX5_places_17 : decode cX5_places 17 = .ok (.getfield 75, 3) := by decide +kernel
theorem dX5_places_20 : decode cX5_places 20 = .ok (.ifCond .le 6, 3) := by decide +kernel
theorem dX5_places_23 : decode cX5_places 23 = .ok (.bipush (-3), 2) := by decide +kernel
theorem dX5_places_25 : decode cX5_places 25 = .ok (.ireturn, 1) := by decide +kernel
theorem dX5_places_26 : decode cX5_places 26 = .ok (.aload_n 0, 1) := by decide +kernel
theorem dX5_places_27 : decode cX5_places 27 = .ok (.getfield 12, 3) := by decide +kernel
theorem dX5_places_30 : decode cX5_places 30 = .ok (.getfield 78, 3) := by decide +kernel
theorem dX5_places_33 : decode cX5_places 33 = .ok (.istore_n 2, 1) := by decide +kernel
theorem dX5_places_34 : decode cX5_places 34 = .ok (.aload_n 0, 1) := by decide +kernel
theorem dX5_places_35 : decode cX5_places 35 = .ok (.getfield 12, 3) := by decide +kernel
theorem dX5_places_38 : decode cX5_places 38 = .ok (.iload_n 1, 1) := by decide +kernel
theorem dX5_places_39 : decode cX5_places 39 = .ok (.invokevirtual 81, 3) := by decide +kernel
theorem dX5_places_42 : decode cX5_places 42 = .ok (.iload_n 2, 1) := by decide +kernel
theorem dX5_places_43 : decode cX5_places 43 = .ok (.ireturn, 1) := by decide +kernel
abbrev rm_X5_places : Room := { frames := 1, cells := 0, slots := 0, locals := 22 }
abbrev jJ_X5_places (l : Launch) (G : jx_G) (t : jx_T) (sz : Nat) (out : (Int32 × jx_M)) (pc : Nat) (lv : List (Nat × Value)) (st : List Value) (σ : jx_M) : Prop := jx_J l (ll_env G t) (ll_dyn G t) (ll_rg G) sz RX5 "places" cX5_places 3 (some .int) rm_X5_places (fun below args s => MQ below (jx_Qi (ll_dyn G t) out.2 out.1 (jx_A (ll_rg G) sz)) args s 0 0 (jx_A (ll_rg G) sz)) 0 0 pc lv st σ
def f_X5_places (t : jx_T) (σ : jx_M) (a1 : Int32) : Option (Int32 × jx_M) :=
  jx_bd (f_X5_within a1 (2 : Int32) (7 : Int32)) (fun q1 => if q1 = 0 then some ((-2 : Int32), σ) else if (σ 0 2) ≤ 0 then jx_lt ((σ 0 0)) (fun x4 => jx_bd (f_X1_dig t σ a1) (fun q5 => some (x4, q5))) else some ((-3 : Int32), σ))
set_option maxHeartbeats 4000000 in
set_option maxRecDepth 100000 in
theorem k_X5_places (l : Launch) (G : jx_G) (t : jx_T) (hG : ll_ok G) (sz : Nat) (σ : jx_M) (a1 : Int32) (out : (Int32 × jx_M)) (h : f_X5_places t σ a1 = some out) : Met l yX5_places (Cond.code yX5_places cX5_places 3 (some .int) :: jx_ws) rm_X5_places (jx_Pc (ll_env G t) (ll_dyn G t) (ll_rg G) sz σ [.ref (G.2 20), .int a1]) (jx_Qi (ll_dyn G t) out.2 out.1 (jx_A (ll_rg G) sz)) 0 0 (jx_A (ll_rg G) sz) := by
  unfold f_X5_places at h
  refine jx_met (by decide) (Nat.le_of_ble_eq_true rfl) ?_
  refine jx_sub (lv' := [(0, .ref (G.2 20)), (1, .int a1)]) [0, 1] rfl ?_
  refine jx_iload_n (pc := 0) (k0 := 1) rfl dX5_places_0 ?_
  refine jx_iconst (pc := 1) (v := (2 : Int32)) (by decide) dX5_places_1 ?_
  refine jx_bipush (pc := 2) (v := (7 : Int32)) (by decide) dX5_places_2 ?_
  obtain ⟨q1, eq1, h⟩ := jx_bd_o h
  refine jx_callSi (pc := 4) [.int a1, .int (2 : Int32), .int (7 : Int32)] (fun sz' => k_X5_within l G t hG sz' σ a1 (2 : Int32) (7 : Int32) q1 eq1) ks_X5_48 ll_jok rfl rfl (Nat.le_of_ble_eq_true rfl) ⟨⟨rfl, rfl⟩, ⟨Nat.le_of_ble_eq_true rfl, Nat.le_of_ble_eq_true rfl⟩, Nat.zero_le _, Nat.zero_le _⟩ dX5_places_4 ?_
  refine jx_if_ne (pc := 7) (tgt := 13) dX5_places_7 (by decide) (fun c2 => ?_) (fun c2 => ?_)
  · have h := jx_f c2 h
    refine jx_aload_n (pc := 13) (k0 := 0) rfl dX5_places_13 ?_
    refine ll_glamp_now (pc := 14) fl_X5_12 dX5_places_14 ?_
    refine ll_gnow_voters (pc := 17) fl_X5_75 dX5_places_17 ?_
    refine jx_if_le (pc := 20) (tgt := 26) dX5_places_20 (by decide) (fun c3 => ?_) (fun c3 => ?_)
    · have h := jx_t c3 h
      refine jx_aload_n (pc := 26) (k0 := 0) rfl dX5_places_26 ?_
      refine ll_glamp_now (pc := 27) fl_X5_12 dX5_places_27 ?_
      refine ll_gnow_places (pc := 30) fl_X5_78 dX5_places_30 ?_
      obtain ⟨x4, ex4, h⟩ := jx_lt_o h
      refine jx_istore_n (pc := 33) (i := 2) rfl ex4 (by decide) (lv' := [(2, .int x4), (0, .ref (G.2 20)), (1, .int a1)]) rfl dX5_places_33 ?_
      refine jx_aload_n (pc := 34) (k0 := 0) rfl dX5_places_34 ?_
      refine ll_glamp_now (pc := 35) fl_X5_12 dX5_places_35 ?_
      refine jx_iload_n (pc := 38) (k0 := 1) rfl dX5_places_38 ?_
      obtain ⟨q5, eq5, h⟩ := jx_bd_o h
      refine jx_callVv (pc := 39) [.int a1] (fun sz' => k_X1_dig l G t hG sz' σ a1 q5 eq5) kv_X5_81 ll_jok ll_rcnow rfl rfl (Nat.le_of_ble_eq_true rfl) ⟨⟨rfl, rfl⟩, ⟨Nat.le_of_ble_eq_true rfl, Nat.le_of_ble_eq_true rfl⟩, Nat.zero_le _, Nat.zero_le _⟩ dX5_places_39 ?_
      refine jx_iload_n (pc := 42) (k0 := 2) rfl dX5_places_42 ?_
      have h := Option.some.inj h
      subst h
      exact jx_iret (pc := 43) dX5_places_43
    · have h := jx_f c3 h
      refine jx_bipush (pc := 23) (v := (-3 : Int32)) (by decide) dX5_places_23 ?_
      have h := Option.some.inj h
      subst h
      exact jx_iret (pc := 25) dX5_places_25
  · have h := jx_t c2 h
    refine jx_bipush (pc := 10) (v := (-2 : Int32)) (by decide) dX5_places_10 ?_
    have h := Option.some.inj h
    subst h
    exact jx_iret (pc := 12) dX5_places_12
theorem dX5_mayBecome_0 : decode cX5_mayBecome 0 = .ok (.iload_n 1, 1) := by decide +kernel
theorem dX5_mayBecome_1 : decode cX5_mayBecome 1 = .ok (.iconst 2, 1) := by decide +kernel
theorem dX5_mayBecome_2 : decode cX5_mayBecome 2 = .ok (.if_icmp .ne 10, 3) := by decide +kernel
theorem dX5_mayBecome_5 : decode cX5_mayBecome 5 = .ok (.iload_n 2, 1) := by decide +kernel
theorem dX5_mayBecome_6 : decode cX5_mayBecome 6 = .ok (.iconst 0, 1) := by decide +kernel
theorem dX5_mayBecome_7 : decode cX5_mayBecome 7 = .ok (.iconst 2, 1) := by decide +kernel
theorem dX5_mayBecome_8 : decode cX5_mayBecome 8 = .ok (.invokestatic 48, 3) := by decide +kernel
theorem dX5_mayBecome_11 : decode cX5_mayBecome 11 = .ok (.ireturn, 1) := by decide +kernel
theorem dX5_mayBecome_12 : decode cX5_mayBecome 12 = .ok (.aload_n 0, 1) := by decide +kernel
theorem dX5_mayBecome_13 : decode cX5_mayBecome 13 = .ok (.getfield 12, 3) := by decide +kernel
theorem dX5_mayBecome_16 : decode cX5_mayBecome 16 = .ok (.iload_n 2, 1) := by decide +kernel
theorem dX5_mayBecome_17 : decode cX5_mayBecome 17 = .ok (.invokevirtual 85, 3) := by decide +kernel
theorem dX5_mayBecome_20 : decode cX5_mayBecome 20 = .ok (.ifCond .ne 13, 3) := by decide +kernel
theorem dX5_mayBecome_23 : decode cX5_mayBecome 23 = .ok (.iload_n 1, 1) := by decide +kernel
theorem dX5_mayBecome_24 : decode cX5_mayBecome 24 = .ok (.iconst 1, 1) := by decide +kernel
theorem dX5_mayBecome_25 : decode cX5_mayBecome 25 = .ok (.if_icmp .ne 12, 3) := by decide +kernel
theorem dX5_mayBecome_28 : decode cX5_mayBecome 28 = .ok (.iload_n 2, 1) := by decide +kernel
theorem dX5_mayBecome_29 : decode cX5_mayBecome 29 = .ok (.iconst (-1), 1) := by decide +kernel
theorem dX5_mayBecome_30 : decode cX5_mayBecome 30 = .ok (.if_icmp .ne 7, 3) := by decide +kernel
theorem dX5_mayBecome_33 : decode cX5_mayBecome 33 = .ok (.iconst 1, 1) := by decide +kernel
theorem dX5_mayBecome_34 : decode cX5_mayBecome 34 = .ok (.goto 4, 3) := by decide +kernel
theorem dX5_mayBecome_37 : decode cX5_mayBecome 37 = .ok (.iconst 0, 1) := by decide +kernel
theorem dX5_mayBecome_38 : decode cX5_mayBecome 38 = .ok (.ireturn, 1) := by decide +kernel
abbrev rm_X5_mayBecome : Room := { frames := 1, cells := 0, slots := 0, locals := 22 }
abbrev jJ_X5_mayBecome (l : Launch) (G : jx_G) (t : jx_T) (sz : Nat) (σ0 : jx_M) (out : Int32) (pc : Nat) (lv : List (Nat × Value)) (st : List Value) (σ : jx_M) : Prop := jx_J l (ll_env G t) (ll_dyn G t) (ll_rg G) sz RX5 "mayBecome" cX5_mayBecome 3 (some .boolean) rm_X5_mayBecome (fun below args s => MQ below (jx_Qi (ll_dyn G t) σ0 out (jx_A (ll_rg G) sz)) args s 0 0 (jx_A (ll_rg G) sz)) 0 0 pc lv st σ
def f_X5_mayBecome (t : jx_T) (σ : jx_M) (a1 : Int32) (a2 : Int32) : Option Int32 :=
  if a1 = (2 : Int32) then jx_bd (f_X5_within a2 (0 : Int32) (2 : Int32)) (fun q6 => jx_gd (decide (q6 = 0 ∨ q6 = 1)) (some q6)) else jx_bd (f_X1_hasPlace t σ a2) (fun q2 => if q2 = 0 then if a1 = (1 : Int32) then if a2 = (-1 : Int32) then some (1 : Int32) else some (0 : Int32) else some (0 : Int32) else some (1 : Int32))
set_option maxHeartbeats 4000000 in
set_option maxRecDepth 100000 in
theorem k_X5_mayBecome (l : Launch) (G : jx_G) (t : jx_T) (hG : ll_ok G) (sz : Nat) (σ : jx_M) (a1 : Int32) (a2 : Int32) (out : Int32) (h : f_X5_mayBecome t σ a1 a2 = some out) : Met l yX5_mayBecome (Cond.code yX5_mayBecome cX5_mayBecome 3 (some .boolean) :: jx_ws) rm_X5_mayBecome (jx_Pc (ll_env G t) (ll_dyn G t) (ll_rg G) sz σ [.ref (G.2 20), .int a1, .int a2]) (jx_Qi (ll_dyn G t) σ out (jx_A (ll_rg G) sz)) 0 0 (jx_A (ll_rg G) sz) := by
  unfold f_X5_mayBecome at h
  refine jx_met (by decide) (Nat.le_of_ble_eq_true rfl) ?_
  refine jx_sub (lv' := [(0, .ref (G.2 20)), (1, .int a1), (2, .int a2)]) [0, 1, 2] rfl ?_
  refine jx_iload_n (pc := 0) (k0 := 1) rfl dX5_mayBecome_0 ?_
  refine jx_iconst (pc := 1) (v := (2 : Int32)) (by decide) dX5_mayBecome_1 ?_
  refine jx_icmp_ne (pc := 2) (tgt := 12) dX5_mayBecome_2 (by decide) (fun c1 => ?_) (fun c1 => ?_)
  · have h := jx_f c1 h
    refine jx_aload_n (pc := 12) (k0 := 0) rfl dX5_mayBecome_12 ?_
    refine ll_glamp_now (pc := 13) fl_X5_12 dX5_mayBecome_13 ?_
    refine jx_iload_n (pc := 16) (k0 := 2) rfl dX5_mayBecome_16 ?_
    obtain ⟨q2, eq2, h⟩ := jx_bd_o h
    refine jx_callVi (pc := 17) [.int a2] (fun sz' => k_X1_hasPlace l G t hG sz' σ a2 q2 eq2) kv_X5_85 ll_jok ll_rcnow rfl rfl (Nat.le_of_ble_eq_true rfl) ⟨⟨rfl, rfl⟩, ⟨Nat.le_of_ble_eq_true rfl, Nat.le_of_ble_eq_true rfl⟩, Nat.zero_le _, Nat.zero_le _⟩ dX5_mayBecome_17 ?_
    refine jx_if_ne (pc := 20) (tgt := 33) dX5_mayBecome_20 (by decide) (fun c3 => ?_) (fun c3 => ?_)
    · have h := jx_f c3 h
      refine jx_iconst (pc := 33) (v := (1 : Int32)) (by decide) dX5_mayBecome_33 ?_
      refine jx_goto (pc := 34) (tgt := 38) dX5_mayBecome_34 (by decide) ?_
      have h := Option.some.inj h
      subst h
      exact jx_zret (pc := 38) (Or.inr rfl) dX5_mayBecome_38
    · have h := jx_t c3 h
      refine jx_iload_n (pc := 23) (k0 := 1) rfl dX5_mayBecome_23 ?_
      refine jx_iconst (pc := 24) (v := (1 : Int32)) (by decide) dX5_mayBecome_24 ?_
      refine jx_icmp_ne (pc := 25) (tgt := 37) dX5_mayBecome_25 (by decide) (fun c4 => ?_) (fun c4 => ?_)
      · have h := jx_f c4 h
        refine jx_iconst (pc := 37) (v := (0 : Int32)) (by decide) dX5_mayBecome_37 ?_
        have h := Option.some.inj h
        subst h
        exact jx_zret (pc := 38) (Or.inl rfl) dX5_mayBecome_38
      · have h := jx_t c4 h
        refine jx_iload_n (pc := 28) (k0 := 2) rfl dX5_mayBecome_28 ?_
        refine jx_iconst (pc := 29) (v := (-1 : Int32)) (by decide) dX5_mayBecome_29 ?_
        refine jx_icmp_ne (pc := 30) (tgt := 37) dX5_mayBecome_30 (by decide) (fun c5 => ?_) (fun c5 => ?_)
        · have h := jx_f c5 h
          refine jx_iconst (pc := 37) (v := (0 : Int32)) (by decide) dX5_mayBecome_37 ?_
          have h := Option.some.inj h
          subst h
          exact jx_zret (pc := 38) (Or.inl rfl) dX5_mayBecome_38
        · have h := jx_t c5 h
          refine jx_iconst (pc := 33) (v := (1 : Int32)) (by decide) dX5_mayBecome_33 ?_
          refine jx_goto (pc := 34) (tgt := 38) dX5_mayBecome_34 (by decide) ?_
          have h := Option.some.inj h
          subst h
          exact jx_zret (pc := 38) (Or.inr rfl) dX5_mayBecome_38
  · have h := jx_t c1 h
    refine jx_iload_n (pc := 5) (k0 := 2) rfl dX5_mayBecome_5 ?_
    refine jx_iconst (pc := 6) (v := (0 : Int32)) (by decide) dX5_mayBecome_6 ?_
    refine jx_iconst (pc := 7) (v := (2 : Int32)) (by decide) dX5_mayBecome_7 ?_
    obtain ⟨q6, eq6, h⟩ := jx_bd_o h
    refine jx_callSi (pc := 8) [.int a2, .int (0 : Int32), .int (2 : Int32)] (fun sz' => k_X5_within l G t hG sz' σ a2 (0 : Int32) (2 : Int32) q6 eq6) ks_X5_48 ll_jok rfl rfl (Nat.le_of_ble_eq_true rfl) ⟨⟨rfl, rfl⟩, ⟨Nat.le_of_ble_eq_true rfl, Nat.le_of_ble_eq_true rfl⟩, Nat.zero_le _, Nat.zero_le _⟩ dX5_mayBecome_8 ?_
    obtain ⟨g7, h⟩ := jx_gd_o h
    have h := Option.some.inj h
    subst h
    exact jx_zret (pc := 11) (of_decide_eq_true g7) dX5_mayBecome_11
