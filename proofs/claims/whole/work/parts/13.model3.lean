/-! the reference's methods: a function on the memory each, and its contract -/
theorem dX6_goesFrom_0 : decode cX6_goesFrom 0 = .ok (.aload_n 0, 1) := by decide +kernel
theorem dX6_goesFrom_1 : decode cX6_goesFrom 1 = .ok (.iload_n 1, 1) := by decide +kernel
theorem dX6_goesFrom_2 : decode cX6_goesFrom 2 = .ok (.iload_n 2, 1) := by decide +kernel
theorem dX6_goesFrom_3 : decode cX6_goesFrom 3 = .ok (.invokevirtual 141, 3) := by decide +kernel
theorem dX6_goesFrom_6 : decode cX6_goesFrom 6 = .ok (.aload_n 0, 1) := by decide +kernel
theorem dX6_goesFrom_7 : decode cX6_goesFrom 7 = .ok (.getfield 132, 3) := by decide +kernel
theorem dX6_goesFrom_10 : decode cX6_goesFrom 10 = .ok (.ifCond .eq 7, 3) := by decide +kernel
theorem dX6_goesFrom_13 : decode cX6_goesFrom 13 = .ok (.iload_n 1, 1) := by decide +kernel
theorem dX6_goesFrom_14 : decode cX6_goesFrom 14 = .ok (.goto 44, 3) := by decide +kernel
theorem dX6_goesFrom_17 : decode cX6_goesFrom 17 = .ok (.aload_n 0, 1) := by decide +kernel
theorem dX6_goesFrom_18 : decode cX6_goesFrom 18 = .ok (.getfield 129, 3) := by decide +kernel
theorem dX6_goesFrom_21 : decode cX6_goesFrom 21 = .ok (.ifCond .eq 28, 3) := by decide +kernel
theorem dX6_goesFrom_24 : decode cX6_goesFrom 24 = .ok (.aload_n 0, 1) := by decide +kernel
theorem dX6_goesFrom_25 : decode cX6_goesFrom 25 = .ok (.getfield 9, 3) := by decide +kernel
theorem dX6_goesFrom_28 : decode cX6_goesFrom 28 = .ok (.bipush 17, 2) := by decide +kernel
theorem dX6_goesFrom_30 : decode cX6_goesFrom 30 = .ok (.iload_n 1, 1) := by decide +kernel
theorem dX6_goesFrom_31 : decode cX6_goesFrom 31 = .ok (.iadd, 1) := by decide +kernel
theorem dX6_goesFrom_32 : decode cX6_goesFrom 32 = .ok (.iaload, 1) := by decide +kernel
theorem dX6_goesFrom_33 : decode cX6_goesFrom 33 = .ok (.iconst (-1), 1) := by decide +kernel
theorem dX6_goesFrom_34 : decode cX6_goesFrom 34 = .ok (.if_icmp .eq 15, 3) := by decide +kernel
theorem dX6_goesFrom_37 : decode cX6_goesFrom 37 = .ok (.aload_n 0, 1) := by decide +kernel
theorem dX6_goesFrom_38 : decode cX6_goesFrom 38 = .ok (.getfield 9, 3) := by decide +kernel
theorem dX6_goesFrom_41 : decode cX6_goesFrom 41 = .ok (.bipush 17, 2) := by decide +kernel
theorem dX6_goesFrom_43 : decode cX6_goesFrom 43 = .ok (.iload_n 1, 1) := by decide +kernel
theorem dX6_goesFrom_44 : decode cX6_goesFrom 44 = .ok (.iadd, 1) := by decide +kernel
theorem dX6_goesFrom_45 : decode cX6_goesFrom 45 = .ok (.iaload, 1) := by decide +kernel
theorem dX6_goesFrom_46 : decode cX6_goesFrom 46 = .ok (.goto 12, 3) := by decide +kernel
theorem dX6_goesFrom_49 : decode cX6_goesFrom 49 = .ok (.aload_n 0, 1) := by decide +kernel
theorem dX6_goesFrom_50 : decode cX6_goesFrom 50 = .ok (.getfield 9, 3) := by decide +kernel
theorem dX6_goesFrom_53 : decode cX6_goesFrom 53 = .ok (.bipush 10, 2) := by decide +kernel
theorem dX6_goesFrom_55 : decode cX6_goesFrom 55 = .ok (.iload_n 1, 1) := by decide +kernel
theorem dX6_goesFrom_56 : decode cX6_goesFrom 56 = .ok (.iadd, 1) := by decide +kernel
theorem dX6_goesFrom_57 : decode cX6_goesFrom 57 = .ok (.iaload, 1) := by decide +kernel
theorem dX6_goesFrom_58 : decode cX6_goesFrom 58 = .ok (.ireturn, 1) := by decide +kernel
abbrev rm_X6_goesFrom : Room := { frames := 1, cells := 0, slots := 0, locals := 30 }
abbrev jJ_X6_goesFrom (l : Launch) (G : jx_G) (sz : Nat) (out : (Int32 × jx_M)) (pc : Nat) (lv : List (Nat × Value)) (st : List Value) (σ : jx_M) : Prop := jx_J l (mm_env G) (mm_dyn G) (mm_rg G) sz RX6 "goesFrom" cX6_goesFrom 3 (some .int) rm_X6_goesFrom (fun below args s => MQ below (jx_Qi (mm_dyn G) out.2 out.1 (jx_A (mm_rg G) sz)) args s 0 0 (jx_A (mm_rg G) sz)) 0 0 pc lv st σ
def f_X6_goesFrom (σ : jx_M) (a1 : Int32) (a2 : Int32) : Option (Int32 × jx_M) :=
  jx_bd (f_X6_looks σ a1 a2) (fun q1 => if (q1 0 12) = 0 then if (q1 0 11) = 0 then jx_gd (jx_in ((10 : Int32) + a1) 920) (some ((q1 1 ((10 : Int32) + a1).toNatClampNeg), q1)) else jx_gd (jx_in ((17 : Int32) + a1) 920) (if (q1 1 ((17 : Int32) + a1).toNatClampNeg) = (-1 : Int32) then jx_gd (jx_in ((10 : Int32) + a1) 920) (some ((q1 1 ((10 : Int32) + a1).toNatClampNeg), q1)) else jx_gd (jx_in ((17 : Int32) + a1) 920) (some ((q1 1 ((17 : Int32) + a1).toNatClampNeg), q1))) else some (a1, q1))
set_option maxHeartbeats 4000000 in
set_option maxRecDepth 100000 in
theorem k_X6_goesFrom (l : Launch) (G : jx_G) (hG : mm_ok G) (sz : Nat) (σ : jx_M) (a1 : Int32) (a2 : Int32) (out : (Int32 × jx_M)) (h : f_X6_goesFrom σ a1 a2 = some out) : Met l yX6_goesFrom (Cond.code yX6_goesFrom cX6_goesFrom 3 (some .int) :: jx_ws) rm_X6_goesFrom (jx_Pc (mm_env G) (mm_dyn G) (mm_rg G) sz σ [.ref (G.2 10), .int a1, .int a2]) (jx_Qi (mm_dyn G) out.2 out.1 (jx_A (mm_rg G) sz)) 0 0 (jx_A (mm_rg G) sz) := by
  unfold f_X6_goesFrom at h
  refine jx_met (by decide) (Nat.le_of_ble_eq_true rfl) ?_
  refine jx_sub (lv' := [(0, .ref (G.2 10)), (1, .int a1), (2, .int a2)]) [0, 1, 2] rfl ?_
  refine jx_aload_n (pc := 0) (k0 := 0) rfl dX6_goesFrom_0 ?_
  refine jx_iload_n (pc := 1) (k0 := 1) rfl dX6_goesFrom_1 ?_
  refine jx_iload_n (pc := 2) (k0 := 2) rfl dX6_goesFrom_2 ?_
  obtain ⟨q1, eq1, h⟩ := jx_bd_o h
  refine jx_callVv (pc := 3) [.int a1, .int a2] (fun sz' => k_X6_looks l G hG sz' σ a1 a2 q1 eq1) kv_X6_141 mm_jok mm_rc rfl rfl (Nat.le_of_ble_eq_true rfl) ⟨⟨rfl, rfl⟩, ⟨Nat.le_of_ble_eq_true rfl, Nat.le_of_ble_eq_true rfl⟩, Nat.zero_le _, Nat.zero_le _⟩ dX6_goesFrom_3 ?_
  refine jx_aload_n (pc := 6) (k0 := 0) rfl dX6_goesFrom_6 ?_
  refine mm_g_isHeld (pc := 7) fl_X6_132 dX6_goesFrom_7 ?_
  refine jx_if_eq (pc := 10) (tgt := 17) dX6_goesFrom_10 (by decide) (fun c2 => ?_) (fun c2 => ?_)
  · have h := jx_t c2 h
    refine jx_aload_n (pc := 17) (k0 := 0) rfl dX6_goesFrom_17 ?_
    refine mm_g_isSide (pc := 18) fl_X6_129 dX6_goesFrom_18 ?_
    refine jx_if_eq (pc := 21) (tgt := 49) dX6_goesFrom_21 (by decide) (fun c3 => ?_) (fun c3 => ?_)
    · have h := jx_t c3 h
      refine jx_aload_n (pc := 49) (k0 := 0) rfl dX6_goesFrom_49 ?_
      refine mm_g_s (pc := 50) fl_X6_9 dX6_goesFrom_50 ?_
      refine jx_bipush (pc := 53) (v := (10 : Int32)) (by decide) dX6_goesFrom_53 ?_
      refine jx_iload_n (pc := 55) (k0 := 1) rfl dX6_goesFrom_55 ?_
      refine jx_iadd (pc := 56) dX6_goesFrom_56 ?_
      obtain ⟨g4, h⟩ := jx_gd_o h
      refine mm_l_s (pc := 57) (jx_in_o g4) rfl dX6_goesFrom_57 ?_
      have h := Option.some.inj h
      subst h
      exact jx_iret (pc := 58) dX6_goesFrom_58
    · have h := jx_f c3 h
      refine jx_aload_n (pc := 24) (k0 := 0) rfl dX6_goesFrom_24 ?_
      refine mm_g_s (pc := 25) fl_X6_9 dX6_goesFrom_25 ?_
      refine jx_bipush (pc := 28) (v := (17 : Int32)) (by decide) dX6_goesFrom_28 ?_
      refine jx_iload_n (pc := 30) (k0 := 1) rfl dX6_goesFrom_30 ?_
      refine jx_iadd (pc := 31) dX6_goesFrom_31 ?_
      obtain ⟨g5, h⟩ := jx_gd_o h
      refine mm_l_s (pc := 32) (jx_in_o g5) rfl dX6_goesFrom_32 ?_
      refine jx_iconst (pc := 33) (v := (-1 : Int32)) (by decide) dX6_goesFrom_33 ?_
      refine jx_icmp_eq (pc := 34) (tgt := 49) dX6_goesFrom_34 (by decide) (fun c6 => ?_) (fun c6 => ?_)
      · have h := jx_t c6 h
        refine jx_aload_n (pc := 49) (k0 := 0) rfl dX6_goesFrom_49 ?_
        refine mm_g_s (pc := 50) fl_X6_9 dX6_goesFrom_50 ?_
        refine jx_bipush (pc := 53) (v := (10 : Int32)) (by decide) dX6_goesFrom_53 ?_
        refine jx_iload_n (pc := 55) (k0 := 1) rfl dX6_goesFrom_55 ?_
        refine jx_iadd (pc := 56) dX6_goesFrom_56 ?_
        obtain ⟨g7, h⟩ := jx_gd_o h
        refine mm_l_s (pc := 57) (jx_in_o g7) rfl dX6_goesFrom_57 ?_
        have h := Option.some.inj h
        subst h
        exact jx_iret (pc := 58) dX6_goesFrom_58
      · have h := jx_f c6 h
        refine jx_aload_n (pc := 37) (k0 := 0) rfl dX6_goesFrom_37 ?_
        refine mm_g_s (pc := 38) fl_X6_9 dX6_goesFrom_38 ?_
        refine jx_bipush (pc := 41) (v := (17 : Int32)) (by decide) dX6_goesFrom_41 ?_
        refine jx_iload_n (pc := 43) (k0 := 1) rfl dX6_goesFrom_43 ?_
        refine jx_iadd (pc := 44) dX6_goesFrom_44 ?_
        obtain ⟨g8, h⟩ := jx_gd_o h
        refine mm_l_s (pc := 45) (jx_in_o g8) rfl dX6_goesFrom_45 ?_
        refine jx_goto (pc := 46) (tgt := 58) dX6_goesFrom_46 (by decide) ?_
        have h := Option.some.inj h
        subst h
        exact jx_iret (pc := 58) dX6_goesFrom_58
  · have h := jx_f c2 h
    refine jx_iload_n (pc := 13) (k0 := 1) rfl dX6_goesFrom_13 ?_
    refine jx_goto (pc := 14) (tgt := 58) dX6_goesFrom_14 (by decide) ?_
    have h := Option.some.inj h
    subst h
    exact jx_iret (pc := 58) dX6_goesFrom_58
theorem dX6_places_0 : decode cX6_places 0 = .ok (.iload_n 1, 1) := by decide +kernel
theorem dX6_places_1 : decode cX6_places 1 = .ok (.iconst 2, 1) := by decide +kernel
theorem dX6_places_2 : decode cX6_places 2 = .ok (.bipush 7, 2) := by decide +kernel
theorem dX6_places_4 : decode cX6_places 4 = .ok (.invokestatic 48, 3) := by decide +kernel
theorem dX6_places_7 : decode cX6_places 7 = .ok (.ifCond .ne 6, 3) := by decide +kernel
theorem dX6_places_10 : decode cX6_places 10 = .ok (.bipush (-2), 2) := by decide +kernel
theorem dX6_places_12 : decode cX6_places 12 = .ok (.ireturn, 1) := by decide +kernel
theorem dX6_places_13 : decode cX6_places 13 = .ok (.aload_n 0, 1) := by decide +kernel
theorem dX6_places_14 : decode cX6_places 14 = .ok (.getfield 9, 3) := by decide +kernel
theorem dX6_places_17 : decode cX6_places 17 = .ok (.iconst 0, 1) := by decide +kernel
theorem dX6_places_18 : decode cX6_places 18 = .ok (.iaload, 1) := by decide +kernel
theorem dX6_places_19 : decode cX6_places 19 = .ok (.ifCond .le 6, 3) := by decide +kernel
theorem dX6_places_22 : decode cX6_places 22 = .ok (.bipush (-3), 2) := by decide +kernel
theorem dX6_places_24 : decode cX6_places 24 = .ok (.ireturn, 1) := by decide +kernel
theorem dX6_places_25 : decode cX6_places 25 = .ok (.aload_n 0, 1) := by decide +kernel
theorem dX6_places_26 : decode cX6_places 26 = .ok (.getfield 9, 3) := by decide +kernel
theorem dX6_places_29 : decode cX6_places 29 = .ok (.bipush 6, 2) := by decide +kernel
theorem dX6_places_31 : decode cX6_places 31 = .ok (.iaload, 1) := by decide +kernel
theorem dX6_places_32 : decode cX6_places 32 = .ok (.istore_n 2, 1) := by decide +kernel
theorem dX6_places_33 : decode cX6_places 33 = .ok (.aload_n 0, 1) := by decide +kernel
theorem dX6_places_34 : decode cX6_places 34 = .ok (.iload_n 1, 1) := by decide +kernel
theorem dX6_places_35 : decode cX6_places 35 = .ok (.invokevirtual 40, 3) := by decide +kernel
theorem dX6_places_38 : decode cX6_places 38 = .ok (.iload_n 2, 1) := by decide +kernel
theorem dX6_places_39 : decode cX6_places 39 = .ok (.ireturn, 1) := by decide +kernel
abbrev rm_X6_places : Room := { frames := 1, cells := 0, slots := 0, locals := 22 }
abbrev jJ_X6_places (l : Launch) (G : jx_G) (sz : Nat) (out : (Int32 × jx_M)) (pc : Nat) (lv : List (Nat × Value)) (st : List Value) (σ : jx_M) : Prop := jx_J l (mm_env G) (mm_dyn G) (mm_rg G) sz RX6 "places" cX6_places 3 (some .int) rm_X6_places (fun below args s => MQ below (jx_Qi (mm_dyn G) out.2 out.1 (jx_A (mm_rg G) sz)) args s 0 0 (jx_A (mm_rg G) sz)) 0 0 pc lv st σ
def f_X6_places (σ : jx_M) (a1 : Int32) : Option (Int32 × jx_M) :=
  jx_bd (f_X6_in a1 (2 : Int32) (7 : Int32)) (fun q1 => if q1 = 0 then some ((-2 : Int32), σ) else if (σ 1 0) ≤ 0 then jx_lt ((σ 1 6)) (fun x4 => jx_bd (f_X6_asAtFirst σ a1) (fun q5 => some (x4, q5))) else some ((-3 : Int32), σ))
set_option maxHeartbeats 4000000 in
set_option maxRecDepth 100000 in
theorem k_X6_places (l : Launch) (G : jx_G) (hG : mm_ok G) (sz : Nat) (σ : jx_M) (a1 : Int32) (out : (Int32 × jx_M)) (h : f_X6_places σ a1 = some out) : Met l yX6_places (Cond.code yX6_places cX6_places 3 (some .int) :: jx_ws) rm_X6_places (jx_Pc (mm_env G) (mm_dyn G) (mm_rg G) sz σ [.ref (G.2 10), .int a1]) (jx_Qi (mm_dyn G) out.2 out.1 (jx_A (mm_rg G) sz)) 0 0 (jx_A (mm_rg G) sz) := by
  unfold f_X6_places at h
  refine jx_met (by decide) (Nat.le_of_ble_eq_true rfl) ?_
  refine jx_sub (lv' := [(0, .ref (G.2 10)), (1, .int a1)]) [0, 1] rfl ?_
  refine jx_iload_n (pc := 0) (k0 := 1) rfl dX6_places_0 ?_
  refine jx_iconst (pc := 1) (v := (2 : Int32)) (by decide) dX6_places_1 ?_
  refine jx_bipush (pc := 2) (v := (7 : Int32)) (by decide) dX6_places_2 ?_
  obtain ⟨q1, eq1, h⟩ := jx_bd_o h
  refine jx_callSi (pc := 4) [.int a1, .int (2 : Int32), .int (7 : Int32)] (fun sz' => k_X6_in l G hG sz' σ a1 (2 : Int32) (7 : Int32) q1 eq1) ks_X6_48 mm_jok rfl rfl (Nat.le_of_ble_eq_true rfl) ⟨⟨rfl, rfl⟩, ⟨Nat.le_of_ble_eq_true rfl, Nat.le_of_ble_eq_true rfl⟩, Nat.zero_le _, Nat.zero_le _⟩ dX6_places_4 ?_
  refine jx_if_ne (pc := 7) (tgt := 13) dX6_places_7 (by decide) (fun c2 => ?_) (fun c2 => ?_)
  · have h := jx_f c2 h
    refine jx_aload_n (pc := 13) (k0 := 0) rfl dX6_places_13 ?_
    refine mm_g_s (pc := 14) fl_X6_9 dX6_places_14 ?_
    refine jx_iconst (pc := 17) (v := (0 : Int32)) (by decide) dX6_places_17 ?_
    refine mm_l_s (pc := 18) (j := 0) (jx_in_o (by decide)) (by decide) dX6_places_18 ?_
    refine jx_if_le (pc := 19) (tgt := 25) dX6_places_19 (by decide) (fun c3 => ?_) (fun c3 => ?_)
    · have h := jx_t c3 h
      refine jx_aload_n (pc := 25) (k0 := 0) rfl dX6_places_25 ?_
      refine mm_g_s (pc := 26) fl_X6_9 dX6_places_26 ?_
      refine jx_bipush (pc := 29) (v := (6 : Int32)) (by decide) dX6_places_29 ?_
      refine mm_l_s (pc := 31) (j := 6) (jx_in_o (by decide)) (by decide) dX6_places_31 ?_
      obtain ⟨x4, ex4, h⟩ := jx_lt_o h
      refine jx_istore_n (pc := 32) (i := 2) rfl ex4 (by decide) (lv' := [(2, .int x4), (0, .ref (G.2 10)), (1, .int a1)]) rfl dX6_places_32 ?_
      refine jx_aload_n (pc := 33) (k0 := 0) rfl dX6_places_33 ?_
      refine jx_iload_n (pc := 34) (k0 := 1) rfl dX6_places_34 ?_
      obtain ⟨q5, eq5, h⟩ := jx_bd_o h
      refine jx_callVv (pc := 35) [.int a1] (fun sz' => k_X6_asAtFirst l G hG sz' σ a1 q5 eq5) kv_X6_40 mm_jok mm_rc rfl rfl (Nat.le_of_ble_eq_true rfl) ⟨⟨rfl, rfl⟩, ⟨Nat.le_of_ble_eq_true rfl, Nat.le_of_ble_eq_true rfl⟩, Nat.zero_le _, Nat.zero_le _⟩ dX6_places_35 ?_
      refine jx_iload_n (pc := 38) (k0 := 2) rfl dX6_places_38 ?_
      have h := Option.some.inj h
      subst h
      exact jx_iret (pc := 39) dX6_places_39
    · have h := jx_f c3 h
      refine jx_bipush (pc := 22) (v := (-3 : Int32)) (by decide) dX6_places_22 ?_
      have h := Option.some.inj h
      subst h
      exact jx_iret (pc := 24) dX6_places_24
  · have h := jx_t c2 h
    refine jx_bipush (pc := 10) (v := (-2 : Int32)) (by decide) dX6_places_10 ?_
    have h := Option.some.inj h
    subst h
    exact jx_iret (pc := 12) dX6_places_12
theorem dX6_setsOf_0 : decode cX6_setsOf 0 = .ok (.aload_n 0, 1) := by decide +kernel
theorem dX6_setsOf_1 : decode cX6_setsOf 1 = .ok (.getfield 9, 3) := by decide +kernel
theorem dX6_setsOf_4 : decode cX6_setsOf 4 = .ok (.bipush 43, 2) := by decide +kernel
theorem dX6_setsOf_6 : decode cX6_setsOf 6 = .ok (.iload_n 1, 1) := by decide +kernel
theorem dX6_setsOf_7 : decode cX6_setsOf 7 = .ok (.iadd, 1) := by decide +kernel
theorem dX6_setsOf_8 : decode cX6_setsOf 8 = .ok (.iaload, 1) := by decide +kernel
theorem dX6_setsOf_9 : decode cX6_setsOf 9 = .ok (.istore_n 2, 1) := by decide +kernel
theorem dX6_setsOf_10 : decode cX6_setsOf 10 = .ok (.aload_n 0, 1) := by decide +kernel
theorem dX6_setsOf_11 : decode cX6_setsOf 11 = .ok (.getfield 9, 3) := by decide +kernel
theorem dX6_setsOf_14 : decode cX6_setsOf 14 = .ok (.bipush 31, 2) := by decide +kernel
theorem dX6_setsOf_16 : decode cX6_setsOf 16 = .ok (.iload_n 1, 1) := by decide +kernel
theorem dX6_setsOf_17 : decode cX6_setsOf 17 = .ok (.iadd, 1) := by decide +kernel
theorem dX6_setsOf_18 : decode cX6_setsOf 18 = .ok (.iaload, 1) := by decide +kernel
theorem dX6_setsOf_19 : decode cX6_setsOf 19 = .ok (.tableswitch 118 1 6 #[37, 118, 43, 48, 71, 96], 37) := by decide +kernel
theorem dX6_setsOf_56 : decode cX6_setsOf 56 = .ok (.aload_n 0, 1) := by decide +kernel
theorem dX6_setsOf_57 : decode cX6_setsOf 57 = .ok (.iload_n 2, 1) := by decide +kernel
theorem dX6_setsOf_58 : decode cX6_setsOf 58 = .ok (.invokevirtual 153, 3) := by decide +kernel
theorem dX6_setsOf_61 : decode cX6_setsOf 61 = .ok (.ireturn, 1) := by decide +kernel
theorem dX6_setsOf_62 : decode cX6_setsOf 62 = .ok (.aload_n 0, 1) := by decide +kernel
theorem dX6_setsOf_63 : decode cX6_setsOf 63 = .ok (.invokevirtual 157, 3) := by decide +kernel
theorem dX6_setsOf_66 : decode cX6_setsOf 66 = .ok (.ireturn, 1) := by decide +kernel
theorem dX6_setsOf_67 : decode cX6_setsOf 67 = .ok (.aload_n 0, 1) := by decide +kernel
theorem dX6_setsOf_68 : decode cX6_setsOf 68 = .ok (.getfield 9, 3) := by decide +kernel
theorem dX6_setsOf_71 : decode cX6_setsOf 71 = .ok (.bipush 10, 2) := by decide +kernel
theorem dX6_setsOf_73 : decode cX6_setsOf 73 = .ok (.iload_n 2, 1) := by decide +kernel
theorem dX6_setsOf_74 : decode cX6_setsOf 74 = .ok (.iadd, 1) := by decide +kernel
theorem dX6_setsOf_75 : decode cX6_setsOf 75 = .ok (.iaload, 1) := by decide +kernel
theorem dX6_setsOf_76 : decode cX6_setsOf 76 = .ok (.iload_n 2, 1) := by decide +kernel
theorem dX6_setsOf_77 : decode cX6_setsOf 77 = .ok (.if_icmp .ne 7, 3) := by decide +kernel
theorem dX6_setsOf_80 : decode cX6_setsOf 80 = .ok (.iload_n 2, 1) := by decide +kernel
theorem dX6_setsOf_81 : decode cX6_setsOf 81 = .ok (.goto 8, 3) := by decide +kernel
theorem dX6_setsOf_84 : decode cX6_setsOf 84 = .ok (.aload_n 0, 1) := by decide +kernel
theorem dX6_setsOf_85 : decode cX6_setsOf 85 = .ok (.iload_n 2, 1) := by decide +kernel
theorem dX6_setsOf_86 : decode cX6_setsOf 86 = .ok (.invokevirtual 153, 3) := by decide +kernel
theorem dX6_setsOf_89 : decode cX6_setsOf 89 = .ok (.ireturn, 1) := by decide +kernel
theorem dX6_setsOf_90 : decode cX6_setsOf 90 = .ok (.aload_n 0, 1) := by decide +kernel
theorem dX6_setsOf_91 : decode cX6_setsOf 91 = .ok (.getfield 9, 3) := by decide +kernel
theorem dX6_setsOf_94 : decode cX6_setsOf 94 = .ok (.bipush 43, 2) := by decide +kernel
theorem dX6_setsOf_96 : decode cX6_setsOf 96 = .ok (.aload_n 0, 1) := by decide +kernel
theorem dX6_setsOf_97 : decode cX6_setsOf 97 = .ok (.getfield 9, 3) := by decide +kernel
theorem dX6_setsOf_100 : decode cX6_setsOf 100 = .ok (.bipush 37, 2) := by decide +kernel
theorem dX6_setsOf_102 : decode cX6_setsOf 102 = .ok (.iload_n 1, 1) := by decide +kernel
theorem dX6_setsOf_103 : decode cX6_setsOf 103 = .ok (.iadd, 1) := by decide +kernel
theorem dX6_setsOf_104 : decode cX6_setsOf 104 = .ok (.iaload, 1) := by decide +kernel
theorem dX6_setsOf_105 : decode cX6_setsOf 105 = .ok (.aload_n 0, 1) := by decide +kernel
theorem dX6_setsOf_106 : decode cX6_setsOf 106 = .ok (.getfield 9, 3) := by decide +kernel
theorem dX6_setsOf_109 : decode cX6_setsOf 109 = .ok (.iconst 0, 1) := by decide +kernel
theorem dX6_setsOf_110 : decode cX6_setsOf 110 = .ok (.iaload, 1) := by decide +kernel
theorem dX6_setsOf_111 : decode cX6_setsOf 111 = .ok (.irem, 1) := by decide +kernel
theorem dX6_setsOf_112 : decode cX6_setsOf 112 = .ok (.iadd, 1) := by decide +kernel
theorem dX6_setsOf_113 : decode cX6_setsOf 113 = .ok (.iaload, 1) := by decide +kernel
theorem dX6_setsOf_114 : decode cX6_setsOf 114 = .ok (.ireturn, 1) := by decide +kernel
theorem dX6_setsOf_115 : decode cX6_setsOf 115 = .ok (.aload_n 0, 1) := by decide +kernel
theorem dX6_setsOf_116 : decode cX6_setsOf 116 = .ok (.getfield 9, 3) := by decide +kernel
theorem dX6_setsOf_119 : decode cX6_setsOf 119 = .ok (.bipush 61, 2) := by decide +kernel
theorem dX6_setsOf_121 : decode cX6_setsOf 121 = .ok (.iconst 3, 1) := by decide +kernel
theorem dX6_setsOf_122 : decode cX6_setsOf 122 = .ok (.iload_n 1, 1) := by decide +kernel
theorem dX6_setsOf_123 : decode cX6_setsOf 123 = .ok (.imul, 1) := by decide +kernel
theorem dX6_setsOf_124 : decode cX6_setsOf 124 = .ok (.iadd, 1) := by decide +kernel
theorem dX6_setsOf_125 : decode cX6_setsOf 125 = .ok (.aload_n 0, 1) := by decide +kernel
theorem dX6_setsOf_126 : decode cX6_setsOf 126 = .ok (.getfield 9, 3) := by decide +kernel
theorem dX6_setsOf_129 : decode cX6_setsOf 129 = .ok (.bipush 7, 2) := by decide +kernel
theorem dX6_setsOf_131 : decode cX6_setsOf 131 = .ok (.iaload, 1) := by decide +kernel
theorem dX6_setsOf_132 : decode cX6_setsOf 132 = .ok (.iconst 3, 1) := by decide +kernel
theorem dX6_setsOf_133 : decode cX6_setsOf 133 = .ok (.irem, 1) := by decide +kernel
theorem dX6_setsOf_134 : decode cX6_setsOf 134 = .ok (.iadd, 1) := by decide +kernel
theorem dX6_setsOf_135 : decode cX6_setsOf 135 = .ok (.iaload, 1) := by decide +kernel
theorem dX6_setsOf_136 : decode cX6_setsOf 136 = .ok (.ireturn, 1) := by decide +kernel
theorem dX6_setsOf_137 : decode cX6_setsOf 137 = .ok (.iload_n 2, 1) := by decide +kernel
theorem dX6_setsOf_138 : decode cX6_setsOf 138 = .ok (.ireturn, 1) := by decide +kernel
abbrev rm_X6_setsOf : Room := { frames := 1, cells := 0, slots := 0, locals := 25 }
abbrev jJ_X6_setsOf (l : Launch) (G : jx_G) (sz : Nat) (σ0 : jx_M) (out : Int32) (pc : Nat) (lv : List (Nat × Value)) (st : List Value) (σ : jx_M) : Prop := jx_J l (mm_env G) (mm_dyn G) (mm_rg G) sz RX6 "setsOf" cX6_setsOf 3 (some .int) rm_X6_setsOf (fun below args s => MQ below (jx_Qi (mm_dyn G) σ0 out (jx_A (mm_rg G) sz)) args s 0 0 (jx_A (mm_rg G) sz)) 0 0 pc lv st σ
def f_X6_setsOf (σ : jx_M) (a1 : Int32) : Option Int32 :=
  jx_gd (jx_in ((43 : Int32) + a1) 920) (jx_lt ((σ 1 ((43 : Int32) + a1).toNatClampNeg)) (fun x2 => jx_gd (jx_in ((31 : Int32) + a1) 920) (if (σ 1 ((31 : Int32) + a1).toNatClampNeg) = (1 : Int32) then jx_bd (f_X6_upperOf σ x2) (fun q4 => some q4) else if (σ 1 ((31 : Int32) + a1).toNatClampNeg) = (3 : Int32) then jx_bd (f_X6_crowded σ) (fun q6 => some q6) else if (σ 1 ((31 : Int32) + a1).toNatClampNeg) = (4 : Int32) then jx_gd (jx_in ((10 : Int32) + x2) 920) (if (σ 1 ((10 : Int32) + x2).toNatClampNeg) = x2 then some x2 else jx_bd (f_X6_upperOf σ x2) (fun q10 => some q10)) else if (σ 1 ((31 : Int32) + a1).toNatClampNeg) = (5 : Int32) then jx_gd (jx_in ((37 : Int32) + a1) 920) (jx_gd (decide (¬ (σ 1 0) = 0)) (jx_gd (jx_in ((43 : Int32) + ((σ 1 ((37 : Int32) + a1).toNatClampNeg) - (σ 1 ((37 : Int32) + a1).toNatClampNeg) / (σ 1 0) * (σ 1 0))) 920) (some (σ 1 ((43 : Int32) + ((σ 1 ((37 : Int32) + a1).toNatClampNeg) - (σ 1 ((37 : Int32) + a1).toNatClampNeg) / (σ 1 0) * (σ 1 0))).toNatClampNeg)))) else if (σ 1 ((31 : Int32) + a1).toNatClampNeg) = (6 : Int32) then jx_gd (jx_in (((61 : Int32) + ((3 : Int32) * a1)) + ((σ 1 7) - (σ 1 7) / (3 : Int32) * (3 : Int32))) 920) (some (σ 1 (((61 : Int32) + ((3 : Int32) * a1)) + ((σ 1 7) - (σ 1 7) / (3 : Int32) * (3 : Int32))).toNatClampNeg)) else some x2)))
set_option maxHeartbeats 4000000 in
set_option maxRecDepth 100000 in
theorem k_X6_setsOf (l : Launch) (G : jx_G) (hG : mm_ok G) (sz : Nat) (σ : jx_M) (a1 : Int32) (out : Int32) (h : f_X6_setsOf σ a1 = some out) : Met l yX6_setsOf (Cond.code yX6_setsOf cX6_setsOf 3 (some .int) :: jx_ws) rm_X6_setsOf (jx_Pc (mm_env G) (mm_dyn G) (mm_rg G) sz σ [.ref (G.2 10), .int a1]) (jx_Qi (mm_dyn G) σ out (jx_A (mm_rg G) sz)) 0 0 (jx_A (mm_rg G) sz) := by
  unfold f_X6_setsOf at h
  refine jx_met (by decide) (Nat.le_of_ble_eq_true rfl) ?_
  refine jx_sub (lv' := [(0, .ref (G.2 10)), (1, .int a1)]) [0, 1] rfl ?_
  refine jx_aload_n (pc := 0) (k0 := 0) rfl dX6_setsOf_0 ?_
  refine mm_g_s (pc := 1) fl_X6_9 dX6_setsOf_1 ?_
  refine jx_bipush (pc := 4) (v := (43 : Int32)) (by decide) dX6_setsOf_4 ?_
  refine jx_iload_n (pc := 6) (k0 := 1) rfl dX6_setsOf_6 ?_
  refine jx_iadd (pc := 7) dX6_setsOf_7 ?_
  obtain ⟨g1, h⟩ := jx_gd_o h
  refine mm_l_s (pc := 8) (jx_in_o g1) rfl dX6_setsOf_8 ?_
  obtain ⟨x2, ex2, h⟩ := jx_lt_o h
  refine jx_istore_n (pc := 9) (i := 2) rfl ex2 (by decide) (lv' := [(2, .int x2), (0, .ref (G.2 10)), (1, .int a1)]) rfl dX6_setsOf_9 ?_
  refine jx_aload_n (pc := 10) (k0 := 0) rfl dX6_setsOf_10 ?_
  refine mm_g_s (pc := 11) fl_X6_9 dX6_setsOf_11 ?_
  refine jx_bipush (pc := 14) (v := (31 : Int32)) (by decide) dX6_setsOf_14 ?_
  refine jx_iload_n (pc := 16) (k0 := 1) rfl dX6_setsOf_16 ?_
  refine jx_iadd (pc := 17) dX6_setsOf_17 ?_
  obtain ⟨g3, h⟩ := jx_gd_o h
  refine mm_l_s (pc := 18) (jx_in_o g3) rfl dX6_setsOf_18 ?_
  by_cases c5 : (σ 1 ((31 : Int32) + a1).toNatClampNeg) = (1 : Int32)
  · have h := jx_t c5 h
    refine jx_tabIn (pc := 19) (tgt := 56) dX6_setsOf_19 1 (by rw [c5]; rfl) (by decide) (by decide) rfl (by decide) ?_
    refine jx_aload_n (pc := 56) (k0 := 0) rfl dX6_setsOf_56 ?_
    refine jx_iload_n (pc := 57) (k0 := 2) rfl dX6_setsOf_57 ?_
    obtain ⟨q4, eq4, h⟩ := jx_bd_o h
    refine jx_callVi (pc := 58) [.int x2] (fun sz' => k_X6_upperOf l G hG sz' σ x2 q4 eq4) kv_X6_153 mm_jok mm_rc rfl rfl (Nat.le_of_ble_eq_true rfl) ⟨⟨rfl, rfl⟩, ⟨Nat.le_of_ble_eq_true rfl, Nat.le_of_ble_eq_true rfl⟩, Nat.zero_le _, Nat.zero_le _⟩ dX6_setsOf_58 ?_
    have h := Option.some.inj h
    subst h
    exact jx_iret (pc := 61) dX6_setsOf_61
  have h := jx_f c5 h
  by_cases c7 : (σ 1 ((31 : Int32) + a1).toNatClampNeg) = (3 : Int32)
  · have h := jx_t c7 h
    refine jx_tabIn (pc := 19) (tgt := 62) dX6_setsOf_19 3 (by rw [c7]; rfl) (by decide) (by decide) rfl (by decide) ?_
    refine jx_aload_n (pc := 62) (k0 := 0) rfl dX6_setsOf_62 ?_
    obtain ⟨q6, eq6, h⟩ := jx_bd_o h
    refine jx_callVi (pc := 63) [] (fun sz' => k_X6_crowded l G hG sz' σ q6 eq6) kv_X6_157 mm_jok mm_rc rfl rfl (Nat.le_of_ble_eq_true rfl) ⟨⟨rfl, rfl⟩, ⟨Nat.le_of_ble_eq_true rfl, Nat.le_of_ble_eq_true rfl⟩, Nat.zero_le _, Nat.zero_le _⟩ dX6_setsOf_63 ?_
    have h := Option.some.inj h
    subst h
    exact jx_iret (pc := 66) dX6_setsOf_66
  have h := jx_f c7 h
  by_cases c11 : (σ 1 ((31 : Int32) + a1).toNatClampNeg) = (4 : Int32)
  · have h := jx_t c11 h
    refine jx_tabIn (pc := 19) (tgt := 67) dX6_setsOf_19 4 (by rw [c11]; rfl) (by decide) (by decide) rfl (by decide) ?_
    refine jx_aload_n (pc := 67) (k0 := 0) rfl dX6_setsOf_67 ?_
    refine mm_g_s (pc := 68) fl_X6_9 dX6_setsOf_68 ?_
    refine jx_bipush (pc := 71) (v := (10 : Int32)) (by decide) dX6_setsOf_71 ?_
    refine jx_iload_n (pc := 73) (k0 := 2) rfl dX6_setsOf_73 ?_
    refine jx_iadd (pc := 74) dX6_setsOf_74 ?_
    obtain ⟨g8, h⟩ := jx_gd_o h
    refine mm_l_s (pc := 75) (jx_in_o g8) rfl dX6_setsOf_75 ?_
    refine jx_iload_n (pc := 76) (k0 := 2) rfl dX6_setsOf_76 ?_
    refine jx_icmp_ne (pc := 77) (tgt := 84) dX6_setsOf_77 (by decide) (fun c9 => ?_) (fun c9 => ?_)
    · have h := jx_f c9 h
      refine jx_aload_n (pc := 84) (k0 := 0) rfl dX6_setsOf_84 ?_
      refine jx_iload_n (pc := 85) (k0 := 2) rfl dX6_setsOf_85 ?_
      obtain ⟨q10, eq10, h⟩ := jx_bd_o h
      refine jx_callVi (pc := 86) [.int x2] (fun sz' => k_X6_upperOf l G hG sz' σ x2 q10 eq10) kv_X6_153 mm_jok mm_rc rfl rfl (Nat.le_of_ble_eq_true rfl) ⟨⟨rfl, rfl⟩, ⟨Nat.le_of_ble_eq_true rfl, Nat.le_of_ble_eq_true rfl⟩, Nat.zero_le _, Nat.zero_le _⟩ dX6_setsOf_86 ?_
      have h := Option.some.inj h
      subst h
      exact jx_iret (pc := 89) dX6_setsOf_89
    · have h := jx_t c9 h
      refine jx_iload_n (pc := 80) (k0 := 2) rfl dX6_setsOf_80 ?_
      refine jx_goto (pc := 81) (tgt := 89) dX6_setsOf_81 (by decide) ?_
      have h := Option.some.inj h
      subst h
      exact jx_iret (pc := 89) dX6_setsOf_89
  have h := jx_f c11 h
  by_cases c15 : (σ 1 ((31 : Int32) + a1).toNatClampNeg) = (5 : Int32)
  · have h := jx_t c15 h
    refine jx_tabIn (pc := 19) (tgt := 90) dX6_setsOf_19 5 (by rw [c15]; rfl) (by decide) (by decide) rfl (by decide) ?_
    refine jx_aload_n (pc := 90) (k0 := 0) rfl dX6_setsOf_90 ?_
    refine mm_g_s (pc := 91) fl_X6_9 dX6_setsOf_91 ?_
    refine jx_bipush (pc := 94) (v := (43 : Int32)) (by decide) dX6_setsOf_94 ?_
    refine jx_aload_n (pc := 96) (k0 := 0) rfl dX6_setsOf_96 ?_
    refine mm_g_s (pc := 97) fl_X6_9 dX6_setsOf_97 ?_
    refine jx_bipush (pc := 100) (v := (37 : Int32)) (by decide) dX6_setsOf_100 ?_
    refine jx_iload_n (pc := 102) (k0 := 1) rfl dX6_setsOf_102 ?_
    refine jx_iadd (pc := 103) dX6_setsOf_103 ?_
    obtain ⟨g12, h⟩ := jx_gd_o h
    refine mm_l_s (pc := 104) (jx_in_o g12) rfl dX6_setsOf_104 ?_
    refine jx_aload_n (pc := 105) (k0 := 0) rfl dX6_setsOf_105 ?_
    refine mm_g_s (pc := 106) fl_X6_9 dX6_setsOf_106 ?_
    refine jx_iconst (pc := 109) (v := (0 : Int32)) (by decide) dX6_setsOf_109 ?_
    refine mm_l_s (pc := 110) (j := 0) (jx_in_o (by decide)) (by decide) dX6_setsOf_110 ?_
    obtain ⟨g13, h⟩ := jx_gd_o h
    refine jx_irem (pc := 111) (of_decide_eq_true g13) dX6_setsOf_111 ?_
    refine jx_iadd (pc := 112) dX6_setsOf_112 ?_
    obtain ⟨g14, h⟩ := jx_gd_o h
    refine mm_l_s (pc := 113) (jx_in_o g14) rfl dX6_setsOf_113 ?_
    have h := Option.some.inj h
    subst h
    exact jx_iret (pc := 114) dX6_setsOf_114
  have h := jx_f c15 h
  by_cases c17 : (σ 1 ((31 : Int32) + a1).toNatClampNeg) = (6 : Int32)
  · have h := jx_t c17 h
    refine jx_tabIn (pc := 19) (tgt := 115) dX6_setsOf_19 6 (by rw [c17]; rfl) (by decide) (by decide) rfl (by decide) ?_
    refine jx_aload_n (pc := 115) (k0 := 0) rfl dX6_setsOf_115 ?_
    refine mm_g_s (pc := 116) fl_X6_9 dX6_setsOf_116 ?_
    refine jx_bipush (pc := 119) (v := (61 : Int32)) (by decide) dX6_setsOf_119 ?_
    refine jx_iconst (pc := 121) (v := (3 : Int32)) (by decide) dX6_setsOf_121 ?_
    refine jx_iload_n (pc := 122) (k0 := 1) rfl dX6_setsOf_122 ?_
    refine jx_imul (pc := 123) dX6_setsOf_123 ?_
    refine jx_iadd (pc := 124) dX6_setsOf_124 ?_
    refine jx_aload_n (pc := 125) (k0 := 0) rfl dX6_setsOf_125 ?_
    refine mm_g_s (pc := 126) fl_X6_9 dX6_setsOf_126 ?_
    refine jx_bipush (pc := 129) (v := (7 : Int32)) (by decide) dX6_setsOf_129 ?_
    refine mm_l_s (pc := 131) (j := 7) (jx_in_o (by decide)) (by decide) dX6_setsOf_131 ?_
    refine jx_iconst (pc := 132) (v := (3 : Int32)) (by decide) dX6_setsOf_132 ?_
    refine jx_irem (pc := 133) (by decide) dX6_setsOf_133 ?_
    refine jx_iadd (pc := 134) dX6_setsOf_134 ?_
    obtain ⟨g16, h⟩ := jx_gd_o h
    refine mm_l_s (pc := 135) (jx_in_o g16) rfl dX6_setsOf_135 ?_
    have h := Option.some.inj h
    subst h
    exact jx_iret (pc := 136) dX6_setsOf_136
  have h := jx_f c17 h
  by_cases c18 : (σ 1 ((31 : Int32) + a1).toNatClampNeg) = (2 : Int32)
  · refine jx_tabIn (pc := 19) (tgt := 137) dX6_setsOf_19 2 (by rw [c18]; rfl) (by decide) (by decide) rfl (by decide) ?_
    refine jx_iload_n (pc := 137) (k0 := 2) rfl dX6_setsOf_137 ?_
    have h := Option.some.inj h
    subst h
    exact jx_iret (pc := 138) dX6_setsOf_138
  refine jx_tabOut (pc := 19) (tgt := 137) dX6_setsOf_19 (by have z0 := lv_neT c5 (show (1 : Int32).toInt = 1 from rfl); have z1 := lv_neT c7 (show (3 : Int32).toInt = 3 from rfl); have z2 := lv_neT c11 (show (4 : Int32).toInt = 4 from rfl); have z3 := lv_neT c15 (show (5 : Int32).toInt = 5 from rfl); have z4 := lv_neT c17 (show (6 : Int32).toInt = 6 from rfl); have z5 := lv_neT c18 (show (2 : Int32).toInt = 2 from rfl); omega) (by decide) ?_
  refine jx_iload_n (pc := 137) (k0 := 2) rfl dX6_setsOf_137 ?_
  have h := Option.some.inj h
  subst h
  exact jx_iret (pc := 138) dX6_setsOf_138
theorem dX6_burnsAt_0 : decode cX6_burnsAt 0 = .ok (.aload_n 0, 1) := by decide +kernel
theorem dX6_burnsAt_1 : decode cX6_burnsAt 1 = .ok (.iload_n 2, 1) := by decide +kernel
theorem dX6_burnsAt_2 : decode cX6_burnsAt 2 = .ok (.aload_n 0, 1) := by decide +kernel
theorem dX6_burnsAt_3 : decode cX6_burnsAt 3 = .ok (.getfield 9, 3) := by decide +kernel
theorem dX6_burnsAt_6 : decode cX6_burnsAt 6 = .ok (.bipush 7, 2) := by decide +kernel
theorem dX6_burnsAt_8 : decode cX6_burnsAt 8 = .ok (.iaload, 1) := by decide +kernel
theorem dX6_burnsAt_9 : decode cX6_burnsAt 9 = .ok (.aload_n 0, 1) := by decide +kernel
theorem dX6_burnsAt_10 : decode cX6_burnsAt 10 = .ok (.iload_n 1, 1) := by decide +kernel
theorem dX6_burnsAt_11 : decode cX6_burnsAt 11 = .ok (.invokevirtual 160, 3) := by decide +kernel
theorem dX6_burnsAt_14 : decode cX6_burnsAt 14 = .ok (.iadd, 1) := by decide +kernel
theorem dX6_burnsAt_15 : decode cX6_burnsAt 15 = .ok (.invokevirtual 141, 3) := by decide +kernel
theorem dX6_burnsAt_18 : decode cX6_burnsAt 18 = .ok (.aload_n 0, 1) := by decide +kernel
theorem dX6_burnsAt_19 : decode cX6_burnsAt 19 = .ok (.getfield 9, 3) := by decide +kernel
theorem dX6_burnsAt_22 : decode cX6_burnsAt 22 = .ok (.bipush 55, 2) := by decide +kernel
theorem dX6_burnsAt_24 : decode cX6_burnsAt 24 = .ok (.iload_n 1, 1) := by decide +kernel
theorem dX6_burnsAt_25 : decode cX6_burnsAt 25 = .ok (.iadd, 1) := by decide +kernel
theorem dX6_burnsAt_26 : decode cX6_burnsAt 26 = .ok (.iaload, 1) := by decide +kernel
theorem dX6_burnsAt_27 : decode cX6_burnsAt 27 = .ok (.aload_n 0, 1) := by decide +kernel
theorem dX6_burnsAt_28 : decode cX6_burnsAt 28 = .ok (.getfield 135, 3) := by decide +kernel
theorem dX6_burnsAt_31 : decode cX6_burnsAt 31 = .ok (.iadd, 1) := by decide +kernel
theorem dX6_burnsAt_32 : decode cX6_burnsAt 32 = .ok (.istore_n 3, 1) := by decide +kernel
theorem dX6_burnsAt_33 : decode cX6_burnsAt 33 = .ok (.iload_n 3, 1) := by decide +kernel
theorem dX6_burnsAt_34 : decode cX6_burnsAt 34 = .ok (.bipush 12, 2) := by decide +kernel
theorem dX6_burnsAt_36 : decode cX6_burnsAt 36 = .ok (.if_icmp .le 8, 3) := by decide +kernel
theorem dX6_burnsAt_39 : decode cX6_burnsAt 39 = .ok (.bipush 12, 2) := by decide +kernel
theorem dX6_burnsAt_41 : decode cX6_burnsAt 41 = .ok (.goto 4, 3) := by decide +kernel
theorem dX6_burnsAt_44 : decode cX6_burnsAt 44 = .ok (.iload_n 3, 1) := by decide +kernel
theorem dX6_burnsAt_45 : decode cX6_burnsAt 45 = .ok (.ireturn, 1) := by decide +kernel
abbrev rm_X6_burnsAt : Room := { frames := 1, cells := 0, slots := 0, locals := 30 }
abbrev jJ_X6_burnsAt (l : Launch) (G : jx_G) (sz : Nat) (out : (Int32 × jx_M)) (pc : Nat) (lv : List (Nat × Value)) (st : List Value) (σ : jx_M) : Prop := jx_J l (mm_env G) (mm_dyn G) (mm_rg G) sz RX6 "burnsAt" cX6_burnsAt 4 (some .int) rm_X6_burnsAt (fun below args s => MQ below (jx_Qi (mm_dyn G) out.2 out.1 (jx_A (mm_rg G) sz)) args s 0 0 (jx_A (mm_rg G) sz)) 0 0 pc lv st σ
def f_X6_burnsAt (σ : jx_M) (a1 : Int32) (a2 : Int32) : Option (Int32 × jx_M) :=
  jx_bd (f_X6_delayOf σ a1) (fun q1 => jx_bd (f_X6_looks σ a2 ((σ 1 7) + q1)) (fun q2 => jx_gd (jx_in ((55 : Int32) + a1) 920) (jx_lt (((q2 1 ((55 : Int32) + a1).toNatClampNeg) + (q2 0 13))) (fun x4 => if x4 ≤ (12 : Int32) then some (x4, q2) else some ((12 : Int32), q2)))))
set_option maxHeartbeats 4000000 in
set_option maxRecDepth 100000 in
theorem k_X6_burnsAt (l : Launch) (G : jx_G) (hG : mm_ok G) (sz : Nat) (σ : jx_M) (a1 : Int32) (a2 : Int32) (out : (Int32 × jx_M)) (h : f_X6_burnsAt σ a1 a2 = some out) : Met l yX6_burnsAt (Cond.code yX6_burnsAt cX6_burnsAt 4 (some .int) :: jx_ws) rm_X6_burnsAt (jx_Pc (mm_env G) (mm_dyn G) (mm_rg G) sz σ [.ref (G.2 10), .int a1, .int a2]) (jx_Qi (mm_dyn G) out.2 out.1 (jx_A (mm_rg G) sz)) 0 0 (jx_A (mm_rg G) sz) := by
  unfold f_X6_burnsAt at h
  refine jx_met (by decide) (Nat.le_of_ble_eq_true rfl) ?_
  refine jx_sub (lv' := [(0, .ref (G.2 10)), (1, .int a1), (2, .int a2)]) [0, 1, 2] rfl ?_
  refine jx_aload_n (pc := 0) (k0 := 0) rfl dX6_burnsAt_0 ?_
  refine jx_iload_n (pc := 1) (k0 := 2) rfl dX6_burnsAt_1 ?_
  refine jx_aload_n (pc := 2) (k0 := 0) rfl dX6_burnsAt_2 ?_
  refine mm_g_s (pc := 3) fl_X6_9 dX6_burnsAt_3 ?_
  refine jx_bipush (pc := 6) (v := (7 : Int32)) (by decide) dX6_burnsAt_6 ?_
  refine mm_l_s (pc := 8) (j := 7) (jx_in_o (by decide)) (by decide) dX6_burnsAt_8 ?_
  refine jx_aload_n (pc := 9) (k0 := 0) rfl dX6_burnsAt_9 ?_
  refine jx_iload_n (pc := 10) (k0 := 1) rfl dX6_burnsAt_10 ?_
  obtain ⟨q1, eq1, h⟩ := jx_bd_o h
  refine jx_callVi (pc := 11) [.int a1] (fun sz' => k_X6_delayOf l G hG sz' σ a1 q1 eq1) kv_X6_160 mm_jok mm_rc rfl rfl (Nat.le_of_ble_eq_true rfl) ⟨⟨rfl, rfl⟩, ⟨Nat.le_of_ble_eq_true rfl, Nat.le_of_ble_eq_true rfl⟩, Nat.zero_le _, Nat.zero_le _⟩ dX6_burnsAt_11 ?_
  refine jx_iadd (pc := 14) dX6_burnsAt_14 ?_
  obtain ⟨q2, eq2, h⟩ := jx_bd_o h
  refine jx_callVv (pc := 15) [.int a2, .int ((σ 1 7) + q1)] (fun sz' => k_X6_looks l G hG sz' σ a2 ((σ 1 7) + q1) q2 eq2) kv_X6_141 mm_jok mm_rc rfl rfl (Nat.le_of_ble_eq_true rfl) ⟨⟨rfl, rfl⟩, ⟨Nat.le_of_ble_eq_true rfl, Nat.le_of_ble_eq_true rfl⟩, Nat.zero_le _, Nat.zero_le _⟩ dX6_burnsAt_15 ?_
  refine jx_aload_n (pc := 18) (k0 := 0) rfl dX6_burnsAt_18 ?_
  refine mm_g_s (pc := 19) fl_X6_9 dX6_burnsAt_19 ?_
  refine jx_bipush (pc := 22) (v := (55 : Int32)) (by decide) dX6_burnsAt_22 ?_
  refine jx_iload_n (pc := 24) (k0 := 1) rfl dX6_burnsAt_24 ?_
  refine jx_iadd (pc := 25) dX6_burnsAt_25 ?_
  obtain ⟨g3, h⟩ := jx_gd_o h
  refine mm_l_s (pc := 26) (jx_in_o g3) rfl dX6_burnsAt_26 ?_
  refine jx_aload_n (pc := 27) (k0 := 0) rfl dX6_burnsAt_27 ?_
  refine mm_g_oiled (pc := 28) fl_X6_135 dX6_burnsAt_28 ?_
  refine jx_iadd (pc := 31) dX6_burnsAt_31 ?_
  obtain ⟨x4, ex4, h⟩ := jx_lt_o h
  refine jx_istore_n (pc := 32) (i := 3) rfl ex4 (by decide) (lv' := [(3, .int x4), (0, .ref (G.2 10)), (1, .int a1), (2, .int a2)]) rfl dX6_burnsAt_32 ?_
  refine jx_iload_n (pc := 33) (k0 := 3) rfl dX6_burnsAt_33 ?_
  refine jx_bipush (pc := 34) (v := (12 : Int32)) (by decide) dX6_burnsAt_34 ?_
  refine jx_icmp_le (pc := 36) (tgt := 44) dX6_burnsAt_36 (by decide) (fun c5 => ?_) (fun c5 => ?_)
  · have h := jx_t c5 h
    refine jx_iload_n (pc := 44) (k0 := 3) rfl dX6_burnsAt_44 ?_
    have h := Option.some.inj h
    subst h
    exact jx_iret (pc := 45) dX6_burnsAt_45
  · have h := jx_f c5 h
    refine jx_bipush (pc := 39) (v := (12 : Int32)) (by decide) dX6_burnsAt_39 ?_
    refine jx_goto (pc := 41) (tgt := 45) dX6_burnsAt_41 (by decide) ?_
    have h := Option.some.inj h
    subst h
    exact jx_iret (pc := 45) dX6_burnsAt_45
theorem dX6_minutes_0 : decode cX6_minutes 0 = .ok (.iload_n 1, 1) := by decide +kernel
theorem dX6_minutes_1 : decode cX6_minutes 1 = .ok (.iconst 0, 1) := by decide +kernel
theorem dX6_minutes_2 : decode cX6_minutes 2 = .ok (.bipush 60, 2) := by decide +kernel
theorem dX6_minutes_4 : decode cX6_minutes 4 = .ok (.invokestatic 48, 3) := by decide +kernel
theorem dX6_minutes_7 : decode cX6_minutes 7 = .ok (.ifCond .ne 6, 3) := by decide +kernel
theorem dX6_minutes_10 : decode cX6_minutes 10 = .ok (.bipush (-2), 2) := by decide +kernel
theorem dX6_minutes_12 : decode cX6_minutes 12 = .ok (.ireturn, 1) := by decide +kernel
theorem dX6_minutes_13 : decode cX6_minutes 13 = .ok (.aload_n 0, 1) := by decide +kernel
theorem dX6_minutes_14 : decode cX6_minutes 14 = .ok (.getfield 9, 3) := by decide +kernel
theorem dX6_minutes_17 : decode cX6_minutes 17 = .ok (.bipush 7, 2) := by decide +kernel
theorem dX6_minutes_19 : decode cX6_minutes 19 = .ok (.iaload, 1) := by decide +kernel
theorem dX6_minutes_20 : decode cX6_minutes 20 = .ok (.iload_n 1, 1) := by decide +kernel
theorem dX6_minutes_21 : decode cX6_minutes 21 = .ok (.iadd, 1) := by decide +kernel
theorem dX6_minutes_22 : decode cX6_minutes 22 = .ok (.sipush 9999, 3) := by decide +kernel
theorem dX6_minutes_25 : decode cX6_minutes 25 = .ok (.if_icmp .le 6, 3) := by decide +kernel
theorem dX6_minutes_28 : decode cX6_minutes 28 = .ok (.bipush (-3), 2) := by decide +kernel
theorem dX6_minutes_30 : decode cX6_minutes 30 = .ok (.ireturn, 1) := by decide +kernel
theorem dX6_minutes_31 : decode cX6_minutes 31 = .ok (.aload_n 0, 1) := by decide +kernel
theorem dX6_minutes_32 : decode cX6_minutes 32 = .ok (.getfield 9, 3) := by decide +kernel
theorem dX6_minutes_35 : decode cX6_minutes 35 = .ok (.bipush 7, 2) := by decide +kernel
theorem dX6_minutes_37 : decode cX6_minutes 37 = .ok (.dup2, 1) := by decide +kernel
theorem dX6_minutes_38 : decode cX6_minutes 38 = .ok (.iaload, 1) := by decide +kernel
theorem dX6_minutes_39 : decode cX6_minutes 39 = .ok (.iload_n 1, 1) := by decide +kernel
theorem dX6_minutes_40 : decode cX6_minutes 40 = .ok (.iadd, 1) := by decide +kernel
theorem dX6_minutes_41 : decode cX6_minutes 41 = .ok (.iastore, 1) := by decide +kernel
theorem dX6_minutes_42 : decode cX6_minutes 42 = .ok (.aload_n 0, 1) := by decide +kernel
theorem dX6_minutes_43 : decode cX6_minutes 43 = .ok (.getfield 9, 3) := by decide +kernel
theorem dX6_minutes_46 : decode cX6_minutes 46 = .ok (.bipush 7, 2) := by decide +kernel
theorem dX6_minutes_48 : decode cX6_minutes 48 = .ok (.iaload, 1) := by decide +kernel
theorem dX6_minutes_49 : decode cX6_minutes 49 = .ok (.ireturn, 1) := by decide +kernel
abbrev rm_X6_minutes : Room := { frames := 1, cells := 0, slots := 0, locals := 22 }
abbrev jJ_X6_minutes (l : Launch) (G : jx_G) (sz : Nat) (out : (Int32 × jx_M)) (pc : Nat) (lv : List (Nat × Value)) (st : List Value) (σ : jx_M) : Prop := jx_J l (mm_env G) (mm_dyn G) (mm_rg G) sz RX6 "minutes" cX6_minutes 2 (some .int) rm_X6_minutes (fun below args s => MQ below (jx_Qi (mm_dyn G) out.2 out.1 (jx_A (mm_rg G) sz)) args s 0 0 (jx_A (mm_rg G) sz)) 0 0 pc lv st σ
def f_X6_minutes (σ : jx_M) (a1 : Int32) : Option (Int32 × jx_M) :=
  jx_bd (f_X6_in a1 (0 : Int32) (60 : Int32)) (fun q1 => if q1 = 0 then some ((-2 : Int32), σ) else if ((σ 1 7) + a1) ≤ (9999 : Int32) then jx_lt (jx_mu σ 1 7 ((σ 1 7) + a1)) (fun σ4 => some ((σ4 1 7), σ4)) else some ((-3 : Int32), σ))
set_option maxHeartbeats 4000000 in
set_option maxRecDepth 100000 in
theorem k_X6_minutes (l : Launch) (G : jx_G) (hG : mm_ok G) (sz : Nat) (σ : jx_M) (a1 : Int32) (out : (Int32 × jx_M)) (h : f_X6_minutes σ a1 = some out) : Met l yX6_minutes (Cond.code yX6_minutes cX6_minutes 2 (some .int) :: jx_ws) rm_X6_minutes (jx_Pc (mm_env G) (mm_dyn G) (mm_rg G) sz σ [.ref (G.2 10), .int a1]) (jx_Qi (mm_dyn G) out.2 out.1 (jx_A (mm_rg G) sz)) 0 0 (jx_A (mm_rg G) sz) := by
  unfold f_X6_minutes at h
  refine jx_met (by decide) (Nat.le_of_ble_eq_true rfl) ?_
  refine jx_sub (lv' := [(0, .ref (G.2 10)), (1, .int a1)]) [0, 1] rfl ?_
  refine jx_iload_n (pc := 0) (k0 := 1) rfl dX6_minutes_0 ?_
  refine jx_iconst (pc := 1) (v := (0 : Int32)) (by decide) dX6_minutes_1 ?_
  refine jx_bipush (pc := 2) (v := (60 : Int32)) (by decide) dX6_minutes_2 ?_
  obtain ⟨q1, eq1, h⟩ := jx_bd_o h
  refine jx_callSi (pc := 4) [.int a1, .int (0 : Int32), .int (60 : Int32)] (fun sz' => k_X6_in l G hG sz' σ a1 (0 : Int32) (60 : Int32) q1 eq1) ks_X6_48 mm_jok rfl rfl (Nat.le_of_ble_eq_true rfl) ⟨⟨rfl, rfl⟩, ⟨Nat.le_of_ble_eq_true rfl, Nat.le_of_ble_eq_true rfl⟩, Nat.zero_le _, Nat.zero_le _⟩ dX6_minutes_4 ?_
  refine jx_if_ne (pc := 7) (tgt := 13) dX6_minutes_7 (by decide) (fun c2 => ?_) (fun c2 => ?_)
  · have h := jx_f c2 h
    refine jx_aload_n (pc := 13) (k0 := 0) rfl dX6_minutes_13 ?_
    refine mm_g_s (pc := 14) fl_X6_9 dX6_minutes_14 ?_
    refine jx_bipush (pc := 17) (v := (7 : Int32)) (by decide) dX6_minutes_17 ?_
    refine mm_l_s (pc := 19) (j := 7) (jx_in_o (by decide)) (by decide) dX6_minutes_19 ?_
    refine jx_iload_n (pc := 20) (k0 := 1) rfl dX6_minutes_20 ?_
    refine jx_iadd (pc := 21) dX6_minutes_21 ?_
    refine jx_sipush (pc := 22) (v := (9999 : Int32)) (by decide) dX6_minutes_22 ?_
    refine jx_icmp_le (pc := 25) (tgt := 31) dX6_minutes_25 (by decide) (fun c3 => ?_) (fun c3 => ?_)
    · have h := jx_t c3 h
      refine jx_aload_n (pc := 31) (k0 := 0) rfl dX6_minutes_31 ?_
      refine mm_g_s (pc := 32) fl_X6_9 dX6_minutes_32 ?_
      refine jx_bipush (pc := 35) (v := (7 : Int32)) (by decide) dX6_minutes_35 ?_
      refine jx_dup2 (pc := 37) rfl rfl dX6_minutes_37 ?_
      refine mm_l_s (pc := 38) (j := 7) (jx_in_o (by decide)) (by decide) dX6_minutes_38 ?_
      refine jx_iload_n (pc := 39) (k0 := 1) rfl dX6_minutes_39 ?_
      refine jx_iadd (pc := 40) dX6_minutes_40 ?_
      obtain ⟨σ4, eσ4, h⟩ := jx_lt_o h
      refine mm_s_s (pc := 41) hG (jx_in_o (by decide)) (by decide) eσ4 dX6_minutes_41 ?_
      refine jx_aload_n (pc := 42) (k0 := 0) rfl dX6_minutes_42 ?_
      refine mm_g_s (pc := 43) fl_X6_9 dX6_minutes_43 ?_
      refine jx_bipush (pc := 46) (v := (7 : Int32)) (by decide) dX6_minutes_46 ?_
      refine mm_l_s (pc := 48) (j := 7) (jx_in_o (by decide)) (by decide) dX6_minutes_48 ?_
      have h := Option.some.inj h
      subst h
      exact jx_iret (pc := 49) dX6_minutes_49
    · have h := jx_f c3 h
      refine jx_bipush (pc := 28) (v := (-3 : Int32)) (by decide) dX6_minutes_28 ?_
      have h := Option.some.inj h
      subst h
      exact jx_iret (pc := 30) dX6_minutes_30
  · have h := jx_t c2 h
    refine jx_bipush (pc := 10) (v := (-2 : Int32)) (by decide) dX6_minutes_10 ?_
    have h := Option.some.inj h
    subst h
    exact jx_iret (pc := 12) dX6_minutes_12
theorem dX6_mayor_0 : decode cX6_mayor 0 = .ok (.aload_n 0, 1) := by decide +kernel
theorem dX6_mayor_1 : decode cX6_mayor 1 = .ok (.iconst 0, 1) := by decide +kernel
theorem dX6_mayor_2 : decode cX6_mayor 2 = .ok (.invokevirtual 179, 3) := by decide +kernel
theorem dX6_mayor_5 : decode cX6_mayor 5 = .ok (.aload_n 0, 1) := by decide +kernel
theorem dX6_mayor_6 : decode cX6_mayor 6 = .ok (.iconst 1, 1) := by decide +kernel
theorem dX6_mayor_7 : decode cX6_mayor 7 = .ok (.invokevirtual 179, 3) := by decide +kernel
theorem dX6_mayor_10 : decode cX6_mayor 10 = .ok (.invokestatic 182, 3) := by decide +kernel
theorem dX6_mayor_13 : decode cX6_mayor 13 = .ok (.ireturn, 1) := by decide +kernel
abbrev rm_X6_mayor : Room := { frames := 1, cells := 0, slots := 0, locals := 23 }
abbrev jJ_X6_mayor (l : Launch) (G : jx_G) (sz : Nat) (σ0 : jx_M) (out : Int32) (pc : Nat) (lv : List (Nat × Value)) (st : List Value) (σ : jx_M) : Prop := jx_J l (mm_env G) (mm_dyn G) (mm_rg G) sz RX6 "mayor" cX6_mayor 1 (some .int) rm_X6_mayor (fun below args s => MQ below (jx_Qi (mm_dyn G) σ0 out (jx_A (mm_rg G) sz)) args s 0 0 (jx_A (mm_rg G) sz)) 0 0 pc lv st σ
def f_X6_mayor (σ : jx_M)  : Option Int32 :=
  jx_bd (f_X6_votesFor σ (0 : Int32)) (fun q1 => jx_bd (f_X6_votesFor σ (1 : Int32)) (fun q2 => jx_bd (f_X6_greater q1 q2) (fun q3 => some q3)))
set_option maxHeartbeats 4000000 in
set_option maxRecDepth 100000 in
theorem k_X6_mayor (l : Launch) (G : jx_G) (hG : mm_ok G) (sz : Nat) (σ : jx_M)  (out : Int32) (h : f_X6_mayor σ = some out) : Met l yX6_mayor (Cond.code yX6_mayor cX6_mayor 1 (some .int) :: jx_ws) rm_X6_mayor (jx_Pc (mm_env G) (mm_dyn G) (mm_rg G) sz σ [.ref (G.2 10)]) (jx_Qi (mm_dyn G) σ out (jx_A (mm_rg G) sz)) 0 0 (jx_A (mm_rg G) sz) := by
  unfold f_X6_mayor at h
  refine jx_met (by decide) (Nat.le_of_ble_eq_true rfl) ?_
  refine jx_sub (lv' := [(0, .ref (G.2 10))]) [0] rfl ?_
  refine jx_aload_n (pc := 0) (k0 := 0) rfl dX6_mayor_0 ?_
  refine jx_iconst (pc := 1) (v := (0 : Int32)) (by decide) dX6_mayor_1 ?_
  obtain ⟨q1, eq1, h⟩ := jx_bd_o h
  refine jx_callVi (pc := 2) [.int (0 : Int32)] (fun sz' => k_X6_votesFor l G hG sz' σ (0 : Int32) q1 eq1) kv_X6_179 mm_jok mm_rc rfl rfl (Nat.le_of_ble_eq_true rfl) ⟨⟨rfl, rfl⟩, ⟨Nat.le_of_ble_eq_true rfl, Nat.le_of_ble_eq_true rfl⟩, Nat.zero_le _, Nat.zero_le _⟩ dX6_mayor_2 ?_
  refine jx_aload_n (pc := 5) (k0 := 0) rfl dX6_mayor_5 ?_
  refine jx_iconst (pc := 6) (v := (1 : Int32)) (by decide) dX6_mayor_6 ?_
  obtain ⟨q2, eq2, h⟩ := jx_bd_o h
  refine jx_callVi (pc := 7) [.int (1 : Int32)] (fun sz' => k_X6_votesFor l G hG sz' σ (1 : Int32) q2 eq2) kv_X6_179 mm_jok mm_rc rfl rfl (Nat.le_of_ble_eq_true rfl) ⟨⟨rfl, rfl⟩, ⟨Nat.le_of_ble_eq_true rfl, Nat.le_of_ble_eq_true rfl⟩, Nat.zero_le _, Nat.zero_le _⟩ dX6_mayor_7 ?_
  obtain ⟨q3, eq3, h⟩ := jx_bd_o h
  refine jx_callSi (pc := 10) [.int q1, .int q2] (fun sz' => k_X6_greater l G hG sz' σ q1 q2 q3 eq3) ks_X6_182 mm_jok rfl rfl (Nat.le_of_ble_eq_true rfl) ⟨⟨rfl, rfl⟩, ⟨Nat.le_of_ble_eq_true rfl, Nat.le_of_ble_eq_true rfl⟩, Nat.zero_le _, Nat.zero_le _⟩ dX6_mayor_10 ?_
  have h := Option.some.inj h
  subst h
  exact jx_iret (pc := 13) dX6_mayor_13
theorem dX6_moreOf_0 : decode cX6_moreOf 0 = .ok (.aload_n 0, 1) := by decide +kernel
theorem dX6_moreOf_1 : decode cX6_moreOf 1 = .ok (.aload_n 0, 1) := by decide +kernel
theorem dX6_moreOf_2 : decode cX6_moreOf 2 = .ok (.getfield 9, 3) := by decide +kernel
theorem dX6_moreOf_5 : decode cX6_moreOf 5 = .ok (.bipush 49, 2) := by decide +kernel
theorem dX6_moreOf_7 : decode cX6_moreOf 7 = .ok (.iload_n 1, 1) := by decide +kernel
theorem dX6_moreOf_8 : decode cX6_moreOf 8 = .ok (.iadd, 1) := by decide +kernel
theorem dX6_moreOf_9 : decode cX6_moreOf 9 = .ok (.iaload, 1) := by decide +kernel
theorem dX6_moreOf_10 : decode cX6_moreOf 10 = .ok (.invokevirtual 179, 3) := by decide +kernel
theorem dX6_moreOf_13 : decode cX6_moreOf 13 = .ok (.aload_n 0, 1) := by decide +kernel
theorem dX6_moreOf_14 : decode cX6_moreOf 14 = .ok (.iconst 1, 1) := by decide +kernel
theorem dX6_moreOf_15 : decode cX6_moreOf 15 = .ok (.aload_n 0, 1) := by decide +kernel
theorem dX6_moreOf_16 : decode cX6_moreOf 16 = .ok (.getfield 9, 3) := by decide +kernel
theorem dX6_moreOf_19 : decode cX6_moreOf 19 = .ok (.bipush 49, 2) := by decide +kernel
theorem dX6_moreOf_21 : decode cX6_moreOf 21 = .ok (.iload_n 1, 1) := by decide +kernel
theorem dX6_moreOf_22 : decode cX6_moreOf 22 = .ok (.iadd, 1) := by decide +kernel
theorem dX6_moreOf_23 : decode cX6_moreOf 23 = .ok (.iaload, 1) := by decide +kernel
theorem dX6_moreOf_24 : decode cX6_moreOf 24 = .ok (.isub, 1) := by decide +kernel
theorem dX6_moreOf_25 : decode cX6_moreOf 25 = .ok (.invokevirtual 179, 3) := by decide +kernel
theorem dX6_moreOf_28 : decode cX6_moreOf 28 = .ok (.isub, 1) := by decide +kernel
theorem dX6_moreOf_29 : decode cX6_moreOf 29 = .ok (.ireturn, 1) := by decide +kernel
abbrev rm_X6_moreOf : Room := { frames := 1, cells := 0, slots := 0, locals := 23 }
abbrev jJ_X6_moreOf (l : Launch) (G : jx_G) (sz : Nat) (σ0 : jx_M) (out : Int32) (pc : Nat) (lv : List (Nat × Value)) (st : List Value) (σ : jx_M) : Prop := jx_J l (mm_env G) (mm_dyn G) (mm_rg G) sz RX6 "moreOf" cX6_moreOf 2 (some .int) rm_X6_moreOf (fun below args s => MQ below (jx_Qi (mm_dyn G) σ0 out (jx_A (mm_rg G) sz)) args s 0 0 (jx_A (mm_rg G) sz)) 0 0 pc lv st σ
def f_X6_moreOf (σ : jx_M) (a1 : Int32) : Option Int32 :=
  jx_gd (jx_in ((49 : Int32) + a1) 920) (jx_bd (f_X6_votesFor σ (σ 1 ((49 : Int32) + a1).toNatClampNeg)) (fun q2 => jx_gd (jx_in ((49 : Int32) + a1) 920) (jx_bd (f_X6_votesFor σ ((1 : Int32) - (σ 1 ((49 : Int32) + a1).toNatClampNeg))) (fun q4 => some (q2 - q4)))))
set_option maxHeartbeats 4000000 in
set_option maxRecDepth 100000 in
theorem k_X6_moreOf (l : Launch) (G : jx_G) (hG : mm_ok G) (sz : Nat) (σ : jx_M) (a1 : Int32) (out : Int32) (h : f_X6_moreOf σ a1 = some out) : Met l yX6_moreOf (Cond.code yX6_moreOf cX6_moreOf 2 (some .int) :: jx_ws) rm_X6_moreOf (jx_Pc (mm_env G) (mm_dyn G) (mm_rg G) sz σ [.ref (G.2 10), .int a1]) (jx_Qi (mm_dyn G) σ out (jx_A (mm_rg G) sz)) 0 0 (jx_A (mm_rg G) sz) := by
  unfold f_X6_moreOf at h
  refine jx_met (by decide) (Nat.le_of_ble_eq_true rfl) ?_
  refine jx_sub (lv' := [(0, .ref (G.2 10)), (1, .int a1)]) [0, 1] rfl ?_
  refine jx_aload_n (pc := 0) (k0 := 0) rfl dX6_moreOf_0 ?_
  refine jx_aload_n (pc := 1) (k0 := 0) rfl dX6_moreOf_1 ?_
  refine mm_g_s (pc := 2) fl_X6_9 dX6_moreOf_2 ?_
  refine jx_bipush (pc := 5) (v := (49 : Int32)) (by decide) dX6_moreOf_5 ?_
  refine jx_iload_n (pc := 7) (k0 := 1) rfl dX6_moreOf_7 ?_
  refine jx_iadd (pc := 8) dX6_moreOf_8 ?_
  obtain ⟨g1, h⟩ := jx_gd_o h
  refine mm_l_s (pc := 9) (jx_in_o g1) rfl dX6_moreOf_9 ?_
  obtain ⟨q2, eq2, h⟩ := jx_bd_o h
  refine jx_callVi (pc := 10) [.int (σ 1 ((49 : Int32) + a1).toNatClampNeg)] (fun sz' => k_X6_votesFor l G hG sz' σ (σ 1 ((49 : Int32) + a1).toNatClampNeg) q2 eq2) kv_X6_179 mm_jok mm_rc rfl rfl (Nat.le_of_ble_eq_true rfl) ⟨⟨rfl, rfl⟩, ⟨Nat.le_of_ble_eq_true rfl, Nat.le_of_ble_eq_true rfl⟩, Nat.zero_le _, Nat.zero_le _⟩ dX6_moreOf_10 ?_
  refine jx_aload_n (pc := 13) (k0 := 0) rfl dX6_moreOf_13 ?_
  refine jx_iconst (pc := 14) (v := (1 : Int32)) (by decide) dX6_moreOf_14 ?_
  refine jx_aload_n (pc := 15) (k0 := 0) rfl dX6_moreOf_15 ?_
  refine mm_g_s (pc := 16) fl_X6_9 dX6_moreOf_16 ?_
  refine jx_bipush (pc := 19) (v := (49 : Int32)) (by decide) dX6_moreOf_19 ?_
  refine jx_iload_n (pc := 21) (k0 := 1) rfl dX6_moreOf_21 ?_
  refine jx_iadd (pc := 22) dX6_moreOf_22 ?_
  obtain ⟨g3, h⟩ := jx_gd_o h
  refine mm_l_s (pc := 23) (jx_in_o g3) rfl dX6_moreOf_23 ?_
  refine jx_isub (pc := 24) dX6_moreOf_24 ?_
  obtain ⟨q4, eq4, h⟩ := jx_bd_o h
  refine jx_callVi (pc := 25) [.int ((1 : Int32) - (σ 1 ((49 : Int32) + a1).toNatClampNeg))] (fun sz' => k_X6_votesFor l G hG sz' σ ((1 : Int32) - (σ 1 ((49 : Int32) + a1).toNatClampNeg)) q4 eq4) kv_X6_179 mm_jok mm_rc rfl rfl (Nat.le_of_ble_eq_true rfl) ⟨⟨rfl, rfl⟩, ⟨Nat.le_of_ble_eq_true rfl, Nat.le_of_ble_eq_true rfl⟩, Nat.zero_le _, Nat.zero_le _⟩ dX6_moreOf_25 ?_
  refine jx_isub (pc := 28) dX6_moreOf_28 ?_
  have h := Option.some.inj h
  subst h
  exact jx_iret (pc := 29) dX6_moreOf_29
theorem dX6_plainSets_0 : decode cX6_plainSets 0 = .ok (.aload_n 0, 1) := by decide +kernel
theorem dX6_plainSets_1 : decode cX6_plainSets 1 = .ok (.iconst 1, 1) := by decide +kernel
theorem dX6_plainSets_2 : decode cX6_plainSets 2 = .ok (.invokevirtual 230, 3) := by decide +kernel
theorem dX6_plainSets_5 : decode cX6_plainSets 5 = .ok (.iload_n 1, 1) := by decide +kernel
theorem dX6_plainSets_6 : decode cX6_plainSets 6 = .ok (.aload_n 0, 1) := by decide +kernel
theorem dX6_plainSets_7 : decode cX6_plainSets 7 = .ok (.getfield 233, 3) := by decide +kernel
theorem dX6_plainSets_10 : decode cX6_plainSets 10 = .ok (.iadd, 1) := by decide +kernel
theorem dX6_plainSets_11 : decode cX6_plainSets 11 = .ok (.ireturn, 1) := by decide +kernel
abbrev rm_X6_plainSets : Room := { frames := 1, cells := 0, slots := 0, locals := 21 }
abbrev jJ_X6_plainSets (l : Launch) (G : jx_G) (sz : Nat) (out : (Int32 × jx_M)) (pc : Nat) (lv : List (Nat × Value)) (st : List Value) (σ : jx_M) : Prop := jx_J l (mm_env G) (mm_dyn G) (mm_rg G) sz RX6 "plainSets" cX6_plainSets 2 (some .int) rm_X6_plainSets (fun below args s => MQ below (jx_Qi (mm_dyn G) out.2 out.1 (jx_A (mm_rg G) sz)) args s 0 0 (jx_A (mm_rg G) sz)) 0 0 pc lv st σ
def f_X6_plainSets (σ : jx_M) (a1 : Int32) : Option (Int32 × jx_M) :=
  jx_bd (f_X6_ranBody σ (1 : Int32)) (fun q1 => some ((a1 + (q1 0 24)), q1))
set_option maxHeartbeats 4000000 in
set_option maxRecDepth 100000 in
theorem k_X6_plainSets (l : Launch) (G : jx_G) (hG : mm_ok G) (sz : Nat) (σ : jx_M) (a1 : Int32) (out : (Int32 × jx_M)) (h : f_X6_plainSets σ a1 = some out) : Met l yX6_plainSets (Cond.code yX6_plainSets cX6_plainSets 2 (some .int) :: jx_ws) rm_X6_plainSets (jx_Pc (mm_env G) (mm_dyn G) (mm_rg G) sz σ [.ref (G.2 10), .int a1]) (jx_Qi (mm_dyn G) out.2 out.1 (jx_A (mm_rg G) sz)) 0 0 (jx_A (mm_rg G) sz) := by
  unfold f_X6_plainSets at h
  refine jx_met (by decide) (Nat.le_of_ble_eq_true rfl) ?_
  refine jx_sub (lv' := [(0, .ref (G.2 10)), (1, .int a1)]) [0, 1] rfl ?_
  refine jx_aload_n (pc := 0) (k0 := 0) rfl dX6_plainSets_0 ?_
  refine jx_iconst (pc := 1) (v := (1 : Int32)) (by decide) dX6_plainSets_1 ?_
  obtain ⟨q1, eq1, h⟩ := jx_bd_o h
  refine jx_callVv (pc := 2) [.int (1 : Int32)] (fun sz' => k_X6_ranBody l G hG sz' σ (1 : Int32) q1 eq1) kv_X6_230 mm_jok mm_rc rfl rfl (Nat.le_of_ble_eq_true rfl) ⟨⟨rfl, rfl⟩, ⟨Nat.le_of_ble_eq_true rfl, Nat.le_of_ble_eq_true rfl⟩, Nat.zero_le _, Nat.zero_le _⟩ dX6_plainSets_2 ?_
  refine jx_iload_n (pc := 5) (k0 := 1) rfl dX6_plainSets_5 ?_
  refine jx_aload_n (pc := 6) (k0 := 0) rfl dX6_plainSets_6 ?_
  refine mm_g_number (pc := 7) fl_X6_233 dX6_plainSets_7 ?_
  refine jx_iadd (pc := 10) dX6_plainSets_10 ?_
  have h := Option.some.inj h
  subst h
  exact jx_iret (pc := 11) dX6_plainSets_11
theorem dX6_trace_0 : decode cX6_trace 0 = .ok (.iload_n 1, 1) := by decide +kernel
theorem dX6_trace_1 : decode cX6_trace 1 = .ok (.iconst 0, 1) := by decide +kernel
theorem dX6_trace_2 : decode cX6_trace 2 = .ok (.aload_n 0, 1) := by decide +kernel
theorem dX6_trace_3 : decode cX6_trace 3 = .ok (.getfield 227, 3) := by decide +kernel
theorem dX6_trace_6 : decode cX6_trace 6 = .ok (.bipush 20, 2) := by decide +kernel
theorem dX6_trace_8 : decode cX6_trace 8 = .ok (.if_icmp .ge 10, 3) := by decide +kernel
theorem dX6_trace_11 : decode cX6_trace 11 = .ok (.aload_n 0, 1) := by decide +kernel
theorem dX6_trace_12 : decode cX6_trace 12 = .ok (.getfield 227, 3) := by decide +kernel
theorem dX6_trace_15 : decode cX6_trace 15 = .ok (.goto 5, 3) := by decide +kernel
theorem dX6_trace_18 : decode cX6_trace 18 = .ok (.bipush 20, 2) := by decide +kernel
theorem dX6_trace_20 : decode cX6_trace 20 = .ok (.iconst 1, 1) := by decide +kernel
theorem dX6_trace_21 : decode cX6_trace 21 = .ok (.isub, 1) := by decide +kernel
theorem dX6_trace_22 : decode cX6_trace 22 = .ok (.invokestatic 48, 3) := by decide +kernel
theorem dX6_trace_25 : decode cX6_trace 25 = .ok (.ifCond .eq 12, 3) := by decide +kernel
theorem dX6_trace_28 : decode cX6_trace 28 = .ok (.aload_n 0, 1) := by decide +kernel
theorem dX6_trace_29 : decode cX6_trace 29 = .ok (.getfield 37, 3) := by decide +kernel
theorem dX6_trace_32 : decode cX6_trace 32 = .ok (.iload_n 1, 1) := by decide +kernel
theorem dX6_trace_33 : decode cX6_trace 33 = .ok (.iaload, 1) := by decide +kernel
theorem dX6_trace_34 : decode cX6_trace 34 = .ok (.goto 4, 3) := by decide +kernel
theorem dX6_trace_37 : decode cX6_trace 37 = .ok (.iconst (-1), 1) := by decide +kernel
theorem dX6_trace_38 : decode cX6_trace 38 = .ok (.ireturn, 1) := by decide +kernel
abbrev rm_X6_trace : Room := { frames := 1, cells := 0, slots := 0, locals := 22 }
abbrev jJ_X6_trace (l : Launch) (G : jx_G) (sz : Nat) (σ0 : jx_M) (out : Int32) (pc : Nat) (lv : List (Nat × Value)) (st : List Value) (σ : jx_M) : Prop := jx_J l (mm_env G) (mm_dyn G) (mm_rg G) sz RX6 "trace" cX6_trace 2 (some .int) rm_X6_trace (fun below args s => MQ below (jx_Qi (mm_dyn G) σ0 out (jx_A (mm_rg G) sz)) args s 0 0 (jx_A (mm_rg G) sz)) 0 0 pc lv st σ
def b_X6_trace_20  (σ : jx_M) (v1 : Int32) (s0 : Int32) (s1 : Int32) (s2 : Int32) : Option Int32 :=
  jx_bd (f_X6_in s2 s1 (s0 - (1 : Int32))) (fun q1 => if q1 = 0 then some (-1 : Int32) else jx_gd (jx_in v1 20) (some (σ 9 v1.toNatClampNeg)))
set_option maxHeartbeats 4000000 in
set_option maxRecDepth 100000 in
theorem jb_X6_trace_20 (l : Launch) (G : jx_G) (hG : mm_ok G) (sz : Nat) (σ0 : jx_M) (out : Int32)  (σ : jx_M) (v1 : Int32) (s0 : Int32) (s1 : Int32) (s2 : Int32) (e0 : σ = σ0) (h : b_X6_trace_20 σ v1 s0 s1 s2 = some out) : jJ_X6_trace l G sz σ0 out 20 [(0, .ref (G.2 10)), (1, .int v1)] [.int s0, .int s1, .int s2] σ := by
  unfold b_X6_trace_20 at h
  refine jx_iconst (pc := 20) (v := (1 : Int32)) (by decide) dX6_trace_20 ?_
  refine jx_isub (pc := 21) dX6_trace_21 ?_
  obtain ⟨q1, eq1, h⟩ := jx_bd_o h
  refine jx_callSi (pc := 22) [.int s2, .int s1, .int (s0 - (1 : Int32))] (fun sz' => k_X6_in l G hG sz' σ s2 s1 (s0 - (1 : Int32)) q1 eq1) ks_X6_48 mm_jok rfl rfl (Nat.le_of_ble_eq_true rfl) ⟨⟨rfl, rfl⟩, ⟨Nat.le_of_ble_eq_true rfl, Nat.le_of_ble_eq_true rfl⟩, Nat.zero_le _, Nat.zero_le _⟩ dX6_trace_22 ?_
  refine jx_if_eq (pc := 25) (tgt := 37) dX6_trace_25 (by decide) (fun c2 => ?_) (fun c2 => ?_)
  · have h := jx_t c2 h
    refine jx_iconst (pc := 37) (v := (-1 : Int32)) (by decide) dX6_trace_37 ?_
    subst e0
    have h := Option.some.inj h
    subst h
    exact jx_iret (pc := 38) dX6_trace_38
  · have h := jx_f c2 h
    refine jx_aload_n (pc := 28) (k0 := 0) rfl dX6_trace_28 ?_
    refine mm_g_bodies (pc := 29) fl_X6_37 dX6_trace_29 ?_
    refine jx_iload_n (pc := 32) (k0 := 1) rfl dX6_trace_32 ?_
    obtain ⟨g3, h⟩ := jx_gd_o h
    refine mm_l_bodies (pc := 33) (jx_in_o g3) rfl dX6_trace_33 ?_
    refine jx_goto (pc := 34) (tgt := 38) dX6_trace_34 (by decide) ?_
    subst e0
    have h := Option.some.inj h
    subst h
    exact jx_iret (pc := 38) dX6_trace_38
def f_X6_trace (σ : jx_M) (a1 : Int32) : Option Int32 :=
  if (20 : Int32) ≤ (σ 0 22) then (b_X6_trace_20 σ a1 (20 : Int32) (0 : Int32) a1) else (b_X6_trace_20 σ a1 (σ 0 22) (0 : Int32) a1)
set_option maxHeartbeats 4000000 in
set_option maxRecDepth 100000 in
theorem k_X6_trace (l : Launch) (G : jx_G) (hG : mm_ok G) (sz : Nat) (σ : jx_M) (a1 : Int32) (out : Int32) (h : f_X6_trace σ a1 = some out) : Met l yX6_trace (Cond.code yX6_trace cX6_trace 2 (some .int) :: jx_ws) rm_X6_trace (jx_Pc (mm_env G) (mm_dyn G) (mm_rg G) sz σ [.ref (G.2 10), .int a1]) (jx_Qi (mm_dyn G) σ out (jx_A (mm_rg G) sz)) 0 0 (jx_A (mm_rg G) sz) := by
  unfold f_X6_trace at h
  refine jx_met (by decide) (Nat.le_of_ble_eq_true rfl) ?_
  refine jx_sub (lv' := [(0, .ref (G.2 10)), (1, .int a1)]) [0, 1] rfl ?_
  refine jx_iload_n (pc := 0) (k0 := 1) rfl dX6_trace_0 ?_
  refine jx_iconst (pc := 1) (v := (0 : Int32)) (by decide) dX6_trace_1 ?_
  refine jx_aload_n (pc := 2) (k0 := 0) rfl dX6_trace_2 ?_
  refine mm_g_ran (pc := 3) fl_X6_227 dX6_trace_3 ?_
  refine jx_bipush (pc := 6) (v := (20 : Int32)) (by decide) dX6_trace_6 ?_
  refine jx_icmp_ge (pc := 8) (tgt := 18) dX6_trace_8 (by decide) (fun c1 => ?_) (fun c1 => ?_)
  · have h := jx_t c1 h
    refine jx_bipush (pc := 18) (v := (20 : Int32)) (by decide) dX6_trace_18 ?_
    exact jx_sub [0, 1] rfl (jb_X6_trace_20 l G hG sz σ out σ a1 (20 : Int32) (0 : Int32) a1 rfl h)
  · have h := jx_f c1 h
    refine jx_aload_n (pc := 11) (k0 := 0) rfl dX6_trace_11 ?_
    refine mm_g_ran (pc := 12) fl_X6_227 dX6_trace_12 ?_
    refine jx_goto (pc := 15) (tgt := 20) dX6_trace_15 (by decide) ?_
    exact jx_sub [0, 1] rfl (jb_X6_trace_20 l G hG sz σ out σ a1 (σ 0 22) (0 : Int32) a1 rfl h)
theorem dX6_count_0 : decode cX6_count 0 = .ok (.iload_n 1, 1) := by decide +kernel
theorem dX6_count_1 : decode cX6_count 1 = .ok (.iconst 5, 1) := by decide +kernel
theorem dX6_count_2 : decode cX6_count 2 = .ok (.if_icmp .ne 10, 3) := by decide +kernel
theorem dX6_count_5 : decode cX6_count 5 = .ok (.aload_n 0, 1) := by decide +kernel
theorem dX6_count_6 : decode cX6_count 6 = .ok (.getfield 227, 3) := by decide +kernel
theorem dX6_count_9 : decode cX6_count 9 = .ok (.goto 22, 3) := by decide +kernel
theorem dX6_count_12 : decode cX6_count 12 = .ok (.iload_n 1, 1) := by decide +kernel
theorem dX6_count_13 : decode cX6_count 13 = .ok (.iconst 0, 1) := by decide +kernel
theorem dX6_count_14 : decode cX6_count 14 = .ok (.iconst 4, 1) := by decide +kernel
theorem dX6_count_15 : decode cX6_count 15 = .ok (.invokestatic 48, 3) := by decide +kernel
theorem dX6_count_18 : decode cX6_count 18 = .ok (.ifCond .eq 12, 3) := by decide +kernel
theorem dX6_count_21 : decode cX6_count 21 = .ok (.aload_n 0, 1) := by decide +kernel
theorem dX6_count_22 : decode cX6_count 22 = .ok (.getfield 9, 3) := by decide +kernel
theorem dX6_count_25 : decode cX6_count 25 = .ok (.iload_n 1, 1) := by decide +kernel
theorem dX6_count_26 : decode cX6_count 26 = .ok (.iaload, 1) := by decide +kernel
theorem dX6_count_27 : decode cX6_count 27 = .ok (.goto 4, 3) := by decide +kernel
theorem dX6_count_30 : decode cX6_count 30 = .ok (.iconst (-1), 1) := by decide +kernel
theorem dX6_count_31 : decode cX6_count 31 = .ok (.ireturn, 1) := by decide +kernel
abbrev rm_X6_count : Room := { frames := 1, cells := 0, slots := 0, locals := 22 }
abbrev jJ_X6_count (l : Launch) (G : jx_G) (sz : Nat) (σ0 : jx_M) (out : Int32) (pc : Nat) (lv : List (Nat × Value)) (st : List Value) (σ : jx_M) : Prop := jx_J l (mm_env G) (mm_dyn G) (mm_rg G) sz RX6 "count" cX6_count 2 (some .int) rm_X6_count (fun below args s => MQ below (jx_Qi (mm_dyn G) σ0 out (jx_A (mm_rg G) sz)) args s 0 0 (jx_A (mm_rg G) sz)) 0 0 pc lv st σ
def f_X6_count (σ : jx_M) (a1 : Int32) : Option Int32 :=
  if a1 = (5 : Int32) then some (σ 0 22) else jx_bd (f_X6_in a1 (0 : Int32) (4 : Int32)) (fun q2 => if q2 = 0 then some (-1 : Int32) else jx_gd (jx_in a1 920) (some (σ 1 a1.toNatClampNeg)))
set_option maxHeartbeats 4000000 in
set_option maxRecDepth 100000 in
theorem k_X6_count (l : Launch) (G : jx_G) (hG : mm_ok G) (sz : Nat) (σ : jx_M) (a1 : Int32) (out : Int32) (h : f_X6_count σ a1 = some out) : Met l yX6_count (Cond.code yX6_count cX6_count 2 (some .int) :: jx_ws) rm_X6_count (jx_Pc (mm_env G) (mm_dyn G) (mm_rg G) sz σ [.ref (G.2 10), .int a1]) (jx_Qi (mm_dyn G) σ out (jx_A (mm_rg G) sz)) 0 0 (jx_A (mm_rg G) sz) := by
  unfold f_X6_count at h
  refine jx_met (by decide) (Nat.le_of_ble_eq_true rfl) ?_
  refine jx_sub (lv' := [(0, .ref (G.2 10)), (1, .int a1)]) [0, 1] rfl ?_
  refine jx_iload_n (pc := 0) (k0 := 1) rfl dX6_count_0 ?_
  refine jx_iconst (pc := 1) (v := (5 : Int32)) (by decide) dX6_count_1 ?_
  refine jx_icmp_ne (pc := 2) (tgt := 12) dX6_count_2 (by decide) (fun c1 => ?_) (fun c1 => ?_)
  · have h := jx_f c1 h
    refine jx_iload_n (pc := 12) (k0 := 1) rfl dX6_count_12 ?_
    refine jx_iconst (pc := 13) (v := (0 : Int32)) (by decide) dX6_count_13 ?_
    refine jx_iconst (pc := 14) (v := (4 : Int32)) (by decide) dX6_count_14 ?_
    obtain ⟨q2, eq2, h⟩ := jx_bd_o h
    refine jx_callSi (pc := 15) [.int a1, .int (0 : Int32), .int (4 : Int32)] (fun sz' => k_X6_in l G hG sz' σ a1 (0 : Int32) (4 : Int32) q2 eq2) ks_X6_48 mm_jok rfl rfl (Nat.le_of_ble_eq_true rfl) ⟨⟨rfl, rfl⟩, ⟨Nat.le_of_ble_eq_true rfl, Nat.le_of_ble_eq_true rfl⟩, Nat.zero_le _, Nat.zero_le _⟩ dX6_count_15 ?_
    refine jx_if_eq (pc := 18) (tgt := 30) dX6_count_18 (by decide) (fun c3 => ?_) (fun c3 => ?_)
    · have h := jx_t c3 h
      refine jx_iconst (pc := 30) (v := (-1 : Int32)) (by decide) dX6_count_30 ?_
      have h := Option.some.inj h
      subst h
      exact jx_iret (pc := 31) dX6_count_31
    · have h := jx_f c3 h
      refine jx_aload_n (pc := 21) (k0 := 0) rfl dX6_count_21 ?_
      refine mm_g_s (pc := 22) fl_X6_9 dX6_count_22 ?_
      refine jx_iload_n (pc := 25) (k0 := 1) rfl dX6_count_25 ?_
      obtain ⟨g4, h⟩ := jx_gd_o h
      refine mm_l_s (pc := 26) (jx_in_o g4) rfl dX6_count_26 ?_
      refine jx_goto (pc := 27) (tgt := 31) dX6_count_27 (by decide) ?_
      have h := Option.some.inj h
      subst h
      exact jx_iret (pc := 31) dX6_count_31
  · have h := jx_t c1 h
    refine jx_aload_n (pc := 5) (k0 := 0) rfl dX6_count_5 ?_
    refine mm_g_ran (pc := 6) fl_X6_227 dX6_count_6 ?_
    refine jx_goto (pc := 9) (tgt := 31) dX6_count_9 (by decide) ?_
    have h := Option.some.inj h
    subst h
    exact jx_iret (pc := 31) dX6_count_31
theorem dX6_spells_0 : decode cX6_spells 0 = .ok (.iconst 0, 1) := by decide +kernel
theorem dX6_spells_1 : decode cX6_spells 1 = .ok (.istore_n 2, 1) := by decide +kernel
theorem dX6_spells_2 : decode cX6_spells 2 = .ok (.iload_n 2, 1) := by decide +kernel
theorem dX6_spells_3 : decode cX6_spells 3 = .ok (.aload_n 1, 1) := by decide +kernel
theorem dX6_spells_4 : decode cX6_spells 4 = .ok (.invokevirtual 66, 3) := by decide +kernel
theorem dX6_spells_7 : decode cX6_spells 7 = .ok (.if_icmp .ge 18, 3) := by decide +kernel
theorem dX6_spells_10 : decode cX6_spells 10 = .ok (.aload_n 0, 1) := by decide +kernel
theorem dX6_spells_11 : decode cX6_spells 11 = .ok (.aload_n 1, 1) := by decide +kernel
theorem dX6_spells_12 : decode cX6_spells 12 = .ok (.iload_n 2, 1) := by decide +kernel
theorem dX6_spells_13 : decode cX6_spells 13 = .ok (.invokevirtual 71, 3) := by decide +kernel
theorem dX6_spells_16 : decode cX6_spells 16 = .ok (.invokevirtual 75, 3) := by decide +kernel
theorem dX6_spells_19 : decode cX6_spells 19 = .ok (.iinc 2 1, 3) := by decide +kernel
theorem dX6_spells_22 : decode cX6_spells 22 = .ok (.goto (-20), 3) := by decide +kernel
theorem dX6_spells_25 : decode cX6_spells 25 = .ok (.return_, 1) := by decide +kernel
abbrev rm_X6_spells : Room := { frames := 4, cells := 0, slots := 0, locals := 85 }
abbrev jJ_X6_spells (l : Launch) (G : jx_G) (sz : Nat) (out : jx_M) (pc : Nat) (lv : List (Nat × Value)) (st : List Value) (σ : jx_M) : Prop := jx_J l (mm_env G) (mm_dyn G) (mm_rg G) sz RX6 "spells" cX6_spells 3 none rm_X6_spells (fun below args s => MQ below (jx_Qv (mm_dyn G) out (jx_A (mm_rg G) sz)) args s 0 0 (jx_A (mm_rg G) sz)) 0 0 pc lv st σ
def g_X6_spells_2 (k2 : jx_M → Nat → Int32 → Option jx_M) (σ : jx_M) (v1 : Nat) (v2 : Int32) : Option jx_M :=
  jx_bd (f_J0_length_8abf5 v1) (fun q1 => jx_gd (decide (v1 < 7)) (if q1 ≤ v2 then some σ else jx_bd (f_J0_charAt_5068e v1 v2) (fun q4 => jx_gd (decide (v1 < 7)) (jx_bd (f_X6_must σ q4) (fun q6 => jx_lt (v2 + (1 : Int32)) (fun x7 => (k2 q6 v1 x7)))))))
set_option maxHeartbeats 4000000 in
set_option maxRecDepth 100000 in
theorem jg_X6_spells_2 (l : Launch) (G : jx_G) (hG : mm_ok G) (sz : Nat) (out : jx_M) (k2 : jx_M → Nat → Int32 → Option jx_M) (h2 : ∀ (σ : jx_M) (v1 : Nat) (v2 : Int32), k2 σ v1 v2 = some out → jJ_X6_spells l G sz out 2 [(0, .ref (G.2 10)), (1, .ref (G.2 (1000 + v1))), (2, .int v2)] [] σ) (σ : jx_M) (v1 : Nat) (v2 : Int32) (h : g_X6_spells_2 k2 σ v1 v2 = some out) : jJ_X6_spells l G sz out 2 [(0, .ref (G.2 10)), (1, .ref (G.2 (1000 + v1))), (2, .int v2)] [] σ := by
  unfold g_X6_spells_2 at h
  refine jx_iload_n (pc := 2) (k0 := 2) rfl dX6_spells_2 ?_
  refine jx_aload_n (pc := 3) (k0 := 1) rfl dX6_spells_3 ?_
  obtain ⟨q1, eq1, h⟩ := jx_bd_o h
  obtain ⟨g2, h⟩ := jx_gd_o h
  refine jx_callVi (pc := 4) [] (fun sz' => k_J0_length_8abf5 l (mm_env G) (mm_dyn G) (mm_rg G) G mm_jok mm_hex sz' σ v1 q1 eq1) kv_X6_66 mm_jok (st_rc mm_hex (i := v1) (of_decide_eq_true g2)) rfl rfl (Nat.le_of_ble_eq_true rfl) ⟨⟨rfl, rfl⟩, ⟨Nat.le_of_ble_eq_true rfl, Nat.le_of_ble_eq_true rfl⟩, Nat.zero_le _, Nat.zero_le _⟩ dX6_spells_4 ?_
  refine jx_icmp_ge (pc := 7) (tgt := 25) dX6_spells_7 (by decide) (fun c3 => ?_) (fun c3 => ?_)
  · have h := jx_t c3 h
    have h := Option.some.inj h
    subst h
    exact jx_vret (pc := 25) dX6_spells_25
  · have h := jx_f c3 h
    refine jx_aload_n (pc := 10) (k0 := 0) rfl dX6_spells_10 ?_
    refine jx_aload_n (pc := 11) (k0 := 1) rfl dX6_spells_11 ?_
    refine jx_iload_n (pc := 12) (k0 := 2) rfl dX6_spells_12 ?_
    obtain ⟨q4, eq4, h⟩ := jx_bd_o h
    obtain ⟨g5, h⟩ := jx_gd_o h
    refine jx_callVi (pc := 13) [.int v2] (fun sz' => k_J0_charAt_5068e l (mm_env G) (mm_dyn G) (mm_rg G) G mm_jok mm_hex sz' σ v1 v2 q4 eq4) kv_X6_71 mm_jok (st_rc mm_hex (i := v1) (of_decide_eq_true g5)) rfl rfl (Nat.le_of_ble_eq_true rfl) ⟨⟨rfl, rfl⟩, ⟨Nat.le_of_ble_eq_true rfl, Nat.le_of_ble_eq_true rfl⟩, Nat.zero_le _, Nat.zero_le _⟩ dX6_spells_13 ?_
    obtain ⟨q6, eq6, h⟩ := jx_bd_o h
    refine jx_callVv (pc := 16) [.int q4] (fun sz' => k_X6_must l G hG sz' σ q4 q6 eq6) kv_X6_75 mm_jok mm_rc rfl rfl (Nat.le_of_ble_eq_true rfl) ⟨⟨rfl, rfl⟩, ⟨Nat.le_of_ble_eq_true rfl, Nat.le_of_ble_eq_true rfl⟩, Nat.zero_le _, Nat.zero_le _⟩ dX6_spells_16 ?_
    obtain ⟨x7, ex7, h⟩ := jx_lt_o h
    refine jx_iinc (pc := 19) (i := 2) (v := v2) rfl ex7 (n := 1) (by decide) (by decide) (lv' := [(2, .int x7), (0, .ref (G.2 10)), (1, .ref (G.2 (1000 + v1)))]) rfl dX6_spells_19 ?_
    refine jx_goto (pc := 22) (tgt := 2) dX6_spells_22 (by decide) ?_
    exact jx_sub [1, 2, 0] rfl (h2 q6 v1 x7 h)
def b_X6_spells_2  : Nat → jx_M → Nat → Int32 → Option jx_M
  | 0, _, _, _ => none
  | n + 1, σ, v1, v2 => g_X6_spells_2 (b_X6_spells_2 n) σ v1 v2
theorem jb_X6_spells_2 (l : Launch) (G : jx_G) (hG : mm_ok G) (sz : Nat) (out : jx_M)  : ∀ (n : Nat) (σ : jx_M) (v1 : Nat) (v2 : Int32), b_X6_spells_2 n σ v1 v2 = some out → jJ_X6_spells l G sz out 2 [(0, .ref (G.2 10)), (1, .ref (G.2 (1000 + v1))), (2, .int v2)] [] σ := by
  intro n
  induction n with
  | zero =>
    intro σ v1 v2 h
    cases h
  | succ n ih =>
    intro σ v1 v2 h
    exact jg_X6_spells_2 l G hG sz out (b_X6_spells_2 n) ih σ v1 v2 h
def f_X6_spells (σ : jx_M) (a1 : Nat) : Option jx_M :=
  (b_X6_spells_2 jx_fuel σ a1 (0 : Int32))
set_option maxHeartbeats 4000000 in
set_option maxRecDepth 100000 in
theorem k_X6_spells (l : Launch) (G : jx_G) (hG : mm_ok G) (sz : Nat) (σ : jx_M) (a1 : Nat) (out : jx_M) (h : f_X6_spells σ a1 = some out) : Met l yX6_spells (Cond.code yX6_spells cX6_spells 3 none :: jx_ws) rm_X6_spells (jx_Pc (mm_env G) (mm_dyn G) (mm_rg G) sz σ [.ref (G.2 10), .ref (G.2 (1000 + a1))]) (jx_Qv (mm_dyn G) out (jx_A (mm_rg G) sz)) 0 0 (jx_A (mm_rg G) sz) := by
  unfold f_X6_spells at h
  refine jx_met (by decide) (Nat.le_of_ble_eq_true rfl) ?_
  refine jx_sub (lv' := [(0, .ref (G.2 10)), (1, .ref (G.2 (1000 + a1)))]) [0, 1] rfl ?_
  refine jx_iconst (pc := 0) (v := (0 : Int32)) (by decide) dX6_spells_0 ?_
  refine jx_istore_n (pc := 1) (i := 2) rfl rfl (by decide) (lv' := [(2, .int (0 : Int32)), (0, .ref (G.2 10)), (1, .ref (G.2 (1000 + a1)))]) rfl dX6_spells_1 ?_
  exact jx_sub [1, 2, 0] rfl (jb_X6_spells_2 l G hG sz out jx_fuel σ a1 (0 : Int32) h)
theorem dX6_some_0 : decode cX6_some 0 = .ok (.aload_n 0, 1) := by decide +kernel
theorem dX6_some_1 : decode cX6_some 1 = .ok (.invokevirtual 104, 3) := by decide +kernel
theorem dX6_some_4 : decode cX6_some 4 = .ok (.aload_n 0, 1) := by decide +kernel
theorem dX6_some_5 : decode cX6_some 5 = .ok (.getfield 58, 3) := by decide +kernel
theorem dX6_some_8 : decode cX6_some 8 = .ok (.ifCond .ne 35, 3) := by decide +kernel
theorem dX6_some_11 : decode cX6_some 11 = .ok (.aload_n 0, 1) := by decide +kernel
theorem dX6_some_12 : decode cX6_some 12 = .ok (.invokevirtual 62, 3) := by decide +kernel
theorem dX6_some_15 : decode cX6_some 15 = .ok (.bipush 124, 2) := by decide +kernel
theorem dX6_some_17 : decode cX6_some 17 = .ok (.if_icmp .ne 26, 3) := by decide +kernel
theorem dX6_some_20 : decode cX6_some 20 = .ok (.aload_n 0, 1) := by decide +kernel
theorem dX6_some_21 : decode cX6_some 21 = .ok (.dup, 1) := by decide +kernel
theorem dX6_some_22 : decode cX6_some 22 = .ok (.getfield 52, 3) := by decide +kernel
theorem dX6_some_25 : decode cX6_some 25 = .ok (.iconst 1, 1) := by decide +kernel
theorem dX6_some_26 : decode cX6_some 26 = .ok (.iadd, 1) := by decide +kernel
theorem dX6_some_27 : decode cX6_some 27 = .ok (.putfield 52, 3) := by decide +kernel
theorem dX6_some_30 : decode cX6_some 30 = .ok (.aload_n 0, 1) := by decide +kernel
theorem dX6_some_31 : decode cX6_some 31 = .ok (.invokevirtual 104, 3) := by decide +kernel
theorem dX6_some_34 : decode cX6_some 34 = .ok (.aload_n 0, 1) := by decide +kernel
theorem dX6_some_35 : decode cX6_some 35 = .ok (.bipush (-3), 2) := by decide +kernel
theorem dX6_some_37 : decode cX6_some 37 = .ok (.invokevirtual 87, 3) := by decide +kernel
theorem dX6_some_40 : decode cX6_some 40 = .ok (.goto (-36), 3) := by decide +kernel
theorem dX6_some_43 : decode cX6_some 43 = .ok (.return_, 1) := by decide +kernel
abbrev rm_X6_some (fr lo : Nat) : Room := { frames := fr + 2, cells := 0, slots := 0, locals := lo + 44 }
abbrev jJ_X6_some (l : Launch) (G : jx_G) (fr lo : Nat) (sz : Nat) (out : jx_M) (pc : Nat) (lv : List (Nat × Value)) (st : List Value) (σ : jx_M) : Prop := jx_J l (mm_env G) (mm_dyn G) (mm_rg G) sz RX6 "some" cX6_some 1 none (rm_X6_some fr lo) (fun below args s => MQ below (jx_Qv (mm_dyn G) out (jx_A (mm_rg G) sz)) args s 0 0 (jx_A (mm_rg G) sz)) 0 0 pc lv st σ
def g_X6_some_4 (F : jx_M → Option jx_M) (k4 : jx_M → Option jx_M) (σ : jx_M)  : Option jx_M :=
  if (σ 0 7) = 0 then jx_bd (f_X6_here σ) (fun q2 => if q2 = (124 : Int32) then jx_lt (jx_mu σ 0 5 ((σ 0 5) + (1 : Int32))) (fun σ4 => jx_bd (f_X6_every F σ4) (fun q5 => jx_bd (f_X6_emits q5 (-3 : Int32)) (fun q6 => (k4 q6)))) else some σ) else some σ
set_option maxHeartbeats 4000000 in
set_option maxRecDepth 100000 in
theorem jg_X6_some_4 (l : Launch) (G : jx_G) (hG : mm_ok G) (F : jx_M → Option jx_M) (fr lo : Nat) (hF : ∀ (sz : Nat) (σ : jx_M)  (out : jx_M) (_ : F σ = some out), Met l yX6_factor (Cond.code yX6_factor cX6_factor 5 none :: jx_ws) { frames := fr, cells := 0, slots := 0, locals := lo } (jx_Pc (mm_env G) (mm_dyn G) (mm_rg G) sz σ [.ref (G.2 10)]) (jx_Qv (mm_dyn G) out (jx_A (mm_rg G) sz)) 0 0 (jx_A (mm_rg G) sz)) (sz : Nat) (out : jx_M) (k4 : jx_M → Option jx_M) (h4 : ∀ (σ : jx_M) , k4 σ = some out → jJ_X6_some l G fr lo sz out 4 [(0, .ref (G.2 10))] [] σ) (σ : jx_M)  (h : g_X6_some_4 F k4 σ = some out) : jJ_X6_some l G fr lo sz out 4 [(0, .ref (G.2 10))] [] σ := by
  unfold g_X6_some_4 at h
  refine jx_aload_n (pc := 4) (k0 := 0) rfl dX6_some_4 ?_
  refine mm_g_isWrong (pc := 5) fl_X6_58 dX6_some_5 ?_
  refine jx_if_ne (pc := 8) (tgt := 43) dX6_some_8 (by decide) (fun c1 => ?_) (fun c1 => ?_)
  · have h := jx_f c1 h
    have h := Option.some.inj h
    subst h
    exact jx_vret (pc := 43) dX6_some_43
  · have h := jx_t c1 h
    refine jx_aload_n (pc := 11) (k0 := 0) rfl dX6_some_11 ?_
    obtain ⟨q2, eq2, h⟩ := jx_bd_o h
    refine jx_callVi (pc := 12) [] (fun sz' => k_X6_here l G hG sz' σ q2 eq2) kv_X6_62 mm_jok mm_rc rfl rfl (Nat.le_of_ble_eq_true rfl) ⟨⟨rfl, rfl⟩, ⟨(by show 0 + 1 ≤ fr + 2; omega), (by show 8 + (1 + 11) + 0 ≤ lo + 44; omega)⟩, Nat.zero_le _, Nat.zero_le _⟩ dX6_some_12 ?_
    refine jx_bipush (pc := 15) (v := (124 : Int32)) (by decide) dX6_some_15 ?_
    refine jx_icmp_ne (pc := 17) (tgt := 43) dX6_some_17 (by decide) (fun c3 => ?_) (fun c3 => ?_)
    · have h := jx_f c3 h
      have h := Option.some.inj h
      subst h
      exact jx_vret (pc := 43) dX6_some_43
    · have h := jx_t c3 h
      refine jx_aload_n (pc := 20) (k0 := 0) rfl dX6_some_20 ?_
      refine jx_dup (pc := 21) rfl dX6_some_21 ?_
      refine mm_g_spot (pc := 22) fl_X6_52 dX6_some_22 ?_
      refine jx_iconst (pc := 25) (v := (1 : Int32)) (by decide) dX6_some_25 ?_
      refine jx_iadd (pc := 26) dX6_some_26 ?_
      obtain ⟨σ4, eσ4, h⟩ := jx_lt_o h
      refine mm_p_spot (pc := 27) hG fl_X6_52 eσ4 dX6_some_27 ?_
      refine jx_aload_n (pc := 30) (k0 := 0) rfl dX6_some_30 ?_
      obtain ⟨q5, eq5, h⟩ := jx_bd_o h
      refine jx_callVv (pc := 31) [] (fun sz' => k_X6_every l G hG F fr lo hF sz' σ4 q5 eq5) kv_X6_104 mm_jok mm_rc rfl rfl (Nat.le_of_ble_eq_true rfl) ⟨⟨rfl, rfl⟩, ⟨(by show (fr + 1) + 1 ≤ fr + 2; omega), (by show 8 + (1 + 11) + (lo + 24) ≤ lo + 44; omega)⟩, Nat.zero_le _, Nat.zero_le _⟩ dX6_some_31 ?_
      refine jx_aload_n (pc := 34) (k0 := 0) rfl dX6_some_34 ?_
      refine jx_bipush (pc := 35) (v := (-3 : Int32)) (by decide) dX6_some_35 ?_
      obtain ⟨q6, eq6, h⟩ := jx_bd_o h
      refine jx_callVv (pc := 37) [.int (-3 : Int32)] (fun sz' => k_X6_emits l G hG sz' q5 (-3 : Int32) q6 eq6) kv_X6_87 mm_jok mm_rc rfl rfl (Nat.le_of_ble_eq_true rfl) ⟨⟨rfl, rfl⟩, ⟨(by show 0 + 1 ≤ fr + 2; omega), (by show 8 + (2 + 11) + 0 ≤ lo + 44; omega)⟩, Nat.zero_le _, Nat.zero_le _⟩ dX6_some_37 ?_
      refine jx_goto (pc := 40) (tgt := 4) dX6_some_40 (by decide) ?_
      exact jx_sub [0] rfl (h4 q6 h)
def b_X6_some_4 (F : jx_M → Option jx_M)  : Nat → jx_M → Option jx_M
  | 0, _ => none
  | n + 1, σ => g_X6_some_4 F (b_X6_some_4 F n) σ
theorem jb_X6_some_4 (l : Launch) (G : jx_G) (hG : mm_ok G) (F : jx_M → Option jx_M) (fr lo : Nat) (hF : ∀ (sz : Nat) (σ : jx_M)  (out : jx_M) (_ : F σ = some out), Met l yX6_factor (Cond.code yX6_factor cX6_factor 5 none :: jx_ws) { frames := fr, cells := 0, slots := 0, locals := lo } (jx_Pc (mm_env G) (mm_dyn G) (mm_rg G) sz σ [.ref (G.2 10)]) (jx_Qv (mm_dyn G) out (jx_A (mm_rg G) sz)) 0 0 (jx_A (mm_rg G) sz)) (sz : Nat) (out : jx_M)  : ∀ (n : Nat) (σ : jx_M) , b_X6_some_4 F n σ = some out → jJ_X6_some l G fr lo sz out 4 [(0, .ref (G.2 10))] [] σ := by
  intro n
  induction n with
  | zero =>
    intro σ h
    cases h
  | succ n ih =>
    intro σ h
    exact jg_X6_some_4 l G hG F fr lo hF sz out (b_X6_some_4 F n) ih σ  h
def f_X6_some (F : jx_M → Option jx_M) (σ : jx_M)  : Option jx_M :=
  jx_bd (f_X6_every F σ) (fun q1 => (b_X6_some_4 F jx_fuel q1))
set_option maxHeartbeats 4000000 in
set_option maxRecDepth 100000 in
theorem k_X6_some (l : Launch) (G : jx_G) (hG : mm_ok G) (F : jx_M → Option jx_M) (fr lo : Nat) (hF : ∀ (sz : Nat) (σ : jx_M)  (out : jx_M) (_ : F σ = some out), Met l yX6_factor (Cond.code yX6_factor cX6_factor 5 none :: jx_ws) { frames := fr, cells := 0, slots := 0, locals := lo } (jx_Pc (mm_env G) (mm_dyn G) (mm_rg G) sz σ [.ref (G.2 10)]) (jx_Qv (mm_dyn G) out (jx_A (mm_rg G) sz)) 0 0 (jx_A (mm_rg G) sz)) (sz : Nat) (σ : jx_M)  (out : jx_M) (h : f_X6_some F σ = some out) : Met l yX6_some (Cond.code yX6_some cX6_some 1 none :: jx_ws) (rm_X6_some fr lo) (jx_Pc (mm_env G) (mm_dyn G) (mm_rg G) sz σ [.ref (G.2 10)]) (jx_Qv (mm_dyn G) out (jx_A (mm_rg G) sz)) 0 0 (jx_A (mm_rg G) sz) := by
  unfold f_X6_some at h
  refine jx_met (by decide) (Nat.le_of_ble_eq_true rfl) ?_
  refine jx_sub (lv' := [(0, .ref (G.2 10))]) [0] rfl ?_
  refine jx_aload_n (pc := 0) (k0 := 0) rfl dX6_some_0 ?_
  obtain ⟨q1, eq1, h⟩ := jx_bd_o h
  refine jx_callVv (pc := 1) [] (fun sz' => k_X6_every l G hG F fr lo hF sz' σ q1 eq1) kv_X6_104 mm_jok mm_rc rfl rfl (Nat.le_of_ble_eq_true rfl) ⟨⟨rfl, rfl⟩, ⟨(by show (fr + 1) + 1 ≤ fr + 2; omega), (by show 8 + (1 + 11) + (lo + 24) ≤ lo + 44; omega)⟩, Nat.zero_le _, Nat.zero_le _⟩ dX6_some_1 ?_
  exact jx_sub [0] rfl (jb_X6_some_4 l G hG F fr lo hF sz out jx_fuel q1 h)
theorem dX6_place_0 : decode cX6_place 0 = .ok (.aload_n 0, 1) := by decide +kernel
theorem dX6_place_1 : decode cX6_place 1 = .ok (.iload_n 1, 1) := by decide +kernel
theorem dX6_place_2 : decode cX6_place 2 = .ok (.invokevirtual 145, 3) := by decide +kernel
theorem dX6_place_5 : decode cX6_place 5 = .ok (.ifCond .eq 12, 3) := by decide +kernel
theorem dX6_place_8 : decode cX6_place 8 = .ok (.iload_n 2, 1) := by decide +kernel
theorem dX6_place_9 : decode cX6_place 9 = .ok (.iconst 0, 1) := by decide +kernel
theorem dX6_place_10 : decode cX6_place 10 = .ok (.iconst 2, 1) := by decide +kernel
theorem dX6_place_11 : decode cX6_place 11 = .ok (.invokestatic 48, 3) := by decide +kernel
theorem dX6_place_14 : decode cX6_place 14 = .ok (.ifCond .ne 5, 3) := by decide +kernel
theorem dX6_place_17 : decode cX6_place 17 = .ok (.iconst (-1), 1) := by decide +kernel
theorem dX6_place_18 : decode cX6_place 18 = .ok (.ireturn, 1) := by decide +kernel
theorem dX6_place_19 : decode cX6_place 19 = .ok (.iload_n 2, 1) := by decide +kernel
theorem dX6_place_20 : decode cX6_place 20 = .ok (.iconst 2, 1) := by decide +kernel
theorem dX6_place_21 : decode cX6_place 21 = .ok (.if_icmp .ne 15, 3) := by decide +kernel
theorem dX6_place_24 : decode cX6_place 24 = .ok (.iload_n 3, 1) := by decide +kernel
theorem dX6_place_25 : decode cX6_place 25 = .ok (.iconst 0, 1) := by decide +kernel
theorem dX6_place_26 : decode cX6_place 26 = .ok (.iconst 2, 1) := by decide +kernel
theorem dX6_place_27 : decode cX6_place 27 = .ok (.invokestatic 48, 3) := by decide +kernel
theorem dX6_place_30 : decode cX6_place 30 = .ok (.ifCond .ne 27, 3) := by decide +kernel
theorem dX6_place_33 : decode cX6_place 33 = .ok (.goto 21, 3) := by decide +kernel
theorem dX6_place_36 : decode cX6_place 36 = .ok (.aload_n 0, 1) := by decide +kernel
theorem dX6_place_37 : decode cX6_place 37 = .ok (.iload_n 3, 1) := by decide +kernel
theorem dX6_place_38 : decode cX6_place 38 = .ok (.invokevirtual 145, 3) := by decide +kernel
theorem dX6_place_41 : decode cX6_place 41 = .ok (.ifCond .ne 16, 3) := by decide +kernel
theorem dX6_place_44 : decode cX6_place 44 = .ok (.iload_n 2, 1) := by decide +kernel
theorem dX6_place_45 : decode cX6_place 45 = .ok (.iconst 1, 1) := by decide +kernel
theorem dX6_place_46 : decode cX6_place 46 = .ok (.if_icmp .ne 8, 3) := by decide +kernel
theorem dX6_place_49 : decode cX6_place 49 = .ok (.iload_n 3, 1) := by decide +kernel
theorem dX6_place_50 : decode cX6_place 50 = .ok (.iconst (-1), 1) := by decide +kernel
theorem dX6_place_51 : decode cX6_place 51 = .ok (.if_icmp .eq 6, 3) := by decide +kernel
theorem dX6_place_54 : decode cX6_place 54 = .ok (.bipush (-2), 2) := by decide +kernel
theorem dX6_place_56 : decode cX6_place 56 = .ok (.ireturn, 1) := by decide +kernel
theorem dX6_place_57 : decode cX6_place 57 = .ok (.aload_n 0, 1) := by decide +kernel
theorem dX6_place_58 : decode cX6_place 58 = .ok (.getfield 9, 3) := by decide +kernel
theorem dX6_place_61 : decode cX6_place 61 = .ok (.bipush 10, 2) := by decide +kernel
theorem dX6_place_63 : decode cX6_place 63 = .ok (.bipush 7, 2) := by decide +kernel
theorem dX6_place_65 : decode cX6_place 65 = .ok (.iload_n 2, 1) := by decide +kernel
theorem dX6_place_66 : decode cX6_place 66 = .ok (.imul, 1) := by decide +kernel
theorem dX6_place_67 : decode cX6_place 67 = .ok (.iadd, 1) := by decide +kernel
theorem dX6_place_68 : decode cX6_place 68 = .ok (.iload_n 1, 1) := by decide +kernel
theorem dX6_place_69 : decode cX6_place 69 = .ok (.iadd, 1) := by decide +kernel
theorem dX6_place_70 : decode cX6_place 70 = .ok (.iaload, 1) := by decide +kernel
theorem dX6_place_71 : decode cX6_place 71 = .ok (.istore 4, 2) := by decide +kernel
theorem dX6_place_73 : decode cX6_place 73 = .ok (.aload_n 0, 1) := by decide +kernel
theorem dX6_place_74 : decode cX6_place 74 = .ok (.getfield 9, 3) := by decide +kernel
theorem dX6_place_77 : decode cX6_place 77 = .ok (.bipush 10, 2) := by decide +kernel
theorem dX6_place_79 : decode cX6_place 79 = .ok (.bipush 7, 2) := by decide +kernel
theorem dX6_place_81 : decode cX6_place 81 = .ok (.iload_n 2, 1) := by decide +kernel
theorem dX6_place_82 : decode cX6_place 82 = .ok (.imul, 1) := by decide +kernel
theorem dX6_place_83 : decode cX6_place 83 = .ok (.iadd, 1) := by decide +kernel
theorem dX6_place_84 : decode cX6_place 84 = .ok (.iload_n 1, 1) := by decide +kernel
theorem dX6_place_85 : decode cX6_place 85 = .ok (.iadd, 1) := by decide +kernel
theorem dX6_place_86 : decode cX6_place 86 = .ok (.iload_n 3, 1) := by decide +kernel
theorem dX6_place_87 : decode cX6_place 87 = .ok (.iastore, 1) := by decide +kernel
theorem dX6_place_88 : decode cX6_place 88 = .ok (.iload 4, 2) := by decide +kernel
theorem dX6_place_90 : decode cX6_place 90 = .ok (.ireturn, 1) := by decide +kernel
abbrev rm_X6_place : Room := { frames := 2, cells := 0, slots := 0, locals := 43 }
abbrev jJ_X6_place (l : Launch) (G : jx_G) (sz : Nat) (out : (Int32 × jx_M)) (pc : Nat) (lv : List (Nat × Value)) (st : List Value) (σ : jx_M) : Prop := jx_J l (mm_env G) (mm_dyn G) (mm_rg G) sz RX6 "place" cX6_place 5 (some .int) rm_X6_place (fun below args s => MQ below (jx_Qi (mm_dyn G) out.2 out.1 (jx_A (mm_rg G) sz)) args s 0 0 (jx_A (mm_rg G) sz)) 0 0 pc lv st σ
def b_X6_place_57  (σ : jx_M) (v1 : Int32) (v2 : Int32) (v3 : Int32) : Option (Int32 × jx_M) :=
  jx_gd (jx_in (((10 : Int32) + ((7 : Int32) * v2)) + v1) 920) (jx_lt ((σ 1 (((10 : Int32) + ((7 : Int32) * v2)) + v1).toNatClampNeg)) (fun x2 => jx_gd (jx_in (((10 : Int32) + ((7 : Int32) * v2)) + v1) 920) (jx_lt (jx_mu σ 1 (((10 : Int32) + ((7 : Int32) * v2)) + v1).toNatClampNeg v3) (fun σ4 => some (x2, σ4)))))
set_option maxHeartbeats 4000000 in
set_option maxRecDepth 100000 in
theorem jb_X6_place_57 (l : Launch) (G : jx_G) (hG : mm_ok G) (sz : Nat) (out : (Int32 × jx_M))  (σ : jx_M) (v1 : Int32) (v2 : Int32) (v3 : Int32) (h : b_X6_place_57 σ v1 v2 v3 = some out) : jJ_X6_place l G sz out 57 [(0, .ref (G.2 10)), (1, .int v1), (2, .int v2), (3, .int v3)] [] σ := by
  unfold b_X6_place_57 at h
  refine jx_aload_n (pc := 57) (k0 := 0) rfl dX6_place_57 ?_
  refine mm_g_s (pc := 58) fl_X6_9 dX6_place_58 ?_
  refine jx_bipush (pc := 61) (v := (10 : Int32)) (by decide) dX6_place_61 ?_
  refine jx_bipush (pc := 63) (v := (7 : Int32)) (by decide) dX6_place_63 ?_
  refine jx_iload_n (pc := 65) (k0 := 2) rfl dX6_place_65 ?_
  refine jx_imul (pc := 66) dX6_place_66 ?_
  refine jx_iadd (pc := 67) dX6_place_67 ?_
  refine jx_iload_n (pc := 68) (k0 := 1) rfl dX6_place_68 ?_
  refine jx_iadd (pc := 69) dX6_place_69 ?_
  obtain ⟨g1, h⟩ := jx_gd_o h
  refine mm_l_s (pc := 70) (jx_in_o g1) rfl dX6_place_70 ?_
  obtain ⟨x2, ex2, h⟩ := jx_lt_o h
  refine jx_istore (pc := 71) (i := 4) ex2 (by decide) (lv' := [(4, .int x2), (0, .ref (G.2 10)), (1, .int v1), (2, .int v2), (3, .int v3)]) rfl dX6_place_71 ?_
  refine jx_aload_n (pc := 73) (k0 := 0) rfl dX6_place_73 ?_
  refine mm_g_s (pc := 74) fl_X6_9 dX6_place_74 ?_
  refine jx_bipush (pc := 77) (v := (10 : Int32)) (by decide) dX6_place_77 ?_
  refine jx_bipush (pc := 79) (v := (7 : Int32)) (by decide) dX6_place_79 ?_
  refine jx_iload_n (pc := 81) (k0 := 2) rfl dX6_place_81 ?_
  refine jx_imul (pc := 82) dX6_place_82 ?_
  refine jx_iadd (pc := 83) dX6_place_83 ?_
  refine jx_iload_n (pc := 84) (k0 := 1) rfl dX6_place_84 ?_
  refine jx_iadd (pc := 85) dX6_place_85 ?_
  refine jx_iload_n (pc := 86) (k0 := 3) rfl dX6_place_86 ?_
  obtain ⟨g3, h⟩ := jx_gd_o h
  obtain ⟨σ4, eσ4, h⟩ := jx_lt_o h
  refine mm_s_s (pc := 87) hG (jx_in_o g3) rfl eσ4 dX6_place_87 ?_
  refine jx_iload (pc := 88) (i := 4) rfl dX6_place_88 ?_
  have h := Option.some.inj h
  subst h
  exact jx_iret (pc := 90) dX6_place_90
def f_X6_place (σ : jx_M) (a1 : Int32) (a2 : Int32) (a3 : Int32) : Option (Int32 × jx_M) :=
  jx_bd (f_X6_isPlace σ a1) (fun q1 => if q1 = 0 then some ((-1 : Int32), σ) else jx_bd (f_X6_in a2 (0 : Int32) (2 : Int32)) (fun q3 => if q3 = 0 then some ((-1 : Int32), σ) else if a2 = (2 : Int32) then jx_bd (f_X6_in a3 (0 : Int32) (2 : Int32)) (fun q10 => if q10 = 0 then some ((-2 : Int32), σ) else (b_X6_place_57 σ a1 a2 a3)) else jx_bd (f_X6_isPlace σ a3) (fun q6 => if q6 = 0 then if a2 = (1 : Int32) then if a3 = (-1 : Int32) then (b_X6_place_57 σ a1 a2 a3) else some ((-2 : Int32), σ) else some ((-2 : Int32), σ) else (b_X6_place_57 σ a1 a2 a3))))
set_option maxHeartbeats 4000000 in
set_option maxRecDepth 100000 in
theorem k_X6_place (l : Launch) (G : jx_G) (hG : mm_ok G) (sz : Nat) (σ : jx_M) (a1 : Int32) (a2 : Int32) (a3 : Int32) (out : (Int32 × jx_M)) (h : f_X6_place σ a1 a2 a3 = some out) : Met l yX6_place (Cond.code yX6_place cX6_place 5 (some .int) :: jx_ws) rm_X6_place (jx_Pc (mm_env G) (mm_dyn G) (mm_rg G) sz σ [.ref (G.2 10), .int a1, .int a2, .int a3]) (jx_Qi (mm_dyn G) out.2 out.1 (jx_A (mm_rg G) sz)) 0 0 (jx_A (mm_rg G) sz) := by
  unfold f_X6_place at h
  refine jx_met (by decide) (Nat.le_of_ble_eq_true rfl) ?_
  refine jx_sub (lv' := [(0, .ref (G.2 10)), (1, .int a1), (2, .int a2), (3, .int a3)]) [0, 1, 2, 3] rfl ?_
  refine jx_aload_n (pc := 0) (k0 := 0) rfl dX6_place_0 ?_
  refine jx_iload_n (pc := 1) (k0 := 1) rfl dX6_place_1 ?_
  obtain ⟨q1, eq1, h⟩ := jx_bd_o h
  refine jx_callVi (pc := 2) [.int a1] (fun sz' => k_X6_isPlace l G hG sz' σ a1 q1 eq1) kv_X6_145 mm_jok mm_rc rfl rfl (Nat.le_of_ble_eq_true rfl) ⟨⟨rfl, rfl⟩, ⟨Nat.le_of_ble_eq_true rfl, Nat.le_of_ble_eq_true rfl⟩, Nat.zero_le _, Nat.zero_le _⟩ dX6_place_2 ?_
  refine jx_if_eq (pc := 5) (tgt := 17) dX6_place_5 (by decide) (fun c2 => ?_) (fun c2 => ?_)
  · have h := jx_t c2 h
    refine jx_iconst (pc := 17) (v := (-1 : Int32)) (by decide) dX6_place_17 ?_
    have h := Option.some.inj h
    subst h
    exact jx_iret (pc := 18) dX6_place_18
  · have h := jx_f c2 h
    refine jx_iload_n (pc := 8) (k0 := 2) rfl dX6_place_8 ?_
    refine jx_iconst (pc := 9) (v := (0 : Int32)) (by decide) dX6_place_9 ?_
    refine jx_iconst (pc := 10) (v := (2 : Int32)) (by decide) dX6_place_10 ?_
    obtain ⟨q3, eq3, h⟩ := jx_bd_o h
    refine jx_callSi (pc := 11) [.int a2, .int (0 : Int32), .int (2 : Int32)] (fun sz' => k_X6_in l G hG sz' σ a2 (0 : Int32) (2 : Int32) q3 eq3) ks_X6_48 mm_jok rfl rfl (Nat.le_of_ble_eq_true rfl) ⟨⟨rfl, rfl⟩, ⟨Nat.le_of_ble_eq_true rfl, Nat.le_of_ble_eq_true rfl⟩, Nat.zero_le _, Nat.zero_le _⟩ dX6_place_11 ?_
    refine jx_if_ne (pc := 14) (tgt := 19) dX6_place_14 (by decide) (fun c4 => ?_) (fun c4 => ?_)
    · have h := jx_f c4 h
      refine jx_iload_n (pc := 19) (k0 := 2) rfl dX6_place_19 ?_
      refine jx_iconst (pc := 20) (v := (2 : Int32)) (by decide) dX6_place_20 ?_
      refine jx_icmp_ne (pc := 21) (tgt := 36) dX6_place_21 (by decide) (fun c5 => ?_) (fun c5 => ?_)
      · have h := jx_f c5 h
        refine jx_aload_n (pc := 36) (k0 := 0) rfl dX6_place_36 ?_
        refine jx_iload_n (pc := 37) (k0 := 3) rfl dX6_place_37 ?_
        obtain ⟨q6, eq6, h⟩ := jx_bd_o h
        refine jx_callVi (pc := 38) [.int a3] (fun sz' => k_X6_isPlace l G hG sz' σ a3 q6 eq6) kv_X6_145 mm_jok mm_rc rfl rfl (Nat.le_of_ble_eq_true rfl) ⟨⟨rfl, rfl⟩, ⟨Nat.le_of_ble_eq_true rfl, Nat.le_of_ble_eq_true rfl⟩, Nat.zero_le _, Nat.zero_le _⟩ dX6_place_38 ?_
        refine jx_if_ne (pc := 41) (tgt := 57) dX6_place_41 (by decide) (fun c7 => ?_) (fun c7 => ?_)
        · have h := jx_f c7 h
          exact jx_sub [0, 1, 2, 3] rfl (jb_X6_place_57 l G hG sz out σ a1 a2 a3 h)
        · have h := jx_t c7 h
          refine jx_iload_n (pc := 44) (k0 := 2) rfl dX6_place_44 ?_
          refine jx_iconst (pc := 45) (v := (1 : Int32)) (by decide) dX6_place_45 ?_
          refine jx_icmp_ne (pc := 46) (tgt := 54) dX6_place_46 (by decide) (fun c8 => ?_) (fun c8 => ?_)
          · have h := jx_f c8 h
            refine jx_bipush (pc := 54) (v := (-2 : Int32)) (by decide) dX6_place_54 ?_
            have h := Option.some.inj h
            subst h
            exact jx_iret (pc := 56) dX6_place_56
          · have h := jx_t c8 h
            refine jx_iload_n (pc := 49) (k0 := 3) rfl dX6_place_49 ?_
            refine jx_iconst (pc := 50) (v := (-1 : Int32)) (by decide) dX6_place_50 ?_
            refine jx_icmp_eq (pc := 51) (tgt := 57) dX6_place_51 (by decide) (fun c9 => ?_) (fun c9 => ?_)
            · have h := jx_t c9 h
              exact jx_sub [0, 1, 2, 3] rfl (jb_X6_place_57 l G hG sz out σ a1 a2 a3 h)
            · have h := jx_f c9 h
              refine jx_bipush (pc := 54) (v := (-2 : Int32)) (by decide) dX6_place_54 ?_
              have h := Option.some.inj h
              subst h
              exact jx_iret (pc := 56) dX6_place_56
      · have h := jx_t c5 h
        refine jx_iload_n (pc := 24) (k0 := 3) rfl dX6_place_24 ?_
        refine jx_iconst (pc := 25) (v := (0 : Int32)) (by decide) dX6_place_25 ?_
        refine jx_iconst (pc := 26) (v := (2 : Int32)) (by decide) dX6_place_26 ?_
        obtain ⟨q10, eq10, h⟩ := jx_bd_o h
        refine jx_callSi (pc := 27) [.int a3, .int (0 : Int32), .int (2 : Int32)] (fun sz' => k_X6_in l G hG sz' σ a3 (0 : Int32) (2 : Int32) q10 eq10) ks_X6_48 mm_jok rfl rfl (Nat.le_of_ble_eq_true rfl) ⟨⟨rfl, rfl⟩, ⟨Nat.le_of_ble_eq_true rfl, Nat.le_of_ble_eq_true rfl⟩, Nat.zero_le _, Nat.zero_le _⟩ dX6_place_27 ?_
        refine jx_if_ne (pc := 30) (tgt := 57) dX6_place_30 (by decide) (fun c11 => ?_) (fun c11 => ?_)
        · have h := jx_f c11 h
          exact jx_sub [0, 1, 2, 3] rfl (jb_X6_place_57 l G hG sz out σ a1 a2 a3 h)
        · have h := jx_t c11 h
          refine jx_goto (pc := 33) (tgt := 54) dX6_place_33 (by decide) ?_
          refine jx_bipush (pc := 54) (v := (-2 : Int32)) (by decide) dX6_place_54 ?_
          have h := Option.some.inj h
          subst h
          exact jx_iret (pc := 56) dX6_place_56
    · have h := jx_t c4 h
      refine jx_iconst (pc := 17) (v := (-1 : Int32)) (by decide) dX6_place_17 ?_
      have h := Option.some.inj h
      subst h
      exact jx_iret (pc := 18) dX6_place_18
theorem dX6_at_0 : decode cX6_at 0 = .ok (.aload_n 0, 1) := by decide +kernel
theorem dX6_at_1 : decode cX6_at 1 = .ok (.iload_n 1, 1) := by decide +kernel
theorem dX6_at_2 : decode cX6_at 2 = .ok (.invokevirtual 145, 3) := by decide +kernel
theorem dX6_at_5 : decode cX6_at 5 = .ok (.ifCond .eq 12, 3) := by decide +kernel
theorem dX6_at_8 : decode cX6_at 8 = .ok (.iload_n 2, 1) := by decide +kernel
theorem dX6_at_9 : decode cX6_at 9 = .ok (.iconst 0, 1) := by decide +kernel
theorem dX6_at_10 : decode cX6_at 10 = .ok (.iconst 5, 1) := by decide +kernel
theorem dX6_at_11 : decode cX6_at 11 = .ok (.invokestatic 48, 3) := by decide +kernel
theorem dX6_at_14 : decode cX6_at 14 = .ok (.ifCond .ne 5, 3) := by decide +kernel
theorem dX6_at_17 : decode cX6_at 17 = .ok (.iconst (-1), 1) := by decide +kernel
theorem dX6_at_18 : decode cX6_at 18 = .ok (.ireturn, 1) := by decide +kernel
theorem dX6_at_19 : decode cX6_at 19 = .ok (.iload_n 2, 1) := by decide +kernel
theorem dX6_at_20 : decode cX6_at 20 = .ok (.iconst 3, 1) := by decide +kernel
theorem dX6_at_21 : decode cX6_at 21 = .ok (.if_icmp .ge 18, 3) := by decide +kernel
theorem dX6_at_24 : decode cX6_at 24 = .ok (.aload_n 0, 1) := by decide +kernel
theorem dX6_at_25 : decode cX6_at 25 = .ok (.getfield 9, 3) := by decide +kernel
theorem dX6_at_28 : decode cX6_at 28 = .ok (.bipush 10, 2) := by decide +kernel
theorem dX6_at_30 : decode cX6_at 30 = .ok (.bipush 7, 2) := by decide +kernel
theorem dX6_at_32 : decode cX6_at 32 = .ok (.iload_n 2, 1) := by decide +kernel
theorem dX6_at_33 : decode cX6_at 33 = .ok (.imul, 1) := by decide +kernel
theorem dX6_at_34 : decode cX6_at 34 = .ok (.iadd, 1) := by decide +kernel
theorem dX6_at_35 : decode cX6_at 35 = .ok (.iload_n 1, 1) := by decide +kernel
theorem dX6_at_36 : decode cX6_at 36 = .ok (.iadd, 1) := by decide +kernel
theorem dX6_at_37 : decode cX6_at 37 = .ok (.iaload, 1) := by decide +kernel
theorem dX6_at_38 : decode cX6_at 38 = .ok (.ireturn, 1) := by decide +kernel
theorem dX6_at_39 : decode cX6_at 39 = .ok (.aload_n 0, 1) := by decide +kernel
theorem dX6_at_40 : decode cX6_at 40 = .ok (.iload_n 1, 1) := by decide +kernel
theorem dX6_at_41 : decode cX6_at 41 = .ok (.aload_n 0, 1) := by decide +kernel
theorem dX6_at_42 : decode cX6_at 42 = .ok (.getfield 9, 3) := by decide +kernel
theorem dX6_at_45 : decode cX6_at 45 = .ok (.bipush 7, 2) := by decide +kernel
theorem dX6_at_47 : decode cX6_at 47 = .ok (.iaload, 1) := by decide +kernel
theorem dX6_at_48 : decode cX6_at 48 = .ok (.invokevirtual 149, 3) := by decide +kernel
theorem dX6_at_51 : decode cX6_at 51 = .ok (.istore_n 3, 1) := by decide +kernel
theorem dX6_at_52 : decode cX6_at 52 = .ok (.iload_n 2, 1) := by decide +kernel
theorem dX6_at_53 : decode cX6_at 53 = .ok (.iconst 3, 1) := by decide +kernel
theorem dX6_at_54 : decode cX6_at 54 = .ok (.if_icmp .ne 18, 3) := by decide +kernel
theorem dX6_at_57 : decode cX6_at 57 = .ok (.aload_n 0, 1) := by decide +kernel
theorem dX6_at_58 : decode cX6_at 58 = .ok (.getfield 132, 3) := by decide +kernel
theorem dX6_at_61 : decode cX6_at 61 = .ok (.ifCond .eq 7, 3) := by decide +kernel
theorem dX6_at_64 : decode cX6_at 64 = .ok (.iconst 1, 1) := by decide +kernel
theorem dX6_at_65 : decode cX6_at 65 = .ok (.goto 20, 3) := by decide +kernel
theorem dX6_at_68 : decode cX6_at 68 = .ok (.iconst 0, 1) := by decide +kernel
theorem dX6_at_69 : decode cX6_at 69 = .ok (.goto 16, 3) := by decide +kernel
theorem dX6_at_72 : decode cX6_at 72 = .ok (.iload_n 2, 1) := by decide +kernel
theorem dX6_at_73 : decode cX6_at 73 = .ok (.iconst 4, 1) := by decide +kernel
theorem dX6_at_74 : decode cX6_at 74 = .ok (.if_icmp .ne 7, 3) := by decide +kernel
theorem dX6_at_77 : decode cX6_at 77 = .ok (.iload_n 3, 1) := by decide +kernel
theorem dX6_at_78 : decode cX6_at 78 = .ok (.goto 7, 3) := by decide +kernel
theorem dX6_at_81 : decode cX6_at 81 = .ok (.aload_n 0, 1) := by decide +kernel
theorem dX6_at_82 : decode cX6_at 82 = .ok (.getfield 138, 3) := by decide +kernel
theorem dX6_at_85 : decode cX6_at 85 = .ok (.ireturn, 1) := by decide +kernel
abbrev rm_X6_at : Room := { frames := 2, cells := 0, slots := 0, locals := 52 }
abbrev jJ_X6_at (l : Launch) (G : jx_G) (sz : Nat) (out : (Int32 × jx_M)) (pc : Nat) (lv : List (Nat × Value)) (st : List Value) (σ : jx_M) : Prop := jx_J l (mm_env G) (mm_dyn G) (mm_rg G) sz RX6 "at" cX6_at 4 (some .int) rm_X6_at (fun below args s => MQ below (jx_Qi (mm_dyn G) out.2 out.1 (jx_A (mm_rg G) sz)) args s 0 0 (jx_A (mm_rg G) sz)) 0 0 pc lv st σ
def f_X6_at (σ : jx_M) (a1 : Int32) (a2 : Int32) : Option (Int32 × jx_M) :=
  jx_bd (f_X6_isPlace σ a1) (fun q1 => if q1 = 0 then some ((-1 : Int32), σ) else jx_bd (f_X6_in a2 (0 : Int32) (5 : Int32)) (fun q3 => if q3 = 0 then some ((-1 : Int32), σ) else if (3 : Int32) ≤ a2 then jx_bd (f_X6_goesFrom σ a1 (σ 1 7)) (fun q6 => if a2 = (3 : Int32) then if (q6.2 0 12) = 0 then some ((0 : Int32), q6.2) else some ((1 : Int32), q6.2) else if a2 = (4 : Int32) then some (q6.1, q6.2) else some ((q6.2 0 14), q6.2)) else jx_gd (jx_in (((10 : Int32) + ((7 : Int32) * a2)) + a1) 920) (some ((σ 1 (((10 : Int32) + ((7 : Int32) * a2)) + a1).toNatClampNeg), σ))))
set_option maxHeartbeats 4000000 in
set_option maxRecDepth 100000 in
theorem k_X6_at (l : Launch) (G : jx_G) (hG : mm_ok G) (sz : Nat) (σ : jx_M) (a1 : Int32) (a2 : Int32) (out : (Int32 × jx_M)) (h : f_X6_at σ a1 a2 = some out) : Met l yX6_at (Cond.code yX6_at cX6_at 4 (some .int) :: jx_ws) rm_X6_at (jx_Pc (mm_env G) (mm_dyn G) (mm_rg G) sz σ [.ref (G.2 10), .int a1, .int a2]) (jx_Qi (mm_dyn G) out.2 out.1 (jx_A (mm_rg G) sz)) 0 0 (jx_A (mm_rg G) sz) := by
  unfold f_X6_at at h
  refine jx_met (by decide) (Nat.le_of_ble_eq_true rfl) ?_
  refine jx_sub (lv' := [(0, .ref (G.2 10)), (1, .int a1), (2, .int a2)]) [0, 1, 2] rfl ?_
  refine jx_aload_n (pc := 0) (k0 := 0) rfl dX6_at_0 ?_
  refine jx_iload_n (pc := 1) (k0 := 1) rfl dX6_at_1 ?_
  obtain ⟨q1, eq1, h⟩ := jx_bd_o h
  refine jx_callVi (pc := 2) [.int a1] (fun sz' => k_X6_isPlace l G hG sz' σ a1 q1 eq1) kv_X6_145 mm_jok mm_rc rfl rfl (Nat.le_of_ble_eq_true rfl) ⟨⟨rfl, rfl⟩, ⟨Nat.le_of_ble_eq_true rfl, Nat.le_of_ble_eq_true rfl⟩, Nat.zero_le _, Nat.zero_le _⟩ dX6_at_2 ?_
  refine jx_if_eq (pc := 5) (tgt := 17) dX6_at_5 (by decide) (fun c2 => ?_) (fun c2 => ?_)
  · have h := jx_t c2 h
    refine jx_iconst (pc := 17) (v := (-1 : Int32)) (by decide) dX6_at_17 ?_
    have h := Option.some.inj h
    subst h
    exact jx_iret (pc := 18) dX6_at_18
  · have h := jx_f c2 h
    refine jx_iload_n (pc := 8) (k0 := 2) rfl dX6_at_8 ?_
    refine jx_iconst (pc := 9) (v := (0 : Int32)) (by decide) dX6_at_9 ?_
    refine jx_iconst (pc := 10) (v := (5 : Int32)) (by decide) dX6_at_10 ?_
    obtain ⟨q3, eq3, h⟩ := jx_bd_o h
    refine jx_callSi (pc := 11) [.int a2, .int (0 : Int32), .int (5 : Int32)] (fun sz' => k_X6_in l G hG sz' σ a2 (0 : Int32) (5 : Int32) q3 eq3) ks_X6_48 mm_jok rfl rfl (Nat.le_of_ble_eq_true rfl) ⟨⟨rfl, rfl⟩, ⟨Nat.le_of_ble_eq_true rfl, Nat.le_of_ble_eq_true rfl⟩, Nat.zero_le _, Nat.zero_le _⟩ dX6_at_11 ?_
    refine jx_if_ne (pc := 14) (tgt := 19) dX6_at_14 (by decide) (fun c4 => ?_) (fun c4 => ?_)
    · have h := jx_f c4 h
      refine jx_iload_n (pc := 19) (k0 := 2) rfl dX6_at_19 ?_
      refine jx_iconst (pc := 20) (v := (3 : Int32)) (by decide) dX6_at_20 ?_
      refine jx_icmp_ge (pc := 21) (tgt := 39) dX6_at_21 (by decide) (fun c5 => ?_) (fun c5 => ?_)
      · have h := jx_t c5 h
        refine jx_aload_n (pc := 39) (k0 := 0) rfl dX6_at_39 ?_
        refine jx_iload_n (pc := 40) (k0 := 1) rfl dX6_at_40 ?_
        refine jx_aload_n (pc := 41) (k0 := 0) rfl dX6_at_41 ?_
        refine mm_g_s (pc := 42) fl_X6_9 dX6_at_42 ?_
        refine jx_bipush (pc := 45) (v := (7 : Int32)) (by decide) dX6_at_45 ?_
        refine mm_l_s (pc := 47) (j := 7) (jx_in_o (by decide)) (by decide) dX6_at_47 ?_
        obtain ⟨q6, eq6, h⟩ := jx_bd_o h
        refine jx_callVi (pc := 48) [.int a1, .int (σ 1 7)] (fun sz' => k_X6_goesFrom l G hG sz' σ a1 (σ 1 7) q6 eq6) kv_X6_149 mm_jok mm_rc rfl rfl (Nat.le_of_ble_eq_true rfl) ⟨⟨rfl, rfl⟩, ⟨Nat.le_of_ble_eq_true rfl, Nat.le_of_ble_eq_true rfl⟩, Nat.zero_le _, Nat.zero_le _⟩ dX6_at_48 ?_
        refine jx_istore_n (pc := 51) (i := 3) rfl rfl (by decide) (lv' := [(3, .int q6.1), (0, .ref (G.2 10)), (1, .int a1), (2, .int a2)]) rfl dX6_at_51 ?_
        refine jx_iload_n (pc := 52) (k0 := 2) rfl dX6_at_52 ?_
        refine jx_iconst (pc := 53) (v := (3 : Int32)) (by decide) dX6_at_53 ?_
        refine jx_icmp_ne (pc := 54) (tgt := 72) dX6_at_54 (by decide) (fun c7 => ?_) (fun c7 => ?_)
        · have h := jx_f c7 h
          refine jx_iload_n (pc := 72) (k0 := 2) rfl dX6_at_72 ?_
          refine jx_iconst (pc := 73) (v := (4 : Int32)) (by decide) dX6_at_73 ?_
          refine jx_icmp_ne (pc := 74) (tgt := 81) dX6_at_74 (by decide) (fun c8 => ?_) (fun c8 => ?_)
          · have h := jx_f c8 h
            refine jx_aload_n (pc := 81) (k0 := 0) rfl dX6_at_81 ?_
            refine mm_g_weighed (pc := 82) fl_X6_138 dX6_at_82 ?_
            have h := Option.some.inj h
            subst h
            exact jx_iret (pc := 85) dX6_at_85
          · have h := jx_t c8 h
            refine jx_iload_n (pc := 77) (k0 := 3) rfl dX6_at_77 ?_
            refine jx_goto (pc := 78) (tgt := 85) dX6_at_78 (by decide) ?_
            have h := Option.some.inj h
            subst h
            exact jx_iret (pc := 85) dX6_at_85
        · have h := jx_t c7 h
          refine jx_aload_n (pc := 57) (k0 := 0) rfl dX6_at_57 ?_
          refine mm_g_isHeld (pc := 58) fl_X6_132 dX6_at_58 ?_
          refine jx_if_eq (pc := 61) (tgt := 68) dX6_at_61 (by decide) (fun c9 => ?_) (fun c9 => ?_)
          · have h := jx_t c9 h
            refine jx_iconst (pc := 68) (v := (0 : Int32)) (by decide) dX6_at_68 ?_
            refine jx_goto (pc := 69) (tgt := 85) dX6_at_69 (by decide) ?_
            have h := Option.some.inj h
            subst h
            exact jx_iret (pc := 85) dX6_at_85
          · have h := jx_f c9 h
            refine jx_iconst (pc := 64) (v := (1 : Int32)) (by decide) dX6_at_64 ?_
            refine jx_goto (pc := 65) (tgt := 85) dX6_at_65 (by decide) ?_
            have h := Option.some.inj h
            subst h
            exact jx_iret (pc := 85) dX6_at_85
      · have h := jx_f c5 h
        refine jx_aload_n (pc := 24) (k0 := 0) rfl dX6_at_24 ?_
        refine mm_g_s (pc := 25) fl_X6_9 dX6_at_25 ?_
        refine jx_bipush (pc := 28) (v := (10 : Int32)) (by decide) dX6_at_28 ?_
        refine jx_bipush (pc := 30) (v := (7 : Int32)) (by decide) dX6_at_30 ?_
        refine jx_iload_n (pc := 32) (k0 := 2) rfl dX6_at_32 ?_
        refine jx_imul (pc := 33) dX6_at_33 ?_
        refine jx_iadd (pc := 34) dX6_at_34 ?_
        refine jx_iload_n (pc := 35) (k0 := 1) rfl dX6_at_35 ?_
        refine jx_iadd (pc := 36) dX6_at_36 ?_
        obtain ⟨g10, h⟩ := jx_gd_o h
        refine mm_l_s (pc := 37) (jx_in_o g10) rfl dX6_at_37 ?_
        have h := Option.some.inj h
        subst h
        exact jx_iret (pc := 38) dX6_at_38
    · have h := jx_t c4 h
      refine jx_iconst (pc := 17) (v := (-1 : Int32)) (by decide) dX6_at_17 ?_
      have h := Option.some.inj h
      subst h
      exact jx_iret (pc := 18) dX6_at_18
theorem dX6_voter_0 : decode cX6_voter 0 = .ok (.iload_n 1, 1) := by decide +kernel
theorem dX6_voter_1 : decode cX6_voter 1 = .ok (.iconst 0, 1) := by decide +kernel
theorem dX6_voter_2 : decode cX6_voter 2 = .ok (.bipush 6, 2) := by decide +kernel
theorem dX6_voter_4 : decode cX6_voter 4 = .ok (.invokestatic 48, 3) := by decide +kernel
theorem dX6_voter_7 : decode cX6_voter 7 = .ok (.ifCond .eq 11, 3) := by decide +kernel
theorem dX6_voter_10 : decode cX6_voter 10 = .ok (.aload_n 0, 1) := by decide +kernel
theorem dX6_voter_11 : decode cX6_voter 11 = .ok (.iload_n 3, 1) := by decide +kernel
theorem dX6_voter_12 : decode cX6_voter 12 = .ok (.invokevirtual 145, 3) := by decide +kernel
theorem dX6_voter_15 : decode cX6_voter 15 = .ok (.ifCond .ne 5, 3) := by decide +kernel
theorem dX6_voter_18 : decode cX6_voter 18 = .ok (.iconst (-1), 1) := by decide +kernel
theorem dX6_voter_19 : decode cX6_voter 19 = .ok (.ireturn, 1) := by decide +kernel
theorem dX6_voter_20 : decode cX6_voter 20 = .ok (.iload_n 2, 1) := by decide +kernel
theorem dX6_voter_21 : decode cX6_voter 21 = .ok (.iconst 0, 1) := by decide +kernel
theorem dX6_voter_22 : decode cX6_voter 22 = .ok (.bipush 9, 2) := by decide +kernel
theorem dX6_voter_24 : decode cX6_voter 24 = .ok (.invokestatic 48, 3) := by decide +kernel
theorem dX6_voter_27 : decode cX6_voter 27 = .ok (.ifCond .eq 24, 3) := by decide +kernel
theorem dX6_voter_30 : decode cX6_voter 30 = .ok (.iload 4, 2) := by decide +kernel
theorem dX6_voter_32 : decode cX6_voter 32 = .ok (.iconst 0, 1) := by decide +kernel
theorem dX6_voter_33 : decode cX6_voter 33 = .ok (.iconst 1, 1) := by decide +kernel
theorem dX6_voter_34 : decode cX6_voter 34 = .ok (.invokestatic 48, 3) := by decide +kernel
theorem dX6_voter_37 : decode cX6_voter 37 = .ok (.ifCond .eq 14, 3) := by decide +kernel
theorem dX6_voter_40 : decode cX6_voter 40 = .ok (.iload 5, 2) := by decide +kernel
theorem dX6_voter_42 : decode cX6_voter 42 = .ok (.iconst 0, 1) := by decide +kernel
theorem dX6_voter_43 : decode cX6_voter 43 = .ok (.bipush 12, 2) := by decide +kernel
theorem dX6_voter_45 : decode cX6_voter 45 = .ok (.invokestatic 48, 3) := by decide +kernel
theorem dX6_voter_48 : decode cX6_voter 48 = .ok (.ifCond .ne 6, 3) := by decide +kernel
theorem dX6_voter_51 : decode cX6_voter 51 = .ok (.bipush (-2), 2) := by decide +kernel
theorem dX6_voter_53 : decode cX6_voter 53 = .ok (.ireturn, 1) := by decide +kernel
theorem dX6_voter_54 : decode cX6_voter 54 = .ok (.aload_n 0, 1) := by decide +kernel
theorem dX6_voter_55 : decode cX6_voter 55 = .ok (.getfield 9, 3) := by decide +kernel
theorem dX6_voter_58 : decode cX6_voter 58 = .ok (.iconst 0, 1) := by decide +kernel
theorem dX6_voter_59 : decode cX6_voter 59 = .ok (.iaload, 1) := by decide +kernel
theorem dX6_voter_60 : decode cX6_voter 60 = .ok (.bipush 6, 2) := by decide +kernel
theorem dX6_voter_62 : decode cX6_voter 62 = .ok (.if_icmp .ne 6, 3) := by decide +kernel
theorem dX6_voter_65 : decode cX6_voter 65 = .ok (.bipush (-4), 2) := by decide +kernel
theorem dX6_voter_67 : decode cX6_voter 67 = .ok (.ireturn, 1) := by decide +kernel
theorem dX6_voter_68 : decode cX6_voter 68 = .ok (.aload_n 0, 1) := by decide +kernel
theorem dX6_voter_69 : decode cX6_voter 69 = .ok (.getfield 9, 3) := by decide +kernel
theorem dX6_voter_72 : decode cX6_voter 72 = .ok (.iconst 0, 1) := by decide +kernel
theorem dX6_voter_73 : decode cX6_voter 73 = .ok (.iaload, 1) := by decide +kernel
theorem dX6_voter_74 : decode cX6_voter 74 = .ok (.istore 6, 2) := by decide +kernel
theorem dX6_voter_76 : decode cX6_voter 76 = .ok (.aload_n 0, 1) := by decide +kernel
theorem dX6_voter_77 : decode cX6_voter 77 = .ok (.getfield 9, 3) := by decide +kernel
theorem dX6_voter_80 : decode cX6_voter 80 = .ok (.bipush 31, 2) := by decide +kernel
theorem dX6_voter_82 : decode cX6_voter 82 = .ok (.iload 6, 2) := by decide +kernel
theorem dX6_voter_84 : decode cX6_voter 84 = .ok (.iadd, 1) := by decide +kernel
theorem dX6_voter_85 : decode cX6_voter 85 = .ok (.iload_n 1, 1) := by decide +kernel
theorem dX6_voter_86 : decode cX6_voter 86 = .ok (.iastore, 1) := by decide +kernel
theorem dX6_voter_87 : decode cX6_voter 87 = .ok (.aload_n 0, 1) := by decide +kernel
theorem dX6_voter_88 : decode cX6_voter 88 = .ok (.getfield 9, 3) := by decide +kernel
theorem dX6_voter_91 : decode cX6_voter 91 = .ok (.bipush 37, 2) := by decide +kernel
theorem dX6_voter_93 : decode cX6_voter 93 = .ok (.iload 6, 2) := by decide +kernel
theorem dX6_voter_95 : decode cX6_voter 95 = .ok (.iadd, 1) := by decide +kernel
theorem dX6_voter_96 : decode cX6_voter 96 = .ok (.iload_n 2, 1) := by decide +kernel
theorem dX6_voter_97 : decode cX6_voter 97 = .ok (.iastore, 1) := by decide +kernel
theorem dX6_voter_98 : decode cX6_voter 98 = .ok (.aload_n 0, 1) := by decide +kernel
theorem dX6_voter_99 : decode cX6_voter 99 = .ok (.getfield 9, 3) := by decide +kernel
theorem dX6_voter_102 : decode cX6_voter 102 = .ok (.bipush 43, 2) := by decide +kernel
theorem dX6_voter_104 : decode cX6_voter 104 = .ok (.iload 6, 2) := by decide +kernel
theorem dX6_voter_106 : decode cX6_voter 106 = .ok (.iadd, 1) := by decide +kernel
theorem dX6_voter_107 : decode cX6_voter 107 = .ok (.iload_n 3, 1) := by decide +kernel
theorem dX6_voter_108 : decode cX6_voter 108 = .ok (.iastore, 1) := by decide +kernel
theorem dX6_voter_109 : decode cX6_voter 109 = .ok (.aload_n 0, 1) := by decide +kernel
theorem dX6_voter_110 : decode cX6_voter 110 = .ok (.getfield 9, 3) := by decide +kernel
theorem dX6_voter_113 : decode cX6_voter 113 = .ok (.bipush 49, 2) := by decide +kernel
theorem dX6_voter_115 : decode cX6_voter 115 = .ok (.iload 6, 2) := by decide +kernel
theorem dX6_voter_117 : decode cX6_voter 117 = .ok (.iadd, 1) := by decide +kernel
theorem dX6_voter_118 : decode cX6_voter 118 = .ok (.iload 4, 2) := by decide +kernel
theorem dX6_voter_120 : decode cX6_voter 120 = .ok (.iastore, 1) := by decide +kernel
theorem dX6_voter_121 : decode cX6_voter 121 = .ok (.aload_n 0, 1) := by decide +kernel
theorem dX6_voter_122 : decode cX6_voter 122 = .ok (.getfield 9, 3) := by decide +kernel
theorem dX6_voter_125 : decode cX6_voter 125 = .ok (.bipush 55, 2) := by decide +kernel
theorem dX6_voter_127 : decode cX6_voter 127 = .ok (.iload 6, 2) := by decide +kernel
theorem dX6_voter_129 : decode cX6_voter 129 = .ok (.iadd, 1) := by decide +kernel
theorem dX6_voter_130 : decode cX6_voter 130 = .ok (.iload 5, 2) := by decide +kernel
theorem dX6_voter_132 : decode cX6_voter 132 = .ok (.iastore, 1) := by decide +kernel
theorem dX6_voter_133 : decode cX6_voter 133 = .ok (.iconst 0, 1) := by decide +kernel
theorem dX6_voter_134 : decode cX6_voter 134 = .ok (.istore 7, 2) := by decide +kernel
theorem dX6_voter_136 : decode cX6_voter 136 = .ok (.iload 7, 2) := by decide +kernel
theorem dX6_voter_138 : decode cX6_voter 138 = .ok (.iconst 3, 1) := by decide +kernel
theorem dX6_voter_139 : decode cX6_voter 139 = .ok (.if_icmp .ge 25, 3) := by decide +kernel
theorem dX6_voter_142 : decode cX6_voter 142 = .ok (.aload_n 0, 1) := by decide +kernel
theorem dX6_voter_143 : decode cX6_voter 143 = .ok (.getfield 9, 3) := by decide +kernel
theorem dX6_voter_146 : decode cX6_voter 146 = .ok (.bipush 61, 2) := by decide +kernel
theorem dX6_voter_148 : decode cX6_voter 148 = .ok (.iconst 3, 1) := by decide +kernel
theorem dX6_voter_149 : decode cX6_voter 149 = .ok (.iload 6, 2) := by decide +kernel
theorem dX6_voter_151 : decode cX6_voter 151 = .ok (.imul, 1) := by decide +kernel
theorem dX6_voter_152 : decode cX6_voter 152 = .ok (.iadd, 1) := by decide +kernel
theorem dX6_voter_153 : decode cX6_voter 153 = .ok (.iload 7, 2) := by decide +kernel
theorem dX6_voter_155 : decode cX6_voter 155 = .ok (.iadd, 1) := by decide +kernel
theorem dX6_voter_156 : decode cX6_voter 156 = .ok (.iconst 0, 1) := by decide +kernel
theorem dX6_voter_157 : decode cX6_voter 157 = .ok (.iastore, 1) := by decide +kernel
theorem dX6_voter_158 : decode cX6_voter 158 = .ok (.iinc 7 1, 3) := by decide +kernel
theorem dX6_voter_161 : decode cX6_voter 161 = .ok (.goto (-25), 3) := by decide +kernel
theorem dX6_voter_164 : decode cX6_voter 164 = .ok (.aload_n 0, 1) := by decide +kernel
theorem dX6_voter_165 : decode cX6_voter 165 = .ok (.getfield 9, 3) := by decide +kernel
theorem dX6_voter_168 : decode cX6_voter 168 = .ok (.iconst 0, 1) := by decide +kernel
theorem dX6_voter_169 : decode cX6_voter 169 = .ok (.dup2, 1) := by decide +kernel
theorem dX6_voter_170 : decode cX6_voter 170 = .ok (.iaload, 1) := by decide +kernel
theorem dX6_voter_171 : decode cX6_voter 171 = .ok (.iconst 1, 1) := by decide +kernel
theorem dX6_voter_172 : decode cX6_voter 172 = .ok (.iadd, 1) := by decide +kernel
theorem dX6_voter_173 : decode cX6_voter 173 = .ok (.iastore, 1) := by decide +kernel
theorem dX6_voter_174 : decode cX6_voter 174 = .ok (.iload 6, 2) := by decide +kernel
theorem dX6_voter_176 : decode cX6_voter 176 = .ok (.ireturn, 1) := by decide +kernel
abbrev rm_X6_voter : Room := { frames := 2, cells := 0, slots := 0, locals := 43 }
abbrev jJ_X6_voter (l : Launch) (G : jx_G) (sz : Nat) (out : (Int32 × jx_M)) (pc : Nat) (lv : List (Nat × Value)) (st : List Value) (σ : jx_M) : Prop := jx_J l (mm_env G) (mm_dyn G) (mm_rg G) sz RX6 "voter" cX6_voter 8 (some .int) rm_X6_voter (fun below args s => MQ below (jx_Qi (mm_dyn G) out.2 out.1 (jx_A (mm_rg G) sz)) args s 0 0 (jx_A (mm_rg G) sz)) 0 0 pc lv st σ
def g_X6_voter_136 (k136 : jx_M → Int32 → Int32 → Option (Int32 × jx_M)) (σ : jx_M) (v6 : Int32) (v7 : Int32) : Option (Int32 × jx_M) :=
  if (3 : Int32) ≤ v7 then jx_lt (jx_mu σ 1 0 ((σ 1 0) + (1 : Int32))) (fun σ2 => some (v6, σ2)) else jx_gd (jx_in (((61 : Int32) + ((3 : Int32) * v6)) + v7) 920) (jx_lt (jx_mu σ 1 (((61 : Int32) + ((3 : Int32) * v6)) + v7).toNatClampNeg (0 : Int32)) (fun σ4 => jx_lt (v7 + (1 : Int32)) (fun x5 => (k136 σ4 v6 x5))))
set_option maxHeartbeats 4000000 in
set_option maxRecDepth 100000 in
theorem jg_X6_voter_136 (l : Launch) (G : jx_G) (hG : mm_ok G) (sz : Nat) (out : (Int32 × jx_M)) (k136 : jx_M → Int32 → Int32 → Option (Int32 × jx_M)) (h136 : ∀ (σ : jx_M) (v6 : Int32) (v7 : Int32), k136 σ v6 v7 = some out → jJ_X6_voter l G sz out 136 [(0, .ref (G.2 10)), (6, .int v6), (7, .int v7)] [] σ) (σ : jx_M) (v6 : Int32) (v7 : Int32) (h : g_X6_voter_136 k136 σ v6 v7 = some out) : jJ_X6_voter l G sz out 136 [(0, .ref (G.2 10)), (6, .int v6), (7, .int v7)] [] σ := by
  unfold g_X6_voter_136 at h
  refine jx_iload (pc := 136) (i := 7) rfl dX6_voter_136 ?_
  refine jx_iconst (pc := 138) (v := (3 : Int32)) (by decide) dX6_voter_138 ?_
  refine jx_icmp_ge (pc := 139) (tgt := 164) dX6_voter_139 (by decide) (fun c1 => ?_) (fun c1 => ?_)
  · have h := jx_t c1 h
    refine jx_aload_n (pc := 164) (k0 := 0) rfl dX6_voter_164 ?_
    refine mm_g_s (pc := 165) fl_X6_9 dX6_voter_165 ?_
    refine jx_iconst (pc := 168) (v := (0 : Int32)) (by decide) dX6_voter_168 ?_
    refine jx_dup2 (pc := 169) rfl rfl dX6_voter_169 ?_
    refine mm_l_s (pc := 170) (j := 0) (jx_in_o (by decide)) (by decide) dX6_voter_170 ?_
    refine jx_iconst (pc := 171) (v := (1 : Int32)) (by decide) dX6_voter_171 ?_
    refine jx_iadd (pc := 172) dX6_voter_172 ?_
    obtain ⟨σ2, eσ2, h⟩ := jx_lt_o h
    refine mm_s_s (pc := 173) hG (jx_in_o (by decide)) (by decide) eσ2 dX6_voter_173 ?_
    refine jx_iload (pc := 174) (i := 6) rfl dX6_voter_174 ?_
    have h := Option.some.inj h
    subst h
    exact jx_iret (pc := 176) dX6_voter_176
  · have h := jx_f c1 h
    refine jx_aload_n (pc := 142) (k0 := 0) rfl dX6_voter_142 ?_
    refine mm_g_s (pc := 143) fl_X6_9 dX6_voter_143 ?_
    refine jx_bipush (pc := 146) (v := (61 : Int32)) (by decide) dX6_voter_146 ?_
    refine jx_iconst (pc := 148) (v := (3 : Int32)) (by decide) dX6_voter_148 ?_
    refine jx_iload (pc := 149) (i := 6) rfl dX6_voter_149 ?_
    refine jx_imul (pc := 151) dX6_voter_151 ?_
    refine jx_iadd (pc := 152) dX6_voter_152 ?_
    refine jx_iload (pc := 153) (i := 7) rfl dX6_voter_153 ?_
    refine jx_iadd (pc := 155) dX6_voter_155 ?_
    refine jx_iconst (pc := 156) (v := (0 : Int32)) (by decide) dX6_voter_156 ?_
    obtain ⟨g3, h⟩ := jx_gd_o h
    obtain ⟨σ4, eσ4, h⟩ := jx_lt_o h
    refine mm_s_s (pc := 157) hG (jx_in_o g3) rfl eσ4 dX6_voter_157 ?_
    obtain ⟨x5, ex5, h⟩ := jx_lt_o h
    refine jx_iinc (pc := 158) (i := 7) (v := v7) rfl ex5 (n := 1) (by decide) (by decide) (lv' := [(7, .int x5), (0, .ref (G.2 10)), (6, .int v6)]) rfl dX6_voter_158 ?_
    refine jx_goto (pc := 161) (tgt := 136) dX6_voter_161 (by decide) ?_
    exact jx_sub [1, 2, 0] rfl (h136 σ4 v6 x5 h)
def b_X6_voter_136  : Nat → jx_M → Int32 → Int32 → Option (Int32 × jx_M)
  | 0, _, _, _ => none
  | n + 1, σ, v6, v7 => g_X6_voter_136 (b_X6_voter_136 n) σ v6 v7
theorem jb_X6_voter_136 (l : Launch) (G : jx_G) (hG : mm_ok G) (sz : Nat) (out : (Int32 × jx_M))  : ∀ (n : Nat) (σ : jx_M) (v6 : Int32) (v7 : Int32), b_X6_voter_136 n σ v6 v7 = some out → jJ_X6_voter l G sz out 136 [(0, .ref (G.2 10)), (6, .int v6), (7, .int v7)] [] σ := by
  intro n
  induction n with
  | zero =>
    intro σ v6 v7 h
    cases h
  | succ n ih =>
    intro σ v6 v7 h
    exact jg_X6_voter_136 l G hG sz out (b_X6_voter_136 n) ih σ v6 v7 h
def f_X6_voter (σ : jx_M) (a1 : Int32) (a2 : Int32) (a3 : Int32) (a4 : Int32) (a5 : Int32) : Option (Int32 × jx_M) :=
  jx_bd (f_X6_in a1 (0 : Int32) (6 : Int32)) (fun q1 => if q1 = 0 then some ((-1 : Int32), σ) else jx_bd (f_X6_isPlace σ a3) (fun q3 => if q3 = 0 then some ((-1 : Int32), σ) else jx_bd (f_X6_in a2 (0 : Int32) (9 : Int32)) (fun q5 => if q5 = 0 then some ((-2 : Int32), σ) else jx_bd (f_X6_in a4 (0 : Int32) (1 : Int32)) (fun q7 => if q7 = 0 then some ((-2 : Int32), σ) else jx_bd (f_X6_in a5 (0 : Int32) (12 : Int32)) (fun q9 => if q9 = 0 then some ((-2 : Int32), σ) else if (σ 1 0) = (6 : Int32) then some ((-4 : Int32), σ) else jx_lt ((σ 1 0)) (fun x12 => jx_gd (jx_in ((31 : Int32) + x12) 920) (jx_lt (jx_mu σ 1 ((31 : Int32) + x12).toNatClampNeg a1) (fun σ14 => jx_gd (jx_in ((37 : Int32) + x12) 920) (jx_lt (jx_mu σ14 1 ((37 : Int32) + x12).toNatClampNeg a2) (fun σ16 => jx_gd (jx_in ((43 : Int32) + x12) 920) (jx_lt (jx_mu σ16 1 ((43 : Int32) + x12).toNatClampNeg a3) (fun σ18 => jx_gd (jx_in ((49 : Int32) + x12) 920) (jx_lt (jx_mu σ18 1 ((49 : Int32) + x12).toNatClampNeg a4) (fun σ20 => jx_gd (jx_in ((55 : Int32) + x12) 920) (jx_lt (jx_mu σ20 1 ((55 : Int32) + x12).toNatClampNeg a5) (fun σ22 => (b_X6_voter_136 jx_fuel σ22 x12 (0 : Int32))))))))))))))))))
set_option maxHeartbeats 4000000 in
set_option maxRecDepth 100000 in
theorem k_X6_voter (l : Launch) (G : jx_G) (hG : mm_ok G) (sz : Nat) (σ : jx_M) (a1 : Int32) (a2 : Int32) (a3 : Int32) (a4 : Int32) (a5 : Int32) (out : (Int32 × jx_M)) (h : f_X6_voter σ a1 a2 a3 a4 a5 = some out) : Met l yX6_voter (Cond.code yX6_voter cX6_voter 8 (some .int) :: jx_ws) rm_X6_voter (jx_Pc (mm_env G) (mm_dyn G) (mm_rg G) sz σ [.ref (G.2 10), .int a1, .int a2, .int a3, .int a4, .int a5]) (jx_Qi (mm_dyn G) out.2 out.1 (jx_A (mm_rg G) sz)) 0 0 (jx_A (mm_rg G) sz) := by
  unfold f_X6_voter at h
  refine jx_met (by decide) (Nat.le_of_ble_eq_true rfl) ?_
  refine jx_sub (lv' := [(0, .ref (G.2 10)), (1, .int a1), (2, .int a2), (3, .int a3), (4, .int a4), (5, .int a5)]) [0, 1, 2, 3, 4, 5] rfl ?_
  refine jx_iload_n (pc := 0) (k0 := 1) rfl dX6_voter_0 ?_
  refine jx_iconst (pc := 1) (v := (0 : Int32)) (by decide) dX6_voter_1 ?_
  refine jx_bipush (pc := 2) (v := (6 : Int32)) (by decide) dX6_voter_2 ?_
  obtain ⟨q1, eq1, h⟩ := jx_bd_o h
  refine jx_callSi (pc := 4) [.int a1, .int (0 : Int32), .int (6 : Int32)] (fun sz' => k_X6_in l G hG sz' σ a1 (0 : Int32) (6 : Int32) q1 eq1) ks_X6_48 mm_jok rfl rfl (Nat.le_of_ble_eq_true rfl) ⟨⟨rfl, rfl⟩, ⟨Nat.le_of_ble_eq_true rfl, Nat.le_of_ble_eq_true rfl⟩, Nat.zero_le _, Nat.zero_le _⟩ dX6_voter_4 ?_
  refine jx_if_eq (pc := 7) (tgt := 18) dX6_voter_7 (by decide) (fun c2 => ?_) (fun c2 => ?_)
  · have h := jx_t c2 h
    refine jx_iconst (pc := 18) (v := (-1 : Int32)) (by decide) dX6_voter_18 ?_
    have h := Option.some.inj h
    subst h
    exact jx_iret (pc := 19) dX6_voter_19
  · have h := jx_f c2 h
    refine jx_aload_n (pc := 10) (k0 := 0) rfl dX6_voter_10 ?_
    refine jx_iload_n (pc := 11) (k0 := 3) rfl dX6_voter_11 ?_
    obtain ⟨q3, eq3, h⟩ := jx_bd_o h
    refine jx_callVi (pc := 12) [.int a3] (fun sz' => k_X6_isPlace l G hG sz' σ a3 q3 eq3) kv_X6_145 mm_jok mm_rc rfl rfl (Nat.le_of_ble_eq_true rfl) ⟨⟨rfl, rfl⟩, ⟨Nat.le_of_ble_eq_true rfl, Nat.le_of_ble_eq_true rfl⟩, Nat.zero_le _, Nat.zero_le _⟩ dX6_voter_12 ?_
    refine jx_if_ne (pc := 15) (tgt := 20) dX6_voter_15 (by decide) (fun c4 => ?_) (fun c4 => ?_)
    · have h := jx_f c4 h
      refine jx_iload_n (pc := 20) (k0 := 2) rfl dX6_voter_20 ?_
      refine jx_iconst (pc := 21) (v := (0 : Int32)) (by decide) dX6_voter_21 ?_
      refine jx_bipush (pc := 22) (v := (9 : Int32)) (by decide) dX6_voter_22 ?_
      obtain ⟨q5, eq5, h⟩ := jx_bd_o h
      refine jx_callSi (pc := 24) [.int a2, .int (0 : Int32), .int (9 : Int32)] (fun sz' => k_X6_in l G hG sz' σ a2 (0 : Int32) (9 : Int32) q5 eq5) ks_X6_48 mm_jok rfl rfl (Nat.le_of_ble_eq_true rfl) ⟨⟨rfl, rfl⟩, ⟨Nat.le_of_ble_eq_true rfl, Nat.le_of_ble_eq_true rfl⟩, Nat.zero_le _, Nat.zero_le _⟩ dX6_voter_24 ?_
      refine jx_if_eq (pc := 27) (tgt := 51) dX6_voter_27 (by decide) (fun c6 => ?_) (fun c6 => ?_)
      · have h := jx_t c6 h
        refine jx_bipush (pc := 51) (v := (-2 : Int32)) (by decide) dX6_voter_51 ?_
        have h := Option.some.inj h
        subst h
        exact jx_iret (pc := 53) dX6_voter_53
      · have h := jx_f c6 h
        refine jx_iload (pc := 30) (i := 4) rfl dX6_voter_30 ?_
        refine jx_iconst (pc := 32) (v := (0 : Int32)) (by decide) dX6_voter_32 ?_
        refine jx_iconst (pc := 33) (v := (1 : Int32)) (by decide) dX6_voter_33 ?_
        obtain ⟨q7, eq7, h⟩ := jx_bd_o h
        refine jx_callSi (pc := 34) [.int a4, .int (0 : Int32), .int (1 : Int32)] (fun sz' => k_X6_in l G hG sz' σ a4 (0 : Int32) (1 : Int32) q7 eq7) ks_X6_48 mm_jok rfl rfl (Nat.le_of_ble_eq_true rfl) ⟨⟨rfl, rfl⟩, ⟨Nat.le_of_ble_eq_true rfl, Nat.le_of_ble_eq_true rfl⟩, Nat.zero_le _, Nat.zero_le _⟩ dX6_voter_34 ?_
        refine jx_if_eq (pc := 37) (tgt := 51) dX6_voter_37 (by decide) (fun c8 => ?_) (fun c8 => ?_)
        · have h := jx_t c8 h
          refine jx_bipush (pc := 51) (v := (-2 : Int32)) (by decide) dX6_voter_51 ?_
          have h := Option.some.inj h
          subst h
          exact jx_iret (pc := 53) dX6_voter_53
        · have h := jx_f c8 h
          refine jx_iload (pc := 40) (i := 5) rfl dX6_voter_40 ?_
          refine jx_iconst (pc := 42) (v := (0 : Int32)) (by decide) dX6_voter_42 ?_
          refine jx_bipush (pc := 43) (v := (12 : Int32)) (by decide) dX6_voter_43 ?_
          obtain ⟨q9, eq9, h⟩ := jx_bd_o h
          refine jx_callSi (pc := 45) [.int a5, .int (0 : Int32), .int (12 : Int32)] (fun sz' => k_X6_in l G hG sz' σ a5 (0 : Int32) (12 : Int32) q9 eq9) ks_X6_48 mm_jok rfl rfl (Nat.le_of_ble_eq_true rfl) ⟨⟨rfl, rfl⟩, ⟨Nat.le_of_ble_eq_true rfl, Nat.le_of_ble_eq_true rfl⟩, Nat.zero_le _, Nat.zero_le _⟩ dX6_voter_45 ?_
          refine jx_if_ne (pc := 48) (tgt := 54) dX6_voter_48 (by decide) (fun c10 => ?_) (fun c10 => ?_)
          · have h := jx_f c10 h
            refine jx_aload_n (pc := 54) (k0 := 0) rfl dX6_voter_54 ?_
            refine mm_g_s (pc := 55) fl_X6_9 dX6_voter_55 ?_
            refine jx_iconst (pc := 58) (v := (0 : Int32)) (by decide) dX6_voter_58 ?_
            refine mm_l_s (pc := 59) (j := 0) (jx_in_o (by decide)) (by decide) dX6_voter_59 ?_
            refine jx_bipush (pc := 60) (v := (6 : Int32)) (by decide) dX6_voter_60 ?_
            refine jx_icmp_ne (pc := 62) (tgt := 68) dX6_voter_62 (by decide) (fun c11 => ?_) (fun c11 => ?_)
            · have h := jx_f c11 h
              refine jx_aload_n (pc := 68) (k0 := 0) rfl dX6_voter_68 ?_
              refine mm_g_s (pc := 69) fl_X6_9 dX6_voter_69 ?_
              refine jx_iconst (pc := 72) (v := (0 : Int32)) (by decide) dX6_voter_72 ?_
              refine mm_l_s (pc := 73) (j := 0) (jx_in_o (by decide)) (by decide) dX6_voter_73 ?_
              obtain ⟨x12, ex12, h⟩ := jx_lt_o h
              refine jx_istore (pc := 74) (i := 6) ex12 (by decide) (lv' := [(6, .int x12), (0, .ref (G.2 10)), (1, .int a1), (2, .int a2), (3, .int a3), (4, .int a4), (5, .int a5)]) rfl dX6_voter_74 ?_
              refine jx_aload_n (pc := 76) (k0 := 0) rfl dX6_voter_76 ?_
              refine mm_g_s (pc := 77) fl_X6_9 dX6_voter_77 ?_
              refine jx_bipush (pc := 80) (v := (31 : Int32)) (by decide) dX6_voter_80 ?_
              refine jx_iload (pc := 82) (i := 6) rfl dX6_voter_82 ?_
              refine jx_iadd (pc := 84) dX6_voter_84 ?_
              refine jx_iload_n (pc := 85) (k0 := 1) rfl dX6_voter_85 ?_
              obtain ⟨g13, h⟩ := jx_gd_o h
              obtain ⟨σ14, eσ14, h⟩ := jx_lt_o h
              refine mm_s_s (pc := 86) hG (jx_in_o g13) rfl eσ14 dX6_voter_86 ?_
              refine jx_aload_n (pc := 87) (k0 := 0) rfl dX6_voter_87 ?_
              refine mm_g_s (pc := 88) fl_X6_9 dX6_voter_88 ?_
              refine jx_bipush (pc := 91) (v := (37 : Int32)) (by decide) dX6_voter_91 ?_
              refine jx_iload (pc := 93) (i := 6) rfl dX6_voter_93 ?_
              refine jx_iadd (pc := 95) dX6_voter_95 ?_
              refine jx_iload_n (pc := 96) (k0 := 2) rfl dX6_voter_96 ?_
              obtain ⟨g15, h⟩ := jx_gd_o h
              obtain ⟨σ16, eσ16, h⟩ := jx_lt_o h
              refine mm_s_s (pc := 97) hG (jx_in_o g15) rfl eσ16 dX6_voter_97 ?_
              refine jx_aload_n (pc := 98) (k0 := 0) rfl dX6_voter_98 ?_
              refine mm_g_s (pc := 99) fl_X6_9 dX6_voter_99 ?_
              refine jx_bipush (pc := 102) (v := (43 : Int32)) (by decide) dX6_voter_102 ?_
              refine jx_iload (pc := 104) (i := 6) rfl dX6_voter_104 ?_
              refine jx_iadd (pc := 106) dX6_voter_106 ?_
              refine jx_iload_n (pc := 107) (k0 := 3) rfl dX6_voter_107 ?_
              obtain ⟨g17, h⟩ := jx_gd_o h
              obtain ⟨σ18, eσ18, h⟩ := jx_lt_o h
              refine mm_s_s (pc := 108) hG (jx_in_o g17) rfl eσ18 dX6_voter_108 ?_
              refine jx_aload_n (pc := 109) (k0 := 0) rfl dX6_voter_109 ?_
              refine mm_g_s (pc := 110) fl_X6_9 dX6_voter_110 ?_
              refine jx_bipush (pc := 113) (v := (49 : Int32)) (by decide) dX6_voter_113 ?_
              refine jx_iload (pc := 115) (i := 6) rfl dX6_voter_115 ?_
              refine jx_iadd (pc := 117) dX6_voter_117 ?_
              refine jx_iload (pc := 118) (i := 4) rfl dX6_voter_118 ?_
              obtain ⟨g19, h⟩ := jx_gd_o h
              obtain ⟨σ20, eσ20, h⟩ := jx_lt_o h
              refine mm_s_s (pc := 120) hG (jx_in_o g19) rfl eσ20 dX6_voter_120 ?_
              refine jx_aload_n (pc := 121) (k0 := 0) rfl dX6_voter_121 ?_
              refine mm_g_s (pc := 122) fl_X6_9 dX6_voter_122 ?_
              refine jx_bipush (pc := 125) (v := (55 : Int32)) (by decide) dX6_voter_125 ?_
              refine jx_iload (pc := 127) (i := 6) rfl dX6_voter_127 ?_
              refine jx_iadd (pc := 129) dX6_voter_129 ?_
              refine jx_iload (pc := 130) (i := 5) rfl dX6_voter_130 ?_
              obtain ⟨g21, h⟩ := jx_gd_o h
              obtain ⟨σ22, eσ22, h⟩ := jx_lt_o h
              refine mm_s_s (pc := 132) hG (jx_in_o g21) rfl eσ22 dX6_voter_132 ?_
              refine jx_iconst (pc := 133) (v := (0 : Int32)) (by decide) dX6_voter_133 ?_
              refine jx_istore (pc := 134) (i := 7) rfl (by decide) (lv' := [(7, .int (0 : Int32)), (6, .int x12), (0, .ref (G.2 10)), (1, .int a1), (2, .int a2), (3, .int a3), (4, .int a4), (5, .int a5)]) rfl dX6_voter_134 ?_
              exact jx_sub [2, 1, 0] rfl (jb_X6_voter_136 l G hG sz out jx_fuel σ22 x12 (0 : Int32) h)
            · have h := jx_t c11 h
              refine jx_bipush (pc := 65) (v := (-4 : Int32)) (by decide) dX6_voter_65 ?_
              have h := Option.some.inj h
              subst h
              exact jx_iret (pc := 67) dX6_voter_67
          · have h := jx_t c10 h
            refine jx_bipush (pc := 51) (v := (-2 : Int32)) (by decide) dX6_voter_51 ?_
            have h := Option.some.inj h
            subst h
            exact jx_iret (pc := 53) dX6_voter_53
    · have h := jx_t c4 h
      refine jx_iconst (pc := 18) (v := (-1 : Int32)) (by decide) dX6_voter_18 ?_
      have h := Option.some.inj h
      subst h
      exact jx_iret (pc := 19) dX6_voter_19
