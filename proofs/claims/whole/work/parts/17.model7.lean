/-! the reference's methods: a function on the memory each, and its contract -/
theorem dX6_plainTells_0 : decode cX6_plainTells 0 = .ok (.aload_n 0, 1) := by decide +kernel
theorem dX6_plainTells_1 : decode cX6_plainTells 1 = .ok (.iconst 3, 1) := by decide +kernel
theorem dX6_plainTells_2 : decode cX6_plainTells 2 = .ok (.invokevirtual 230, 3) := by decide +kernel
theorem dX6_plainTells_5 : decode cX6_plainTells 5 = .ok (.aload_n 0, 1) := by decide +kernel
theorem dX6_plainTells_6 : decode cX6_plainTells 6 = .ok (.iload_n 1, 1) := by decide +kernel
theorem dX6_plainTells_7 : decode cX6_plainTells 7 = .ok (.invokevirtual 255, 3) := by decide +kernel
theorem dX6_plainTells_10 : decode cX6_plainTells 10 = .ok (.iconst 2, 1) := by decide +kernel
theorem dX6_plainTells_11 : decode cX6_plainTells 11 = .ok (.imul, 1) := by decide +kernel
theorem dX6_plainTells_12 : decode cX6_plainTells 12 = .ok (.ireturn, 1) := by decide +kernel
abbrev rm_X6_plainTells : Room := { frames := 5, cells := 0, slots := 0, locals := 105 }
abbrev jJ_X6_plainTells (l : Launch) (G : jx_G) (sz : Nat) (out : (Int32 × jx_M)) (pc : Nat) (lv : List (Nat × Value)) (st : List Value) (σ : jx_M) : Prop := jx_J l (mm_env G) (mm_dyn G) (mm_rg G) sz RX6 "plainTells" cX6_plainTells 2 (some .int) rm_X6_plainTells (fun below args s => MQ below (jx_Qi (mm_dyn G) out.2 out.1 (jx_A (mm_rg G) sz)) args s 0 0 (jx_A (mm_rg G) sz)) 0 0 pc lv st σ
def f_X6_plainTells (σ : jx_M) (a1 : Int32) : Option (Int32 × jx_M) :=
  jx_bd (f_X6_ranBody σ (3 : Int32)) (fun q1 => jx_bd (f_X6_burnsActs q1 a1) (fun q2 => some ((q2.1 * (2 : Int32)), q2.2)))
set_option maxHeartbeats 4000000 in
set_option maxRecDepth 100000 in
theorem k_X6_plainTells (l : Launch) (G : jx_G) (hG : mm_ok G) (sz : Nat) (σ : jx_M) (a1 : Int32) (out : (Int32 × jx_M)) (h : f_X6_plainTells σ a1 = some out) : Met l yX6_plainTells (Cond.code yX6_plainTells cX6_plainTells 2 (some .int) :: jx_ws) rm_X6_plainTells (jx_Pc (mm_env G) (mm_dyn G) (mm_rg G) sz σ [.ref (G.2 10), .int a1]) (jx_Qi (mm_dyn G) out.2 out.1 (jx_A (mm_rg G) sz)) 0 0 (jx_A (mm_rg G) sz) := by
  unfold f_X6_plainTells at h
  refine jx_met (by decide) (Nat.le_of_ble_eq_true rfl) ?_
  refine jx_sub (lv' := [(0, .ref (G.2 10)), (1, .int a1)]) [0, 1] rfl ?_
  refine jx_aload_n (pc := 0) (k0 := 0) rfl dX6_plainTells_0 ?_
  refine jx_iconst (pc := 1) (v := (3 : Int32)) (by decide) dX6_plainTells_1 ?_
  obtain ⟨q1, eq1, h⟩ := jx_bd_o h
  refine jx_callVv (pc := 2) [.int (3 : Int32)] (fun sz' => k_X6_ranBody l G hG sz' σ (3 : Int32) q1 eq1) kv_X6_230 mm_jok mm_rc rfl rfl (Nat.le_of_ble_eq_true rfl) ⟨⟨rfl, rfl⟩, ⟨Nat.le_of_ble_eq_true rfl, Nat.le_of_ble_eq_true rfl⟩, Nat.zero_le _, Nat.zero_le _⟩ dX6_plainTells_2 ?_
  refine jx_aload_n (pc := 5) (k0 := 0) rfl dX6_plainTells_5 ?_
  refine jx_iload_n (pc := 6) (k0 := 1) rfl dX6_plainTells_6 ?_
  obtain ⟨q2, eq2, h⟩ := jx_bd_o h
  refine jx_callVi (pc := 7) [.int a1] (fun sz' => k_X6_burnsActs l G hG sz' q1 a1 q2 eq2) kv_X6_255 mm_jok mm_rc rfl rfl (Nat.le_of_ble_eq_true rfl) ⟨⟨rfl, rfl⟩, ⟨Nat.le_of_ble_eq_true rfl, Nat.le_of_ble_eq_true rfl⟩, Nat.zero_le _, Nat.zero_le _⟩ dX6_plainTells_7 ?_
  refine jx_iconst (pc := 10) (v := (2 : Int32)) (by decide) dX6_plainTells_10 ?_
  refine jx_imul (pc := 11) dX6_plainTells_11 ?_
  have h := Option.some.inj h
  subst h
  exact jx_iret (pc := 12) dX6_plainTells_12
theorem dX6_tellsActs_0 : decode cX6_tellsActs 0 = .ok (.aload_n 0, 1) := by decide +kernel
theorem dX6_tellsActs_1 : decode cX6_tellsActs 1 = .ok (.getfield 236, 3) := by decide +kernel
theorem dX6_tellsActs_4 : decode cX6_tellsActs 4 = .ok (.iconst 3, 1) := by decide +kernel
theorem dX6_tellsActs_5 : decode cX6_tellsActs 5 = .ok (.invokestatic 239, 3) := by decide +kernel
theorem dX6_tellsActs_8 : decode cX6_tellsActs 8 = .ok (.ifCond .eq 18, 3) := by decide +kernel
theorem dX6_tellsActs_11 : decode cX6_tellsActs 11 = .ok (.aload_n 0, 1) := by decide +kernel
theorem dX6_tellsActs_12 : decode cX6_tellsActs 12 = .ok (.bipush 31, 2) := by decide +kernel
theorem dX6_tellsActs_14 : decode cX6_tellsActs 14 = .ok (.invokevirtual 230, 3) := by decide +kernel
theorem dX6_tellsActs_17 : decode cX6_tellsActs 17 = .ok (.aload_n 0, 1) := by decide +kernel
theorem dX6_tellsActs_18 : decode cX6_tellsActs 18 = .ok (.iload_n 1, 1) := by decide +kernel
theorem dX6_tellsActs_19 : decode cX6_tellsActs 19 = .ok (.invokevirtual 258, 3) := by decide +kernel
theorem dX6_tellsActs_22 : decode cX6_tellsActs 22 = .ok (.bipush 7, 2) := by decide +kernel
theorem dX6_tellsActs_24 : decode cX6_tellsActs 24 = .ok (.ixor, 1) := by decide +kernel
theorem dX6_tellsActs_25 : decode cX6_tellsActs 25 = .ok (.ireturn, 1) := by decide +kernel
theorem dX6_tellsActs_26 : decode cX6_tellsActs 26 = .ok (.aload_n 0, 1) := by decide +kernel
theorem dX6_tellsActs_27 : decode cX6_tellsActs 27 = .ok (.getfield 236, 3) := by decide +kernel
theorem dX6_tellsActs_30 : decode cX6_tellsActs 30 = .ok (.iconst 4, 1) := by decide +kernel
theorem dX6_tellsActs_31 : decode cX6_tellsActs 31 = .ok (.if_icmp .ne 25, 3) := by decide +kernel
theorem dX6_tellsActs_34 : decode cX6_tellsActs 34 = .ok (.aload_n 0, 1) := by decide +kernel
theorem dX6_tellsActs_35 : decode cX6_tellsActs 35 = .ok (.bipush 41, 2) := by decide +kernel
theorem dX6_tellsActs_37 : decode cX6_tellsActs 37 = .ok (.invokevirtual 230, 3) := by decide +kernel
theorem dX6_tellsActs_40 : decode cX6_tellsActs 40 = .ok (.aload_n 0, 1) := by decide +kernel
theorem dX6_tellsActs_41 : decode cX6_tellsActs 41 = .ok (.iload_n 1, 1) := by decide +kernel
theorem dX6_tellsActs_42 : decode cX6_tellsActs 42 = .ok (.iconst 1, 1) := by decide +kernel
theorem dX6_tellsActs_43 : decode cX6_tellsActs 43 = .ok (.isub, 1) := by decide +kernel
theorem dX6_tellsActs_44 : decode cX6_tellsActs 44 = .ok (.invokevirtual 258, 3) := by decide +kernel
theorem dX6_tellsActs_47 : decode cX6_tellsActs 47 = .ok (.istore_n 2, 1) := by decide +kernel
theorem dX6_tellsActs_48 : decode cX6_tellsActs 48 = .ok (.iload_n 2, 1) := by decide +kernel
theorem dX6_tellsActs_49 : decode cX6_tellsActs 49 = .ok (.aload_n 0, 1) := by decide +kernel
theorem dX6_tellsActs_50 : decode cX6_tellsActs 50 = .ok (.iconst 2, 1) := by decide +kernel
theorem dX6_tellsActs_51 : decode cX6_tellsActs 51 = .ok (.invokevirtual 246, 3) := by decide +kernel
theorem dX6_tellsActs_54 : decode cX6_tellsActs 54 = .ok (.iadd, 1) := by decide +kernel
theorem dX6_tellsActs_55 : decode cX6_tellsActs 55 = .ok (.ireturn, 1) := by decide +kernel
theorem dX6_tellsActs_56 : decode cX6_tellsActs 56 = .ok (.aload_n 0, 1) := by decide +kernel
theorem dX6_tellsActs_57 : decode cX6_tellsActs 57 = .ok (.iload_n 1, 1) := by decide +kernel
theorem dX6_tellsActs_58 : decode cX6_tellsActs 58 = .ok (.invokevirtual 258, 3) := by decide +kernel
theorem dX6_tellsActs_61 : decode cX6_tellsActs 61 = .ok (.ireturn, 1) := by decide +kernel
abbrev rm_X6_tellsActs : Room := { frames := 6, cells := 0, slots := 0, locals := 126 }
abbrev jJ_X6_tellsActs (l : Launch) (G : jx_G) (sz : Nat) (out : (Int32 × jx_M)) (pc : Nat) (lv : List (Nat × Value)) (st : List Value) (σ : jx_M) : Prop := jx_J l (mm_env G) (mm_dyn G) (mm_rg G) sz RX6 "tellsActs" cX6_tellsActs 3 (some .int) rm_X6_tellsActs (fun below args s => MQ below (jx_Qi (mm_dyn G) out.2 out.1 (jx_A (mm_rg G) sz)) args s 0 0 (jx_A (mm_rg G) sz)) 0 0 pc lv st σ
def f_X6_tellsActs (σ : jx_M) (a1 : Int32) : Option (Int32 × jx_M) :=
  jx_bd (f_X6_isUnder (σ 0 23) (3 : Int32)) (fun q1 => if q1 = 0 then if (σ 0 23) = (4 : Int32) then jx_bd (f_X6_ranBody σ (41 : Int32)) (fun q5 => jx_bd (f_X6_plainTells q5 (a1 - (1 : Int32))) (fun q6 => jx_bd (f_X6_setsActs q6.2 (2 : Int32)) (fun q7 => some ((q6.1 + q7.1), q7.2)))) else jx_bd (f_X6_plainTells σ a1) (fun q4 => some (q4.1, q4.2)) else jx_bd (f_X6_ranBody σ (31 : Int32)) (fun q8 => jx_bd (f_X6_plainTells q8 a1) (fun q9 => some ((q9.1 ^^^ (7 : Int32)), q9.2))))
set_option maxHeartbeats 4000000 in
set_option maxRecDepth 100000 in
theorem k_X6_tellsActs (l : Launch) (G : jx_G) (hG : mm_ok G) (sz : Nat) (σ : jx_M) (a1 : Int32) (out : (Int32 × jx_M)) (h : f_X6_tellsActs σ a1 = some out) : Met l yX6_tellsActs (Cond.code yX6_tellsActs cX6_tellsActs 3 (some .int) :: jx_ws) rm_X6_tellsActs (jx_Pc (mm_env G) (mm_dyn G) (mm_rg G) sz σ [.ref (G.2 10), .int a1]) (jx_Qi (mm_dyn G) out.2 out.1 (jx_A (mm_rg G) sz)) 0 0 (jx_A (mm_rg G) sz) := by
  unfold f_X6_tellsActs at h
  refine jx_met (by decide) (Nat.le_of_ble_eq_true rfl) ?_
  refine jx_sub (lv' := [(0, .ref (G.2 10)), (1, .int a1)]) [0, 1] rfl ?_
  refine jx_aload_n (pc := 0) (k0 := 0) rfl dX6_tellsActs_0 ?_
  refine mm_g_kind (pc := 1) fl_X6_236 dX6_tellsActs_1 ?_
  refine jx_iconst (pc := 4) (v := (3 : Int32)) (by decide) dX6_tellsActs_4 ?_
  obtain ⟨q1, eq1, h⟩ := jx_bd_o h
  refine jx_callSi (pc := 5) [.int (σ 0 23), .int (3 : Int32)] (fun sz' => k_X6_isUnder l G hG sz' σ (σ 0 23) (3 : Int32) q1 eq1) ks_X6_239 mm_jok rfl rfl (Nat.le_of_ble_eq_true rfl) ⟨⟨rfl, rfl⟩, ⟨Nat.le_of_ble_eq_true rfl, Nat.le_of_ble_eq_true rfl⟩, Nat.zero_le _, Nat.zero_le _⟩ dX6_tellsActs_5 ?_
  refine jx_if_eq (pc := 8) (tgt := 26) dX6_tellsActs_8 (by decide) (fun c2 => ?_) (fun c2 => ?_)
  · have h := jx_t c2 h
    refine jx_aload_n (pc := 26) (k0 := 0) rfl dX6_tellsActs_26 ?_
    refine mm_g_kind (pc := 27) fl_X6_236 dX6_tellsActs_27 ?_
    refine jx_iconst (pc := 30) (v := (4 : Int32)) (by decide) dX6_tellsActs_30 ?_
    refine jx_icmp_ne (pc := 31) (tgt := 56) dX6_tellsActs_31 (by decide) (fun c3 => ?_) (fun c3 => ?_)
    · have h := jx_f c3 h
      refine jx_aload_n (pc := 56) (k0 := 0) rfl dX6_tellsActs_56 ?_
      refine jx_iload_n (pc := 57) (k0 := 1) rfl dX6_tellsActs_57 ?_
      obtain ⟨q4, eq4, h⟩ := jx_bd_o h
      refine jx_callVi (pc := 58) [.int a1] (fun sz' => k_X6_plainTells l G hG sz' σ a1 q4 eq4) kv_X6_258 mm_jok mm_rc rfl rfl (Nat.le_of_ble_eq_true rfl) ⟨⟨rfl, rfl⟩, ⟨Nat.le_of_ble_eq_true rfl, Nat.le_of_ble_eq_true rfl⟩, Nat.zero_le _, Nat.zero_le _⟩ dX6_tellsActs_58 ?_
      have h := Option.some.inj h
      subst h
      exact jx_iret (pc := 61) dX6_tellsActs_61
    · have h := jx_t c3 h
      refine jx_aload_n (pc := 34) (k0 := 0) rfl dX6_tellsActs_34 ?_
      refine jx_bipush (pc := 35) (v := (41 : Int32)) (by decide) dX6_tellsActs_35 ?_
      obtain ⟨q5, eq5, h⟩ := jx_bd_o h
      refine jx_callVv (pc := 37) [.int (41 : Int32)] (fun sz' => k_X6_ranBody l G hG sz' σ (41 : Int32) q5 eq5) kv_X6_230 mm_jok mm_rc rfl rfl (Nat.le_of_ble_eq_true rfl) ⟨⟨rfl, rfl⟩, ⟨Nat.le_of_ble_eq_true rfl, Nat.le_of_ble_eq_true rfl⟩, Nat.zero_le _, Nat.zero_le _⟩ dX6_tellsActs_37 ?_
      refine jx_aload_n (pc := 40) (k0 := 0) rfl dX6_tellsActs_40 ?_
      refine jx_iload_n (pc := 41) (k0 := 1) rfl dX6_tellsActs_41 ?_
      refine jx_iconst (pc := 42) (v := (1 : Int32)) (by decide) dX6_tellsActs_42 ?_
      refine jx_isub (pc := 43) dX6_tellsActs_43 ?_
      obtain ⟨q6, eq6, h⟩ := jx_bd_o h
      refine jx_callVi (pc := 44) [.int (a1 - (1 : Int32))] (fun sz' => k_X6_plainTells l G hG sz' q5 (a1 - (1 : Int32)) q6 eq6) kv_X6_258 mm_jok mm_rc rfl rfl (Nat.le_of_ble_eq_true rfl) ⟨⟨rfl, rfl⟩, ⟨Nat.le_of_ble_eq_true rfl, Nat.le_of_ble_eq_true rfl⟩, Nat.zero_le _, Nat.zero_le _⟩ dX6_tellsActs_44 ?_
      refine jx_istore_n (pc := 47) (i := 2) rfl rfl (by decide) (lv' := [(2, .int q6.1), (0, .ref (G.2 10)), (1, .int a1)]) rfl dX6_tellsActs_47 ?_
      refine jx_iload_n (pc := 48) (k0 := 2) rfl dX6_tellsActs_48 ?_
      refine jx_aload_n (pc := 49) (k0 := 0) rfl dX6_tellsActs_49 ?_
      refine jx_iconst (pc := 50) (v := (2 : Int32)) (by decide) dX6_tellsActs_50 ?_
      obtain ⟨q7, eq7, h⟩ := jx_bd_o h
      refine jx_callVi (pc := 51) [.int (2 : Int32)] (fun sz' => k_X6_setsActs l G hG sz' q6.2 (2 : Int32) q7 eq7) kv_X6_246 mm_jok mm_rc rfl rfl (Nat.le_of_ble_eq_true rfl) ⟨⟨rfl, rfl⟩, ⟨Nat.le_of_ble_eq_true rfl, Nat.le_of_ble_eq_true rfl⟩, Nat.zero_le _, Nat.zero_le _⟩ dX6_tellsActs_51 ?_
      refine jx_iadd (pc := 54) dX6_tellsActs_54 ?_
      have h := Option.some.inj h
      subst h
      exact jx_iret (pc := 55) dX6_tellsActs_55
  · have h := jx_f c2 h
    refine jx_aload_n (pc := 11) (k0 := 0) rfl dX6_tellsActs_11 ?_
    refine jx_bipush (pc := 12) (v := (31 : Int32)) (by decide) dX6_tellsActs_12 ?_
    obtain ⟨q8, eq8, h⟩ := jx_bd_o h
    refine jx_callVv (pc := 14) [.int (31 : Int32)] (fun sz' => k_X6_ranBody l G hG sz' σ (31 : Int32) q8 eq8) kv_X6_230 mm_jok mm_rc rfl rfl (Nat.le_of_ble_eq_true rfl) ⟨⟨rfl, rfl⟩, ⟨Nat.le_of_ble_eq_true rfl, Nat.le_of_ble_eq_true rfl⟩, Nat.zero_le _, Nat.zero_le _⟩ dX6_tellsActs_14 ?_
    refine jx_aload_n (pc := 17) (k0 := 0) rfl dX6_tellsActs_17 ?_
    refine jx_iload_n (pc := 18) (k0 := 1) rfl dX6_tellsActs_18 ?_
    obtain ⟨q9, eq9, h⟩ := jx_bd_o h
    refine jx_callVi (pc := 19) [.int a1] (fun sz' => k_X6_plainTells l G hG sz' q8 a1 q9 eq9) kv_X6_258 mm_jok mm_rc rfl rfl (Nat.le_of_ble_eq_true rfl) ⟨⟨rfl, rfl⟩, ⟨Nat.le_of_ble_eq_true rfl, Nat.le_of_ble_eq_true rfl⟩, Nat.zero_le _, Nat.zero_le _⟩ dX6_tellsActs_19 ?_
    refine jx_bipush (pc := 22) (v := (7 : Int32)) (by decide) dX6_tellsActs_22 ?_
    refine jx_ixor (pc := 24) dX6_tellsActs_24 ?_
    have h := Option.some.inj h
    subst h
    exact jx_iret (pc := 25) dX6_tellsActs_25
theorem dX6_act_0 : decode cX6_act 0 = .ok (.aload_n 0, 1) := by decide +kernel
theorem dX6_act_1 : decode cX6_act 1 = .ok (.iconst 0, 1) := by decide +kernel
theorem dX6_act_2 : decode cX6_act 2 = .ok (.putfield 227, 3) := by decide +kernel
theorem dX6_act_5 : decode cX6_act 5 = .ok (.aload_n 0, 1) := by decide +kernel
theorem dX6_act_6 : decode cX6_act 6 = .ok (.iload_n 1, 1) := by decide +kernel
theorem dX6_act_7 : decode cX6_act 7 = .ok (.invokevirtual 163, 3) := by decide +kernel
theorem dX6_act_10 : decode cX6_act 10 = .ok (.ifCond .eq 12, 3) := by decide +kernel
theorem dX6_act_13 : decode cX6_act 13 = .ok (.iload_n 2, 1) := by decide +kernel
theorem dX6_act_14 : decode cX6_act 14 = .ok (.iconst 0, 1) := by decide +kernel
theorem dX6_act_15 : decode cX6_act 15 = .ok (.iconst 2, 1) := by decide +kernel
theorem dX6_act_16 : decode cX6_act 16 = .ok (.invokestatic 48, 3) := by decide +kernel
theorem dX6_act_19 : decode cX6_act 19 = .ok (.ifCond .ne 5, 3) := by decide +kernel
theorem dX6_act_22 : decode cX6_act 22 = .ok (.iconst 0, 1) := by decide +kernel
theorem dX6_act_23 : decode cX6_act 23 = .ok (.ireturn, 1) := by decide +kernel
theorem dX6_act_24 : decode cX6_act 24 = .ok (.aload_n 0, 1) := by decide +kernel
theorem dX6_act_25 : decode cX6_act 25 = .ok (.aload_n 0, 1) := by decide +kernel
theorem dX6_act_26 : decode cX6_act 26 = .ok (.getfield 9, 3) := by decide +kernel
theorem dX6_act_29 : decode cX6_act 29 = .ok (.bipush 31, 2) := by decide +kernel
theorem dX6_act_31 : decode cX6_act 31 = .ok (.iload_n 1, 1) := by decide +kernel
theorem dX6_act_32 : decode cX6_act 32 = .ok (.iadd, 1) := by decide +kernel
theorem dX6_act_33 : decode cX6_act 33 = .ok (.iaload, 1) := by decide +kernel
theorem dX6_act_34 : decode cX6_act 34 = .ok (.putfield 236, 3) := by decide +kernel
theorem dX6_act_37 : decode cX6_act 37 = .ok (.aload_n 0, 1) := by decide +kernel
theorem dX6_act_38 : decode cX6_act 38 = .ok (.iload_n 1, 1) := by decide +kernel
theorem dX6_act_39 : decode cX6_act 39 = .ok (.putfield 233, 3) := by decide +kernel
theorem dX6_act_42 : decode cX6_act 42 = .ok (.aload_n 0, 1) := by decide +kernel
theorem dX6_act_43 : decode cX6_act 43 = .ok (.aload_n 0, 1) := by decide +kernel
theorem dX6_act_44 : decode cX6_act 44 = .ok (.getfield 9, 3) := by decide +kernel
theorem dX6_act_47 : decode cX6_act 47 = .ok (.bipush 37, 2) := by decide +kernel
theorem dX6_act_49 : decode cX6_act 49 = .ok (.iload_n 1, 1) := by decide +kernel
theorem dX6_act_50 : decode cX6_act 50 = .ok (.iadd, 1) := by decide +kernel
theorem dX6_act_51 : decode cX6_act 51 = .ok (.iaload, 1) := by decide +kernel
theorem dX6_act_52 : decode cX6_act 52 = .ok (.putfield 249, 3) := by decide +kernel
theorem dX6_act_55 : decode cX6_act 55 = .ok (.iload_n 2, 1) := by decide +kernel
theorem dX6_act_56 : decode cX6_act 56 = .ok (.ifCond .ne 11, 3) := by decide +kernel
theorem dX6_act_59 : decode cX6_act 59 = .ok (.aload_n 0, 1) := by decide +kernel
theorem dX6_act_60 : decode cX6_act 60 = .ok (.iload_n 3, 1) := by decide +kernel
theorem dX6_act_61 : decode cX6_act 61 = .ok (.invokevirtual 246, 3) := by decide +kernel
theorem dX6_act_64 : decode cX6_act 64 = .ok (.goto 21, 3) := by decide +kernel
theorem dX6_act_67 : decode cX6_act 67 = .ok (.iload_n 2, 1) := by decide +kernel
theorem dX6_act_68 : decode cX6_act 68 = .ok (.iconst 1, 1) := by decide +kernel
theorem dX6_act_69 : decode cX6_act 69 = .ok (.if_icmp .ne 11, 3) := by decide +kernel
theorem dX6_act_72 : decode cX6_act 72 = .ok (.aload_n 0, 1) := by decide +kernel
theorem dX6_act_73 : decode cX6_act 73 = .ok (.iload_n 3, 1) := by decide +kernel
theorem dX6_act_74 : decode cX6_act 74 = .ok (.invokevirtual 255, 3) := by decide +kernel
theorem dX6_act_77 : decode cX6_act 77 = .ok (.goto 8, 3) := by decide +kernel
theorem dX6_act_80 : decode cX6_act 80 = .ok (.aload_n 0, 1) := by decide +kernel
theorem dX6_act_81 : decode cX6_act 81 = .ok (.iload_n 3, 1) := by decide +kernel
theorem dX6_act_82 : decode cX6_act 82 = .ok (.invokevirtual 261, 3) := by decide +kernel
theorem dX6_act_85 : decode cX6_act 85 = .ok (.ireturn, 1) := by decide +kernel
abbrev rm_X6_act : Room := { frames := 7, cells := 0, slots := 0, locals := 148 }
abbrev jJ_X6_act (l : Launch) (G : jx_G) (sz : Nat) (out : (Int32 × jx_M)) (pc : Nat) (lv : List (Nat × Value)) (st : List Value) (σ : jx_M) : Prop := jx_J l (mm_env G) (mm_dyn G) (mm_rg G) sz RX6 "act" cX6_act 4 (some .int) rm_X6_act (fun below args s => MQ below (jx_Qi (mm_dyn G) out.2 out.1 (jx_A (mm_rg G) sz)) args s 0 0 (jx_A (mm_rg G) sz)) 0 0 pc lv st σ
def f_X6_act (σ : jx_M) (a1 : Int32) (a2 : Int32) (a3 : Int32) : Option (Int32 × jx_M) :=
  jx_lt (jx_mu σ 0 22 (0 : Int32)) (fun σ1 => jx_bd (f_X6_isVoter σ1 a1) (fun q2 => if q2 = 0 then some ((0 : Int32), σ1) else jx_bd (f_X6_in a2 (0 : Int32) (2 : Int32)) (fun q4 => if q4 = 0 then some ((0 : Int32), σ1) else jx_gd (jx_in ((31 : Int32) + a1) 920) (jx_lt (jx_mu σ1 0 23 (σ1 1 ((31 : Int32) + a1).toNatClampNeg)) (fun σ7 => jx_lt (jx_mu σ7 0 24 a1) (fun σ8 => jx_gd (jx_in ((37 : Int32) + a1) 920) (jx_lt (jx_mu σ8 0 25 (σ8 1 ((37 : Int32) + a1).toNatClampNeg)) (fun σ10 => if a2 = 0 then jx_bd (f_X6_setsActs σ10 a3) (fun q15 => some (q15.1, q15.2)) else if a2 = (1 : Int32) then jx_bd (f_X6_burnsActs σ10 a3) (fun q14 => some (q14.1, q14.2)) else jx_bd (f_X6_tellsActs σ10 a3) (fun q13 => some (q13.1, q13.2))))))))))
set_option maxHeartbeats 4000000 in
set_option maxRecDepth 100000 in
theorem k_X6_act (l : Launch) (G : jx_G) (hG : mm_ok G) (sz : Nat) (σ : jx_M) (a1 : Int32) (a2 : Int32) (a3 : Int32) (out : (Int32 × jx_M)) (h : f_X6_act σ a1 a2 a3 = some out) : Met l yX6_act (Cond.code yX6_act cX6_act 4 (some .int) :: jx_ws) rm_X6_act (jx_Pc (mm_env G) (mm_dyn G) (mm_rg G) sz σ [.ref (G.2 10), .int a1, .int a2, .int a3]) (jx_Qi (mm_dyn G) out.2 out.1 (jx_A (mm_rg G) sz)) 0 0 (jx_A (mm_rg G) sz) := by
  unfold f_X6_act at h
  refine jx_met (by decide) (Nat.le_of_ble_eq_true rfl) ?_
  refine jx_sub (lv' := [(0, .ref (G.2 10)), (1, .int a1), (2, .int a2), (3, .int a3)]) [0, 1, 2, 3] rfl ?_
  refine jx_aload_n (pc := 0) (k0 := 0) rfl dX6_act_0 ?_
  refine jx_iconst (pc := 1) (v := (0 : Int32)) (by decide) dX6_act_1 ?_
  obtain ⟨σ1, eσ1, h⟩ := jx_lt_o h
  refine mm_p_ran (pc := 2) hG fl_X6_227 eσ1 dX6_act_2 ?_
  refine jx_aload_n (pc := 5) (k0 := 0) rfl dX6_act_5 ?_
  refine jx_iload_n (pc := 6) (k0 := 1) rfl dX6_act_6 ?_
  obtain ⟨q2, eq2, h⟩ := jx_bd_o h
  refine jx_callVi (pc := 7) [.int a1] (fun sz' => k_X6_isVoter l G hG sz' σ1 a1 q2 eq2) kv_X6_163 mm_jok mm_rc rfl rfl (Nat.le_of_ble_eq_true rfl) ⟨⟨rfl, rfl⟩, ⟨Nat.le_of_ble_eq_true rfl, Nat.le_of_ble_eq_true rfl⟩, Nat.zero_le _, Nat.zero_le _⟩ dX6_act_7 ?_
  refine jx_if_eq (pc := 10) (tgt := 22) dX6_act_10 (by decide) (fun c3 => ?_) (fun c3 => ?_)
  · have h := jx_t c3 h
    refine jx_iconst (pc := 22) (v := (0 : Int32)) (by decide) dX6_act_22 ?_
    have h := Option.some.inj h
    subst h
    exact jx_iret (pc := 23) dX6_act_23
  · have h := jx_f c3 h
    refine jx_iload_n (pc := 13) (k0 := 2) rfl dX6_act_13 ?_
    refine jx_iconst (pc := 14) (v := (0 : Int32)) (by decide) dX6_act_14 ?_
    refine jx_iconst (pc := 15) (v := (2 : Int32)) (by decide) dX6_act_15 ?_
    obtain ⟨q4, eq4, h⟩ := jx_bd_o h
    refine jx_callSi (pc := 16) [.int a2, .int (0 : Int32), .int (2 : Int32)] (fun sz' => k_X6_in l G hG sz' σ1 a2 (0 : Int32) (2 : Int32) q4 eq4) ks_X6_48 mm_jok rfl rfl (Nat.le_of_ble_eq_true rfl) ⟨⟨rfl, rfl⟩, ⟨Nat.le_of_ble_eq_true rfl, Nat.le_of_ble_eq_true rfl⟩, Nat.zero_le _, Nat.zero_le _⟩ dX6_act_16 ?_
    refine jx_if_ne (pc := 19) (tgt := 24) dX6_act_19 (by decide) (fun c5 => ?_) (fun c5 => ?_)
    · have h := jx_f c5 h
      refine jx_aload_n (pc := 24) (k0 := 0) rfl dX6_act_24 ?_
      refine jx_aload_n (pc := 25) (k0 := 0) rfl dX6_act_25 ?_
      refine mm_g_s (pc := 26) fl_X6_9 dX6_act_26 ?_
      refine jx_bipush (pc := 29) (v := (31 : Int32)) (by decide) dX6_act_29 ?_
      refine jx_iload_n (pc := 31) (k0 := 1) rfl dX6_act_31 ?_
      refine jx_iadd (pc := 32) dX6_act_32 ?_
      obtain ⟨g6, h⟩ := jx_gd_o h
      refine mm_l_s (pc := 33) (jx_in_o g6) rfl dX6_act_33 ?_
      obtain ⟨σ7, eσ7, h⟩ := jx_lt_o h
      refine mm_p_kind (pc := 34) hG fl_X6_236 eσ7 dX6_act_34 ?_
      refine jx_aload_n (pc := 37) (k0 := 0) rfl dX6_act_37 ?_
      refine jx_iload_n (pc := 38) (k0 := 1) rfl dX6_act_38 ?_
      obtain ⟨σ8, eσ8, h⟩ := jx_lt_o h
      refine mm_p_number (pc := 39) hG fl_X6_233 eσ8 dX6_act_39 ?_
      refine jx_aload_n (pc := 42) (k0 := 0) rfl dX6_act_42 ?_
      refine jx_aload_n (pc := 43) (k0 := 0) rfl dX6_act_43 ?_
      refine mm_g_s (pc := 44) fl_X6_9 dX6_act_44 ?_
      refine jx_bipush (pc := 47) (v := (37 : Int32)) (by decide) dX6_act_47 ?_
      refine jx_iload_n (pc := 49) (k0 := 1) rfl dX6_act_49 ?_
      refine jx_iadd (pc := 50) dX6_act_50 ?_
      obtain ⟨g9, h⟩ := jx_gd_o h
      refine mm_l_s (pc := 51) (jx_in_o g9) rfl dX6_act_51 ?_
      obtain ⟨σ10, eσ10, h⟩ := jx_lt_o h
      refine mm_p_tellsV (pc := 52) hG fl_X6_249 eσ10 dX6_act_52 ?_
      refine jx_iload_n (pc := 55) (k0 := 2) rfl dX6_act_55 ?_
      refine jx_if_ne (pc := 56) (tgt := 67) dX6_act_56 (by decide) (fun c11 => ?_) (fun c11 => ?_)
      · have h := jx_f c11 h
        refine jx_iload_n (pc := 67) (k0 := 2) rfl dX6_act_67 ?_
        refine jx_iconst (pc := 68) (v := (1 : Int32)) (by decide) dX6_act_68 ?_
        refine jx_icmp_ne (pc := 69) (tgt := 80) dX6_act_69 (by decide) (fun c12 => ?_) (fun c12 => ?_)
        · have h := jx_f c12 h
          refine jx_aload_n (pc := 80) (k0 := 0) rfl dX6_act_80 ?_
          refine jx_iload_n (pc := 81) (k0 := 3) rfl dX6_act_81 ?_
          obtain ⟨q13, eq13, h⟩ := jx_bd_o h
          refine jx_callVi (pc := 82) [.int a3] (fun sz' => k_X6_tellsActs l G hG sz' σ10 a3 q13 eq13) kv_X6_261 mm_jok mm_rc rfl rfl (Nat.le_of_ble_eq_true rfl) ⟨⟨rfl, rfl⟩, ⟨Nat.le_of_ble_eq_true rfl, Nat.le_of_ble_eq_true rfl⟩, Nat.zero_le _, Nat.zero_le _⟩ dX6_act_82 ?_
          have h := Option.some.inj h
          subst h
          exact jx_iret (pc := 85) dX6_act_85
        · have h := jx_t c12 h
          refine jx_aload_n (pc := 72) (k0 := 0) rfl dX6_act_72 ?_
          refine jx_iload_n (pc := 73) (k0 := 3) rfl dX6_act_73 ?_
          obtain ⟨q14, eq14, h⟩ := jx_bd_o h
          refine jx_callVi (pc := 74) [.int a3] (fun sz' => k_X6_burnsActs l G hG sz' σ10 a3 q14 eq14) kv_X6_255 mm_jok mm_rc rfl rfl (Nat.le_of_ble_eq_true rfl) ⟨⟨rfl, rfl⟩, ⟨Nat.le_of_ble_eq_true rfl, Nat.le_of_ble_eq_true rfl⟩, Nat.zero_le _, Nat.zero_le _⟩ dX6_act_74 ?_
          refine jx_goto (pc := 77) (tgt := 85) dX6_act_77 (by decide) ?_
          have h := Option.some.inj h
          subst h
          exact jx_iret (pc := 85) dX6_act_85
      · have h := jx_t c11 h
        refine jx_aload_n (pc := 59) (k0 := 0) rfl dX6_act_59 ?_
        refine jx_iload_n (pc := 60) (k0 := 3) rfl dX6_act_60 ?_
        obtain ⟨q15, eq15, h⟩ := jx_bd_o h
        refine jx_callVi (pc := 61) [.int a3] (fun sz' => k_X6_setsActs l G hG sz' σ10 a3 q15 eq15) kv_X6_246 mm_jok mm_rc rfl rfl (Nat.le_of_ble_eq_true rfl) ⟨⟨rfl, rfl⟩, ⟨Nat.le_of_ble_eq_true rfl, Nat.le_of_ble_eq_true rfl⟩, Nat.zero_le _, Nat.zero_le _⟩ dX6_act_61 ?_
        refine jx_goto (pc := 64) (tgt := 85) dX6_act_64 (by decide) ?_
        have h := Option.some.inj h
        subst h
        exact jx_iret (pc := 85) dX6_act_85
    · have h := jx_t c5 h
      refine jx_iconst (pc := 22) (v := (0 : Int32)) (by decide) dX6_act_22 ?_
      have h := Option.some.inj h
      subst h
      exact jx_iret (pc := 23) dX6_act_23
