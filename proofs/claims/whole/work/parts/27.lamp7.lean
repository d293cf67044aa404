/-! the class's methods: a function on the memory each, and its contract -/
theorem dX5_stick_0 : decode cX5_stick 0 = .ok (.iload_n 1, 1) := by decide +kernel
theorem dX5_stick_1 : decode cX5_stick 1 = .ok (.iconst 0, 1) := by decide +kernel
theorem dX5_stick_2 : decode cX5_stick 2 = .ok (.iconst 1, 1) := by decide +kernel
theorem dX5_stick_3 : decode cX5_stick 3 = .ok (.invokestatic 48, 3) := by decide +kernel
theorem dX5_stick_6 : decode cX5_stick 6 = .ok (.ifCond .eq 14, 3) := by decide +kernel
theorem dX5_stick_9 : decode cX5_stick 9 = .ok (.aload_n 0, 1) := by decide +kernel
theorem dX5_stick_10 : decode cX5_stick 10 = .ok (.getfield 26, 3) := by decide +kernel
theorem dX5_stick_13 : decode cX5_stick 13 = .ok (.iload_n 1, 1) := by decide +kernel
theorem dX5_stick_14 : decode cX5_stick 14 = .ok (.invokevirtual 180, 3) := by decide +kernel
theorem dX5_stick_17 : decode cX5_stick 17 = .ok (.goto 5, 3) := by decide +kernel
theorem dX5_stick_20 : decode cX5_stick 20 = .ok (.bipush (-2), 2) := by decide +kernel
theorem dX5_stick_22 : decode cX5_stick 22 = .ok (.ireturn, 1) := by decide +kernel
abbrev rm_X5_stick : Room := { frames := 5, cells := 0, slots := 0, locals := 120 }
abbrev jJ_X5_stick (l : Launch) (G : jx_G) (t : jx_T) (sz : Nat) (out : (Int32 × jx_M)) (pc : Nat) (lv : List (Nat × Value)) (st : List Value) (σ : jx_M) : Prop := jx_J l (ll_env G t) (ll_dyn G t) (ll_rg G) sz RX5 "stick" cX5_stick 2 (some .int) rm_X5_stick (fun below args s => MQ below (jx_Qi (ll_dyn G t) out.2 out.1 (jx_A (ll_rg G) sz)) args s 0 0 (jx_A (ll_rg G) sz)) 0 0 pc lv st σ
def f_X5_stick (t : jx_T) (σ : jx_M) (a1 : Int32) : Option (Int32 × jx_M) :=
  jx_bd (f_X5_within a1 (0 : Int32) (1 : Int32)) (fun q1 => if q1 = 0 then some ((-2 : Int32), σ) else jx_bd (f_X2_stickFor t σ a1) (fun q3 => some (q3.1, q3.2)))
set_option maxHeartbeats 4000000 in
set_option maxRecDepth 100000 in
theorem k_X5_stick (l : Launch) (G : jx_G) (t : jx_T) (hG : ll_ok G) (sz : Nat) (σ : jx_M) (a1 : Int32) (out : (Int32 × jx_M)) (h : f_X5_stick t σ a1 = some out) : Met l yX5_stick (Cond.code yX5_stick cX5_stick 2 (some .int) :: jx_ws) rm_X5_stick (jx_Pc (ll_env G t) (ll_dyn G t) (ll_rg G) sz σ [.ref (G.2 20), .int a1]) (jx_Qi (ll_dyn G t) out.2 out.1 (jx_A (ll_rg G) sz)) 0 0 (jx_A (ll_rg G) sz) := by
  unfold f_X5_stick at h
  refine jx_met (by decide) (Nat.le_of_ble_eq_true rfl) ?_
  refine jx_sub (lv' := [(0, .ref (G.2 20)), (1, .int a1)]) [0, 1] rfl ?_
  refine jx_iload_n (pc := 0) (k0 := 1) rfl dX5_stick_0 ?_
  refine jx_iconst (pc := 1) (v := (0 : Int32)) (by decide) dX5_stick_1 ?_
  refine jx_iconst (pc := 2) (v := (1 : Int32)) (by decide) dX5_stick_2 ?_
  obtain ⟨q1, eq1, h⟩ := jx_bd_o h
  refine jx_callSi (pc := 3) [.int a1, .int (0 : Int32), .int (1 : Int32)] (fun sz' => k_X5_within l G t hG sz' σ a1 (0 : Int32) (1 : Int32) q1 eq1) ks_X5_48 ll_jok rfl rfl (Nat.le_of_ble_eq_true rfl) ⟨⟨rfl, rfl⟩, ⟨Nat.le_of_ble_eq_true rfl, Nat.le_of_ble_eq_true rfl⟩, Nat.zero_le _, Nat.zero_le _⟩ dX5_stick_3 ?_
  refine jx_if_eq (pc := 6) (tgt := 20) dX5_stick_6 (by decide) (fun c2 => ?_) (fun c2 => ?_)
  · have h := jx_t c2 h
    refine jx_bipush (pc := 20) (v := (-2 : Int32)) (by decide) dX5_stick_20 ?_
    have h := Option.some.inj h
    subst h
    exact jx_iret (pc := 22) dX5_stick_22
  · have h := jx_f c2 h
    refine jx_aload_n (pc := 9) (k0 := 0) rfl dX5_stick_9 ?_
    refine ll_glamp_night (pc := 10) fl_X5_26 dX5_stick_10 ?_
    refine jx_iload_n (pc := 13) (k0 := 1) rfl dX5_stick_13 ?_
    obtain ⟨q3, eq3, h⟩ := jx_bd_o h
    refine jx_callVi (pc := 14) [.int a1] (fun sz' => k_X2_stickFor l G t hG sz' σ a1 q3 eq3) kv_X5_180 ll_jok ll_rcnight rfl rfl (Nat.le_of_ble_eq_true rfl) ⟨⟨rfl, rfl⟩, ⟨Nat.le_of_ble_eq_true rfl, Nat.le_of_ble_eq_true rfl⟩, Nat.zero_le _, Nat.zero_le _⟩ dX5_stick_14 ?_
    refine jx_goto (pc := 17) (tgt := 22) dX5_stick_17 (by decide) ?_
    have h := Option.some.inj h
    subst h
    exact jx_iret (pc := 22) dX5_stick_22
theorem dX5_set_0 : decode cX5_set 0 = .ok (.aload_n 0, 1) := by decide +kernel
theorem dX5_set_1 : decode cX5_set 1 = .ok (.getfield 12, 3) := by decide +kernel
theorem dX5_set_4 : decode cX5_set 4 = .ok (.iload_n 1, 1) := by decide +kernel
theorem dX5_set_5 : decode cX5_set 5 = .ok (.invokevirtual 119, 3) := by decide +kernel
theorem dX5_set_8 : decode cX5_set 8 = .ok (.ifCond .eq 12, 3) := by decide +kernel
theorem dX5_set_11 : decode cX5_set 11 = .ok (.iload_n 2, 1) := by decide +kernel
theorem dX5_set_12 : decode cX5_set 12 = .ok (.iconst 0, 1) := by decide +kernel
theorem dX5_set_13 : decode cX5_set 13 = .ok (.iconst 1, 1) := by decide +kernel
theorem dX5_set_14 : decode cX5_set 14 = .ok (.invokestatic 48, 3) := by decide +kernel
theorem dX5_set_17 : decode cX5_set 17 = .ok (.ifCond .ne 7, 3) := by decide +kernel
theorem dX5_set_20 : decode cX5_set 20 = .ok (.sipush (-1001), 3) := by decide +kernel
theorem dX5_set_23 : decode cX5_set 23 = .ok (.ireturn, 1) := by decide +kernel
theorem dX5_set_24 : decode cX5_set 24 = .ok (.aload_n 0, 1) := by decide +kernel
theorem dX5_set_25 : decode cX5_set 25 = .ok (.getfield 26, 3) := by decide +kernel
theorem dX5_set_28 : decode cX5_set 28 = .ok (.invokevirtual 135, 3) := by decide +kernel
theorem dX5_set_31 : decode cX5_set 31 = .ok (.aload_n 0, 1) := by decide +kernel
theorem dX5_set_32 : decode cX5_set 32 = .ok (.getfield 26, 3) := by decide +kernel
theorem dX5_set_35 : decode cX5_set 35 = .ok (.iload_n 1, 1) := by decide +kernel
theorem dX5_set_36 : decode cX5_set 36 = .ok (.invokevirtual 183, 3) := by decide +kernel
theorem dX5_set_39 : decode cX5_set 39 = .ok (.istore_n 3, 1) := by decide +kernel
theorem dX5_set_40 : decode cX5_set 40 = .ok (.iload_n 2, 1) := by decide +kernel
theorem dX5_set_41 : decode cX5_set 41 = .ok (.ifCond .ne 5, 3) := by decide +kernel
theorem dX5_set_44 : decode cX5_set 44 = .ok (.iload_n 3, 1) := by decide +kernel
theorem dX5_set_45 : decode cX5_set 45 = .ok (.ireturn, 1) := by decide +kernel
theorem dX5_set_46 : decode cX5_set 46 = .ok (.aload_n 0, 1) := by decide +kernel
theorem dX5_set_47 : decode cX5_set 47 = .ok (.getfield 26, 3) := by decide +kernel
theorem dX5_set_50 : decode cX5_set 50 = .ok (.iload_n 1, 1) := by decide +kernel
theorem dX5_set_51 : decode cX5_set 51 = .ok (.iload_n 3, 1) := by decide +kernel
theorem dX5_set_52 : decode cX5_set 52 = .ok (.invokevirtual 186, 3) := by decide +kernel
theorem dX5_set_55 : decode cX5_set 55 = .ok (.aload_n 0, 1) := by decide +kernel
theorem dX5_set_56 : decode cX5_set 56 = .ok (.getfield 26, 3) := by decide +kernel
theorem dX5_set_59 : decode cX5_set 59 = .ok (.iload_n 1, 1) := by decide +kernel
theorem dX5_set_60 : decode cX5_set 60 = .ok (.invokevirtual 190, 3) := by decide +kernel
theorem dX5_set_63 : decode cX5_set 63 = .ok (.ireturn, 1) := by decide +kernel
abbrev rm_X5_set : Room := { frames := 5, cells := 0, slots := 0, locals := 116 }
abbrev jJ_X5_set (l : Launch) (G : jx_G) (t : jx_T) (sz : Nat) (out : (Int32 × jx_M)) (pc : Nat) (lv : List (Nat × Value)) (st : List Value) (σ : jx_M) : Prop := jx_J l (ll_env G t) (ll_dyn G t) (ll_rg G) sz RX5 "set" cX5_set 4 (some .int) rm_X5_set (fun below args s => MQ below (jx_Qi (ll_dyn G t) out.2 out.1 (jx_A (ll_rg G) sz)) args s 0 0 (jx_A (ll_rg G) sz)) 0 0 pc lv st σ
def f_X5_set (t : jx_T) (σ : jx_M) (a1 : Int32) (a2 : Int32) : Option (Int32 × jx_M) :=
  jx_bd (f_X1_hasVoter t σ a1) (fun q1 => if q1 = 0 then some ((-1001 : Int32), σ) else jx_bd (f_X5_within a2 (0 : Int32) (1 : Int32)) (fun q3 => if q3 = 0 then some ((-1001 : Int32), σ) else jx_bd (f_X2_pass t σ) (fun q5 => jx_bd (f_X2_bestFor t q5 a1) (fun q6 => if a2 = 0 then some (q6.1, q6.2) else jx_bd (f_X2_light t q6.2 a1 q6.1) (fun q8 => jx_bd (f_X2_leadOf t q8 a1) (fun q9 => some (q9, q8)))))))
set_option maxHeartbeats 4000000 in
set_option maxRecDepth 100000 in
theorem k_X5_set (l : Launch) (G : jx_G) (t : jx_T) (hG : ll_ok G) (sz : Nat) (σ : jx_M) (a1 : Int32) (a2 : Int32) (out : (Int32 × jx_M)) (h : f_X5_set t σ a1 a2 = some out) : Met l yX5_set (Cond.code yX5_set cX5_set 4 (some .int) :: jx_ws) rm_X5_set (jx_Pc (ll_env G t) (ll_dyn G t) (ll_rg G) sz σ [.ref (G.2 20), .int a1, .int a2]) (jx_Qi (ll_dyn G t) out.2 out.1 (jx_A (ll_rg G) sz)) 0 0 (jx_A (ll_rg G) sz) := by
  unfold f_X5_set at h
  refine jx_met (by decide) (Nat.le_of_ble_eq_true rfl) ?_
  refine jx_sub (lv' := [(0, .ref (G.2 20)), (1, .int a1), (2, .int a2)]) [0, 1, 2] rfl ?_
  refine jx_aload_n (pc := 0) (k0 := 0) rfl dX5_set_0 ?_
  refine ll_glamp_now (pc := 1) fl_X5_12 dX5_set_1 ?_
  refine jx_iload_n (pc := 4) (k0 := 1) rfl dX5_set_4 ?_
  obtain ⟨q1, eq1, h⟩ := jx_bd_o h
  refine jx_callVi (pc := 5) [.int a1] (fun sz' => k_X1_hasVoter l G t hG sz' σ a1 q1 eq1) kv_X5_119 ll_jok ll_rcnow rfl rfl (Nat.le_of_ble_eq_true rfl) ⟨⟨rfl, rfl⟩, ⟨Nat.le_of_ble_eq_true rfl, Nat.le_of_ble_eq_true rfl⟩, Nat.zero_le _, Nat.zero_le _⟩ dX5_set_5 ?_
  refine jx_if_eq (pc := 8) (tgt := 20) dX5_set_8 (by decide) (fun c2 => ?_) (fun c2 => ?_)
  · have h := jx_t c2 h
    refine jx_sipush (pc := 20) (v := (-1001 : Int32)) (by decide) dX5_set_20 ?_
    have h := Option.some.inj h
    subst h
    exact jx_iret (pc := 23) dX5_set_23
  · have h := jx_f c2 h
    refine jx_iload_n (pc := 11) (k0 := 2) rfl dX5_set_11 ?_
    refine jx_iconst (pc := 12) (v := (0 : Int32)) (by decide) dX5_set_12 ?_
    refine jx_iconst (pc := 13) (v := (1 : Int32)) (by decide) dX5_set_13 ?_
    obtain ⟨q3, eq3, h⟩ := jx_bd_o h
    refine jx_callSi (pc := 14) [.int a2, .int (0 : Int32), .int (1 : Int32)] (fun sz' => k_X5_within l G t hG sz' σ a2 (0 : Int32) (1 : Int32) q3 eq3) ks_X5_48 ll_jok rfl rfl (Nat.le_of_ble_eq_true rfl) ⟨⟨rfl, rfl⟩, ⟨Nat.le_of_ble_eq_true rfl, Nat.le_of_ble_eq_true rfl⟩, Nat.zero_le _, Nat.zero_le _⟩ dX5_set_14 ?_
    refine jx_if_ne (pc := 17) (tgt := 24) dX5_set_17 (by decide) (fun c4 => ?_) (fun c4 => ?_)
    · have h := jx_f c4 h
      refine jx_aload_n (pc := 24) (k0 := 0) rfl dX5_set_24 ?_
      refine ll_glamp_night (pc := 25) fl_X5_26 dX5_set_25 ?_
      obtain ⟨q5, eq5, h⟩ := jx_bd_o h
      refine jx_callVv (pc := 28) [] (fun sz' => k_X2_pass l G t hG sz' σ q5 eq5) kv_X5_135 ll_jok ll_rcnight rfl rfl (Nat.le_of_ble_eq_true rfl) ⟨⟨rfl, rfl⟩, ⟨Nat.le_of_ble_eq_true rfl, Nat.le_of_ble_eq_true rfl⟩, Nat.zero_le _, Nat.zero_le _⟩ dX5_set_28 ?_
      refine jx_aload_n (pc := 31) (k0 := 0) rfl dX5_set_31 ?_
      refine ll_glamp_night (pc := 32) fl_X5_26 dX5_set_32 ?_
      refine jx_iload_n (pc := 35) (k0 := 1) rfl dX5_set_35 ?_
      obtain ⟨q6, eq6, h⟩ := jx_bd_o h
      refine jx_callVi (pc := 36) [.int a1] (fun sz' => k_X2_bestFor l G t hG sz' q5 a1 q6 eq6) kv_X5_183 ll_jok ll_rcnight rfl rfl (Nat.le_of_ble_eq_true rfl) ⟨⟨rfl, rfl⟩, ⟨Nat.le_of_ble_eq_true rfl, Nat.le_of_ble_eq_true rfl⟩, Nat.zero_le _, Nat.zero_le _⟩ dX5_set_36 ?_
      refine jx_istore_n (pc := 39) (i := 3) rfl rfl (by decide) (lv' := [(3, .int q6.1), (0, .ref (G.2 20)), (1, .int a1), (2, .int a2)]) rfl dX5_set_39 ?_
      refine jx_iload_n (pc := 40) (k0 := 2) rfl dX5_set_40 ?_
      refine jx_if_ne (pc := 41) (tgt := 46) dX5_set_41 (by decide) (fun c7 => ?_) (fun c7 => ?_)
      · have h := jx_f c7 h
        refine jx_aload_n (pc := 46) (k0 := 0) rfl dX5_set_46 ?_
        refine ll_glamp_night (pc := 47) fl_X5_26 dX5_set_47 ?_
        refine jx_iload_n (pc := 50) (k0 := 1) rfl dX5_set_50 ?_
        refine jx_iload_n (pc := 51) (k0 := 3) rfl dX5_set_51 ?_
        obtain ⟨q8, eq8, h⟩ := jx_bd_o h
        refine jx_callVv (pc := 52) [.int a1, .int q6.1] (fun sz' => k_X2_light l G t hG sz' q6.2 a1 q6.1 q8 eq8) kv_X5_186 ll_jok ll_rcnight rfl rfl (Nat.le_of_ble_eq_true rfl) ⟨⟨rfl, rfl⟩, ⟨Nat.le_of_ble_eq_true rfl, Nat.le_of_ble_eq_true rfl⟩, Nat.zero_le _, Nat.zero_le _⟩ dX5_set_52 ?_
        refine jx_aload_n (pc := 55) (k0 := 0) rfl dX5_set_55 ?_
        refine ll_glamp_night (pc := 56) fl_X5_26 dX5_set_56 ?_
        refine jx_iload_n (pc := 59) (k0 := 1) rfl dX5_set_59 ?_
        obtain ⟨q9, eq9, h⟩ := jx_bd_o h
        refine jx_callVi (pc := 60) [.int a1] (fun sz' => k_X2_leadOf l G t hG sz' q8 a1 q9 eq9) kv_X5_190 ll_jok ll_rcnight rfl rfl (Nat.le_of_ble_eq_true rfl) ⟨⟨rfl, rfl⟩, ⟨Nat.le_of_ble_eq_true rfl, Nat.le_of_ble_eq_true rfl⟩, Nat.zero_le _, Nat.zero_le _⟩ dX5_set_60 ?_
        have h := Option.some.inj h
        subst h
        exact jx_iret (pc := 63) dX5_set_63
      · have h := jx_t c7 h
        refine jx_iload_n (pc := 44) (k0 := 3) rfl dX5_set_44 ?_
        have h := Option.some.inj h
        subst h
        exact jx_iret (pc := 45) dX5_set_45
    · have h := jx_t c4 h
      refine jx_sipush (pc := 20) (v := (-1001 : Int32)) (by decide) dX5_set_20 ?_
      have h := Option.some.inj h
      subst h
      exact jx_iret (pc := 23) dX5_set_23
theorem dX5_fair_0 : decode cX5_fair 0 = .ok (.iload_n 1, 1) := by decide +kernel
theorem dX5_fair_1 : decode cX5_fair 1 = .ok (.iconst 0, 1) := by decide +kernel
theorem dX5_fair_2 : decode cX5_fair 2 = .ok (.iconst 1, 1) := by decide +kernel
theorem dX5_fair_3 : decode cX5_fair 3 = .ok (.invokestatic 48, 3) := by decide +kernel
theorem dX5_fair_6 : decode cX5_fair 6 = .ok (.ifCond .ne 5, 3) := by decide +kernel
theorem dX5_fair_9 : decode cX5_fair 9 = .ok (.iconst (-1), 1) := by decide +kernel
theorem dX5_fair_10 : decode cX5_fair 10 = .ok (.ireturn, 1) := by decide +kernel
theorem dX5_fair_11 : decode cX5_fair 11 = .ok (.aload_n 0, 1) := by decide +kernel
theorem dX5_fair_12 : decode cX5_fair 12 = .ok (.getfield 26, 3) := by decide +kernel
theorem dX5_fair_15 : decode cX5_fair 15 = .ok (.invokevirtual 135, 3) := by decide +kernel
theorem dX5_fair_18 : decode cX5_fair 18 = .ok (.aload_n 0, 1) := by decide +kernel
theorem dX5_fair_19 : decode cX5_fair 19 = .ok (.getfield 26, 3) := by decide +kernel
theorem dX5_fair_22 : decode cX5_fair 22 = .ok (.invokevirtual 211, 3) := by decide +kernel
theorem dX5_fair_25 : decode cX5_fair 25 = .ok (.istore_n 2, 1) := by decide +kernel
theorem dX5_fair_26 : decode cX5_fair 26 = .ok (.iload_n 1, 1) := by decide +kernel
theorem dX5_fair_27 : decode cX5_fair 27 = .ok (.ifCond .ne 7, 3) := by decide +kernel
theorem dX5_fair_30 : decode cX5_fair 30 = .ok (.iload_n 2, 1) := by decide +kernel
theorem dX5_fair_31 : decode cX5_fair 31 = .ok (.goto 11, 3) := by decide +kernel
theorem dX5_fair_34 : decode cX5_fair 34 = .ok (.aload_n 0, 1) := by decide +kernel
theorem dX5_fair_35 : decode cX5_fair 35 = .ok (.getfield 26, 3) := by decide +kernel
theorem dX5_fair_38 : decode cX5_fair 38 = .ok (.iload_n 2, 1) := by decide +kernel
theorem dX5_fair_39 : decode cX5_fair 39 = .ok (.invokevirtual 214, 3) := by decide +kernel
theorem dX5_fair_42 : decode cX5_fair 42 = .ok (.ireturn, 1) := by decide +kernel
abbrev rm_X5_fair : Room := { frames := 5, cells := 0, slots := 0, locals := 116 }
abbrev jJ_X5_fair (l : Launch) (G : jx_G) (t : jx_T) (sz : Nat) (out : (Int32 × jx_M)) (pc : Nat) (lv : List (Nat × Value)) (st : List Value) (σ : jx_M) : Prop := jx_J l (ll_env G t) (ll_dyn G t) (ll_rg G) sz RX5 "fair" cX5_fair 3 (some .int) rm_X5_fair (fun below args s => MQ below (jx_Qi (ll_dyn G t) out.2 out.1 (jx_A (ll_rg G) sz)) args s 0 0 (jx_A (ll_rg G) sz)) 0 0 pc lv st σ
def f_X5_fair (t : jx_T) (σ : jx_M) (a1 : Int32) : Option (Int32 × jx_M) :=
  jx_bd (f_X5_within a1 (0 : Int32) (1 : Int32)) (fun q1 => if q1 = 0 then some ((-1 : Int32), σ) else jx_bd (f_X2_pass t σ) (fun q3 => jx_bd (f_X2_fairest t q3) (fun q4 => if a1 = 0 then some (q4, q3) else jx_bd (f_X2_unfairness t q3 q4) (fun q6 => some (q6, q3)))))
set_option maxHeartbeats 4000000 in
set_option maxRecDepth 100000 in
theorem k_X5_fair (l : Launch) (G : jx_G) (t : jx_T) (hG : ll_ok G) (sz : Nat) (σ : jx_M) (a1 : Int32) (out : (Int32 × jx_M)) (h : f_X5_fair t σ a1 = some out) : Met l yX5_fair (Cond.code yX5_fair cX5_fair 3 (some .int) :: jx_ws) rm_X5_fair (jx_Pc (ll_env G t) (ll_dyn G t) (ll_rg G) sz σ [.ref (G.2 20), .int a1]) (jx_Qi (ll_dyn G t) out.2 out.1 (jx_A (ll_rg G) sz)) 0 0 (jx_A (ll_rg G) sz) := by
  unfold f_X5_fair at h
  refine jx_met (by decide) (Nat.le_of_ble_eq_true rfl) ?_
  refine jx_sub (lv' := [(0, .ref (G.2 20)), (1, .int a1)]) [0, 1] rfl ?_
  refine jx_iload_n (pc := 0) (k0 := 1) rfl dX5_fair_0 ?_
  refine jx_iconst (pc := 1) (v := (0 : Int32)) (by decide) dX5_fair_1 ?_
  refine jx_iconst (pc := 2) (v := (1 : Int32)) (by decide) dX5_fair_2 ?_
  obtain ⟨q1, eq1, h⟩ := jx_bd_o h
  refine jx_callSi (pc := 3) [.int a1, .int (0 : Int32), .int (1 : Int32)] (fun sz' => k_X5_within l G t hG sz' σ a1 (0 : Int32) (1 : Int32) q1 eq1) ks_X5_48 ll_jok rfl rfl (Nat.le_of_ble_eq_true rfl) ⟨⟨rfl, rfl⟩, ⟨Nat.le_of_ble_eq_true rfl, Nat.le_of_ble_eq_true rfl⟩, Nat.zero_le _, Nat.zero_le _⟩ dX5_fair_3 ?_
  refine jx_if_ne (pc := 6) (tgt := 11) dX5_fair_6 (by decide) (fun c2 => ?_) (fun c2 => ?_)
  · have h := jx_f c2 h
    refine jx_aload_n (pc := 11) (k0 := 0) rfl dX5_fair_11 ?_
    refine ll_glamp_night (pc := 12) fl_X5_26 dX5_fair_12 ?_
    obtain ⟨q3, eq3, h⟩ := jx_bd_o h
    refine jx_callVv (pc := 15) [] (fun sz' => k_X2_pass l G t hG sz' σ q3 eq3) kv_X5_135 ll_jok ll_rcnight rfl rfl (Nat.le_of_ble_eq_true rfl) ⟨⟨rfl, rfl⟩, ⟨Nat.le_of_ble_eq_true rfl, Nat.le_of_ble_eq_true rfl⟩, Nat.zero_le _, Nat.zero_le _⟩ dX5_fair_15 ?_
    refine jx_aload_n (pc := 18) (k0 := 0) rfl dX5_fair_18 ?_
    refine ll_glamp_night (pc := 19) fl_X5_26 dX5_fair_19 ?_
    obtain ⟨q4, eq4, h⟩ := jx_bd_o h
    refine jx_callVi (pc := 22) [] (fun sz' => k_X2_fairest l G t hG sz' q3 q4 eq4) kv_X5_211 ll_jok ll_rcnight rfl rfl (Nat.le_of_ble_eq_true rfl) ⟨⟨rfl, rfl⟩, ⟨Nat.le_of_ble_eq_true rfl, Nat.le_of_ble_eq_true rfl⟩, Nat.zero_le _, Nat.zero_le _⟩ dX5_fair_22 ?_
    refine jx_istore_n (pc := 25) (i := 2) rfl rfl (by decide) (lv' := [(2, .int q4), (0, .ref (G.2 20)), (1, .int a1)]) rfl dX5_fair_25 ?_
    refine jx_iload_n (pc := 26) (k0 := 1) rfl dX5_fair_26 ?_
    refine jx_if_ne (pc := 27) (tgt := 34) dX5_fair_27 (by decide) (fun c5 => ?_) (fun c5 => ?_)
    · have h := jx_f c5 h
      refine jx_aload_n (pc := 34) (k0 := 0) rfl dX5_fair_34 ?_
      refine ll_glamp_night (pc := 35) fl_X5_26 dX5_fair_35 ?_
      refine jx_iload_n (pc := 38) (k0 := 2) rfl dX5_fair_38 ?_
      obtain ⟨q6, eq6, h⟩ := jx_bd_o h
      refine jx_callVi (pc := 39) [.int q4] (fun sz' => k_X2_unfairness l G t hG sz' q3 q4 q6 eq6) kv_X5_214 ll_jok ll_rcnight rfl rfl (Nat.le_of_ble_eq_true rfl) ⟨⟨rfl, rfl⟩, ⟨Nat.le_of_ble_eq_true rfl, Nat.le_of_ble_eq_true rfl⟩, Nat.zero_le _, Nat.zero_le _⟩ dX5_fair_39 ?_
      have h := Option.some.inj h
      subst h
      exact jx_iret (pc := 42) dX5_fair_42
    · have h := jx_t c5 h
      refine jx_iload_n (pc := 30) (k0 := 2) rfl dX5_fair_30 ?_
      refine jx_goto (pc := 31) (tgt := 42) dX5_fair_31 (by decide) ?_
      have h := Option.some.inj h
      subst h
      exact jx_iret (pc := 42) dX5_fair_42
  · have h := jx_t c2 h
    refine jx_iconst (pc := 9) (v := (-1 : Int32)) (by decide) dX5_fair_9 ?_
    have h := Option.some.inj h
    subst h
    exact jx_iret (pc := 10) dX5_fair_10
theorem dX5_looked_0 : decode cX5_looked 0 = .ok (.aload_n 0, 1) := by decide +kernel
theorem dX5_looked_1 : decode cX5_looked 1 = .ok (.getfield 26, 3) := by decide +kernel
theorem dX5_looked_4 : decode cX5_looked 4 = .ok (.invokevirtual 229, 3) := by decide +kernel
theorem dX5_looked_7 : decode cX5_looked 7 = .ok (.ireturn, 1) := by decide +kernel
abbrev rm_X5_looked : Room := { frames := 5, cells := 0, slots := 0, locals := 117 }
abbrev jJ_X5_looked (l : Launch) (G : jx_G) (t : jx_T) (sz : Nat) (out : (Int32 × jx_M)) (pc : Nat) (lv : List (Nat × Value)) (st : List Value) (σ : jx_M) : Prop := jx_J l (ll_env G t) (ll_dyn G t) (ll_rg G) sz RX5 "looked" cX5_looked 1 (some .int) rm_X5_looked (fun below args s => MQ below (jx_Qi (ll_dyn G t) out.2 out.1 (jx_A (ll_rg G) sz)) args s 0 0 (jx_A (ll_rg G) sz)) 0 0 pc lv st σ
def f_X5_looked (t : jx_T) (σ : jx_M)  : Option (Int32 × jx_M) :=
  jx_bd (f_X2_firstUntrue t σ) (fun q1 => some (q1.1, q1.2))
set_option maxHeartbeats 4000000 in
set_option maxRecDepth 100000 in
theorem k_X5_looked (l : Launch) (G : jx_G) (t : jx_T) (hG : ll_ok G) (sz : Nat) (σ : jx_M)  (out : (Int32 × jx_M)) (h : f_X5_looked t σ = some out) : Met l yX5_looked (Cond.code yX5_looked cX5_looked 1 (some .int) :: jx_ws) rm_X5_looked (jx_Pc (ll_env G t) (ll_dyn G t) (ll_rg G) sz σ [.ref (G.2 20)]) (jx_Qi (ll_dyn G t) out.2 out.1 (jx_A (ll_rg G) sz)) 0 0 (jx_A (ll_rg G) sz) := by
  unfold f_X5_looked at h
  refine jx_met (by decide) (Nat.le_of_ble_eq_true rfl) ?_
  refine jx_sub (lv' := [(0, .ref (G.2 20))]) [0] rfl ?_
  refine jx_aload_n (pc := 0) (k0 := 0) rfl dX5_looked_0 ?_
  refine ll_glamp_night (pc := 1) fl_X5_26 dX5_looked_1 ?_
  obtain ⟨q1, eq1, h⟩ := jx_bd_o h
  refine jx_callVi (pc := 4) [] (fun sz' => k_X2_firstUntrue l G t hG sz' σ q1 eq1) kv_X5_229 ll_jok ll_rcnight rfl rfl (Nat.le_of_ble_eq_true rfl) ⟨⟨rfl, rfl⟩, ⟨Nat.le_of_ble_eq_true rfl, Nat.le_of_ble_eq_true rfl⟩, Nat.zero_le _, Nat.zero_le _⟩ dX5_looked_4 ?_
  have h := Option.some.inj h
  subst h
  exact jx_iret (pc := 7) dX5_looked_7
theorem dX5_turns_0 : decode cX5_turns 0 = .ok (.iload_n 1, 1) := by decide +kernel
theorem dX5_turns_1 : decode cX5_turns 1 = .ok (.iconst 0, 1) := by decide +kernel
theorem dX5_turns_2 : decode cX5_turns 2 = .ok (.iconst 1, 1) := by decide +kernel
theorem dX5_turns_3 : decode cX5_turns 3 = .ok (.invokestatic 48, 3) := by decide +kernel
theorem dX5_turns_6 : decode cX5_turns 6 = .ok (.ifCond .ne 5, 3) := by decide +kernel
theorem dX5_turns_9 : decode cX5_turns 9 = .ok (.iconst (-1), 1) := by decide +kernel
theorem dX5_turns_10 : decode cX5_turns 10 = .ok (.ireturn, 1) := by decide +kernel
theorem dX5_turns_11 : decode cX5_turns 11 = .ok (.aload_n 0, 1) := by decide +kernel
theorem dX5_turns_12 : decode cX5_turns 12 = .ok (.getfield 26, 3) := by decide +kernel
theorem dX5_turns_15 : decode cX5_turns 15 = .ok (.invokevirtual 167, 3) := by decide +kernel
theorem dX5_turns_18 : decode cX5_turns 18 = .ok (.istore_n 2, 1) := by decide +kernel
theorem dX5_turns_19 : decode cX5_turns 19 = .ok (.iload_n 1, 1) := by decide +kernel
theorem dX5_turns_20 : decode cX5_turns 20 = .ok (.iconst 1, 1) := by decide +kernel
theorem dX5_turns_21 : decode cX5_turns 21 = .ok (.if_icmp .eq 7, 3) := by decide +kernel
theorem dX5_turns_24 : decode cX5_turns 24 = .ok (.iload_n 2, 1) := by decide +kernel
theorem dX5_turns_25 : decode cX5_turns 25 = .ok (.ifCond .ge 7, 3) := by decide +kernel
theorem dX5_turns_28 : decode cX5_turns 28 = .ok (.iload_n 2, 1) := by decide +kernel
theorem dX5_turns_29 : decode cX5_turns 29 = .ok (.goto 7, 3) := by decide +kernel
theorem dX5_turns_32 : decode cX5_turns 32 = .ok (.iload_n 2, 1) := by decide +kernel
theorem dX5_turns_33 : decode cX5_turns 33 = .ok (.invokestatic 170, 3) := by decide +kernel
theorem dX5_turns_36 : decode cX5_turns 36 = .ok (.ireturn, 1) := by decide +kernel
abbrev rm_X5_turns : Room := { frames := 6, cells := 0, slots := 0, locals := 143 }
abbrev jJ_X5_turns (l : Launch) (G : jx_G) (t : jx_T) (sz : Nat) (out : (Int32 × jx_M)) (pc : Nat) (lv : List (Nat × Value)) (st : List Value) (σ : jx_M) : Prop := jx_J l (ll_env G t) (ll_dyn G t) (ll_rg G) sz RX5 "turns" cX5_turns 3 (some .int) rm_X5_turns (fun below args s => MQ below (jx_Qi (ll_dyn G t) out.2 out.1 (jx_A (ll_rg G) sz)) args s 0 0 (jx_A (ll_rg G) sz)) 0 0 pc lv st σ
def f_X5_turns (t : jx_T) (σ : jx_M) (a1 : Int32) : Option (Int32 × jx_M) :=
  jx_bd (f_X5_within a1 (0 : Int32) (1 : Int32)) (fun q1 => if q1 = 0 then some ((-1 : Int32), σ) else jx_bd (f_X2_turning t σ) (fun q3 => if a1 = (1 : Int32) then some (q3.1, q3.2) else if 0 ≤ q3.1 then jx_bd (f_J6_bitCount_0f7a4 q3.1) (fun q6 => some (q6, q3.2)) else some (q3.1, q3.2)))
set_option maxHeartbeats 4000000 in
set_option maxRecDepth 100000 in
theorem k_X5_turns (l : Launch) (G : jx_G) (t : jx_T) (hG : ll_ok G) (sz : Nat) (σ : jx_M) (a1 : Int32) (out : (Int32 × jx_M)) (h : f_X5_turns t σ a1 = some out) : Met l yX5_turns (Cond.code yX5_turns cX5_turns 3 (some .int) :: jx_ws) rm_X5_turns (jx_Pc (ll_env G t) (ll_dyn G t) (ll_rg G) sz σ [.ref (G.2 20), .int a1]) (jx_Qi (ll_dyn G t) out.2 out.1 (jx_A (ll_rg G) sz)) 0 0 (jx_A (ll_rg G) sz) := by
  unfold f_X5_turns at h
  refine jx_met (by decide) (Nat.le_of_ble_eq_true rfl) ?_
  refine jx_sub (lv' := [(0, .ref (G.2 20)), (1, .int a1)]) [0, 1] rfl ?_
  refine jx_iload_n (pc := 0) (k0 := 1) rfl dX5_turns_0 ?_
  refine jx_iconst (pc := 1) (v := (0 : Int32)) (by decide) dX5_turns_1 ?_
  refine jx_iconst (pc := 2) (v := (1 : Int32)) (by decide) dX5_turns_2 ?_
  obtain ⟨q1, eq1, h⟩ := jx_bd_o h
  refine jx_callSi (pc := 3) [.int a1, .int (0 : Int32), .int (1 : Int32)] (fun sz' => k_X5_within l G t hG sz' σ a1 (0 : Int32) (1 : Int32) q1 eq1) ks_X5_48 ll_jok rfl rfl (Nat.le_of_ble_eq_true rfl) ⟨⟨rfl, rfl⟩, ⟨Nat.le_of_ble_eq_true rfl, Nat.le_of_ble_eq_true rfl⟩, Nat.zero_le _, Nat.zero_le _⟩ dX5_turns_3 ?_
  refine jx_if_ne (pc := 6) (tgt := 11) dX5_turns_6 (by decide) (fun c2 => ?_) (fun c2 => ?_)
  · have h := jx_f c2 h
    refine jx_aload_n (pc := 11) (k0 := 0) rfl dX5_turns_11 ?_
    refine ll_glamp_night (pc := 12) fl_X5_26 dX5_turns_12 ?_
    obtain ⟨q3, eq3, h⟩ := jx_bd_o h
    refine jx_callVi (pc := 15) [] (fun sz' => k_X2_turning l G t hG sz' σ q3 eq3) kv_X5_167 ll_jok ll_rcnight rfl rfl (Nat.le_of_ble_eq_true rfl) ⟨⟨rfl, rfl⟩, ⟨Nat.le_of_ble_eq_true rfl, Nat.le_of_ble_eq_true rfl⟩, Nat.zero_le _, Nat.zero_le _⟩ dX5_turns_15 ?_
    refine jx_istore_n (pc := 18) (i := 2) rfl rfl (by decide) (lv' := [(2, .int q3.1), (0, .ref (G.2 20)), (1, .int a1)]) rfl dX5_turns_18 ?_
    refine jx_iload_n (pc := 19) (k0 := 1) rfl dX5_turns_19 ?_
    refine jx_iconst (pc := 20) (v := (1 : Int32)) (by decide) dX5_turns_20 ?_
    refine jx_icmp_eq (pc := 21) (tgt := 28) dX5_turns_21 (by decide) (fun c4 => ?_) (fun c4 => ?_)
    · have h := jx_t c4 h
      refine jx_iload_n (pc := 28) (k0 := 2) rfl dX5_turns_28 ?_
      refine jx_goto (pc := 29) (tgt := 36) dX5_turns_29 (by decide) ?_
      have h := Option.some.inj h
      subst h
      exact jx_iret (pc := 36) dX5_turns_36
    · have h := jx_f c4 h
      refine jx_iload_n (pc := 24) (k0 := 2) rfl dX5_turns_24 ?_
      refine jx_if_ge (pc := 25) (tgt := 32) dX5_turns_25 (by decide) (fun c5 => ?_) (fun c5 => ?_)
      · have h := jx_t c5 h
        refine jx_iload_n (pc := 32) (k0 := 2) rfl dX5_turns_32 ?_
        obtain ⟨q6, eq6, h⟩ := jx_bd_o h
        refine jx_callSi (pc := 33) [.int q3.1] (fun sz' => k_J6_bitCount_0f7a4 l G t hG sz' q3.2 q3.1 q6 eq6) ks_X5_170 ll_jok rfl rfl (Nat.le_of_ble_eq_true rfl) ⟨⟨rfl, rfl⟩, ⟨Nat.le_of_ble_eq_true rfl, Nat.le_of_ble_eq_true rfl⟩, Nat.zero_le _, Nat.zero_le _⟩ dX5_turns_33 ?_
        have h := Option.some.inj h
        subst h
        exact jx_iret (pc := 36) dX5_turns_36
      · have h := jx_f c5 h
        refine jx_iload_n (pc := 28) (k0 := 2) rfl dX5_turns_28 ?_
        refine jx_goto (pc := 29) (tgt := 36) dX5_turns_29 (by decide) ?_
        have h := Option.some.inj h
        subst h
        exact jx_iret (pc := 36) dX5_turns_36
  · have h := jx_t c2 h
    refine jx_iconst (pc := 9) (v := (-1 : Int32)) (by decide) dX5_turns_9 ?_
    have h := Option.some.inj h
    subst h
    exact jx_iret (pc := 10) dX5_turns_10
theorem dX5_sways_0 : decode cX5_sways 0 = .ok (.aload_n 0, 1) := by decide +kernel
theorem dX5_sways_1 : decode cX5_sways 1 = .ok (.getfield 12, 3) := by decide +kernel
theorem dX5_sways_4 : decode cX5_sways 4 = .ok (.iload_n 1, 1) := by decide +kernel
theorem dX5_sways_5 : decode cX5_sways 5 = .ok (.invokevirtual 119, 3) := by decide +kernel
theorem dX5_sways_8 : decode cX5_sways 8 = .ok (.ifCond .eq 12, 3) := by decide +kernel
theorem dX5_sways_11 : decode cX5_sways 11 = .ok (.iload_n 2, 1) := by decide +kernel
theorem dX5_sways_12 : decode cX5_sways 12 = .ok (.iconst 0, 1) := by decide +kernel
theorem dX5_sways_13 : decode cX5_sways 13 = .ok (.iconst 1, 1) := by decide +kernel
theorem dX5_sways_14 : decode cX5_sways 14 = .ok (.invokestatic 48, 3) := by decide +kernel
theorem dX5_sways_17 : decode cX5_sways 17 = .ok (.ifCond .ne 7, 3) := by decide +kernel
theorem dX5_sways_20 : decode cX5_sways 20 = .ok (.ldc2_w 175, 3) := by decide +kernel
theorem dX5_sways_23 : decode cX5_sways 23 = .ok (.lreturn, 1) := by decide +kernel
theorem dX5_sways_24 : decode cX5_sways 24 = .ok (.aload_n 0, 1) := by decide +kernel
theorem dX5_sways_25 : decode cX5_sways 25 = .ok (.getfield 26, 3) := by decide +kernel
theorem dX5_sways_28 : decode cX5_sways 28 = .ok (.iload_n 1, 1) := by decide +kernel
theorem dX5_sways_29 : decode cX5_sways 29 = .ok (.invokevirtual 177, 3) := by decide +kernel
theorem dX5_sways_32 : decode cX5_sways 32 = .ok (.istore_n 3, 1) := by decide +kernel
theorem dX5_sways_33 : decode cX5_sways 33 = .ok (.iconst 1, 1) := by decide +kernel
theorem dX5_sways_34 : decode cX5_sways 34 = .ok (.aload_n 0, 1) := by decide +kernel
theorem dX5_sways_35 : decode cX5_sways 35 = .ok (.getfield 12, 3) := by decide +kernel
theorem dX5_sways_38 : decode cX5_sways 38 = .ok (.getfield 75, 3) := by decide +kernel
theorem dX5_sways_41 : decode cX5_sways 41 = .ok (.ishl, 1) := by decide +kernel
theorem dX5_sways_42 : decode cX5_sways 42 = .ok (.istore 4, 2) := by decide +kernel
theorem dX5_sways_44 : decode cX5_sways 44 = .ok (.iload 4, 2) := by decide +kernel
theorem dX5_sways_46 : decode cX5_sways 46 = .ok (.iconst 1, 1) := by decide +kernel
theorem dX5_sways_47 : decode cX5_sways 47 = .ok (.if_icmp .le 22, 3) := by decide +kernel
theorem dX5_sways_50 : decode cX5_sways 50 = .ok (.iload_n 3, 1) := by decide +kernel
theorem dX5_sways_51 : decode cX5_sways 51 = .ok (.iconst 2, 1) := by decide +kernel
theorem dX5_sways_52 : decode cX5_sways 52 = .ok (.irem, 1) := by decide +kernel
theorem dX5_sways_53 : decode cX5_sways 53 = .ok (.ifCond .ne 16, 3) := by decide +kernel
theorem dX5_sways_56 : decode cX5_sways 56 = .ok (.iload_n 3, 1) := by decide +kernel
theorem dX5_sways_57 : decode cX5_sways 57 = .ok (.iconst 2, 1) := by decide +kernel
theorem dX5_sways_58 : decode cX5_sways 58 = .ok (.idiv, 1) := by decide +kernel
theorem dX5_sways_59 : decode cX5_sways 59 = .ok (.istore_n 3, 1) := by decide +kernel
theorem dX5_sways_60 : decode cX5_sways 60 = .ok (.iload 4, 2) := by decide +kernel
theorem dX5_sways_62 : decode cX5_sways 62 = .ok (.iconst 2, 1) := by decide +kernel
theorem dX5_sways_63 : decode cX5_sways 63 = .ok (.idiv, 1) := by decide +kernel
theorem dX5_sways_64 : decode cX5_sways 64 = .ok (.istore 4, 2) := by decide +kernel
theorem dX5_sways_66 : decode cX5_sways 66 = .ok (.goto (-22), 3) := by decide +kernel
theorem dX5_sways_69 : decode cX5_sways 69 = .ok (.iload_n 2, 1) := by decide +kernel
theorem dX5_sways_70 : decode cX5_sways 70 = .ok (.ifCond .ne 8, 3) := by decide +kernel
theorem dX5_sways_73 : decode cX5_sways 73 = .ok (.iload_n 3, 1) := by decide +kernel
theorem dX5_sways_74 : decode cX5_sways 74 = .ok (.i2l, 1) := by decide +kernel
theorem dX5_sways_75 : decode cX5_sways 75 = .ok (.goto 6, 3) := by decide +kernel
theorem dX5_sways_78 : decode cX5_sways 78 = .ok (.iload 4, 2) := by decide +kernel
theorem dX5_sways_80 : decode cX5_sways 80 = .ok (.i2l, 1) := by decide +kernel
theorem dX5_sways_81 : decode cX5_sways 81 = .ok (.lreturn, 1) := by decide +kernel
abbrev rm_X5_sways : Room := { frames := 6, cells := 0, slots := 0, locals := 139 }
abbrev jJ_X5_sways (l : Launch) (G : jx_G) (t : jx_T) (sz : Nat) (out : (Int64 × jx_M)) (pc : Nat) (lv : List (Nat × Value)) (st : List Value) (σ : jx_M) : Prop := jx_J l (ll_env G t) (ll_dyn G t) (ll_rg G) sz RX5 "sways" cX5_sways 5 (some .long) rm_X5_sways (fun below args s => MQ below (jx_Ql (ll_dyn G t) out.2 out.1 (jx_A (ll_rg G) sz)) args s 0 0 (jx_A (ll_rg G) sz)) 0 0 pc lv st σ
def b_X5_sways_69 (t : jx_T)  (σ : jx_M) (v2 : Int32) (v3 : Int32) (v4 : Int32) : Option (Int64 × jx_M) :=
  if v2 = 0 then some ((v3).toInt64, σ) else some ((v4).toInt64, σ)
set_option maxHeartbeats 4000000 in
set_option maxRecDepth 100000 in
theorem jb_X5_sways_69 (l : Launch) (G : jx_G) (t : jx_T) (hG : ll_ok G) (sz : Nat) (out : (Int64 × jx_M))  (σ : jx_M) (v2 : Int32) (v3 : Int32) (v4 : Int32) (h : b_X5_sways_69 t σ v2 v3 v4 = some out) : jJ_X5_sways l G t sz out 69 [(2, .int v2), (3, .int v3), (4, .int v4)] [] σ := by
  unfold b_X5_sways_69 at h
  refine jx_iload_n (pc := 69) (k0 := 2) rfl dX5_sways_69 ?_
  refine jx_if_ne (pc := 70) (tgt := 78) dX5_sways_70 (by decide) (fun c1 => ?_) (fun c1 => ?_)
  · have h := jx_f c1 h
    refine jx_iload (pc := 78) (i := 4) rfl dX5_sways_78 ?_
    refine jx_i2l (pc := 80) dX5_sways_80 ?_
    have h := Option.some.inj h
    subst h
    exact jx_lret (pc := 81) dX5_sways_81
  · have h := jx_t c1 h
    refine jx_iload_n (pc := 73) (k0 := 3) rfl dX5_sways_73 ?_
    refine jx_i2l (pc := 74) dX5_sways_74 ?_
    refine jx_goto (pc := 75) (tgt := 81) dX5_sways_75 (by decide) ?_
    have h := Option.some.inj h
    subst h
    exact jx_lret (pc := 81) dX5_sways_81
def g_X5_sways_44 (t : jx_T) (k44 : jx_M → Int32 → Int32 → Int32 → Option (Int64 × jx_M)) (σ : jx_M) (v2 : Int32) (v3 : Int32) (v4 : Int32) : Option (Int64 × jx_M) :=
  if v4 ≤ (1 : Int32) then (b_X5_sways_69 t σ v2 v3 v4) else if (v3 - v3 / (2 : Int32) * (2 : Int32)) = 0 then jx_lt ((v3 / (2 : Int32))) (fun x3 => jx_lt ((v4 / (2 : Int32))) (fun x4 => (k44 σ v2 x3 x4))) else (b_X5_sways_69 t σ v2 v3 v4)
set_option maxHeartbeats 4000000 in
set_option maxRecDepth 100000 in
theorem jg_X5_sways_44 (l : Launch) (G : jx_G) (t : jx_T) (hG : ll_ok G) (sz : Nat) (out : (Int64 × jx_M)) (k44 : jx_M → Int32 → Int32 → Int32 → Option (Int64 × jx_M)) (h44 : ∀ (σ : jx_M) (v2 : Int32) (v3 : Int32) (v4 : Int32), k44 σ v2 v3 v4 = some out → jJ_X5_sways l G t sz out 44 [(2, .int v2), (3, .int v3), (4, .int v4)] [] σ) (σ : jx_M) (v2 : Int32) (v3 : Int32) (v4 : Int32) (h : g_X5_sways_44 t k44 σ v2 v3 v4 = some out) : jJ_X5_sways l G t sz out 44 [(2, .int v2), (3, .int v3), (4, .int v4)] [] σ := by
  unfold g_X5_sways_44 at h
  refine jx_iload (pc := 44) (i := 4) rfl dX5_sways_44 ?_
  refine jx_iconst (pc := 46) (v := (1 : Int32)) (by decide) dX5_sways_46 ?_
  refine jx_icmp_le (pc := 47) (tgt := 69) dX5_sways_47 (by decide) (fun c1 => ?_) (fun c1 => ?_)
  · have h := jx_t c1 h
    exact jx_sub [0, 1, 2] rfl (jb_X5_sways_69 l G t hG sz out σ v2 v3 v4 h)
  · have h := jx_f c1 h
    refine jx_iload_n (pc := 50) (k0 := 3) rfl dX5_sways_50 ?_
    refine jx_iconst (pc := 51) (v := (2 : Int32)) (by decide) dX5_sways_51 ?_
    refine jx_irem (pc := 52) (by decide) dX5_sways_52 ?_
    refine jx_if_ne (pc := 53) (tgt := 69) dX5_sways_53 (by decide) (fun c2 => ?_) (fun c2 => ?_)
    · have h := jx_f c2 h
      exact jx_sub [0, 1, 2] rfl (jb_X5_sways_69 l G t hG sz out σ v2 v3 v4 h)
    · have h := jx_t c2 h
      refine jx_iload_n (pc := 56) (k0 := 3) rfl dX5_sways_56 ?_
      refine jx_iconst (pc := 57) (v := (2 : Int32)) (by decide) dX5_sways_57 ?_
      refine jx_idiv (pc := 58) (by decide) dX5_sways_58 ?_
      obtain ⟨x3, ex3, h⟩ := jx_lt_o h
      refine jx_istore_n (pc := 59) (i := 3) rfl ex3 (by decide) (lv' := [(3, .int x3), (2, .int v2), (4, .int v4)]) rfl dX5_sways_59 ?_
      refine jx_iload (pc := 60) (i := 4) rfl dX5_sways_60 ?_
      refine jx_iconst (pc := 62) (v := (2 : Int32)) (by decide) dX5_sways_62 ?_
      refine jx_idiv (pc := 63) (by decide) dX5_sways_63 ?_
      obtain ⟨x4, ex4, h⟩ := jx_lt_o h
      refine jx_istore (pc := 64) (i := 4) ex4 (by decide) (lv' := [(4, .int x4), (3, .int x3), (2, .int v2)]) rfl dX5_sways_64 ?_
      refine jx_goto (pc := 66) (tgt := 44) dX5_sways_66 (by decide) ?_
      exact jx_sub [2, 1, 0] rfl (h44 σ v2 x3 x4 h)
def b_X5_sways_44 (t : jx_T)  : Nat → jx_M → Int32 → Int32 → Int32 → Option (Int64 × jx_M)
  | 0, _, _, _, _ => none
  | n + 1, σ, v2, v3, v4 => g_X5_sways_44 t (b_X5_sways_44 t n) σ v2 v3 v4
theorem jb_X5_sways_44 (l : Launch) (G : jx_G) (t : jx_T) (hG : ll_ok G) (sz : Nat) (out : (Int64 × jx_M))  : ∀ (n : Nat) (σ : jx_M) (v2 : Int32) (v3 : Int32) (v4 : Int32), b_X5_sways_44 t n σ v2 v3 v4 = some out → jJ_X5_sways l G t sz out 44 [(2, .int v2), (3, .int v3), (4, .int v4)] [] σ := by
  intro n
  induction n with
  | zero =>
    intro σ v2 v3 v4 h
    cases h
  | succ n ih =>
    intro σ v2 v3 v4 h
    exact jg_X5_sways_44 l G t hG sz out (b_X5_sways_44 t n) ih σ v2 v3 v4 h
def f_X5_sways (t : jx_T) (σ : jx_M) (a1 : Int32) (a2 : Int32) : Option (Int64 × jx_M) :=
  jx_bd (f_X1_hasVoter t σ a1) (fun q1 => if q1 = 0 then some ((-9223372036854775808 : Int64), σ) else jx_bd (f_X5_within a2 (0 : Int32) (1 : Int32)) (fun q3 => if q3 = 0 then some ((-9223372036854775808 : Int64), σ) else jx_bd (f_X2_swayed t σ a1) (fun q5 => jx_lt (((1 : Int32) <<< ((q5.2 0 2) &&& 31))) (fun x6 => (b_X5_sways_44 t jx_fuel q5.2 a2 q5.1 x6)))))
set_option maxHeartbeats 4000000 in
set_option maxRecDepth 100000 in
theorem k_X5_sways (l : Launch) (G : jx_G) (t : jx_T) (hG : ll_ok G) (sz : Nat) (σ : jx_M) (a1 : Int32) (a2 : Int32) (out : (Int64 × jx_M)) (h : f_X5_sways t σ a1 a2 = some out) : Met l yX5_sways (Cond.code yX5_sways cX5_sways 5 (some .long) :: jx_ws) rm_X5_sways (jx_Pc (ll_env G t) (ll_dyn G t) (ll_rg G) sz σ [.ref (G.2 20), .int a1, .int a2]) (jx_Ql (ll_dyn G t) out.2 out.1 (jx_A (ll_rg G) sz)) 0 0 (jx_A (ll_rg G) sz) := by
  unfold f_X5_sways at h
  refine jx_met (by decide) (Nat.le_of_ble_eq_true rfl) ?_
  refine jx_sub (lv' := [(0, .ref (G.2 20)), (1, .int a1), (2, .int a2)]) [0, 1, 2] rfl ?_
  refine jx_aload_n (pc := 0) (k0 := 0) rfl dX5_sways_0 ?_
  refine ll_glamp_now (pc := 1) fl_X5_12 dX5_sways_1 ?_
  refine jx_iload_n (pc := 4) (k0 := 1) rfl dX5_sways_4 ?_
  obtain ⟨q1, eq1, h⟩ := jx_bd_o h
  refine jx_callVi (pc := 5) [.int a1] (fun sz' => k_X1_hasVoter l G t hG sz' σ a1 q1 eq1) kv_X5_119 ll_jok ll_rcnow rfl rfl (Nat.le_of_ble_eq_true rfl) ⟨⟨rfl, rfl⟩, ⟨Nat.le_of_ble_eq_true rfl, Nat.le_of_ble_eq_true rfl⟩, Nat.zero_le _, Nat.zero_le _⟩ dX5_sways_5 ?_
  refine jx_if_eq (pc := 8) (tgt := 20) dX5_sways_8 (by decide) (fun c2 => ?_) (fun c2 => ?_)
  · have h := jx_t c2 h
    refine jx_ldc2 (pc := 20) cn_X5_175 dX5_sways_20 ?_
    have h := Option.some.inj h
    subst h
    exact jx_lret (pc := 23) dX5_sways_23
  · have h := jx_f c2 h
    refine jx_iload_n (pc := 11) (k0 := 2) rfl dX5_sways_11 ?_
    refine jx_iconst (pc := 12) (v := (0 : Int32)) (by decide) dX5_sways_12 ?_
    refine jx_iconst (pc := 13) (v := (1 : Int32)) (by decide) dX5_sways_13 ?_
    obtain ⟨q3, eq3, h⟩ := jx_bd_o h
    refine jx_callSi (pc := 14) [.int a2, .int (0 : Int32), .int (1 : Int32)] (fun sz' => k_X5_within l G t hG sz' σ a2 (0 : Int32) (1 : Int32) q3 eq3) ks_X5_48 ll_jok rfl rfl (Nat.le_of_ble_eq_true rfl) ⟨⟨rfl, rfl⟩, ⟨Nat.le_of_ble_eq_true rfl, Nat.le_of_ble_eq_true rfl⟩, Nat.zero_le _, Nat.zero_le _⟩ dX5_sways_14 ?_
    refine jx_if_ne (pc := 17) (tgt := 24) dX5_sways_17 (by decide) (fun c4 => ?_) (fun c4 => ?_)
    · have h := jx_f c4 h
      refine jx_aload_n (pc := 24) (k0 := 0) rfl dX5_sways_24 ?_
      refine ll_glamp_night (pc := 25) fl_X5_26 dX5_sways_25 ?_
      refine jx_iload_n (pc := 28) (k0 := 1) rfl dX5_sways_28 ?_
      obtain ⟨q5, eq5, h⟩ := jx_bd_o h
      refine jx_callVi (pc := 29) [.int a1] (fun sz' => k_X2_swayed l G t hG sz' σ a1 q5 eq5) kv_X5_177 ll_jok ll_rcnight rfl rfl (Nat.le_of_ble_eq_true rfl) ⟨⟨rfl, rfl⟩, ⟨Nat.le_of_ble_eq_true rfl, Nat.le_of_ble_eq_true rfl⟩, Nat.zero_le _, Nat.zero_le _⟩ dX5_sways_29 ?_
      refine jx_istore_n (pc := 32) (i := 3) rfl rfl (by decide) (lv' := [(3, .int q5.1), (0, .ref (G.2 20)), (1, .int a1), (2, .int a2)]) rfl dX5_sways_32 ?_
      refine jx_iconst (pc := 33) (v := (1 : Int32)) (by decide) dX5_sways_33 ?_
      refine jx_aload_n (pc := 34) (k0 := 0) rfl dX5_sways_34 ?_
      refine ll_glamp_now (pc := 35) fl_X5_12 dX5_sways_35 ?_
      refine ll_gnow_voters (pc := 38) fl_X5_75 dX5_sways_38 ?_
      refine jx_ishl (pc := 41) dX5_sways_41 ?_
      obtain ⟨x6, ex6, h⟩ := jx_lt_o h
      refine jx_istore (pc := 42) (i := 4) ex6 (by decide) (lv' := [(4, .int x6), (3, .int q5.1), (0, .ref (G.2 20)), (1, .int a1), (2, .int a2)]) rfl dX5_sways_42 ?_
      exact jx_sub [4, 1, 0] rfl (jb_X5_sways_44 l G t hG sz out jx_fuel q5.2 a2 q5.1 x6 h)
    · have h := jx_t c4 h
      refine jx_ldc2 (pc := 20) cn_X5_175 dX5_sways_20 ?_
      have h := Option.some.inj h
      subst h
      exact jx_lret (pc := 23) dX5_sways_23
theorem dX5_game_0 : decode cX5_game 0 = .ok (.aload_n 0, 1) := by decide +kernel
theorem dX5_game_1 : decode cX5_game 1 = .ok (.getfield 12, 3) := by decide +kernel
theorem dX5_game_4 : decode cX5_game 4 = .ok (.iload_n 1, 1) := by decide +kernel
theorem dX5_game_5 : decode cX5_game 5 = .ok (.invokevirtual 119, 3) := by decide +kernel
theorem dX5_game_8 : decode cX5_game 8 = .ok (.ifCond .eq 23, 3) := by decide +kernel
theorem dX5_game_11 : decode cX5_game 11 = .ok (.aload_n 0, 1) := by decide +kernel
theorem dX5_game_12 : decode cX5_game 12 = .ok (.getfield 12, 3) := by decide +kernel
theorem dX5_game_15 : decode cX5_game 15 = .ok (.iload_n 2, 1) := by decide +kernel
theorem dX5_game_16 : decode cX5_game 16 = .ok (.invokevirtual 119, 3) := by decide +kernel
theorem dX5_game_19 : decode cX5_game 19 = .ok (.ifCond .eq 12, 3) := by decide +kernel
theorem dX5_game_22 : decode cX5_game 22 = .ok (.iload_n 3, 1) := by decide +kernel
theorem dX5_game_23 : decode cX5_game 23 = .ok (.iconst 0, 1) := by decide +kernel
theorem dX5_game_24 : decode cX5_game 24 = .ok (.iconst 1, 1) := by decide +kernel
theorem dX5_game_25 : decode cX5_game 25 = .ok (.invokestatic 48, 3) := by decide +kernel
theorem dX5_game_28 : decode cX5_game 28 = .ok (.ifCond .ne 7, 3) := by decide +kernel
theorem dX5_game_31 : decode cX5_game 31 = .ok (.sipush (-1001), 3) := by decide +kernel
theorem dX5_game_34 : decode cX5_game 34 = .ok (.ireturn, 1) := by decide +kernel
theorem dX5_game_35 : decode cX5_game 35 = .ok (.iload_n 1, 1) := by decide +kernel
theorem dX5_game_36 : decode cX5_game 36 = .ok (.iload_n 2, 1) := by decide +kernel
theorem dX5_game_37 : decode cX5_game 37 = .ok (.if_icmp .ne 7, 3) := by decide +kernel
theorem dX5_game_40 : decode cX5_game 40 = .ok (.sipush (-1002), 3) := by decide +kernel
theorem dX5_game_43 : decode cX5_game 43 = .ok (.ireturn, 1) := by decide +kernel
theorem dX5_game_44 : decode cX5_game 44 = .ok (.aload_n 0, 1) := by decide +kernel
theorem dX5_game_45 : decode cX5_game 45 = .ok (.getfield 26, 3) := by decide +kernel
theorem dX5_game_48 : decode cX5_game 48 = .ok (.invokevirtual 135, 3) := by decide +kernel
theorem dX5_game_51 : decode cX5_game 51 = .ok (.aload_n 0, 1) := by decide +kernel
theorem dX5_game_52 : decode cX5_game 52 = .ok (.getfield 26, 3) := by decide +kernel
theorem dX5_game_55 : decode cX5_game 55 = .ok (.iload_n 1, 1) := by decide +kernel
theorem dX5_game_56 : decode cX5_game 56 = .ok (.iload_n 2, 1) := by decide +kernel
theorem dX5_game_57 : decode cX5_game 57 = .ok (.invokevirtual 193, 3) := by decide +kernel
theorem dX5_game_60 : decode cX5_game 60 = .ok (.istore 4, 2) := by decide +kernel
theorem dX5_game_62 : decode cX5_game 62 = .ok (.iload_n 3, 1) := by decide +kernel
theorem dX5_game_63 : decode cX5_game 63 = .ok (.ifCond .ne 8, 3) := by decide +kernel
theorem dX5_game_66 : decode cX5_game 66 = .ok (.iload 4, 2) := by decide +kernel
theorem dX5_game_68 : decode cX5_game 68 = .ok (.goto 14, 3) := by decide +kernel
theorem dX5_game_71 : decode cX5_game 71 = .ok (.aload_n 0, 1) := by decide +kernel
theorem dX5_game_72 : decode cX5_game 72 = .ok (.getfield 26, 3) := by decide +kernel
theorem dX5_game_75 : decode cX5_game 75 = .ok (.iload_n 1, 1) := by decide +kernel
theorem dX5_game_76 : decode cX5_game 76 = .ok (.iload 4, 2) := by decide +kernel
theorem dX5_game_78 : decode cX5_game 78 = .ok (.iload_n 2, 1) := by decide +kernel
theorem dX5_game_79 : decode cX5_game 79 = .ok (.invokevirtual 196, 3) := by decide +kernel
theorem dX5_game_82 : decode cX5_game 82 = .ok (.ireturn, 1) := by decide +kernel
abbrev rm_X5_game : Room := { frames := 6, cells := 0, slots := 0, locals := 144 }
abbrev jJ_X5_game (l : Launch) (G : jx_G) (t : jx_T) (sz : Nat) (out : (Int32 × jx_M)) (pc : Nat) (lv : List (Nat × Value)) (st : List Value) (σ : jx_M) : Prop := jx_J l (ll_env G t) (ll_dyn G t) (ll_rg G) sz RX5 "game" cX5_game 5 (some .int) rm_X5_game (fun below args s => MQ below (jx_Qi (ll_dyn G t) out.2 out.1 (jx_A (ll_rg G) sz)) args s 0 0 (jx_A (ll_rg G) sz)) 0 0 pc lv st σ
def f_X5_game (t : jx_T) (σ : jx_M) (a1 : Int32) (a2 : Int32) (a3 : Int32) : Option (Int32 × jx_M) :=
  jx_bd (f_X1_hasVoter t σ a1) (fun q1 => if q1 = 0 then some ((-1001 : Int32), σ) else jx_bd (f_X1_hasVoter t σ a2) (fun q3 => if q3 = 0 then some ((-1001 : Int32), σ) else jx_bd (f_X5_within a3 (0 : Int32) (1 : Int32)) (fun q5 => if q5 = 0 then some ((-1001 : Int32), σ) else if a1 = a2 then some ((-1002 : Int32), σ) else jx_bd (f_X2_pass t σ) (fun q8 => jx_bd (f_X2_firstOf t q8 a1 a2) (fun q9 => if a3 = 0 then some (q9.1, q9.2) else jx_bd (f_X2_leadBehind t q9.2 a1 q9.1 a2) (fun q11 => some (q11.1, q11.2)))))))
set_option maxHeartbeats 4000000 in
set_option maxRecDepth 100000 in
theorem k_X5_game (l : Launch) (G : jx_G) (t : jx_T) (hG : ll_ok G) (sz : Nat) (σ : jx_M) (a1 : Int32) (a2 : Int32) (a3 : Int32) (out : (Int32 × jx_M)) (h : f_X5_game t σ a1 a2 a3 = some out) : Met l yX5_game (Cond.code yX5_game cX5_game 5 (some .int) :: jx_ws) rm_X5_game (jx_Pc (ll_env G t) (ll_dyn G t) (ll_rg G) sz σ [.ref (G.2 20), .int a1, .int a2, .int a3]) (jx_Qi (ll_dyn G t) out.2 out.1 (jx_A (ll_rg G) sz)) 0 0 (jx_A (ll_rg G) sz) := by
  unfold f_X5_game at h
  refine jx_met (by decide) (Nat.le_of_ble_eq_true rfl) ?_
  refine jx_sub (lv' := [(0, .ref (G.2 20)), (1, .int a1), (2, .int a2), (3, .int a3)]) [0, 1, 2, 3] rfl ?_
  refine jx_aload_n (pc := 0) (k0 := 0) rfl dX5_game_0 ?_
  refine ll_glamp_now (pc := 1) fl_X5_12 dX5_game_1 ?_
  refine jx_iload_n (pc := 4) (k0 := 1) rfl dX5_game_4 ?_
  obtain ⟨q1, eq1, h⟩ := jx_bd_o h
  refine jx_callVi (pc := 5) [.int a1] (fun sz' => k_X1_hasVoter l G t hG sz' σ a1 q1 eq1) kv_X5_119 ll_jok ll_rcnow rfl rfl (Nat.le_of_ble_eq_true rfl) ⟨⟨rfl, rfl⟩, ⟨Nat.le_of_ble_eq_true rfl, Nat.le_of_ble_eq_true rfl⟩, Nat.zero_le _, Nat.zero_le _⟩ dX5_game_5 ?_
  refine jx_if_eq (pc := 8) (tgt := 31) dX5_game_8 (by decide) (fun c2 => ?_) (fun c2 => ?_)
  · have h := jx_t c2 h
    refine jx_sipush (pc := 31) (v := (-1001 : Int32)) (by decide) dX5_game_31 ?_
    have h := Option.some.inj h
    subst h
    exact jx_iret (pc := 34) dX5_game_34
  · have h := jx_f c2 h
    refine jx_aload_n (pc := 11) (k0 := 0) rfl dX5_game_11 ?_
    refine ll_glamp_now (pc := 12) fl_X5_12 dX5_game_12 ?_
    refine jx_iload_n (pc := 15) (k0 := 2) rfl dX5_game_15 ?_
    obtain ⟨q3, eq3, h⟩ := jx_bd_o h
    refine jx_callVi (pc := 16) [.int a2] (fun sz' => k_X1_hasVoter l G t hG sz' σ a2 q3 eq3) kv_X5_119 ll_jok ll_rcnow rfl rfl (Nat.le_of_ble_eq_true rfl) ⟨⟨rfl, rfl⟩, ⟨Nat.le_of_ble_eq_true rfl, Nat.le_of_ble_eq_true rfl⟩, Nat.zero_le _, Nat.zero_le _⟩ dX5_game_16 ?_
    refine jx_if_eq (pc := 19) (tgt := 31) dX5_game_19 (by decide) (fun c4 => ?_) (fun c4 => ?_)
    · have h := jx_t c4 h
      refine jx_sipush (pc := 31) (v := (-1001 : Int32)) (by decide) dX5_game_31 ?_
      have h := Option.some.inj h
      subst h
      exact jx_iret (pc := 34) dX5_game_34
    · have h := jx_f c4 h
      refine jx_iload_n (pc := 22) (k0 := 3) rfl dX5_game_22 ?_
      refine jx_iconst (pc := 23) (v := (0 : Int32)) (by decide) dX5_game_23 ?_
      refine jx_iconst (pc := 24) (v := (1 : Int32)) (by decide) dX5_game_24 ?_
      obtain ⟨q5, eq5, h⟩ := jx_bd_o h
      refine jx_callSi (pc := 25) [.int a3, .int (0 : Int32), .int (1 : Int32)] (fun sz' => k_X5_within l G t hG sz' σ a3 (0 : Int32) (1 : Int32) q5 eq5) ks_X5_48 ll_jok rfl rfl (Nat.le_of_ble_eq_true rfl) ⟨⟨rfl, rfl⟩, ⟨Nat.le_of_ble_eq_true rfl, Nat.le_of_ble_eq_true rfl⟩, Nat.zero_le _, Nat.zero_le _⟩ dX5_game_25 ?_
      refine jx_if_ne (pc := 28) (tgt := 35) dX5_game_28 (by decide) (fun c6 => ?_) (fun c6 => ?_)
      · have h := jx_f c6 h
        refine jx_iload_n (pc := 35) (k0 := 1) rfl dX5_game_35 ?_
        refine jx_iload_n (pc := 36) (k0 := 2) rfl dX5_game_36 ?_
        refine jx_icmp_ne (pc := 37) (tgt := 44) dX5_game_37 (by decide) (fun c7 => ?_) (fun c7 => ?_)
        · have h := jx_f c7 h
          refine jx_aload_n (pc := 44) (k0 := 0) rfl dX5_game_44 ?_
          refine ll_glamp_night (pc := 45) fl_X5_26 dX5_game_45 ?_
          obtain ⟨q8, eq8, h⟩ := jx_bd_o h
          refine jx_callVv (pc := 48) [] (fun sz' => k_X2_pass l G t hG sz' σ q8 eq8) kv_X5_135 ll_jok ll_rcnight rfl rfl (Nat.le_of_ble_eq_true rfl) ⟨⟨rfl, rfl⟩, ⟨Nat.le_of_ble_eq_true rfl, Nat.le_of_ble_eq_true rfl⟩, Nat.zero_le _, Nat.zero_le _⟩ dX5_game_48 ?_
          refine jx_aload_n (pc := 51) (k0 := 0) rfl dX5_game_51 ?_
          refine ll_glamp_night (pc := 52) fl_X5_26 dX5_game_52 ?_
          refine jx_iload_n (pc := 55) (k0 := 1) rfl dX5_game_55 ?_
          refine jx_iload_n (pc := 56) (k0 := 2) rfl dX5_game_56 ?_
          obtain ⟨q9, eq9, h⟩ := jx_bd_o h
          refine jx_callVi (pc := 57) [.int a1, .int a2] (fun sz' => k_X2_firstOf l G t hG sz' q8 a1 a2 q9 eq9) kv_X5_193 ll_jok ll_rcnight rfl rfl (Nat.le_of_ble_eq_true rfl) ⟨⟨rfl, rfl⟩, ⟨Nat.le_of_ble_eq_true rfl, Nat.le_of_ble_eq_true rfl⟩, Nat.zero_le _, Nat.zero_le _⟩ dX5_game_57 ?_
          refine jx_istore (pc := 60) (i := 4) rfl (by decide) (lv' := [(4, .int q9.1), (0, .ref (G.2 20)), (1, .int a1), (2, .int a2), (3, .int a3)]) rfl dX5_game_60 ?_
          refine jx_iload_n (pc := 62) (k0 := 3) rfl dX5_game_62 ?_
          refine jx_if_ne (pc := 63) (tgt := 71) dX5_game_63 (by decide) (fun c10 => ?_) (fun c10 => ?_)
          · have h := jx_f c10 h
            refine jx_aload_n (pc := 71) (k0 := 0) rfl dX5_game_71 ?_
            refine ll_glamp_night (pc := 72) fl_X5_26 dX5_game_72 ?_
            refine jx_iload_n (pc := 75) (k0 := 1) rfl dX5_game_75 ?_
            refine jx_iload (pc := 76) (i := 4) rfl dX5_game_76 ?_
            refine jx_iload_n (pc := 78) (k0 := 2) rfl dX5_game_78 ?_
            obtain ⟨q11, eq11, h⟩ := jx_bd_o h
            refine jx_callVi (pc := 79) [.int a1, .int q9.1, .int a2] (fun sz' => k_X2_leadBehind l G t hG sz' q9.2 a1 q9.1 a2 q11 eq11) kv_X5_196 ll_jok ll_rcnight rfl rfl (Nat.le_of_ble_eq_true rfl) ⟨⟨rfl, rfl⟩, ⟨Nat.le_of_ble_eq_true rfl, Nat.le_of_ble_eq_true rfl⟩, Nat.zero_le _, Nat.zero_le _⟩ dX5_game_79 ?_
            have h := Option.some.inj h
            subst h
            exact jx_iret (pc := 82) dX5_game_82
          · have h := jx_t c10 h
            refine jx_iload (pc := 66) (i := 4) rfl dX5_game_66 ?_
            refine jx_goto (pc := 68) (tgt := 82) dX5_game_68 (by decide) ?_
            have h := Option.some.inj h
            subst h
            exact jx_iret (pc := 82) dX5_game_82
        · have h := jx_t c7 h
          refine jx_sipush (pc := 40) (v := (-1002 : Int32)) (by decide) dX5_game_40 ?_
          have h := Option.some.inj h
          subst h
          exact jx_iret (pc := 43) dX5_game_43
      · have h := jx_t c6 h
        refine jx_sipush (pc := 31) (v := (-1001 : Int32)) (by decide) dX5_game_31 ?_
        have h := Option.some.inj h
        subst h
        exact jx_iret (pc := 34) dX5_game_34
theorem dX5_fits_0 : decode cX5_fits 0 = .ok (.aload_n 0, 1) := by decide +kernel
theorem dX5_fits_1 : decode cX5_fits 1 = .ok (.getfield 12, 3) := by decide +kernel
theorem dX5_fits_4 : decode cX5_fits 4 = .ok (.iload_n 1, 1) := by decide +kernel
theorem dX5_fits_5 : decode cX5_fits 5 = .ok (.invokevirtual 119, 3) := by decide +kernel
theorem dX5_fits_8 : decode cX5_fits 8 = .ok (.ifCond .eq 14, 3) := by decide +kernel
theorem dX5_fits_11 : decode cX5_fits 11 = .ok (.aload_n 0, 1) := by decide +kernel
theorem dX5_fits_12 : decode cX5_fits 12 = .ok (.getfield 26, 3) := by decide +kernel
theorem dX5_fits_15 : decode cX5_fits 15 = .ok (.iload_n 1, 1) := by decide +kernel
theorem dX5_fits_16 : decode cX5_fits 16 = .ok (.invokevirtual 208, 3) := by decide +kernel
theorem dX5_fits_19 : decode cX5_fits 19 = .ok (.goto 4, 3) := by decide +kernel
theorem dX5_fits_22 : decode cX5_fits 22 = .ok (.iconst (-1), 1) := by decide +kernel
theorem dX5_fits_23 : decode cX5_fits 23 = .ok (.ireturn, 1) := by decide +kernel
abbrev rm_X5_fits : Room := { frames := 6, cells := 0, slots := 0, locals := 139 }
abbrev jJ_X5_fits (l : Launch) (G : jx_G) (t : jx_T) (sz : Nat) (out : (Int32 × jx_M)) (pc : Nat) (lv : List (Nat × Value)) (st : List Value) (σ : jx_M) : Prop := jx_J l (ll_env G t) (ll_dyn G t) (ll_rg G) sz RX5 "fits" cX5_fits 2 (some .int) rm_X5_fits (fun below args s => MQ below (jx_Qi (ll_dyn G t) out.2 out.1 (jx_A (ll_rg G) sz)) args s 0 0 (jx_A (ll_rg G) sz)) 0 0 pc lv st σ
def f_X5_fits (t : jx_T) (σ : jx_M) (a1 : Int32) : Option (Int32 × jx_M) :=
  jx_bd (f_X1_hasVoter t σ a1) (fun q1 => if q1 = 0 then some ((-1 : Int32), σ) else jx_bd (f_X2_fitting t σ a1) (fun q3 => some (q3.1, q3.2)))
set_option maxHeartbeats 4000000 in
set_option maxRecDepth 100000 in
theorem k_X5_fits (l : Launch) (G : jx_G) (t : jx_T) (hG : ll_ok G) (sz : Nat) (σ : jx_M) (a1 : Int32) (out : (Int32 × jx_M)) (h : f_X5_fits t σ a1 = some out) : Met l yX5_fits (Cond.code yX5_fits cX5_fits 2 (some .int) :: jx_ws) rm_X5_fits (jx_Pc (ll_env G t) (ll_dyn G t) (ll_rg G) sz σ [.ref (G.2 20), .int a1]) (jx_Qi (ll_dyn G t) out.2 out.1 (jx_A (ll_rg G) sz)) 0 0 (jx_A (ll_rg G) sz) := by
  unfold f_X5_fits at h
  refine jx_met (by decide) (Nat.le_of_ble_eq_true rfl) ?_
  refine jx_sub (lv' := [(0, .ref (G.2 20)), (1, .int a1)]) [0, 1] rfl ?_
  refine jx_aload_n (pc := 0) (k0 := 0) rfl dX5_fits_0 ?_
  refine ll_glamp_now (pc := 1) fl_X5_12 dX5_fits_1 ?_
  refine jx_iload_n (pc := 4) (k0 := 1) rfl dX5_fits_4 ?_
  obtain ⟨q1, eq1, h⟩ := jx_bd_o h
  refine jx_callVi (pc := 5) [.int a1] (fun sz' => k_X1_hasVoter l G t hG sz' σ a1 q1 eq1) kv_X5_119 ll_jok ll_rcnow rfl rfl (Nat.le_of_ble_eq_true rfl) ⟨⟨rfl, rfl⟩, ⟨Nat.le_of_ble_eq_true rfl, Nat.le_of_ble_eq_true rfl⟩, Nat.zero_le _, Nat.zero_le _⟩ dX5_fits_5 ?_
  refine jx_if_eq (pc := 8) (tgt := 22) dX5_fits_8 (by decide) (fun c2 => ?_) (fun c2 => ?_)
  · have h := jx_t c2 h
    refine jx_iconst (pc := 22) (v := (-1 : Int32)) (by decide) dX5_fits_22 ?_
    have h := Option.some.inj h
    subst h
    exact jx_iret (pc := 23) dX5_fits_23
  · have h := jx_f c2 h
    refine jx_aload_n (pc := 11) (k0 := 0) rfl dX5_fits_11 ?_
    refine ll_glamp_night (pc := 12) fl_X5_26 dX5_fits_12 ?_
    refine jx_iload_n (pc := 15) (k0 := 1) rfl dX5_fits_15 ?_
    obtain ⟨q3, eq3, h⟩ := jx_bd_o h
    refine jx_callVi (pc := 16) [.int a1] (fun sz' => k_X2_fitting l G t hG sz' σ a1 q3 eq3) kv_X5_208 ll_jok ll_rcnight rfl rfl (Nat.le_of_ble_eq_true rfl) ⟨⟨rfl, rfl⟩, ⟨Nat.le_of_ble_eq_true rfl, Nat.le_of_ble_eq_true rfl⟩, Nat.zero_le _, Nat.zero_le _⟩ dX5_fits_16 ?_
    refine jx_goto (pc := 19) (tgt := 23) dX5_fits_19 (by decide) ?_
    have h := Option.some.inj h
    subst h
    exact jx_iret (pc := 23) dX5_fits_23
