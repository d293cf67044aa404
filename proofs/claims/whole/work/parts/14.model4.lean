/-! the reference's methods: a function on the memory each, and its contract -/
theorem dX6_of_0 : decode cX6_of 0 = .ok (.aload_n 0, 1) := by decide +kernel
theorem dX6_of_1 : decode cX6_of 1 = .ok (.iload_n 1, 1) := by decide +kernel
theorem dX6_of_2 : decode cX6_of 2 = .ok (.invokevirtual 163, 3) := by decide +kernel
theorem dX6_of_5 : decode cX6_of 5 = .ok (.ifCond .ne 5, 3) := by decide +kernel
theorem dX6_of_8 : decode cX6_of 8 = .ok (.iconst (-1), 1) := by decide +kernel
theorem dX6_of_9 : decode cX6_of 9 = .ok (.ireturn, 1) := by decide +kernel
theorem dX6_of_10 : decode cX6_of 10 = .ok (.iload_n 2, 1) := by decide +kernel
theorem dX6_of_11 : decode cX6_of 11 = .ok (.tableswitch 48 5 7 #[25, 31, 37], 25) := by decide +kernel
theorem dX6_of_36 : decode cX6_of 36 = .ok (.aload_n 0, 1) := by decide +kernel
theorem dX6_of_37 : decode cX6_of 37 = .ok (.iload_n 1, 1) := by decide +kernel
theorem dX6_of_38 : decode cX6_of 38 = .ok (.invokevirtual 166, 3) := by decide +kernel
theorem dX6_of_41 : decode cX6_of 41 = .ok (.ireturn, 1) := by decide +kernel
theorem dX6_of_42 : decode cX6_of 42 = .ok (.aload_n 0, 1) := by decide +kernel
theorem dX6_of_43 : decode cX6_of 43 = .ok (.iload_n 1, 1) := by decide +kernel
theorem dX6_of_44 : decode cX6_of 44 = .ok (.invokevirtual 160, 3) := by decide +kernel
theorem dX6_of_47 : decode cX6_of 47 = .ok (.ireturn, 1) := by decide +kernel
theorem dX6_of_48 : decode cX6_of 48 = .ok (.aload_n 0, 1) := by decide +kernel
theorem dX6_of_49 : decode cX6_of 49 = .ok (.iload_n 1, 1) := by decide +kernel
theorem dX6_of_50 : decode cX6_of 50 = .ok (.aload_n 0, 1) := by decide +kernel
theorem dX6_of_51 : decode cX6_of 51 = .ok (.iload_n 1, 1) := by decide +kernel
theorem dX6_of_52 : decode cX6_of 52 = .ok (.invokevirtual 166, 3) := by decide +kernel
theorem dX6_of_55 : decode cX6_of 55 = .ok (.invokevirtual 169, 3) := by decide +kernel
theorem dX6_of_58 : decode cX6_of 58 = .ok (.ireturn, 1) := by decide +kernel
theorem dX6_of_59 : decode cX6_of 59 = .ok (.iload_n 2, 1) := by decide +kernel
theorem dX6_of_60 : decode cX6_of 60 = .ok (.iconst 0, 1) := by decide +kernel
theorem dX6_of_61 : decode cX6_of 61 = .ok (.iconst 4, 1) := by decide +kernel
theorem dX6_of_62 : decode cX6_of 62 = .ok (.invokestatic 48, 3) := by decide +kernel
theorem dX6_of_65 : decode cX6_of 65 = .ok (.ifCond .eq 20, 3) := by decide +kernel
theorem dX6_of_68 : decode cX6_of 68 = .ok (.aload_n 0, 1) := by decide +kernel
theorem dX6_of_69 : decode cX6_of 69 = .ok (.getfield 9, 3) := by decide +kernel
theorem dX6_of_72 : decode cX6_of 72 = .ok (.bipush 31, 2) := by decide +kernel
theorem dX6_of_74 : decode cX6_of 74 = .ok (.bipush 6, 2) := by decide +kernel
theorem dX6_of_76 : decode cX6_of 76 = .ok (.iload_n 2, 1) := by decide +kernel
theorem dX6_of_77 : decode cX6_of 77 = .ok (.imul, 1) := by decide +kernel
theorem dX6_of_78 : decode cX6_of 78 = .ok (.iadd, 1) := by decide +kernel
theorem dX6_of_79 : decode cX6_of 79 = .ok (.iload_n 1, 1) := by decide +kernel
theorem dX6_of_80 : decode cX6_of 80 = .ok (.iadd, 1) := by decide +kernel
theorem dX6_of_81 : decode cX6_of 81 = .ok (.iaload, 1) := by decide +kernel
theorem dX6_of_82 : decode cX6_of 82 = .ok (.goto 4, 3) := by decide +kernel
theorem dX6_of_85 : decode cX6_of 85 = .ok (.iconst (-1), 1) := by decide +kernel
theorem dX6_of_86 : decode cX6_of 86 = .ok (.ireturn, 1) := by decide +kernel
abbrev rm_X6_of : Room := { frames := 2, cells := 0, slots := 0, locals := 53 }
abbrev jJ_X6_of (l : Launch) (G : jx_G) (sz : Nat) (out : (Int32 × jx_M)) (pc : Nat) (lv : List (Nat × Value)) (st : List Value) (σ : jx_M) : Prop := jx_J l (mm_env G) (mm_dyn G) (mm_rg G) sz RX6 "of" cX6_of 3 (some .int) rm_X6_of (fun below args s => MQ below (jx_Qi (mm_dyn G) out.2 out.1 (jx_A (mm_rg G) sz)) args s 0 0 (jx_A (mm_rg G) sz)) 0 0 pc lv st σ
def f_X6_of (σ : jx_M) (a1 : Int32) (a2 : Int32) : Option (Int32 × jx_M) :=
  jx_bd (f_X6_isVoter σ a1) (fun q1 => if q1 = 0 then some ((-1 : Int32), σ) else if a2 = (5 : Int32) then jx_bd (f_X6_setsOf σ a1) (fun q3 => some (q3, σ)) else if a2 = (6 : Int32) then jx_bd (f_X6_delayOf σ a1) (fun q5 => some (q5, σ)) else if a2 = (7 : Int32) then jx_bd (f_X6_setsOf σ a1) (fun q7 => jx_bd (f_X6_burnsAt σ a1 q7) (fun q8 => some (q8.1, q8.2))) else jx_bd (f_X6_in a2 (0 : Int32) (4 : Int32)) (fun q10 => if q10 = 0 then some ((-1 : Int32), σ) else jx_gd (jx_in (((31 : Int32) + ((6 : Int32) * a2)) + a1) 920) (some ((σ 1 (((31 : Int32) + ((6 : Int32) * a2)) + a1).toNatClampNeg), σ))))
set_option maxHeartbeats 4000000 in
set_option maxRecDepth 100000 in
theorem k_X6_of (l : Launch) (G : jx_G) (hG : mm_ok G) (sz : Nat) (σ : jx_M) (a1 : Int32) (a2 : Int32) (out : (Int32 × jx_M)) (h : f_X6_of σ a1 a2 = some out) : Met l yX6_of (Cond.code yX6_of cX6_of 3 (some .int) :: jx_ws) rm_X6_of (jx_Pc (mm_env G) (mm_dyn G) (mm_rg G) sz σ [.ref (G.2 10), .int a1, .int a2]) (jx_Qi (mm_dyn G) out.2 out.1 (jx_A (mm_rg G) sz)) 0 0 (jx_A (mm_rg G) sz) := by
  unfold f_X6_of at h
  refine jx_met (by decide) (Nat.le_of_ble_eq_true rfl) ?_
  refine jx_sub (lv' := [(0, .ref (G.2 10)), (1, .int a1), (2, .int a2)]) [0, 1, 2] rfl ?_
  refine jx_aload_n (pc := 0) (k0 := 0) rfl dX6_of_0 ?_
  refine jx_iload_n (pc := 1) (k0 := 1) rfl dX6_of_1 ?_
  obtain ⟨q1, eq1, h⟩ := jx_bd_o h
  refine jx_callVi (pc := 2) [.int a1] (fun sz' => k_X6_isVoter l G hG sz' σ a1 q1 eq1) kv_X6_163 mm_jok mm_rc rfl rfl (Nat.le_of_ble_eq_true rfl) ⟨⟨rfl, rfl⟩, ⟨Nat.le_of_ble_eq_true rfl, Nat.le_of_ble_eq_true rfl⟩, Nat.zero_le _, Nat.zero_le _⟩ dX6_of_2 ?_
  refine jx_if_ne (pc := 5) (tgt := 10) dX6_of_5 (by decide) (fun c2 => ?_) (fun c2 => ?_)
  · have h := jx_f c2 h
    refine jx_iload_n (pc := 10) (k0 := 2) rfl dX6_of_10 ?_
    by_cases c4 : a2 = (5 : Int32)
    · have h := jx_t c4 h
      refine jx_tabIn (pc := 11) (tgt := 36) dX6_of_11 5 (by rw [c4]; rfl) (by decide) (by decide) rfl (by decide) ?_
      refine jx_aload_n (pc := 36) (k0 := 0) rfl dX6_of_36 ?_
      refine jx_iload_n (pc := 37) (k0 := 1) rfl dX6_of_37 ?_
      obtain ⟨q3, eq3, h⟩ := jx_bd_o h
      refine jx_callVi (pc := 38) [.int a1] (fun sz' => k_X6_setsOf l G hG sz' σ a1 q3 eq3) kv_X6_166 mm_jok mm_rc rfl rfl (Nat.le_of_ble_eq_true rfl) ⟨⟨rfl, rfl⟩, ⟨Nat.le_of_ble_eq_true rfl, Nat.le_of_ble_eq_true rfl⟩, Nat.zero_le _, Nat.zero_le _⟩ dX6_of_38 ?_
      have h := Option.some.inj h
      subst h
      exact jx_iret (pc := 41) dX6_of_41
    have h := jx_f c4 h
    by_cases c6 : a2 = (6 : Int32)
    · have h := jx_t c6 h
      refine jx_tabIn (pc := 11) (tgt := 42) dX6_of_11 6 (by rw [c6]; rfl) (by decide) (by decide) rfl (by decide) ?_
      refine jx_aload_n (pc := 42) (k0 := 0) rfl dX6_of_42 ?_
      refine jx_iload_n (pc := 43) (k0 := 1) rfl dX6_of_43 ?_
      obtain ⟨q5, eq5, h⟩ := jx_bd_o h
      refine jx_callVi (pc := 44) [.int a1] (fun sz' => k_X6_delayOf l G hG sz' σ a1 q5 eq5) kv_X6_160 mm_jok mm_rc rfl rfl (Nat.le_of_ble_eq_true rfl) ⟨⟨rfl, rfl⟩, ⟨Nat.le_of_ble_eq_true rfl, Nat.le_of_ble_eq_true rfl⟩, Nat.zero_le _, Nat.zero_le _⟩ dX6_of_44 ?_
      have h := Option.some.inj h
      subst h
      exact jx_iret (pc := 47) dX6_of_47
    have h := jx_f c6 h
    by_cases c9 : a2 = (7 : Int32)
    · have h := jx_t c9 h
      refine jx_tabIn (pc := 11) (tgt := 48) dX6_of_11 7 (by rw [c9]; rfl) (by decide) (by decide) rfl (by decide) ?_
      refine jx_aload_n (pc := 48) (k0 := 0) rfl dX6_of_48 ?_
      refine jx_iload_n (pc := 49) (k0 := 1) rfl dX6_of_49 ?_
      refine jx_aload_n (pc := 50) (k0 := 0) rfl dX6_of_50 ?_
      refine jx_iload_n (pc := 51) (k0 := 1) rfl dX6_of_51 ?_
      obtain ⟨q7, eq7, h⟩ := jx_bd_o h
      refine jx_callVi (pc := 52) [.int a1] (fun sz' => k_X6_setsOf l G hG sz' σ a1 q7 eq7) kv_X6_166 mm_jok mm_rc rfl rfl (Nat.le_of_ble_eq_true rfl) ⟨⟨rfl, rfl⟩, ⟨Nat.le_of_ble_eq_true rfl, Nat.le_of_ble_eq_true rfl⟩, Nat.zero_le _, Nat.zero_le _⟩ dX6_of_52 ?_
      obtain ⟨q8, eq8, h⟩ := jx_bd_o h
      refine jx_callVi (pc := 55) [.int a1, .int q7] (fun sz' => k_X6_burnsAt l G hG sz' σ a1 q7 q8 eq8) kv_X6_169 mm_jok mm_rc rfl rfl (Nat.le_of_ble_eq_true rfl) ⟨⟨rfl, rfl⟩, ⟨Nat.le_of_ble_eq_true rfl, Nat.le_of_ble_eq_true rfl⟩, Nat.zero_le _, Nat.zero_le _⟩ dX6_of_55 ?_
      have h := Option.some.inj h
      subst h
      exact jx_iret (pc := 58) dX6_of_58
    have h := jx_f c9 h
    refine jx_tabOut (pc := 11) (tgt := 59) dX6_of_11 (by have z0 := lv_neT c4 (show (5 : Int32).toInt = 5 from rfl); have z1 := lv_neT c6 (show (6 : Int32).toInt = 6 from rfl); have z2 := lv_neT c9 (show (7 : Int32).toInt = 7 from rfl); omega) (by decide) ?_
    refine jx_iload_n (pc := 59) (k0 := 2) rfl dX6_of_59 ?_
    refine jx_iconst (pc := 60) (v := (0 : Int32)) (by decide) dX6_of_60 ?_
    refine jx_iconst (pc := 61) (v := (4 : Int32)) (by decide) dX6_of_61 ?_
    obtain ⟨q10, eq10, h⟩ := jx_bd_o h
    refine jx_callSi (pc := 62) [.int a2, .int (0 : Int32), .int (4 : Int32)] (fun sz' => k_X6_in l G hG sz' σ a2 (0 : Int32) (4 : Int32) q10 eq10) ks_X6_48 mm_jok rfl rfl (Nat.le_of_ble_eq_true rfl) ⟨⟨rfl, rfl⟩, ⟨Nat.le_of_ble_eq_true rfl, Nat.le_of_ble_eq_true rfl⟩, Nat.zero_le _, Nat.zero_le _⟩ dX6_of_62 ?_
    refine jx_if_eq (pc := 65) (tgt := 85) dX6_of_65 (by decide) (fun c11 => ?_) (fun c11 => ?_)
    · have h := jx_t c11 h
      refine jx_iconst (pc := 85) (v := (-1 : Int32)) (by decide) dX6_of_85 ?_
      have h := Option.some.inj h
      subst h
      exact jx_iret (pc := 86) dX6_of_86
    · have h := jx_f c11 h
      refine jx_aload_n (pc := 68) (k0 := 0) rfl dX6_of_68 ?_
      refine mm_g_s (pc := 69) fl_X6_9 dX6_of_69 ?_
      refine jx_bipush (pc := 72) (v := (31 : Int32)) (by decide) dX6_of_72 ?_
      refine jx_bipush (pc := 74) (v := (6 : Int32)) (by decide) dX6_of_74 ?_
      refine jx_iload_n (pc := 76) (k0 := 2) rfl dX6_of_76 ?_
      refine jx_imul (pc := 77) dX6_of_77 ?_
      refine jx_iadd (pc := 78) dX6_of_78 ?_
      refine jx_iload_n (pc := 79) (k0 := 1) rfl dX6_of_79 ?_
      refine jx_iadd (pc := 80) dX6_of_80 ?_
      obtain ⟨g12, h⟩ := jx_gd_o h
      refine mm_l_s (pc := 81) (jx_in_o g12) rfl dX6_of_81 ?_
      refine jx_goto (pc := 82) (tgt := 86) dX6_of_82 (by decide) ?_
      have h := Option.some.inj h
      subst h
      exact jx_iret (pc := 86) dX6_of_86
  · have h := jx_t c2 h
    refine jx_iconst (pc := 8) (v := (-1 : Int32)) (by decide) dX6_of_8 ?_
    have h := Option.some.inj h
    subst h
    exact jx_iret (pc := 9) dX6_of_9
theorem dX6_wish_0 : decode cX6_wish 0 = .ok (.aload_n 0, 1) := by decide +kernel
theorem dX6_wish_1 : decode cX6_wish 1 = .ok (.iload_n 1, 1) := by decide +kernel
theorem dX6_wish_2 : decode cX6_wish 2 = .ok (.invokevirtual 163, 3) := by decide +kernel
theorem dX6_wish_5 : decode cX6_wish 5 = .ok (.ifCond .ne 5, 3) := by decide +kernel
theorem dX6_wish_8 : decode cX6_wish 8 = .ok (.iconst (-1), 1) := by decide +kernel
theorem dX6_wish_9 : decode cX6_wish 9 = .ok (.ireturn, 1) := by decide +kernel
theorem dX6_wish_10 : decode cX6_wish 10 = .ok (.iload_n 2, 1) := by decide +kernel
theorem dX6_wish_11 : decode cX6_wish 11 = .ok (.iconst 0, 1) := by decide +kernel
theorem dX6_wish_12 : decode cX6_wish 12 = .ok (.iconst 1, 1) := by decide +kernel
theorem dX6_wish_13 : decode cX6_wish 13 = .ok (.invokestatic 48, 3) := by decide +kernel
theorem dX6_wish_16 : decode cX6_wish 16 = .ok (.ifCond .ne 6, 3) := by decide +kernel
theorem dX6_wish_19 : decode cX6_wish 19 = .ok (.bipush (-2), 2) := by decide +kernel
theorem dX6_wish_21 : decode cX6_wish 21 = .ok (.ireturn, 1) := by decide +kernel
theorem dX6_wish_22 : decode cX6_wish 22 = .ok (.aload_n 0, 1) := by decide +kernel
theorem dX6_wish_23 : decode cX6_wish 23 = .ok (.getfield 9, 3) := by decide +kernel
theorem dX6_wish_26 : decode cX6_wish 26 = .ok (.bipush 49, 2) := by decide +kernel
theorem dX6_wish_28 : decode cX6_wish 28 = .ok (.iload_n 1, 1) := by decide +kernel
theorem dX6_wish_29 : decode cX6_wish 29 = .ok (.iadd, 1) := by decide +kernel
theorem dX6_wish_30 : decode cX6_wish 30 = .ok (.iaload, 1) := by decide +kernel
theorem dX6_wish_31 : decode cX6_wish 31 = .ok (.istore_n 3, 1) := by decide +kernel
theorem dX6_wish_32 : decode cX6_wish 32 = .ok (.aload_n 0, 1) := by decide +kernel
theorem dX6_wish_33 : decode cX6_wish 33 = .ok (.getfield 9, 3) := by decide +kernel
theorem dX6_wish_36 : decode cX6_wish 36 = .ok (.bipush 49, 2) := by decide +kernel
theorem dX6_wish_38 : decode cX6_wish 38 = .ok (.iload_n 1, 1) := by decide +kernel
theorem dX6_wish_39 : decode cX6_wish 39 = .ok (.iadd, 1) := by decide +kernel
theorem dX6_wish_40 : decode cX6_wish 40 = .ok (.iload_n 2, 1) := by decide +kernel
theorem dX6_wish_41 : decode cX6_wish 41 = .ok (.iastore, 1) := by decide +kernel
theorem dX6_wish_42 : decode cX6_wish 42 = .ok (.iload_n 3, 1) := by decide +kernel
theorem dX6_wish_43 : decode cX6_wish 43 = .ok (.ireturn, 1) := by decide +kernel
abbrev rm_X6_wish : Room := { frames := 2, cells := 0, slots := 0, locals := 43 }
abbrev jJ_X6_wish (l : Launch) (G : jx_G) (sz : Nat) (out : (Int32 × jx_M)) (pc : Nat) (lv : List (Nat × Value)) (st : List Value) (σ : jx_M) : Prop := jx_J l (mm_env G) (mm_dyn G) (mm_rg G) sz RX6 "wish" cX6_wish 4 (some .int) rm_X6_wish (fun below args s => MQ below (jx_Qi (mm_dyn G) out.2 out.1 (jx_A (mm_rg G) sz)) args s 0 0 (jx_A (mm_rg G) sz)) 0 0 pc lv st σ
def f_X6_wish (σ : jx_M) (a1 : Int32) (a2 : Int32) : Option (Int32 × jx_M) :=
  jx_bd (f_X6_isVoter σ a1) (fun q1 => if q1 = 0 then some ((-1 : Int32), σ) else jx_bd (f_X6_in a2 (0 : Int32) (1 : Int32)) (fun q3 => if q3 = 0 then some ((-2 : Int32), σ) else jx_gd (jx_in ((49 : Int32) + a1) 920) (jx_lt ((σ 1 ((49 : Int32) + a1).toNatClampNeg)) (fun x6 => jx_gd (jx_in ((49 : Int32) + a1) 920) (jx_lt (jx_mu σ 1 ((49 : Int32) + a1).toNatClampNeg a2) (fun σ8 => some (x6, σ8)))))))
set_option maxHeartbeats 4000000 in
set_option maxRecDepth 100000 in
theorem k_X6_wish (l : Launch) (G : jx_G) (hG : mm_ok G) (sz : Nat) (σ : jx_M) (a1 : Int32) (a2 : Int32) (out : (Int32 × jx_M)) (h : f_X6_wish σ a1 a2 = some out) : Met l yX6_wish (Cond.code yX6_wish cX6_wish 4 (some .int) :: jx_ws) rm_X6_wish (jx_Pc (mm_env G) (mm_dyn G) (mm_rg G) sz σ [.ref (G.2 10), .int a1, .int a2]) (jx_Qi (mm_dyn G) out.2 out.1 (jx_A (mm_rg G) sz)) 0 0 (jx_A (mm_rg G) sz) := by
  unfold f_X6_wish at h
  refine jx_met (by decide) (Nat.le_of_ble_eq_true rfl) ?_
  refine jx_sub (lv' := [(0, .ref (G.2 10)), (1, .int a1), (2, .int a2)]) [0, 1, 2] rfl ?_
  refine jx_aload_n (pc := 0) (k0 := 0) rfl dX6_wish_0 ?_
  refine jx_iload_n (pc := 1) (k0 := 1) rfl dX6_wish_1 ?_
  obtain ⟨q1, eq1, h⟩ := jx_bd_o h
  refine jx_callVi (pc := 2) [.int a1] (fun sz' => k_X6_isVoter l G hG sz' σ a1 q1 eq1) kv_X6_163 mm_jok mm_rc rfl rfl (Nat.le_of_ble_eq_true rfl) ⟨⟨rfl, rfl⟩, ⟨Nat.le_of_ble_eq_true rfl, Nat.le_of_ble_eq_true rfl⟩, Nat.zero_le _, Nat.zero_le _⟩ dX6_wish_2 ?_
  refine jx_if_ne (pc := 5) (tgt := 10) dX6_wish_5 (by decide) (fun c2 => ?_) (fun c2 => ?_)
  · have h := jx_f c2 h
    refine jx_iload_n (pc := 10) (k0 := 2) rfl dX6_wish_10 ?_
    refine jx_iconst (pc := 11) (v := (0 : Int32)) (by decide) dX6_wish_11 ?_
    refine jx_iconst (pc := 12) (v := (1 : Int32)) (by decide) dX6_wish_12 ?_
    obtain ⟨q3, eq3, h⟩ := jx_bd_o h
    refine jx_callSi (pc := 13) [.int a2, .int (0 : Int32), .int (1 : Int32)] (fun sz' => k_X6_in l G hG sz' σ a2 (0 : Int32) (1 : Int32) q3 eq3) ks_X6_48 mm_jok rfl rfl (Nat.le_of_ble_eq_true rfl) ⟨⟨rfl, rfl⟩, ⟨Nat.le_of_ble_eq_true rfl, Nat.le_of_ble_eq_true rfl⟩, Nat.zero_le _, Nat.zero_le _⟩ dX6_wish_13 ?_
    refine jx_if_ne (pc := 16) (tgt := 22) dX6_wish_16 (by decide) (fun c4 => ?_) (fun c4 => ?_)
    · have h := jx_f c4 h
      refine jx_aload_n (pc := 22) (k0 := 0) rfl dX6_wish_22 ?_
      refine mm_g_s (pc := 23) fl_X6_9 dX6_wish_23 ?_
      refine jx_bipush (pc := 26) (v := (49 : Int32)) (by decide) dX6_wish_26 ?_
      refine jx_iload_n (pc := 28) (k0 := 1) rfl dX6_wish_28 ?_
      refine jx_iadd (pc := 29) dX6_wish_29 ?_
      obtain ⟨g5, h⟩ := jx_gd_o h
      refine mm_l_s (pc := 30) (jx_in_o g5) rfl dX6_wish_30 ?_
      obtain ⟨x6, ex6, h⟩ := jx_lt_o h
      refine jx_istore_n (pc := 31) (i := 3) rfl ex6 (by decide) (lv' := [(3, .int x6), (0, .ref (G.2 10)), (1, .int a1), (2, .int a2)]) rfl dX6_wish_31 ?_
      refine jx_aload_n (pc := 32) (k0 := 0) rfl dX6_wish_32 ?_
      refine mm_g_s (pc := 33) fl_X6_9 dX6_wish_33 ?_
      refine jx_bipush (pc := 36) (v := (49 : Int32)) (by decide) dX6_wish_36 ?_
      refine jx_iload_n (pc := 38) (k0 := 1) rfl dX6_wish_38 ?_
      refine jx_iadd (pc := 39) dX6_wish_39 ?_
      refine jx_iload_n (pc := 40) (k0 := 2) rfl dX6_wish_40 ?_
      obtain ⟨g7, h⟩ := jx_gd_o h
      obtain ⟨σ8, eσ8, h⟩ := jx_lt_o h
      refine mm_s_s (pc := 41) hG (jx_in_o g7) rfl eσ8 dX6_wish_41 ?_
      refine jx_iload_n (pc := 42) (k0 := 3) rfl dX6_wish_42 ?_
      have h := Option.some.inj h
      subst h
      exact jx_iret (pc := 43) dX6_wish_43
    · have h := jx_t c4 h
      refine jx_bipush (pc := 19) (v := (-2 : Int32)) (by decide) dX6_wish_19 ?_
      have h := Option.some.inj h
      subst h
      exact jx_iret (pc := 21) dX6_wish_21
  · have h := jx_t c2 h
    refine jx_iconst (pc := 8) (v := (-1 : Int32)) (by decide) dX6_wish_8 ?_
    have h := Option.some.inj h
    subst h
    exact jx_iret (pc := 9) dX6_wish_9
theorem dX6_row_0 : decode cX6_row 0 = .ok (.aload_n 0, 1) := by decide +kernel
theorem dX6_row_1 : decode cX6_row 1 = .ok (.iload_n 1, 1) := by decide +kernel
theorem dX6_row_2 : decode cX6_row 2 = .ok (.invokevirtual 163, 3) := by decide +kernel
theorem dX6_row_5 : decode cX6_row 5 = .ok (.ifCond .eq 20, 3) := by decide +kernel
theorem dX6_row_8 : decode cX6_row 8 = .ok (.iload_n 2, 1) := by decide +kernel
theorem dX6_row_9 : decode cX6_row 9 = .ok (.iconst 0, 1) := by decide +kernel
theorem dX6_row_10 : decode cX6_row 10 = .ok (.iconst 2, 1) := by decide +kernel
theorem dX6_row_11 : decode cX6_row 11 = .ok (.invokestatic 48, 3) := by decide +kernel
theorem dX6_row_14 : decode cX6_row 14 = .ok (.ifCond .eq 11, 3) := by decide +kernel
theorem dX6_row_17 : decode cX6_row 17 = .ok (.aload_n 0, 1) := by decide +kernel
theorem dX6_row_18 : decode cX6_row 18 = .ok (.iload_n 3, 1) := by decide +kernel
theorem dX6_row_19 : decode cX6_row 19 = .ok (.invokevirtual 145, 3) := by decide +kernel
theorem dX6_row_22 : decode cX6_row 22 = .ok (.ifCond .ne 5, 3) := by decide +kernel
theorem dX6_row_25 : decode cX6_row 25 = .ok (.iconst (-1), 1) := by decide +kernel
theorem dX6_row_26 : decode cX6_row 26 = .ok (.ireturn, 1) := by decide +kernel
theorem dX6_row_27 : decode cX6_row 27 = .ok (.aload_n 0, 1) := by decide +kernel
theorem dX6_row_28 : decode cX6_row 28 = .ok (.getfield 9, 3) := by decide +kernel
theorem dX6_row_31 : decode cX6_row 31 = .ok (.bipush 31, 2) := by decide +kernel
theorem dX6_row_33 : decode cX6_row 33 = .ok (.iload_n 1, 1) := by decide +kernel
theorem dX6_row_34 : decode cX6_row 34 = .ok (.iadd, 1) := by decide +kernel
theorem dX6_row_35 : decode cX6_row 35 = .ok (.iaload, 1) := by decide +kernel
theorem dX6_row_36 : decode cX6_row 36 = .ok (.bipush 6, 2) := by decide +kernel
theorem dX6_row_38 : decode cX6_row 38 = .ok (.if_icmp .eq 6, 3) := by decide +kernel
theorem dX6_row_41 : decode cX6_row 41 = .ok (.bipush (-3), 2) := by decide +kernel
theorem dX6_row_43 : decode cX6_row 43 = .ok (.ireturn, 1) := by decide +kernel
theorem dX6_row_44 : decode cX6_row 44 = .ok (.aload_n 0, 1) := by decide +kernel
theorem dX6_row_45 : decode cX6_row 45 = .ok (.getfield 9, 3) := by decide +kernel
theorem dX6_row_48 : decode cX6_row 48 = .ok (.bipush 61, 2) := by decide +kernel
theorem dX6_row_50 : decode cX6_row 50 = .ok (.iconst 3, 1) := by decide +kernel
theorem dX6_row_51 : decode cX6_row 51 = .ok (.iload_n 1, 1) := by decide +kernel
theorem dX6_row_52 : decode cX6_row 52 = .ok (.imul, 1) := by decide +kernel
theorem dX6_row_53 : decode cX6_row 53 = .ok (.iadd, 1) := by decide +kernel
theorem dX6_row_54 : decode cX6_row 54 = .ok (.iload_n 2, 1) := by decide +kernel
theorem dX6_row_55 : decode cX6_row 55 = .ok (.iadd, 1) := by decide +kernel
theorem dX6_row_56 : decode cX6_row 56 = .ok (.iaload, 1) := by decide +kernel
theorem dX6_row_57 : decode cX6_row 57 = .ok (.istore 4, 2) := by decide +kernel
theorem dX6_row_59 : decode cX6_row 59 = .ok (.aload_n 0, 1) := by decide +kernel
theorem dX6_row_60 : decode cX6_row 60 = .ok (.getfield 9, 3) := by decide +kernel
theorem dX6_row_63 : decode cX6_row 63 = .ok (.bipush 61, 2) := by decide +kernel
theorem dX6_row_65 : decode cX6_row 65 = .ok (.iconst 3, 1) := by decide +kernel
theorem dX6_row_66 : decode cX6_row 66 = .ok (.iload_n 1, 1) := by decide +kernel
theorem dX6_row_67 : decode cX6_row 67 = .ok (.imul, 1) := by decide +kernel
theorem dX6_row_68 : decode cX6_row 68 = .ok (.iadd, 1) := by decide +kernel
theorem dX6_row_69 : decode cX6_row 69 = .ok (.iload_n 2, 1) := by decide +kernel
theorem dX6_row_70 : decode cX6_row 70 = .ok (.iadd, 1) := by decide +kernel
theorem dX6_row_71 : decode cX6_row 71 = .ok (.iload_n 3, 1) := by decide +kernel
theorem dX6_row_72 : decode cX6_row 72 = .ok (.iastore, 1) := by decide +kernel
theorem dX6_row_73 : decode cX6_row 73 = .ok (.iload 4, 2) := by decide +kernel
theorem dX6_row_75 : decode cX6_row 75 = .ok (.ireturn, 1) := by decide +kernel
abbrev rm_X6_row : Room := { frames := 2, cells := 0, slots := 0, locals := 43 }
abbrev jJ_X6_row (l : Launch) (G : jx_G) (sz : Nat) (out : (Int32 × jx_M)) (pc : Nat) (lv : List (Nat × Value)) (st : List Value) (σ : jx_M) : Prop := jx_J l (mm_env G) (mm_dyn G) (mm_rg G) sz RX6 "row" cX6_row 5 (some .int) rm_X6_row (fun below args s => MQ below (jx_Qi (mm_dyn G) out.2 out.1 (jx_A (mm_rg G) sz)) args s 0 0 (jx_A (mm_rg G) sz)) 0 0 pc lv st σ
def f_X6_row (σ : jx_M) (a1 : Int32) (a2 : Int32) (a3 : Int32) : Option (Int32 × jx_M) :=
  jx_bd (f_X6_isVoter σ a1) (fun q1 => if q1 = 0 then some ((-1 : Int32), σ) else jx_bd (f_X6_in a2 (0 : Int32) (2 : Int32)) (fun q3 => if q3 = 0 then some ((-1 : Int32), σ) else jx_bd (f_X6_isPlace σ a3) (fun q5 => if q5 = 0 then some ((-1 : Int32), σ) else jx_gd (jx_in ((31 : Int32) + a1) 920) (if (σ 1 ((31 : Int32) + a1).toNatClampNeg) = (6 : Int32) then jx_gd (jx_in (((61 : Int32) + ((3 : Int32) * a1)) + a2) 920) (jx_lt ((σ 1 (((61 : Int32) + ((3 : Int32) * a1)) + a2).toNatClampNeg)) (fun x10 => jx_gd (jx_in (((61 : Int32) + ((3 : Int32) * a1)) + a2) 920) (jx_lt (jx_mu σ 1 (((61 : Int32) + ((3 : Int32) * a1)) + a2).toNatClampNeg a3) (fun σ12 => some (x10, σ12))))) else some ((-3 : Int32), σ)))))
set_option maxHeartbeats 4000000 in
set_option maxRecDepth 100000 in
theorem k_X6_row (l : Launch) (G : jx_G) (hG : mm_ok G) (sz : Nat) (σ : jx_M) (a1 : Int32) (a2 : Int32) (a3 : Int32) (out : (Int32 × jx_M)) (h : f_X6_row σ a1 a2 a3 = some out) : Met l yX6_row (Cond.code yX6_row cX6_row 5 (some .int) :: jx_ws) rm_X6_row (jx_Pc (mm_env G) (mm_dyn G) (mm_rg G) sz σ [.ref (G.2 10), .int a1, .int a2, .int a3]) (jx_Qi (mm_dyn G) out.2 out.1 (jx_A (mm_rg G) sz)) 0 0 (jx_A (mm_rg G) sz) := by
  unfold f_X6_row at h
  refine jx_met (by decide) (Nat.le_of_ble_eq_true rfl) ?_
  refine jx_sub (lv' := [(0, .ref (G.2 10)), (1, .int a1), (2, .int a2), (3, .int a3)]) [0, 1, 2, 3] rfl ?_
  refine jx_aload_n (pc := 0) (k0 := 0) rfl dX6_row_0 ?_
  refine jx_iload_n (pc := 1) (k0 := 1) rfl dX6_row_1 ?_
  obtain ⟨q1, eq1, h⟩ := jx_bd_o h
  refine jx_callVi (pc := 2) [.int a1] (fun sz' => k_X6_isVoter l G hG sz' σ a1 q1 eq1) kv_X6_163 mm_jok mm_rc rfl rfl (Nat.le_of_ble_eq_true rfl) ⟨⟨rfl, rfl⟩, ⟨Nat.le_of_ble_eq_true rfl, Nat.le_of_ble_eq_true rfl⟩, Nat.zero_le _, Nat.zero_le _⟩ dX6_row_2 ?_
  refine jx_if_eq (pc := 5) (tgt := 25) dX6_row_5 (by decide) (fun c2 => ?_) (fun c2 => ?_)
  · have h := jx_t c2 h
    refine jx_iconst (pc := 25) (v := (-1 : Int32)) (by decide) dX6_row_25 ?_
    have h := Option.some.inj h
    subst h
    exact jx_iret (pc := 26) dX6_row_26
  · have h := jx_f c2 h
    refine jx_iload_n (pc := 8) (k0 := 2) rfl dX6_row_8 ?_
    refine jx_iconst (pc := 9) (v := (0 : Int32)) (by decide) dX6_row_9 ?_
    refine jx_iconst (pc := 10) (v := (2 : Int32)) (by decide) dX6_row_10 ?_
    obtain ⟨q3, eq3, h⟩ := jx_bd_o h
    refine jx_callSi (pc := 11) [.int a2, .int (0 : Int32), .int (2 : Int32)] (fun sz' => k_X6_in l G hG sz' σ a2 (0 : Int32) (2 : Int32) q3 eq3) ks_X6_48 mm_jok rfl rfl (Nat.le_of_ble_eq_true rfl) ⟨⟨rfl, rfl⟩, ⟨Nat.le_of_ble_eq_true rfl, Nat.le_of_ble_eq_true rfl⟩, Nat.zero_le _, Nat.zero_le _⟩ dX6_row_11 ?_
    refine jx_if_eq (pc := 14) (tgt := 25) dX6_row_14 (by decide) (fun c4 => ?_) (fun c4 => ?_)
    · have h := jx_t c4 h
      refine jx_iconst (pc := 25) (v := (-1 : Int32)) (by decide) dX6_row_25 ?_
      have h := Option.some.inj h
      subst h
      exact jx_iret (pc := 26) dX6_row_26
    · have h := jx_f c4 h
      refine jx_aload_n (pc := 17) (k0 := 0) rfl dX6_row_17 ?_
      refine jx_iload_n (pc := 18) (k0 := 3) rfl dX6_row_18 ?_
      obtain ⟨q5, eq5, h⟩ := jx_bd_o h
      refine jx_callVi (pc := 19) [.int a3] (fun sz' => k_X6_isPlace l G hG sz' σ a3 q5 eq5) kv_X6_145 mm_jok mm_rc rfl rfl (Nat.le_of_ble_eq_true rfl) ⟨⟨rfl, rfl⟩, ⟨Nat.le_of_ble_eq_true rfl, Nat.le_of_ble_eq_true rfl⟩, Nat.zero_le _, Nat.zero_le _⟩ dX6_row_19 ?_
      refine jx_if_ne (pc := 22) (tgt := 27) dX6_row_22 (by decide) (fun c6 => ?_) (fun c6 => ?_)
      · have h := jx_f c6 h
        refine jx_aload_n (pc := 27) (k0 := 0) rfl dX6_row_27 ?_
        refine mm_g_s (pc := 28) fl_X6_9 dX6_row_28 ?_
        refine jx_bipush (pc := 31) (v := (31 : Int32)) (by decide) dX6_row_31 ?_
        refine jx_iload_n (pc := 33) (k0 := 1) rfl dX6_row_33 ?_
        refine jx_iadd (pc := 34) dX6_row_34 ?_
        obtain ⟨g7, h⟩ := jx_gd_o h
        refine mm_l_s (pc := 35) (jx_in_o g7) rfl dX6_row_35 ?_
        refine jx_bipush (pc := 36) (v := (6 : Int32)) (by decide) dX6_row_36 ?_
        refine jx_icmp_eq (pc := 38) (tgt := 44) dX6_row_38 (by decide) (fun c8 => ?_) (fun c8 => ?_)
        · have h := jx_t c8 h
          refine jx_aload_n (pc := 44) (k0 := 0) rfl dX6_row_44 ?_
          refine mm_g_s (pc := 45) fl_X6_9 dX6_row_45 ?_
          refine jx_bipush (pc := 48) (v := (61 : Int32)) (by decide) dX6_row_48 ?_
          refine jx_iconst (pc := 50) (v := (3 : Int32)) (by decide) dX6_row_50 ?_
          refine jx_iload_n (pc := 51) (k0 := 1) rfl dX6_row_51 ?_
          refine jx_imul (pc := 52) dX6_row_52 ?_
          refine jx_iadd (pc := 53) dX6_row_53 ?_
          refine jx_iload_n (pc := 54) (k0 := 2) rfl dX6_row_54 ?_
          refine jx_iadd (pc := 55) dX6_row_55 ?_
          obtain ⟨g9, h⟩ := jx_gd_o h
          refine mm_l_s (pc := 56) (jx_in_o g9) rfl dX6_row_56 ?_
          obtain ⟨x10, ex10, h⟩ := jx_lt_o h
          refine jx_istore (pc := 57) (i := 4) ex10 (by decide) (lv' := [(4, .int x10), (0, .ref (G.2 10)), (1, .int a1), (2, .int a2), (3, .int a3)]) rfl dX6_row_57 ?_
          refine jx_aload_n (pc := 59) (k0 := 0) rfl dX6_row_59 ?_
          refine mm_g_s (pc := 60) fl_X6_9 dX6_row_60 ?_
          refine jx_bipush (pc := 63) (v := (61 : Int32)) (by decide) dX6_row_63 ?_
          refine jx_iconst (pc := 65) (v := (3 : Int32)) (by decide) dX6_row_65 ?_
          refine jx_iload_n (pc := 66) (k0 := 1) rfl dX6_row_66 ?_
          refine jx_imul (pc := 67) dX6_row_67 ?_
          refine jx_iadd (pc := 68) dX6_row_68 ?_
          refine jx_iload_n (pc := 69) (k0 := 2) rfl dX6_row_69 ?_
          refine jx_iadd (pc := 70) dX6_row_70 ?_
          refine jx_iload_n (pc := 71) (k0 := 3) rfl dX6_row_71 ?_
          obtain ⟨g11, h⟩ := jx_gd_o h
          obtain ⟨σ12, eσ12, h⟩ := jx_lt_o h
          refine mm_s_s (pc := 72) hG (jx_in_o g11) rfl eσ12 dX6_row_72 ?_
          refine jx_iload (pc := 73) (i := 4) rfl dX6_row_73 ?_
          have h := Option.some.inj h
          subst h
          exact jx_iret (pc := 75) dX6_row_75
        · have h := jx_f c8 h
          refine jx_bipush (pc := 41) (v := (-3 : Int32)) (by decide) dX6_row_41 ?_
          have h := Option.some.inj h
          subst h
          exact jx_iret (pc := 43) dX6_row_43
      · have h := jx_t c6 h
        refine jx_iconst (pc := 25) (v := (-1 : Int32)) (by decide) dX6_row_25 ?_
        have h := Option.some.inj h
        subst h
        exact jx_iret (pc := 26) dX6_row_26
theorem dX6_looksForNight_0 : decode cX6_looksForNight 0 = .ok (.iconst 0, 1) := by decide +kernel
theorem dX6_looksForNight_1 : decode cX6_looksForNight 1 = .ok (.istore_n 1, 1) := by decide +kernel
theorem dX6_looksForNight_2 : decode cX6_looksForNight 2 = .ok (.iload_n 1, 1) := by decide +kernel
theorem dX6_looksForNight_3 : decode cX6_looksForNight 3 = .ok (.bipush 12, 2) := by decide +kernel
theorem dX6_looksForNight_5 : decode cX6_looksForNight 5 = .ok (.if_icmp .ge 53, 3) := by decide +kernel
theorem dX6_looksForNight_8 : decode cX6_looksForNight 8 = .ok (.iconst 0, 1) := by decide +kernel
theorem dX6_looksForNight_9 : decode cX6_looksForNight 9 = .ok (.istore_n 2, 1) := by decide +kernel
theorem dX6_looksForNight_10 : decode cX6_looksForNight 10 = .ok (.iload_n 2, 1) := by decide +kernel
theorem dX6_looksForNight_11 : decode cX6_looksForNight 11 = .ok (.aload_n 0, 1) := by decide +kernel
theorem dX6_looksForNight_12 : decode cX6_looksForNight 12 = .ok (.getfield 9, 3) := by decide +kernel
theorem dX6_looksForNight_15 : decode cX6_looksForNight 15 = .ok (.bipush 6, 2) := by decide +kernel
theorem dX6_looksForNight_17 : decode cX6_looksForNight 17 = .ok (.iaload, 1) := by decide +kernel
theorem dX6_looksForNight_18 : decode cX6_looksForNight 18 = .ok (.if_icmp .ge 34, 3) := by decide +kernel
theorem dX6_looksForNight_21 : decode cX6_looksForNight 21 = .ok (.aload_n 0, 1) := by decide +kernel
theorem dX6_looksForNight_22 : decode cX6_looksForNight 22 = .ok (.getfield 25, 3) := by decide +kernel
theorem dX6_looksForNight_25 : decode cX6_looksForNight 25 = .ok (.bipush 7, 2) := by decide +kernel
theorem dX6_looksForNight_27 : decode cX6_looksForNight 27 = .ok (.iload_n 1, 1) := by decide +kernel
theorem dX6_looksForNight_28 : decode cX6_looksForNight 28 = .ok (.imul, 1) := by decide +kernel
theorem dX6_looksForNight_29 : decode cX6_looksForNight 29 = .ok (.iload_n 2, 1) := by decide +kernel
theorem dX6_looksForNight_30 : decode cX6_looksForNight 30 = .ok (.iadd, 1) := by decide +kernel
theorem dX6_looksForNight_31 : decode cX6_looksForNight 31 = .ok (.aload_n 0, 1) := by decide +kernel
theorem dX6_looksForNight_32 : decode cX6_looksForNight 32 = .ok (.iload_n 2, 1) := by decide +kernel
theorem dX6_looksForNight_33 : decode cX6_looksForNight 33 = .ok (.aload_n 0, 1) := by decide +kernel
theorem dX6_looksForNight_34 : decode cX6_looksForNight 34 = .ok (.getfield 9, 3) := by decide +kernel
theorem dX6_looksForNight_37 : decode cX6_looksForNight 37 = .ok (.bipush 7, 2) := by decide +kernel
theorem dX6_looksForNight_39 : decode cX6_looksForNight 39 = .ok (.iaload, 1) := by decide +kernel
theorem dX6_looksForNight_40 : decode cX6_looksForNight 40 = .ok (.iload_n 1, 1) := by decide +kernel
theorem dX6_looksForNight_41 : decode cX6_looksForNight 41 = .ok (.iadd, 1) := by decide +kernel
theorem dX6_looksForNight_42 : decode cX6_looksForNight 42 = .ok (.invokevirtual 149, 3) := by decide +kernel
theorem dX6_looksForNight_45 : decode cX6_looksForNight 45 = .ok (.iastore, 1) := by decide +kernel
theorem dX6_looksForNight_46 : decode cX6_looksForNight 46 = .ok (.iinc 2 1, 3) := by decide +kernel
theorem dX6_looksForNight_49 : decode cX6_looksForNight 49 = .ok (.goto (-39), 3) := by decide +kernel
theorem dX6_looksForNight_52 : decode cX6_looksForNight 52 = .ok (.iinc 1 1, 3) := by decide +kernel
theorem dX6_looksForNight_55 : decode cX6_looksForNight 55 = .ok (.goto (-53), 3) := by decide +kernel
theorem dX6_looksForNight_58 : decode cX6_looksForNight 58 = .ok (.iconst 0, 1) := by decide +kernel
theorem dX6_looksForNight_59 : decode cX6_looksForNight 59 = .ok (.istore_n 1, 1) := by decide +kernel
theorem dX6_looksForNight_60 : decode cX6_looksForNight 60 = .ok (.iload_n 1, 1) := by decide +kernel
theorem dX6_looksForNight_61 : decode cX6_looksForNight 61 = .ok (.aload_n 0, 1) := by decide +kernel
theorem dX6_looksForNight_62 : decode cX6_looksForNight 62 = .ok (.getfield 9, 3) := by decide +kernel
theorem dX6_looksForNight_65 : decode cX6_looksForNight 65 = .ok (.bipush 6, 2) := by decide +kernel
theorem dX6_looksForNight_67 : decode cX6_looksForNight 67 = .ok (.iaload, 1) := by decide +kernel
theorem dX6_looksForNight_68 : decode cX6_looksForNight 68 = .ok (.if_icmp .ge 34, 3) := by decide +kernel
theorem dX6_looksForNight_71 : decode cX6_looksForNight 71 = .ok (.aload_n 0, 1) := by decide +kernel
theorem dX6_looksForNight_72 : decode cX6_looksForNight 72 = .ok (.iload_n 1, 1) := by decide +kernel
theorem dX6_looksForNight_73 : decode cX6_looksForNight 73 = .ok (.aload_n 0, 1) := by decide +kernel
theorem dX6_looksForNight_74 : decode cX6_looksForNight 74 = .ok (.getfield 9, 3) := by decide +kernel
theorem dX6_looksForNight_77 : decode cX6_looksForNight 77 = .ok (.bipush 7, 2) := by decide +kernel
theorem dX6_looksForNight_79 : decode cX6_looksForNight 79 = .ok (.iaload, 1) := by decide +kernel
theorem dX6_looksForNight_80 : decode cX6_looksForNight 80 = .ok (.bipush 12, 2) := by decide +kernel
theorem dX6_looksForNight_82 : decode cX6_looksForNight 82 = .ok (.iadd, 1) := by decide +kernel
theorem dX6_looksForNight_83 : decode cX6_looksForNight 83 = .ok (.invokevirtual 141, 3) := by decide +kernel
theorem dX6_looksForNight_86 : decode cX6_looksForNight 86 = .ok (.aload_n 0, 1) := by decide +kernel
theorem dX6_looksForNight_87 : decode cX6_looksForNight 87 = .ok (.getfield 28, 3) := by decide +kernel
theorem dX6_looksForNight_90 : decode cX6_looksForNight 90 = .ok (.iload_n 1, 1) := by decide +kernel
theorem dX6_looksForNight_91 : decode cX6_looksForNight 91 = .ok (.aload_n 0, 1) := by decide +kernel
theorem dX6_looksForNight_92 : decode cX6_looksForNight 92 = .ok (.getfield 138, 3) := by decide +kernel
theorem dX6_looksForNight_95 : decode cX6_looksForNight 95 = .ok (.iastore, 1) := by decide +kernel
theorem dX6_looksForNight_96 : decode cX6_looksForNight 96 = .ok (.iinc 1 1, 3) := by decide +kernel
theorem dX6_looksForNight_99 : decode cX6_looksForNight 99 = .ok (.goto (-39), 3) := by decide +kernel
theorem dX6_looksForNight_102 : decode cX6_looksForNight 102 = .ok (.return_, 1) := by decide +kernel
abbrev rm_X6_looksForNight : Room := { frames := 2, cells := 0, slots := 0, locals := 52 }
abbrev jJ_X6_looksForNight (l : Launch) (G : jx_G) (sz : Nat) (out : jx_M) (pc : Nat) (lv : List (Nat × Value)) (st : List Value) (σ : jx_M) : Prop := jx_J l (mm_env G) (mm_dyn G) (mm_rg G) sz RX6 "looksForNight" cX6_looksForNight 3 none rm_X6_looksForNight (fun below args s => MQ below (jx_Qv (mm_dyn G) out (jx_A (mm_rg G) sz)) args s 0 0 (jx_A (mm_rg G) sz)) 0 0 pc lv st σ
def g_X6_looksForNight_10 (k2 : jx_M → Int32 → Option jx_M) (k10 : jx_M → Int32 → Int32 → Option jx_M) (σ : jx_M) (v1 : Int32) (v2 : Int32) : Option jx_M :=
  if (σ 1 6) ≤ v2 then jx_lt (v1 + (1 : Int32)) (fun x2 => (k2 σ x2)) else jx_bd (f_X6_goesFrom σ v2 ((σ 1 7) + v1)) (fun q3 => jx_gd (jx_in (((7 : Int32) * v1) + v2) 84) (jx_lt (jx_mu q3.2 5 (((7 : Int32) * v1) + v2).toNatClampNeg q3.1) (fun σ5 => jx_lt (v2 + (1 : Int32)) (fun x6 => (k10 σ5 v1 x6)))))
set_option maxHeartbeats 4000000 in
set_option maxRecDepth 100000 in
theorem jg_X6_looksForNight_10 (l : Launch) (G : jx_G) (hG : mm_ok G) (sz : Nat) (out : jx_M) (k2 : jx_M → Int32 → Option jx_M) (h2 : ∀ (σ : jx_M) (v1 : Int32), k2 σ v1 = some out → jJ_X6_looksForNight l G sz out 2 [(0, .ref (G.2 10)), (1, .int v1)] [] σ) (k10 : jx_M → Int32 → Int32 → Option jx_M) (h10 : ∀ (σ : jx_M) (v1 : Int32) (v2 : Int32), k10 σ v1 v2 = some out → jJ_X6_looksForNight l G sz out 10 [(0, .ref (G.2 10)), (1, .int v1), (2, .int v2)] [] σ) (σ : jx_M) (v1 : Int32) (v2 : Int32) (h : g_X6_looksForNight_10 k2 k10 σ v1 v2 = some out) : jJ_X6_looksForNight l G sz out 10 [(0, .ref (G.2 10)), (1, .int v1), (2, .int v2)] [] σ := by
  unfold g_X6_looksForNight_10 at h
  refine jx_iload_n (pc := 10) (k0 := 2) rfl dX6_looksForNight_10 ?_
  refine jx_aload_n (pc := 11) (k0 := 0) rfl dX6_looksForNight_11 ?_
  refine mm_g_s (pc := 12) fl_X6_9 dX6_looksForNight_12 ?_
  refine jx_bipush (pc := 15) (v := (6 : Int32)) (by decide) dX6_looksForNight_15 ?_
  refine mm_l_s (pc := 17) (j := 6) (jx_in_o (by decide)) (by decide) dX6_looksForNight_17 ?_
  refine jx_icmp_ge (pc := 18) (tgt := 52) dX6_looksForNight_18 (by decide) (fun c1 => ?_) (fun c1 => ?_)
  · have h := jx_t c1 h
    obtain ⟨x2, ex2, h⟩ := jx_lt_o h
    refine jx_iinc (pc := 52) (i := 1) (v := v1) rfl ex2 (n := 1) (by decide) (by decide) (lv' := [(1, .int x2), (0, .ref (G.2 10)), (2, .int v2)]) rfl dX6_looksForNight_52 ?_
    refine jx_goto (pc := 55) (tgt := 2) dX6_looksForNight_55 (by decide) ?_
    exact jx_sub [1, 0] rfl (h2 σ x2 h)
  · have h := jx_f c1 h
    refine jx_aload_n (pc := 21) (k0 := 0) rfl dX6_looksForNight_21 ?_
    refine mm_g_going (pc := 22) fl_X6_25 dX6_looksForNight_22 ?_
    refine jx_bipush (pc := 25) (v := (7 : Int32)) (by decide) dX6_looksForNight_25 ?_
    refine jx_iload_n (pc := 27) (k0 := 1) rfl dX6_looksForNight_27 ?_
    refine jx_imul (pc := 28) dX6_looksForNight_28 ?_
    refine jx_iload_n (pc := 29) (k0 := 2) rfl dX6_looksForNight_29 ?_
    refine jx_iadd (pc := 30) dX6_looksForNight_30 ?_
    refine jx_aload_n (pc := 31) (k0 := 0) rfl dX6_looksForNight_31 ?_
    refine jx_iload_n (pc := 32) (k0 := 2) rfl dX6_looksForNight_32 ?_
    refine jx_aload_n (pc := 33) (k0 := 0) rfl dX6_looksForNight_33 ?_
    refine mm_g_s (pc := 34) fl_X6_9 dX6_looksForNight_34 ?_
    refine jx_bipush (pc := 37) (v := (7 : Int32)) (by decide) dX6_looksForNight_37 ?_
    refine mm_l_s (pc := 39) (j := 7) (jx_in_o (by decide)) (by decide) dX6_looksForNight_39 ?_
    refine jx_iload_n (pc := 40) (k0 := 1) rfl dX6_looksForNight_40 ?_
    refine jx_iadd (pc := 41) dX6_looksForNight_41 ?_
    obtain ⟨q3, eq3, h⟩ := jx_bd_o h
    refine jx_callVi (pc := 42) [.int v2, .int ((σ 1 7) + v1)] (fun sz' => k_X6_goesFrom l G hG sz' σ v2 ((σ 1 7) + v1) q3 eq3) kv_X6_149 mm_jok mm_rc rfl rfl (Nat.le_of_ble_eq_true rfl) ⟨⟨rfl, rfl⟩, ⟨Nat.le_of_ble_eq_true rfl, Nat.le_of_ble_eq_true rfl⟩, Nat.zero_le _, Nat.zero_le _⟩ dX6_looksForNight_42 ?_
    obtain ⟨g4, h⟩ := jx_gd_o h
    obtain ⟨σ5, eσ5, h⟩ := jx_lt_o h
    refine mm_s_going (pc := 45) hG (jx_in_o g4) rfl eσ5 dX6_looksForNight_45 ?_
    obtain ⟨x6, ex6, h⟩ := jx_lt_o h
    refine jx_iinc (pc := 46) (i := 2) (v := v2) rfl ex6 (n := 1) (by decide) (by decide) (lv' := [(2, .int x6), (0, .ref (G.2 10)), (1, .int v1)]) rfl dX6_looksForNight_46 ?_
    refine jx_goto (pc := 49) (tgt := 10) dX6_looksForNight_49 (by decide) ?_
    exact jx_sub [1, 2, 0] rfl (h10 σ5 v1 x6 h)
def b_X6_looksForNight_10 (k2 : jx_M → Int32 → Option jx_M) : Nat → jx_M → Int32 → Int32 → Option jx_M
  | 0, _, _, _ => none
  | n + 1, σ, v1, v2 => g_X6_looksForNight_10 k2 (b_X6_looksForNight_10 k2 n) σ v1 v2
theorem jb_X6_looksForNight_10 (l : Launch) (G : jx_G) (hG : mm_ok G) (sz : Nat) (out : jx_M) (k2 : jx_M → Int32 → Option jx_M) (h2 : ∀ (σ : jx_M) (v1 : Int32), k2 σ v1 = some out → jJ_X6_looksForNight l G sz out 2 [(0, .ref (G.2 10)), (1, .int v1)] [] σ) : ∀ (n : Nat) (σ : jx_M) (v1 : Int32) (v2 : Int32), b_X6_looksForNight_10 k2 n σ v1 v2 = some out → jJ_X6_looksForNight l G sz out 10 [(0, .ref (G.2 10)), (1, .int v1), (2, .int v2)] [] σ := by
  intro n
  induction n with
  | zero =>
    intro σ v1 v2 h
    cases h
  | succ n ih =>
    intro σ v1 v2 h
    exact jg_X6_looksForNight_10 l G hG sz out k2 h2 (b_X6_looksForNight_10 k2 n) ih σ v1 v2 h
def g_X6_looksForNight_60 (k60 : jx_M → Int32 → Option jx_M) (σ : jx_M) (v1 : Int32) : Option jx_M :=
  if (σ 1 6) ≤ v1 then some σ else jx_bd (f_X6_looks σ v1 ((σ 1 7) + (12 : Int32))) (fun q2 => jx_gd (jx_in v1 7) (jx_lt (jx_mu q2 6 v1.toNatClampNeg (q2 0 14)) (fun σ4 => jx_lt (v1 + (1 : Int32)) (fun x5 => (k60 σ4 x5)))))
set_option maxHeartbeats 4000000 in
set_option maxRecDepth 100000 in
theorem jg_X6_looksForNight_60 (l : Launch) (G : jx_G) (hG : mm_ok G) (sz : Nat) (out : jx_M) (k60 : jx_M → Int32 → Option jx_M) (h60 : ∀ (σ : jx_M) (v1 : Int32), k60 σ v1 = some out → jJ_X6_looksForNight l G sz out 60 [(0, .ref (G.2 10)), (1, .int v1)] [] σ) (σ : jx_M) (v1 : Int32) (h : g_X6_looksForNight_60 k60 σ v1 = some out) : jJ_X6_looksForNight l G sz out 60 [(0, .ref (G.2 10)), (1, .int v1)] [] σ := by
  unfold g_X6_looksForNight_60 at h
  refine jx_iload_n (pc := 60) (k0 := 1) rfl dX6_looksForNight_60 ?_
  refine jx_aload_n (pc := 61) (k0 := 0) rfl dX6_looksForNight_61 ?_
  refine mm_g_s (pc := 62) fl_X6_9 dX6_looksForNight_62 ?_
  refine jx_bipush (pc := 65) (v := (6 : Int32)) (by decide) dX6_looksForNight_65 ?_
  refine mm_l_s (pc := 67) (j := 6) (jx_in_o (by decide)) (by decide) dX6_looksForNight_67 ?_
  refine jx_icmp_ge (pc := 68) (tgt := 102) dX6_looksForNight_68 (by decide) (fun c1 => ?_) (fun c1 => ?_)
  · have h := jx_t c1 h
    have h := Option.some.inj h
    subst h
    exact jx_vret (pc := 102) dX6_looksForNight_102
  · have h := jx_f c1 h
    refine jx_aload_n (pc := 71) (k0 := 0) rfl dX6_looksForNight_71 ?_
    refine jx_iload_n (pc := 72) (k0 := 1) rfl dX6_looksForNight_72 ?_
    refine jx_aload_n (pc := 73) (k0 := 0) rfl dX6_looksForNight_73 ?_
    refine mm_g_s (pc := 74) fl_X6_9 dX6_looksForNight_74 ?_
    refine jx_bipush (pc := 77) (v := (7 : Int32)) (by decide) dX6_looksForNight_77 ?_
    refine mm_l_s (pc := 79) (j := 7) (jx_in_o (by decide)) (by decide) dX6_looksForNight_79 ?_
    refine jx_bipush (pc := 80) (v := (12 : Int32)) (by decide) dX6_looksForNight_80 ?_
    refine jx_iadd (pc := 82) dX6_looksForNight_82 ?_
    obtain ⟨q2, eq2, h⟩ := jx_bd_o h
    refine jx_callVv (pc := 83) [.int v1, .int ((σ 1 7) + (12 : Int32))] (fun sz' => k_X6_looks l G hG sz' σ v1 ((σ 1 7) + (12 : Int32)) q2 eq2) kv_X6_141 mm_jok mm_rc rfl rfl (Nat.le_of_ble_eq_true rfl) ⟨⟨rfl, rfl⟩, ⟨Nat.le_of_ble_eq_true rfl, Nat.le_of_ble_eq_true rfl⟩, Nat.zero_le _, Nat.zero_le _⟩ dX6_looksForNight_83 ?_
    refine jx_aload_n (pc := 86) (k0 := 0) rfl dX6_looksForNight_86 ?_
    refine mm_g_weights (pc := 87) fl_X6_28 dX6_looksForNight_87 ?_
    refine jx_iload_n (pc := 90) (k0 := 1) rfl dX6_looksForNight_90 ?_
    refine jx_aload_n (pc := 91) (k0 := 0) rfl dX6_looksForNight_91 ?_
    refine mm_g_weighed (pc := 92) fl_X6_138 dX6_looksForNight_92 ?_
    obtain ⟨g3, h⟩ := jx_gd_o h
    obtain ⟨σ4, eσ4, h⟩ := jx_lt_o h
    refine mm_s_weights (pc := 95) hG (jx_in_o g3) rfl eσ4 dX6_looksForNight_95 ?_
    obtain ⟨x5, ex5, h⟩ := jx_lt_o h
    refine jx_iinc (pc := 96) (i := 1) (v := v1) rfl ex5 (n := 1) (by decide) (by decide) (lv' := [(1, .int x5), (0, .ref (G.2 10))]) rfl dX6_looksForNight_96 ?_
    refine jx_goto (pc := 99) (tgt := 60) dX6_looksForNight_99 (by decide) ?_
    exact jx_sub [1, 0] rfl (h60 σ4 x5 h)
def b_X6_looksForNight_60  : Nat → jx_M → Int32 → Option jx_M
  | 0, _, _ => none
  | n + 1, σ, v1 => g_X6_looksForNight_60 (b_X6_looksForNight_60 n) σ v1
theorem jb_X6_looksForNight_60 (l : Launch) (G : jx_G) (hG : mm_ok G) (sz : Nat) (out : jx_M)  : ∀ (n : Nat) (σ : jx_M) (v1 : Int32), b_X6_looksForNight_60 n σ v1 = some out → jJ_X6_looksForNight l G sz out 60 [(0, .ref (G.2 10)), (1, .int v1)] [] σ := by
  intro n
  induction n with
  | zero =>
    intro σ v1 h
    cases h
  | succ n ih =>
    intro σ v1 h
    exact jg_X6_looksForNight_60 l G hG sz out (b_X6_looksForNight_60 n) ih σ v1 h
def g_X6_looksForNight_2 (k2 : jx_M → Int32 → Option jx_M) (σ : jx_M) (v1 : Int32) : Option jx_M :=
  if (12 : Int32) ≤ v1 then (b_X6_looksForNight_60 jx_fuel σ (0 : Int32)) else (b_X6_looksForNight_10 k2 jx_fuel σ v1 (0 : Int32))
set_option maxHeartbeats 4000000 in
set_option maxRecDepth 100000 in
theorem jg_X6_looksForNight_2 (l : Launch) (G : jx_G) (hG : mm_ok G) (sz : Nat) (out : jx_M) (k2 : jx_M → Int32 → Option jx_M) (h2 : ∀ (σ : jx_M) (v1 : Int32), k2 σ v1 = some out → jJ_X6_looksForNight l G sz out 2 [(0, .ref (G.2 10)), (1, .int v1)] [] σ) (σ : jx_M) (v1 : Int32) (h : g_X6_looksForNight_2 k2 σ v1 = some out) : jJ_X6_looksForNight l G sz out 2 [(0, .ref (G.2 10)), (1, .int v1)] [] σ := by
  unfold g_X6_looksForNight_2 at h
  refine jx_iload_n (pc := 2) (k0 := 1) rfl dX6_looksForNight_2 ?_
  refine jx_bipush (pc := 3) (v := (12 : Int32)) (by decide) dX6_looksForNight_3 ?_
  refine jx_icmp_ge (pc := 5) (tgt := 58) dX6_looksForNight_5 (by decide) (fun c1 => ?_) (fun c1 => ?_)
  · have h := jx_t c1 h
    refine jx_iconst (pc := 58) (v := (0 : Int32)) (by decide) dX6_looksForNight_58 ?_
    refine jx_istore_n (pc := 59) (i := 1) rfl rfl (by decide) (lv' := [(1, .int (0 : Int32)), (0, .ref (G.2 10))]) rfl dX6_looksForNight_59 ?_
    exact jx_sub [1, 0] rfl (jb_X6_looksForNight_60 l G hG sz out jx_fuel σ (0 : Int32) h)
  · have h := jx_f c1 h
    refine jx_iconst (pc := 8) (v := (0 : Int32)) (by decide) dX6_looksForNight_8 ?_
    refine jx_istore_n (pc := 9) (i := 2) rfl rfl (by decide) (lv' := [(2, .int (0 : Int32)), (0, .ref (G.2 10)), (1, .int v1)]) rfl dX6_looksForNight_9 ?_
    exact jx_sub [1, 2, 0] rfl (jb_X6_looksForNight_10 l G hG sz out k2 h2 jx_fuel σ v1 (0 : Int32) h)
def b_X6_looksForNight_2  : Nat → jx_M → Int32 → Option jx_M
  | 0, _, _ => none
  | n + 1, σ, v1 => g_X6_looksForNight_2 (b_X6_looksForNight_2 n) σ v1
theorem jb_X6_looksForNight_2 (l : Launch) (G : jx_G) (hG : mm_ok G) (sz : Nat) (out : jx_M)  : ∀ (n : Nat) (σ : jx_M) (v1 : Int32), b_X6_looksForNight_2 n σ v1 = some out → jJ_X6_looksForNight l G sz out 2 [(0, .ref (G.2 10)), (1, .int v1)] [] σ := by
  intro n
  induction n with
  | zero =>
    intro σ v1 h
    cases h
  | succ n ih =>
    intro σ v1 h
    exact jg_X6_looksForNight_2 l G hG sz out (b_X6_looksForNight_2 n) ih σ v1 h
def f_X6_looksForNight (σ : jx_M)  : Option jx_M :=
  (b_X6_looksForNight_2 jx_fuel σ (0 : Int32))
set_option maxHeartbeats 4000000 in
set_option maxRecDepth 100000 in
theorem k_X6_looksForNight (l : Launch) (G : jx_G) (hG : mm_ok G) (sz : Nat) (σ : jx_M)  (out : jx_M) (h : f_X6_looksForNight σ = some out) : Met l yX6_looksForNight (Cond.code yX6_looksForNight cX6_looksForNight 3 none :: jx_ws) rm_X6_looksForNight (jx_Pc (mm_env G) (mm_dyn G) (mm_rg G) sz σ [.ref (G.2 10)]) (jx_Qv (mm_dyn G) out (jx_A (mm_rg G) sz)) 0 0 (jx_A (mm_rg G) sz) := by
  unfold f_X6_looksForNight at h
  refine jx_met (by decide) (Nat.le_of_ble_eq_true rfl) ?_
  refine jx_sub (lv' := [(0, .ref (G.2 10))]) [0] rfl ?_
  refine jx_iconst (pc := 0) (v := (0 : Int32)) (by decide) dX6_looksForNight_0 ?_
  refine jx_istore_n (pc := 1) (i := 1) rfl rfl (by decide) (lv' := [(1, .int (0 : Int32)), (0, .ref (G.2 10))]) rfl dX6_looksForNight_1 ?_
  exact jx_sub [1, 0] rfl (jb_X6_looksForNight_2 l G hG sz out jx_fuel σ (0 : Int32) h)
theorem dX6_lampAt_0 : decode cX6_lampAt 0 = .ok (.aload_n 0, 1) := by decide +kernel
theorem dX6_lampAt_1 : decode cX6_lampAt 1 = .ok (.iload_n 1, 1) := by decide +kernel
theorem dX6_lampAt_2 : decode cX6_lampAt 2 = .ok (.invokevirtual 160, 3) := by decide +kernel
theorem dX6_lampAt_5 : decode cX6_lampAt 5 = .ok (.istore 4, 2) := by decide +kernel
theorem dX6_lampAt_7 : decode cX6_lampAt 7 = .ok (.iload 4, 2) := by decide +kernel
theorem dX6_lampAt_9 : decode cX6_lampAt 9 = .ok (.aload_n 0, 1) := by decide +kernel
theorem dX6_lampAt_10 : decode cX6_lampAt 10 = .ok (.iload_n 1, 1) := by decide +kernel
theorem dX6_lampAt_11 : decode cX6_lampAt 11 = .ok (.iload_n 2, 1) := by decide +kernel
theorem dX6_lampAt_12 : decode cX6_lampAt 12 = .ok (.invokevirtual 169, 3) := by decide +kernel
theorem dX6_lampAt_15 : decode cX6_lampAt 15 = .ok (.iadd, 1) := by decide +kernel
theorem dX6_lampAt_16 : decode cX6_lampAt 16 = .ok (.istore 5, 2) := by decide +kernel
theorem dX6_lampAt_18 : decode cX6_lampAt 18 = .ok (.iload_n 2, 1) := by decide +kernel
theorem dX6_lampAt_19 : decode cX6_lampAt 19 = .ok (.istore 6, 2) := by decide +kernel
theorem dX6_lampAt_21 : decode cX6_lampAt 21 = .ok (.iload 4, 2) := by decide +kernel
theorem dX6_lampAt_23 : decode cX6_lampAt 23 = .ok (.istore 7, 2) := by decide +kernel
theorem dX6_lampAt_25 : decode cX6_lampAt 25 = .ok (.iload 7, 2) := by decide +kernel
theorem dX6_lampAt_27 : decode cX6_lampAt 27 = .ok (.iload 5, 2) := by decide +kernel
theorem dX6_lampAt_29 : decode cX6_lampAt 29 = .ok (.if_icmp .ge 30, 3) := by decide +kernel
theorem dX6_lampAt_32 : decode cX6_lampAt 32 = .ok (.iload 7, 2) := by decide +kernel
theorem dX6_lampAt_34 : decode cX6_lampAt 34 = .ok (.iload_n 3, 1) := by decide +kernel
theorem dX6_lampAt_35 : decode cX6_lampAt 35 = .ok (.if_icmp .ge 24, 3) := by decide +kernel
theorem dX6_lampAt_38 : decode cX6_lampAt 38 = .ok (.aload_n 0, 1) := by decide +kernel
theorem dX6_lampAt_39 : decode cX6_lampAt 39 = .ok (.getfield 25, 3) := by decide +kernel
theorem dX6_lampAt_42 : decode cX6_lampAt 42 = .ok (.bipush 7, 2) := by decide +kernel
theorem dX6_lampAt_44 : decode cX6_lampAt 44 = .ok (.iload 7, 2) := by decide +kernel
theorem dX6_lampAt_46 : decode cX6_lampAt 46 = .ok (.imul, 1) := by decide +kernel
theorem dX6_lampAt_47 : decode cX6_lampAt 47 = .ok (.iload 6, 2) := by decide +kernel
theorem dX6_lampAt_49 : decode cX6_lampAt 49 = .ok (.iadd, 1) := by decide +kernel
theorem dX6_lampAt_50 : decode cX6_lampAt 50 = .ok (.iaload, 1) := by decide +kernel
theorem dX6_lampAt_51 : decode cX6_lampAt 51 = .ok (.istore 6, 2) := by decide +kernel
theorem dX6_lampAt_53 : decode cX6_lampAt 53 = .ok (.iinc 7 1, 3) := by decide +kernel
theorem dX6_lampAt_56 : decode cX6_lampAt 56 = .ok (.goto (-31), 3) := by decide +kernel
theorem dX6_lampAt_59 : decode cX6_lampAt 59 = .ok (.iload 6, 2) := by decide +kernel
theorem dX6_lampAt_61 : decode cX6_lampAt 61 = .ok (.ireturn, 1) := by decide +kernel
abbrev rm_X6_lampAt : Room := { frames := 2, cells := 0, slots := 0, locals := 53 }
abbrev jJ_X6_lampAt (l : Launch) (G : jx_G) (sz : Nat) (out : (Int32 × jx_M)) (pc : Nat) (lv : List (Nat × Value)) (st : List Value) (σ : jx_M) : Prop := jx_J l (mm_env G) (mm_dyn G) (mm_rg G) sz RX6 "lampAt" cX6_lampAt 8 (some .int) rm_X6_lampAt (fun below args s => MQ below (jx_Qi (mm_dyn G) out.2 out.1 (jx_A (mm_rg G) sz)) args s 0 0 (jx_A (mm_rg G) sz)) 0 0 pc lv st σ
def g_X6_lampAt_25 (k25 : jx_M → Int32 → Int32 → Int32 → Int32 → Option (Int32 × jx_M)) (σ : jx_M) (v3 : Int32) (v5 : Int32) (v6 : Int32) (v7 : Int32) : Option (Int32 × jx_M) :=
  if v5 ≤ v7 then some (v6, σ) else if v3 ≤ v7 then some (v6, σ) else jx_gd (jx_in (((7 : Int32) * v7) + v6) 84) (jx_lt ((σ 5 (((7 : Int32) * v7) + v6).toNatClampNeg)) (fun x4 => jx_lt (v7 + (1 : Int32)) (fun x5 => (k25 σ v3 v5 x4 x5))))
set_option maxHeartbeats 4000000 in
set_option maxRecDepth 100000 in
theorem jg_X6_lampAt_25 (l : Launch) (G : jx_G) (hG : mm_ok G) (sz : Nat) (out : (Int32 × jx_M)) (k25 : jx_M → Int32 → Int32 → Int32 → Int32 → Option (Int32 × jx_M)) (h25 : ∀ (σ : jx_M) (v3 : Int32) (v5 : Int32) (v6 : Int32) (v7 : Int32), k25 σ v3 v5 v6 v7 = some out → jJ_X6_lampAt l G sz out 25 [(0, .ref (G.2 10)), (3, .int v3), (5, .int v5), (6, .int v6), (7, .int v7)] [] σ) (σ : jx_M) (v3 : Int32) (v5 : Int32) (v6 : Int32) (v7 : Int32) (h : g_X6_lampAt_25 k25 σ v3 v5 v6 v7 = some out) : jJ_X6_lampAt l G sz out 25 [(0, .ref (G.2 10)), (3, .int v3), (5, .int v5), (6, .int v6), (7, .int v7)] [] σ := by
  unfold g_X6_lampAt_25 at h
  refine jx_iload (pc := 25) (i := 7) rfl dX6_lampAt_25 ?_
  refine jx_iload (pc := 27) (i := 5) rfl dX6_lampAt_27 ?_
  refine jx_icmp_ge (pc := 29) (tgt := 59) dX6_lampAt_29 (by decide) (fun c1 => ?_) (fun c1 => ?_)
  · have h := jx_t c1 h
    refine jx_iload (pc := 59) (i := 6) rfl dX6_lampAt_59 ?_
    have h := Option.some.inj h
    subst h
    exact jx_iret (pc := 61) dX6_lampAt_61
  · have h := jx_f c1 h
    refine jx_iload (pc := 32) (i := 7) rfl dX6_lampAt_32 ?_
    refine jx_iload_n (pc := 34) (k0 := 3) rfl dX6_lampAt_34 ?_
    refine jx_icmp_ge (pc := 35) (tgt := 59) dX6_lampAt_35 (by decide) (fun c2 => ?_) (fun c2 => ?_)
    · have h := jx_t c2 h
      refine jx_iload (pc := 59) (i := 6) rfl dX6_lampAt_59 ?_
      have h := Option.some.inj h
      subst h
      exact jx_iret (pc := 61) dX6_lampAt_61
    · have h := jx_f c2 h
      refine jx_aload_n (pc := 38) (k0 := 0) rfl dX6_lampAt_38 ?_
      refine mm_g_going (pc := 39) fl_X6_25 dX6_lampAt_39 ?_
      refine jx_bipush (pc := 42) (v := (7 : Int32)) (by decide) dX6_lampAt_42 ?_
      refine jx_iload (pc := 44) (i := 7) rfl dX6_lampAt_44 ?_
      refine jx_imul (pc := 46) dX6_lampAt_46 ?_
      refine jx_iload (pc := 47) (i := 6) rfl dX6_lampAt_47 ?_
      refine jx_iadd (pc := 49) dX6_lampAt_49 ?_
      obtain ⟨g3, h⟩ := jx_gd_o h
      refine mm_l_going (pc := 50) (jx_in_o g3) rfl dX6_lampAt_50 ?_
      obtain ⟨x4, ex4, h⟩ := jx_lt_o h
      refine jx_istore (pc := 51) (i := 6) ex4 (by decide) (lv' := [(6, .int x4), (0, .ref (G.2 10)), (3, .int v3), (5, .int v5), (7, .int v7)]) rfl dX6_lampAt_51 ?_
      obtain ⟨x5, ex5, h⟩ := jx_lt_o h
      refine jx_iinc (pc := 53) (i := 7) (v := v7) rfl ex5 (n := 1) (by decide) (by decide) (lv' := [(7, .int x5), (6, .int x4), (0, .ref (G.2 10)), (3, .int v3), (5, .int v5)]) rfl dX6_lampAt_53 ?_
      refine jx_goto (pc := 56) (tgt := 25) dX6_lampAt_56 (by decide) ?_
      exact jx_sub [2, 3, 4, 1, 0] rfl (h25 σ v3 v5 x4 x5 h)
def b_X6_lampAt_25  : Nat → jx_M → Int32 → Int32 → Int32 → Int32 → Option (Int32 × jx_M)
  | 0, _, _, _, _, _ => none
  | n + 1, σ, v3, v5, v6, v7 => g_X6_lampAt_25 (b_X6_lampAt_25 n) σ v3 v5 v6 v7
theorem jb_X6_lampAt_25 (l : Launch) (G : jx_G) (hG : mm_ok G) (sz : Nat) (out : (Int32 × jx_M))  : ∀ (n : Nat) (σ : jx_M) (v3 : Int32) (v5 : Int32) (v6 : Int32) (v7 : Int32), b_X6_lampAt_25 n σ v3 v5 v6 v7 = some out → jJ_X6_lampAt l G sz out 25 [(0, .ref (G.2 10)), (3, .int v3), (5, .int v5), (6, .int v6), (7, .int v7)] [] σ := by
  intro n
  induction n with
  | zero =>
    intro σ v3 v5 v6 v7 h
    cases h
  | succ n ih =>
    intro σ v3 v5 v6 v7 h
    exact jg_X6_lampAt_25 l G hG sz out (b_X6_lampAt_25 n) ih σ v3 v5 v6 v7 h
def f_X6_lampAt (σ : jx_M) (a1 : Int32) (a2 : Int32) (a3 : Int32) : Option (Int32 × jx_M) :=
  jx_bd (f_X6_delayOf σ a1) (fun q1 => jx_bd (f_X6_burnsAt σ a1 a2) (fun q2 => jx_lt ((q1 + q2.1)) (fun x3 => (b_X6_lampAt_25 jx_fuel q2.2 a3 x3 a2 q1))))
set_option maxHeartbeats 4000000 in
set_option maxRecDepth 100000 in
theorem k_X6_lampAt (l : Launch) (G : jx_G) (hG : mm_ok G) (sz : Nat) (σ : jx_M) (a1 : Int32) (a2 : Int32) (a3 : Int32) (out : (Int32 × jx_M)) (h : f_X6_lampAt σ a1 a2 a3 = some out) : Met l yX6_lampAt (Cond.code yX6_lampAt cX6_lampAt 8 (some .int) :: jx_ws) rm_X6_lampAt (jx_Pc (mm_env G) (mm_dyn G) (mm_rg G) sz σ [.ref (G.2 10), .int a1, .int a2, .int a3]) (jx_Qi (mm_dyn G) out.2 out.1 (jx_A (mm_rg G) sz)) 0 0 (jx_A (mm_rg G) sz) := by
  unfold f_X6_lampAt at h
  refine jx_met (by decide) (Nat.le_of_ble_eq_true rfl) ?_
  refine jx_sub (lv' := [(0, .ref (G.2 10)), (1, .int a1), (2, .int a2), (3, .int a3)]) [0, 1, 2, 3] rfl ?_
  refine jx_aload_n (pc := 0) (k0 := 0) rfl dX6_lampAt_0 ?_
  refine jx_iload_n (pc := 1) (k0 := 1) rfl dX6_lampAt_1 ?_
  obtain ⟨q1, eq1, h⟩ := jx_bd_o h
  refine jx_callVi (pc := 2) [.int a1] (fun sz' => k_X6_delayOf l G hG sz' σ a1 q1 eq1) kv_X6_160 mm_jok mm_rc rfl rfl (Nat.le_of_ble_eq_true rfl) ⟨⟨rfl, rfl⟩, ⟨Nat.le_of_ble_eq_true rfl, Nat.le_of_ble_eq_true rfl⟩, Nat.zero_le _, Nat.zero_le _⟩ dX6_lampAt_2 ?_
  refine jx_istore (pc := 5) (i := 4) rfl (by decide) (lv' := [(4, .int q1), (0, .ref (G.2 10)), (1, .int a1), (2, .int a2), (3, .int a3)]) rfl dX6_lampAt_5 ?_
  refine jx_iload (pc := 7) (i := 4) rfl dX6_lampAt_7 ?_
  refine jx_aload_n (pc := 9) (k0 := 0) rfl dX6_lampAt_9 ?_
  refine jx_iload_n (pc := 10) (k0 := 1) rfl dX6_lampAt_10 ?_
  refine jx_iload_n (pc := 11) (k0 := 2) rfl dX6_lampAt_11 ?_
  obtain ⟨q2, eq2, h⟩ := jx_bd_o h
  refine jx_callVi (pc := 12) [.int a1, .int a2] (fun sz' => k_X6_burnsAt l G hG sz' σ a1 a2 q2 eq2) kv_X6_169 mm_jok mm_rc rfl rfl (Nat.le_of_ble_eq_true rfl) ⟨⟨rfl, rfl⟩, ⟨Nat.le_of_ble_eq_true rfl, Nat.le_of_ble_eq_true rfl⟩, Nat.zero_le _, Nat.zero_le _⟩ dX6_lampAt_12 ?_
  refine jx_iadd (pc := 15) dX6_lampAt_15 ?_
  obtain ⟨x3, ex3, h⟩ := jx_lt_o h
  refine jx_istore (pc := 16) (i := 5) ex3 (by decide) (lv' := [(5, .int x3), (4, .int q1), (0, .ref (G.2 10)), (1, .int a1), (2, .int a2), (3, .int a3)]) rfl dX6_lampAt_16 ?_
  refine jx_iload_n (pc := 18) (k0 := 2) rfl dX6_lampAt_18 ?_
  refine jx_istore (pc := 19) (i := 6) rfl (by decide) (lv' := [(6, .int a2), (5, .int x3), (4, .int q1), (0, .ref (G.2 10)), (1, .int a1), (2, .int a2), (3, .int a3)]) rfl dX6_lampAt_19 ?_
  refine jx_iload (pc := 21) (i := 4) rfl dX6_lampAt_21 ?_
  refine jx_istore (pc := 23) (i := 7) rfl (by decide) (lv' := [(7, .int q1), (6, .int a2), (5, .int x3), (4, .int q1), (0, .ref (G.2 10)), (1, .int a1), (2, .int a2), (3, .int a3)]) rfl dX6_lampAt_23 ?_
  exact jx_sub [4, 7, 2, 1, 0] rfl (jb_X6_lampAt_25 l G hG sz out jx_fuel q2.2 a3 x3 a2 q1 h)
theorem dX6_mayorBy_0 : decode cX6_mayorBy 0 = .ok (.aload_n 0, 1) := by decide +kernel
theorem dX6_mayorBy_1 : decode cX6_mayorBy 1 = .ok (.iload_n 1, 1) := by decide +kernel
theorem dX6_mayorBy_2 : decode cX6_mayorBy 2 = .ok (.invokevirtual 197, 3) := by decide +kernel
theorem dX6_mayorBy_5 : decode cX6_mayorBy 5 = .ok (.aload_n 0, 1) := by decide +kernel
theorem dX6_mayorBy_6 : decode cX6_mayorBy 6 = .ok (.invokevirtual 191, 3) := by decide +kernel
theorem dX6_mayorBy_9 : decode cX6_mayorBy 9 = .ok (.istore_n 2, 1) := by decide +kernel
theorem dX6_mayorBy_10 : decode cX6_mayorBy 10 = .ok (.aload_n 0, 1) := by decide +kernel
theorem dX6_mayorBy_11 : decode cX6_mayorBy 11 = .ok (.iload_n 1, 1) := by decide +kernel
theorem dX6_mayorBy_12 : decode cX6_mayorBy 12 = .ok (.invokevirtual 197, 3) := by decide +kernel
theorem dX6_mayorBy_15 : decode cX6_mayorBy 15 = .ok (.iload_n 2, 1) := by decide +kernel
theorem dX6_mayorBy_16 : decode cX6_mayorBy 16 = .ok (.ireturn, 1) := by decide +kernel
abbrev rm_X6_mayorBy : Room := { frames := 2, cells := 0, slots := 0, locals := 43 }
abbrev jJ_X6_mayorBy (l : Launch) (G : jx_G) (sz : Nat) (out : (Int32 × jx_M)) (pc : Nat) (lv : List (Nat × Value)) (st : List Value) (σ : jx_M) : Prop := jx_J l (mm_env G) (mm_dyn G) (mm_rg G) sz RX6 "mayorBy" cX6_mayorBy 3 (some .int) rm_X6_mayorBy (fun below args s => MQ below (jx_Qi (mm_dyn G) out.2 out.1 (jx_A (mm_rg G) sz)) args s 0 0 (jx_A (mm_rg G) sz)) 0 0 pc lv st σ
def f_X6_mayorBy (σ : jx_M) (a1 : Int32) : Option (Int32 × jx_M) :=
  jx_bd (f_X6_turnsWishes σ a1) (fun q1 => jx_bd (f_X6_mayor q1) (fun q2 => jx_bd (f_X6_turnsWishes q1 a1) (fun q3 => some (q2, q3))))
set_option maxHeartbeats 4000000 in
set_option maxRecDepth 100000 in
theorem k_X6_mayorBy (l : Launch) (G : jx_G) (hG : mm_ok G) (sz : Nat) (σ : jx_M) (a1 : Int32) (out : (Int32 × jx_M)) (h : f_X6_mayorBy σ a1 = some out) : Met l yX6_mayorBy (Cond.code yX6_mayorBy cX6_mayorBy 3 (some .int) :: jx_ws) rm_X6_mayorBy (jx_Pc (mm_env G) (mm_dyn G) (mm_rg G) sz σ [.ref (G.2 10), .int a1]) (jx_Qi (mm_dyn G) out.2 out.1 (jx_A (mm_rg G) sz)) 0 0 (jx_A (mm_rg G) sz) := by
  unfold f_X6_mayorBy at h
  refine jx_met (by decide) (Nat.le_of_ble_eq_true rfl) ?_
  refine jx_sub (lv' := [(0, .ref (G.2 10)), (1, .int a1)]) [0, 1] rfl ?_
  refine jx_aload_n (pc := 0) (k0 := 0) rfl dX6_mayorBy_0 ?_
  refine jx_iload_n (pc := 1) (k0 := 1) rfl dX6_mayorBy_1 ?_
  obtain ⟨q1, eq1, h⟩ := jx_bd_o h
  refine jx_callVv (pc := 2) [.int a1] (fun sz' => k_X6_turnsWishes l G hG sz' σ a1 q1 eq1) kv_X6_197 mm_jok mm_rc rfl rfl (Nat.le_of_ble_eq_true rfl) ⟨⟨rfl, rfl⟩, ⟨Nat.le_of_ble_eq_true rfl, Nat.le_of_ble_eq_true rfl⟩, Nat.zero_le _, Nat.zero_le _⟩ dX6_mayorBy_2 ?_
  refine jx_aload_n (pc := 5) (k0 := 0) rfl dX6_mayorBy_5 ?_
  obtain ⟨q2, eq2, h⟩ := jx_bd_o h
  refine jx_callVi (pc := 6) [] (fun sz' => k_X6_mayor l G hG sz' q1 q2 eq2) kv_X6_191 mm_jok mm_rc rfl rfl (Nat.le_of_ble_eq_true rfl) ⟨⟨rfl, rfl⟩, ⟨Nat.le_of_ble_eq_true rfl, Nat.le_of_ble_eq_true rfl⟩, Nat.zero_le _, Nat.zero_le _⟩ dX6_mayorBy_6 ?_
  refine jx_istore_n (pc := 9) (i := 2) rfl rfl (by decide) (lv' := [(2, .int q2), (0, .ref (G.2 10)), (1, .int a1)]) rfl dX6_mayorBy_9 ?_
  refine jx_aload_n (pc := 10) (k0 := 0) rfl dX6_mayorBy_10 ?_
  refine jx_iload_n (pc := 11) (k0 := 1) rfl dX6_mayorBy_11 ?_
  obtain ⟨q3, eq3, h⟩ := jx_bd_o h
  refine jx_callVv (pc := 12) [.int a1] (fun sz' => k_X6_turnsWishes l G hG sz' q1 a1 q3 eq3) kv_X6_197 mm_jok mm_rc rfl rfl (Nat.le_of_ble_eq_true rfl) ⟨⟨rfl, rfl⟩, ⟨Nat.le_of_ble_eq_true rfl, Nat.le_of_ble_eq_true rfl⟩, Nat.zero_le _, Nat.zero_le _⟩ dX6_mayorBy_12 ?_
  refine jx_iload_n (pc := 15) (k0 := 2) rfl dX6_mayorBy_15 ?_
  have h := Option.some.inj h
  subst h
  exact jx_iret (pc := 16) dX6_mayorBy_16
theorem dX6_see_0 : decode cX6_see 0 = .ok (.iload_n 1, 1) := by decide +kernel
theorem dX6_see_1 : decode cX6_see 1 = .ok (.iconst (-1), 1) := by decide +kernel
theorem dX6_see_2 : decode cX6_see 2 = .ok (.if_icmp .ne 12, 3) := by decide +kernel
theorem dX6_see_5 : decode cX6_see 5 = .ok (.aload_n 0, 1) := by decide +kernel
theorem dX6_see_6 : decode cX6_see 6 = .ok (.getfield 9, 3) := by decide +kernel
theorem dX6_see_9 : decode cX6_see 9 = .ok (.iconst 2, 1) := by decide +kernel
theorem dX6_see_10 : decode cX6_see 10 = .ok (.iconst 0, 1) := by decide +kernel
theorem dX6_see_11 : decode cX6_see 11 = .ok (.iastore, 1) := by decide +kernel
theorem dX6_see_12 : decode cX6_see 12 = .ok (.iconst 0, 1) := by decide +kernel
theorem dX6_see_13 : decode cX6_see 13 = .ok (.ireturn, 1) := by decide +kernel
theorem dX6_see_14 : decode cX6_see 14 = .ok (.aload_n 0, 1) := by decide +kernel
theorem dX6_see_15 : decode cX6_see 15 = .ok (.iload_n 1, 1) := by decide +kernel
theorem dX6_see_16 : decode cX6_see 16 = .ok (.invokevirtual 145, 3) := by decide +kernel
theorem dX6_see_19 : decode cX6_see 19 = .ok (.ifCond .ne 5, 3) := by decide +kernel
theorem dX6_see_22 : decode cX6_see 22 = .ok (.iconst (-1), 1) := by decide +kernel
theorem dX6_see_23 : decode cX6_see 23 = .ok (.ireturn, 1) := by decide +kernel
theorem dX6_see_24 : decode cX6_see 24 = .ok (.iload_n 2, 1) := by decide +kernel
theorem dX6_see_25 : decode cX6_see 25 = .ok (.iconst 0, 1) := by decide +kernel
theorem dX6_see_26 : decode cX6_see 26 = .ok (.bipush 6, 2) := by decide +kernel
theorem dX6_see_28 : decode cX6_see 28 = .ok (.invokestatic 48, 3) := by decide +kernel
theorem dX6_see_31 : decode cX6_see 31 = .ok (.ifCond .ne 6, 3) := by decide +kernel
theorem dX6_see_34 : decode cX6_see 34 = .ok (.bipush (-2), 2) := by decide +kernel
theorem dX6_see_36 : decode cX6_see 36 = .ok (.ireturn, 1) := by decide +kernel
theorem dX6_see_37 : decode cX6_see 37 = .ok (.aload_n 0, 1) := by decide +kernel
theorem dX6_see_38 : decode cX6_see 38 = .ok (.getfield 9, 3) := by decide +kernel
theorem dX6_see_41 : decode cX6_see 41 = .ok (.iconst 2, 1) := by decide +kernel
theorem dX6_see_42 : decode cX6_see 42 = .ok (.iaload, 1) := by decide +kernel
theorem dX6_see_43 : decode cX6_see 43 = .ok (.bipush 6, 2) := by decide +kernel
theorem dX6_see_45 : decode cX6_see 45 = .ok (.if_icmp .ne 6, 3) := by decide +kernel
theorem dX6_see_48 : decode cX6_see 48 = .ok (.bipush (-4), 2) := by decide +kernel
theorem dX6_see_50 : decode cX6_see 50 = .ok (.ireturn, 1) := by decide +kernel
theorem dX6_see_51 : decode cX6_see 51 = .ok (.aload_n 0, 1) := by decide +kernel
theorem dX6_see_52 : decode cX6_see 52 = .ok (.getfield 9, 3) := by decide +kernel
theorem dX6_see_55 : decode cX6_see 55 = .ok (.bipush 79, 2) := by decide +kernel
theorem dX6_see_57 : decode cX6_see 57 = .ok (.aload_n 0, 1) := by decide +kernel
theorem dX6_see_58 : decode cX6_see 58 = .ok (.getfield 9, 3) := by decide +kernel
theorem dX6_see_61 : decode cX6_see 61 = .ok (.iconst 2, 1) := by decide +kernel
theorem dX6_see_62 : decode cX6_see 62 = .ok (.iaload, 1) := by decide +kernel
theorem dX6_see_63 : decode cX6_see 63 = .ok (.iadd, 1) := by decide +kernel
theorem dX6_see_64 : decode cX6_see 64 = .ok (.iload_n 1, 1) := by decide +kernel
theorem dX6_see_65 : decode cX6_see 65 = .ok (.iastore, 1) := by decide +kernel
theorem dX6_see_66 : decode cX6_see 66 = .ok (.aload_n 0, 1) := by decide +kernel
theorem dX6_see_67 : decode cX6_see 67 = .ok (.getfield 9, 3) := by decide +kernel
theorem dX6_see_70 : decode cX6_see 70 = .ok (.bipush 85, 2) := by decide +kernel
theorem dX6_see_72 : decode cX6_see 72 = .ok (.aload_n 0, 1) := by decide +kernel
theorem dX6_see_73 : decode cX6_see 73 = .ok (.getfield 9, 3) := by decide +kernel
theorem dX6_see_76 : decode cX6_see 76 = .ok (.iconst 2, 1) := by decide +kernel
theorem dX6_see_77 : decode cX6_see 77 = .ok (.iaload, 1) := by decide +kernel
theorem dX6_see_78 : decode cX6_see 78 = .ok (.iadd, 1) := by decide +kernel
theorem dX6_see_79 : decode cX6_see 79 = .ok (.iload_n 2, 1) := by decide +kernel
theorem dX6_see_80 : decode cX6_see 80 = .ok (.iastore, 1) := by decide +kernel
theorem dX6_see_81 : decode cX6_see 81 = .ok (.aload_n 0, 1) := by decide +kernel
theorem dX6_see_82 : decode cX6_see 82 = .ok (.getfield 9, 3) := by decide +kernel
theorem dX6_see_85 : decode cX6_see 85 = .ok (.iconst 2, 1) := by decide +kernel
theorem dX6_see_86 : decode cX6_see 86 = .ok (.dup2, 1) := by decide +kernel
theorem dX6_see_87 : decode cX6_see 87 = .ok (.iaload, 1) := by decide +kernel
theorem dX6_see_88 : decode cX6_see 88 = .ok (.iconst 1, 1) := by decide +kernel
theorem dX6_see_89 : decode cX6_see 89 = .ok (.iadd, 1) := by decide +kernel
theorem dX6_see_90 : decode cX6_see 90 = .ok (.iastore, 1) := by decide +kernel
theorem dX6_see_91 : decode cX6_see 91 = .ok (.aload_n 0, 1) := by decide +kernel
theorem dX6_see_92 : decode cX6_see 92 = .ok (.getfield 9, 3) := by decide +kernel
theorem dX6_see_95 : decode cX6_see 95 = .ok (.iconst 2, 1) := by decide +kernel
theorem dX6_see_96 : decode cX6_see 96 = .ok (.iaload, 1) := by decide +kernel
theorem dX6_see_97 : decode cX6_see 97 = .ok (.ireturn, 1) := by decide +kernel
abbrev rm_X6_see : Room := { frames := 2, cells := 0, slots := 0, locals := 43 }
abbrev jJ_X6_see (l : Launch) (G : jx_G) (sz : Nat) (out : (Int32 × jx_M)) (pc : Nat) (lv : List (Nat × Value)) (st : List Value) (σ : jx_M) : Prop := jx_J l (mm_env G) (mm_dyn G) (mm_rg G) sz RX6 "see" cX6_see 3 (some .int) rm_X6_see (fun below args s => MQ below (jx_Qi (mm_dyn G) out.2 out.1 (jx_A (mm_rg G) sz)) args s 0 0 (jx_A (mm_rg G) sz)) 0 0 pc lv st σ
def f_X6_see (σ : jx_M) (a1 : Int32) (a2 : Int32) : Option (Int32 × jx_M) :=
  if a1 = (-1 : Int32) then jx_lt (jx_mu σ 1 2 (0 : Int32)) (fun σ12 => some ((0 : Int32), σ12)) else jx_bd (f_X6_isPlace σ a1) (fun q2 => if q2 = 0 then some ((-1 : Int32), σ) else jx_bd (f_X6_in a2 (0 : Int32) (6 : Int32)) (fun q4 => if q4 = 0 then some ((-2 : Int32), σ) else if (σ 1 2) = (6 : Int32) then some ((-4 : Int32), σ) else jx_gd (jx_in ((79 : Int32) + (σ 1 2)) 920) (jx_lt (jx_mu σ 1 ((79 : Int32) + (σ 1 2)).toNatClampNeg a1) (fun σ8 => jx_gd (jx_in ((85 : Int32) + (σ8 1 2)) 920) (jx_lt (jx_mu σ8 1 ((85 : Int32) + (σ8 1 2)).toNatClampNeg a2) (fun σ10 => jx_lt (jx_mu σ10 1 2 ((σ10 1 2) + (1 : Int32))) (fun σ11 => some ((σ11 1 2), σ11))))))))
set_option maxHeartbeats 4000000 in
set_option maxRecDepth 100000 in
theorem k_X6_see (l : Launch) (G : jx_G) (hG : mm_ok G) (sz : Nat) (σ : jx_M) (a1 : Int32) (a2 : Int32) (out : (Int32 × jx_M)) (h : f_X6_see σ a1 a2 = some out) : Met l yX6_see (Cond.code yX6_see cX6_see 3 (some .int) :: jx_ws) rm_X6_see (jx_Pc (mm_env G) (mm_dyn G) (mm_rg G) sz σ [.ref (G.2 10), .int a1, .int a2]) (jx_Qi (mm_dyn G) out.2 out.1 (jx_A (mm_rg G) sz)) 0 0 (jx_A (mm_rg G) sz) := by
  unfold f_X6_see at h
  refine jx_met (by decide) (Nat.le_of_ble_eq_true rfl) ?_
  refine jx_sub (lv' := [(0, .ref (G.2 10)), (1, .int a1), (2, .int a2)]) [0, 1, 2] rfl ?_
  refine jx_iload_n (pc := 0) (k0 := 1) rfl dX6_see_0 ?_
  refine jx_iconst (pc := 1) (v := (-1 : Int32)) (by decide) dX6_see_1 ?_
  refine jx_icmp_ne (pc := 2) (tgt := 14) dX6_see_2 (by decide) (fun c1 => ?_) (fun c1 => ?_)
  · have h := jx_f c1 h
    refine jx_aload_n (pc := 14) (k0 := 0) rfl dX6_see_14 ?_
    refine jx_iload_n (pc := 15) (k0 := 1) rfl dX6_see_15 ?_
    obtain ⟨q2, eq2, h⟩ := jx_bd_o h
    refine jx_callVi (pc := 16) [.int a1] (fun sz' => k_X6_isPlace l G hG sz' σ a1 q2 eq2) kv_X6_145 mm_jok mm_rc rfl rfl (Nat.le_of_ble_eq_true rfl) ⟨⟨rfl, rfl⟩, ⟨Nat.le_of_ble_eq_true rfl, Nat.le_of_ble_eq_true rfl⟩, Nat.zero_le _, Nat.zero_le _⟩ dX6_see_16 ?_
    refine jx_if_ne (pc := 19) (tgt := 24) dX6_see_19 (by decide) (fun c3 => ?_) (fun c3 => ?_)
    · have h := jx_f c3 h
      refine jx_iload_n (pc := 24) (k0 := 2) rfl dX6_see_24 ?_
      refine jx_iconst (pc := 25) (v := (0 : Int32)) (by decide) dX6_see_25 ?_
      refine jx_bipush (pc := 26) (v := (6 : Int32)) (by decide) dX6_see_26 ?_
      obtain ⟨q4, eq4, h⟩ := jx_bd_o h
      refine jx_callSi (pc := 28) [.int a2, .int (0 : Int32), .int (6 : Int32)] (fun sz' => k_X6_in l G hG sz' σ a2 (0 : Int32) (6 : Int32) q4 eq4) ks_X6_48 mm_jok rfl rfl (Nat.le_of_ble_eq_true rfl) ⟨⟨rfl, rfl⟩, ⟨Nat.le_of_ble_eq_true rfl, Nat.le_of_ble_eq_true rfl⟩, Nat.zero_le _, Nat.zero_le _⟩ dX6_see_28 ?_
      refine jx_if_ne (pc := 31) (tgt := 37) dX6_see_31 (by decide) (fun c5 => ?_) (fun c5 => ?_)
      · have h := jx_f c5 h
        refine jx_aload_n (pc := 37) (k0 := 0) rfl dX6_see_37 ?_
        refine mm_g_s (pc := 38) fl_X6_9 dX6_see_38 ?_
        refine jx_iconst (pc := 41) (v := (2 : Int32)) (by decide) dX6_see_41 ?_
        refine mm_l_s (pc := 42) (j := 2) (jx_in_o (by decide)) (by decide) dX6_see_42 ?_
        refine jx_bipush (pc := 43) (v := (6 : Int32)) (by decide) dX6_see_43 ?_
        refine jx_icmp_ne (pc := 45) (tgt := 51) dX6_see_45 (by decide) (fun c6 => ?_) (fun c6 => ?_)
        · have h := jx_f c6 h
          refine jx_aload_n (pc := 51) (k0 := 0) rfl dX6_see_51 ?_
          refine mm_g_s (pc := 52) fl_X6_9 dX6_see_52 ?_
          refine jx_bipush (pc := 55) (v := (79 : Int32)) (by decide) dX6_see_55 ?_
          refine jx_aload_n (pc := 57) (k0 := 0) rfl dX6_see_57 ?_
          refine mm_g_s (pc := 58) fl_X6_9 dX6_see_58 ?_
          refine jx_iconst (pc := 61) (v := (2 : Int32)) (by decide) dX6_see_61 ?_
          refine mm_l_s (pc := 62) (j := 2) (jx_in_o (by decide)) (by decide) dX6_see_62 ?_
          refine jx_iadd (pc := 63) dX6_see_63 ?_
          refine jx_iload_n (pc := 64) (k0 := 1) rfl dX6_see_64 ?_
          obtain ⟨g7, h⟩ := jx_gd_o h
          obtain ⟨σ8, eσ8, h⟩ := jx_lt_o h
          refine mm_s_s (pc := 65) hG (jx_in_o g7) rfl eσ8 dX6_see_65 ?_
          refine jx_aload_n (pc := 66) (k0 := 0) rfl dX6_see_66 ?_
          refine mm_g_s (pc := 67) fl_X6_9 dX6_see_67 ?_
          refine jx_bipush (pc := 70) (v := (85 : Int32)) (by decide) dX6_see_70 ?_
          refine jx_aload_n (pc := 72) (k0 := 0) rfl dX6_see_72 ?_
          refine mm_g_s (pc := 73) fl_X6_9 dX6_see_73 ?_
          refine jx_iconst (pc := 76) (v := (2 : Int32)) (by decide) dX6_see_76 ?_
          refine mm_l_s (pc := 77) (j := 2) (jx_in_o (by decide)) (by decide) dX6_see_77 ?_
          refine jx_iadd (pc := 78) dX6_see_78 ?_
          refine jx_iload_n (pc := 79) (k0 := 2) rfl dX6_see_79 ?_
          obtain ⟨g9, h⟩ := jx_gd_o h
          obtain ⟨σ10, eσ10, h⟩ := jx_lt_o h
          refine mm_s_s (pc := 80) hG (jx_in_o g9) rfl eσ10 dX6_see_80 ?_
          refine jx_aload_n (pc := 81) (k0 := 0) rfl dX6_see_81 ?_
          refine mm_g_s (pc := 82) fl_X6_9 dX6_see_82 ?_
          refine jx_iconst (pc := 85) (v := (2 : Int32)) (by decide) dX6_see_85 ?_
          refine jx_dup2 (pc := 86) rfl rfl dX6_see_86 ?_
          refine mm_l_s (pc := 87) (j := 2) (jx_in_o (by decide)) (by decide) dX6_see_87 ?_
          refine jx_iconst (pc := 88) (v := (1 : Int32)) (by decide) dX6_see_88 ?_
          refine jx_iadd (pc := 89) dX6_see_89 ?_
          obtain ⟨σ11, eσ11, h⟩ := jx_lt_o h
          refine mm_s_s (pc := 90) hG (jx_in_o (by decide)) (by decide) eσ11 dX6_see_90 ?_
          refine jx_aload_n (pc := 91) (k0 := 0) rfl dX6_see_91 ?_
          refine mm_g_s (pc := 92) fl_X6_9 dX6_see_92 ?_
          refine jx_iconst (pc := 95) (v := (2 : Int32)) (by decide) dX6_see_95 ?_
          refine mm_l_s (pc := 96) (j := 2) (jx_in_o (by decide)) (by decide) dX6_see_96 ?_
          have h := Option.some.inj h
          subst h
          exact jx_iret (pc := 97) dX6_see_97
        · have h := jx_t c6 h
          refine jx_bipush (pc := 48) (v := (-4 : Int32)) (by decide) dX6_see_48 ?_
          have h := Option.some.inj h
          subst h
          exact jx_iret (pc := 50) dX6_see_50
      · have h := jx_t c5 h
        refine jx_bipush (pc := 34) (v := (-2 : Int32)) (by decide) dX6_see_34 ?_
        have h := Option.some.inj h
        subst h
        exact jx_iret (pc := 36) dX6_see_36
    · have h := jx_t c3 h
      refine jx_iconst (pc := 22) (v := (-1 : Int32)) (by decide) dX6_see_22 ?_
      have h := Option.some.inj h
      subst h
      exact jx_iret (pc := 23) dX6_see_23
  · have h := jx_t c1 h
    refine jx_aload_n (pc := 5) (k0 := 0) rfl dX6_see_5 ?_
    refine mm_g_s (pc := 6) fl_X6_9 dX6_see_6 ?_
    refine jx_iconst (pc := 9) (v := (2 : Int32)) (by decide) dX6_see_9 ?_
    refine jx_iconst (pc := 10) (v := (0 : Int32)) (by decide) dX6_see_10 ?_
    obtain ⟨σ12, eσ12, h⟩ := jx_lt_o h
    refine mm_s_s (pc := 11) hG (jx_in_o (by decide)) (by decide) eσ12 dX6_see_11 ?_
    refine jx_iconst (pc := 12) (v := (0 : Int32)) (by decide) dX6_see_12 ?_
    have h := Option.some.inj h
    subst h
    exact jx_iret (pc := 13) dX6_see_13
theorem dX6_tale_0 : decode cX6_tale 0 = .ok (.iload_n 1, 1) := by decide +kernel
theorem dX6_tale_1 : decode cX6_tale 1 = .ok (.iconst (-1), 1) := by decide +kernel
theorem dX6_tale_2 : decode cX6_tale 2 = .ok (.if_icmp .ne 12, 3) := by decide +kernel
theorem dX6_tale_5 : decode cX6_tale 5 = .ok (.aload_n 0, 1) := by decide +kernel
theorem dX6_tale_6 : decode cX6_tale 6 = .ok (.getfield 9, 3) := by decide +kernel
theorem dX6_tale_9 : decode cX6_tale 9 = .ok (.iconst 3, 1) := by decide +kernel
theorem dX6_tale_10 : decode cX6_tale 10 = .ok (.iconst 0, 1) := by decide +kernel
theorem dX6_tale_11 : decode cX6_tale 11 = .ok (.iastore, 1) := by decide +kernel
theorem dX6_tale_12 : decode cX6_tale 12 = .ok (.iconst 0, 1) := by decide +kernel
theorem dX6_tale_13 : decode cX6_tale 13 = .ok (.ireturn, 1) := by decide +kernel
theorem dX6_tale_14 : decode cX6_tale 14 = .ok (.aload_n 0, 1) := by decide +kernel
theorem dX6_tale_15 : decode cX6_tale 15 = .ok (.iload_n 1, 1) := by decide +kernel
theorem dX6_tale_16 : decode cX6_tale 16 = .ok (.invokevirtual 163, 3) := by decide +kernel
theorem dX6_tale_19 : decode cX6_tale 19 = .ok (.ifCond .eq 11, 3) := by decide +kernel
theorem dX6_tale_22 : decode cX6_tale 22 = .ok (.aload_n 0, 1) := by decide +kernel
theorem dX6_tale_23 : decode cX6_tale 23 = .ok (.iload_n 3, 1) := by decide +kernel
theorem dX6_tale_24 : decode cX6_tale 24 = .ok (.invokevirtual 145, 3) := by decide +kernel
theorem dX6_tale_27 : decode cX6_tale 27 = .ok (.ifCond .ne 5, 3) := by decide +kernel
theorem dX6_tale_30 : decode cX6_tale 30 = .ok (.iconst (-1), 1) := by decide +kernel
theorem dX6_tale_31 : decode cX6_tale 31 = .ok (.ireturn, 1) := by decide +kernel
theorem dX6_tale_32 : decode cX6_tale 32 = .ok (.iload_n 2, 1) := by decide +kernel
theorem dX6_tale_33 : decode cX6_tale 33 = .ok (.iconst 0, 1) := by decide +kernel
theorem dX6_tale_34 : decode cX6_tale 34 = .ok (.bipush 12, 2) := by decide +kernel
theorem dX6_tale_36 : decode cX6_tale 36 = .ok (.invokestatic 48, 3) := by decide +kernel
theorem dX6_tale_39 : decode cX6_tale 39 = .ok (.ifCond .ne 6, 3) := by decide +kernel
theorem dX6_tale_42 : decode cX6_tale 42 = .ok (.bipush (-2), 2) := by decide +kernel
theorem dX6_tale_44 : decode cX6_tale 44 = .ok (.ireturn, 1) := by decide +kernel
theorem dX6_tale_45 : decode cX6_tale 45 = .ok (.aload_n 0, 1) := by decide +kernel
theorem dX6_tale_46 : decode cX6_tale 46 = .ok (.getfield 9, 3) := by decide +kernel
theorem dX6_tale_49 : decode cX6_tale 49 = .ok (.iconst 3, 1) := by decide +kernel
theorem dX6_tale_50 : decode cX6_tale 50 = .ok (.iaload, 1) := by decide +kernel
theorem dX6_tale_51 : decode cX6_tale 51 = .ok (.bipush 8, 2) := by decide +kernel
theorem dX6_tale_53 : decode cX6_tale 53 = .ok (.if_icmp .ne 6, 3) := by decide +kernel
theorem dX6_tale_56 : decode cX6_tale 56 = .ok (.bipush (-4), 2) := by decide +kernel
theorem dX6_tale_58 : decode cX6_tale 58 = .ok (.ireturn, 1) := by decide +kernel
theorem dX6_tale_59 : decode cX6_tale 59 = .ok (.aload_n 0, 1) := by decide +kernel
theorem dX6_tale_60 : decode cX6_tale 60 = .ok (.getfield 9, 3) := by decide +kernel
theorem dX6_tale_63 : decode cX6_tale 63 = .ok (.bipush 91, 2) := by decide +kernel
theorem dX6_tale_65 : decode cX6_tale 65 = .ok (.aload_n 0, 1) := by decide +kernel
theorem dX6_tale_66 : decode cX6_tale 66 = .ok (.getfield 9, 3) := by decide +kernel
theorem dX6_tale_69 : decode cX6_tale 69 = .ok (.iconst 3, 1) := by decide +kernel
theorem dX6_tale_70 : decode cX6_tale 70 = .ok (.iaload, 1) := by decide +kernel
theorem dX6_tale_71 : decode cX6_tale 71 = .ok (.iadd, 1) := by decide +kernel
theorem dX6_tale_72 : decode cX6_tale 72 = .ok (.iload_n 1, 1) := by decide +kernel
theorem dX6_tale_73 : decode cX6_tale 73 = .ok (.iastore, 1) := by decide +kernel
theorem dX6_tale_74 : decode cX6_tale 74 = .ok (.aload_n 0, 1) := by decide +kernel
theorem dX6_tale_75 : decode cX6_tale 75 = .ok (.getfield 9, 3) := by decide +kernel
theorem dX6_tale_78 : decode cX6_tale 78 = .ok (.bipush 99, 2) := by decide +kernel
theorem dX6_tale_80 : decode cX6_tale 80 = .ok (.aload_n 0, 1) := by decide +kernel
theorem dX6_tale_81 : decode cX6_tale 81 = .ok (.getfield 9, 3) := by decide +kernel
theorem dX6_tale_84 : decode cX6_tale 84 = .ok (.iconst 3, 1) := by decide +kernel
theorem dX6_tale_85 : decode cX6_tale 85 = .ok (.iaload, 1) := by decide +kernel
theorem dX6_tale_86 : decode cX6_tale 86 = .ok (.iadd, 1) := by decide +kernel
theorem dX6_tale_87 : decode cX6_tale 87 = .ok (.iload_n 2, 1) := by decide +kernel
theorem dX6_tale_88 : decode cX6_tale 88 = .ok (.iastore, 1) := by decide +kernel
theorem dX6_tale_89 : decode cX6_tale 89 = .ok (.aload_n 0, 1) := by decide +kernel
theorem dX6_tale_90 : decode cX6_tale 90 = .ok (.getfield 9, 3) := by decide +kernel
theorem dX6_tale_93 : decode cX6_tale 93 = .ok (.bipush 107, 2) := by decide +kernel
theorem dX6_tale_95 : decode cX6_tale 95 = .ok (.aload_n 0, 1) := by decide +kernel
theorem dX6_tale_96 : decode cX6_tale 96 = .ok (.getfield 9, 3) := by decide +kernel
theorem dX6_tale_99 : decode cX6_tale 99 = .ok (.iconst 3, 1) := by decide +kernel
theorem dX6_tale_100 : decode cX6_tale 100 = .ok (.iaload, 1) := by decide +kernel
theorem dX6_tale_101 : decode cX6_tale 101 = .ok (.iadd, 1) := by decide +kernel
theorem dX6_tale_102 : decode cX6_tale 102 = .ok (.iload_n 3, 1) := by decide +kernel
theorem dX6_tale_103 : decode cX6_tale 103 = .ok (.iastore, 1) := by decide +kernel
theorem dX6_tale_104 : decode cX6_tale 104 = .ok (.aload_n 0, 1) := by decide +kernel
theorem dX6_tale_105 : decode cX6_tale 105 = .ok (.getfield 9, 3) := by decide +kernel
theorem dX6_tale_108 : decode cX6_tale 108 = .ok (.iconst 3, 1) := by decide +kernel
theorem dX6_tale_109 : decode cX6_tale 109 = .ok (.dup2, 1) := by decide +kernel
theorem dX6_tale_110 : decode cX6_tale 110 = .ok (.iaload, 1) := by decide +kernel
theorem dX6_tale_111 : decode cX6_tale 111 = .ok (.iconst 1, 1) := by decide +kernel
theorem dX6_tale_112 : decode cX6_tale 112 = .ok (.iadd, 1) := by decide +kernel
theorem dX6_tale_113 : decode cX6_tale 113 = .ok (.iastore, 1) := by decide +kernel
theorem dX6_tale_114 : decode cX6_tale 114 = .ok (.aload_n 0, 1) := by decide +kernel
theorem dX6_tale_115 : decode cX6_tale 115 = .ok (.getfield 9, 3) := by decide +kernel
theorem dX6_tale_118 : decode cX6_tale 118 = .ok (.iconst 3, 1) := by decide +kernel
theorem dX6_tale_119 : decode cX6_tale 119 = .ok (.iaload, 1) := by decide +kernel
theorem dX6_tale_120 : decode cX6_tale 120 = .ok (.ireturn, 1) := by decide +kernel
abbrev rm_X6_tale : Room := { frames := 2, cells := 0, slots := 0, locals := 43 }
abbrev jJ_X6_tale (l : Launch) (G : jx_G) (sz : Nat) (out : (Int32 × jx_M)) (pc : Nat) (lv : List (Nat × Value)) (st : List Value) (σ : jx_M) : Prop := jx_J l (mm_env G) (mm_dyn G) (mm_rg G) sz RX6 "tale" cX6_tale 4 (some .int) rm_X6_tale (fun below args s => MQ below (jx_Qi (mm_dyn G) out.2 out.1 (jx_A (mm_rg G) sz)) args s 0 0 (jx_A (mm_rg G) sz)) 0 0 pc lv st σ
def f_X6_tale (σ : jx_M) (a1 : Int32) (a2 : Int32) (a3 : Int32) : Option (Int32 × jx_M) :=
  if a1 = (-1 : Int32) then jx_lt (jx_mu σ 1 3 (0 : Int32)) (fun σ16 => some ((0 : Int32), σ16)) else jx_bd (f_X6_isVoter σ a1) (fun q2 => if q2 = 0 then some ((-1 : Int32), σ) else jx_bd (f_X6_isPlace σ a3) (fun q4 => if q4 = 0 then some ((-1 : Int32), σ) else jx_bd (f_X6_in a2 (0 : Int32) (12 : Int32)) (fun q6 => if q6 = 0 then some ((-2 : Int32), σ) else if (σ 1 3) = (8 : Int32) then some ((-4 : Int32), σ) else jx_gd (jx_in ((91 : Int32) + (σ 1 3)) 920) (jx_lt (jx_mu σ 1 ((91 : Int32) + (σ 1 3)).toNatClampNeg a1) (fun σ10 => jx_gd (jx_in ((99 : Int32) + (σ10 1 3)) 920) (jx_lt (jx_mu σ10 1 ((99 : Int32) + (σ10 1 3)).toNatClampNeg a2) (fun σ12 => jx_gd (jx_in ((107 : Int32) + (σ12 1 3)) 920) (jx_lt (jx_mu σ12 1 ((107 : Int32) + (σ12 1 3)).toNatClampNeg a3) (fun σ14 => jx_lt (jx_mu σ14 1 3 ((σ14 1 3) + (1 : Int32))) (fun σ15 => some ((σ15 1 3), σ15)))))))))))
set_option maxHeartbeats 4000000 in
set_option maxRecDepth 100000 in
theorem k_X6_tale (l : Launch) (G : jx_G) (hG : mm_ok G) (sz : Nat) (σ : jx_M) (a1 : Int32) (a2 : Int32) (a3 : Int32) (out : (Int32 × jx_M)) (h : f_X6_tale σ a1 a2 a3 = some out) : Met l yX6_tale (Cond.code yX6_tale cX6_tale 4 (some .int) :: jx_ws) rm_X6_tale (jx_Pc (mm_env G) (mm_dyn G) (mm_rg G) sz σ [.ref (G.2 10), .int a1, .int a2, .int a3]) (jx_Qi (mm_dyn G) out.2 out.1 (jx_A (mm_rg G) sz)) 0 0 (jx_A (mm_rg G) sz) := by
  unfold f_X6_tale at h
  refine jx_met (by decide) (Nat.le_of_ble_eq_true rfl) ?_
  refine jx_sub (lv' := [(0, .ref (G.2 10)), (1, .int a1), (2, .int a2), (3, .int a3)]) [0, 1, 2, 3] rfl ?_
  refine jx_iload_n (pc := 0) (k0 := 1) rfl dX6_tale_0 ?_
  refine jx_iconst (pc := 1) (v := (-1 : Int32)) (by decide) dX6_tale_1 ?_
  refine jx_icmp_ne (pc := 2) (tgt := 14) dX6_tale_2 (by decide) (fun c1 => ?_) (fun c1 => ?_)
  · have h := jx_f c1 h
    refine jx_aload_n (pc := 14) (k0 := 0) rfl dX6_tale_14 ?_
    refine jx_iload_n (pc := 15) (k0 := 1) rfl dX6_tale_15 ?_
    obtain ⟨q2, eq2, h⟩ := jx_bd_o h
    refine jx_callVi (pc := 16) [.int a1] (fun sz' => k_X6_isVoter l G hG sz' σ a1 q2 eq2) kv_X6_163 mm_jok mm_rc rfl rfl (Nat.le_of_ble_eq_true rfl) ⟨⟨rfl, rfl⟩, ⟨Nat.le_of_ble_eq_true rfl, Nat.le_of_ble_eq_true rfl⟩, Nat.zero_le _, Nat.zero_le _⟩ dX6_tale_16 ?_
    refine jx_if_eq (pc := 19) (tgt := 30) dX6_tale_19 (by decide) (fun c3 => ?_) (fun c3 => ?_)
    · have h := jx_t c3 h
      refine jx_iconst (pc := 30) (v := (-1 : Int32)) (by decide) dX6_tale_30 ?_
      have h := Option.some.inj h
      subst h
      exact jx_iret (pc := 31) dX6_tale_31
    · have h := jx_f c3 h
      refine jx_aload_n (pc := 22) (k0 := 0) rfl dX6_tale_22 ?_
      refine jx_iload_n (pc := 23) (k0 := 3) rfl dX6_tale_23 ?_
      obtain ⟨q4, eq4, h⟩ := jx_bd_o h
      refine jx_callVi (pc := 24) [.int a3] (fun sz' => k_X6_isPlace l G hG sz' σ a3 q4 eq4) kv_X6_145 mm_jok mm_rc rfl rfl (Nat.le_of_ble_eq_true rfl) ⟨⟨rfl, rfl⟩, ⟨Nat.le_of_ble_eq_true rfl, Nat.le_of_ble_eq_true rfl⟩, Nat.zero_le _, Nat.zero_le _⟩ dX6_tale_24 ?_
      refine jx_if_ne (pc := 27) (tgt := 32) dX6_tale_27 (by decide) (fun c5 => ?_) (fun c5 => ?_)
      · have h := jx_f c5 h
        refine jx_iload_n (pc := 32) (k0 := 2) rfl dX6_tale_32 ?_
        refine jx_iconst (pc := 33) (v := (0 : Int32)) (by decide) dX6_tale_33 ?_
        refine jx_bipush (pc := 34) (v := (12 : Int32)) (by decide) dX6_tale_34 ?_
        obtain ⟨q6, eq6, h⟩ := jx_bd_o h
        refine jx_callSi (pc := 36) [.int a2, .int (0 : Int32), .int (12 : Int32)] (fun sz' => k_X6_in l G hG sz' σ a2 (0 : Int32) (12 : Int32) q6 eq6) ks_X6_48 mm_jok rfl rfl (Nat.le_of_ble_eq_true rfl) ⟨⟨rfl, rfl⟩, ⟨Nat.le_of_ble_eq_true rfl, Nat.le_of_ble_eq_true rfl⟩, Nat.zero_le _, Nat.zero_le _⟩ dX6_tale_36 ?_
        refine jx_if_ne (pc := 39) (tgt := 45) dX6_tale_39 (by decide) (fun c7 => ?_) (fun c7 => ?_)
        · have h := jx_f c7 h
          refine jx_aload_n (pc := 45) (k0 := 0) rfl dX6_tale_45 ?_
          refine mm_g_s (pc := 46) fl_X6_9 dX6_tale_46 ?_
          refine jx_iconst (pc := 49) (v := (3 : Int32)) (by decide) dX6_tale_49 ?_
          refine mm_l_s (pc := 50) (j := 3) (jx_in_o (by decide)) (by decide) dX6_tale_50 ?_
          refine jx_bipush (pc := 51) (v := (8 : Int32)) (by decide) dX6_tale_51 ?_
          refine jx_icmp_ne (pc := 53) (tgt := 59) dX6_tale_53 (by decide) (fun c8 => ?_) (fun c8 => ?_)
          · have h := jx_f c8 h
            refine jx_aload_n (pc := 59) (k0 := 0) rfl dX6_tale_59 ?_
            refine mm_g_s (pc := 60) fl_X6_9 dX6_tale_60 ?_
            refine jx_bipush (pc := 63) (v := (91 : Int32)) (by decide) dX6_tale_63 ?_
            refine jx_aload_n (pc := 65) (k0 := 0) rfl dX6_tale_65 ?_
            refine mm_g_s (pc := 66) fl_X6_9 dX6_tale_66 ?_
            refine jx_iconst (pc := 69) (v := (3 : Int32)) (by decide) dX6_tale_69 ?_
            refine mm_l_s (pc := 70) (j := 3) (jx_in_o (by decide)) (by decide) dX6_tale_70 ?_
            refine jx_iadd (pc := 71) dX6_tale_71 ?_
            refine jx_iload_n (pc := 72) (k0 := 1) rfl dX6_tale_72 ?_
            obtain ⟨g9, h⟩ := jx_gd_o h
            obtain ⟨σ10, eσ10, h⟩ := jx_lt_o h
            refine mm_s_s (pc := 73) hG (jx_in_o g9) rfl eσ10 dX6_tale_73 ?_
            refine jx_aload_n (pc := 74) (k0 := 0) rfl dX6_tale_74 ?_
            refine mm_g_s (pc := 75) fl_X6_9 dX6_tale_75 ?_
            refine jx_bipush (pc := 78) (v := (99 : Int32)) (by decide) dX6_tale_78 ?_
            refine jx_aload_n (pc := 80) (k0 := 0) rfl dX6_tale_80 ?_
            refine mm_g_s (pc := 81) fl_X6_9 dX6_tale_81 ?_
            refine jx_iconst (pc := 84) (v := (3 : Int32)) (by decide) dX6_tale_84 ?_
            refine mm_l_s (pc := 85) (j := 3) (jx_in_o (by decide)) (by decide) dX6_tale_85 ?_
            refine jx_iadd (pc := 86) dX6_tale_86 ?_
            refine jx_iload_n (pc := 87) (k0 := 2) rfl dX6_tale_87 ?_
            obtain ⟨g11, h⟩ := jx_gd_o h
            obtain ⟨σ12, eσ12, h⟩ := jx_lt_o h
            refine mm_s_s (pc := 88) hG (jx_in_o g11) rfl eσ12 dX6_tale_88 ?_
            refine jx_aload_n (pc := 89) (k0 := 0) rfl dX6_tale_89 ?_
            refine mm_g_s (pc := 90) fl_X6_9 dX6_tale_90 ?_
            refine jx_bipush (pc := 93) (v := (107 : Int32)) (by decide) dX6_tale_93 ?_
            refine jx_aload_n (pc := 95) (k0 := 0) rfl dX6_tale_95 ?_
            refine mm_g_s (pc := 96) fl_X6_9 dX6_tale_96 ?_
            refine jx_iconst (pc := 99) (v := (3 : Int32)) (by decide) dX6_tale_99 ?_
            refine mm_l_s (pc := 100) (j := 3) (jx_in_o (by decide)) (by decide) dX6_tale_100 ?_
            refine jx_iadd (pc := 101) dX6_tale_101 ?_
            refine jx_iload_n (pc := 102) (k0 := 3) rfl dX6_tale_102 ?_
            obtain ⟨g13, h⟩ := jx_gd_o h
            obtain ⟨σ14, eσ14, h⟩ := jx_lt_o h
            refine mm_s_s (pc := 103) hG (jx_in_o g13) rfl eσ14 dX6_tale_103 ?_
            refine jx_aload_n (pc := 104) (k0 := 0) rfl dX6_tale_104 ?_
            refine mm_g_s (pc := 105) fl_X6_9 dX6_tale_105 ?_
            refine jx_iconst (pc := 108) (v := (3 : Int32)) (by decide) dX6_tale_108 ?_
            refine jx_dup2 (pc := 109) rfl rfl dX6_tale_109 ?_
            refine mm_l_s (pc := 110) (j := 3) (jx_in_o (by decide)) (by decide) dX6_tale_110 ?_
            refine jx_iconst (pc := 111) (v := (1 : Int32)) (by decide) dX6_tale_111 ?_
            refine jx_iadd (pc := 112) dX6_tale_112 ?_
            obtain ⟨σ15, eσ15, h⟩ := jx_lt_o h
            refine mm_s_s (pc := 113) hG (jx_in_o (by decide)) (by decide) eσ15 dX6_tale_113 ?_
            refine jx_aload_n (pc := 114) (k0 := 0) rfl dX6_tale_114 ?_
            refine mm_g_s (pc := 115) fl_X6_9 dX6_tale_115 ?_
            refine jx_iconst (pc := 118) (v := (3 : Int32)) (by decide) dX6_tale_118 ?_
            refine mm_l_s (pc := 119) (j := 3) (jx_in_o (by decide)) (by decide) dX6_tale_119 ?_
            have h := Option.some.inj h
            subst h
            exact jx_iret (pc := 120) dX6_tale_120
          · have h := jx_t c8 h
            refine jx_bipush (pc := 56) (v := (-4 : Int32)) (by decide) dX6_tale_56 ?_
            have h := Option.some.inj h
            subst h
            exact jx_iret (pc := 58) dX6_tale_58
        · have h := jx_t c7 h
          refine jx_bipush (pc := 42) (v := (-2 : Int32)) (by decide) dX6_tale_42 ?_
          have h := Option.some.inj h
          subst h
          exact jx_iret (pc := 44) dX6_tale_44
      · have h := jx_t c5 h
        refine jx_iconst (pc := 30) (v := (-1 : Int32)) (by decide) dX6_tale_30 ?_
        have h := Option.some.inj h
        subst h
        exact jx_iret (pc := 31) dX6_tale_31
  · have h := jx_t c1 h
    refine jx_aload_n (pc := 5) (k0 := 0) rfl dX6_tale_5 ?_
    refine mm_g_s (pc := 6) fl_X6_9 dX6_tale_6 ?_
    refine jx_iconst (pc := 9) (v := (3 : Int32)) (by decide) dX6_tale_9 ?_
    refine jx_iconst (pc := 10) (v := (0 : Int32)) (by decide) dX6_tale_10 ?_
    obtain ⟨σ16, eσ16, h⟩ := jx_lt_o h
    refine mm_s_s (pc := 11) hG (jx_in_o (by decide)) (by decide) eσ16 dX6_tale_11 ?_
    refine jx_iconst (pc := 12) (v := (0 : Int32)) (by decide) dX6_tale_12 ?_
    have h := Option.some.inj h
    subst h
    exact jx_iret (pc := 13) dX6_tale_13
theorem dX6_setsActs_0 : decode cX6_setsActs 0 = .ok (.aload_n 0, 1) := by decide +kernel
theorem dX6_setsActs_1 : decode cX6_setsActs 1 = .ok (.getfield 236, 3) := by decide +kernel
theorem dX6_setsActs_4 : decode cX6_setsActs 4 = .ok (.iconst 1, 1) := by decide +kernel
theorem dX6_setsActs_5 : decode cX6_setsActs 5 = .ok (.invokestatic 239, 3) := by decide +kernel
theorem dX6_setsActs_8 : decode cX6_setsActs 8 = .ok (.ifCond .eq 17, 3) := by decide +kernel
theorem dX6_setsActs_11 : decode cX6_setsActs 11 = .ok (.aload_n 0, 1) := by decide +kernel
theorem dX6_setsActs_12 : decode cX6_setsActs 12 = .ok (.bipush 11, 2) := by decide +kernel
theorem dX6_setsActs_14 : decode cX6_setsActs 14 = .ok (.invokevirtual 230, 3) := by decide +kernel
theorem dX6_setsActs_17 : decode cX6_setsActs 17 = .ok (.aload_n 0, 1) := by decide +kernel
theorem dX6_setsActs_18 : decode cX6_setsActs 18 = .ok (.iload_n 1, 1) := by decide +kernel
theorem dX6_setsActs_19 : decode cX6_setsActs 19 = .ok (.iconst 3, 1) := by decide +kernel
theorem dX6_setsActs_20 : decode cX6_setsActs 20 = .ok (.imul, 1) := by decide +kernel
theorem dX6_setsActs_21 : decode cX6_setsActs 21 = .ok (.invokevirtual 243, 3) := by decide +kernel
theorem dX6_setsActs_24 : decode cX6_setsActs 24 = .ok (.ireturn, 1) := by decide +kernel
theorem dX6_setsActs_25 : decode cX6_setsActs 25 = .ok (.aload_n 0, 1) := by decide +kernel
theorem dX6_setsActs_26 : decode cX6_setsActs 26 = .ok (.getfield 236, 3) := by decide +kernel
theorem dX6_setsActs_29 : decode cX6_setsActs 29 = .ok (.iconst 5, 1) := by decide +kernel
theorem dX6_setsActs_30 : decode cX6_setsActs 30 = .ok (.if_icmp .ne 20, 3) := by decide +kernel
theorem dX6_setsActs_33 : decode cX6_setsActs 33 = .ok (.aload_n 0, 1) := by decide +kernel
theorem dX6_setsActs_34 : decode cX6_setsActs 34 = .ok (.bipush 51, 2) := by decide +kernel
theorem dX6_setsActs_36 : decode cX6_setsActs 36 = .ok (.invokevirtual 230, 3) := by decide +kernel
theorem dX6_setsActs_39 : decode cX6_setsActs 39 = .ok (.aload_n 0, 1) := by decide +kernel
theorem dX6_setsActs_40 : decode cX6_setsActs 40 = .ok (.iload_n 1, 1) := by decide +kernel
theorem dX6_setsActs_41 : decode cX6_setsActs 41 = .ok (.invokevirtual 243, 3) := by decide +kernel
theorem dX6_setsActs_44 : decode cX6_setsActs 44 = .ok (.aload_n 0, 1) := by decide +kernel
theorem dX6_setsActs_45 : decode cX6_setsActs 45 = .ok (.getfield 233, 3) := by decide +kernel
theorem dX6_setsActs_48 : decode cX6_setsActs 48 = .ok (.ixor, 1) := by decide +kernel
theorem dX6_setsActs_49 : decode cX6_setsActs 49 = .ok (.ireturn, 1) := by decide +kernel
theorem dX6_setsActs_50 : decode cX6_setsActs 50 = .ok (.aload_n 0, 1) := by decide +kernel
theorem dX6_setsActs_51 : decode cX6_setsActs 51 = .ok (.iload_n 1, 1) := by decide +kernel
theorem dX6_setsActs_52 : decode cX6_setsActs 52 = .ok (.invokevirtual 243, 3) := by decide +kernel
theorem dX6_setsActs_55 : decode cX6_setsActs 55 = .ok (.ireturn, 1) := by decide +kernel
abbrev rm_X6_setsActs : Room := { frames := 2, cells := 0, slots := 0, locals := 42 }
abbrev jJ_X6_setsActs (l : Launch) (G : jx_G) (sz : Nat) (out : (Int32 × jx_M)) (pc : Nat) (lv : List (Nat × Value)) (st : List Value) (σ : jx_M) : Prop := jx_J l (mm_env G) (mm_dyn G) (mm_rg G) sz RX6 "setsActs" cX6_setsActs 2 (some .int) rm_X6_setsActs (fun below args s => MQ below (jx_Qi (mm_dyn G) out.2 out.1 (jx_A (mm_rg G) sz)) args s 0 0 (jx_A (mm_rg G) sz)) 0 0 pc lv st σ
def f_X6_setsActs (σ : jx_M) (a1 : Int32) : Option (Int32 × jx_M) :=
  jx_bd (f_X6_isUnder (σ 0 23) (1 : Int32)) (fun q1 => if q1 = 0 then if (σ 0 23) = (5 : Int32) then jx_bd (f_X6_ranBody σ (51 : Int32)) (fun q5 => jx_bd (f_X6_plainSets q5 a1) (fun q6 => some ((q6.1 ^^^ (q6.2 0 24)), q6.2))) else jx_bd (f_X6_plainSets σ a1) (fun q4 => some (q4.1, q4.2)) else jx_bd (f_X6_ranBody σ (11 : Int32)) (fun q7 => jx_bd (f_X6_plainSets q7 (a1 * (3 : Int32))) (fun q8 => some (q8.1, q8.2))))
set_option maxHeartbeats 4000000 in
set_option maxRecDepth 100000 in
theorem k_X6_setsActs (l : Launch) (G : jx_G) (hG : mm_ok G) (sz : Nat) (σ : jx_M) (a1 : Int32) (out : (Int32 × jx_M)) (h : f_X6_setsActs σ a1 = some out) : Met l yX6_setsActs (Cond.code yX6_setsActs cX6_setsActs 2 (some .int) :: jx_ws) rm_X6_setsActs (jx_Pc (mm_env G) (mm_dyn G) (mm_rg G) sz σ [.ref (G.2 10), .int a1]) (jx_Qi (mm_dyn G) out.2 out.1 (jx_A (mm_rg G) sz)) 0 0 (jx_A (mm_rg G) sz) := by
  unfold f_X6_setsActs at h
  refine jx_met (by decide) (Nat.le_of_ble_eq_true rfl) ?_
  refine jx_sub (lv' := [(0, .ref (G.2 10)), (1, .int a1)]) [0, 1] rfl ?_
  refine jx_aload_n (pc := 0) (k0 := 0) rfl dX6_setsActs_0 ?_
  refine mm_g_kind (pc := 1) fl_X6_236 dX6_setsActs_1 ?_
  refine jx_iconst (pc := 4) (v := (1 : Int32)) (by decide) dX6_setsActs_4 ?_
  obtain ⟨q1, eq1, h⟩ := jx_bd_o h
  refine jx_callSi (pc := 5) [.int (σ 0 23), .int (1 : Int32)] (fun sz' => k_X6_isUnder l G hG sz' σ (σ 0 23) (1 : Int32) q1 eq1) ks_X6_239 mm_jok rfl rfl (Nat.le_of_ble_eq_true rfl) ⟨⟨rfl, rfl⟩, ⟨Nat.le_of_ble_eq_true rfl, Nat.le_of_ble_eq_true rfl⟩, Nat.zero_le _, Nat.zero_le _⟩ dX6_setsActs_5 ?_
  refine jx_if_eq (pc := 8) (tgt := 25) dX6_setsActs_8 (by decide) (fun c2 => ?_) (fun c2 => ?_)
  · have h := jx_t c2 h
    refine jx_aload_n (pc := 25) (k0 := 0) rfl dX6_setsActs_25 ?_
    refine mm_g_kind (pc := 26) fl_X6_236 dX6_setsActs_26 ?_
    refine jx_iconst (pc := 29) (v := (5 : Int32)) (by decide) dX6_setsActs_29 ?_
    refine jx_icmp_ne (pc := 30) (tgt := 50) dX6_setsActs_30 (by decide) (fun c3 => ?_) (fun c3 => ?_)
    · have h := jx_f c3 h
      refine jx_aload_n (pc := 50) (k0 := 0) rfl dX6_setsActs_50 ?_
      refine jx_iload_n (pc := 51) (k0 := 1) rfl dX6_setsActs_51 ?_
      obtain ⟨q4, eq4, h⟩ := jx_bd_o h
      refine jx_callVi (pc := 52) [.int a1] (fun sz' => k_X6_plainSets l G hG sz' σ a1 q4 eq4) kv_X6_243 mm_jok mm_rc rfl rfl (Nat.le_of_ble_eq_true rfl) ⟨⟨rfl, rfl⟩, ⟨Nat.le_of_ble_eq_true rfl, Nat.le_of_ble_eq_true rfl⟩, Nat.zero_le _, Nat.zero_le _⟩ dX6_setsActs_52 ?_
      have h := Option.some.inj h
      subst h
      exact jx_iret (pc := 55) dX6_setsActs_55
    · have h := jx_t c3 h
      refine jx_aload_n (pc := 33) (k0 := 0) rfl dX6_setsActs_33 ?_
      refine jx_bipush (pc := 34) (v := (51 : Int32)) (by decide) dX6_setsActs_34 ?_
      obtain ⟨q5, eq5, h⟩ := jx_bd_o h
      refine jx_callVv (pc := 36) [.int (51 : Int32)] (fun sz' => k_X6_ranBody l G hG sz' σ (51 : Int32) q5 eq5) kv_X6_230 mm_jok mm_rc rfl rfl (Nat.le_of_ble_eq_true rfl) ⟨⟨rfl, rfl⟩, ⟨Nat.le_of_ble_eq_true rfl, Nat.le_of_ble_eq_true rfl⟩, Nat.zero_le _, Nat.zero_le _⟩ dX6_setsActs_36 ?_
      refine jx_aload_n (pc := 39) (k0 := 0) rfl dX6_setsActs_39 ?_
      refine jx_iload_n (pc := 40) (k0 := 1) rfl dX6_setsActs_40 ?_
      obtain ⟨q6, eq6, h⟩ := jx_bd_o h
      refine jx_callVi (pc := 41) [.int a1] (fun sz' => k_X6_plainSets l G hG sz' q5 a1 q6 eq6) kv_X6_243 mm_jok mm_rc rfl rfl (Nat.le_of_ble_eq_true rfl) ⟨⟨rfl, rfl⟩, ⟨Nat.le_of_ble_eq_true rfl, Nat.le_of_ble_eq_true rfl⟩, Nat.zero_le _, Nat.zero_le _⟩ dX6_setsActs_41 ?_
      refine jx_aload_n (pc := 44) (k0 := 0) rfl dX6_setsActs_44 ?_
      refine mm_g_number (pc := 45) fl_X6_233 dX6_setsActs_45 ?_
      refine jx_ixor (pc := 48) dX6_setsActs_48 ?_
      have h := Option.some.inj h
      subst h
      exact jx_iret (pc := 49) dX6_setsActs_49
  · have h := jx_f c2 h
    refine jx_aload_n (pc := 11) (k0 := 0) rfl dX6_setsActs_11 ?_
    refine jx_bipush (pc := 12) (v := (11 : Int32)) (by decide) dX6_setsActs_12 ?_
    obtain ⟨q7, eq7, h⟩ := jx_bd_o h
    refine jx_callVv (pc := 14) [.int (11 : Int32)] (fun sz' => k_X6_ranBody l G hG sz' σ (11 : Int32) q7 eq7) kv_X6_230 mm_jok mm_rc rfl rfl (Nat.le_of_ble_eq_true rfl) ⟨⟨rfl, rfl⟩, ⟨Nat.le_of_ble_eq_true rfl, Nat.le_of_ble_eq_true rfl⟩, Nat.zero_le _, Nat.zero_le _⟩ dX6_setsActs_14 ?_
    refine jx_aload_n (pc := 17) (k0 := 0) rfl dX6_setsActs_17 ?_
    refine jx_iload_n (pc := 18) (k0 := 1) rfl dX6_setsActs_18 ?_
    refine jx_iconst (pc := 19) (v := (3 : Int32)) (by decide) dX6_setsActs_19 ?_
    refine jx_imul (pc := 20) dX6_setsActs_20 ?_
    obtain ⟨q8, eq8, h⟩ := jx_bd_o h
    refine jx_callVi (pc := 21) [.int (a1 * (3 : Int32))] (fun sz' => k_X6_plainSets l G hG sz' q7 (a1 * (3 : Int32)) q8 eq8) kv_X6_243 mm_jok mm_rc rfl rfl (Nat.le_of_ble_eq_true rfl) ⟨⟨rfl, rfl⟩, ⟨Nat.le_of_ble_eq_true rfl, Nat.le_of_ble_eq_true rfl⟩, Nat.zero_le _, Nat.zero_le _⟩ dX6_setsActs_21 ?_
    have h := Option.some.inj h
    subst h
    exact jx_iret (pc := 24) dX6_setsActs_24
theorem dX6_as_0 : decode cX6_as 0 = .ok (.aload_n 0, 1) := by decide +kernel
theorem dX6_as_1 : decode cX6_as 1 = .ok (.iload_n 1, 1) := by decide +kernel
theorem dX6_as_2 : decode cX6_as 2 = .ok (.invokevirtual 163, 3) := by decide +kernel
theorem dX6_as_5 : decode cX6_as 5 = .ok (.ifCond .eq 13, 3) := by decide +kernel
theorem dX6_as_8 : decode cX6_as 8 = .ok (.iload_n 2, 1) := by decide +kernel
theorem dX6_as_9 : decode cX6_as 9 = .ok (.iconst 0, 1) := by decide +kernel
theorem dX6_as_10 : decode cX6_as 10 = .ok (.bipush 6, 2) := by decide +kernel
theorem dX6_as_12 : decode cX6_as 12 = .ok (.invokestatic 48, 3) := by decide +kernel
theorem dX6_as_15 : decode cX6_as 15 = .ok (.ifCond .ne 5, 3) := by decide +kernel
theorem dX6_as_18 : decode cX6_as 18 = .ok (.iconst (-1), 1) := by decide +kernel
theorem dX6_as_19 : decode cX6_as 19 = .ok (.ireturn, 1) := by decide +kernel
theorem dX6_as_20 : decode cX6_as 20 = .ok (.aload_n 0, 1) := by decide +kernel
theorem dX6_as_21 : decode cX6_as 21 = .ok (.getfield 9, 3) := by decide +kernel
theorem dX6_as_24 : decode cX6_as 24 = .ok (.bipush 31, 2) := by decide +kernel
theorem dX6_as_26 : decode cX6_as 26 = .ok (.iload_n 1, 1) := by decide +kernel
theorem dX6_as_27 : decode cX6_as 27 = .ok (.iadd, 1) := by decide +kernel
theorem dX6_as_28 : decode cX6_as 28 = .ok (.iaload, 1) := by decide +kernel
theorem dX6_as_29 : decode cX6_as 29 = .ok (.iload_n 2, 1) := by decide +kernel
theorem dX6_as_30 : decode cX6_as 30 = .ok (.invokestatic 239, 3) := by decide +kernel
theorem dX6_as_33 : decode cX6_as 33 = .ok (.ifCond .eq 15, 3) := by decide +kernel
theorem dX6_as_36 : decode cX6_as 36 = .ok (.aload_n 0, 1) := by decide +kernel
theorem dX6_as_37 : decode cX6_as 37 = .ok (.getfield 9, 3) := by decide +kernel
theorem dX6_as_40 : decode cX6_as 40 = .ok (.bipush 37, 2) := by decide +kernel
theorem dX6_as_42 : decode cX6_as 42 = .ok (.iload_n 1, 1) := by decide +kernel
theorem dX6_as_43 : decode cX6_as 43 = .ok (.iadd, 1) := by decide +kernel
theorem dX6_as_44 : decode cX6_as 44 = .ok (.iaload, 1) := by decide +kernel
theorem dX6_as_45 : decode cX6_as 45 = .ok (.goto 5, 3) := by decide +kernel
theorem dX6_as_48 : decode cX6_as 48 = .ok (.bipush (-6), 2) := by decide +kernel
theorem dX6_as_50 : decode cX6_as 50 = .ok (.ireturn, 1) := by decide +kernel
abbrev rm_X6_as : Room := { frames := 2, cells := 0, slots := 0, locals := 43 }
abbrev jJ_X6_as (l : Launch) (G : jx_G) (sz : Nat) (σ0 : jx_M) (out : Int32) (pc : Nat) (lv : List (Nat × Value)) (st : List Value) (σ : jx_M) : Prop := jx_J l (mm_env G) (mm_dyn G) (mm_rg G) sz RX6 "as" cX6_as 3 (some .int) rm_X6_as (fun below args s => MQ below (jx_Qi (mm_dyn G) σ0 out (jx_A (mm_rg G) sz)) args s 0 0 (jx_A (mm_rg G) sz)) 0 0 pc lv st σ
def f_X6_as (σ : jx_M) (a1 : Int32) (a2 : Int32) : Option Int32 :=
  jx_bd (f_X6_isVoter σ a1) (fun q1 => if q1 = 0 then some (-1 : Int32) else jx_bd (f_X6_in a2 (0 : Int32) (6 : Int32)) (fun q3 => if q3 = 0 then some (-1 : Int32) else jx_gd (jx_in ((31 : Int32) + a1) 920) (jx_bd (f_X6_isUnder (σ 1 ((31 : Int32) + a1).toNatClampNeg) a2) (fun q6 => if q6 = 0 then some (-6 : Int32) else jx_gd (jx_in ((37 : Int32) + a1) 920) (some (σ 1 ((37 : Int32) + a1).toNatClampNeg))))))
set_option maxHeartbeats 4000000 in
set_option maxRecDepth 100000 in
theorem k_X6_as (l : Launch) (G : jx_G) (hG : mm_ok G) (sz : Nat) (σ : jx_M) (a1 : Int32) (a2 : Int32) (out : Int32) (h : f_X6_as σ a1 a2 = some out) : Met l yX6_as (Cond.code yX6_as cX6_as 3 (some .int) :: jx_ws) rm_X6_as (jx_Pc (mm_env G) (mm_dyn G) (mm_rg G) sz σ [.ref (G.2 10), .int a1, .int a2]) (jx_Qi (mm_dyn G) σ out (jx_A (mm_rg G) sz)) 0 0 (jx_A (mm_rg G) sz) := by
  unfold f_X6_as at h
  refine jx_met (by decide) (Nat.le_of_ble_eq_true rfl) ?_
  refine jx_sub (lv' := [(0, .ref (G.2 10)), (1, .int a1), (2, .int a2)]) [0, 1, 2] rfl ?_
  refine jx_aload_n (pc := 0) (k0 := 0) rfl dX6_as_0 ?_
  refine jx_iload_n (pc := 1) (k0 := 1) rfl dX6_as_1 ?_
  obtain ⟨q1, eq1, h⟩ := jx_bd_o h
  refine jx_callVi (pc := 2) [.int a1] (fun sz' => k_X6_isVoter l G hG sz' σ a1 q1 eq1) kv_X6_163 mm_jok mm_rc rfl rfl (Nat.le_of_ble_eq_true rfl) ⟨⟨rfl, rfl⟩, ⟨Nat.le_of_ble_eq_true rfl, Nat.le_of_ble_eq_true rfl⟩, Nat.zero_le _, Nat.zero_le _⟩ dX6_as_2 ?_
  refine jx_if_eq (pc := 5) (tgt := 18) dX6_as_5 (by decide) (fun c2 => ?_) (fun c2 => ?_)
  · have h := jx_t c2 h
    refine jx_iconst (pc := 18) (v := (-1 : Int32)) (by decide) dX6_as_18 ?_
    have h := Option.some.inj h
    subst h
    exact jx_iret (pc := 19) dX6_as_19
  · have h := jx_f c2 h
    refine jx_iload_n (pc := 8) (k0 := 2) rfl dX6_as_8 ?_
    refine jx_iconst (pc := 9) (v := (0 : Int32)) (by decide) dX6_as_9 ?_
    refine jx_bipush (pc := 10) (v := (6 : Int32)) (by decide) dX6_as_10 ?_
    obtain ⟨q3, eq3, h⟩ := jx_bd_o h
    refine jx_callSi (pc := 12) [.int a2, .int (0 : Int32), .int (6 : Int32)] (fun sz' => k_X6_in l G hG sz' σ a2 (0 : Int32) (6 : Int32) q3 eq3) ks_X6_48 mm_jok rfl rfl (Nat.le_of_ble_eq_true rfl) ⟨⟨rfl, rfl⟩, ⟨Nat.le_of_ble_eq_true rfl, Nat.le_of_ble_eq_true rfl⟩, Nat.zero_le _, Nat.zero_le _⟩ dX6_as_12 ?_
    refine jx_if_ne (pc := 15) (tgt := 20) dX6_as_15 (by decide) (fun c4 => ?_) (fun c4 => ?_)
    · have h := jx_f c4 h
      refine jx_aload_n (pc := 20) (k0 := 0) rfl dX6_as_20 ?_
      refine mm_g_s (pc := 21) fl_X6_9 dX6_as_21 ?_
      refine jx_bipush (pc := 24) (v := (31 : Int32)) (by decide) dX6_as_24 ?_
      refine jx_iload_n (pc := 26) (k0 := 1) rfl dX6_as_26 ?_
      refine jx_iadd (pc := 27) dX6_as_27 ?_
      obtain ⟨g5, h⟩ := jx_gd_o h
      refine mm_l_s (pc := 28) (jx_in_o g5) rfl dX6_as_28 ?_
      refine jx_iload_n (pc := 29) (k0 := 2) rfl dX6_as_29 ?_
      obtain ⟨q6, eq6, h⟩ := jx_bd_o h
      refine jx_callSi (pc := 30) [.int (σ 1 ((31 : Int32) + a1).toNatClampNeg), .int a2] (fun sz' => k_X6_isUnder l G hG sz' σ (σ 1 ((31 : Int32) + a1).toNatClampNeg) a2 q6 eq6) ks_X6_239 mm_jok rfl rfl (Nat.le_of_ble_eq_true rfl) ⟨⟨rfl, rfl⟩, ⟨Nat.le_of_ble_eq_true rfl, Nat.le_of_ble_eq_true rfl⟩, Nat.zero_le _, Nat.zero_le _⟩ dX6_as_30 ?_
      refine jx_if_eq (pc := 33) (tgt := 48) dX6_as_33 (by decide) (fun c7 => ?_) (fun c7 => ?_)
      · have h := jx_t c7 h
        refine jx_bipush (pc := 48) (v := (-6 : Int32)) (by decide) dX6_as_48 ?_
        have h := Option.some.inj h
        subst h
        exact jx_iret (pc := 50) dX6_as_50
      · have h := jx_f c7 h
        refine jx_aload_n (pc := 36) (k0 := 0) rfl dX6_as_36 ?_
        refine mm_g_s (pc := 37) fl_X6_9 dX6_as_37 ?_
        refine jx_bipush (pc := 40) (v := (37 : Int32)) (by decide) dX6_as_40 ?_
        refine jx_iload_n (pc := 42) (k0 := 1) rfl dX6_as_42 ?_
        refine jx_iadd (pc := 43) dX6_as_43 ?_
        obtain ⟨g8, h⟩ := jx_gd_o h
        refine mm_l_s (pc := 44) (jx_in_o g8) rfl dX6_as_44 ?_
        refine jx_goto (pc := 45) (tgt := 50) dX6_as_45 (by decide) ?_
        have h := Option.some.inj h
        subst h
        exact jx_iret (pc := 50) dX6_as_50
    · have h := jx_t c4 h
      refine jx_iconst (pc := 18) (v := (-1 : Int32)) (by decide) dX6_as_18 ?_
      have h := Option.some.inj h
      subst h
      exact jx_iret (pc := 19) dX6_as_19
theorem dX6_factor_0 : decode cX6_factor 0 = .ok (.aload_n 0, 1) := by decide +kernel
theorem dX6_factor_1 : decode cX6_factor 1 = .ok (.getfield 58, 3) := by decide +kernel
theorem dX6_factor_4 : decode cX6_factor 4 = .ok (.ifCond .eq 4, 3) := by decide +kernel
theorem dX6_factor_7 : decode cX6_factor 7 = .ok (.return_, 1) := by decide +kernel
theorem dX6_factor_8 : decode cX6_factor 8 = .ok (.aload_n 0, 1) := by decide +kernel
theorem dX6_factor_9 : decode cX6_factor 9 = .ok (.invokevirtual 62, 3) := by decide +kernel
theorem dX6_factor_12 : decode cX6_factor 12 = .ok (.istore_n 1, 1) := by decide +kernel
theorem dX6_factor_13 : decode cX6_factor 13 = .ok (.iload_n 1, 1) := by decide +kernel
theorem dX6_factor_14 : decode cX6_factor 14 = .ok (.bipush 33, 2) := by decide +kernel
theorem dX6_factor_16 : decode cX6_factor 16 = .ok (.if_icmp .eq 9, 3) := by decide +kernel
theorem dX6_factor_19 : decode cX6_factor 19 = .ok (.iload_n 1, 1) := by decide +kernel
theorem dX6_factor_20 : decode cX6_factor 20 = .ok (.bipush 40, 2) := by decide +kernel
theorem dX6_factor_22 : decode cX6_factor 22 = .ok (.if_icmp .ne 90, 3) := by decide +kernel
theorem dX6_factor_25 : decode cX6_factor 25 = .ok (.aload_n 0, 1) := by decide +kernel
theorem dX6_factor_26 : decode cX6_factor 26 = .ok (.aload_n 0, 1) := by decide +kernel
theorem dX6_factor_27 : decode cX6_factor 27 = .ok (.getfield 81, 3) := by decide +kernel
theorem dX6_factor_30 : decode cX6_factor 30 = .ok (.iconst 5, 1) := by decide +kernel
theorem dX6_factor_31 : decode cX6_factor 31 = .ok (.if_icmp .ne 7, 3) := by decide +kernel
theorem dX6_factor_34 : decode cX6_factor 34 = .ok (.iconst 1, 1) := by decide +kernel
theorem dX6_factor_35 : decode cX6_factor 35 = .ok (.goto 4, 3) := by decide +kernel
theorem dX6_factor_38 : decode cX6_factor 38 = .ok (.iconst 0, 1) := by decide +kernel
theorem dX6_factor_39 : decode cX6_factor 39 = .ok (.putfield 58, 3) := by decide +kernel
theorem dX6_factor_42 : decode cX6_factor 42 = .ok (.aload_n 0, 1) := by decide +kernel
theorem dX6_factor_43 : decode cX6_factor 43 = .ok (.dup, 1) := by decide +kernel
theorem dX6_factor_44 : decode cX6_factor 44 = .ok (.getfield 81, 3) := by decide +kernel
theorem dX6_factor_47 : decode cX6_factor 47 = .ok (.iconst 1, 1) := by decide +kernel
theorem dX6_factor_48 : decode cX6_factor 48 = .ok (.iadd, 1) := by decide +kernel
theorem dX6_factor_49 : decode cX6_factor 49 = .ok (.putfield 81, 3) := by decide +kernel
theorem dX6_factor_52 : decode cX6_factor 52 = .ok (.aload_n 0, 1) := by decide +kernel
theorem dX6_factor_53 : decode cX6_factor 53 = .ok (.dup, 1) := by decide +kernel
theorem dX6_factor_54 : decode cX6_factor 54 = .ok (.getfield 52, 3) := by decide +kernel
theorem dX6_factor_57 : decode cX6_factor 57 = .ok (.aload_n 0, 1) := by decide +kernel
theorem dX6_factor_58 : decode cX6_factor 58 = .ok (.getfield 58, 3) := by decide +kernel
theorem dX6_factor_61 : decode cX6_factor 61 = .ok (.ifCond .eq 7, 3) := by decide +kernel
theorem dX6_factor_64 : decode cX6_factor 64 = .ok (.iconst 0, 1) := by decide +kernel
theorem dX6_factor_65 : decode cX6_factor 65 = .ok (.goto 4, 3) := by decide +kernel
theorem dX6_factor_68 : decode cX6_factor 68 = .ok (.iconst 1, 1) := by decide +kernel
theorem dX6_factor_69 : decode cX6_factor 69 = .ok (.iadd, 1) := by decide +kernel
theorem dX6_factor_70 : decode cX6_factor 70 = .ok (.putfield 52, 3) := by decide +kernel
theorem dX6_factor_73 : decode cX6_factor 73 = .ok (.iload_n 1, 1) := by decide +kernel
theorem dX6_factor_74 : decode cX6_factor 74 = .ok (.bipush 33, 2) := by decide +kernel
theorem dX6_factor_76 : decode cX6_factor 76 = .ok (.if_icmp .ne 15, 3) := by decide +kernel
theorem dX6_factor_79 : decode cX6_factor 79 = .ok (.aload_n 0, 1) := by decide +kernel
theorem dX6_factor_80 : decode cX6_factor 80 = .ok (.invokevirtual 84, 3) := by decide +kernel
theorem dX6_factor_83 : decode cX6_factor 83 = .ok (.aload_n 0, 1) := by decide +kernel
theorem dX6_factor_84 : decode cX6_factor 84 = .ok (.iconst (-1), 1) := by decide +kernel
theorem dX6_factor_85 : decode cX6_factor 85 = .ok (.invokevirtual 87, 3) := by decide +kernel
theorem dX6_factor_88 : decode cX6_factor 88 = .ok (.goto 13, 3) := by decide +kernel
theorem dX6_factor_91 : decode cX6_factor 91 = .ok (.aload_n 0, 1) := by decide +kernel
theorem dX6_factor_92 : decode cX6_factor 92 = .ok (.invokevirtual 90, 3) := by decide +kernel
theorem dX6_factor_95 : decode cX6_factor 95 = .ok (.aload_n 0, 1) := by decide +kernel
theorem dX6_factor_96 : decode cX6_factor 96 = .ok (.bipush 41, 2) := by decide +kernel
theorem dX6_factor_98 : decode cX6_factor 98 = .ok (.invokevirtual 75, 3) := by decide +kernel
theorem dX6_factor_101 : decode cX6_factor 101 = .ok (.aload_n 0, 1) := by decide +kernel
theorem dX6_factor_102 : decode cX6_factor 102 = .ok (.dup, 1) := by decide +kernel
theorem dX6_factor_103 : decode cX6_factor 103 = .ok (.getfield 81, 3) := by decide +kernel
theorem dX6_factor_106 : decode cX6_factor 106 = .ok (.iconst 1, 1) := by decide +kernel
theorem dX6_factor_107 : decode cX6_factor 107 = .ok (.isub, 1) := by decide +kernel
theorem dX6_factor_108 : decode cX6_factor 108 = .ok (.putfield 81, 3) := by decide +kernel
theorem dX6_factor_111 : decode cX6_factor 111 = .ok (.return_, 1) := by decide +kernel
theorem dX6_factor_112 : decode cX6_factor 112 = .ok (.aload_n 0, 1) := by decide +kernel
theorem dX6_factor_113 : decode cX6_factor 113 = .ok (.ldc 93, 2) := by decide +kernel
theorem dX6_factor_115 : decode cX6_factor 115 = .ok (.invokevirtual 95, 3) := by decide +kernel
theorem dX6_factor_118 : decode cX6_factor 118 = .ok (.istore_n 2, 1) := by decide +kernel
theorem dX6_factor_119 : decode cX6_factor 119 = .ok (.aload_n 0, 1) := by decide +kernel
theorem dX6_factor_120 : decode cX6_factor 120 = .ok (.iload_n 2, 1) := by decide +kernel
theorem dX6_factor_121 : decode cX6_factor 121 = .ok (.iconst (-1), 1) := by decide +kernel
theorem dX6_factor_122 : decode cX6_factor 122 = .ok (.if_icmp .ne 7, 3) := by decide +kernel
theorem dX6_factor_125 : decode cX6_factor 125 = .ok (.iconst 1, 1) := by decide +kernel
theorem dX6_factor_126 : decode cX6_factor 126 = .ok (.goto 4, 3) := by decide +kernel
theorem dX6_factor_129 : decode cX6_factor 129 = .ok (.iconst 0, 1) := by decide +kernel
theorem dX6_factor_130 : decode cX6_factor 130 = .ok (.putfield 58, 3) := by decide +kernel
theorem dX6_factor_133 : decode cX6_factor 133 = .ok (.aload_n 0, 1) := by decide +kernel
theorem dX6_factor_134 : decode cX6_factor 134 = .ok (.getfield 58, 3) := by decide +kernel
theorem dX6_factor_137 : decode cX6_factor 137 = .ok (.ifCond .eq 7, 3) := by decide +kernel
theorem dX6_factor_140 : decode cX6_factor 140 = .ok (.iconst 0, 1) := by decide +kernel
theorem dX6_factor_141 : decode cX6_factor 141 = .ok (.goto 9, 3) := by decide +kernel
theorem dX6_factor_144 : decode cX6_factor 144 = .ok (.aload_n 0, 1) := by decide +kernel
theorem dX6_factor_145 : decode cX6_factor 145 = .ok (.ldc 99, 2) := by decide +kernel
theorem dX6_factor_147 : decode cX6_factor 147 = .ok (.invokevirtual 95, 3) := by decide +kernel
theorem dX6_factor_150 : decode cX6_factor 150 = .ok (.istore_n 3, 1) := by decide +kernel
theorem dX6_factor_151 : decode cX6_factor 151 = .ok (.aload_n 0, 1) := by decide +kernel
theorem dX6_factor_152 : decode cX6_factor 152 = .ok (.aload_n 0, 1) := by decide +kernel
theorem dX6_factor_153 : decode cX6_factor 153 = .ok (.getfield 58, 3) := by decide +kernel
theorem dX6_factor_156 : decode cX6_factor 156 = .ok (.ifCond .ne 8, 3) := by decide +kernel
theorem dX6_factor_159 : decode cX6_factor 159 = .ok (.iload_n 3, 1) := by decide +kernel
theorem dX6_factor_160 : decode cX6_factor 160 = .ok (.iconst (-1), 1) := by decide +kernel
theorem dX6_factor_161 : decode cX6_factor 161 = .ok (.if_icmp .ne 7, 3) := by decide +kernel
theorem dX6_factor_164 : decode cX6_factor 164 = .ok (.iconst 1, 1) := by decide +kernel
theorem dX6_factor_165 : decode cX6_factor 165 = .ok (.goto 4, 3) := by decide +kernel
theorem dX6_factor_168 : decode cX6_factor 168 = .ok (.iconst 0, 1) := by decide +kernel
theorem dX6_factor_169 : decode cX6_factor 169 = .ok (.putfield 58, 3) := by decide +kernel
theorem dX6_factor_172 : decode cX6_factor 172 = .ok (.aload_n 0, 1) := by decide +kernel
theorem dX6_factor_173 : decode cX6_factor 173 = .ok (.invokevirtual 101, 3) := by decide +kernel
theorem dX6_factor_176 : decode cX6_factor 176 = .ok (.istore 4, 2) := by decide +kernel
theorem dX6_factor_178 : decode cX6_factor 178 = .ok (.aload_n 0, 1) := by decide +kernel
theorem dX6_factor_179 : decode cX6_factor 179 = .ok (.iload_n 2, 1) := by decide +kernel
theorem dX6_factor_180 : decode cX6_factor 180 = .ok (.bipush 8, 2) := by decide +kernel
theorem dX6_factor_182 : decode cX6_factor 182 = .ok (.iload_n 3, 1) := by decide +kernel
theorem dX6_factor_183 : decode cX6_factor 183 = .ok (.imul, 1) := by decide +kernel
theorem dX6_factor_184 : decode cX6_factor 184 = .ok (.iadd, 1) := by decide +kernel
theorem dX6_factor_185 : decode cX6_factor 185 = .ok (.bipush 32, 2) := by decide +kernel
theorem dX6_factor_187 : decode cX6_factor 187 = .ok (.iload 4, 2) := by decide +kernel
theorem dX6_factor_189 : decode cX6_factor 189 = .ok (.imul, 1) := by decide +kernel
theorem dX6_factor_190 : decode cX6_factor 190 = .ok (.iadd, 1) := by decide +kernel
theorem dX6_factor_191 : decode cX6_factor 191 = .ok (.invokevirtual 87, 3) := by decide +kernel
theorem dX6_factor_194 : decode cX6_factor 194 = .ok (.return_, 1) := by decide +kernel
abbrev rm_X6_factor (fr lo : Nat) : Room := { frames := fr + 5, cells := 0, slots := 0, locals := lo + 107 }
abbrev jJ_X6_factor (l : Launch) (G : jx_G) (fr lo : Nat) (sz : Nat) (out : jx_M) (pc : Nat) (lv : List (Nat × Value)) (st : List Value) (σ : jx_M) : Prop := jx_J l (mm_env G) (mm_dyn G) (mm_rg G) sz RX6 "factor" cX6_factor 5 none (rm_X6_factor fr lo) (fun below args s => MQ below (jx_Qv (mm_dyn G) out (jx_A (mm_rg G) sz)) args s 0 0 (jx_A (mm_rg G) sz)) 0 0 pc lv st σ
def b_X6_factor_101 (F : jx_M → Option jx_M)  (σ : jx_M)  : Option jx_M :=
  jx_lt (jx_mu σ 0 8 ((σ 0 8) - (1 : Int32))) (fun σ1 => some σ1)
set_option maxHeartbeats 4000000 in
set_option maxRecDepth 100000 in
theorem jb_X6_factor_101 (l : Launch) (G : jx_G) (hG : mm_ok G) (F : jx_M → Option jx_M) (fr lo : Nat) (hF : ∀ (sz : Nat) (σ : jx_M)  (out : jx_M) (_ : F σ = some out), Met l yX6_factor (Cond.code yX6_factor cX6_factor 5 none :: jx_ws) { frames := fr, cells := 0, slots := 0, locals := lo } (jx_Pc (mm_env G) (mm_dyn G) (mm_rg G) sz σ [.ref (G.2 10)]) (jx_Qv (mm_dyn G) out (jx_A (mm_rg G) sz)) 0 0 (jx_A (mm_rg G) sz)) (sz : Nat) (out : jx_M)  (σ : jx_M)  (h : b_X6_factor_101 F σ = some out) : jJ_X6_factor l G fr lo sz out 101 [(0, .ref (G.2 10))] [] σ := by
  unfold b_X6_factor_101 at h
  refine jx_aload_n (pc := 101) (k0 := 0) rfl dX6_factor_101 ?_
  refine jx_dup (pc := 102) rfl dX6_factor_102 ?_
  refine mm_g_open (pc := 103) fl_X6_81 dX6_factor_103 ?_
  refine jx_iconst (pc := 106) (v := (1 : Int32)) (by decide) dX6_factor_106 ?_
  refine jx_isub (pc := 107) dX6_factor_107 ?_
  obtain ⟨σ1, eσ1, h⟩ := jx_lt_o h
  refine mm_p_open (pc := 108) hG fl_X6_81 eσ1 dX6_factor_108 ?_
  have h := Option.some.inj h
  subst h
  exact jx_vret (pc := 111) dX6_factor_111
def b_X6_factor_69 (F : jx_M → Option jx_M)  (σ : jx_M) (v1 : Int32) (s0 : Int32) (s1 : Int32) : Option jx_M :=
  jx_lt (jx_mu σ 0 5 (s1 + s0)) (fun σ1 => if v1 = (33 : Int32) then jx_bd (F σ1) (fun q5 => jx_bd (f_X6_emits q5 (-1 : Int32)) (fun q6 => (b_X6_factor_101 F q6))) else jx_bd (f_X6_some F σ1) (fun q3 => jx_bd (f_X6_must q3 (41 : Int32)) (fun q4 => (b_X6_factor_101 F q4))))
set_option maxHeartbeats 4000000 in
set_option maxRecDepth 100000 in
theorem jb_X6_factor_69 (l : Launch) (G : jx_G) (hG : mm_ok G) (F : jx_M → Option jx_M) (fr lo : Nat) (hF : ∀ (sz : Nat) (σ : jx_M)  (out : jx_M) (_ : F σ = some out), Met l yX6_factor (Cond.code yX6_factor cX6_factor 5 none :: jx_ws) { frames := fr, cells := 0, slots := 0, locals := lo } (jx_Pc (mm_env G) (mm_dyn G) (mm_rg G) sz σ [.ref (G.2 10)]) (jx_Qv (mm_dyn G) out (jx_A (mm_rg G) sz)) 0 0 (jx_A (mm_rg G) sz)) (sz : Nat) (out : jx_M)  (σ : jx_M) (v1 : Int32) (s0 : Int32) (s1 : Int32) (h : b_X6_factor_69 F σ v1 s0 s1 = some out) : jJ_X6_factor l G fr lo sz out 69 [(0, .ref (G.2 10)), (1, .int v1)] [.int s0, .int s1, .ref (G.2 10)] σ := by
  unfold b_X6_factor_69 at h
  refine jx_iadd (pc := 69) dX6_factor_69 ?_
  obtain ⟨σ1, eσ1, h⟩ := jx_lt_o h
  refine mm_p_spot (pc := 70) hG fl_X6_52 eσ1 dX6_factor_70 ?_
  refine jx_iload_n (pc := 73) (k0 := 1) rfl dX6_factor_73 ?_
  refine jx_bipush (pc := 74) (v := (33 : Int32)) (by decide) dX6_factor_74 ?_
  refine jx_icmp_ne (pc := 76) (tgt := 91) dX6_factor_76 (by decide) (fun c2 => ?_) (fun c2 => ?_)
  · have h := jx_f c2 h
    refine jx_aload_n (pc := 91) (k0 := 0) rfl dX6_factor_91 ?_
    obtain ⟨q3, eq3, h⟩ := jx_bd_o h
    refine jx_callVv (pc := 92) [] (fun sz' => k_X6_some l G hG F fr lo hF sz' σ1 q3 eq3) kv_X6_90 mm_jok mm_rc rfl rfl (Nat.le_of_ble_eq_true rfl) ⟨⟨rfl, rfl⟩, ⟨(by show (fr + 2) + 1 ≤ fr + 5; omega), (by show 8 + (1 + 11) + (lo + 44) ≤ lo + 107; omega)⟩, Nat.zero_le _, Nat.zero_le _⟩ dX6_factor_92 ?_
    refine jx_aload_n (pc := 95) (k0 := 0) rfl dX6_factor_95 ?_
    refine jx_bipush (pc := 96) (v := (41 : Int32)) (by decide) dX6_factor_96 ?_
    obtain ⟨q4, eq4, h⟩ := jx_bd_o h
    refine jx_callVv (pc := 98) [.int (41 : Int32)] (fun sz' => k_X6_must l G hG sz' q3 (41 : Int32) q4 eq4) kv_X6_75 mm_jok mm_rc rfl rfl (Nat.le_of_ble_eq_true rfl) ⟨⟨rfl, rfl⟩, ⟨(by show 1 + 1 ≤ fr + 5; omega), (by show 8 + (2 + 11) + 20 ≤ lo + 107; omega)⟩, Nat.zero_le _, Nat.zero_le _⟩ dX6_factor_98 ?_
    exact jx_sub [0] rfl (jb_X6_factor_101 l G hG F fr lo hF sz out q4 h)
  · have h := jx_t c2 h
    refine jx_aload_n (pc := 79) (k0 := 0) rfl dX6_factor_79 ?_
    obtain ⟨q5, eq5, h⟩ := jx_bd_o h
    refine jx_callVv (pc := 80) [] (fun sz' => hF sz' σ1 q5 eq5) kv_X6_84 mm_jok mm_rc rfl rfl (Nat.le_of_ble_eq_true rfl) ⟨⟨rfl, rfl⟩, ⟨(by show fr + 1 ≤ fr + 5; omega), (by show 8 + (5 + 11) + lo ≤ lo + 107; omega)⟩, Nat.zero_le _, Nat.zero_le _⟩ dX6_factor_80 ?_
    refine jx_aload_n (pc := 83) (k0 := 0) rfl dX6_factor_83 ?_
    refine jx_iconst (pc := 84) (v := (-1 : Int32)) (by decide) dX6_factor_84 ?_
    obtain ⟨q6, eq6, h⟩ := jx_bd_o h
    refine jx_callVv (pc := 85) [.int (-1 : Int32)] (fun sz' => k_X6_emits l G hG sz' q5 (-1 : Int32) q6 eq6) kv_X6_87 mm_jok mm_rc rfl rfl (Nat.le_of_ble_eq_true rfl) ⟨⟨rfl, rfl⟩, ⟨(by show 0 + 1 ≤ fr + 5; omega), (by show 8 + (2 + 11) + 0 ≤ lo + 107; omega)⟩, Nat.zero_le _, Nat.zero_le _⟩ dX6_factor_85 ?_
    refine jx_goto (pc := 88) (tgt := 101) dX6_factor_88 (by decide) ?_
    exact jx_sub [0] rfl (jb_X6_factor_101 l G hG F fr lo hF sz out q6 h)
def b_X6_factor_39 (F : jx_M → Option jx_M)  (σ : jx_M) (v1 : Int32) (s0 : Int32) : Option jx_M :=
  jx_gd (decide (s0 = 0 ∨ s0 = 1)) (jx_lt (jx_mu σ 0 7 s0) (fun σ2 => jx_lt (jx_mu σ2 0 8 ((σ2 0 8) + (1 : Int32))) (fun σ3 => if (σ3 0 7) = 0 then (b_X6_factor_69 F σ3 v1 (1 : Int32) (σ3 0 5)) else (b_X6_factor_69 F σ3 v1 (0 : Int32) (σ3 0 5)))))
set_option maxHeartbeats 4000000 in
set_option maxRecDepth 100000 in
theorem jb_X6_factor_39 (l : Launch) (G : jx_G) (hG : mm_ok G) (F : jx_M → Option jx_M) (fr lo : Nat) (hF : ∀ (sz : Nat) (σ : jx_M)  (out : jx_M) (_ : F σ = some out), Met l yX6_factor (Cond.code yX6_factor cX6_factor 5 none :: jx_ws) { frames := fr, cells := 0, slots := 0, locals := lo } (jx_Pc (mm_env G) (mm_dyn G) (mm_rg G) sz σ [.ref (G.2 10)]) (jx_Qv (mm_dyn G) out (jx_A (mm_rg G) sz)) 0 0 (jx_A (mm_rg G) sz)) (sz : Nat) (out : jx_M)  (σ : jx_M) (v1 : Int32) (s0 : Int32) (h : b_X6_factor_39 F σ v1 s0 = some out) : jJ_X6_factor l G fr lo sz out 39 [(0, .ref (G.2 10)), (1, .int v1)] [.int s0, .ref (G.2 10)] σ := by
  unfold b_X6_factor_39 at h
  obtain ⟨g1, h⟩ := jx_gd_o h
  obtain ⟨σ2, eσ2, h⟩ := jx_lt_o h
  refine mm_p_isWrong (pc := 39) hG (of_decide_eq_true g1) fl_X6_58 eσ2 dX6_factor_39 ?_
  refine jx_aload_n (pc := 42) (k0 := 0) rfl dX6_factor_42 ?_
  refine jx_dup (pc := 43) rfl dX6_factor_43 ?_
  refine mm_g_open (pc := 44) fl_X6_81 dX6_factor_44 ?_
  refine jx_iconst (pc := 47) (v := (1 : Int32)) (by decide) dX6_factor_47 ?_
  refine jx_iadd (pc := 48) dX6_factor_48 ?_
  obtain ⟨σ3, eσ3, h⟩ := jx_lt_o h
  refine mm_p_open (pc := 49) hG fl_X6_81 eσ3 dX6_factor_49 ?_
  refine jx_aload_n (pc := 52) (k0 := 0) rfl dX6_factor_52 ?_
  refine jx_dup (pc := 53) rfl dX6_factor_53 ?_
  refine mm_g_spot (pc := 54) fl_X6_52 dX6_factor_54 ?_
  refine jx_aload_n (pc := 57) (k0 := 0) rfl dX6_factor_57 ?_
  refine mm_g_isWrong (pc := 58) fl_X6_58 dX6_factor_58 ?_
  refine jx_if_eq (pc := 61) (tgt := 68) dX6_factor_61 (by decide) (fun c4 => ?_) (fun c4 => ?_)
  · have h := jx_t c4 h
    refine jx_iconst (pc := 68) (v := (1 : Int32)) (by decide) dX6_factor_68 ?_
    exact jx_sub [0, 1] rfl (jb_X6_factor_69 l G hG F fr lo hF sz out σ3 v1 (1 : Int32) (σ3 0 5) h)
  · have h := jx_f c4 h
    refine jx_iconst (pc := 64) (v := (0 : Int32)) (by decide) dX6_factor_64 ?_
    refine jx_goto (pc := 65) (tgt := 69) dX6_factor_65 (by decide) ?_
    exact jx_sub [0, 1] rfl (jb_X6_factor_69 l G hG F fr lo hF sz out σ3 v1 (0 : Int32) (σ3 0 5) h)
def b_X6_factor_25 (F : jx_M → Option jx_M)  (σ : jx_M) (v1 : Int32) : Option jx_M :=
  if (σ 0 8) = (5 : Int32) then (b_X6_factor_39 F σ v1 (1 : Int32)) else (b_X6_factor_39 F σ v1 (0 : Int32))
set_option maxHeartbeats 4000000 in
set_option maxRecDepth 100000 in
theorem jb_X6_factor_25 (l : Launch) (G : jx_G) (hG : mm_ok G) (F : jx_M → Option jx_M) (fr lo : Nat) (hF : ∀ (sz : Nat) (σ : jx_M)  (out : jx_M) (_ : F σ = some out), Met l yX6_factor (Cond.code yX6_factor cX6_factor 5 none :: jx_ws) { frames := fr, cells := 0, slots := 0, locals := lo } (jx_Pc (mm_env G) (mm_dyn G) (mm_rg G) sz σ [.ref (G.2 10)]) (jx_Qv (mm_dyn G) out (jx_A (mm_rg G) sz)) 0 0 (jx_A (mm_rg G) sz)) (sz : Nat) (out : jx_M)  (σ : jx_M) (v1 : Int32) (h : b_X6_factor_25 F σ v1 = some out) : jJ_X6_factor l G fr lo sz out 25 [(0, .ref (G.2 10)), (1, .int v1)] [] σ := by
  unfold b_X6_factor_25 at h
  refine jx_aload_n (pc := 25) (k0 := 0) rfl dX6_factor_25 ?_
  refine jx_aload_n (pc := 26) (k0 := 0) rfl dX6_factor_26 ?_
  refine mm_g_open (pc := 27) fl_X6_81 dX6_factor_27 ?_
  refine jx_iconst (pc := 30) (v := (5 : Int32)) (by decide) dX6_factor_30 ?_
  refine jx_icmp_ne (pc := 31) (tgt := 38) dX6_factor_31 (by decide) (fun c1 => ?_) (fun c1 => ?_)
  · have h := jx_f c1 h
    refine jx_iconst (pc := 38) (v := (0 : Int32)) (by decide) dX6_factor_38 ?_
    exact jx_sub [0, 1] rfl (jb_X6_factor_39 l G hG F fr lo hF sz out σ v1 (0 : Int32) h)
  · have h := jx_t c1 h
    refine jx_iconst (pc := 34) (v := (1 : Int32)) (by decide) dX6_factor_34 ?_
    refine jx_goto (pc := 35) (tgt := 39) dX6_factor_35 (by decide) ?_
    exact jx_sub [0, 1] rfl (jb_X6_factor_39 l G hG F fr lo hF sz out σ v1 (1 : Int32) h)
def b_X6_factor_169 (F : jx_M → Option jx_M)  (σ : jx_M) (v2 : Int32) (v3 : Int32) (s0 : Int32) : Option jx_M :=
  jx_gd (decide (s0 = 0 ∨ s0 = 1)) (jx_lt (jx_mu σ 0 7 s0) (fun σ2 => jx_bd (f_X6_figures σ2) (fun q3 => jx_bd (f_X6_emits q3.2 ((v2 + ((8 : Int32) * v3)) + ((32 : Int32) * q3.1))) (fun q4 => some q4))))
set_option maxHeartbeats 4000000 in
set_option maxRecDepth 100000 in
theorem jb_X6_factor_169 (l : Launch) (G : jx_G) (hG : mm_ok G) (F : jx_M → Option jx_M) (fr lo : Nat) (hF : ∀ (sz : Nat) (σ : jx_M)  (out : jx_M) (_ : F σ = some out), Met l yX6_factor (Cond.code yX6_factor cX6_factor 5 none :: jx_ws) { frames := fr, cells := 0, slots := 0, locals := lo } (jx_Pc (mm_env G) (mm_dyn G) (mm_rg G) sz σ [.ref (G.2 10)]) (jx_Qv (mm_dyn G) out (jx_A (mm_rg G) sz)) 0 0 (jx_A (mm_rg G) sz)) (sz : Nat) (out : jx_M)  (σ : jx_M) (v2 : Int32) (v3 : Int32) (s0 : Int32) (h : b_X6_factor_169 F σ v2 v3 s0 = some out) : jJ_X6_factor l G fr lo sz out 169 [(0, .ref (G.2 10)), (2, .int v2), (3, .int v3)] [.int s0, .ref (G.2 10)] σ := by
  unfold b_X6_factor_169 at h
  obtain ⟨g1, h⟩ := jx_gd_o h
  obtain ⟨σ2, eσ2, h⟩ := jx_lt_o h
  refine mm_p_isWrong (pc := 169) hG (of_decide_eq_true g1) fl_X6_58 eσ2 dX6_factor_169 ?_
  refine jx_aload_n (pc := 172) (k0 := 0) rfl dX6_factor_172 ?_
  obtain ⟨q3, eq3, h⟩ := jx_bd_o h
  refine jx_callVi (pc := 173) [] (fun sz' => k_X6_figures l G hG sz' σ2 q3 eq3) kv_X6_101 mm_jok mm_rc rfl rfl (Nat.le_of_ble_eq_true rfl) ⟨⟨rfl, rfl⟩, ⟨(by show 1 + 1 ≤ fr + 5; omega), (by show 8 + (3 + 11) + 22 ≤ lo + 107; omega)⟩, Nat.zero_le _, Nat.zero_le _⟩ dX6_factor_173 ?_
  refine jx_istore (pc := 176) (i := 4) rfl (by decide) (lv' := [(4, .int q3.1), (0, .ref (G.2 10)), (2, .int v2), (3, .int v3)]) rfl dX6_factor_176 ?_
  refine jx_aload_n (pc := 178) (k0 := 0) rfl dX6_factor_178 ?_
  refine jx_iload_n (pc := 179) (k0 := 2) rfl dX6_factor_179 ?_
  refine jx_bipush (pc := 180) (v := (8 : Int32)) (by decide) dX6_factor_180 ?_
  refine jx_iload_n (pc := 182) (k0 := 3) rfl dX6_factor_182 ?_
  refine jx_imul (pc := 183) dX6_factor_183 ?_
  refine jx_iadd (pc := 184) dX6_factor_184 ?_
  refine jx_bipush (pc := 185) (v := (32 : Int32)) (by decide) dX6_factor_185 ?_
  refine jx_iload (pc := 187) (i := 4) rfl dX6_factor_187 ?_
  refine jx_imul (pc := 189) dX6_factor_189 ?_
  refine jx_iadd (pc := 190) dX6_factor_190 ?_
  obtain ⟨q4, eq4, h⟩ := jx_bd_o h
  refine jx_callVv (pc := 191) [.int ((v2 + ((8 : Int32) * v3)) + ((32 : Int32) * q3.1))] (fun sz' => k_X6_emits l G hG sz' q3.2 ((v2 + ((8 : Int32) * v3)) + ((32 : Int32) * q3.1)) q4 eq4) kv_X6_87 mm_jok mm_rc rfl rfl (Nat.le_of_ble_eq_true rfl) ⟨⟨rfl, rfl⟩, ⟨(by show 0 + 1 ≤ fr + 5; omega), (by show 8 + (2 + 11) + 0 ≤ lo + 107; omega)⟩, Nat.zero_le _, Nat.zero_le _⟩ dX6_factor_191 ?_
  have h := Option.some.inj h
  subst h
  exact jx_vret (pc := 194) dX6_factor_194
def b_X6_factor_164 (F : jx_M → Option jx_M)  (σ : jx_M) (v2 : Int32) (v3 : Int32) : Option jx_M :=
  (b_X6_factor_169 F σ v2 v3 (1 : Int32))
set_option maxHeartbeats 4000000 in
set_option maxRecDepth 100000 in
theorem jb_X6_factor_164 (l : Launch) (G : jx_G) (hG : mm_ok G) (F : jx_M → Option jx_M) (fr lo : Nat) (hF : ∀ (sz : Nat) (σ : jx_M)  (out : jx_M) (_ : F σ = some out), Met l yX6_factor (Cond.code yX6_factor cX6_factor 5 none :: jx_ws) { frames := fr, cells := 0, slots := 0, locals := lo } (jx_Pc (mm_env G) (mm_dyn G) (mm_rg G) sz σ [.ref (G.2 10)]) (jx_Qv (mm_dyn G) out (jx_A (mm_rg G) sz)) 0 0 (jx_A (mm_rg G) sz)) (sz : Nat) (out : jx_M)  (σ : jx_M) (v2 : Int32) (v3 : Int32) (h : b_X6_factor_164 F σ v2 v3 = some out) : jJ_X6_factor l G fr lo sz out 164 [(0, .ref (G.2 10)), (2, .int v2), (3, .int v3)] [.ref (G.2 10)] σ := by
  unfold b_X6_factor_164 at h
  refine jx_iconst (pc := 164) (v := (1 : Int32)) (by decide) dX6_factor_164 ?_
  refine jx_goto (pc := 165) (tgt := 169) dX6_factor_165 (by decide) ?_
  exact jx_sub [0, 1, 2] rfl (jb_X6_factor_169 l G hG F fr lo hF sz out σ v2 v3 (1 : Int32) h)
def b_X6_factor_150 (F : jx_M → Option jx_M)  (σ : jx_M) (v2 : Int32) (s0 : Int32) : Option jx_M :=
  if (σ 0 7) = 0 then if s0 = (-1 : Int32) then (b_X6_factor_164 F σ v2 s0) else (b_X6_factor_169 F σ v2 s0 (0 : Int32)) else (b_X6_factor_164 F σ v2 s0)
set_option maxHeartbeats 4000000 in
set_option maxRecDepth 100000 in
theorem jb_X6_factor_150 (l : Launch) (G : jx_G) (hG : mm_ok G) (F : jx_M → Option jx_M) (fr lo : Nat) (hF : ∀ (sz : Nat) (σ : jx_M)  (out : jx_M) (_ : F σ = some out), Met l yX6_factor (Cond.code yX6_factor cX6_factor 5 none :: jx_ws) { frames := fr, cells := 0, slots := 0, locals := lo } (jx_Pc (mm_env G) (mm_dyn G) (mm_rg G) sz σ [.ref (G.2 10)]) (jx_Qv (mm_dyn G) out (jx_A (mm_rg G) sz)) 0 0 (jx_A (mm_rg G) sz)) (sz : Nat) (out : jx_M)  (σ : jx_M) (v2 : Int32) (s0 : Int32) (h : b_X6_factor_150 F σ v2 s0 = some out) : jJ_X6_factor l G fr lo sz out 150 [(0, .ref (G.2 10)), (2, .int v2)] [.int s0] σ := by
  unfold b_X6_factor_150 at h
  refine jx_istore_n (pc := 150) (i := 3) rfl rfl (by decide) (lv' := [(3, .int s0), (0, .ref (G.2 10)), (2, .int v2)]) rfl dX6_factor_150 ?_
  refine jx_aload_n (pc := 151) (k0 := 0) rfl dX6_factor_151 ?_
  refine jx_aload_n (pc := 152) (k0 := 0) rfl dX6_factor_152 ?_
  refine mm_g_isWrong (pc := 153) fl_X6_58 dX6_factor_153 ?_
  refine jx_if_ne (pc := 156) (tgt := 164) dX6_factor_156 (by decide) (fun c1 => ?_) (fun c1 => ?_)
  · have h := jx_f c1 h
    exact jx_sub [1, 2, 0] rfl (jb_X6_factor_164 l G hG F fr lo hF sz out σ v2 s0 h)
  · have h := jx_t c1 h
    refine jx_iload_n (pc := 159) (k0 := 3) rfl dX6_factor_159 ?_
    refine jx_iconst (pc := 160) (v := (-1 : Int32)) (by decide) dX6_factor_160 ?_
    refine jx_icmp_ne (pc := 161) (tgt := 168) dX6_factor_161 (by decide) (fun c2 => ?_) (fun c2 => ?_)
    · have h := jx_f c2 h
      refine jx_iconst (pc := 168) (v := (0 : Int32)) (by decide) dX6_factor_168 ?_
      exact jx_sub [1, 2, 0] rfl (jb_X6_factor_169 l G hG F fr lo hF sz out σ v2 s0 (0 : Int32) h)
    · have h := jx_t c2 h
      exact jx_sub [1, 2, 0] rfl (jb_X6_factor_164 l G hG F fr lo hF sz out σ v2 s0 h)
def b_X6_factor_130 (F : jx_M → Option jx_M)  (σ : jx_M) (v2 : Int32) (s0 : Int32) : Option jx_M :=
  jx_gd (decide (s0 = 0 ∨ s0 = 1)) (jx_lt (jx_mu σ 0 7 s0) (fun σ2 => if (σ2 0 7) = 0 then jx_bd (f_X6_among σ2 2) (fun q4 => (b_X6_factor_150 F q4.2 v2 q4.1)) else (b_X6_factor_150 F σ2 v2 (0 : Int32))))
set_option maxHeartbeats 4000000 in
set_option maxRecDepth 100000 in
theorem jb_X6_factor_130 (l : Launch) (G : jx_G) (hG : mm_ok G) (F : jx_M → Option jx_M) (fr lo : Nat) (hF : ∀ (sz : Nat) (σ : jx_M)  (out : jx_M) (_ : F σ = some out), Met l yX6_factor (Cond.code yX6_factor cX6_factor 5 none :: jx_ws) { frames := fr, cells := 0, slots := 0, locals := lo } (jx_Pc (mm_env G) (mm_dyn G) (mm_rg G) sz σ [.ref (G.2 10)]) (jx_Qv (mm_dyn G) out (jx_A (mm_rg G) sz)) 0 0 (jx_A (mm_rg G) sz)) (sz : Nat) (out : jx_M)  (σ : jx_M) (v2 : Int32) (s0 : Int32) (h : b_X6_factor_130 F σ v2 s0 = some out) : jJ_X6_factor l G fr lo sz out 130 [(0, .ref (G.2 10)), (2, .int v2)] [.int s0, .ref (G.2 10)] σ := by
  unfold b_X6_factor_130 at h
  obtain ⟨g1, h⟩ := jx_gd_o h
  obtain ⟨σ2, eσ2, h⟩ := jx_lt_o h
  refine mm_p_isWrong (pc := 130) hG (of_decide_eq_true g1) fl_X6_58 eσ2 dX6_factor_130 ?_
  refine jx_aload_n (pc := 133) (k0 := 0) rfl dX6_factor_133 ?_
  refine mm_g_isWrong (pc := 134) fl_X6_58 dX6_factor_134 ?_
  refine jx_if_eq (pc := 137) (tgt := 144) dX6_factor_137 (by decide) (fun c3 => ?_) (fun c3 => ?_)
  · have h := jx_t c3 h
    refine jx_aload_n (pc := 144) (k0 := 0) rfl dX6_factor_144 ?_
    refine st_ldc_X6_99 (pc := 145) mm_hex dX6_factor_145 ?_
    obtain ⟨q4, eq4, h⟩ := jx_bd_o h
    refine jx_callVi (pc := 147) [.ref (G.2 1002)] (fun sz' => k_X6_among l G hG sz' σ2 2 q4 eq4) kv_X6_95 mm_jok mm_rc rfl rfl (Nat.le_of_ble_eq_true rfl) ⟨⟨rfl, rfl⟩, ⟨(by show 4 + 1 ≤ fr + 5; omega), (by show 8 + (3 + 11) + 85 ≤ lo + 107; omega)⟩, Nat.zero_le _, Nat.zero_le _⟩ dX6_factor_147 ?_
    exact jx_sub [0, 1] rfl (jb_X6_factor_150 l G hG F fr lo hF sz out q4.2 v2 q4.1 h)
  · have h := jx_f c3 h
    refine jx_iconst (pc := 140) (v := (0 : Int32)) (by decide) dX6_factor_140 ?_
    refine jx_goto (pc := 141) (tgt := 150) dX6_factor_141 (by decide) ?_
    exact jx_sub [0, 1] rfl (jb_X6_factor_150 l G hG F fr lo hF sz out σ2 v2 (0 : Int32) h)
def fB_X6_factor (F : jx_M → Option jx_M) (σ : jx_M)  : Option jx_M :=
  if (σ 0 7) = 0 then jx_bd (f_X6_here σ) (fun q2 => if q2 = (33 : Int32) then (b_X6_factor_25 F σ q2) else if q2 = (40 : Int32) then (b_X6_factor_25 F σ q2) else jx_bd (f_X6_among σ 1) (fun q5 => if q5.1 = (-1 : Int32) then (b_X6_factor_130 F q5.2 q5.1 (1 : Int32)) else (b_X6_factor_130 F q5.2 q5.1 (0 : Int32)))) else some σ
set_option maxHeartbeats 4000000 in
set_option maxRecDepth 100000 in
theorem kB_X6_factor (l : Launch) (G : jx_G) (hG : mm_ok G) (F : jx_M → Option jx_M) (fr lo : Nat) (hF : ∀ (sz : Nat) (σ : jx_M)  (out : jx_M) (_ : F σ = some out), Met l yX6_factor (Cond.code yX6_factor cX6_factor 5 none :: jx_ws) { frames := fr, cells := 0, slots := 0, locals := lo } (jx_Pc (mm_env G) (mm_dyn G) (mm_rg G) sz σ [.ref (G.2 10)]) (jx_Qv (mm_dyn G) out (jx_A (mm_rg G) sz)) 0 0 (jx_A (mm_rg G) sz)) (sz : Nat) (σ : jx_M)  (out : jx_M) (h : fB_X6_factor F σ = some out) : Met l yX6_factor (Cond.code yX6_factor cX6_factor 5 none :: jx_ws) (rm_X6_factor fr lo) (jx_Pc (mm_env G) (mm_dyn G) (mm_rg G) sz σ [.ref (G.2 10)]) (jx_Qv (mm_dyn G) out (jx_A (mm_rg G) sz)) 0 0 (jx_A (mm_rg G) sz) := by
  unfold fB_X6_factor at h
  refine jx_met (by decide) (Nat.le_of_ble_eq_true rfl) ?_
  refine jx_sub (lv' := [(0, .ref (G.2 10))]) [0] rfl ?_
  refine jx_aload_n (pc := 0) (k0 := 0) rfl dX6_factor_0 ?_
  refine mm_g_isWrong (pc := 1) fl_X6_58 dX6_factor_1 ?_
  refine jx_if_eq (pc := 4) (tgt := 8) dX6_factor_4 (by decide) (fun c1 => ?_) (fun c1 => ?_)
  · have h := jx_t c1 h
    refine jx_aload_n (pc := 8) (k0 := 0) rfl dX6_factor_8 ?_
    obtain ⟨q2, eq2, h⟩ := jx_bd_o h
    refine jx_callVi (pc := 9) [] (fun sz' => k_X6_here l G hG sz' σ q2 eq2) kv_X6_62 mm_jok mm_rc rfl rfl (Nat.le_of_ble_eq_true rfl) ⟨⟨rfl, rfl⟩, ⟨(by show 0 + 1 ≤ fr + 5; omega), (by show 8 + (1 + 11) + 0 ≤ lo + 107; omega)⟩, Nat.zero_le _, Nat.zero_le _⟩ dX6_factor_9 ?_
    refine jx_istore_n (pc := 12) (i := 1) rfl rfl (by decide) (lv' := [(1, .int q2), (0, .ref (G.2 10))]) rfl dX6_factor_12 ?_
    refine jx_iload_n (pc := 13) (k0 := 1) rfl dX6_factor_13 ?_
    refine jx_bipush (pc := 14) (v := (33 : Int32)) (by decide) dX6_factor_14 ?_
    refine jx_icmp_eq (pc := 16) (tgt := 25) dX6_factor_16 (by decide) (fun c3 => ?_) (fun c3 => ?_)
    · have h := jx_t c3 h
      exact jx_sub [1, 0] rfl (jb_X6_factor_25 l G hG F fr lo hF sz out σ q2 h)
    · have h := jx_f c3 h
      refine jx_iload_n (pc := 19) (k0 := 1) rfl dX6_factor_19 ?_
      refine jx_bipush (pc := 20) (v := (40 : Int32)) (by decide) dX6_factor_20 ?_
      refine jx_icmp_ne (pc := 22) (tgt := 112) dX6_factor_22 (by decide) (fun c4 => ?_) (fun c4 => ?_)
      · have h := jx_f c4 h
        refine jx_aload_n (pc := 112) (k0 := 0) rfl dX6_factor_112 ?_
        refine st_ldc_X6_93 (pc := 113) mm_hex dX6_factor_113 ?_
        obtain ⟨q5, eq5, h⟩ := jx_bd_o h
        refine jx_callVi (pc := 115) [.ref (G.2 1001)] (fun sz' => k_X6_among l G hG sz' σ 1 q5 eq5) kv_X6_95 mm_jok mm_rc rfl rfl (Nat.le_of_ble_eq_true rfl) ⟨⟨rfl, rfl⟩, ⟨(by show 4 + 1 ≤ fr + 5; omega), (by show 8 + (3 + 11) + 85 ≤ lo + 107; omega)⟩, Nat.zero_le _, Nat.zero_le _⟩ dX6_factor_115 ?_
        refine jx_istore_n (pc := 118) (i := 2) rfl rfl (by decide) (lv' := [(2, .int q5.1), (1, .int q2), (0, .ref (G.2 10))]) rfl dX6_factor_118 ?_
        refine jx_aload_n (pc := 119) (k0 := 0) rfl dX6_factor_119 ?_
        refine jx_iload_n (pc := 120) (k0 := 2) rfl dX6_factor_120 ?_
        refine jx_iconst (pc := 121) (v := (-1 : Int32)) (by decide) dX6_factor_121 ?_
        refine jx_icmp_ne (pc := 122) (tgt := 129) dX6_factor_122 (by decide) (fun c6 => ?_) (fun c6 => ?_)
        · have h := jx_f c6 h
          refine jx_iconst (pc := 129) (v := (0 : Int32)) (by decide) dX6_factor_129 ?_
          exact jx_sub [2, 0] rfl (jb_X6_factor_130 l G hG F fr lo hF sz out q5.2 q5.1 (0 : Int32) h)
        · have h := jx_t c6 h
          refine jx_iconst (pc := 125) (v := (1 : Int32)) (by decide) dX6_factor_125 ?_
          refine jx_goto (pc := 126) (tgt := 130) dX6_factor_126 (by decide) ?_
          exact jx_sub [2, 0] rfl (jb_X6_factor_130 l G hG F fr lo hF sz out q5.2 q5.1 (1 : Int32) h)
      · have h := jx_t c4 h
        exact jx_sub [1, 0] rfl (jb_X6_factor_25 l G hG F fr lo hF sz out σ q2 h)
  · have h := jx_f c1 h
    have h := Option.some.inj h
    subst h
    exact jx_vret (pc := 7) dX6_factor_7
def f_X6_factor : Nat → jx_M → Option jx_M
  | 0, _ => none
  | n + 1, σ => fB_X6_factor (f_X6_factor n) σ 
theorem k_X6_factor (l : Launch) (G : jx_G) (hG : mm_ok G) : ∀ (n sz : Nat) (σ : jx_M)  (out : jx_M) (_ : f_X6_factor n σ  = some out), Met l yX6_factor (Cond.code yX6_factor cX6_factor 5 none :: jx_ws) { frames := 5 * n, cells := 0, slots := 0, locals := 107 * n } (jx_Pc (mm_env G) (mm_dyn G) (mm_rg G) sz σ [.ref (G.2 10)]) (jx_Qv (mm_dyn G) out (jx_A (mm_rg G) sz)) 0 0 (jx_A (mm_rg G) sz) := by
  intro n
  induction n with
  | zero =>
    intro sz σ  out h
    cases h
  | succ n ih =>
    intro sz σ  out h
    exact kB_X6_factor l G hG (f_X6_factor n) (5 * n) (107 * n) ih sz σ  out h
