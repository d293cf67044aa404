/-! the class's methods: a function on the memory each, and its contract -/
theorem dX2_light_0 : decode cX2_light 0 = .ok (.aload_n 0, 1) := by decide +kernel
theorem dX2_light_1 : decode cX2_light 1 = .ok (.getfield 36, 3) := by decide +kernel
theorem dX2_light_4 : decode cX2_light 4 = .ok (.iload_n 1, 1) := by decide +kernel
theorem dX2_light_5 : decode cX2_light 5 = .ok (.invokevirtual 58, 3) := by decide +kernel
theorem dX2_light_8 : decode cX2_light 8 = .ok (.istore_n 3, 1) := by decide +kernel
theorem dX2_light_9 : decode cX2_light 9 = .ok (.iload_n 3, 1) := by decide +kernel
theorem dX2_light_10 : decode cX2_light 10 = .ok (.aload_n 0, 1) := by decide +kernel
theorem dX2_light_11 : decode cX2_light 11 = .ok (.iload_n 1, 1) := by decide +kernel
theorem dX2_light_12 : decode cX2_light 12 = .ok (.iload_n 2, 1) := by decide +kernel
theorem dX2_light_13 : decode cX2_light 13 = .ok (.invokevirtual 67, 3) := by decide +kernel
theorem dX2_light_16 : decode cX2_light 16 = .ok (.iadd, 1) := by decide +kernel
theorem dX2_light_17 : decode cX2_light 17 = .ok (.istore 4, 2) := by decide +kernel
theorem dX2_light_19 : decode cX2_light 19 = .ok (.aload_n 0, 1) := by decide +kernel
theorem dX2_light_20 : decode cX2_light 20 = .ok (.getfield 30, 3) := by decide +kernel
theorem dX2_light_23 : decode cX2_light 23 = .ok (.iload_n 1, 1) := by decide +kernel
theorem dX2_light_24 : decode cX2_light 24 = .ok (.aload_n 0, 1) := by decide +kernel
theorem dX2_light_25 : decode cX2_light 25 = .ok (.iload_n 2, 1) := by decide +kernel
theorem dX2_light_26 : decode cX2_light 26 = .ok (.iload_n 3, 1) := by decide +kernel
theorem dX2_light_27 : decode cX2_light 27 = .ok (.iload 4, 2) := by decide +kernel
theorem dX2_light_29 : decode cX2_light 29 = .ok (.invokevirtual 70, 3) := by decide +kernel
theorem dX2_light_32 : decode cX2_light 32 = .ok (.iastore, 1) := by decide +kernel
theorem dX2_light_33 : decode cX2_light 33 = .ok (.iload 4, 2) := by decide +kernel
theorem dX2_light_35 : decode cX2_light 35 = .ok (.bipush 12, 2) := by decide +kernel
theorem dX2_light_37 : decode cX2_light 37 = .ok (.if_icmp .ge 19, 3) := by decide +kernel
theorem dX2_light_40 : decode cX2_light 40 = .ok (.aload_n 0, 1) := by decide +kernel
theorem dX2_light_41 : decode cX2_light 41 = .ok (.getfield 36, 3) := by decide +kernel
theorem dX2_light_44 : decode cX2_light 44 = .ok (.getfield 55, 3) := by decide +kernel
theorem dX2_light_47 : decode cX2_light 47 = .ok (.iload_n 1, 1) := by decide +kernel
theorem dX2_light_48 : decode cX2_light 48 = .ok (.aaload, 1) := by decide +kernel
theorem dX2_light_49 : decode cX2_light 49 = .ok (.iconst 0, 1) := by decide +kernel
theorem dX2_light_50 : decode cX2_light 50 = .ok (.iaload, 1) := by decide +kernel
theorem dX2_light_51 : decode cX2_light 51 = .ok (.bipush 6, 2) := by decide +kernel
theorem dX2_light_53 : decode cX2_light 53 = .ok (.if_icmp .ne 7, 3) := by decide +kernel
theorem dX2_light_56 : decode cX2_light 56 = .ok (.iconst 1, 1) := by decide +kernel
theorem dX2_light_57 : decode cX2_light 57 = .ok (.goto 4, 3) := by decide +kernel
theorem dX2_light_60 : decode cX2_light 60 = .ok (.iconst 0, 1) := by decide +kernel
theorem dX2_light_61 : decode cX2_light 61 = .ok (.istore 5, 2) := by decide +kernel
theorem dX2_light_63 : decode cX2_light 63 = .ok (.aload_n 0, 1) := by decide +kernel
theorem dX2_light_64 : decode cX2_light 64 = .ok (.getfield 33, 3) := by decide +kernel
theorem dX2_light_67 : decode cX2_light 67 = .ok (.iload_n 1, 1) := by decide +kernel
theorem dX2_light_68 : decode cX2_light 68 = .ok (.iload 5, 2) := by decide +kernel
theorem dX2_light_70 : decode cX2_light 70 = .ok (.ifCond .eq 17, 3) := by decide +kernel
theorem dX2_light_73 : decode cX2_light 73 = .ok (.aload_n 0, 1) := by decide +kernel
theorem dX2_light_74 : decode cX2_light 74 = .ok (.getfield 19, 3) := by decide +kernel
theorem dX2_light_77 : decode cX2_light 77 = .ok (.aload_n 0, 1) := by decide +kernel
theorem dX2_light_78 : decode cX2_light 78 = .ok (.getfield 30, 3) := by decide +kernel
theorem dX2_light_81 : decode cX2_light 81 = .ok (.iload_n 1, 1) := by decide +kernel
theorem dX2_light_82 : decode cX2_light 82 = .ok (.iaload, 1) := by decide +kernel
theorem dX2_light_83 : decode cX2_light 83 = .ok (.iaload, 1) := by decide +kernel
theorem dX2_light_84 : decode cX2_light 84 = .ok (.goto 4, 3) := by decide +kernel
theorem dX2_light_87 : decode cX2_light 87 = .ok (.iconst 0, 1) := by decide +kernel
theorem dX2_light_88 : decode cX2_light 88 = .ok (.iastore, 1) := by decide +kernel
theorem dX2_light_89 : decode cX2_light 89 = .ok (.return_, 1) := by decide +kernel
abbrev rm_X2_light : Room := { frames := 2, cells := 0, slots := 0, locals := 45 }
abbrev jJ_X2_light (l : Launch) (G : jx_G) (t : jx_T) (sz : Nat) (out : jx_M) (pc : Nat) (lv : List (Nat × Value)) (st : List Value) (σ : jx_M) : Prop := jx_J l (ll_env G t) (ll_dyn G t) (ll_rg G) sz RX2 "light" cX2_light 6 none rm_X2_light (fun below args s => MQ below (jx_Qv (ll_dyn G t) out (jx_A (ll_rg G) sz)) args s 0 0 (jx_A (ll_rg G) sz)) 0 0 pc lv st σ
def b_X2_light_88 (t : jx_T)  (σ : jx_M) (s0 : Int32) (s1 : Int32) : Option jx_M :=
  jx_gd (jx_in s1 6) (jx_lt (jx_mu σ 59 s1.toNatClampNeg s0) (fun σ2 => some σ2))
set_option maxHeartbeats 4000000 in
set_option maxRecDepth 100000 in
theorem jb_X2_light_88 (l : Launch) (G : jx_G) (t : jx_T) (hG : ll_ok G) (sz : Nat) (out : jx_M)  (σ : jx_M) (s0 : Int32) (s1 : Int32) (h : b_X2_light_88 t σ s0 s1 = some out) : jJ_X2_light l G t sz out 88 [] [.int s0, .int s1, .ref (G.2 159)] σ := by
  unfold b_X2_light_88 at h
  obtain ⟨g1, h⟩ := jx_gd_o h
  obtain ⟨σ2, eσ2, h⟩ := jx_lt_o h
  refine ll_s (pc := 88) (k := 59) hG (jx_in_o g1) rfl eσ2 dX2_light_88 ?_
  have h := Option.some.inj h
  subst h
  exact jx_vret (pc := 89) dX2_light_89
def b_X2_light_61 (t : jx_T)  (σ : jx_M) (v1 : Int32) (s0 : Int32) : Option jx_M :=
  if s0 = 0 then (b_X2_light_88 t σ (0 : Int32) v1) else jx_gd (jx_in v1 6) (jx_gd (jx_in (σ 58 v1.toNatClampNeg) 7) ((b_X2_light_88 t σ (σ 56 (σ 58 v1.toNatClampNeg).toNatClampNeg) v1)))
set_option maxHeartbeats 4000000 in
set_option maxRecDepth 100000 in
theorem jb_X2_light_61 (l : Launch) (G : jx_G) (t : jx_T) (hG : ll_ok G) (sz : Nat) (out : jx_M)  (σ : jx_M) (v1 : Int32) (s0 : Int32) (h : b_X2_light_61 t σ v1 s0 = some out) : jJ_X2_light l G t sz out 61 [(0, .ref (G.2 23)), (1, .int v1)] [.int s0] σ := by
  unfold b_X2_light_61 at h
  refine jx_istore (pc := 61) (i := 5) rfl (by decide) (lv' := [(5, .int s0), (0, .ref (G.2 23)), (1, .int v1)]) rfl dX2_light_61 ?_
  refine jx_aload_n (pc := 63) (k0 := 0) rfl dX2_light_63 ?_
  refine ll_gnight_worth (pc := 64) fl_X2_33 dX2_light_64 ?_
  refine jx_iload_n (pc := 67) (k0 := 1) rfl dX2_light_67 ?_
  refine jx_iload (pc := 68) (i := 5) rfl dX2_light_68 ?_
  refine jx_if_eq (pc := 70) (tgt := 87) dX2_light_70 (by decide) (fun c1 => ?_) (fun c1 => ?_)
  · have h := jx_t c1 h
    refine jx_iconst (pc := 87) (v := (0 : Int32)) (by decide) dX2_light_87 ?_
    exact jx_sub [] rfl (jb_X2_light_88 l G t hG sz out σ (0 : Int32) v1 h)
  · have h := jx_f c1 h
    refine jx_aload_n (pc := 73) (k0 := 0) rfl dX2_light_73 ?_
    refine ll_gnight_weight (pc := 74) fl_X2_19 dX2_light_74 ?_
    refine jx_aload_n (pc := 77) (k0 := 0) rfl dX2_light_77 ?_
    refine ll_gnight_lie (pc := 78) fl_X2_30 dX2_light_78 ?_
    refine jx_iload_n (pc := 81) (k0 := 1) rfl dX2_light_81 ?_
    obtain ⟨g2, h⟩ := jx_gd_o h
    refine ll_l (pc := 82) (k := 58) (jx_in_o g2) rfl dX2_light_82 ?_
    obtain ⟨g3, h⟩ := jx_gd_o h
    refine ll_l (pc := 83) (k := 56) (jx_in_o g3) rfl dX2_light_83 ?_
    refine jx_goto (pc := 84) (tgt := 88) dX2_light_84 (by decide) ?_
    exact jx_sub [] rfl (jb_X2_light_88 l G t hG sz out σ (σ 56 (σ 58 v1.toNatClampNeg).toNatClampNeg) v1 h)
def b_X2_light_56 (t : jx_T)  (σ : jx_M) (v1 : Int32) : Option jx_M :=
  (b_X2_light_61 t σ v1 (1 : Int32))
set_option maxHeartbeats 4000000 in
set_option maxRecDepth 100000 in
theorem jb_X2_light_56 (l : Launch) (G : jx_G) (t : jx_T) (hG : ll_ok G) (sz : Nat) (out : jx_M)  (σ : jx_M) (v1 : Int32) (h : b_X2_light_56 t σ v1 = some out) : jJ_X2_light l G t sz out 56 [(0, .ref (G.2 23)), (1, .int v1)] [] σ := by
  unfold b_X2_light_56 at h
  refine jx_iconst (pc := 56) (v := (1 : Int32)) (by decide) dX2_light_56 ?_
  refine jx_goto (pc := 57) (tgt := 61) dX2_light_57 (by decide) ?_
  exact jx_sub [0, 1] rfl (jb_X2_light_61 l G t hG sz out σ v1 (1 : Int32) h)
def f_X2_light (t : jx_T) (σ : jx_M) (a1 : Int32) (a2 : Int32) : Option jx_M :=
  jx_bd (f_X1_delay t σ a1) (fun q1 => jx_bd (f_X2_burns t σ a1 a2) (fun q2 => jx_lt ((q1 + q2)) (fun x3 => jx_bd (f_X2_afloat t σ a2 q1 x3) (fun q4 => jx_gd (jx_in a1 6) (jx_lt (jx_mu σ 58 a1.toNatClampNeg q4) (fun σ6 => if (12 : Int32) ≤ x3 then (b_X2_light_56 t σ6 a1) else jx_gd (jx_in a1 6) (jx_gd (jx_in (0 : Int32) (ll_len (8 + a1.toNatClampNeg))) (if (σ6 (8 + a1.toNatClampNeg) 0) = (6 : Int32) then (b_X2_light_56 t σ6 a1) else (b_X2_light_61 t σ6 a1 (0 : Int32))))))))))
set_option maxHeartbeats 4000000 in
set_option maxRecDepth 100000 in
theorem k_X2_light (l : Launch) (G : jx_G) (t : jx_T) (hG : ll_ok G) (sz : Nat) (σ : jx_M) (a1 : Int32) (a2 : Int32) (out : jx_M) (h : f_X2_light t σ a1 a2 = some out) : Met l yX2_light (Cond.code yX2_light cX2_light 6 none :: jx_ws) rm_X2_light (jx_Pc (ll_env G t) (ll_dyn G t) (ll_rg G) sz σ [.ref (G.2 23), .int a1, .int a2]) (jx_Qv (ll_dyn G t) out (jx_A (ll_rg G) sz)) 0 0 (jx_A (ll_rg G) sz) := by
  unfold f_X2_light at h
  refine jx_met (by decide) (Nat.le_of_ble_eq_true rfl) ?_
  refine jx_sub (lv' := [(0, .ref (G.2 23)), (1, .int a1), (2, .int a2)]) [0, 1, 2] rfl ?_
  refine jx_aload_n (pc := 0) (k0 := 0) rfl dX2_light_0 ?_
  refine ll_gnight_canal (pc := 1) fl_X2_36 dX2_light_1 ?_
  refine jx_iload_n (pc := 4) (k0 := 1) rfl dX2_light_4 ?_
  obtain ⟨q1, eq1, h⟩ := jx_bd_o h
  refine jx_callVi (pc := 5) [.int a1] (fun sz' => k_X1_delay l G t hG sz' σ a1 q1 eq1) kv_X2_58 ll_jok ll_rcnow rfl rfl (Nat.le_of_ble_eq_true rfl) ⟨⟨rfl, rfl⟩, ⟨Nat.le_of_ble_eq_true rfl, Nat.le_of_ble_eq_true rfl⟩, Nat.zero_le _, Nat.zero_le _⟩ dX2_light_5 ?_
  refine jx_istore_n (pc := 8) (i := 3) rfl rfl (by decide) (lv' := [(3, .int q1), (0, .ref (G.2 23)), (1, .int a1), (2, .int a2)]) rfl dX2_light_8 ?_
  refine jx_iload_n (pc := 9) (k0 := 3) rfl dX2_light_9 ?_
  refine jx_aload_n (pc := 10) (k0 := 0) rfl dX2_light_10 ?_
  refine jx_iload_n (pc := 11) (k0 := 1) rfl dX2_light_11 ?_
  refine jx_iload_n (pc := 12) (k0 := 2) rfl dX2_light_12 ?_
  obtain ⟨q2, eq2, h⟩ := jx_bd_o h
  refine jx_callVi (pc := 13) [.int a1, .int a2] (fun sz' => k_X2_burns l G t hG sz' σ a1 a2 q2 eq2) kv_X2_67 ll_jok ll_rcnight rfl rfl (Nat.le_of_ble_eq_true rfl) ⟨⟨rfl, rfl⟩, ⟨Nat.le_of_ble_eq_true rfl, Nat.le_of_ble_eq_true rfl⟩, Nat.zero_le _, Nat.zero_le _⟩ dX2_light_13 ?_
  refine jx_iadd (pc := 16) dX2_light_16 ?_
  obtain ⟨x3, ex3, h⟩ := jx_lt_o h
  refine jx_istore (pc := 17) (i := 4) ex3 (by decide) (lv' := [(4, .int x3), (3, .int q1), (0, .ref (G.2 23)), (1, .int a1), (2, .int a2)]) rfl dX2_light_17 ?_
  refine jx_aload_n (pc := 19) (k0 := 0) rfl dX2_light_19 ?_
  refine ll_gnight_lie (pc := 20) fl_X2_30 dX2_light_20 ?_
  refine jx_iload_n (pc := 23) (k0 := 1) rfl dX2_light_23 ?_
  refine jx_aload_n (pc := 24) (k0 := 0) rfl dX2_light_24 ?_
  refine jx_iload_n (pc := 25) (k0 := 2) rfl dX2_light_25 ?_
  refine jx_iload_n (pc := 26) (k0 := 3) rfl dX2_light_26 ?_
  refine jx_iload (pc := 27) (i := 4) rfl dX2_light_27 ?_
  obtain ⟨q4, eq4, h⟩ := jx_bd_o h
  refine jx_callVi (pc := 29) [.int a2, .int q1, .int x3] (fun sz' => k_X2_afloat l G t hG sz' σ a2 q1 x3 q4 eq4) kv_X2_70 ll_jok ll_rcnight rfl rfl (Nat.le_of_ble_eq_true rfl) ⟨⟨rfl, rfl⟩, ⟨Nat.le_of_ble_eq_true rfl, Nat.le_of_ble_eq_true rfl⟩, Nat.zero_le _, Nat.zero_le _⟩ dX2_light_29 ?_
  obtain ⟨g5, h⟩ := jx_gd_o h
  obtain ⟨σ6, eσ6, h⟩ := jx_lt_o h
  refine ll_s (pc := 32) (k := 58) hG (jx_in_o g5) rfl eσ6 dX2_light_32 ?_
  refine jx_iload (pc := 33) (i := 4) rfl dX2_light_33 ?_
  refine jx_bipush (pc := 35) (v := (12 : Int32)) (by decide) dX2_light_35 ?_
  refine jx_icmp_ge (pc := 37) (tgt := 56) dX2_light_37 (by decide) (fun c7 => ?_) (fun c7 => ?_)
  · have h := jx_t c7 h
    exact jx_sub [2, 3] rfl (jb_X2_light_56 l G t hG sz out σ6 a1 h)
  · have h := jx_f c7 h
    refine jx_aload_n (pc := 40) (k0 := 0) rfl dX2_light_40 ?_
    refine ll_gnight_canal (pc := 41) fl_X2_36 dX2_light_41 ?_
    refine ll_gnow_voter (pc := 44) fl_X2_55 dX2_light_44 ?_
    refine jx_iload_n (pc := 47) (k0 := 1) rfl dX2_light_47 ?_
    obtain ⟨g8, h⟩ := jx_gd_o h
    refine ll_a_now_voter (pc := 48) (jx_in_o g8) dX2_light_48 ?_
    refine jx_iconst (pc := 49) (v := (0 : Int32)) (by decide) dX2_light_49 ?_
    obtain ⟨g9, h⟩ := jx_gd_o h
    refine ll_l (pc := 50) (k := (8 + a1.toNatClampNeg)) (j := 0) (jx_in_o g9) (by decide) dX2_light_50 ?_
    refine jx_bipush (pc := 51) (v := (6 : Int32)) (by decide) dX2_light_51 ?_
    refine jx_icmp_ne (pc := 53) (tgt := 60) dX2_light_53 (by decide) (fun c10 => ?_) (fun c10 => ?_)
    · have h := jx_f c10 h
      refine jx_iconst (pc := 60) (v := (0 : Int32)) (by decide) dX2_light_60 ?_
      exact jx_sub [2, 3] rfl (jb_X2_light_61 l G t hG sz out σ6 a1 (0 : Int32) h)
    · have h := jx_t c10 h
      exact jx_sub [2, 3] rfl (jb_X2_light_56 l G t hG sz out σ6 a1 h)
theorem dX3_takesOperator_0 : decode cX3_takesOperator 0 = .ok (.aload_n 0, 1) := by decide +kernel
theorem dX3_takesOperator_1 : decode cX3_takesOperator 1 = .ok (.iload_n 1, 1) := by decide +kernel
theorem dX3_takesOperator_2 : decode cX3_takesOperator 2 = .ok (.invokevirtual 150, 3) := by decide +kernel
theorem dX3_takesOperator_5 : decode cX3_takesOperator 5 = .ok (.aload_n 0, 1) := by decide +kernel
theorem dX3_takesOperator_6 : decode cX3_takesOperator 6 = .ok (.iload_n 1, 1) := by decide +kernel
theorem dX3_takesOperator_7 : decode cX3_takesOperator 7 = .ok (.invokevirtual 117, 3) := by decide +kernel
theorem dX3_takesOperator_10 : decode cX3_takesOperator 10 = .ok (.aload_n 0, 1) := by decide +kernel
theorem dX3_takesOperator_11 : decode cX3_takesOperator 11 = .ok (.iconst 4, 1) := by decide +kernel
theorem dX3_takesOperator_12 : decode cX3_takesOperator 12 = .ok (.putfield 40, 3) := by decide +kernel
theorem dX3_takesOperator_15 : decode cX3_takesOperator 15 = .ok (.iconst 1, 1) := by decide +kernel
theorem dX3_takesOperator_16 : decode cX3_takesOperator 16 = .ok (.ireturn, 1) := by decide +kernel
abbrev rm_X3_takesOperator : Room := { frames := 2, cells := 0, slots := 0, locals := 42 }
abbrev jJ_X3_takesOperator (l : Launch) (G : jx_G) (t : jx_T) (sz : Nat) (out : (Int32 × jx_M)) (pc : Nat) (lv : List (Nat × Value)) (st : List Value) (σ : jx_M) : Prop := jx_J l (ll_env G t) (ll_dyn G t) (ll_rg G) sz RX3 "takesOperator" cX3_takesOperator 2 (some .boolean) rm_X3_takesOperator (fun below args s => MQ below (jx_Qi (ll_dyn G t) out.2 out.1 (jx_A (ll_rg G) sz)) args s 0 0 (jx_A (ll_rg G) sz)) 0 0 pc lv st σ
def f_X3_takesOperator (t : jx_T) (σ : jx_M) (a1 : Int32) : Option (Int32 × jx_M) :=
  jx_bd (f_X3_writePending t σ a1) (fun q1 => jx_bd (f_X3_pend t q1 a1) (fun q2 => jx_lt (jx_mu q2 0 34 (4 : Int32)) (fun σ3 => some ((1 : Int32), σ3))))
set_option maxHeartbeats 4000000 in
set_option maxRecDepth 100000 in
theorem k_X3_takesOperator (l : Launch) (G : jx_G) (t : jx_T) (hG : ll_ok G) (sz : Nat) (σ : jx_M) (a1 : Int32) (out : (Int32 × jx_M)) (h : f_X3_takesOperator t σ a1 = some out) : Met l yX3_takesOperator (Cond.code yX3_takesOperator cX3_takesOperator 2 (some .boolean) :: jx_ws) rm_X3_takesOperator (jx_Pc (ll_env G t) (ll_dyn G t) (ll_rg G) sz σ [.ref (G.2 25), .int a1]) (jx_Qi (ll_dyn G t) out.2 out.1 (jx_A (ll_rg G) sz)) 0 0 (jx_A (ll_rg G) sz) := by
  unfold f_X3_takesOperator at h
  refine jx_met (by decide) (Nat.le_of_ble_eq_true rfl) ?_
  refine jx_sub (lv' := [(0, .ref (G.2 25)), (1, .int a1)]) [0, 1] rfl ?_
  refine jx_aload_n (pc := 0) (k0 := 0) rfl dX3_takesOperator_0 ?_
  refine jx_iload_n (pc := 1) (k0 := 1) rfl dX3_takesOperator_1 ?_
  obtain ⟨q1, eq1, h⟩ := jx_bd_o h
  refine jx_callVv (pc := 2) [.int a1] (fun sz' => k_X3_writePending l G t hG sz' σ a1 q1 eq1) kv_X3_150 ll_jok ll_rcreader rfl rfl (Nat.le_of_ble_eq_true rfl) ⟨⟨rfl, rfl⟩, ⟨Nat.le_of_ble_eq_true rfl, Nat.le_of_ble_eq_true rfl⟩, Nat.zero_le _, Nat.zero_le _⟩ dX3_takesOperator_2 ?_
  refine jx_aload_n (pc := 5) (k0 := 0) rfl dX3_takesOperator_5 ?_
  refine jx_iload_n (pc := 6) (k0 := 1) rfl dX3_takesOperator_6 ?_
  obtain ⟨q2, eq2, h⟩ := jx_bd_o h
  refine jx_callVv (pc := 7) [.int a1] (fun sz' => k_X3_pend l G t hG sz' q1 a1 q2 eq2) kv_X3_117 ll_jok ll_rcreader rfl rfl (Nat.le_of_ble_eq_true rfl) ⟨⟨rfl, rfl⟩, ⟨Nat.le_of_ble_eq_true rfl, Nat.le_of_ble_eq_true rfl⟩, Nat.zero_le _, Nat.zero_le _⟩ dX3_takesOperator_7 ?_
  refine jx_aload_n (pc := 10) (k0 := 0) rfl dX3_takesOperator_10 ?_
  refine jx_iconst (pc := 11) (v := (4 : Int32)) (by decide) dX3_takesOperator_11 ?_
  obtain ⟨σ3, eσ3, h⟩ := jx_lt_o h
  refine ll_preader_due (pc := 12) hG fl_X3_40 eσ3 dX3_takesOperator_12 ?_
  refine jx_iconst (pc := 15) (v := (1 : Int32)) (by decide) dX3_takesOperator_15 ?_
  have h := Option.some.inj h
  subst h
  exact jx_zret (pc := 16) (Or.inr rfl) dX3_takesOperator_16
theorem dX3_takesClosing_0 : decode cX3_takesClosing 0 = .ok (.aload_n 0, 1) := by decide +kernel
theorem dX3_takesClosing_1 : decode cX3_takesClosing 1 = .ok (.bipush (-3), 2) := by decide +kernel
theorem dX3_takesClosing_3 : decode cX3_takesClosing 3 = .ok (.invokevirtual 150, 3) := by decide +kernel
theorem dX3_takesClosing_6 : decode cX3_takesClosing 6 = .ok (.aload_n 0, 1) := by decide +kernel
theorem dX3_takesClosing_7 : decode cX3_takesClosing 7 = .ok (.getfield 34, 3) := by decide +kernel
theorem dX3_takesClosing_10 : decode cX3_takesClosing 10 = .ok (.ifCond .ne 5, 3) := by decide +kernel
theorem dX3_takesClosing_13 : decode cX3_takesClosing 13 = .ok (.iconst 0, 1) := by decide +kernel
theorem dX3_takesClosing_14 : decode cX3_takesClosing 14 = .ok (.ireturn, 1) := by decide +kernel
theorem dX3_takesClosing_15 : decode cX3_takesClosing 15 = .ok (.aload_n 0, 1) := by decide +kernel
theorem dX3_takesClosing_16 : decode cX3_takesClosing 16 = .ok (.dup, 1) := by decide +kernel
theorem dX3_takesClosing_17 : decode cX3_takesClosing 17 = .ok (.getfield 34, 3) := by decide +kernel
theorem dX3_takesClosing_20 : decode cX3_takesClosing 20 = .ok (.iconst 1, 1) := by decide +kernel
theorem dX3_takesClosing_21 : decode cX3_takesClosing 21 = .ok (.isub, 1) := by decide +kernel
theorem dX3_takesClosing_22 : decode cX3_takesClosing 22 = .ok (.putfield 34, 3) := by decide +kernel
theorem dX3_takesClosing_25 : decode cX3_takesClosing 25 = .ok (.aload_n 0, 1) := by decide +kernel
theorem dX3_takesClosing_26 : decode cX3_takesClosing 26 = .ok (.dup, 1) := by decide +kernel
theorem dX3_takesClosing_27 : decode cX3_takesClosing 27 = .ok (.getfield 37, 3) := by decide +kernel
theorem dX3_takesClosing_30 : decode cX3_takesClosing 30 = .ok (.iconst 1, 1) := by decide +kernel
theorem dX3_takesClosing_31 : decode cX3_takesClosing 31 = .ok (.isub, 1) := by decide +kernel
theorem dX3_takesClosing_32 : decode cX3_takesClosing 32 = .ok (.putfield 37, 3) := by decide +kernel
theorem dX3_takesClosing_35 : decode cX3_takesClosing 35 = .ok (.iconst 1, 1) := by decide +kernel
theorem dX3_takesClosing_36 : decode cX3_takesClosing 36 = .ok (.ireturn, 1) := by decide +kernel
abbrev rm_X3_takesClosing : Room := { frames := 2, cells := 0, slots := 0, locals := 42 }
abbrev jJ_X3_takesClosing (l : Launch) (G : jx_G) (t : jx_T) (sz : Nat) (out : (Int32 × jx_M)) (pc : Nat) (lv : List (Nat × Value)) (st : List Value) (σ : jx_M) : Prop := jx_J l (ll_env G t) (ll_dyn G t) (ll_rg G) sz RX3 "takesClosing" cX3_takesClosing 1 (some .boolean) rm_X3_takesClosing (fun below args s => MQ below (jx_Qi (ll_dyn G t) out.2 out.1 (jx_A (ll_rg G) sz)) args s 0 0 (jx_A (ll_rg G) sz)) 0 0 pc lv st σ
def f_X3_takesClosing (t : jx_T) (σ : jx_M)  : Option (Int32 × jx_M) :=
  jx_bd (f_X3_writePending t σ (-3 : Int32)) (fun q1 => if (q1 0 32) = 0 then some ((0 : Int32), q1) else jx_lt (jx_mu q1 0 32 ((q1 0 32) - (1 : Int32))) (fun σ3 => jx_lt (jx_mu σ3 0 33 ((σ3 0 33) - (1 : Int32))) (fun σ4 => some ((1 : Int32), σ4))))
set_option maxHeartbeats 4000000 in
set_option maxRecDepth 100000 in
theorem k_X3_takesClosing (l : Launch) (G : jx_G) (t : jx_T) (hG : ll_ok G) (sz : Nat) (σ : jx_M)  (out : (Int32 × jx_M)) (h : f_X3_takesClosing t σ = some out) : Met l yX3_takesClosing (Cond.code yX3_takesClosing cX3_takesClosing 1 (some .boolean) :: jx_ws) rm_X3_takesClosing (jx_Pc (ll_env G t) (ll_dyn G t) (ll_rg G) sz σ [.ref (G.2 25)]) (jx_Qi (ll_dyn G t) out.2 out.1 (jx_A (ll_rg G) sz)) 0 0 (jx_A (ll_rg G) sz) := by
  unfold f_X3_takesClosing at h
  refine jx_met (by decide) (Nat.le_of_ble_eq_true rfl) ?_
  refine jx_sub (lv' := [(0, .ref (G.2 25))]) [0] rfl ?_
  refine jx_aload_n (pc := 0) (k0 := 0) rfl dX3_takesClosing_0 ?_
  refine jx_bipush (pc := 1) (v := (-3 : Int32)) (by decide) dX3_takesClosing_1 ?_
  obtain ⟨q1, eq1, h⟩ := jx_bd_o h
  refine jx_callVv (pc := 3) [.int (-3 : Int32)] (fun sz' => k_X3_writePending l G t hG sz' σ (-3 : Int32) q1 eq1) kv_X3_150 ll_jok ll_rcreader rfl rfl (Nat.le_of_ble_eq_true rfl) ⟨⟨rfl, rfl⟩, ⟨Nat.le_of_ble_eq_true rfl, Nat.le_of_ble_eq_true rfl⟩, Nat.zero_le _, Nat.zero_le _⟩ dX3_takesClosing_3 ?_
  refine jx_aload_n (pc := 6) (k0 := 0) rfl dX3_takesClosing_6 ?_
  refine ll_greader_pended (pc := 7) fl_X3_34 dX3_takesClosing_7 ?_
  refine jx_if_ne (pc := 10) (tgt := 15) dX3_takesClosing_10 (by decide) (fun c2 => ?_) (fun c2 => ?_)
  · have h := jx_f c2 h
    refine jx_aload_n (pc := 15) (k0 := 0) rfl dX3_takesClosing_15 ?_
    refine jx_dup (pc := 16) rfl dX3_takesClosing_16 ?_
    refine ll_greader_pended (pc := 17) fl_X3_34 dX3_takesClosing_17 ?_
    refine jx_iconst (pc := 20) (v := (1 : Int32)) (by decide) dX3_takesClosing_20 ?_
    refine jx_isub (pc := 21) dX3_takesClosing_21 ?_
    obtain ⟨σ3, eσ3, h⟩ := jx_lt_o h
    refine ll_preader_pended (pc := 22) hG fl_X3_34 eσ3 dX3_takesClosing_22 ?_
    refine jx_aload_n (pc := 25) (k0 := 0) rfl dX3_takesClosing_25 ?_
    refine jx_dup (pc := 26) rfl dX3_takesClosing_26 ?_
    refine ll_greader_open (pc := 27) fl_X3_37 dX3_takesClosing_27 ?_
    refine jx_iconst (pc := 30) (v := (1 : Int32)) (by decide) dX3_takesClosing_30 ?_
    refine jx_isub (pc := 31) dX3_takesClosing_31 ?_
    obtain ⟨σ4, eσ4, h⟩ := jx_lt_o h
    refine ll_preader_open (pc := 32) hG fl_X3_37 eσ4 dX3_takesClosing_32 ?_
    refine jx_iconst (pc := 35) (v := (1 : Int32)) (by decide) dX3_takesClosing_35 ?_
    have h := Option.some.inj h
    subst h
    exact jx_zret (pc := 36) (Or.inr rfl) dX3_takesClosing_36
  · have h := jx_t c2 h
    refine jx_iconst (pc := 13) (v := (0 : Int32)) (by decide) dX3_takesClosing_13 ?_
    have h := Option.some.inj h
    subst h
    exact jx_zret (pc := 14) (Or.inl rfl) dX3_takesClosing_14
theorem dX3_endsClause_0 : decode cX3_endsClause 0 = .ok (.aload_n 0, 1) := by decide +kernel
theorem dX3_endsClause_1 : decode cX3_endsClause 1 = .ok (.bipush (-3), 2) := by decide +kernel
theorem dX3_endsClause_3 : decode cX3_endsClause 3 = .ok (.invokevirtual 150, 3) := by decide +kernel
theorem dX3_endsClause_6 : decode cX3_endsClause 6 = .ok (.aload_n 0, 1) := by decide +kernel
theorem dX3_endsClause_7 : decode cX3_endsClause 7 = .ok (.getfield 34, 3) := by decide +kernel
theorem dX3_endsClause_10 : decode cX3_endsClause 10 = .ok (.ifCond .gt 12, 3) := by decide +kernel
theorem dX3_endsClause_13 : decode cX3_endsClause 13 = .ok (.aload_n 0, 1) := by decide +kernel
theorem dX3_endsClause_14 : decode cX3_endsClause 14 = .ok (.getfield 27, 3) := by decide +kernel
theorem dX3_endsClause_17 : decode cX3_endsClause 17 = .ok (.bipush 10, 2) := by decide +kernel
theorem dX3_endsClause_19 : decode cX3_endsClause 19 = .ok (.if_icmp .lt 5, 3) := by decide +kernel
theorem dX3_endsClause_22 : decode cX3_endsClause 22 = .ok (.iconst 0, 1) := by decide +kernel
theorem dX3_endsClause_23 : decode cX3_endsClause 23 = .ok (.ireturn, 1) := by decide +kernel
theorem dX3_endsClause_24 : decode cX3_endsClause 24 = .ok (.aload_n 0, 1) := by decide +kernel
theorem dX3_endsClause_25 : decode cX3_endsClause 25 = .ok (.getfield 18, 3) := by decide +kernel
theorem dX3_endsClause_28 : decode cX3_endsClause 28 = .ok (.aload_n 0, 1) := by decide +kernel
theorem dX3_endsClause_29 : decode cX3_endsClause 29 = .ok (.getfield 27, 3) := by decide +kernel
theorem dX3_endsClause_32 : decode cX3_endsClause 32 = .ok (.aload_n 0, 1) := by decide +kernel
theorem dX3_endsClause_33 : decode cX3_endsClause 33 = .ok (.getfield 31, 3) := by decide +kernel
theorem dX3_endsClause_36 : decode cX3_endsClause 36 = .ok (.iastore, 1) := by decide +kernel
theorem dX3_endsClause_37 : decode cX3_endsClause 37 = .ok (.aload_n 0, 1) := by decide +kernel
theorem dX3_endsClause_38 : decode cX3_endsClause 38 = .ok (.dup, 1) := by decide +kernel
theorem dX3_endsClause_39 : decode cX3_endsClause 39 = .ok (.getfield 27, 3) := by decide +kernel
theorem dX3_endsClause_42 : decode cX3_endsClause 42 = .ok (.iconst 1, 1) := by decide +kernel
theorem dX3_endsClause_43 : decode cX3_endsClause 43 = .ok (.iadd, 1) := by decide +kernel
theorem dX3_endsClause_44 : decode cX3_endsClause 44 = .ok (.putfield 27, 3) := by decide +kernel
theorem dX3_endsClause_47 : decode cX3_endsClause 47 = .ok (.iconst 1, 1) := by decide +kernel
theorem dX3_endsClause_48 : decode cX3_endsClause 48 = .ok (.ireturn, 1) := by decide +kernel
abbrev rm_X3_endsClause : Room := { frames := 2, cells := 0, slots := 0, locals := 42 }
abbrev jJ_X3_endsClause (l : Launch) (G : jx_G) (t : jx_T) (sz : Nat) (out : (Int32 × jx_M)) (pc : Nat) (lv : List (Nat × Value)) (st : List Value) (σ : jx_M) : Prop := jx_J l (ll_env G t) (ll_dyn G t) (ll_rg G) sz RX3 "endsClause" cX3_endsClause 1 (some .boolean) rm_X3_endsClause (fun below args s => MQ below (jx_Qi (ll_dyn G t) out.2 out.1 (jx_A (ll_rg G) sz)) args s 0 0 (jx_A (ll_rg G) sz)) 0 0 pc lv st σ
def f_X3_endsClause (t : jx_T) (σ : jx_M)  : Option (Int32 × jx_M) :=
  jx_bd (f_X3_writePending t σ (-3 : Int32)) (fun q1 => if 0 < (q1 0 32) then some ((0 : Int32), q1) else if (q1 0 30) < (10 : Int32) then jx_gd (jx_in (q1 0 30) 10) (jx_lt (jx_mu q1 63 (q1 0 30).toNatClampNeg (q1 0 31)) (fun σ5 => jx_lt (jx_mu σ5 0 30 ((σ5 0 30) + (1 : Int32))) (fun σ6 => some ((1 : Int32), σ6)))) else some ((0 : Int32), q1))
set_option maxHeartbeats 4000000 in
set_option maxRecDepth 100000 in
theorem k_X3_endsClause (l : Launch) (G : jx_G) (t : jx_T) (hG : ll_ok G) (sz : Nat) (σ : jx_M)  (out : (Int32 × jx_M)) (h : f_X3_endsClause t σ = some out) : Met l yX3_endsClause (Cond.code yX3_endsClause cX3_endsClause 1 (some .boolean) :: jx_ws) rm_X3_endsClause (jx_Pc (ll_env G t) (ll_dyn G t) (ll_rg G) sz σ [.ref (G.2 25)]) (jx_Qi (ll_dyn G t) out.2 out.1 (jx_A (ll_rg G) sz)) 0 0 (jx_A (ll_rg G) sz) := by
  unfold f_X3_endsClause at h
  refine jx_met (by decide) (Nat.le_of_ble_eq_true rfl) ?_
  refine jx_sub (lv' := [(0, .ref (G.2 25))]) [0] rfl ?_
  refine jx_aload_n (pc := 0) (k0 := 0) rfl dX3_endsClause_0 ?_
  refine jx_bipush (pc := 1) (v := (-3 : Int32)) (by decide) dX3_endsClause_1 ?_
  obtain ⟨q1, eq1, h⟩ := jx_bd_o h
  refine jx_callVv (pc := 3) [.int (-3 : Int32)] (fun sz' => k_X3_writePending l G t hG sz' σ (-3 : Int32) q1 eq1) kv_X3_150 ll_jok ll_rcreader rfl rfl (Nat.le_of_ble_eq_true rfl) ⟨⟨rfl, rfl⟩, ⟨Nat.le_of_ble_eq_true rfl, Nat.le_of_ble_eq_true rfl⟩, Nat.zero_le _, Nat.zero_le _⟩ dX3_endsClause_3 ?_
  refine jx_aload_n (pc := 6) (k0 := 0) rfl dX3_endsClause_6 ?_
  refine ll_greader_pended (pc := 7) fl_X3_34 dX3_endsClause_7 ?_
  refine jx_if_gt (pc := 10) (tgt := 22) dX3_endsClause_10 (by decide) (fun c2 => ?_) (fun c2 => ?_)
  · have h := jx_t c2 h
    refine jx_iconst (pc := 22) (v := (0 : Int32)) (by decide) dX3_endsClause_22 ?_
    have h := Option.some.inj h
    subst h
    exact jx_zret (pc := 23) (Or.inl rfl) dX3_endsClause_23
  · have h := jx_f c2 h
    refine jx_aload_n (pc := 13) (k0 := 0) rfl dX3_endsClause_13 ?_
    refine ll_greader_clauses (pc := 14) fl_X3_27 dX3_endsClause_14 ?_
    refine jx_bipush (pc := 17) (v := (10 : Int32)) (by decide) dX3_endsClause_17 ?_
    refine jx_icmp_lt (pc := 19) (tgt := 24) dX3_endsClause_19 (by decide) (fun c3 => ?_) (fun c3 => ?_)
    · have h := jx_t c3 h
      refine jx_aload_n (pc := 24) (k0 := 0) rfl dX3_endsClause_24 ?_
      refine ll_greader_ends (pc := 25) fl_X3_18 dX3_endsClause_25 ?_
      refine jx_aload_n (pc := 28) (k0 := 0) rfl dX3_endsClause_28 ?_
      refine ll_greader_clauses (pc := 29) fl_X3_27 dX3_endsClause_29 ?_
      refine jx_aload_n (pc := 32) (k0 := 0) rfl dX3_endsClause_32 ?_
      refine ll_greader_codes (pc := 33) fl_X3_31 dX3_endsClause_33 ?_
      obtain ⟨g4, h⟩ := jx_gd_o h
      obtain ⟨σ5, eσ5, h⟩ := jx_lt_o h
      refine ll_s (pc := 36) (k := 63) hG (jx_in_o g4) rfl eσ5 dX3_endsClause_36 ?_
      refine jx_aload_n (pc := 37) (k0 := 0) rfl dX3_endsClause_37 ?_
      refine jx_dup (pc := 38) rfl dX3_endsClause_38 ?_
      refine ll_greader_clauses (pc := 39) fl_X3_27 dX3_endsClause_39 ?_
      refine jx_iconst (pc := 42) (v := (1 : Int32)) (by decide) dX3_endsClause_42 ?_
      refine jx_iadd (pc := 43) dX3_endsClause_43 ?_
      obtain ⟨σ6, eσ6, h⟩ := jx_lt_o h
      refine ll_preader_clauses (pc := 44) hG fl_X3_27 eσ6 dX3_endsClause_44 ?_
      refine jx_iconst (pc := 47) (v := (1 : Int32)) (by decide) dX3_endsClause_47 ?_
      have h := Option.some.inj h
      subst h
      exact jx_zret (pc := 48) (Or.inr rfl) dX3_endsClause_48
    · have h := jx_f c3 h
      refine jx_iconst (pc := 22) (v := (0 : Int32)) (by decide) dX3_endsClause_22 ?_
      have h := Option.some.inj h
      subst h
      exact jx_zret (pc := 23) (Or.inl rfl) dX3_endsClause_23
theorem dX5_place_0 : decode cX5_place 0 = .ok (.aload_n 0, 1) := by decide +kernel
theorem dX5_place_1 : decode cX5_place 1 = .ok (.getfield 12, 3) := by decide +kernel
theorem dX5_place_4 : decode cX5_place 4 = .ok (.iload_n 1, 1) := by decide +kernel
theorem dX5_place_5 : decode cX5_place 5 = .ok (.invokevirtual 85, 3) := by decide +kernel
theorem dX5_place_8 : decode cX5_place 8 = .ok (.ifCond .eq 12, 3) := by decide +kernel
theorem dX5_place_11 : decode cX5_place 11 = .ok (.iload_n 2, 1) := by decide +kernel
theorem dX5_place_12 : decode cX5_place 12 = .ok (.iconst 0, 1) := by decide +kernel
theorem dX5_place_13 : decode cX5_place 13 = .ok (.iconst 2, 1) := by decide +kernel
theorem dX5_place_14 : decode cX5_place 14 = .ok (.invokestatic 48, 3) := by decide +kernel
theorem dX5_place_17 : decode cX5_place 17 = .ok (.ifCond .ne 5, 3) := by decide +kernel
theorem dX5_place_20 : decode cX5_place 20 = .ok (.iconst (-1), 1) := by decide +kernel
theorem dX5_place_21 : decode cX5_place 21 = .ok (.ireturn, 1) := by decide +kernel
theorem dX5_place_22 : decode cX5_place 22 = .ok (.aload_n 0, 1) := by decide +kernel
theorem dX5_place_23 : decode cX5_place 23 = .ok (.iload_n 2, 1) := by decide +kernel
theorem dX5_place_24 : decode cX5_place 24 = .ok (.iload_n 3, 1) := by decide +kernel
theorem dX5_place_25 : decode cX5_place 25 = .ok (.invokevirtual 89, 3) := by decide +kernel
theorem dX5_place_28 : decode cX5_place 28 = .ok (.ifCond .ne 6, 3) := by decide +kernel
theorem dX5_place_31 : decode cX5_place 31 = .ok (.bipush (-2), 2) := by decide +kernel
theorem dX5_place_33 : decode cX5_place 33 = .ok (.ireturn, 1) := by decide +kernel
theorem dX5_place_34 : decode cX5_place 34 = .ok (.aload_n 0, 1) := by decide +kernel
theorem dX5_place_35 : decode cX5_place 35 = .ok (.getfield 12, 3) := by decide +kernel
theorem dX5_place_38 : decode cX5_place 38 = .ok (.getfield 93, 3) := by decide +kernel
theorem dX5_place_41 : decode cX5_place 41 = .ok (.iload_n 1, 1) := by decide +kernel
theorem dX5_place_42 : decode cX5_place 42 = .ok (.aaload, 1) := by decide +kernel
theorem dX5_place_43 : decode cX5_place 43 = .ok (.iload_n 2, 1) := by decide +kernel
theorem dX5_place_44 : decode cX5_place 44 = .ok (.iaload, 1) := by decide +kernel
theorem dX5_place_45 : decode cX5_place 45 = .ok (.istore 4, 2) := by decide +kernel
theorem dX5_place_47 : decode cX5_place 47 = .ok (.aload_n 0, 1) := by decide +kernel
theorem dX5_place_48 : decode cX5_place 48 = .ok (.getfield 12, 3) := by decide +kernel
theorem dX5_place_51 : decode cX5_place 51 = .ok (.getfield 93, 3) := by decide +kernel
theorem dX5_place_54 : decode cX5_place 54 = .ok (.iload_n 1, 1) := by decide +kernel
theorem dX5_place_55 : decode cX5_place 55 = .ok (.aaload, 1) := by decide +kernel
theorem dX5_place_56 : decode cX5_place 56 = .ok (.iload_n 2, 1) := by decide +kernel
theorem dX5_place_57 : decode cX5_place 57 = .ok (.iload_n 3, 1) := by decide +kernel
theorem dX5_place_58 : decode cX5_place 58 = .ok (.iastore, 1) := by decide +kernel
theorem dX5_place_59 : decode cX5_place 59 = .ok (.iload 4, 2) := by decide +kernel
theorem dX5_place_61 : decode cX5_place 61 = .ok (.ireturn, 1) := by decide +kernel
abbrev rm_X5_place : Room := { frames := 2, cells := 0, slots := 0, locals := 44 }
abbrev jJ_X5_place (l : Launch) (G : jx_G) (t : jx_T) (sz : Nat) (out : (Int32 × jx_M)) (pc : Nat) (lv : List (Nat × Value)) (st : List Value) (σ : jx_M) : Prop := jx_J l (ll_env G t) (ll_dyn G t) (ll_rg G) sz RX5 "place" cX5_place 5 (some .int) rm_X5_place (fun below args s => MQ below (jx_Qi (ll_dyn G t) out.2 out.1 (jx_A (ll_rg G) sz)) args s 0 0 (jx_A (ll_rg G) sz)) 0 0 pc lv st σ
def f_X5_place (t : jx_T) (σ : jx_M) (a1 : Int32) (a2 : Int32) (a3 : Int32) : Option (Int32 × jx_M) :=
  jx_bd (f_X1_hasPlace t σ a1) (fun q1 => if q1 = 0 then some ((-1 : Int32), σ) else jx_bd (f_X5_within a2 (0 : Int32) (2 : Int32)) (fun q3 => if q3 = 0 then some ((-1 : Int32), σ) else jx_bd (f_X5_mayBecome t σ a2 a3) (fun q5 => if q5 = 0 then some ((-2 : Int32), σ) else jx_gd (jx_in a1 7) (jx_gd (jx_in a2 (ll_len (1 + a1.toNatClampNeg))) (jx_lt ((σ (1 + a1.toNatClampNeg) a2.toNatClampNeg)) (fun x9 => jx_gd (jx_in a1 7) (jx_gd (jx_in a2 (ll_len (1 + a1.toNatClampNeg))) (jx_lt (jx_mu σ (1 + a1.toNatClampNeg) a2.toNatClampNeg a3) (fun σ12 => some (x9, σ12))))))))))
set_option maxHeartbeats 4000000 in
set_option maxRecDepth 100000 in
theorem k_X5_place (l : Launch) (G : jx_G) (t : jx_T) (hG : ll_ok G) (sz : Nat) (σ : jx_M) (a1 : Int32) (a2 : Int32) (a3 : Int32) (out : (Int32 × jx_M)) (h : f_X5_place t σ a1 a2 a3 = some out) : Met l yX5_place (Cond.code yX5_place cX5_place 5 (some .int) :: jx_ws) rm_X5_place (jx_Pc (ll_env G t) (ll_dyn G t) (ll_rg G) sz σ [.ref (G.2 20), .int a1, .int a2, .int a3]) (jx_Qi (ll_dyn G t) out.2 out.1 (jx_A (ll_rg G) sz)) 0 0 (jx_A (ll_rg G) sz) := by
  unfold f_X5_place at h
  refine jx_met (by decide) (Nat.le_of_ble_eq_true rfl) ?_
  refine jx_sub (lv' := [(0, .ref (G.2 20)), (1, .int a1), (2, .int a2), (3, .int a3)]) [0, 1, 2, 3] rfl ?_
  refine jx_aload_n (pc := 0) (k0 := 0) rfl dX5_place_0 ?_
  refine ll_glamp_now (pc := 1) fl_X5_12 dX5_place_1 ?_
  refine jx_iload_n (pc := 4) (k0 := 1) rfl dX5_place_4 ?_
  obtain ⟨q1, eq1, h⟩ := jx_bd_o h
  refine jx_callVi (pc := 5) [.int a1] (fun sz' => k_X1_hasPlace l G t hG sz' σ a1 q1 eq1) kv_X5_85 ll_jok ll_rcnow rfl rfl (Nat.le_of_ble_eq_true rfl) ⟨⟨rfl, rfl⟩, ⟨Nat.le_of_ble_eq_true rfl, Nat.le_of_ble_eq_true rfl⟩, Nat.zero_le _, Nat.zero_le _⟩ dX5_place_5 ?_
  refine jx_if_eq (pc := 8) (tgt := 20) dX5_place_8 (by decide) (fun c2 => ?_) (fun c2 => ?_)
  · have h := jx_t c2 h
    refine jx_iconst (pc := 20) (v := (-1 : Int32)) (by decide) dX5_place_20 ?_
    have h := Option.some.inj h
    subst h
    exact jx_iret (pc := 21) dX5_place_21
  · have h := jx_f c2 h
    refine jx_iload_n (pc := 11) (k0 := 2) rfl dX5_place_11 ?_
    refine jx_iconst (pc := 12) (v := (0 : Int32)) (by decide) dX5_place_12 ?_
    refine jx_iconst (pc := 13) (v := (2 : Int32)) (by decide) dX5_place_13 ?_
    obtain ⟨q3, eq3, h⟩ := jx_bd_o h
    refine jx_callSi (pc := 14) [.int a2, .int (0 : Int32), .int (2 : Int32)] (fun sz' => k_X5_within l G t hG sz' σ a2 (0 : Int32) (2 : Int32) q3 eq3) ks_X5_48 ll_jok rfl rfl (Nat.le_of_ble_eq_true rfl) ⟨⟨rfl, rfl⟩, ⟨Nat.le_of_ble_eq_true rfl, Nat.le_of_ble_eq_true rfl⟩, Nat.zero_le _, Nat.zero_le _⟩ dX5_place_14 ?_
    refine jx_if_ne (pc := 17) (tgt := 22) dX5_place_17 (by decide) (fun c4 => ?_) (fun c4 => ?_)
    · have h := jx_f c4 h
      refine jx_aload_n (pc := 22) (k0 := 0) rfl dX5_place_22 ?_
      refine jx_iload_n (pc := 23) (k0 := 2) rfl dX5_place_23 ?_
      refine jx_iload_n (pc := 24) (k0 := 3) rfl dX5_place_24 ?_
      obtain ⟨q5, eq5, h⟩ := jx_bd_o h
      refine jx_callVi (pc := 25) [.int a2, .int a3] (fun sz' => k_X5_mayBecome l G t hG sz' σ a2 a3 q5 eq5) kv_X5_89 ll_jok ll_rclamp rfl rfl (Nat.le_of_ble_eq_true rfl) ⟨⟨rfl, rfl⟩, ⟨Nat.le_of_ble_eq_true rfl, Nat.le_of_ble_eq_true rfl⟩, Nat.zero_le _, Nat.zero_le _⟩ dX5_place_25 ?_
      refine jx_if_ne (pc := 28) (tgt := 34) dX5_place_28 (by decide) (fun c6 => ?_) (fun c6 => ?_)
      · have h := jx_f c6 h
        refine jx_aload_n (pc := 34) (k0 := 0) rfl dX5_place_34 ?_
        refine ll_glamp_now (pc := 35) fl_X5_12 dX5_place_35 ?_
        refine ll_gnow_place (pc := 38) fl_X5_93 dX5_place_38 ?_
        refine jx_iload_n (pc := 41) (k0 := 1) rfl dX5_place_41 ?_
        obtain ⟨g7, h⟩ := jx_gd_o h
        refine ll_a_now_place (pc := 42) (jx_in_o g7) dX5_place_42 ?_
        refine jx_iload_n (pc := 43) (k0 := 2) rfl dX5_place_43 ?_
        obtain ⟨g8, h⟩ := jx_gd_o h
        refine ll_l (pc := 44) (k := (1 + a1.toNatClampNeg)) (jx_in_o g8) rfl dX5_place_44 ?_
        obtain ⟨x9, ex9, h⟩ := jx_lt_o h
        refine jx_istore (pc := 45) (i := 4) ex9 (by decide) (lv' := [(4, .int x9), (0, .ref (G.2 20)), (1, .int a1), (2, .int a2), (3, .int a3)]) rfl dX5_place_45 ?_
        refine jx_aload_n (pc := 47) (k0 := 0) rfl dX5_place_47 ?_
        refine ll_glamp_now (pc := 48) fl_X5_12 dX5_place_48 ?_
        refine ll_gnow_place (pc := 51) fl_X5_93 dX5_place_51 ?_
        refine jx_iload_n (pc := 54) (k0 := 1) rfl dX5_place_54 ?_
        obtain ⟨g10, h⟩ := jx_gd_o h
        refine ll_a_now_place (pc := 55) (jx_in_o g10) dX5_place_55 ?_
        refine jx_iload_n (pc := 56) (k0 := 2) rfl dX5_place_56 ?_
        refine jx_iload_n (pc := 57) (k0 := 3) rfl dX5_place_57 ?_
        obtain ⟨g11, h⟩ := jx_gd_o h
        obtain ⟨σ12, eσ12, h⟩ := jx_lt_o h
        refine ll_s (pc := 58) (k := (1 + a1.toNatClampNeg)) hG (jx_in_o g11) rfl eσ12 dX5_place_58 ?_
        refine jx_iload (pc := 59) (i := 4) rfl dX5_place_59 ?_
        have h := Option.some.inj h
        subst h
        exact jx_iret (pc := 61) dX5_place_61
      · have h := jx_t c6 h
        refine jx_bipush (pc := 31) (v := (-2 : Int32)) (by decide) dX5_place_31 ?_
        have h := Option.some.inj h
        subst h
        exact jx_iret (pc := 33) dX5_place_33
    · have h := jx_t c4 h
      refine jx_iconst (pc := 20) (v := (-1 : Int32)) (by decide) dX5_place_20 ?_
      have h := Option.some.inj h
      subst h
      exact jx_iret (pc := 21) dX5_place_21
theorem dX2_chart_0 : decode cX2_chart 0 = .ok (.iconst 0, 1) := by decide +kernel
theorem dX2_chart_1 : decode cX2_chart 1 = .ok (.istore_n 1, 1) := by decide +kernel
theorem dX2_chart_2 : decode cX2_chart 2 = .ok (.iload_n 1, 1) := by decide +kernel
theorem dX2_chart_3 : decode cX2_chart 3 = .ok (.aload_n 0, 1) := by decide +kernel
theorem dX2_chart_4 : decode cX2_chart 4 = .ok (.getfield 36, 3) := by decide +kernel
theorem dX2_chart_7 : decode cX2_chart 7 = .ok (.getfield 40, 3) := by decide +kernel
theorem dX2_chart_10 : decode cX2_chart 10 = .ok (.if_icmp .ge 110, 3) := by decide +kernel
theorem dX2_chart_13 : decode cX2_chart 13 = .ok (.iconst 0, 1) := by decide +kernel
theorem dX2_chart_14 : decode cX2_chart 14 = .ok (.istore_n 2, 1) := by decide +kernel
theorem dX2_chart_15 : decode cX2_chart 15 = .ok (.iload_n 2, 1) := by decide +kernel
theorem dX2_chart_16 : decode cX2_chart 16 = .ok (.bipush 12, 2) := by decide +kernel
theorem dX2_chart_18 : decode cX2_chart 18 = .ok (.if_icmp .ge 34, 3) := by decide +kernel
theorem dX2_chart_21 : decode cX2_chart 21 = .ok (.aload_n 0, 1) := by decide +kernel
theorem dX2_chart_22 : decode cX2_chart 22 = .ok (.getfield 11, 3) := by decide +kernel
theorem dX2_chart_25 : decode cX2_chart 25 = .ok (.iload_n 2, 1) := by decide +kernel
theorem dX2_chart_26 : decode cX2_chart 26 = .ok (.aaload, 1) := by decide +kernel
theorem dX2_chart_27 : decode cX2_chart 27 = .ok (.iload_n 1, 1) := by decide +kernel
theorem dX2_chart_28 : decode cX2_chart 28 = .ok (.aload_n 0, 1) := by decide +kernel
theorem dX2_chart_29 : decode cX2_chart 29 = .ok (.getfield 36, 3) := by decide +kernel
theorem dX2_chart_32 : decode cX2_chart 32 = .ok (.iload_n 1, 1) := by decide +kernel
theorem dX2_chart_33 : decode cX2_chart 33 = .ok (.aload_n 0, 1) := by decide +kernel
theorem dX2_chart_34 : decode cX2_chart 34 = .ok (.getfield 36, 3) := by decide +kernel
theorem dX2_chart_37 : decode cX2_chart 37 = .ok (.getfield 45, 3) := by decide +kernel
theorem dX2_chart_40 : decode cX2_chart 40 = .ok (.iload_n 2, 1) := by decide +kernel
theorem dX2_chart_41 : decode cX2_chart 41 = .ok (.iadd, 1) := by decide +kernel
theorem dX2_chart_42 : decode cX2_chart 42 = .ok (.invokevirtual 48, 3) := by decide +kernel
theorem dX2_chart_45 : decode cX2_chart 45 = .ok (.iastore, 1) := by decide +kernel
theorem dX2_chart_46 : decode cX2_chart 46 = .ok (.iinc 2 1, 3) := by decide +kernel
theorem dX2_chart_49 : decode cX2_chart 49 = .ok (.goto (-34), 3) := by decide +kernel
theorem dX2_chart_52 : decode cX2_chart 52 = .ok (.iconst 0, 1) := by decide +kernel
theorem dX2_chart_53 : decode cX2_chart 53 = .ok (.istore_n 2, 1) := by decide +kernel
theorem dX2_chart_54 : decode cX2_chart 54 = .ok (.iload_n 2, 1) := by decide +kernel
theorem dX2_chart_55 : decode cX2_chart 55 = .ok (.iconst 3, 1) := by decide +kernel
theorem dX2_chart_56 : decode cX2_chart 56 = .ok (.if_icmp .ge 34, 3) := by decide +kernel
theorem dX2_chart_59 : decode cX2_chart 59 = .ok (.aload_n 0, 1) := by decide +kernel
theorem dX2_chart_60 : decode cX2_chart 60 = .ok (.getfield 16, 3) := by decide +kernel
theorem dX2_chart_63 : decode cX2_chart 63 = .ok (.iload_n 2, 1) := by decide +kernel
theorem dX2_chart_64 : decode cX2_chart 64 = .ok (.aaload, 1) := by decide +kernel
theorem dX2_chart_65 : decode cX2_chart 65 = .ok (.iload_n 1, 1) := by decide +kernel
theorem dX2_chart_66 : decode cX2_chart 66 = .ok (.aload_n 0, 1) := by decide +kernel
theorem dX2_chart_67 : decode cX2_chart 67 = .ok (.getfield 36, 3) := by decide +kernel
theorem dX2_chart_70 : decode cX2_chart 70 = .ok (.iload_n 1, 1) := by decide +kernel
theorem dX2_chart_71 : decode cX2_chart 71 = .ok (.aload_n 0, 1) := by decide +kernel
theorem dX2_chart_72 : decode cX2_chart 72 = .ok (.getfield 36, 3) := by decide +kernel
theorem dX2_chart_75 : decode cX2_chart 75 = .ok (.getfield 45, 3) := by decide +kernel
theorem dX2_chart_78 : decode cX2_chart 78 = .ok (.iload_n 2, 1) := by decide +kernel
theorem dX2_chart_79 : decode cX2_chart 79 = .ok (.iadd, 1) := by decide +kernel
theorem dX2_chart_80 : decode cX2_chart 80 = .ok (.invokevirtual 51, 3) := by decide +kernel
theorem dX2_chart_83 : decode cX2_chart 83 = .ok (.iastore, 1) := by decide +kernel
theorem dX2_chart_84 : decode cX2_chart 84 = .ok (.iinc 2 1, 3) := by decide +kernel
theorem dX2_chart_87 : decode cX2_chart 87 = .ok (.goto (-33), 3) := by decide +kernel
theorem dX2_chart_90 : decode cX2_chart 90 = .ok (.aload_n 0, 1) := by decide +kernel
theorem dX2_chart_91 : decode cX2_chart 91 = .ok (.getfield 19, 3) := by decide +kernel
theorem dX2_chart_94 : decode cX2_chart 94 = .ok (.iload_n 1, 1) := by decide +kernel
theorem dX2_chart_95 : decode cX2_chart 95 = .ok (.aload_n 0, 1) := by decide +kernel
theorem dX2_chart_96 : decode cX2_chart 96 = .ok (.getfield 36, 3) := by decide +kernel
theorem dX2_chart_99 : decode cX2_chart 99 = .ok (.iload_n 1, 1) := by decide +kernel
theorem dX2_chart_100 : decode cX2_chart 100 = .ok (.aload_n 0, 1) := by decide +kernel
theorem dX2_chart_101 : decode cX2_chart 101 = .ok (.getfield 36, 3) := by decide +kernel
theorem dX2_chart_104 : decode cX2_chart 104 = .ok (.getfield 45, 3) := by decide +kernel
theorem dX2_chart_107 : decode cX2_chart 107 = .ok (.bipush 12, 2) := by decide +kernel
theorem dX2_chart_109 : decode cX2_chart 109 = .ok (.iadd, 1) := by decide +kernel
theorem dX2_chart_110 : decode cX2_chart 110 = .ok (.invokevirtual 53, 3) := by decide +kernel
theorem dX2_chart_113 : decode cX2_chart 113 = .ok (.iastore, 1) := by decide +kernel
theorem dX2_chart_114 : decode cX2_chart 114 = .ok (.iinc 1 1, 3) := by decide +kernel
theorem dX2_chart_117 : decode cX2_chart 117 = .ok (.goto (-115), 3) := by decide +kernel
theorem dX2_chart_120 : decode cX2_chart 120 = .ok (.return_, 1) := by decide +kernel
abbrev rm_X2_chart : Room := { frames := 3, cells := 0, slots := 0, locals := 74 }
abbrev jJ_X2_chart (l : Launch) (G : jx_G) (t : jx_T) (sz : Nat) (out : jx_M) (pc : Nat) (lv : List (Nat × Value)) (st : List Value) (σ : jx_M) : Prop := jx_J l (ll_env G t) (ll_dyn G t) (ll_rg G) sz RX2 "chart" cX2_chart 3 none rm_X2_chart (fun below args s => MQ below (jx_Qv (ll_dyn G t) out (jx_A (ll_rg G) sz)) args s 0 0 (jx_A (ll_rg G) sz)) 0 0 pc lv st σ
def g_X2_chart_54 (t : jx_T) (k2 : jx_M → Int32 → Option jx_M) (k54 : jx_M → Int32 → Int32 → Option jx_M) (σ : jx_M) (v1 : Int32) (v2 : Int32) : Option jx_M :=
  if (3 : Int32) ≤ v2 then jx_bd (f_X1_weight t σ v1 ((σ 0 1) + (12 : Int32))) (fun q2 => jx_gd (jx_in v1 7) (jx_lt (jx_mu q2.2 56 v1.toNatClampNeg q2.1) (fun σ4 => jx_lt (v1 + (1 : Int32)) (fun x5 => (k2 σ4 x5))))) else jx_gd (jx_in v2 3) (jx_bd (f_X1_filled t σ v1 ((σ 0 1) + v2)) (fun q7 => jx_gd (jx_in v1 (ll_len (53 + v2.toNatClampNeg))) (jx_lt (jx_mu q7.2 (53 + v2.toNatClampNeg) v1.toNatClampNeg q7.1) (fun σ9 => jx_lt (v2 + (1 : Int32)) (fun x10 => (k54 σ9 v1 x10))))))
set_option maxHeartbeats 4000000 in
set_option maxRecDepth 100000 in
theorem jg_X2_chart_54 (l : Launch) (G : jx_G) (t : jx_T) (hG : ll_ok G) (sz : Nat) (out : jx_M) (k2 : jx_M → Int32 → Option jx_M) (h2 : ∀ (σ : jx_M) (v1 : Int32), k2 σ v1 = some out → jJ_X2_chart l G t sz out 2 [(0, .ref (G.2 23)), (1, .int v1)] [] σ) (k54 : jx_M → Int32 → Int32 → Option jx_M) (h54 : ∀ (σ : jx_M) (v1 : Int32) (v2 : Int32), k54 σ v1 v2 = some out → jJ_X2_chart l G t sz out 54 [(0, .ref (G.2 23)), (1, .int v1), (2, .int v2)] [] σ) (σ : jx_M) (v1 : Int32) (v2 : Int32) (h : g_X2_chart_54 t k2 k54 σ v1 v2 = some out) : jJ_X2_chart l G t sz out 54 [(0, .ref (G.2 23)), (1, .int v1), (2, .int v2)] [] σ := by
  unfold g_X2_chart_54 at h
  refine jx_iload_n (pc := 54) (k0 := 2) rfl dX2_chart_54 ?_
  refine jx_iconst (pc := 55) (v := (3 : Int32)) (by decide) dX2_chart_55 ?_
  refine jx_icmp_ge (pc := 56) (tgt := 90) dX2_chart_56 (by decide) (fun c1 => ?_) (fun c1 => ?_)
  · have h := jx_t c1 h
    refine jx_aload_n (pc := 90) (k0 := 0) rfl dX2_chart_90 ?_
    refine ll_gnight_weight (pc := 91) fl_X2_19 dX2_chart_91 ?_
    refine jx_iload_n (pc := 94) (k0 := 1) rfl dX2_chart_94 ?_
    refine jx_aload_n (pc := 95) (k0 := 0) rfl dX2_chart_95 ?_
    refine ll_gnight_canal (pc := 96) fl_X2_36 dX2_chart_96 ?_
    refine jx_iload_n (pc := 99) (k0 := 1) rfl dX2_chart_99 ?_
    refine jx_aload_n (pc := 100) (k0 := 0) rfl dX2_chart_100 ?_
    refine ll_gnight_canal (pc := 101) fl_X2_36 dX2_chart_101 ?_
    refine ll_gnow_minute (pc := 104) fl_X2_45 dX2_chart_104 ?_
    refine jx_bipush (pc := 107) (v := (12 : Int32)) (by decide) dX2_chart_107 ?_
    refine jx_iadd (pc := 109) dX2_chart_109 ?_
    obtain ⟨q2, eq2, h⟩ := jx_bd_o h
    refine jx_callVi (pc := 110) [.int v1, .int ((σ 0 1) + (12 : Int32))] (fun sz' => k_X1_weight l G t hG sz' σ v1 ((σ 0 1) + (12 : Int32)) q2 eq2) kv_X2_53 ll_jok ll_rcnow rfl rfl (Nat.le_of_ble_eq_true rfl) ⟨⟨rfl, rfl⟩, ⟨Nat.le_of_ble_eq_true rfl, Nat.le_of_ble_eq_true rfl⟩, Nat.zero_le _, Nat.zero_le _⟩ dX2_chart_110 ?_
    obtain ⟨g3, h⟩ := jx_gd_o h
    obtain ⟨σ4, eσ4, h⟩ := jx_lt_o h
    refine ll_s (pc := 113) (k := 56) hG (jx_in_o g3) rfl eσ4 dX2_chart_113 ?_
    obtain ⟨x5, ex5, h⟩ := jx_lt_o h
    refine jx_iinc (pc := 114) (i := 1) (v := v1) rfl ex5 (n := 1) (by decide) (by decide) (lv' := [(1, .int x5), (0, .ref (G.2 23)), (2, .int v2)]) rfl dX2_chart_114 ?_
    refine jx_goto (pc := 117) (tgt := 2) dX2_chart_117 (by decide) ?_
    exact jx_sub [1, 0] rfl (h2 σ4 x5 h)
  · have h := jx_f c1 h
    refine jx_aload_n (pc := 59) (k0 := 0) rfl dX2_chart_59 ?_
    refine ll_gnight_filled (pc := 60) fl_X2_16 dX2_chart_60 ?_
    refine jx_iload_n (pc := 63) (k0 := 2) rfl dX2_chart_63 ?_
    obtain ⟨g6, h⟩ := jx_gd_o h
    refine ll_a_night_filled (pc := 64) (jx_in_o g6) dX2_chart_64 ?_
    refine jx_iload_n (pc := 65) (k0 := 1) rfl dX2_chart_65 ?_
    refine jx_aload_n (pc := 66) (k0 := 0) rfl dX2_chart_66 ?_
    refine ll_gnight_canal (pc := 67) fl_X2_36 dX2_chart_67 ?_
    refine jx_iload_n (pc := 70) (k0 := 1) rfl dX2_chart_70 ?_
    refine jx_aload_n (pc := 71) (k0 := 0) rfl dX2_chart_71 ?_
    refine ll_gnight_canal (pc := 72) fl_X2_36 dX2_chart_72 ?_
    refine ll_gnow_minute (pc := 75) fl_X2_45 dX2_chart_75 ?_
    refine jx_iload_n (pc := 78) (k0 := 2) rfl dX2_chart_78 ?_
    refine jx_iadd (pc := 79) dX2_chart_79 ?_
    obtain ⟨q7, eq7, h⟩ := jx_bd_o h
    refine jx_callVi (pc := 80) [.int v1, .int ((σ 0 1) + v2)] (fun sz' => k_X1_filled l G t hG sz' σ v1 ((σ 0 1) + v2) q7 eq7) kv_X2_51 ll_jok ll_rcnow rfl rfl (Nat.le_of_ble_eq_true rfl) ⟨⟨rfl, rfl⟩, ⟨Nat.le_of_ble_eq_true rfl, Nat.le_of_ble_eq_true rfl⟩, Nat.zero_le _, Nat.zero_le _⟩ dX2_chart_80 ?_
    obtain ⟨g8, h⟩ := jx_gd_o h
    obtain ⟨σ9, eσ9, h⟩ := jx_lt_o h
    refine ll_s (pc := 83) (k := (53 + v2.toNatClampNeg)) hG (jx_in_o g8) rfl eσ9 dX2_chart_83 ?_
    obtain ⟨x10, ex10, h⟩ := jx_lt_o h
    refine jx_iinc (pc := 84) (i := 2) (v := v2) rfl ex10 (n := 1) (by decide) (by decide) (lv' := [(2, .int x10), (0, .ref (G.2 23)), (1, .int v1)]) rfl dX2_chart_84 ?_
    refine jx_goto (pc := 87) (tgt := 54) dX2_chart_87 (by decide) ?_
    exact jx_sub [1, 2, 0] rfl (h54 σ9 v1 x10 h)
def b_X2_chart_54 (t : jx_T) (k2 : jx_M → Int32 → Option jx_M) : Nat → jx_M → Int32 → Int32 → Option jx_M
  | 0, _, _, _ => none
  | n + 1, σ, v1, v2 => g_X2_chart_54 t k2 (b_X2_chart_54 t k2 n) σ v1 v2
theorem jb_X2_chart_54 (l : Launch) (G : jx_G) (t : jx_T) (hG : ll_ok G) (sz : Nat) (out : jx_M) (k2 : jx_M → Int32 → Option jx_M) (h2 : ∀ (σ : jx_M) (v1 : Int32), k2 σ v1 = some out → jJ_X2_chart l G t sz out 2 [(0, .ref (G.2 23)), (1, .int v1)] [] σ) : ∀ (n : Nat) (σ : jx_M) (v1 : Int32) (v2 : Int32), b_X2_chart_54 t k2 n σ v1 v2 = some out → jJ_X2_chart l G t sz out 54 [(0, .ref (G.2 23)), (1, .int v1), (2, .int v2)] [] σ := by
  intro n
  induction n with
  | zero =>
    intro σ v1 v2 h
    cases h
  | succ n ih =>
    intro σ v1 v2 h
    exact jg_X2_chart_54 l G t hG sz out k2 h2 (b_X2_chart_54 t k2 n) ih σ v1 v2 h
def g_X2_chart_15 (t : jx_T) (k2 : jx_M → Int32 → Option jx_M) (k15 : jx_M → Int32 → Int32 → Option jx_M) (σ : jx_M) (v1 : Int32) (v2 : Int32) : Option jx_M :=
  if (12 : Int32) ≤ v2 then (b_X2_chart_54 t k2 jx_fuel σ v1 (0 : Int32)) else jx_gd (jx_in v2 12) (jx_bd (f_X1_goal t σ v1 ((σ 0 1) + v2)) (fun q3 => jx_gd (jx_in v1 (ll_len (41 + v2.toNatClampNeg))) (jx_lt (jx_mu q3.2 (41 + v2.toNatClampNeg) v1.toNatClampNeg q3.1) (fun σ5 => jx_lt (v2 + (1 : Int32)) (fun x6 => (k15 σ5 v1 x6))))))
set_option maxHeartbeats 4000000 in
set_option maxRecDepth 100000 in
theorem jg_X2_chart_15 (l : Launch) (G : jx_G) (t : jx_T) (hG : ll_ok G) (sz : Nat) (out : jx_M) (k2 : jx_M → Int32 → Option jx_M) (h2 : ∀ (σ : jx_M) (v1 : Int32), k2 σ v1 = some out → jJ_X2_chart l G t sz out 2 [(0, .ref (G.2 23)), (1, .int v1)] [] σ) (k15 : jx_M → Int32 → Int32 → Option jx_M) (h15 : ∀ (σ : jx_M) (v1 : Int32) (v2 : Int32), k15 σ v1 v2 = some out → jJ_X2_chart l G t sz out 15 [(0, .ref (G.2 23)), (1, .int v1), (2, .int v2)] [] σ) (σ : jx_M) (v1 : Int32) (v2 : Int32) (h : g_X2_chart_15 t k2 k15 σ v1 v2 = some out) : jJ_X2_chart l G t sz out 15 [(0, .ref (G.2 23)), (1, .int v1), (2, .int v2)] [] σ := by
  unfold g_X2_chart_15 at h
  refine jx_iload_n (pc := 15) (k0 := 2) rfl dX2_chart_15 ?_
  refine jx_bipush (pc := 16) (v := (12 : Int32)) (by decide) dX2_chart_16 ?_
  refine jx_icmp_ge (pc := 18) (tgt := 52) dX2_chart_18 (by decide) (fun c1 => ?_) (fun c1 => ?_)
  · have h := jx_t c1 h
    refine jx_iconst (pc := 52) (v := (0 : Int32)) (by decide) dX2_chart_52 ?_
    refine jx_istore_n (pc := 53) (i := 2) rfl rfl (by decide) (lv' := [(2, .int (0 : Int32)), (0, .ref (G.2 23)), (1, .int v1)]) rfl dX2_chart_53 ?_
    exact jx_sub [1, 2, 0] rfl (jb_X2_chart_54 l G t hG sz out k2 h2 jx_fuel σ v1 (0 : Int32) h)
  · have h := jx_f c1 h
    refine jx_aload_n (pc := 21) (k0 := 0) rfl dX2_chart_21 ?_
    refine ll_gnight_goal (pc := 22) fl_X2_11 dX2_chart_22 ?_
    refine jx_iload_n (pc := 25) (k0 := 2) rfl dX2_chart_25 ?_
    obtain ⟨g2, h⟩ := jx_gd_o h
    refine ll_a_night_goal (pc := 26) (jx_in_o g2) dX2_chart_26 ?_
    refine jx_iload_n (pc := 27) (k0 := 1) rfl dX2_chart_27 ?_
    refine jx_aload_n (pc := 28) (k0 := 0) rfl dX2_chart_28 ?_
    refine ll_gnight_canal (pc := 29) fl_X2_36 dX2_chart_29 ?_
    refine jx_iload_n (pc := 32) (k0 := 1) rfl dX2_chart_32 ?_
    refine jx_aload_n (pc := 33) (k0 := 0) rfl dX2_chart_33 ?_
    refine ll_gnight_canal (pc := 34) fl_X2_36 dX2_chart_34 ?_
    refine ll_gnow_minute (pc := 37) fl_X2_45 dX2_chart_37 ?_
    refine jx_iload_n (pc := 40) (k0 := 2) rfl dX2_chart_40 ?_
    refine jx_iadd (pc := 41) dX2_chart_41 ?_
    obtain ⟨q3, eq3, h⟩ := jx_bd_o h
    refine jx_callVi (pc := 42) [.int v1, .int ((σ 0 1) + v2)] (fun sz' => k_X1_goal l G t hG sz' σ v1 ((σ 0 1) + v2) q3 eq3) kv_X2_48 ll_jok ll_rcnow rfl rfl (Nat.le_of_ble_eq_true rfl) ⟨⟨rfl, rfl⟩, ⟨Nat.le_of_ble_eq_true rfl, Nat.le_of_ble_eq_true rfl⟩, Nat.zero_le _, Nat.zero_le _⟩ dX2_chart_42 ?_
    obtain ⟨g4, h⟩ := jx_gd_o h
    obtain ⟨σ5, eσ5, h⟩ := jx_lt_o h
    refine ll_s (pc := 45) (k := (41 + v2.toNatClampNeg)) hG (jx_in_o g4) rfl eσ5 dX2_chart_45 ?_
    obtain ⟨x6, ex6, h⟩ := jx_lt_o h
    refine jx_iinc (pc := 46) (i := 2) (v := v2) rfl ex6 (n := 1) (by decide) (by decide) (lv' := [(2, .int x6), (0, .ref (G.2 23)), (1, .int v1)]) rfl dX2_chart_46 ?_
    refine jx_goto (pc := 49) (tgt := 15) dX2_chart_49 (by decide) ?_
    exact jx_sub [1, 2, 0] rfl (h15 σ5 v1 x6 h)
def b_X2_chart_15 (t : jx_T) (k2 : jx_M → Int32 → Option jx_M) : Nat → jx_M → Int32 → Int32 → Option jx_M
  | 0, _, _, _ => none
  | n + 1, σ, v1, v2 => g_X2_chart_15 t k2 (b_X2_chart_15 t k2 n) σ v1 v2
theorem jb_X2_chart_15 (l : Launch) (G : jx_G) (t : jx_T) (hG : ll_ok G) (sz : Nat) (out : jx_M) (k2 : jx_M → Int32 → Option jx_M) (h2 : ∀ (σ : jx_M) (v1 : Int32), k2 σ v1 = some out → jJ_X2_chart l G t sz out 2 [(0, .ref (G.2 23)), (1, .int v1)] [] σ) : ∀ (n : Nat) (σ : jx_M) (v1 : Int32) (v2 : Int32), b_X2_chart_15 t k2 n σ v1 v2 = some out → jJ_X2_chart l G t sz out 15 [(0, .ref (G.2 23)), (1, .int v1), (2, .int v2)] [] σ := by
  intro n
  induction n with
  | zero =>
    intro σ v1 v2 h
    cases h
  | succ n ih =>
    intro σ v1 v2 h
    exact jg_X2_chart_15 l G t hG sz out k2 h2 (b_X2_chart_15 t k2 n) ih σ v1 v2 h
def g_X2_chart_2 (t : jx_T) (k2 : jx_M → Int32 → Option jx_M) (σ : jx_M) (v1 : Int32) : Option jx_M :=
  if (σ 0 0) ≤ v1 then some σ else (b_X2_chart_15 t k2 jx_fuel σ v1 (0 : Int32))
set_option maxHeartbeats 4000000 in
set_option maxRecDepth 100000 in
theorem jg_X2_chart_2 (l : Launch) (G : jx_G) (t : jx_T) (hG : ll_ok G) (sz : Nat) (out : jx_M) (k2 : jx_M → Int32 → Option jx_M) (h2 : ∀ (σ : jx_M) (v1 : Int32), k2 σ v1 = some out → jJ_X2_chart l G t sz out 2 [(0, .ref (G.2 23)), (1, .int v1)] [] σ) (σ : jx_M) (v1 : Int32) (h : g_X2_chart_2 t k2 σ v1 = some out) : jJ_X2_chart l G t sz out 2 [(0, .ref (G.2 23)), (1, .int v1)] [] σ := by
  unfold g_X2_chart_2 at h
  refine jx_iload_n (pc := 2) (k0 := 1) rfl dX2_chart_2 ?_
  refine jx_aload_n (pc := 3) (k0 := 0) rfl dX2_chart_3 ?_
  refine ll_gnight_canal (pc := 4) fl_X2_36 dX2_chart_4 ?_
  refine ll_gnow_places (pc := 7) fl_X2_40 dX2_chart_7 ?_
  refine jx_icmp_ge (pc := 10) (tgt := 120) dX2_chart_10 (by decide) (fun c1 => ?_) (fun c1 => ?_)
  · have h := jx_t c1 h
    have h := Option.some.inj h
    subst h
    exact jx_vret (pc := 120) dX2_chart_120
  · have h := jx_f c1 h
    refine jx_iconst (pc := 13) (v := (0 : Int32)) (by decide) dX2_chart_13 ?_
    refine jx_istore_n (pc := 14) (i := 2) rfl rfl (by decide) (lv' := [(2, .int (0 : Int32)), (0, .ref (G.2 23)), (1, .int v1)]) rfl dX2_chart_14 ?_
    exact jx_sub [1, 2, 0] rfl (jb_X2_chart_15 l G t hG sz out k2 h2 jx_fuel σ v1 (0 : Int32) h)
def b_X2_chart_2 (t : jx_T)  : Nat → jx_M → Int32 → Option jx_M
  | 0, _, _ => none
  | n + 1, σ, v1 => g_X2_chart_2 t (b_X2_chart_2 t n) σ v1
theorem jb_X2_chart_2 (l : Launch) (G : jx_G) (t : jx_T) (hG : ll_ok G) (sz : Nat) (out : jx_M)  : ∀ (n : Nat) (σ : jx_M) (v1 : Int32), b_X2_chart_2 t n σ v1 = some out → jJ_X2_chart l G t sz out 2 [(0, .ref (G.2 23)), (1, .int v1)] [] σ := by
  intro n
  induction n with
  | zero =>
    intro σ v1 h
    cases h
  | succ n ih =>
    intro σ v1 h
    exact jg_X2_chart_2 l G t hG sz out (b_X2_chart_2 t n) ih σ v1 h
def f_X2_chart (t : jx_T) (σ : jx_M)  : Option jx_M :=
  (b_X2_chart_2 t jx_fuel σ (0 : Int32))
set_option maxHeartbeats 4000000 in
set_option maxRecDepth 100000 in
theorem k_X2_chart (l : Launch) (G : jx_G) (t : jx_T) (hG : ll_ok G) (sz : Nat) (σ : jx_M)  (out : jx_M) (h : f_X2_chart t σ = some out) : Met l yX2_chart (Cond.code yX2_chart cX2_chart 3 none :: jx_ws) rm_X2_chart (jx_Pc (ll_env G t) (ll_dyn G t) (ll_rg G) sz σ [.ref (G.2 23)]) (jx_Qv (ll_dyn G t) out (jx_A (ll_rg G) sz)) 0 0 (jx_A (ll_rg G) sz) := by
  unfold f_X2_chart at h
  refine jx_met (by decide) (Nat.le_of_ble_eq_true rfl) ?_
  refine jx_sub (lv' := [(0, .ref (G.2 23))]) [0] rfl ?_
  refine jx_iconst (pc := 0) (v := (0 : Int32)) (by decide) dX2_chart_0 ?_
  refine jx_istore_n (pc := 1) (i := 1) rfl rfl (by decide) (lv' := [(1, .int (0 : Int32)), (0, .ref (G.2 23))]) rfl dX2_chart_1 ?_
  exact jx_sub [1, 0] rfl (jb_X2_chart_2 l G t hG sz out jx_fuel σ (0 : Int32) h)
theorem dX2_lightAll_0 : decode cX2_lightAll 0 = .ok (.iconst 0, 1) := by decide +kernel
theorem dX2_lightAll_1 : decode cX2_lightAll 1 = .ok (.istore_n 1, 1) := by decide +kernel
theorem dX2_lightAll_2 : decode cX2_lightAll 2 = .ok (.iload_n 1, 1) := by decide +kernel
theorem dX2_lightAll_3 : decode cX2_lightAll 3 = .ok (.aload_n 0, 1) := by decide +kernel
theorem dX2_lightAll_4 : decode cX2_lightAll 4 = .ok (.getfield 36, 3) := by decide +kernel
theorem dX2_lightAll_7 : decode cX2_lightAll 7 = .ok (.getfield 74, 3) := by decide +kernel
theorem dX2_lightAll_10 : decode cX2_lightAll 10 = .ok (.if_icmp .ge 22, 3) := by decide +kernel
theorem dX2_lightAll_13 : decode cX2_lightAll 13 = .ok (.aload_n 0, 1) := by decide +kernel
theorem dX2_lightAll_14 : decode cX2_lightAll 14 = .ok (.iload_n 1, 1) := by decide +kernel
theorem dX2_lightAll_15 : decode cX2_lightAll 15 = .ok (.aload_n 0, 1) := by decide +kernel
theorem dX2_lightAll_16 : decode cX2_lightAll 16 = .ok (.getfield 36, 3) := by decide +kernel
theorem dX2_lightAll_19 : decode cX2_lightAll 19 = .ok (.iload_n 1, 1) := by decide +kernel
theorem dX2_lightAll_20 : decode cX2_lightAll 20 = .ok (.invokevirtual 77, 3) := by decide +kernel
theorem dX2_lightAll_23 : decode cX2_lightAll 23 = .ok (.invokevirtual 80, 3) := by decide +kernel
theorem dX2_lightAll_26 : decode cX2_lightAll 26 = .ok (.iinc 1 1, 3) := by decide +kernel
theorem dX2_lightAll_29 : decode cX2_lightAll 29 = .ok (.goto (-27), 3) := by decide +kernel
theorem dX2_lightAll_32 : decode cX2_lightAll 32 = .ok (.return_, 1) := by decide +kernel
abbrev rm_X2_lightAll : Room := { frames := 3, cells := 0, slots := 0, locals := 70 }
abbrev jJ_X2_lightAll (l : Launch) (G : jx_G) (t : jx_T) (sz : Nat) (out : jx_M) (pc : Nat) (lv : List (Nat × Value)) (st : List Value) (σ : jx_M) : Prop := jx_J l (ll_env G t) (ll_dyn G t) (ll_rg G) sz RX2 "lightAll" cX2_lightAll 2 none rm_X2_lightAll (fun below args s => MQ below (jx_Qv (ll_dyn G t) out (jx_A (ll_rg G) sz)) args s 0 0 (jx_A (ll_rg G) sz)) 0 0 pc lv st σ
def g_X2_lightAll_2 (t : jx_T) (k2 : jx_M → Int32 → Option jx_M) (σ : jx_M) (v1 : Int32) : Option jx_M :=
  if (σ 0 2) ≤ v1 then some σ else jx_bd (f_X1_setsAt t σ v1) (fun q2 => jx_bd (f_X2_light t σ v1 q2) (fun q3 => jx_lt (v1 + (1 : Int32)) (fun x4 => (k2 q3 x4))))
set_option maxHeartbeats 4000000 in
set_option maxRecDepth 100000 in
theorem jg_X2_lightAll_2 (l : Launch) (G : jx_G) (t : jx_T) (hG : ll_ok G) (sz : Nat) (out : jx_M) (k2 : jx_M → Int32 → Option jx_M) (h2 : ∀ (σ : jx_M) (v1 : Int32), k2 σ v1 = some out → jJ_X2_lightAll l G t sz out 2 [(0, .ref (G.2 23)), (1, .int v1)] [] σ) (σ : jx_M) (v1 : Int32) (h : g_X2_lightAll_2 t k2 σ v1 = some out) : jJ_X2_lightAll l G t sz out 2 [(0, .ref (G.2 23)), (1, .int v1)] [] σ := by
  unfold g_X2_lightAll_2 at h
  refine jx_iload_n (pc := 2) (k0 := 1) rfl dX2_lightAll_2 ?_
  refine jx_aload_n (pc := 3) (k0 := 0) rfl dX2_lightAll_3 ?_
  refine ll_gnight_canal (pc := 4) fl_X2_36 dX2_lightAll_4 ?_
  refine ll_gnow_voters (pc := 7) fl_X2_74 dX2_lightAll_7 ?_
  refine jx_icmp_ge (pc := 10) (tgt := 32) dX2_lightAll_10 (by decide) (fun c1 => ?_) (fun c1 => ?_)
  · have h := jx_t c1 h
    have h := Option.some.inj h
    subst h
    exact jx_vret (pc := 32) dX2_lightAll_32
  · have h := jx_f c1 h
    refine jx_aload_n (pc := 13) (k0 := 0) rfl dX2_lightAll_13 ?_
    refine jx_iload_n (pc := 14) (k0 := 1) rfl dX2_lightAll_14 ?_
    refine jx_aload_n (pc := 15) (k0 := 0) rfl dX2_lightAll_15 ?_
    refine ll_gnight_canal (pc := 16) fl_X2_36 dX2_lightAll_16 ?_
    refine jx_iload_n (pc := 19) (k0 := 1) rfl dX2_lightAll_19 ?_
    obtain ⟨q2, eq2, h⟩ := jx_bd_o h
    refine jx_callVi (pc := 20) [.int v1] (fun sz' => k_X1_setsAt l G t hG sz' σ v1 q2 eq2) kv_X2_77 ll_jok ll_rcnow rfl rfl (Nat.le_of_ble_eq_true rfl) ⟨⟨rfl, rfl⟩, ⟨Nat.le_of_ble_eq_true rfl, Nat.le_of_ble_eq_true rfl⟩, Nat.zero_le _, Nat.zero_le _⟩ dX2_lightAll_20 ?_
    obtain ⟨q3, eq3, h⟩ := jx_bd_o h
    refine jx_callVv (pc := 23) [.int v1, .int q2] (fun sz' => k_X2_light l G t hG sz' σ v1 q2 q3 eq3) kv_X2_80 ll_jok ll_rcnight rfl rfl (Nat.le_of_ble_eq_true rfl) ⟨⟨rfl, rfl⟩, ⟨Nat.le_of_ble_eq_true rfl, Nat.le_of_ble_eq_true rfl⟩, Nat.zero_le _, Nat.zero_le _⟩ dX2_lightAll_23 ?_
    obtain ⟨x4, ex4, h⟩ := jx_lt_o h
    refine jx_iinc (pc := 26) (i := 1) (v := v1) rfl ex4 (n := 1) (by decide) (by decide) (lv' := [(1, .int x4), (0, .ref (G.2 23))]) rfl dX2_lightAll_26 ?_
    refine jx_goto (pc := 29) (tgt := 2) dX2_lightAll_29 (by decide) ?_
    exact jx_sub [1, 0] rfl (h2 q3 x4 h)
def b_X2_lightAll_2 (t : jx_T)  : Nat → jx_M → Int32 → Option jx_M
  | 0, _, _ => none
  | n + 1, σ, v1 => g_X2_lightAll_2 t (b_X2_lightAll_2 t n) σ v1
theorem jb_X2_lightAll_2 (l : Launch) (G : jx_G) (t : jx_T) (hG : ll_ok G) (sz : Nat) (out : jx_M)  : ∀ (n : Nat) (σ : jx_M) (v1 : Int32), b_X2_lightAll_2 t n σ v1 = some out → jJ_X2_lightAll l G t sz out 2 [(0, .ref (G.2 23)), (1, .int v1)] [] σ := by
  intro n
  induction n with
  | zero =>
    intro σ v1 h
    cases h
  | succ n ih =>
    intro σ v1 h
    exact jg_X2_lightAll_2 l G t hG sz out (b_X2_lightAll_2 t n) ih σ v1 h
def f_X2_lightAll (t : jx_T) (σ : jx_M)  : Option jx_M :=
  (b_X2_lightAll_2 t jx_fuel σ (0 : Int32))
set_option maxHeartbeats 4000000 in
set_option maxRecDepth 100000 in
theorem k_X2_lightAll (l : Launch) (G : jx_G) (t : jx_T) (hG : ll_ok G) (sz : Nat) (σ : jx_M)  (out : jx_M) (h : f_X2_lightAll t σ = some out) : Met l yX2_lightAll (Cond.code yX2_lightAll cX2_lightAll 2 none :: jx_ws) rm_X2_lightAll (jx_Pc (ll_env G t) (ll_dyn G t) (ll_rg G) sz σ [.ref (G.2 23)]) (jx_Qv (ll_dyn G t) out (jx_A (ll_rg G) sz)) 0 0 (jx_A (ll_rg G) sz) := by
  unfold f_X2_lightAll at h
  refine jx_met (by decide) (Nat.le_of_ble_eq_true rfl) ?_
  refine jx_sub (lv' := [(0, .ref (G.2 23))]) [0] rfl ?_
  refine jx_iconst (pc := 0) (v := (0 : Int32)) (by decide) dX2_lightAll_0 ?_
  refine jx_istore_n (pc := 1) (i := 1) rfl rfl (by decide) (lv' := [(1, .int (0 : Int32)), (0, .ref (G.2 23))]) rfl dX2_lightAll_1 ?_
  exact jx_sub [1, 0] rfl (jb_X2_lightAll_2 l G t hG sz out jx_fuel σ (0 : Int32) h)
theorem dX2_bestFor_0 : decode cX2_bestFor 0 = .ok (.iconst 0, 1) := by decide +kernel
theorem dX2_bestFor_1 : decode cX2_bestFor 1 = .ok (.istore_n 2, 1) := by decide +kernel
theorem dX2_bestFor_2 : decode cX2_bestFor 2 = .ok (.iconst 0, 1) := by decide +kernel
theorem dX2_bestFor_3 : decode cX2_bestFor 3 = .ok (.istore_n 3, 1) := by decide +kernel
theorem dX2_bestFor_4 : decode cX2_bestFor 4 = .ok (.iconst 0, 1) := by decide +kernel
theorem dX2_bestFor_5 : decode cX2_bestFor 5 = .ok (.istore 4, 2) := by decide +kernel
theorem dX2_bestFor_7 : decode cX2_bestFor 7 = .ok (.iload 4, 2) := by decide +kernel
theorem dX2_bestFor_9 : decode cX2_bestFor 9 = .ok (.aload_n 0, 1) := by decide +kernel
theorem dX2_bestFor_10 : decode cX2_bestFor 10 = .ok (.getfield 36, 3) := by decide +kernel
theorem dX2_bestFor_13 : decode cX2_bestFor 13 = .ok (.getfield 40, 3) := by decide +kernel
theorem dX2_bestFor_16 : decode cX2_bestFor 16 = .ok (.if_icmp .ge 40, 3) := by decide +kernel
theorem dX2_bestFor_19 : decode cX2_bestFor 19 = .ok (.aload_n 0, 1) := by decide +kernel
theorem dX2_bestFor_20 : decode cX2_bestFor 20 = .ok (.iload_n 1, 1) := by decide +kernel
theorem dX2_bestFor_21 : decode cX2_bestFor 21 = .ok (.iload 4, 2) := by decide +kernel
theorem dX2_bestFor_23 : decode cX2_bestFor 23 = .ok (.invokevirtual 80, 3) := by decide +kernel
theorem dX2_bestFor_26 : decode cX2_bestFor 26 = .ok (.aload_n 0, 1) := by decide +kernel
theorem dX2_bestFor_27 : decode cX2_bestFor 27 = .ok (.iload_n 1, 1) := by decide +kernel
theorem dX2_bestFor_28 : decode cX2_bestFor 28 = .ok (.invokevirtual 114, 3) := by decide +kernel
theorem dX2_bestFor_31 : decode cX2_bestFor 31 = .ok (.istore 5, 2) := by decide +kernel
theorem dX2_bestFor_33 : decode cX2_bestFor 33 = .ok (.iload 4, 2) := by decide +kernel
theorem dX2_bestFor_35 : decode cX2_bestFor 35 = .ok (.ifCond .eq 9, 3) := by decide +kernel
theorem dX2_bestFor_38 : decode cX2_bestFor 38 = .ok (.iload 5, 2) := by decide +kernel
theorem dX2_bestFor_40 : decode cX2_bestFor 40 = .ok (.iload_n 3, 1) := by decide +kernel
theorem dX2_bestFor_41 : decode cX2_bestFor 41 = .ok (.if_icmp .le 9, 3) := by decide +kernel
theorem dX2_bestFor_44 : decode cX2_bestFor 44 = .ok (.iload 5, 2) := by decide +kernel
theorem dX2_bestFor_46 : decode cX2_bestFor 46 = .ok (.istore_n 3, 1) := by decide +kernel
theorem dX2_bestFor_47 : decode cX2_bestFor 47 = .ok (.iload 4, 2) := by decide +kernel
theorem dX2_bestFor_49 : decode cX2_bestFor 49 = .ok (.istore_n 2, 1) := by decide +kernel
theorem dX2_bestFor_50 : decode cX2_bestFor 50 = .ok (.iinc 4 1, 3) := by decide +kernel
theorem dX2_bestFor_53 : decode cX2_bestFor 53 = .ok (.goto (-46), 3) := by decide +kernel
theorem dX2_bestFor_56 : decode cX2_bestFor 56 = .ok (.iload_n 2, 1) := by decide +kernel
theorem dX2_bestFor_57 : decode cX2_bestFor 57 = .ok (.ireturn, 1) := by decide +kernel
abbrev rm_X2_bestFor : Room := { frames := 3, cells := 0, slots := 0, locals := 70 }
abbrev jJ_X2_bestFor (l : Launch) (G : jx_G) (t : jx_T) (sz : Nat) (out : (Int32 × jx_M)) (pc : Nat) (lv : List (Nat × Value)) (st : List Value) (σ : jx_M) : Prop := jx_J l (ll_env G t) (ll_dyn G t) (ll_rg G) sz RX2 "bestFor" cX2_bestFor 6 (some .int) rm_X2_bestFor (fun below args s => MQ below (jx_Qi (ll_dyn G t) out.2 out.1 (jx_A (ll_rg G) sz)) args s 0 0 (jx_A (ll_rg G) sz)) 0 0 pc lv st σ
def b_X2_bestFor_50 (t : jx_T) (k7 : jx_M → Int32 → Int32 → Int32 → Int32 → Option (Int32 × jx_M)) (σ : jx_M) (v1 : Int32) (v2 : Int32) (v3 : Int32) (v4 : Int32) : Option (Int32 × jx_M) :=
  jx_lt (v4 + (1 : Int32)) (fun x1 => (k7 σ v1 v2 v3 x1))
set_option maxHeartbeats 4000000 in
set_option maxRecDepth 100000 in
theorem jb_X2_bestFor_50 (l : Launch) (G : jx_G) (t : jx_T) (hG : ll_ok G) (sz : Nat) (out : (Int32 × jx_M)) (k7 : jx_M → Int32 → Int32 → Int32 → Int32 → Option (Int32 × jx_M)) (h7 : ∀ (σ : jx_M) (v1 : Int32) (v2 : Int32) (v3 : Int32) (v4 : Int32), k7 σ v1 v2 v3 v4 = some out → jJ_X2_bestFor l G t sz out 7 [(0, .ref (G.2 23)), (1, .int v1), (2, .int v2), (3, .int v3), (4, .int v4)] [] σ) (σ : jx_M) (v1 : Int32) (v2 : Int32) (v3 : Int32) (v4 : Int32) (h : b_X2_bestFor_50 t k7 σ v1 v2 v3 v4 = some out) : jJ_X2_bestFor l G t sz out 50 [(0, .ref (G.2 23)), (1, .int v1), (2, .int v2), (3, .int v3), (4, .int v4)] [] σ := by
  unfold b_X2_bestFor_50 at h
  obtain ⟨x1, ex1, h⟩ := jx_lt_o h
  refine jx_iinc (pc := 50) (i := 4) (v := v4) rfl ex1 (n := 1) (by decide) (by decide) (lv' := [(4, .int x1), (0, .ref (G.2 23)), (1, .int v1), (2, .int v2), (3, .int v3)]) rfl dX2_bestFor_50 ?_
  refine jx_goto (pc := 53) (tgt := 7) dX2_bestFor_53 (by decide) ?_
  exact jx_sub [1, 2, 3, 4, 0] rfl (h7 σ v1 v2 v3 x1 h)
def b_X2_bestFor_44 (t : jx_T) (k7 : jx_M → Int32 → Int32 → Int32 → Int32 → Option (Int32 × jx_M)) (σ : jx_M) (v1 : Int32) (v4 : Int32) (v5 : Int32) : Option (Int32 × jx_M) :=
  (b_X2_bestFor_50 t k7 σ v1 v4 v5 v4)
set_option maxHeartbeats 4000000 in
set_option maxRecDepth 100000 in
theorem jb_X2_bestFor_44 (l : Launch) (G : jx_G) (t : jx_T) (hG : ll_ok G) (sz : Nat) (out : (Int32 × jx_M)) (k7 : jx_M → Int32 → Int32 → Int32 → Int32 → Option (Int32 × jx_M)) (h7 : ∀ (σ : jx_M) (v1 : Int32) (v2 : Int32) (v3 : Int32) (v4 : Int32), k7 σ v1 v2 v3 v4 = some out → jJ_X2_bestFor l G t sz out 7 [(0, .ref (G.2 23)), (1, .int v1), (2, .int v2), (3, .int v3), (4, .int v4)] [] σ) (σ : jx_M) (v1 : Int32) (v4 : Int32) (v5 : Int32) (h : b_X2_bestFor_44 t k7 σ v1 v4 v5 = some out) : jJ_X2_bestFor l G t sz out 44 [(0, .ref (G.2 23)), (1, .int v1), (4, .int v4), (5, .int v5)] [] σ := by
  unfold b_X2_bestFor_44 at h
  refine jx_iload (pc := 44) (i := 5) rfl dX2_bestFor_44 ?_
  refine jx_istore_n (pc := 46) (i := 3) rfl rfl (by decide) (lv' := [(3, .int v5), (0, .ref (G.2 23)), (1, .int v1), (4, .int v4), (5, .int v5)]) rfl dX2_bestFor_46 ?_
  refine jx_iload (pc := 47) (i := 4) rfl dX2_bestFor_47 ?_
  refine jx_istore_n (pc := 49) (i := 2) rfl rfl (by decide) (lv' := [(2, .int v4), (3, .int v5), (0, .ref (G.2 23)), (1, .int v1), (4, .int v4), (5, .int v5)]) rfl dX2_bestFor_49 ?_
  exact jx_sub [2, 3, 0, 1, 4] rfl (jb_X2_bestFor_50 l G t hG sz out k7 h7 σ v1 v4 v5 v4 h)
def g_X2_bestFor_7 (t : jx_T) (k7 : jx_M → Int32 → Int32 → Int32 → Int32 → Option (Int32 × jx_M)) (σ : jx_M) (v1 : Int32) (v2 : Int32) (v3 : Int32) (v4 : Int32) : Option (Int32 × jx_M) :=
  if (σ 0 0) ≤ v4 then some (v2, σ) else jx_bd (f_X2_light t σ v1 v4) (fun q2 => jx_bd (f_X2_leadOf t q2 v1) (fun q3 => if v4 = 0 then (b_X2_bestFor_44 t k7 q2 v1 v4 q3) else if q3 ≤ v3 then (b_X2_bestFor_50 t k7 q2 v1 v2 v3 v4) else (b_X2_bestFor_44 t k7 q2 v1 v4 q3)))
set_option maxHeartbeats 4000000 in
set_option maxRecDepth 100000 in
theorem jg_X2_bestFor_7 (l : Launch) (G : jx_G) (t : jx_T) (hG : ll_ok G) (sz : Nat) (out : (Int32 × jx_M)) (k7 : jx_M → Int32 → Int32 → Int32 → Int32 → Option (Int32 × jx_M)) (h7 : ∀ (σ : jx_M) (v1 : Int32) (v2 : Int32) (v3 : Int32) (v4 : Int32), k7 σ v1 v2 v3 v4 = some out → jJ_X2_bestFor l G t sz out 7 [(0, .ref (G.2 23)), (1, .int v1), (2, .int v2), (3, .int v3), (4, .int v4)] [] σ) (σ : jx_M) (v1 : Int32) (v2 : Int32) (v3 : Int32) (v4 : Int32) (h : g_X2_bestFor_7 t k7 σ v1 v2 v3 v4 = some out) : jJ_X2_bestFor l G t sz out 7 [(0, .ref (G.2 23)), (1, .int v1), (2, .int v2), (3, .int v3), (4, .int v4)] [] σ := by
  unfold g_X2_bestFor_7 at h
  refine jx_iload (pc := 7) (i := 4) rfl dX2_bestFor_7 ?_
  refine jx_aload_n (pc := 9) (k0 := 0) rfl dX2_bestFor_9 ?_
  refine ll_gnight_canal (pc := 10) fl_X2_36 dX2_bestFor_10 ?_
  refine ll_gnow_places (pc := 13) fl_X2_40 dX2_bestFor_13 ?_
  refine jx_icmp_ge (pc := 16) (tgt := 56) dX2_bestFor_16 (by decide) (fun c1 => ?_) (fun c1 => ?_)
  · have h := jx_t c1 h
    refine jx_iload_n (pc := 56) (k0 := 2) rfl dX2_bestFor_56 ?_
    have h := Option.some.inj h
    subst h
    exact jx_iret (pc := 57) dX2_bestFor_57
  · have h := jx_f c1 h
    refine jx_aload_n (pc := 19) (k0 := 0) rfl dX2_bestFor_19 ?_
    refine jx_iload_n (pc := 20) (k0 := 1) rfl dX2_bestFor_20 ?_
    refine jx_iload (pc := 21) (i := 4) rfl dX2_bestFor_21 ?_
    obtain ⟨q2, eq2, h⟩ := jx_bd_o h
    refine jx_callVv (pc := 23) [.int v1, .int v4] (fun sz' => k_X2_light l G t hG sz' σ v1 v4 q2 eq2) kv_X2_80 ll_jok ll_rcnight rfl rfl (Nat.le_of_ble_eq_true rfl) ⟨⟨rfl, rfl⟩, ⟨Nat.le_of_ble_eq_true rfl, Nat.le_of_ble_eq_true rfl⟩, Nat.zero_le _, Nat.zero_le _⟩ dX2_bestFor_23 ?_
    refine jx_aload_n (pc := 26) (k0 := 0) rfl dX2_bestFor_26 ?_
    refine jx_iload_n (pc := 27) (k0 := 1) rfl dX2_bestFor_27 ?_
    obtain ⟨q3, eq3, h⟩ := jx_bd_o h
    refine jx_callVi (pc := 28) [.int v1] (fun sz' => k_X2_leadOf l G t hG sz' q2 v1 q3 eq3) kv_X2_114 ll_jok ll_rcnight rfl rfl (Nat.le_of_ble_eq_true rfl) ⟨⟨rfl, rfl⟩, ⟨Nat.le_of_ble_eq_true rfl, Nat.le_of_ble_eq_true rfl⟩, Nat.zero_le _, Nat.zero_le _⟩ dX2_bestFor_28 ?_
    refine jx_istore (pc := 31) (i := 5) rfl (by decide) (lv' := [(5, .int q3), (0, .ref (G.2 23)), (1, .int v1), (2, .int v2), (3, .int v3), (4, .int v4)]) rfl dX2_bestFor_31 ?_
    refine jx_iload (pc := 33) (i := 4) rfl dX2_bestFor_33 ?_
    refine jx_if_eq (pc := 35) (tgt := 44) dX2_bestFor_35 (by decide) (fun c4 => ?_) (fun c4 => ?_)
    · have h := jx_t c4 h
      exact jx_sub [1, 2, 5, 0] rfl (jb_X2_bestFor_44 l G t hG sz out k7 h7 q2 v1 v4 q3 h)
    · have h := jx_f c4 h
      refine jx_iload (pc := 38) (i := 5) rfl dX2_bestFor_38 ?_
      refine jx_iload_n (pc := 40) (k0 := 3) rfl dX2_bestFor_40 ?_
      refine jx_icmp_le (pc := 41) (tgt := 50) dX2_bestFor_41 (by decide) (fun c5 => ?_) (fun c5 => ?_)
      · have h := jx_t c5 h
        exact jx_sub [1, 2, 3, 4, 5] rfl (jb_X2_bestFor_50 l G t hG sz out k7 h7 q2 v1 v2 v3 v4 h)
      · have h := jx_f c5 h
        exact jx_sub [1, 2, 5, 0] rfl (jb_X2_bestFor_44 l G t hG sz out k7 h7 q2 v1 v4 q3 h)
def b_X2_bestFor_7 (t : jx_T)  : Nat → jx_M → Int32 → Int32 → Int32 → Int32 → Option (Int32 × jx_M)
  | 0, _, _, _, _, _ => none
  | n + 1, σ, v1, v2, v3, v4 => g_X2_bestFor_7 t (b_X2_bestFor_7 t n) σ v1 v2 v3 v4
theorem jb_X2_bestFor_7 (l : Launch) (G : jx_G) (t : jx_T) (hG : ll_ok G) (sz : Nat) (out : (Int32 × jx_M))  : ∀ (n : Nat) (σ : jx_M) (v1 : Int32) (v2 : Int32) (v3 : Int32) (v4 : Int32), b_X2_bestFor_7 t n σ v1 v2 v3 v4 = some out → jJ_X2_bestFor l G t sz out 7 [(0, .ref (G.2 23)), (1, .int v1), (2, .int v2), (3, .int v3), (4, .int v4)] [] σ := by
  intro n
  induction n with
  | zero =>
    intro σ v1 v2 v3 v4 h
    cases h
  | succ n ih =>
    intro σ v1 v2 v3 v4 h
    exact jg_X2_bestFor_7 l G t hG sz out (b_X2_bestFor_7 t n) ih σ v1 v2 v3 v4 h
def f_X2_bestFor (t : jx_T) (σ : jx_M) (a1 : Int32) : Option (Int32 × jx_M) :=
  (b_X2_bestFor_7 t jx_fuel σ a1 (0 : Int32) (0 : Int32) (0 : Int32))
set_option maxHeartbeats 4000000 in
set_option maxRecDepth 100000 in
theorem k_X2_bestFor (l : Launch) (G : jx_G) (t : jx_T) (hG : ll_ok G) (sz : Nat) (σ : jx_M) (a1 : Int32) (out : (Int32 × jx_M)) (h : f_X2_bestFor t σ a1 = some out) : Met l yX2_bestFor (Cond.code yX2_bestFor cX2_bestFor 6 (some .int) :: jx_ws) rm_X2_bestFor (jx_Pc (ll_env G t) (ll_dyn G t) (ll_rg G) sz σ [.ref (G.2 23), .int a1]) (jx_Qi (ll_dyn G t) out.2 out.1 (jx_A (ll_rg G) sz)) 0 0 (jx_A (ll_rg G) sz) := by
  unfold f_X2_bestFor at h
  refine jx_met (by decide) (Nat.le_of_ble_eq_true rfl) ?_
  refine jx_sub (lv' := [(0, .ref (G.2 23)), (1, .int a1)]) [0, 1] rfl ?_
  refine jx_iconst (pc := 0) (v := (0 : Int32)) (by decide) dX2_bestFor_0 ?_
  refine jx_istore_n (pc := 1) (i := 2) rfl rfl (by decide) (lv' := [(2, .int (0 : Int32)), (0, .ref (G.2 23)), (1, .int a1)]) rfl dX2_bestFor_1 ?_
  refine jx_iconst (pc := 2) (v := (0 : Int32)) (by decide) dX2_bestFor_2 ?_
  refine jx_istore_n (pc := 3) (i := 3) rfl rfl (by decide) (lv' := [(3, .int (0 : Int32)), (2, .int (0 : Int32)), (0, .ref (G.2 23)), (1, .int a1)]) rfl dX2_bestFor_3 ?_
  refine jx_iconst (pc := 4) (v := (0 : Int32)) (by decide) dX2_bestFor_4 ?_
  refine jx_istore (pc := 5) (i := 4) rfl (by decide) (lv' := [(4, .int (0 : Int32)), (3, .int (0 : Int32)), (2, .int (0 : Int32)), (0, .ref (G.2 23)), (1, .int a1)]) rfl dX2_bestFor_5 ?_
  exact jx_sub [3, 4, 2, 1, 0] rfl (jb_X2_bestFor_7 l G t hG sz out jx_fuel σ a1 (0 : Int32) (0 : Int32) (0 : Int32) h)
theorem dX2_placeAfter_0 : decode cX2_placeAfter 0 = .ok (.aload_n 0, 1) := by decide +kernel
theorem dX2_placeAfter_1 : decode cX2_placeAfter 1 = .ok (.getfield 36, 3) := by decide +kernel
theorem dX2_placeAfter_4 : decode cX2_placeAfter 4 = .ok (.iload_n 1, 1) := by decide +kernel
theorem dX2_placeAfter_5 : decode cX2_placeAfter 5 = .ok (.invokevirtual 77, 3) := by decide +kernel
theorem dX2_placeAfter_8 : decode cX2_placeAfter 8 = .ok (.istore_n 3, 1) := by decide +kernel
theorem dX2_placeAfter_9 : decode cX2_placeAfter 9 = .ok (.aload_n 0, 1) := by decide +kernel
theorem dX2_placeAfter_10 : decode cX2_placeAfter 10 = .ok (.getfield 36, 3) := by decide +kernel
theorem dX2_placeAfter_13 : decode cX2_placeAfter 13 = .ok (.iload_n 1, 1) := by decide +kernel
theorem dX2_placeAfter_14 : decode cX2_placeAfter 14 = .ok (.invokevirtual 58, 3) := by decide +kernel
theorem dX2_placeAfter_17 : decode cX2_placeAfter 17 = .ok (.istore 4, 2) := by decide +kernel
theorem dX2_placeAfter_19 : decode cX2_placeAfter 19 = .ok (.aload_n 0, 1) := by decide +kernel
theorem dX2_placeAfter_20 : decode cX2_placeAfter 20 = .ok (.iload_n 3, 1) := by decide +kernel
theorem dX2_placeAfter_21 : decode cX2_placeAfter 21 = .ok (.iload 4, 2) := by decide +kernel
theorem dX2_placeAfter_23 : decode cX2_placeAfter 23 = .ok (.iload_n 2, 1) := by decide +kernel
theorem dX2_placeAfter_24 : decode cX2_placeAfter 24 = .ok (.iload 4, 2) := by decide +kernel
theorem dX2_placeAfter_26 : decode cX2_placeAfter 26 = .ok (.aload_n 0, 1) := by decide +kernel
theorem dX2_placeAfter_27 : decode cX2_placeAfter 27 = .ok (.iload_n 1, 1) := by decide +kernel
theorem dX2_placeAfter_28 : decode cX2_placeAfter 28 = .ok (.iload_n 3, 1) := by decide +kernel
theorem dX2_placeAfter_29 : decode cX2_placeAfter 29 = .ok (.invokevirtual 67, 3) := by decide +kernel
theorem dX2_placeAfter_32 : decode cX2_placeAfter 32 = .ok (.iadd, 1) := by decide +kernel
theorem dX2_placeAfter_33 : decode cX2_placeAfter 33 = .ok (.invokestatic 62, 3) := by decide +kernel
theorem dX2_placeAfter_36 : decode cX2_placeAfter 36 = .ok (.invokevirtual 70, 3) := by decide +kernel
theorem dX2_placeAfter_39 : decode cX2_placeAfter 39 = .ok (.ireturn, 1) := by decide +kernel
abbrev rm_X2_placeAfter : Room := { frames := 3, cells := 0, slots := 0, locals := 67 }
abbrev jJ_X2_placeAfter (l : Launch) (G : jx_G) (t : jx_T) (sz : Nat) (σ0 : jx_M) (out : Int32) (pc : Nat) (lv : List (Nat × Value)) (st : List Value) (σ : jx_M) : Prop := jx_J l (ll_env G t) (ll_dyn G t) (ll_rg G) sz RX2 "placeAfter" cX2_placeAfter 5 (some .int) rm_X2_placeAfter (fun below args s => MQ below (jx_Qi (ll_dyn G t) σ0 out (jx_A (ll_rg G) sz)) args s 0 0 (jx_A (ll_rg G) sz)) 0 0 pc lv st σ
def f_X2_placeAfter (t : jx_T) (σ : jx_M) (a1 : Int32) (a2 : Int32) : Option Int32 :=
  jx_bd (f_X1_setsAt t σ a1) (fun q1 => jx_bd (f_X1_delay t σ a1) (fun q2 => jx_bd (f_X2_burns t σ a1 q1) (fun q3 => jx_bd (f_X2_afloat t σ q1 q2 (if (q2 + q3) < a2 then (q2 + q3) else a2)) (fun q4 => some q4))))
set_option maxHeartbeats 4000000 in
set_option maxRecDepth 100000 in
theorem k_X2_placeAfter (l : Launch) (G : jx_G) (t : jx_T) (hG : ll_ok G) (sz : Nat) (σ : jx_M) (a1 : Int32) (a2 : Int32) (out : Int32) (h : f_X2_placeAfter t σ a1 a2 = some out) : Met l yX2_placeAfter (Cond.code yX2_placeAfter cX2_placeAfter 5 (some .int) :: jx_ws) rm_X2_placeAfter (jx_Pc (ll_env G t) (ll_dyn G t) (ll_rg G) sz σ [.ref (G.2 23), .int a1, .int a2]) (jx_Qi (ll_dyn G t) σ out (jx_A (ll_rg G) sz)) 0 0 (jx_A (ll_rg G) sz) := by
  unfold f_X2_placeAfter at h
  refine jx_met (by decide) (Nat.le_of_ble_eq_true rfl) ?_
  refine jx_sub (lv' := [(0, .ref (G.2 23)), (1, .int a1), (2, .int a2)]) [0, 1, 2] rfl ?_
  refine jx_aload_n (pc := 0) (k0 := 0) rfl dX2_placeAfter_0 ?_
  refine ll_gnight_canal (pc := 1) fl_X2_36 dX2_placeAfter_1 ?_
  refine jx_iload_n (pc := 4) (k0 := 1) rfl dX2_placeAfter_4 ?_
  obtain ⟨q1, eq1, h⟩ := jx_bd_o h
  refine jx_callVi (pc := 5) [.int a1] (fun sz' => k_X1_setsAt l G t hG sz' σ a1 q1 eq1) kv_X2_77 ll_jok ll_rcnow rfl rfl (Nat.le_of_ble_eq_true rfl) ⟨⟨rfl, rfl⟩, ⟨Nat.le_of_ble_eq_true rfl, Nat.le_of_ble_eq_true rfl⟩, Nat.zero_le _, Nat.zero_le _⟩ dX2_placeAfter_5 ?_
  refine jx_istore_n (pc := 8) (i := 3) rfl rfl (by decide) (lv' := [(3, .int q1), (0, .ref (G.2 23)), (1, .int a1), (2, .int a2)]) rfl dX2_placeAfter_8 ?_
  refine jx_aload_n (pc := 9) (k0 := 0) rfl dX2_placeAfter_9 ?_
  refine ll_gnight_canal (pc := 10) fl_X2_36 dX2_placeAfter_10 ?_
  refine jx_iload_n (pc := 13) (k0 := 1) rfl dX2_placeAfter_13 ?_
  obtain ⟨q2, eq2, h⟩ := jx_bd_o h
  refine jx_callVi (pc := 14) [.int a1] (fun sz' => k_X1_delay l G t hG sz' σ a1 q2 eq2) kv_X2_58 ll_jok ll_rcnow rfl rfl (Nat.le_of_ble_eq_true rfl) ⟨⟨rfl, rfl⟩, ⟨Nat.le_of_ble_eq_true rfl, Nat.le_of_ble_eq_true rfl⟩, Nat.zero_le _, Nat.zero_le _⟩ dX2_placeAfter_14 ?_
  refine jx_istore (pc := 17) (i := 4) rfl (by decide) (lv' := [(4, .int q2), (3, .int q1), (0, .ref (G.2 23)), (1, .int a1), (2, .int a2)]) rfl dX2_placeAfter_17 ?_
  refine jx_aload_n (pc := 19) (k0 := 0) rfl dX2_placeAfter_19 ?_
  refine jx_iload_n (pc := 20) (k0 := 3) rfl dX2_placeAfter_20 ?_
  refine jx_iload (pc := 21) (i := 4) rfl dX2_placeAfter_21 ?_
  refine jx_iload_n (pc := 23) (k0 := 2) rfl dX2_placeAfter_23 ?_
  refine jx_iload (pc := 24) (i := 4) rfl dX2_placeAfter_24 ?_
  refine jx_aload_n (pc := 26) (k0 := 0) rfl dX2_placeAfter_26 ?_
  refine jx_iload_n (pc := 27) (k0 := 1) rfl dX2_placeAfter_27 ?_
  refine jx_iload_n (pc := 28) (k0 := 3) rfl dX2_placeAfter_28 ?_
  obtain ⟨q3, eq3, h⟩ := jx_bd_o h
  refine jx_callVi (pc := 29) [.int a1, .int q1] (fun sz' => k_X2_burns l G t hG sz' σ a1 q1 q3 eq3) kv_X2_67 ll_jok ll_rcnight rfl rfl (Nat.le_of_ble_eq_true rfl) ⟨⟨rfl, rfl⟩, ⟨Nat.le_of_ble_eq_true rfl, Nat.le_of_ble_eq_true rfl⟩, Nat.zero_le _, Nat.zero_le _⟩ dX2_placeAfter_29 ?_
  refine jx_iadd (pc := 32) dX2_placeAfter_32 ?_
  refine jx_mmin (pc := 33) km_X2_62.1 km_X2_62.2.1 km_X2_62.2.2.1 km_X2_62.2.2.2 (Nat.le_of_ble_eq_true rfl) (Nat.le_of_ble_eq_true rfl) (Nat.zero_le _) (Nat.zero_le _) dX2_placeAfter_33 ?_
  obtain ⟨q4, eq4, h⟩ := jx_bd_o h
  refine jx_callVi (pc := 36) [.int q1, .int q2, .int (if (q2 + q3) < a2 then (q2 + q3) else a2)] (fun sz' => k_X2_afloat l G t hG sz' σ q1 q2 (if (q2 + q3) < a2 then (q2 + q3) else a2) q4 eq4) kv_X2_70 ll_jok ll_rcnight rfl rfl (Nat.le_of_ble_eq_true rfl) ⟨⟨rfl, rfl⟩, ⟨Nat.le_of_ble_eq_true rfl, Nat.le_of_ble_eq_true rfl⟩, Nat.zero_le _, Nat.zero_le _⟩ dX2_placeAfter_36 ?_
  have h := Option.some.inj h
  subst h
  exact jx_iret (pc := 39) dX2_placeAfter_39
theorem dX3_takesJoint_0 : decode cX3_takesJoint 0 = .ok (.iload_n 1, 1) := by decide +kernel
theorem dX3_takesJoint_1 : decode cX3_takesJoint 1 = .ok (.lookupswitch 89 #[(38, 43), (41, 57), (59, 62), (124, 50)], 43) := by decide +kernel
theorem dX3_takesJoint_44 : decode cX3_takesJoint 44 = .ok (.aload_n 0, 1) := by decide +kernel
theorem dX3_takesJoint_45 : decode cX3_takesJoint 45 = .ok (.bipush (-2), 2) := by decide +kernel
theorem dX3_takesJoint_47 : decode cX3_takesJoint 47 = .ok (.invokevirtual 141, 3) := by decide +kernel
theorem dX3_takesJoint_50 : decode cX3_takesJoint 50 = .ok (.ireturn, 1) := by decide +kernel
theorem dX3_takesJoint_51 : decode cX3_takesJoint 51 = .ok (.aload_n 0, 1) := by decide +kernel
theorem dX3_takesJoint_52 : decode cX3_takesJoint 52 = .ok (.bipush (-3), 2) := by decide +kernel
theorem dX3_takesJoint_54 : decode cX3_takesJoint 54 = .ok (.invokevirtual 141, 3) := by decide +kernel
theorem dX3_takesJoint_57 : decode cX3_takesJoint 57 = .ok (.ireturn, 1) := by decide +kernel
theorem dX3_takesJoint_58 : decode cX3_takesJoint 58 = .ok (.aload_n 0, 1) := by decide +kernel
theorem dX3_takesJoint_59 : decode cX3_takesJoint 59 = .ok (.invokevirtual 144, 3) := by decide +kernel
theorem dX3_takesJoint_62 : decode cX3_takesJoint 62 = .ok (.ireturn, 1) := by decide +kernel
theorem dX3_takesJoint_63 : decode cX3_takesJoint 63 = .ok (.aload_n 0, 1) := by decide +kernel
theorem dX3_takesJoint_64 : decode cX3_takesJoint 64 = .ok (.iconst 0, 1) := by decide +kernel
theorem dX3_takesJoint_65 : decode cX3_takesJoint 65 = .ok (.putfield 40, 3) := by decide +kernel
theorem dX3_takesJoint_68 : decode cX3_takesJoint 68 = .ok (.aload_n 0, 1) := by decide +kernel
theorem dX3_takesJoint_69 : decode cX3_takesJoint 69 = .ok (.invokevirtual 147, 3) := by decide +kernel
theorem dX3_takesJoint_72 : decode cX3_takesJoint 72 = .ok (.ifCond .eq 16, 3) := by decide +kernel
theorem dX3_takesJoint_75 : decode cX3_takesJoint 75 = .ok (.aload_n 0, 1) := by decide +kernel
theorem dX3_takesJoint_76 : decode cX3_takesJoint 76 = .ok (.getfield 27, 3) := by decide +kernel
theorem dX3_takesJoint_79 : decode cX3_takesJoint 79 = .ok (.bipush 10, 2) := by decide +kernel
theorem dX3_takesJoint_81 : decode cX3_takesJoint 81 = .ok (.if_icmp .ge 7, 3) := by decide +kernel
theorem dX3_takesJoint_84 : decode cX3_takesJoint 84 = .ok (.iconst 1, 1) := by decide +kernel
theorem dX3_takesJoint_85 : decode cX3_takesJoint 85 = .ok (.goto 4, 3) := by decide +kernel
theorem dX3_takesJoint_88 : decode cX3_takesJoint 88 = .ok (.iconst 0, 1) := by decide +kernel
theorem dX3_takesJoint_89 : decode cX3_takesJoint 89 = .ok (.ireturn, 1) := by decide +kernel
theorem dX3_takesJoint_90 : decode cX3_takesJoint 90 = .ok (.iconst 0, 1) := by decide +kernel
theorem dX3_takesJoint_91 : decode cX3_takesJoint 91 = .ok (.ireturn, 1) := by decide +kernel
abbrev rm_X3_takesJoint : Room := { frames := 3, cells := 0, slots := 0, locals := 63 }
abbrev jJ_X3_takesJoint (l : Launch) (G : jx_G) (t : jx_T) (sz : Nat) (out : (Int32 × jx_M)) (pc : Nat) (lv : List (Nat × Value)) (st : List Value) (σ : jx_M) : Prop := jx_J l (ll_env G t) (ll_dyn G t) (ll_rg G) sz RX3 "takesJoint" cX3_takesJoint 2 (some .boolean) rm_X3_takesJoint (fun below args s => MQ below (jx_Qi (ll_dyn G t) out.2 out.1 (jx_A (ll_rg G) sz)) args s 0 0 (jx_A (ll_rg G) sz)) 0 0 pc lv st σ
def f_X3_takesJoint (t : jx_T) (σ : jx_M) (a1 : Int32) : Option (Int32 × jx_M) :=
  if a1 = (38 : Int32) then jx_bd (f_X3_takesOperator t σ (-2 : Int32)) (fun q1 => jx_gd (decide (q1.1 = 0 ∨ q1.1 = 1)) (some (q1.1, q1.2))) else if a1 = (41 : Int32) then jx_bd (f_X3_takesClosing t σ) (fun q4 => jx_gd (decide (q4.1 = 0 ∨ q4.1 = 1)) (some (q4.1, q4.2))) else if a1 = (59 : Int32) then jx_lt (jx_mu σ 0 34 (0 : Int32)) (fun σ7 => jx_bd (f_X3_endsClause t σ7) (fun q8 => if q8.1 = 0 then some ((0 : Int32), q8.2) else if (10 : Int32) ≤ (q8.2 0 30) then some ((0 : Int32), q8.2) else some ((1 : Int32), q8.2))) else if a1 = (124 : Int32) then jx_bd (f_X3_takesOperator t σ (-3 : Int32)) (fun q12 => jx_gd (decide (q12.1 = 0 ∨ q12.1 = 1)) (some (q12.1, q12.2))) else some ((0 : Int32), σ)
set_option maxHeartbeats 4000000 in
set_option maxRecDepth 100000 in
theorem k_X3_takesJoint (l : Launch) (G : jx_G) (t : jx_T) (hG : ll_ok G) (sz : Nat) (σ : jx_M) (a1 : Int32) (out : (Int32 × jx_M)) (h : f_X3_takesJoint t σ a1 = some out) : Met l yX3_takesJoint (Cond.code yX3_takesJoint cX3_takesJoint 2 (some .boolean) :: jx_ws) rm_X3_takesJoint (jx_Pc (ll_env G t) (ll_dyn G t) (ll_rg G) sz σ [.ref (G.2 25), .int a1]) (jx_Qi (ll_dyn G t) out.2 out.1 (jx_A (ll_rg G) sz)) 0 0 (jx_A (ll_rg G) sz) := by
  unfold f_X3_takesJoint at h
  refine jx_met (by decide) (Nat.le_of_ble_eq_true rfl) ?_
  refine jx_sub (lv' := [(0, .ref (G.2 25)), (1, .int a1)]) [0, 1] rfl ?_
  refine jx_iload_n (pc := 0) (k0 := 1) rfl dX3_takesJoint_0 ?_
  by_cases c3 : a1 = (38 : Int32)
  · have h := jx_t c3 h
    refine jx_look (pc := 1) (tgt := 44) dX3_takesJoint_1 (by decide) (off := 43) (by rw [c3]; decide) (by decide) ?_
    refine jx_aload_n (pc := 44) (k0 := 0) rfl dX3_takesJoint_44 ?_
    refine jx_bipush (pc := 45) (v := (-2 : Int32)) (by decide) dX3_takesJoint_45 ?_
    obtain ⟨q1, eq1, h⟩ := jx_bd_o h
    refine jx_callVi (pc := 47) [.int (-2 : Int32)] (fun sz' => k_X3_takesOperator l G t hG sz' σ (-2 : Int32) q1 eq1) kv_X3_141 ll_jok ll_rcreader rfl rfl (Nat.le_of_ble_eq_true rfl) ⟨⟨rfl, rfl⟩, ⟨Nat.le_of_ble_eq_true rfl, Nat.le_of_ble_eq_true rfl⟩, Nat.zero_le _, Nat.zero_le _⟩ dX3_takesJoint_47 ?_
    obtain ⟨g2, h⟩ := jx_gd_o h
    have h := Option.some.inj h
    subst h
    exact jx_zret (pc := 50) (of_decide_eq_true g2) dX3_takesJoint_50
  have h := jx_f c3 h
  by_cases c6 : a1 = (41 : Int32)
  · have h := jx_t c6 h
    refine jx_look (pc := 1) (tgt := 58) dX3_takesJoint_1 (by decide) (off := 57) (by rw [c6]; decide) (by decide) ?_
    refine jx_aload_n (pc := 58) (k0 := 0) rfl dX3_takesJoint_58 ?_
    obtain ⟨q4, eq4, h⟩ := jx_bd_o h
    refine jx_callVi (pc := 59) [] (fun sz' => k_X3_takesClosing l G t hG sz' σ q4 eq4) kv_X3_144 ll_jok ll_rcreader rfl rfl (Nat.le_of_ble_eq_true rfl) ⟨⟨rfl, rfl⟩, ⟨Nat.le_of_ble_eq_true rfl, Nat.le_of_ble_eq_true rfl⟩, Nat.zero_le _, Nat.zero_le _⟩ dX3_takesJoint_59 ?_
    obtain ⟨g5, h⟩ := jx_gd_o h
    have h := Option.some.inj h
    subst h
    exact jx_zret (pc := 62) (of_decide_eq_true g5) dX3_takesJoint_62
  have h := jx_f c6 h
  by_cases c11 : a1 = (59 : Int32)
  · have h := jx_t c11 h
    refine jx_look (pc := 1) (tgt := 63) dX3_takesJoint_1 (by decide) (off := 62) (by rw [c11]; decide) (by decide) ?_
    refine jx_aload_n (pc := 63) (k0 := 0) rfl dX3_takesJoint_63 ?_
    refine jx_iconst (pc := 64) (v := (0 : Int32)) (by decide) dX3_takesJoint_64 ?_
    obtain ⟨σ7, eσ7, h⟩ := jx_lt_o h
    refine ll_preader_due (pc := 65) hG fl_X3_40 eσ7 dX3_takesJoint_65 ?_
    refine jx_aload_n (pc := 68) (k0 := 0) rfl dX3_takesJoint_68 ?_
    obtain ⟨q8, eq8, h⟩ := jx_bd_o h
    refine jx_callVi (pc := 69) [] (fun sz' => k_X3_endsClause l G t hG sz' σ7 q8 eq8) kv_X3_147 ll_jok ll_rcreader rfl rfl (Nat.le_of_ble_eq_true rfl) ⟨⟨rfl, rfl⟩, ⟨Nat.le_of_ble_eq_true rfl, Nat.le_of_ble_eq_true rfl⟩, Nat.zero_le _, Nat.zero_le _⟩ dX3_takesJoint_69 ?_
    refine jx_if_eq (pc := 72) (tgt := 88) dX3_takesJoint_72 (by decide) (fun c9 => ?_) (fun c9 => ?_)
    · have h := jx_t c9 h
      refine jx_iconst (pc := 88) (v := (0 : Int32)) (by decide) dX3_takesJoint_88 ?_
      have h := Option.some.inj h
      subst h
      exact jx_zret (pc := 89) (Or.inl rfl) dX3_takesJoint_89
    · have h := jx_f c9 h
      refine jx_aload_n (pc := 75) (k0 := 0) rfl dX3_takesJoint_75 ?_
      refine ll_greader_clauses (pc := 76) fl_X3_27 dX3_takesJoint_76 ?_
      refine jx_bipush (pc := 79) (v := (10 : Int32)) (by decide) dX3_takesJoint_79 ?_
      refine jx_icmp_ge (pc := 81) (tgt := 88) dX3_takesJoint_81 (by decide) (fun c10 => ?_) (fun c10 => ?_)
      · have h := jx_t c10 h
        refine jx_iconst (pc := 88) (v := (0 : Int32)) (by decide) dX3_takesJoint_88 ?_
        have h := Option.some.inj h
        subst h
        exact jx_zret (pc := 89) (Or.inl rfl) dX3_takesJoint_89
      · have h := jx_f c10 h
        refine jx_iconst (pc := 84) (v := (1 : Int32)) (by decide) dX3_takesJoint_84 ?_
        refine jx_goto (pc := 85) (tgt := 89) dX3_takesJoint_85 (by decide) ?_
        have h := Option.some.inj h
        subst h
        exact jx_zret (pc := 89) (Or.inr rfl) dX3_takesJoint_89
  have h := jx_f c11 h
  by_cases c14 : a1 = (124 : Int32)
  · have h := jx_t c14 h
    refine jx_look (pc := 1) (tgt := 51) dX3_takesJoint_1 (by decide) (off := 50) (by rw [c14]; decide) (by decide) ?_
    refine jx_aload_n (pc := 51) (k0 := 0) rfl dX3_takesJoint_51 ?_
    refine jx_bipush (pc := 52) (v := (-3 : Int32)) (by decide) dX3_takesJoint_52 ?_
    obtain ⟨q12, eq12, h⟩ := jx_bd_o h
    refine jx_callVi (pc := 54) [.int (-3 : Int32)] (fun sz' => k_X3_takesOperator l G t hG sz' σ (-3 : Int32) q12 eq12) kv_X3_141 ll_jok ll_rcreader rfl rfl (Nat.le_of_ble_eq_true rfl) ⟨⟨rfl, rfl⟩, ⟨Nat.le_of_ble_eq_true rfl, Nat.le_of_ble_eq_true rfl⟩, Nat.zero_le _, Nat.zero_le _⟩ dX3_takesJoint_54 ?_
    obtain ⟨g13, h⟩ := jx_gd_o h
    have h := Option.some.inj h
    subst h
    exact jx_zret (pc := 57) (of_decide_eq_true g13) dX3_takesJoint_57
  have h := jx_f c14 h
  refine jx_look (pc := 1) (tgt := 90) (off := 89) dX3_takesJoint_1 (by decide) ((lv_osw c3 (by decide)).trans ((lv_osw c6 (by decide)).trans ((lv_osw c11 (by decide)).trans ((lv_osw c14 (by decide)).trans rfl)))) (by decide) ?_
  refine jx_iconst (pc := 90) (v := (0 : Int32)) (by decide) dX3_takesJoint_90 ?_
  have h := Option.some.inj h
  subst h
  exact jx_zret (pc := 91) (Or.inl rfl) dX3_takesJoint_91
theorem dX3_isWhole_0 : decode cX3_isWhole 0 = .ok (.aload_n 0, 1) := by decide +kernel
theorem dX3_isWhole_1 : decode cX3_isWhole 1 = .ok (.getfield 40, 3) := by decide +kernel
theorem dX3_isWhole_4 : decode cX3_isWhole 4 = .ok (.bipush 7, 2) := by decide +kernel
theorem dX3_isWhole_6 : decode cX3_isWhole 6 = .ok (.if_icmp .ne 7, 3) := by decide +kernel
theorem dX3_isWhole_9 : decode cX3_isWhole 9 = .ok (.aload_n 0, 1) := by decide +kernel
theorem dX3_isWhole_10 : decode cX3_isWhole 10 = .ok (.invokevirtual 84, 3) := by decide +kernel
theorem dX3_isWhole_13 : decode cX3_isWhole 13 = .ok (.aload_n 0, 1) := by decide +kernel
theorem dX3_isWhole_14 : decode cX3_isWhole 14 = .ok (.getfield 40, 3) := by decide +kernel
theorem dX3_isWhole_17 : decode cX3_isWhole 17 = .ok (.bipush 8, 2) := by decide +kernel
theorem dX3_isWhole_19 : decode cX3_isWhole 19 = .ok (.if_icmp .ne 14, 3) := by decide +kernel
theorem dX3_isWhole_22 : decode cX3_isWhole 22 = .ok (.aload_n 0, 1) := by decide +kernel
theorem dX3_isWhole_23 : decode cX3_isWhole 23 = .ok (.invokevirtual 147, 3) := by decide +kernel
theorem dX3_isWhole_26 : decode cX3_isWhole 26 = .ok (.ifCond .eq 7, 3) := by decide +kernel
theorem dX3_isWhole_29 : decode cX3_isWhole 29 = .ok (.iconst 1, 1) := by decide +kernel
theorem dX3_isWhole_30 : decode cX3_isWhole 30 = .ok (.goto 4, 3) := by decide +kernel
theorem dX3_isWhole_33 : decode cX3_isWhole 33 = .ok (.iconst 0, 1) := by decide +kernel
theorem dX3_isWhole_34 : decode cX3_isWhole 34 = .ok (.ireturn, 1) := by decide +kernel
abbrev rm_X3_isWhole : Room := { frames := 3, cells := 0, slots := 0, locals := 62 }
abbrev jJ_X3_isWhole (l : Launch) (G : jx_G) (t : jx_T) (sz : Nat) (out : (Int32 × jx_M)) (pc : Nat) (lv : List (Nat × Value)) (st : List Value) (σ : jx_M) : Prop := jx_J l (ll_env G t) (ll_dyn G t) (ll_rg G) sz RX3 "isWhole" cX3_isWhole 1 (some .boolean) rm_X3_isWhole (fun below args s => MQ below (jx_Qi (ll_dyn G t) out.2 out.1 (jx_A (ll_rg G) sz)) args s 0 0 (jx_A (ll_rg G) sz)) 0 0 pc lv st σ
def b_X3_isWhole_13 (t : jx_T)  (σ : jx_M)  : Option (Int32 × jx_M) :=
  if (σ 0 34) = (8 : Int32) then jx_bd (f_X3_endsClause t σ) (fun q2 => if q2.1 = 0 then some ((0 : Int32), q2.2) else some ((1 : Int32), q2.2)) else some ((0 : Int32), σ)
set_option maxHeartbeats 4000000 in
set_option maxRecDepth 100000 in
theorem jb_X3_isWhole_13 (l : Launch) (G : jx_G) (t : jx_T) (hG : ll_ok G) (sz : Nat) (out : (Int32 × jx_M))  (σ : jx_M)  (h : b_X3_isWhole_13 t σ = some out) : jJ_X3_isWhole l G t sz out 13 [(0, .ref (G.2 25))] [] σ := by
  unfold b_X3_isWhole_13 at h
  refine jx_aload_n (pc := 13) (k0 := 0) rfl dX3_isWhole_13 ?_
  refine ll_greader_due (pc := 14) fl_X3_40 dX3_isWhole_14 ?_
  refine jx_bipush (pc := 17) (v := (8 : Int32)) (by decide) dX3_isWhole_17 ?_
  refine jx_icmp_ne (pc := 19) (tgt := 33) dX3_isWhole_19 (by decide) (fun c1 => ?_) (fun c1 => ?_)
  · have h := jx_f c1 h
    refine jx_iconst (pc := 33) (v := (0 : Int32)) (by decide) dX3_isWhole_33 ?_
    have h := Option.some.inj h
    subst h
    exact jx_zret (pc := 34) (Or.inl rfl) dX3_isWhole_34
  · have h := jx_t c1 h
    refine jx_aload_n (pc := 22) (k0 := 0) rfl dX3_isWhole_22 ?_
    obtain ⟨q2, eq2, h⟩ := jx_bd_o h
    refine jx_callVi (pc := 23) [] (fun sz' => k_X3_endsClause l G t hG sz' σ q2 eq2) kv_X3_147 ll_jok ll_rcreader rfl rfl (Nat.le_of_ble_eq_true rfl) ⟨⟨rfl, rfl⟩, ⟨Nat.le_of_ble_eq_true rfl, Nat.le_of_ble_eq_true rfl⟩, Nat.zero_le _, Nat.zero_le _⟩ dX3_isWhole_23 ?_
    refine jx_if_eq (pc := 26) (tgt := 33) dX3_isWhole_26 (by decide) (fun c3 => ?_) (fun c3 => ?_)
    · have h := jx_t c3 h
      refine jx_iconst (pc := 33) (v := (0 : Int32)) (by decide) dX3_isWhole_33 ?_
      have h := Option.some.inj h
      subst h
      exact jx_zret (pc := 34) (Or.inl rfl) dX3_isWhole_34
    · have h := jx_f c3 h
      refine jx_iconst (pc := 29) (v := (1 : Int32)) (by decide) dX3_isWhole_29 ?_
      refine jx_goto (pc := 30) (tgt := 34) dX3_isWhole_30 (by decide) ?_
      have h := Option.some.inj h
      subst h
      exact jx_zret (pc := 34) (Or.inr rfl) dX3_isWhole_34
def f_X3_isWhole (t : jx_T) (σ : jx_M)  : Option (Int32 × jx_M) :=
  if (σ 0 34) = (7 : Int32) then jx_bd (f_X3_endTest t σ) (fun q2 => (b_X3_isWhole_13 t q2)) else (b_X3_isWhole_13 t σ)
set_option maxHeartbeats 4000000 in
set_option maxRecDepth 100000 in
theorem k_X3_isWhole (l : Launch) (G : jx_G) (t : jx_T) (hG : ll_ok G) (sz : Nat) (σ : jx_M)  (out : (Int32 × jx_M)) (h : f_X3_isWhole t σ = some out) : Met l yX3_isWhole (Cond.code yX3_isWhole cX3_isWhole 1 (some .boolean) :: jx_ws) rm_X3_isWhole (jx_Pc (ll_env G t) (ll_dyn G t) (ll_rg G) sz σ [.ref (G.2 25)]) (jx_Qi (ll_dyn G t) out.2 out.1 (jx_A (ll_rg G) sz)) 0 0 (jx_A (ll_rg G) sz) := by
  unfold f_X3_isWhole at h
  refine jx_met (by decide) (Nat.le_of_ble_eq_true rfl) ?_
  refine jx_sub (lv' := [(0, .ref (G.2 25))]) [0] rfl ?_
  refine jx_aload_n (pc := 0) (k0 := 0) rfl dX3_isWhole_0 ?_
  refine ll_greader_due (pc := 1) fl_X3_40 dX3_isWhole_1 ?_
  refine jx_bipush (pc := 4) (v := (7 : Int32)) (by decide) dX3_isWhole_4 ?_
  refine jx_icmp_ne (pc := 6) (tgt := 13) dX3_isWhole_6 (by decide) (fun c1 => ?_) (fun c1 => ?_)
  · have h := jx_f c1 h
    exact jx_sub [0] rfl (jb_X3_isWhole_13 l G t hG sz out σ h)
  · have h := jx_t c1 h
    refine jx_aload_n (pc := 9) (k0 := 0) rfl dX3_isWhole_9 ?_
    obtain ⟨q2, eq2, h⟩ := jx_bd_o h
    refine jx_callVv (pc := 10) [] (fun sz' => k_X3_endTest l G t hG sz' σ q2 eq2) kv_X3_84 ll_jok ll_rcreader rfl rfl (Nat.le_of_ble_eq_true rfl) ⟨⟨rfl, rfl⟩, ⟨Nat.le_of_ble_eq_true rfl, Nat.le_of_ble_eq_true rfl⟩, Nat.zero_le _, Nat.zero_le _⟩ dX3_isWhole_10 ?_
    exact jx_sub [0] rfl (jb_X3_isWhole_13 l G t hG sz out q2 h)
theorem dX5_at_0 : decode cX5_at 0 = .ok (.aload_n 0, 1) := by decide +kernel
theorem dX5_at_1 : decode cX5_at 1 = .ok (.getfield 12, 3) := by decide +kernel
theorem dX5_at_4 : decode cX5_at 4 = .ok (.iload_n 1, 1) := by decide +kernel
theorem dX5_at_5 : decode cX5_at 5 = .ok (.invokevirtual 85, 3) := by decide +kernel
theorem dX5_at_8 : decode cX5_at 8 = .ok (.ifCond .ne 5, 3) := by decide +kernel
theorem dX5_at_11 : decode cX5_at 11 = .ok (.iconst (-1), 1) := by decide +kernel
theorem dX5_at_12 : decode cX5_at 12 = .ok (.ireturn, 1) := by decide +kernel
theorem dX5_at_13 : decode cX5_at 13 = .ok (.iload_n 2, 1) := by decide +kernel
theorem dX5_at_14 : decode cX5_at 14 = .ok (.tableswitch 106 0 5 #[38, 38, 38, 50, 74, 90], 38) := by decide +kernel
theorem dX5_at_52 : decode cX5_at 52 = .ok (.aload_n 0, 1) := by decide +kernel
theorem dX5_at_53 : decode cX5_at 53 = .ok (.getfield 12, 3) := by decide +kernel
theorem dX5_at_56 : decode cX5_at 56 = .ok (.getfield 93, 3) := by decide +kernel
theorem dX5_at_59 : decode cX5_at 59 = .ok (.iload_n 1, 1) := by decide +kernel
theorem dX5_at_60 : decode cX5_at 60 = .ok (.aaload, 1) := by decide +kernel
theorem dX5_at_61 : decode cX5_at 61 = .ok (.iload_n 2, 1) := by decide +kernel
theorem dX5_at_62 : decode cX5_at 62 = .ok (.iaload, 1) := by decide +kernel
theorem dX5_at_63 : decode cX5_at 63 = .ok (.ireturn, 1) := by decide +kernel
theorem dX5_at_64 : decode cX5_at 64 = .ok (.aload_n 0, 1) := by decide +kernel
theorem dX5_at_65 : decode cX5_at 65 = .ok (.getfield 12, 3) := by decide +kernel
theorem dX5_at_68 : decode cX5_at 68 = .ok (.iload_n 1, 1) := by decide +kernel
theorem dX5_at_69 : decode cX5_at 69 = .ok (.aload_n 0, 1) := by decide +kernel
theorem dX5_at_70 : decode cX5_at 70 = .ok (.getfield 12, 3) := by decide +kernel
theorem dX5_at_73 : decode cX5_at 73 = .ok (.getfield 97, 3) := by decide +kernel
theorem dX5_at_76 : decode cX5_at 76 = .ok (.invokevirtual 100, 3) := by decide +kernel
theorem dX5_at_79 : decode cX5_at 79 = .ok (.ifCond .eq 7, 3) := by decide +kernel
theorem dX5_at_82 : decode cX5_at 82 = .ok (.iconst 1, 1) := by decide +kernel
theorem dX5_at_83 : decode cX5_at 83 = .ok (.goto 4, 3) := by decide +kernel
theorem dX5_at_86 : decode cX5_at 86 = .ok (.iconst 0, 1) := by decide +kernel
theorem dX5_at_87 : decode cX5_at 87 = .ok (.ireturn, 1) := by decide +kernel
theorem dX5_at_88 : decode cX5_at 88 = .ok (.aload_n 0, 1) := by decide +kernel
theorem dX5_at_89 : decode cX5_at 89 = .ok (.getfield 12, 3) := by decide +kernel
theorem dX5_at_92 : decode cX5_at 92 = .ok (.iload_n 1, 1) := by decide +kernel
theorem dX5_at_93 : decode cX5_at 93 = .ok (.aload_n 0, 1) := by decide +kernel
theorem dX5_at_94 : decode cX5_at 94 = .ok (.getfield 12, 3) := by decide +kernel
theorem dX5_at_97 : decode cX5_at 97 = .ok (.getfield 97, 3) := by decide +kernel
theorem dX5_at_100 : decode cX5_at 100 = .ok (.invokevirtual 103, 3) := by decide +kernel
theorem dX5_at_103 : decode cX5_at 103 = .ok (.ireturn, 1) := by decide +kernel
theorem dX5_at_104 : decode cX5_at 104 = .ok (.aload_n 0, 1) := by decide +kernel
theorem dX5_at_105 : decode cX5_at 105 = .ok (.getfield 12, 3) := by decide +kernel
theorem dX5_at_108 : decode cX5_at 108 = .ok (.iload_n 1, 1) := by decide +kernel
theorem dX5_at_109 : decode cX5_at 109 = .ok (.aload_n 0, 1) := by decide +kernel
theorem dX5_at_110 : decode cX5_at 110 = .ok (.getfield 12, 3) := by decide +kernel
theorem dX5_at_113 : decode cX5_at 113 = .ok (.getfield 97, 3) := by decide +kernel
theorem dX5_at_116 : decode cX5_at 116 = .ok (.invokevirtual 107, 3) := by decide +kernel
theorem dX5_at_119 : decode cX5_at 119 = .ok (.ireturn, 1) := by decide +kernel
theorem dX5_at_120 : decode cX5_at 120 = .ok (.iconst (-1), 1) := by decide +kernel
theorem dX5_at_121 : decode cX5_at 121 = .ok (.ireturn, 1) := by decide +kernel
abbrev rm_X5_at : Room := { frames := 3, cells := 0, slots := 0, locals := 74 }
abbrev jJ_X5_at (l : Launch) (G : jx_G) (t : jx_T) (sz : Nat) (out : (Int32 × jx_M)) (pc : Nat) (lv : List (Nat × Value)) (st : List Value) (σ : jx_M) : Prop := jx_J l (ll_env G t) (ll_dyn G t) (ll_rg G) sz RX5 "at" cX5_at 3 (some .int) rm_X5_at (fun below args s => MQ below (jx_Qi (ll_dyn G t) out.2 out.1 (jx_A (ll_rg G) sz)) args s 0 0 (jx_A (ll_rg G) sz)) 0 0 pc lv st σ
def b_X5_at_52 (t : jx_T)  (σ : jx_M) (v1 : Int32) (v2 : Int32) : Option (Int32 × jx_M) :=
  jx_gd (jx_in v1 7) (jx_gd (jx_in v2 (ll_len (1 + v1.toNatClampNeg))) (some ((σ (1 + v1.toNatClampNeg) v2.toNatClampNeg), σ)))
set_option maxHeartbeats 4000000 in
set_option maxRecDepth 100000 in
theorem jb_X5_at_52 (l : Launch) (G : jx_G) (t : jx_T) (hG : ll_ok G) (sz : Nat) (out : (Int32 × jx_M))  (σ : jx_M) (v1 : Int32) (v2 : Int32) (h : b_X5_at_52 t σ v1 v2 = some out) : jJ_X5_at l G t sz out 52 [(0, .ref (G.2 20)), (1, .int v1), (2, .int v2)] [] σ := by
  unfold b_X5_at_52 at h
  refine jx_aload_n (pc := 52) (k0 := 0) rfl dX5_at_52 ?_
  refine ll_glamp_now (pc := 53) fl_X5_12 dX5_at_53 ?_
  refine ll_gnow_place (pc := 56) fl_X5_93 dX5_at_56 ?_
  refine jx_iload_n (pc := 59) (k0 := 1) rfl dX5_at_59 ?_
  obtain ⟨g1, h⟩ := jx_gd_o h
  refine ll_a_now_place (pc := 60) (jx_in_o g1) dX5_at_60 ?_
  refine jx_iload_n (pc := 61) (k0 := 2) rfl dX5_at_61 ?_
  obtain ⟨g2, h⟩ := jx_gd_o h
  refine ll_l (pc := 62) (k := (1 + v1.toNatClampNeg)) (jx_in_o g2) rfl dX5_at_62 ?_
  have h := Option.some.inj h
  subst h
  exact jx_iret (pc := 63) dX5_at_63
def f_X5_at (t : jx_T) (σ : jx_M) (a1 : Int32) (a2 : Int32) : Option (Int32 × jx_M) :=
  jx_bd (f_X1_hasPlace t σ a1) (fun q1 => if q1 = 0 then some ((-1 : Int32), σ) else if a2 = (0 : Int32) then (b_X5_at_52 t σ a1 a2) else if a2 = (1 : Int32) then (b_X5_at_52 t σ a1 a2) else if a2 = (2 : Int32) then (b_X5_at_52 t σ a1 a2) else if a2 = (3 : Int32) then jx_bd (f_X1_holdsBack t σ a1 (σ 0 1)) (fun q6 => if q6.1 = 0 then some ((0 : Int32), q6.2) else some ((1 : Int32), q6.2)) else if a2 = (4 : Int32) then jx_bd (f_X1_goal t σ a1 (σ 0 1)) (fun q9 => some (q9.1, q9.2)) else if a2 = (5 : Int32) then jx_bd (f_X1_weight t σ a1 (σ 0 1)) (fun q11 => some (q11.1, q11.2)) else some ((-1 : Int32), σ))
set_option maxHeartbeats 4000000 in
set_option maxRecDepth 100000 in
theorem k_X5_at (l : Launch) (G : jx_G) (t : jx_T) (hG : ll_ok G) (sz : Nat) (σ : jx_M) (a1 : Int32) (a2 : Int32) (out : (Int32 × jx_M)) (h : f_X5_at t σ a1 a2 = some out) : Met l yX5_at (Cond.code yX5_at cX5_at 3 (some .int) :: jx_ws) rm_X5_at (jx_Pc (ll_env G t) (ll_dyn G t) (ll_rg G) sz σ [.ref (G.2 20), .int a1, .int a2]) (jx_Qi (ll_dyn G t) out.2 out.1 (jx_A (ll_rg G) sz)) 0 0 (jx_A (ll_rg G) sz) := by
  unfold f_X5_at at h
  refine jx_met (by decide) (Nat.le_of_ble_eq_true rfl) ?_
  refine jx_sub (lv' := [(0, .ref (G.2 20)), (1, .int a1), (2, .int a2)]) [0, 1, 2] rfl ?_
  refine jx_aload_n (pc := 0) (k0 := 0) rfl dX5_at_0 ?_
  refine ll_glamp_now (pc := 1) fl_X5_12 dX5_at_1 ?_
  refine jx_iload_n (pc := 4) (k0 := 1) rfl dX5_at_4 ?_
  obtain ⟨q1, eq1, h⟩ := jx_bd_o h
  refine jx_callVi (pc := 5) [.int a1] (fun sz' => k_X1_hasPlace l G t hG sz' σ a1 q1 eq1) kv_X5_85 ll_jok ll_rcnow rfl rfl (Nat.le_of_ble_eq_true rfl) ⟨⟨rfl, rfl⟩, ⟨Nat.le_of_ble_eq_true rfl, Nat.le_of_ble_eq_true rfl⟩, Nat.zero_le _, Nat.zero_le _⟩ dX5_at_5 ?_
  refine jx_if_ne (pc := 8) (tgt := 13) dX5_at_8 (by decide) (fun c2 => ?_) (fun c2 => ?_)
  · have h := jx_f c2 h
    refine jx_iload_n (pc := 13) (k0 := 2) rfl dX5_at_13 ?_
    by_cases c3 : a2 = (0 : Int32)
    · have h := jx_t c3 h
      refine jx_tabIn (pc := 14) (tgt := 52) dX5_at_14 0 (by rw [c3]; rfl) (by decide) (by decide) rfl (by decide) ?_
      exact jx_sub [0, 1, 2] rfl (jb_X5_at_52 l G t hG sz out σ a1 a2 h)
    have h := jx_f c3 h
    by_cases c4 : a2 = (1 : Int32)
    · have h := jx_t c4 h
      refine jx_tabIn (pc := 14) (tgt := 52) dX5_at_14 1 (by rw [c4]; rfl) (by decide) (by decide) rfl (by decide) ?_
      exact jx_sub [0, 1, 2] rfl (jb_X5_at_52 l G t hG sz out σ a1 a2 h)
    have h := jx_f c4 h
    by_cases c5 : a2 = (2 : Int32)
    · have h := jx_t c5 h
      refine jx_tabIn (pc := 14) (tgt := 52) dX5_at_14 2 (by rw [c5]; rfl) (by decide) (by decide) rfl (by decide) ?_
      exact jx_sub [0, 1, 2] rfl (jb_X5_at_52 l G t hG sz out σ a1 a2 h)
    have h := jx_f c5 h
    by_cases c8 : a2 = (3 : Int32)
    · have h := jx_t c8 h
      refine jx_tabIn (pc := 14) (tgt := 64) dX5_at_14 3 (by rw [c8]; rfl) (by decide) (by decide) rfl (by decide) ?_
      refine jx_aload_n (pc := 64) (k0 := 0) rfl dX5_at_64 ?_
      refine ll_glamp_now (pc := 65) fl_X5_12 dX5_at_65 ?_
      refine jx_iload_n (pc := 68) (k0 := 1) rfl dX5_at_68 ?_
      refine jx_aload_n (pc := 69) (k0 := 0) rfl dX5_at_69 ?_
      refine ll_glamp_now (pc := 70) fl_X5_12 dX5_at_70 ?_
      refine ll_gnow_minute (pc := 73) fl_X5_97 dX5_at_73 ?_
      obtain ⟨q6, eq6, h⟩ := jx_bd_o h
      refine jx_callVi (pc := 76) [.int a1, .int (σ 0 1)] (fun sz' => k_X1_holdsBack l G t hG sz' σ a1 (σ 0 1) q6 eq6) kv_X5_100 ll_jok ll_rcnow rfl rfl (Nat.le_of_ble_eq_true rfl) ⟨⟨rfl, rfl⟩, ⟨Nat.le_of_ble_eq_true rfl, Nat.le_of_ble_eq_true rfl⟩, Nat.zero_le _, Nat.zero_le _⟩ dX5_at_76 ?_
      refine jx_if_eq (pc := 79) (tgt := 86) dX5_at_79 (by decide) (fun c7 => ?_) (fun c7 => ?_)
      · have h := jx_t c7 h
        refine jx_iconst (pc := 86) (v := (0 : Int32)) (by decide) dX5_at_86 ?_
        have h := Option.some.inj h
        subst h
        exact jx_iret (pc := 87) dX5_at_87
      · have h := jx_f c7 h
        refine jx_iconst (pc := 82) (v := (1 : Int32)) (by decide) dX5_at_82 ?_
        refine jx_goto (pc := 83) (tgt := 87) dX5_at_83 (by decide) ?_
        have h := Option.some.inj h
        subst h
        exact jx_iret (pc := 87) dX5_at_87
    have h := jx_f c8 h
    by_cases c10 : a2 = (4 : Int32)
    · have h := jx_t c10 h
      refine jx_tabIn (pc := 14) (tgt := 88) dX5_at_14 4 (by rw [c10]; rfl) (by decide) (by decide) rfl (by decide) ?_
      refine jx_aload_n (pc := 88) (k0 := 0) rfl dX5_at_88 ?_
      refine ll_glamp_now (pc := 89) fl_X5_12 dX5_at_89 ?_
      refine jx_iload_n (pc := 92) (k0 := 1) rfl dX5_at_92 ?_
      refine jx_aload_n (pc := 93) (k0 := 0) rfl dX5_at_93 ?_
      refine ll_glamp_now (pc := 94) fl_X5_12 dX5_at_94 ?_
      refine ll_gnow_minute (pc := 97) fl_X5_97 dX5_at_97 ?_
      obtain ⟨q9, eq9, h⟩ := jx_bd_o h
      refine jx_callVi (pc := 100) [.int a1, .int (σ 0 1)] (fun sz' => k_X1_goal l G t hG sz' σ a1 (σ 0 1) q9 eq9) kv_X5_103 ll_jok ll_rcnow rfl rfl (Nat.le_of_ble_eq_true rfl) ⟨⟨rfl, rfl⟩, ⟨Nat.le_of_ble_eq_true rfl, Nat.le_of_ble_eq_true rfl⟩, Nat.zero_le _, Nat.zero_le _⟩ dX5_at_100 ?_
      have h := Option.some.inj h
      subst h
      exact jx_iret (pc := 103) dX5_at_103
    have h := jx_f c10 h
    by_cases c12 : a2 = (5 : Int32)
    · have h := jx_t c12 h
      refine jx_tabIn (pc := 14) (tgt := 104) dX5_at_14 5 (by rw [c12]; rfl) (by decide) (by decide) rfl (by decide) ?_
      refine jx_aload_n (pc := 104) (k0 := 0) rfl dX5_at_104 ?_
      refine ll_glamp_now (pc := 105) fl_X5_12 dX5_at_105 ?_
      refine jx_iload_n (pc := 108) (k0 := 1) rfl dX5_at_108 ?_
      refine jx_aload_n (pc := 109) (k0 := 0) rfl dX5_at_109 ?_
      refine ll_glamp_now (pc := 110) fl_X5_12 dX5_at_110 ?_
      refine ll_gnow_minute (pc := 113) fl_X5_97 dX5_at_113 ?_
      obtain ⟨q11, eq11, h⟩ := jx_bd_o h
      refine jx_callVi (pc := 116) [.int a1, .int (σ 0 1)] (fun sz' => k_X1_weight l G t hG sz' σ a1 (σ 0 1) q11 eq11) kv_X5_107 ll_jok ll_rcnow rfl rfl (Nat.le_of_ble_eq_true rfl) ⟨⟨rfl, rfl⟩, ⟨Nat.le_of_ble_eq_true rfl, Nat.le_of_ble_eq_true rfl⟩, Nat.zero_le _, Nat.zero_le _⟩ dX5_at_116 ?_
      have h := Option.some.inj h
      subst h
      exact jx_iret (pc := 119) dX5_at_119
    have h := jx_f c12 h
    refine jx_tabOut (pc := 14) (tgt := 120) dX5_at_14 (by have z0 := lv_neT c3 (show (0 : Int32).toInt = 0 from rfl); have z1 := lv_neT c4 (show (1 : Int32).toInt = 1 from rfl); have z2 := lv_neT c5 (show (2 : Int32).toInt = 2 from rfl); have z3 := lv_neT c8 (show (3 : Int32).toInt = 3 from rfl); have z4 := lv_neT c10 (show (4 : Int32).toInt = 4 from rfl); have z5 := lv_neT c12 (show (5 : Int32).toInt = 5 from rfl); omega) (by decide) ?_
    refine jx_iconst (pc := 120) (v := (-1 : Int32)) (by decide) dX5_at_120 ?_
    have h := Option.some.inj h
    subst h
    exact jx_iret (pc := 121) dX5_at_121
  · have h := jx_t c2 h
    refine jx_iconst (pc := 11) (v := (-1 : Int32)) (by decide) dX5_at_11 ?_
    have h := Option.some.inj h
    subst h
    exact jx_iret (pc := 12) dX5_at_12
theorem dX5_act_0 : decode cX5_act 0 = .ok (.aload_n 0, 1) := by decide +kernel
theorem dX5_act_1 : decode cX5_act 1 = .ok (.getfield 33, 3) := by decide +kernel
theorem dX5_act_4 : decode cX5_act 4 = .ok (.invokevirtual 232, 3) := by decide +kernel
theorem dX5_act_7 : decode cX5_act 7 = .ok (.aload_n 0, 1) := by decide +kernel
theorem dX5_act_8 : decode cX5_act 8 = .ok (.getfield 12, 3) := by decide +kernel
theorem dX5_act_11 : decode cX5_act 11 = .ok (.iload_n 1, 1) := by decide +kernel
theorem dX5_act_12 : decode cX5_act 12 = .ok (.invokevirtual 119, 3) := by decide +kernel
theorem dX5_act_15 : decode cX5_act 15 = .ok (.ifCond .eq 12, 3) := by decide +kernel
theorem dX5_act_18 : decode cX5_act 18 = .ok (.iload_n 2, 1) := by decide +kernel
theorem dX5_act_19 : decode cX5_act 19 = .ok (.iconst 0, 1) := by decide +kernel
theorem dX5_act_20 : decode cX5_act 20 = .ok (.iconst 2, 1) := by decide +kernel
theorem dX5_act_21 : decode cX5_act 21 = .ok (.invokestatic 48, 3) := by decide +kernel
theorem dX5_act_24 : decode cX5_act 24 = .ok (.ifCond .ne 5, 3) := by decide +kernel
theorem dX5_act_27 : decode cX5_act 27 = .ok (.iconst 0, 1) := by decide +kernel
theorem dX5_act_28 : decode cX5_act 28 = .ok (.ireturn, 1) := by decide +kernel
theorem dX5_act_29 : decode cX5_act 29 = .ok (.aload_n 0, 1) := by decide +kernel
theorem dX5_act_30 : decode cX5_act 30 = .ok (.getfield 33, 3) := by decide +kernel
theorem dX5_act_33 : decode cX5_act 33 = .ok (.iload_n 1, 1) := by decide +kernel
theorem dX5_act_34 : decode cX5_act 34 = .ok (.iload_n 2, 1) := by decide +kernel
theorem dX5_act_35 : decode cX5_act 35 = .ok (.iload_n 3, 1) := by decide +kernel
theorem dX5_act_36 : decode cX5_act 36 = .ok (.invokevirtual 235, 3) := by decide +kernel
theorem dX5_act_39 : decode cX5_act 39 = .ok (.ireturn, 1) := by decide +kernel
abbrev rm_X5_act : Room := { frames := 27, cells := 0, slots := 0, locals := 803 }
abbrev jJ_X5_act (l : Launch) (G : jx_G) (t : jx_T) (sz : Nat) (out : (Int32 × jx_M)) (pc : Nat) (lv : List (Nat × Value)) (st : List Value) (σ : jx_M) : Prop := jx_J l (ll_env G t) (ll_dyn G t) (ll_rg G) sz RX5 "act" cX5_act 4 (some .int) rm_X5_act (fun below args s => MQ below (jx_Qi (ll_dyn G t) out.2 out.1 (jx_A (ll_rg G) sz)) args s 0 0 (jx_A (ll_rg G) sz)) 0 0 pc lv st σ
def f_X5_act (t : jx_T) (σ : jx_M) (a1 : Int32) (a2 : Int32) (a3 : Int32) : Option (Int32 × jx_M) :=
  jx_bd (f_X0_forget t σ) (fun q1 => jx_bd (f_X1_hasVoter t q1 a1) (fun q2 => if q2 = 0 then some ((0 : Int32), q1) else jx_bd (f_X5_within a2 (0 : Int32) (2 : Int32)) (fun q4 => if q4 = 0 then some ((0 : Int32), q1) else jx_bd (f_X0_answer t q1 a1 a2 a3) (fun q6 => some (q6.1, q6.2)))))
set_option maxHeartbeats 4000000 in
set_option maxRecDepth 100000 in
theorem k_X5_act (l : Launch) (G : jx_G) (t : jx_T) (hG : ll_ok G) (sz : Nat) (σ : jx_M) (a1 : Int32) (a2 : Int32) (a3 : Int32) (out : (Int32 × jx_M)) (h : f_X5_act t σ a1 a2 a3 = some out) : Met l yX5_act (Cond.code yX5_act cX5_act 4 (some .int) :: jx_ws) rm_X5_act (jx_Pc (ll_env G t) (ll_dyn G t) (ll_rg G) sz σ [.ref (G.2 20), .int a1, .int a2, .int a3]) (jx_Qi (ll_dyn G t) out.2 out.1 (jx_A (ll_rg G) sz)) 0 0 (jx_A (ll_rg G) sz) := by
  unfold f_X5_act at h
  refine jx_met (by decide) (Nat.le_of_ble_eq_true rfl) ?_
  refine jx_sub (lv' := [(0, .ref (G.2 20)), (1, .int a1), (2, .int a2), (3, .int a3)]) [0, 1, 2, 3] rfl ?_
  refine jx_aload_n (pc := 0) (k0 := 0) rfl dX5_act_0 ?_
  refine ll_glamp_acts (pc := 1) fl_X5_33 dX5_act_1 ?_
  obtain ⟨q1, eq1, h⟩ := jx_bd_o h
  refine jx_callVv (pc := 4) [] (fun sz' => k_X0_forget l G t hG sz' σ q1 eq1) kv_X5_232 ll_jok ll_rcacts rfl rfl (Nat.le_of_ble_eq_true rfl) ⟨⟨rfl, rfl⟩, ⟨Nat.le_of_ble_eq_true rfl, Nat.le_of_ble_eq_true rfl⟩, Nat.zero_le _, Nat.zero_le _⟩ dX5_act_4 ?_
  refine jx_aload_n (pc := 7) (k0 := 0) rfl dX5_act_7 ?_
  refine ll_glamp_now (pc := 8) fl_X5_12 dX5_act_8 ?_
  refine jx_iload_n (pc := 11) (k0 := 1) rfl dX5_act_11 ?_
  obtain ⟨q2, eq2, h⟩ := jx_bd_o h
  refine jx_callVi (pc := 12) [.int a1] (fun sz' => k_X1_hasVoter l G t hG sz' q1 a1 q2 eq2) kv_X5_119 ll_jok ll_rcnow rfl rfl (Nat.le_of_ble_eq_true rfl) ⟨⟨rfl, rfl⟩, ⟨Nat.le_of_ble_eq_true rfl, Nat.le_of_ble_eq_true rfl⟩, Nat.zero_le _, Nat.zero_le _⟩ dX5_act_12 ?_
  refine jx_if_eq (pc := 15) (tgt := 27) dX5_act_15 (by decide) (fun c3 => ?_) (fun c3 => ?_)
  · have h := jx_t c3 h
    refine jx_iconst (pc := 27) (v := (0 : Int32)) (by decide) dX5_act_27 ?_
    have h := Option.some.inj h
    subst h
    exact jx_iret (pc := 28) dX5_act_28
  · have h := jx_f c3 h
    refine jx_iload_n (pc := 18) (k0 := 2) rfl dX5_act_18 ?_
    refine jx_iconst (pc := 19) (v := (0 : Int32)) (by decide) dX5_act_19 ?_
    refine jx_iconst (pc := 20) (v := (2 : Int32)) (by decide) dX5_act_20 ?_
    obtain ⟨q4, eq4, h⟩ := jx_bd_o h
    refine jx_callSi (pc := 21) [.int a2, .int (0 : Int32), .int (2 : Int32)] (fun sz' => k_X5_within l G t hG sz' q1 a2 (0 : Int32) (2 : Int32) q4 eq4) ks_X5_48 ll_jok rfl rfl (Nat.le_of_ble_eq_true rfl) ⟨⟨rfl, rfl⟩, ⟨Nat.le_of_ble_eq_true rfl, Nat.le_of_ble_eq_true rfl⟩, Nat.zero_le _, Nat.zero_le _⟩ dX5_act_21 ?_
    refine jx_if_ne (pc := 24) (tgt := 29) dX5_act_24 (by decide) (fun c5 => ?_) (fun c5 => ?_)
    · have h := jx_f c5 h
      refine jx_aload_n (pc := 29) (k0 := 0) rfl dX5_act_29 ?_
      refine ll_glamp_acts (pc := 30) fl_X5_33 dX5_act_30 ?_
      refine jx_iload_n (pc := 33) (k0 := 1) rfl dX5_act_33 ?_
      refine jx_iload_n (pc := 34) (k0 := 2) rfl dX5_act_34 ?_
      refine jx_iload_n (pc := 35) (k0 := 3) rfl dX5_act_35 ?_
      obtain ⟨q6, eq6, h⟩ := jx_bd_o h
      refine jx_callVi (pc := 36) [.int a1, .int a2, .int a3] (fun sz' => k_X0_answer l G t hG sz' q1 a1 a2 a3 q6 eq6) kv_X5_235 ll_jok ll_rcacts rfl rfl (Nat.le_of_ble_eq_true rfl) ⟨⟨rfl, rfl⟩, ⟨Nat.le_of_ble_eq_true rfl, Nat.le_of_ble_eq_true rfl⟩, Nat.zero_le _, Nat.zero_le _⟩ dX5_act_36 ?_
      have h := Option.some.inj h
      subst h
      exact jx_iret (pc := 39) dX5_act_39
    · have h := jx_t c5 h
      refine jx_iconst (pc := 27) (v := (0 : Int32)) (by decide) dX5_act_27 ?_
      have h := Option.some.inj h
      subst h
      exact jx_iret (pc := 28) dX5_act_28
theorem dX2_pass_0 : decode cX2_pass 0 = .ok (.aload_n 0, 1) := by decide +kernel
theorem dX2_pass_1 : decode cX2_pass 1 = .ok (.invokevirtual 84, 3) := by decide +kernel
theorem dX2_pass_4 : decode cX2_pass 4 = .ok (.aload_n 0, 1) := by decide +kernel
theorem dX2_pass_5 : decode cX2_pass 5 = .ok (.invokevirtual 87, 3) := by decide +kernel
theorem dX2_pass_8 : decode cX2_pass 8 = .ok (.return_, 1) := by decide +kernel
abbrev rm_X2_pass : Room := { frames := 4, cells := 0, slots := 0, locals := 96 }
abbrev jJ_X2_pass (l : Launch) (G : jx_G) (t : jx_T) (sz : Nat) (out : jx_M) (pc : Nat) (lv : List (Nat × Value)) (st : List Value) (σ : jx_M) : Prop := jx_J l (ll_env G t) (ll_dyn G t) (ll_rg G) sz RX2 "pass" cX2_pass 1 none rm_X2_pass (fun below args s => MQ below (jx_Qv (ll_dyn G t) out (jx_A (ll_rg G) sz)) args s 0 0 (jx_A (ll_rg G) sz)) 0 0 pc lv st σ
def f_X2_pass (t : jx_T) (σ : jx_M)  : Option jx_M :=
  jx_bd (f_X2_chart t σ) (fun q1 => jx_bd (f_X2_lightAll t q1) (fun q2 => some q2))
set_option maxHeartbeats 4000000 in
set_option maxRecDepth 100000 in
theorem k_X2_pass (l : Launch) (G : jx_G) (t : jx_T) (hG : ll_ok G) (sz : Nat) (σ : jx_M)  (out : jx_M) (h : f_X2_pass t σ = some out) : Met l yX2_pass (Cond.code yX2_pass cX2_pass 1 none :: jx_ws) rm_X2_pass (jx_Pc (ll_env G t) (ll_dyn G t) (ll_rg G) sz σ [.ref (G.2 23)]) (jx_Qv (ll_dyn G t) out (jx_A (ll_rg G) sz)) 0 0 (jx_A (ll_rg G) sz) := by
  unfold f_X2_pass at h
  refine jx_met (by decide) (Nat.le_of_ble_eq_true rfl) ?_
  refine jx_sub (lv' := [(0, .ref (G.2 23))]) [0] rfl ?_
  refine jx_aload_n (pc := 0) (k0 := 0) rfl dX2_pass_0 ?_
  obtain ⟨q1, eq1, h⟩ := jx_bd_o h
  refine jx_callVv (pc := 1) [] (fun sz' => k_X2_chart l G t hG sz' σ q1 eq1) kv_X2_84 ll_jok ll_rcnight rfl rfl (Nat.le_of_ble_eq_true rfl) ⟨⟨rfl, rfl⟩, ⟨Nat.le_of_ble_eq_true rfl, Nat.le_of_ble_eq_true rfl⟩, Nat.zero_le _, Nat.zero_le _⟩ dX2_pass_1 ?_
  refine jx_aload_n (pc := 4) (k0 := 0) rfl dX2_pass_4 ?_
  obtain ⟨q2, eq2, h⟩ := jx_bd_o h
  refine jx_callVv (pc := 5) [] (fun sz' => k_X2_lightAll l G t hG sz' q1 q2 eq2) kv_X2_87 ll_jok ll_rcnight rfl rfl (Nat.le_of_ble_eq_true rfl) ⟨⟨rfl, rfl⟩, ⟨Nat.le_of_ble_eq_true rfl, Nat.le_of_ble_eq_true rfl⟩, Nat.zero_le _, Nat.zero_le _⟩ dX2_pass_5 ?_
  have h := Option.some.inj h
  subst h
  exact jx_vret (pc := 8) dX2_pass_8
theorem dX2_startsTo_0 : decode cX2_startsTo 0 = .ok (.aload_n 0, 1) := by decide +kernel
theorem dX2_startsTo_1 : decode cX2_startsTo 1 = .ok (.invokevirtual 84, 3) := by decide +kernel
theorem dX2_startsTo_4 : decode cX2_startsTo 4 = .ok (.iconst 0, 1) := by decide +kernel
theorem dX2_startsTo_5 : decode cX2_startsTo 5 = .ok (.istore_n 3, 1) := by decide +kernel
theorem dX2_startsTo_6 : decode cX2_startsTo 6 = .ok (.iconst 0, 1) := by decide +kernel
theorem dX2_startsTo_7 : decode cX2_startsTo 7 = .ok (.istore 4, 2) := by decide +kernel
theorem dX2_startsTo_9 : decode cX2_startsTo 9 = .ok (.iload 4, 2) := by decide +kernel
theorem dX2_startsTo_11 : decode cX2_startsTo 11 = .ok (.aload_n 0, 1) := by decide +kernel
theorem dX2_startsTo_12 : decode cX2_startsTo 12 = .ok (.getfield 36, 3) := by decide +kernel
theorem dX2_startsTo_15 : decode cX2_startsTo 15 = .ok (.getfield 40, 3) := by decide +kernel
theorem dX2_startsTo_18 : decode cX2_startsTo 18 = .ok (.if_icmp .ge 28, 3) := by decide +kernel
theorem dX2_startsTo_21 : decode cX2_startsTo 21 = .ok (.aload_n 0, 1) := by decide +kernel
theorem dX2_startsTo_22 : decode cX2_startsTo 22 = .ok (.iload 4, 2) := by decide +kernel
theorem dX2_startsTo_24 : decode cX2_startsTo 24 = .ok (.iconst 0, 1) := by decide +kernel
theorem dX2_startsTo_25 : decode cX2_startsTo 25 = .ok (.iload_n 2, 1) := by decide +kernel
theorem dX2_startsTo_26 : decode cX2_startsTo 26 = .ok (.invokevirtual 70, 3) := by decide +kernel
theorem dX2_startsTo_29 : decode cX2_startsTo 29 = .ok (.iload_n 1, 1) := by decide +kernel
theorem dX2_startsTo_30 : decode cX2_startsTo 30 = .ok (.if_icmp .ne 10, 3) := by decide +kernel
theorem dX2_startsTo_33 : decode cX2_startsTo 33 = .ok (.iload_n 3, 1) := by decide +kernel
theorem dX2_startsTo_34 : decode cX2_startsTo 34 = .ok (.iconst 1, 1) := by decide +kernel
theorem dX2_startsTo_35 : decode cX2_startsTo 35 = .ok (.iload 4, 2) := by decide +kernel
theorem dX2_startsTo_37 : decode cX2_startsTo 37 = .ok (.ishl, 1) := by decide +kernel
theorem dX2_startsTo_38 : decode cX2_startsTo 38 = .ok (.ior, 1) := by decide +kernel
theorem dX2_startsTo_39 : decode cX2_startsTo 39 = .ok (.istore_n 3, 1) := by decide +kernel
theorem dX2_startsTo_40 : decode cX2_startsTo 40 = .ok (.iinc 4 1, 3) := by decide +kernel
theorem dX2_startsTo_43 : decode cX2_startsTo 43 = .ok (.goto (-34), 3) := by decide +kernel
theorem dX2_startsTo_46 : decode cX2_startsTo 46 = .ok (.iload_n 3, 1) := by decide +kernel
theorem dX2_startsTo_47 : decode cX2_startsTo 47 = .ok (.ireturn, 1) := by decide +kernel
abbrev rm_X2_startsTo : Room := { frames := 4, cells := 0, slots := 0, locals := 96 }
abbrev jJ_X2_startsTo (l : Launch) (G : jx_G) (t : jx_T) (sz : Nat) (out : (Int32 × jx_M)) (pc : Nat) (lv : List (Nat × Value)) (st : List Value) (σ : jx_M) : Prop := jx_J l (ll_env G t) (ll_dyn G t) (ll_rg G) sz RX2 "startsTo" cX2_startsTo 5 (some .int) rm_X2_startsTo (fun below args s => MQ below (jx_Qi (ll_dyn G t) out.2 out.1 (jx_A (ll_rg G) sz)) args s 0 0 (jx_A (ll_rg G) sz)) 0 0 pc lv st σ
def b_X2_startsTo_40 (t : jx_T) (k9 : jx_M → Int32 → Int32 → Int32 → Int32 → Option (Int32 × jx_M)) (σ : jx_M) (v1 : Int32) (v2 : Int32) (v3 : Int32) (v4 : Int32) : Option (Int32 × jx_M) :=
  jx_lt (v4 + (1 : Int32)) (fun x1 => (k9 σ v1 v2 v3 x1))
set_option maxHeartbeats 4000000 in
set_option maxRecDepth 100000 in
theorem jb_X2_startsTo_40 (l : Launch) (G : jx_G) (t : jx_T) (hG : ll_ok G) (sz : Nat) (out : (Int32 × jx_M)) (k9 : jx_M → Int32 → Int32 → Int32 → Int32 → Option (Int32 × jx_M)) (h9 : ∀ (σ : jx_M) (v1 : Int32) (v2 : Int32) (v3 : Int32) (v4 : Int32), k9 σ v1 v2 v3 v4 = some out → jJ_X2_startsTo l G t sz out 9 [(0, .ref (G.2 23)), (1, .int v1), (2, .int v2), (3, .int v3), (4, .int v4)] [] σ) (σ : jx_M) (v1 : Int32) (v2 : Int32) (v3 : Int32) (v4 : Int32) (h : b_X2_startsTo_40 t k9 σ v1 v2 v3 v4 = some out) : jJ_X2_startsTo l G t sz out 40 [(0, .ref (G.2 23)), (1, .int v1), (2, .int v2), (3, .int v3), (4, .int v4)] [] σ := by
  unfold b_X2_startsTo_40 at h
  obtain ⟨x1, ex1, h⟩ := jx_lt_o h
  refine jx_iinc (pc := 40) (i := 4) (v := v4) rfl ex1 (n := 1) (by decide) (by decide) (lv' := [(4, .int x1), (0, .ref (G.2 23)), (1, .int v1), (2, .int v2), (3, .int v3)]) rfl dX2_startsTo_40 ?_
  refine jx_goto (pc := 43) (tgt := 9) dX2_startsTo_43 (by decide) ?_
  exact jx_sub [1, 2, 3, 4, 0] rfl (h9 σ v1 v2 v3 x1 h)
def g_X2_startsTo_9 (t : jx_T) (k9 : jx_M → Int32 → Int32 → Int32 → Int32 → Option (Int32 × jx_M)) (σ : jx_M) (v1 : Int32) (v2 : Int32) (v3 : Int32) (v4 : Int32) : Option (Int32 × jx_M) :=
  if (σ 0 0) ≤ v4 then some (v3, σ) else jx_bd (f_X2_afloat t σ v4 (0 : Int32) v2) (fun q2 => if q2 = v1 then jx_lt ((v3 ||| ((1 : Int32) <<< (v4 &&& 31)))) (fun x4 => (b_X2_startsTo_40 t k9 σ v1 v2 x4 v4)) else (b_X2_startsTo_40 t k9 σ v1 v2 v3 v4))
set_option maxHeartbeats 4000000 in
set_option maxRecDepth 100000 in
theorem jg_X2_startsTo_9 (l : Launch) (G : jx_G) (t : jx_T) (hG : ll_ok G) (sz : Nat) (out : (Int32 × jx_M)) (k9 : jx_M → Int32 → Int32 → Int32 → Int32 → Option (Int32 × jx_M)) (h9 : ∀ (σ : jx_M) (v1 : Int32) (v2 : Int32) (v3 : Int32) (v4 : Int32), k9 σ v1 v2 v3 v4 = some out → jJ_X2_startsTo l G t sz out 9 [(0, .ref (G.2 23)), (1, .int v1), (2, .int v2), (3, .int v3), (4, .int v4)] [] σ) (σ : jx_M) (v1 : Int32) (v2 : Int32) (v3 : Int32) (v4 : Int32) (h : g_X2_startsTo_9 t k9 σ v1 v2 v3 v4 = some out) : jJ_X2_startsTo l G t sz out 9 [(0, .ref (G.2 23)), (1, .int v1), (2, .int v2), (3, .int v3), (4, .int v4)] [] σ := by
  unfold g_X2_startsTo_9 at h
  refine jx_iload (pc := 9) (i := 4) rfl dX2_startsTo_9 ?_
  refine jx_aload_n (pc := 11) (k0 := 0) rfl dX2_startsTo_11 ?_
  refine ll_gnight_canal (pc := 12) fl_X2_36 dX2_startsTo_12 ?_
  refine ll_gnow_places (pc := 15) fl_X2_40 dX2_startsTo_15 ?_
  refine jx_icmp_ge (pc := 18) (tgt := 46) dX2_startsTo_18 (by decide) (fun c1 => ?_) (fun c1 => ?_)
  · have h := jx_t c1 h
    refine jx_iload_n (pc := 46) (k0 := 3) rfl dX2_startsTo_46 ?_
    have h := Option.some.inj h
    subst h
    exact jx_iret (pc := 47) dX2_startsTo_47
  · have h := jx_f c1 h
    refine jx_aload_n (pc := 21) (k0 := 0) rfl dX2_startsTo_21 ?_
    refine jx_iload (pc := 22) (i := 4) rfl dX2_startsTo_22 ?_
    refine jx_iconst (pc := 24) (v := (0 : Int32)) (by decide) dX2_startsTo_24 ?_
    refine jx_iload_n (pc := 25) (k0 := 2) rfl dX2_startsTo_25 ?_
    obtain ⟨q2, eq2, h⟩ := jx_bd_o h
    refine jx_callVi (pc := 26) [.int v4, .int (0 : Int32), .int v2] (fun sz' => k_X2_afloat l G t hG sz' σ v4 (0 : Int32) v2 q2 eq2) kv_X2_70 ll_jok ll_rcnight rfl rfl (Nat.le_of_ble_eq_true rfl) ⟨⟨rfl, rfl⟩, ⟨Nat.le_of_ble_eq_true rfl, Nat.le_of_ble_eq_true rfl⟩, Nat.zero_le _, Nat.zero_le _⟩ dX2_startsTo_26 ?_
    refine jx_iload_n (pc := 29) (k0 := 1) rfl dX2_startsTo_29 ?_
    refine jx_icmp_ne (pc := 30) (tgt := 40) dX2_startsTo_30 (by decide) (fun c3 => ?_) (fun c3 => ?_)
    · have h := jx_f c3 h
      exact jx_sub [0, 1, 2, 3, 4] rfl (jb_X2_startsTo_40 l G t hG sz out k9 h9 σ v1 v2 v3 v4 h)
    · have h := jx_t c3 h
      refine jx_iload_n (pc := 33) (k0 := 3) rfl dX2_startsTo_33 ?_
      refine jx_iconst (pc := 34) (v := (1 : Int32)) (by decide) dX2_startsTo_34 ?_
      refine jx_iload (pc := 35) (i := 4) rfl dX2_startsTo_35 ?_
      refine jx_ishl (pc := 37) dX2_startsTo_37 ?_
      refine jx_ior (pc := 38) dX2_startsTo_38 ?_
      obtain ⟨x4, ex4, h⟩ := jx_lt_o h
      refine jx_istore_n (pc := 39) (i := 3) rfl ex4 (by decide) (lv' := [(3, .int x4), (0, .ref (G.2 23)), (1, .int v1), (2, .int v2), (4, .int v4)]) rfl dX2_startsTo_39 ?_
      exact jx_sub [1, 2, 3, 0, 4] rfl (jb_X2_startsTo_40 l G t hG sz out k9 h9 σ v1 v2 x4 v4 h)
def b_X2_startsTo_9 (t : jx_T)  : Nat → jx_M → Int32 → Int32 → Int32 → Int32 → Option (Int32 × jx_M)
  | 0, _, _, _, _, _ => none
  | n + 1, σ, v1, v2, v3, v4 => g_X2_startsTo_9 t (b_X2_startsTo_9 t n) σ v1 v2 v3 v4
theorem jb_X2_startsTo_9 (l : Launch) (G : jx_G) (t : jx_T) (hG : ll_ok G) (sz : Nat) (out : (Int32 × jx_M))  : ∀ (n : Nat) (σ : jx_M) (v1 : Int32) (v2 : Int32) (v3 : Int32) (v4 : Int32), b_X2_startsTo_9 t n σ v1 v2 v3 v4 = some out → jJ_X2_startsTo l G t sz out 9 [(0, .ref (G.2 23)), (1, .int v1), (2, .int v2), (3, .int v3), (4, .int v4)] [] σ := by
  intro n
  induction n with
  | zero =>
    intro σ v1 v2 v3 v4 h
    cases h
  | succ n ih =>
    intro σ v1 v2 v3 v4 h
    exact jg_X2_startsTo_9 l G t hG sz out (b_X2_startsTo_9 t n) ih σ v1 v2 v3 v4 h
def f_X2_startsTo (t : jx_T) (σ : jx_M) (a1 : Int32) (a2 : Int32) : Option (Int32 × jx_M) :=
  jx_bd (f_X2_chart t σ) (fun q1 => (b_X2_startsTo_9 t jx_fuel q1 a1 a2 (0 : Int32) (0 : Int32)))
set_option maxHeartbeats 4000000 in
set_option maxRecDepth 100000 in
theorem k_X2_startsTo (l : Launch) (G : jx_G) (t : jx_T) (hG : ll_ok G) (sz : Nat) (σ : jx_M) (a1 : Int32) (a2 : Int32) (out : (Int32 × jx_M)) (h : f_X2_startsTo t σ a1 a2 = some out) : Met l yX2_startsTo (Cond.code yX2_startsTo cX2_startsTo 5 (some .int) :: jx_ws) rm_X2_startsTo (jx_Pc (ll_env G t) (ll_dyn G t) (ll_rg G) sz σ [.ref (G.2 23), .int a1, .int a2]) (jx_Qi (ll_dyn G t) out.2 out.1 (jx_A (ll_rg G) sz)) 0 0 (jx_A (ll_rg G) sz) := by
  unfold f_X2_startsTo at h
  refine jx_met (by decide) (Nat.le_of_ble_eq_true rfl) ?_
  refine jx_sub (lv' := [(0, .ref (G.2 23)), (1, .int a1), (2, .int a2)]) [0, 1, 2] rfl ?_
  refine jx_aload_n (pc := 0) (k0 := 0) rfl dX2_startsTo_0 ?_
  obtain ⟨q1, eq1, h⟩ := jx_bd_o h
  refine jx_callVv (pc := 1) [] (fun sz' => k_X2_chart l G t hG sz' σ q1 eq1) kv_X2_84 ll_jok ll_rcnight rfl rfl (Nat.le_of_ble_eq_true rfl) ⟨⟨rfl, rfl⟩, ⟨Nat.le_of_ble_eq_true rfl, Nat.le_of_ble_eq_true rfl⟩, Nat.zero_le _, Nat.zero_le _⟩ dX2_startsTo_1 ?_
  refine jx_iconst (pc := 4) (v := (0 : Int32)) (by decide) dX2_startsTo_4 ?_
  refine jx_istore_n (pc := 5) (i := 3) rfl rfl (by decide) (lv' := [(3, .int (0 : Int32)), (0, .ref (G.2 23)), (1, .int a1), (2, .int a2)]) rfl dX2_startsTo_5 ?_
  refine jx_iconst (pc := 6) (v := (0 : Int32)) (by decide) dX2_startsTo_6 ?_
  refine jx_istore (pc := 7) (i := 4) rfl (by decide) (lv' := [(4, .int (0 : Int32)), (3, .int (0 : Int32)), (0, .ref (G.2 23)), (1, .int a1), (2, .int a2)]) rfl dX2_startsTo_7 ?_
  exact jx_sub [2, 3, 4, 1, 0] rfl (jb_X2_startsTo_9 l G t hG sz out jx_fuel q1 a1 a2 (0 : Int32) (0 : Int32) h)
theorem dX2_stickFor_0 : decode cX2_stickFor 0 = .ok (.aload_n 0, 1) := by decide +kernel
theorem dX2_stickFor_1 : decode cX2_stickFor 1 = .ok (.invokevirtual 84, 3) := by decide +kernel
theorem dX2_stickFor_4 : decode cX2_stickFor 4 = .ok (.aload_n 0, 1) := by decide +kernel
theorem dX2_stickFor_5 : decode cX2_stickFor 5 = .ok (.getfield 36, 3) := by decide +kernel
theorem dX2_stickFor_8 : decode cX2_stickFor 8 = .ok (.invokevirtual 96, 3) := by decide +kernel
theorem dX2_stickFor_11 : decode cX2_stickFor 11 = .ok (.istore_n 2, 1) := by decide +kernel
theorem dX2_stickFor_12 : decode cX2_stickFor 12 = .ok (.bipush (-5), 2) := by decide +kernel
theorem dX2_stickFor_14 : decode cX2_stickFor 14 = .ok (.istore_n 3, 1) := by decide +kernel
theorem dX2_stickFor_15 : decode cX2_stickFor 15 = .ok (.iconst 0, 1) := by decide +kernel
theorem dX2_stickFor_16 : decode cX2_stickFor 16 = .ok (.istore 4, 2) := by decide +kernel
theorem dX2_stickFor_18 : decode cX2_stickFor 18 = .ok (.iload 4, 2) := by decide +kernel
theorem dX2_stickFor_20 : decode cX2_stickFor 20 = .ok (.aload_n 0, 1) := by decide +kernel
theorem dX2_stickFor_21 : decode cX2_stickFor 21 = .ok (.getfield 36, 3) := by decide +kernel
theorem dX2_stickFor_24 : decode cX2_stickFor 24 = .ok (.getfield 40, 3) := by decide +kernel
theorem dX2_stickFor_27 : decode cX2_stickFor 27 = .ok (.if_icmp .ge 37, 3) := by decide +kernel
theorem dX2_stickFor_30 : decode cX2_stickFor 30 = .ok (.iload_n 3, 1) := by decide +kernel
theorem dX2_stickFor_31 : decode cX2_stickFor 31 = .ok (.bipush (-5), 2) := by decide +kernel
theorem dX2_stickFor_33 : decode cX2_stickFor 33 = .ok (.if_icmp .ne 31, 3) := by decide +kernel
theorem dX2_stickFor_36 : decode cX2_stickFor 36 = .ok (.aload_n 0, 1) := by decide +kernel
theorem dX2_stickFor_37 : decode cX2_stickFor 37 = .ok (.iload 4, 2) := by decide +kernel
theorem dX2_stickFor_39 : decode cX2_stickFor 39 = .ok (.putfield 26, 3) := by decide +kernel
theorem dX2_stickFor_42 : decode cX2_stickFor 42 = .ok (.aload_n 0, 1) := by decide +kernel
theorem dX2_stickFor_43 : decode cX2_stickFor 43 = .ok (.invokevirtual 87, 3) := by decide +kernel
theorem dX2_stickFor_46 : decode cX2_stickFor 46 = .ok (.aload_n 0, 1) := by decide +kernel
theorem dX2_stickFor_47 : decode cX2_stickFor 47 = .ok (.iload_n 2, 1) := by decide +kernel
theorem dX2_stickFor_48 : decode cX2_stickFor 48 = .ok (.invokevirtual 106, 3) := by decide +kernel
theorem dX2_stickFor_51 : decode cX2_stickFor 51 = .ok (.iload_n 1, 1) := by decide +kernel
theorem dX2_stickFor_52 : decode cX2_stickFor 52 = .ok (.if_icmp .ne 6, 3) := by decide +kernel
theorem dX2_stickFor_55 : decode cX2_stickFor 55 = .ok (.iload 4, 2) := by decide +kernel
theorem dX2_stickFor_57 : decode cX2_stickFor 57 = .ok (.istore_n 3, 1) := by decide +kernel
theorem dX2_stickFor_58 : decode cX2_stickFor 58 = .ok (.iinc 4 1, 3) := by decide +kernel
theorem dX2_stickFor_61 : decode cX2_stickFor 61 = .ok (.goto (-43), 3) := by decide +kernel
theorem dX2_stickFor_64 : decode cX2_stickFor 64 = .ok (.aload_n 0, 1) := by decide +kernel
theorem dX2_stickFor_65 : decode cX2_stickFor 65 = .ok (.iconst (-1), 1) := by decide +kernel
theorem dX2_stickFor_66 : decode cX2_stickFor 66 = .ok (.putfield 26, 3) := by decide +kernel
theorem dX2_stickFor_69 : decode cX2_stickFor 69 = .ok (.iload_n 3, 1) := by decide +kernel
theorem dX2_stickFor_70 : decode cX2_stickFor 70 = .ok (.ireturn, 1) := by decide +kernel
abbrev rm_X2_stickFor : Room := { frames := 4, cells := 0, slots := 0, locals := 96 }
abbrev jJ_X2_stickFor (l : Launch) (G : jx_G) (t : jx_T) (sz : Nat) (out : (Int32 × jx_M)) (pc : Nat) (lv : List (Nat × Value)) (st : List Value) (σ : jx_M) : Prop := jx_J l (ll_env G t) (ll_dyn G t) (ll_rg G) sz RX2 "stickFor" cX2_stickFor 5 (some .int) rm_X2_stickFor (fun below args s => MQ below (jx_Qi (ll_dyn G t) out.2 out.1 (jx_A (ll_rg G) sz)) args s 0 0 (jx_A (ll_rg G) sz)) 0 0 pc lv st σ
def b_X2_stickFor_58 (t : jx_T) (k18 : jx_M → Int32 → Int32 → Int32 → Int32 → Option (Int32 × jx_M)) (σ : jx_M) (v1 : Int32) (v2 : Int32) (v3 : Int32) (v4 : Int32) : Option (Int32 × jx_M) :=
  jx_lt (v4 + (1 : Int32)) (fun x1 => (k18 σ v1 v2 v3 x1))
set_option maxHeartbeats 4000000 in
set_option maxRecDepth 100000 in
theorem jb_X2_stickFor_58 (l : Launch) (G : jx_G) (t : jx_T) (hG : ll_ok G) (sz : Nat) (out : (Int32 × jx_M)) (k18 : jx_M → Int32 → Int32 → Int32 → Int32 → Option (Int32 × jx_M)) (h18 : ∀ (σ : jx_M) (v1 : Int32) (v2 : Int32) (v3 : Int32) (v4 : Int32), k18 σ v1 v2 v3 v4 = some out → jJ_X2_stickFor l G t sz out 18 [(0, .ref (G.2 23)), (1, .int v1), (2, .int v2), (3, .int v3), (4, .int v4)] [] σ) (σ : jx_M) (v1 : Int32) (v2 : Int32) (v3 : Int32) (v4 : Int32) (h : b_X2_stickFor_58 t k18 σ v1 v2 v3 v4 = some out) : jJ_X2_stickFor l G t sz out 58 [(0, .ref (G.2 23)), (1, .int v1), (2, .int v2), (3, .int v3), (4, .int v4)] [] σ := by
  unfold b_X2_stickFor_58 at h
  obtain ⟨x1, ex1, h⟩ := jx_lt_o h
  refine jx_iinc (pc := 58) (i := 4) (v := v4) rfl ex1 (n := 1) (by decide) (by decide) (lv' := [(4, .int x1), (0, .ref (G.2 23)), (1, .int v1), (2, .int v2), (3, .int v3)]) rfl dX2_stickFor_58 ?_
  refine jx_goto (pc := 61) (tgt := 18) dX2_stickFor_61 (by decide) ?_
  exact jx_sub [1, 2, 3, 4, 0] rfl (h18 σ v1 v2 v3 x1 h)
def b_X2_stickFor_64 (t : jx_T)  (σ : jx_M) (v3 : Int32) : Option (Int32 × jx_M) :=
  jx_lt (jx_mu σ 0 20 (-1 : Int32)) (fun σ1 => some (v3, σ1))
set_option maxHeartbeats 4000000 in
set_option maxRecDepth 100000 in
theorem jb_X2_stickFor_64 (l : Launch) (G : jx_G) (t : jx_T) (hG : ll_ok G) (sz : Nat) (out : (Int32 × jx_M))  (σ : jx_M) (v3 : Int32) (h : b_X2_stickFor_64 t σ v3 = some out) : jJ_X2_stickFor l G t sz out 64 [(0, .ref (G.2 23)), (3, .int v3)] [] σ := by
  unfold b_X2_stickFor_64 at h
  refine jx_aload_n (pc := 64) (k0 := 0) rfl dX2_stickFor_64 ?_
  refine jx_iconst (pc := 65) (v := (-1 : Int32)) (by decide) dX2_stickFor_65 ?_
  obtain ⟨σ1, eσ1, h⟩ := jx_lt_o h
  refine ll_pnight_stick (pc := 66) hG fl_X2_26 eσ1 dX2_stickFor_66 ?_
  refine jx_iload_n (pc := 69) (k0 := 3) rfl dX2_stickFor_69 ?_
  have h := Option.some.inj h
  subst h
  exact jx_iret (pc := 70) dX2_stickFor_70
def g_X2_stickFor_18 (t : jx_T) (k18 : jx_M → Int32 → Int32 → Int32 → Int32 → Option (Int32 × jx_M)) (σ : jx_M) (v1 : Int32) (v2 : Int32) (v3 : Int32) (v4 : Int32) : Option (Int32 × jx_M) :=
  if (σ 0 0) ≤ v4 then (b_X2_stickFor_64 t σ v3) else if v3 = (-5 : Int32) then jx_lt (jx_mu σ 0 20 v4) (fun σ3 => jx_bd (f_X2_lightAll t σ3) (fun q4 => jx_bd (f_X2_mayor t q4 v2) (fun q5 => if q5 = v1 then (b_X2_stickFor_58 t k18 q4 v1 v2 v4 v4) else (b_X2_stickFor_58 t k18 q4 v1 v2 v3 v4)))) else (b_X2_stickFor_64 t σ v3)
set_option maxHeartbeats 4000000 in
set_option maxRecDepth 100000 in
theorem jg_X2_stickFor_18 (l : Launch) (G : jx_G) (t : jx_T) (hG : ll_ok G) (sz : Nat) (out : (Int32 × jx_M)) (k18 : jx_M → Int32 → Int32 → Int32 → Int32 → Option (Int32 × jx_M)) (h18 : ∀ (σ : jx_M) (v1 : Int32) (v2 : Int32) (v3 : Int32) (v4 : Int32), k18 σ v1 v2 v3 v4 = some out → jJ_X2_stickFor l G t sz out 18 [(0, .ref (G.2 23)), (1, .int v1), (2, .int v2), (3, .int v3), (4, .int v4)] [] σ) (σ : jx_M) (v1 : Int32) (v2 : Int32) (v3 : Int32) (v4 : Int32) (h : g_X2_stickFor_18 t k18 σ v1 v2 v3 v4 = some out) : jJ_X2_stickFor l G t sz out 18 [(0, .ref (G.2 23)), (1, .int v1), (2, .int v2), (3, .int v3), (4, .int v4)] [] σ := by
  unfold g_X2_stickFor_18 at h
  refine jx_iload (pc := 18) (i := 4) rfl dX2_stickFor_18 ?_
  refine jx_aload_n (pc := 20) (k0 := 0) rfl dX2_stickFor_20 ?_
  refine ll_gnight_canal (pc := 21) fl_X2_36 dX2_stickFor_21 ?_
  refine ll_gnow_places (pc := 24) fl_X2_40 dX2_stickFor_24 ?_
  refine jx_icmp_ge (pc := 27) (tgt := 64) dX2_stickFor_27 (by decide) (fun c1 => ?_) (fun c1 => ?_)
  · have h := jx_t c1 h
    exact jx_sub [0, 3] rfl (jb_X2_stickFor_64 l G t hG sz out σ v3 h)
  · have h := jx_f c1 h
    refine jx_iload_n (pc := 30) (k0 := 3) rfl dX2_stickFor_30 ?_
    refine jx_bipush (pc := 31) (v := (-5 : Int32)) (by decide) dX2_stickFor_31 ?_
    refine jx_icmp_ne (pc := 33) (tgt := 64) dX2_stickFor_33 (by decide) (fun c2 => ?_) (fun c2 => ?_)
    · have h := jx_f c2 h
      exact jx_sub [0, 3] rfl (jb_X2_stickFor_64 l G t hG sz out σ v3 h)
    · have h := jx_t c2 h
      refine jx_aload_n (pc := 36) (k0 := 0) rfl dX2_stickFor_36 ?_
      refine jx_iload (pc := 37) (i := 4) rfl dX2_stickFor_37 ?_
      obtain ⟨σ3, eσ3, h⟩ := jx_lt_o h
      refine ll_pnight_stick (pc := 39) hG fl_X2_26 eσ3 dX2_stickFor_39 ?_
      refine jx_aload_n (pc := 42) (k0 := 0) rfl dX2_stickFor_42 ?_
      obtain ⟨q4, eq4, h⟩ := jx_bd_o h
      refine jx_callVv (pc := 43) [] (fun sz' => k_X2_lightAll l G t hG sz' σ3 q4 eq4) kv_X2_87 ll_jok ll_rcnight rfl rfl (Nat.le_of_ble_eq_true rfl) ⟨⟨rfl, rfl⟩, ⟨Nat.le_of_ble_eq_true rfl, Nat.le_of_ble_eq_true rfl⟩, Nat.zero_le _, Nat.zero_le _⟩ dX2_stickFor_43 ?_
      refine jx_aload_n (pc := 46) (k0 := 0) rfl dX2_stickFor_46 ?_
      refine jx_iload_n (pc := 47) (k0 := 2) rfl dX2_stickFor_47 ?_
      obtain ⟨q5, eq5, h⟩ := jx_bd_o h
      refine jx_callVi (pc := 48) [.int v2] (fun sz' => k_X2_mayor l G t hG sz' q4 v2 q5 eq5) kv_X2_106 ll_jok ll_rcnight rfl rfl (Nat.le_of_ble_eq_true rfl) ⟨⟨rfl, rfl⟩, ⟨Nat.le_of_ble_eq_true rfl, Nat.le_of_ble_eq_true rfl⟩, Nat.zero_le _, Nat.zero_le _⟩ dX2_stickFor_48 ?_
      refine jx_iload_n (pc := 51) (k0 := 1) rfl dX2_stickFor_51 ?_
      refine jx_icmp_ne (pc := 52) (tgt := 58) dX2_stickFor_52 (by decide) (fun c6 => ?_) (fun c6 => ?_)
      · have h := jx_f c6 h
        exact jx_sub [0, 1, 2, 3, 4] rfl (jb_X2_stickFor_58 l G t hG sz out k18 h18 q4 v1 v2 v3 v4 h)
      · have h := jx_t c6 h
        refine jx_iload (pc := 55) (i := 4) rfl dX2_stickFor_55 ?_
        refine jx_istore_n (pc := 57) (i := 3) rfl rfl (by decide) (lv' := [(3, .int v4), (0, .ref (G.2 23)), (1, .int v1), (2, .int v2), (4, .int v4)]) rfl dX2_stickFor_57 ?_
        exact jx_sub [1, 2, 3, 0, 4] rfl (jb_X2_stickFor_58 l G t hG sz out k18 h18 q4 v1 v2 v4 v4 h)
def b_X2_stickFor_18 (t : jx_T)  : Nat → jx_M → Int32 → Int32 → Int32 → Int32 → Option (Int32 × jx_M)
  | 0, _, _, _, _, _ => none
  | n + 1, σ, v1, v2, v3, v4 => g_X2_stickFor_18 t (b_X2_stickFor_18 t n) σ v1 v2 v3 v4
theorem jb_X2_stickFor_18 (l : Launch) (G : jx_G) (t : jx_T) (hG : ll_ok G) (sz : Nat) (out : (Int32 × jx_M))  : ∀ (n : Nat) (σ : jx_M) (v1 : Int32) (v2 : Int32) (v3 : Int32) (v4 : Int32), b_X2_stickFor_18 t n σ v1 v2 v3 v4 = some out → jJ_X2_stickFor l G t sz out 18 [(0, .ref (G.2 23)), (1, .int v1), (2, .int v2), (3, .int v3), (4, .int v4)] [] σ := by
  intro n
  induction n with
  | zero =>
    intro σ v1 v2 v3 v4 h
    cases h
  | succ n ih =>
    intro σ v1 v2 v3 v4 h
    exact jg_X2_stickFor_18 l G t hG sz out (b_X2_stickFor_18 t n) ih σ v1 v2 v3 v4 h
def f_X2_stickFor (t : jx_T) (σ : jx_M) (a1 : Int32) : Option (Int32 × jx_M) :=
  jx_bd (f_X2_chart t σ) (fun q1 => jx_bd (f_X1_wishes t q1) (fun q2 => (b_X2_stickFor_18 t jx_fuel q1 a1 q2 (-5 : Int32) (0 : Int32))))
set_option maxHeartbeats 4000000 in
set_option maxRecDepth 100000 in
theorem k_X2_stickFor (l : Launch) (G : jx_G) (t : jx_T) (hG : ll_ok G) (sz : Nat) (σ : jx_M) (a1 : Int32) (out : (Int32 × jx_M)) (h : f_X2_stickFor t σ a1 = some out) : Met l yX2_stickFor (Cond.code yX2_stickFor cX2_stickFor 5 (some .int) :: jx_ws) rm_X2_stickFor (jx_Pc (ll_env G t) (ll_dyn G t) (ll_rg G) sz σ [.ref (G.2 23), .int a1]) (jx_Qi (ll_dyn G t) out.2 out.1 (jx_A (ll_rg G) sz)) 0 0 (jx_A (ll_rg G) sz) := by
  unfold f_X2_stickFor at h
  refine jx_met (by decide) (Nat.le_of_ble_eq_true rfl) ?_
  refine jx_sub (lv' := [(0, .ref (G.2 23)), (1, .int a1)]) [0, 1] rfl ?_
  refine jx_aload_n (pc := 0) (k0 := 0) rfl dX2_stickFor_0 ?_
  obtain ⟨q1, eq1, h⟩ := jx_bd_o h
  refine jx_callVv (pc := 1) [] (fun sz' => k_X2_chart l G t hG sz' σ q1 eq1) kv_X2_84 ll_jok ll_rcnight rfl rfl (Nat.le_of_ble_eq_true rfl) ⟨⟨rfl, rfl⟩, ⟨Nat.le_of_ble_eq_true rfl, Nat.le_of_ble_eq_true rfl⟩, Nat.zero_le _, Nat.zero_le _⟩ dX2_stickFor_1 ?_
  refine jx_aload_n (pc := 4) (k0 := 0) rfl dX2_stickFor_4 ?_
  refine ll_gnight_canal (pc := 5) fl_X2_36 dX2_stickFor_5 ?_
  obtain ⟨q2, eq2, h⟩ := jx_bd_o h
  refine jx_callVi (pc := 8) [] (fun sz' => k_X1_wishes l G t hG sz' q1 q2 eq2) kv_X2_96 ll_jok ll_rcnow rfl rfl (Nat.le_of_ble_eq_true rfl) ⟨⟨rfl, rfl⟩, ⟨Nat.le_of_ble_eq_true rfl, Nat.le_of_ble_eq_true rfl⟩, Nat.zero_le _, Nat.zero_le _⟩ dX2_stickFor_8 ?_
  refine jx_istore_n (pc := 11) (i := 2) rfl rfl (by decide) (lv' := [(2, .int q2), (0, .ref (G.2 23)), (1, .int a1)]) rfl dX2_stickFor_11 ?_
  refine jx_bipush (pc := 12) (v := (-5 : Int32)) (by decide) dX2_stickFor_12 ?_
  refine jx_istore_n (pc := 14) (i := 3) rfl rfl (by decide) (lv' := [(3, .int (-5 : Int32)), (2, .int q2), (0, .ref (G.2 23)), (1, .int a1)]) rfl dX2_stickFor_14 ?_
  refine jx_iconst (pc := 15) (v := (0 : Int32)) (by decide) dX2_stickFor_15 ?_
  refine jx_istore (pc := 16) (i := 4) rfl (by decide) (lv' := [(4, .int (0 : Int32)), (3, .int (-5 : Int32)), (2, .int q2), (0, .ref (G.2 23)), (1, .int a1)]) rfl dX2_stickFor_16 ?_
  exact jx_sub [3, 4, 2, 1, 0] rfl (jb_X2_stickFor_18 l G t hG sz out jx_fuel q1 a1 q2 (-5 : Int32) (0 : Int32) h)
