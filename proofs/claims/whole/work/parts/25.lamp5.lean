/-! the class's methods: a function on the memory each, and its contract -/
theorem dX3_takesJoint_0 : decode cX3_takesJoint 0 = .ok (.iload_n 1, 1) := by decide +kernel
theorem dX3_takesJoint_1 : decode cX3_takesJoint 1 = .ok (.lookupswitch 89 #[(38, 43), (41, 57), (59, 62), (124, 50)], 43) := by decide +kernel
theorem dX3_takesJoint_44 : decode cX3_takesJoint 44 = .ok (.aload_n 0, 1) := by decide +kernel
theorem dX3_takesJoint_45 : decode cX3_takesJoint 45 = .ok (.bipush (-2), 2) := by decide +kernel
theorem dX3_takesJoint_47 : decode cX3_takesJoint 47 = .ok (.invokevirtual 141, 3) := by decide +kernel
theorem dX3_takesJoint_50 : decode cX3_takesJoint 50 = .ok (.ireturn, 1) := by decide +kernel
theorem dX3_takesJoint_51 : decode cX3_takesJoint 51 = .ok (.aload_n 0, 1) := by decide +kernel
theorem dX3_takesJoint_52 : decode cX3_takesJoint 52 = .ok (.bipush (-3), 2) := by decide +kernel
theorem dX3_takesJoint_54 : decode cX3_takesJoint 54 = .ok (.invokevirtual 141, 3) := by decide +kernel
theorem dX3_takesJoint_57 : decode cX3_takesJoint 57 = .ok (.ireturn, 1) := by decide +kernel
theorem dX3_takesJoint_58 : decode cX3_takesJoint 58 = .ok (.aload_n 0, 1) := by decide +kernel
theorem dX3_takesJoint_59 : decode cX3_takesJoint 59 = .ok (.invokevirtual 144, 3) := by decide +kernel
theorem dX3_takesJoint_62 : decode cX3_takesJoint 62 = .ok (.ireturn, 1) := by decide +kernel
theorem dX3_takesJoint_63 : decode cX3_takesJoint 63 = .ok (.aload_n 0, 1) := by decide +kernel
theorem dX3_takesJoint_64 : decode cX3_takesJoint 64 = .ok (.iconst 0, 1) := by decide +kernel
theorem dX3_takesJoint_65 : decode cX3_takesJoint 65 = .ok (.putfield 40, 3) := by decide +kernel
theorem dX3_takesJoint_68 : decode cX3_takesJoint 68 = .ok (.aload_n 0, 1) := by decide +kernel
theorem dX3_takesJoint_69 : decode cX3_takesJoint 69 = .ok (.invokevirtual 147, 3) := by decide +kernel
theorem dX3_takesJoint_72 : decode cX3_takesJoint 72 = .ok (.ifCond .eq 16, 3) := by decide +kernel
theorem dX3_takesJoint_75 : decode cX3_takesJoint 75 = .ok (.aload_n 0, 1) := by decide +kernel
theorem dX3_takesJoint_76 : decode cX3_takesJoint 76 = .ok (.getfield 27, 3) := by decide +kernel
theorem dX3_takesJoint_79 : decode cX3_takesJoint 79 = .ok (.bipush 10, 2) := by decide +kernel
theorem dX3_takesJoint_81 : decode cX3_takesJoint 81 = .ok (.if_icmp .ge 7, 3) := by decide +kernel
theorem dX3_takesJoint_84 : decode cX3_takesJoint 84 = .ok (.iconst 1, 1) := by decide +kernel
theorem dX3_takesJoint_85 : decode cX3_takesJoint 85 = .ok (.goto 4, 3) := by decide +kernel
theorem dX3_takesJoint_88 : decode cX3_takesJoint 88 = .ok (.iconst 0, 1) := by decide +kernel
theorem dX3_takesJoint_89 : decode cX3_takesJoint 89 = .ok (.ireturn, 1) := by decide +kernel
theorem dX3_takesJoint_90 : decode cX3_takesJoint 90 = .ok (.iconst 0, 1) := by decide +kernel
theorem dX3_takesJoint_91 : decode cX3_takesJoint 91 = .ok (.ireturn, 1) := by decide +kernel
abbrev rm_X3_takesJoint : Room := { frames := 3, cells := 0, slots := 0, locals := 63 }
abbrev jJ_X3_takesJoint (l : Launch) (G : jx_G) (t : jx_T) (sz : Nat) (out : (Int32 × jx_M)) (pc : Nat) (lv : List (Nat × Value)) (st : List Value) (σ : jx_M) : Prop := jx_J l (ll_env G t) (ll_dyn G t) (ll_rg G) sz RX3 "takesJoint" cX3_takesJoint 2 (some .boolean) rm_X3_takesJoint (fun below args s => MQ below (jx_Qi (ll_dyn G t) out.2 out.1 (jx_A (ll_rg G) sz)) args s 0 0 (jx_A (ll_rg G) sz)) 0 0 pc lv st σ
def f_X3_takesJoint (t : jx_T) (σ : jx_M) (a1 : Int32) : Option (Int32 × jx_M) :=
  if a1 = (38 : Int32) then jx_bd (f_X3_takesOperator t σ (-2 : Int32)) (fun q1 => jx_gd (decide (q1.1 = 0 ∨ q1.1 = 1)) (some (q1.1, q1.2))) else if a1 = (41 : Int32) then jx_bd (f_X3_takesClosing t σ) (fun q4 => jx_gd (decide (q4.1 = 0 ∨ q4.1 = 1)) (some (q4.1, q4.2))) else if a1 = (59 : Int32) then jx_lt (jx_mu σ 0 34 (0 : Int32)) (fun σ7 => jx_bd (f_X3_endsClause t σ7) (fun q8 => if q8.1 = 0 then some ((0 : Int32), q8.2) else if (10 : Int32) ≤ (q8.2 0 30) then some ((0 : Int32), q8.2) else some ((1 : Int32), q8.2))) else if a1 = (124 : Int32) then jx_bd (f_X3_takesOperator t σ (-3 : Int32)) (fun q12 => jx_gd (decide (q12.1 = 0 ∨ q12.1 = 1)) (some (q12.1, q12.2))) else some ((0 : Int32), σ)
set_option maxHeartbeats 4000000 in
set_option maxRecDepth 100000 in
theorem k_X3_takesJoint (l : Launch) (G : jx_G) (t : jx_T) (hG : ll_ok G) (sz : Nat) (σ : jx_M) (a1 : Int32) (out : (Int32 × jx_M)) (h : f_X3_takesJoint t σ a1 = some out) : Met l yX3_takesJoint (Cond.code yX3_takesJoint cX3_takesJoint 2 (some .boolean) :: jx_ws) rm_X3_takesJoint (jx_Pc (ll_env G t) (ll_dyn G t) (ll_rg G) sz σ [.ref (G.2 25), .int a1]) (jx_Qi (ll_dyn G t) out.2 out.1 (jx_A (ll_rg G) sz)) 0 0 (jx_A (ll_rg G) sz) := by
  unfold f_X3_takesJoint at h
  refine jx_met (by decide) (Nat.le_of_ble_eq_true rfl) ?_
  refine jx_sub (lv' := [(0, .ref (G.2 25)), (1, .int a1)]) [0, 1] rfl ?_
  refine jx_iload_n (pc := 0) (k0 := 1) rfl dX3_takesJoint_0 ?_
  by_cases c3 : a1 = (38 : Int32)
  · have h := jx_t c3 h
    refine jx_look (pc := 1) (tgt := 44) dX3_takesJoint_1 (by decide) (off := 43) (by rw [c3]; decide) (by decide) ?_
    refine jx_aload_n (pc := 44) (k0 := 0) rfl dX3_takesJoint_44 ?_
    refine jx_bipush (pc := 45) (v := (-2 : Int32)) (by decide) dX3_takesJoint_45 ?_
    obtain ⟨q1, eq1, h⟩ := jx_bd_o h
    refine jx_callVi (pc := 47) [.int (-2 : Int32)] (fun sz' => k_X3_takesOperator l G t hG sz' σ (-2 : Int32) q1 eq1) kv_X3_141 ll_jok ll_rcreader rfl rfl (Nat.le_of_ble_eq_true rfl) ⟨⟨rfl, rfl⟩, ⟨Nat.le_of_ble_eq_true rfl, Nat.le_of_ble_eq_true rfl⟩, Nat.zero_le _, Nat.zero_le _⟩ dX3_takesJoint_47 ?_
    obtain ⟨g2, h⟩ := jx_gd_o h
    cases h
    exact jx_zret (pc := 50) (of_decide_eq_true g2) dX3_takesJoint_50
  have h := jx_f c3 h
  by_cases c6 : a1 = (41 : Int32)
  · have h := jx_t c6 h
    refine jx_look (pc := 1) (tgt := 58) dX3_takesJoint_1 (by decide) (off := 57) (by rw [c6]; decide) (by decide) ?_
    refine jx_aload_n (pc := 58) (k0 := 0) rfl dX3_takesJoint_58 ?_
    obtain ⟨q4, eq4, h⟩ := jx_bd_o h
    refine jx_callVi (pc := 59) [] (fun sz' => k_X3_takesClosing l G t hG sz' σ q4 eq4) kv_X3_144 ll_jok ll_rcreader rfl rfl (Nat.le_of_ble_eq_true rfl) ⟨⟨rfl, rfl⟩, ⟨Nat.le_of_ble_eq_true rfl, Nat.le_of_ble_eq_true rfl⟩, Nat.zero_le _, Nat.zero_le _⟩ dX3_takesJoint_59 ?_
    obtain ⟨g5, h⟩ := jx_gd_o h
    cases h
    exact jx_zret (pc := 62) (of_decide_eq_true g5) dX3_takesJoint_62
  have h := jx_f c6 h
  by_cases c11 : a1 = (59 : Int32)
  · have h := jx_t c11 h
    refine jx_look (pc := 1) (tgt := 63) dX3_takesJoint_1 (by decide) (off := 62) (by rw [c11]; decide) (by decide) ?_
    refine jx_aload_n (pc := 63) (k0 := 0) rfl dX3_takesJoint_63 ?_
    refine jx_iconst (pc := 64) (v := (0 : Int32)) (by decide) dX3_takesJoint_64 ?_
    obtain ⟨σ7, eσ7, h⟩ := jx_lt_o h
    refine ll_preader_due (pc := 65) hG fl_X3_40 eσ7 dX3_takesJoint_65 ?_
    refine jx_aload_n (pc := 68) (k0 := 0) rfl dX3_takesJoint_68 ?_
    obtain ⟨q8, eq8, h⟩ := jx_bd_o h
    refine jx_callVi (pc := 69) [] (fun sz' => k_X3_endsClause l G t hG sz' σ7 q8 eq8) kv_X3_147 ll_jok ll_rcreader rfl rfl (Nat.le_of_ble_eq_true rfl) ⟨⟨rfl, rfl⟩, ⟨Nat.le_of_ble_eq_true rfl, Nat.le_of_ble_eq_true rfl⟩, Nat.zero_le _, Nat.zero_le _⟩ dX3_takesJoint_69 ?_
    refine jx_if_eq (pc := 72) (tgt := 88) dX3_takesJoint_72 (by decide) (fun c9 => ?_) (fun c9 => ?_)
    · have h := jx_t c9 h
      refine jx_iconst (pc := 88) (v := (0 : Int32)) (by decide) dX3_takesJoint_88 ?_
      cases h
      exact jx_zret (pc := 89) (Or.inl rfl) dX3_takesJoint_89
    · have h := jx_f c9 h
      refine jx_aload_n (pc := 75) (k0 := 0) rfl dX3_takesJoint_75 ?_
      refine ll_greader_clauses (pc := 76) fl_X3_27 dX3_takesJoint_76 ?_
      refine jx_bipush (pc := 79) (v := (10 : Int32)) (by decide) dX3_takesJoint_79 ?_
      refine jx_icmp_ge (pc := 81) (tgt := 88) dX3_takesJoint_81 (by decide) (fun c10 => ?_) (fun c10 => ?_)
      · have h := jx_t c10 h
        refine jx_iconst (pc := 88) (v := (0 : Int32)) (by decide) dX3_takesJoint_88 ?_
        cases h
        exact jx_zret (pc := 89) (Or.inl rfl) dX3_takesJoint_89
      · have h := jx_f c10 h
        refine jx_iconst (pc := 84) (v := (1 : Int32)) (by decide) dX3_takesJoint_84 ?_
        refine jx_goto (pc := 85) (tgt := 89) dX3_takesJoint_85 (by decide) ?_
        cases h
        exact jx_zret (pc := 89) (Or.inr rfl) dX3_takesJoint_89
  have h := jx_f c11 h
  by_cases c14 : a1 = (124 : Int32)
  · have h := jx_t c14 h
    refine jx_look (pc := 1) (tgt := 51) dX3_takesJoint_1 (by decide) (off := 50) (by rw [c14]; decide) (by decide) ?_
    refine jx_aload_n (pc := 51) (k0 := 0) rfl dX3_takesJoint_51 ?_
    refine jx_bipush (pc := 52) (v := (-3 : Int32)) (by decide) dX3_takesJoint_52 ?_
    obtain ⟨q12, eq12, h⟩ := jx_bd_o h
    refine jx_callVi (pc := 54) [.int (-3 : Int32)] (fun sz' => k_X3_takesOperator l G t hG sz' σ (-3 : Int32) q12 eq12) kv_X3_141 ll_jok ll_rcreader rfl rfl (Nat.le_of_ble_eq_true rfl) ⟨⟨rfl, rfl⟩, ⟨Nat.le_of_ble_eq_true rfl, Nat.le_of_ble_eq_true rfl⟩, Nat.zero_le _, Nat.zero_le _⟩ dX3_takesJoint_54 ?_
    obtain ⟨g13, h⟩ := jx_gd_o h
    cases h
    exact jx_zret (pc := 57) (of_decide_eq_true g13) dX3_takesJoint_57
  have h := jx_f c14 h
  refine jx_look (pc := 1) (tgt := 90) (off := 89) dX3_takesJoint_1 (by decide) ((lv_osw c3 (by decide)).trans ((lv_osw c6 (by decide)).trans ((lv_osw c11 (by decide)).trans ((lv_osw c14 (by decide)).trans rfl)))) (by decide) ?_
  refine jx_iconst (pc := 90) (v := (0 : Int32)) (by decide) dX3_takesJoint_90 ?_
  cases h
  exact jx_zret (pc := 91) (Or.inl rfl) dX3_takesJoint_91
theorem dX3_isWhole_0 : decode cX3_isWhole 0 = .ok (.aload_n 0, 1) := by decide +kernel
theorem dX3_isWhole_1 : decode cX3_isWhole 1 = .ok (.getfield 40, 3) := by decide +kernel
theorem dX3_isWhole_4 : decode cX3_isWhole 4 = .ok (.bipush 7, 2) := by decide +kernel
theorem dX3_isWhole_6 : decode cX3_isWhole 6 = .ok (.if_icmp .ne 7, 3) := by decide +kernel
theorem dX3_isWhole_9 : decode cX3_isWhole 9 = .ok (.aload_n 0, 1) := by decide +kernel
theorem dX3_isWhole_10 : decode cX3_isWhole 10 = .ok (.invokevirtual 84, 3) := by decide +kernel
theorem dX3_isWhole_13 : decode cX3_isWhole 13 = .ok (.aload_n 0, 1) := by decide +kernel
theorem dX3_isWhole_14 : decode cX3_isWhole 14 = .ok (.getfield 40, 3) := by decide +kernel
theorem dX3_isWhole_17 : decode cX3_isWhole 17 = .ok (.bipush 8, 2) := by decide +kernel
theorem dX3_isWhole_19 : decode cX3_isWhole 19 = .ok (.if_icmp .ne 14, 3) := by decide +kernel
theorem dX3_isWhole_22 : decode cX3_isWhole 22 = .ok (.aload_n 0, 1) := by decide +kernel
theorem dX3_isWhole_23 : decode cX3_isWhole 23 = .ok (.invokevirtual 147, 3) := by decide +kernel
theorem dX3_isWhole_26 : decode cX3_isWhole 26 = .ok (.ifCond .eq 7, 3) := by decide +kernel
theorem dX3_isWhole_29 : decode cX3_isWhole 29 = .ok (.iconst 1, 1) := by decide +kernel
theorem dX3_isWhole_30 : decode cX3_isWhole 30 = .ok (.goto 4, 3) := by decide +kernel
theorem dX3_isWhole_33 : decode cX3_isWhole 33 = .ok (.iconst 0, 1) := by decide +kernel
theorem dX3_isWhole_34 : decode cX3_isWhole 34 = .ok (.ireturn, 1) := by decide +kernel
abbrev rm_X3_isWhole : Room := { frames := 3, cells := 0, slots := 0, locals := 62 }
abbrev jJ_X3_isWhole (l : Launch) (G : jx_G) (t : jx_T) (sz : Nat) (out : (Int32 × jx_M)) (pc : Nat) (lv : List (Nat × Value)) (st : List Value) (σ : jx_M) : Prop := jx_J l (ll_env G t) (ll_dyn G t) (ll_rg G) sz RX3 "isWhole" cX3_isWhole 1 (some .boolean) rm_X3_isWhole (fun below args s => MQ below (jx_Qi (ll_dyn G t) out.2 out.1 (jx_A (ll_rg G) sz)) args s 0 0 (jx_A (ll_rg G) sz)) 0 0 pc lv st σ
def b_X3_isWhole_13 (t : jx_T)  (σ : jx_M)  : Option (Int32 × jx_M) :=
  if (σ 0 34) = (8 : Int32) then jx_bd (f_X3_endsClause t σ) (fun q2 => if q2.1 = 0 then some ((0 : Int32), q2.2) else some ((1 : Int32), q2.2)) else some ((0 : Int32), σ)
set_option maxHeartbeats 4000000 in
set_option maxRecDepth 100000 in
theorem jb_X3_isWhole_13 (l : Launch) (G : jx_G) (t : jx_T) (hG : ll_ok G) (sz : Nat) (out : (Int32 × jx_M))  (σ : jx_M)  (h : b_X3_isWhole_13 t σ = some out) : jJ_X3_isWhole l G t sz out 13 [(0, .ref (G.2 25))] [] σ := by
  unfold b_X3_isWhole_13 at h
  refine jx_aload_n (pc := 13) (k0 := 0) rfl dX3_isWhole_13 ?_
  refine ll_greader_due (pc := 14) fl_X3_40 dX3_isWhole_14 ?_
  refine jx_bipush (pc := 17) (v := (8 : Int32)) (by decide) dX3_isWhole_17 ?_
  refine jx_icmp_ne (pc := 19) (tgt := 33) dX3_isWhole_19 (by decide) (fun c1 => ?_) (fun c1 => ?_)
  · have h := jx_f c1 h
    refine jx_iconst (pc := 33) (v := (0 : Int32)) (by decide) dX3_isWhole_33 ?_
    cases h
    exact jx_zret (pc := 34) (Or.inl rfl) dX3_isWhole_34
  · have h := jx_t c1 h
    refine jx_aload_n (pc := 22) (k0 := 0) rfl dX3_isWhole_22 ?_
    obtain ⟨q2, eq2, h⟩ := jx_bd_o h
    refine jx_callVi (pc := 23) [] (fun sz' => k_X3_endsClause l G t hG sz' σ q2 eq2) kv_X3_147 ll_jok ll_rcreader rfl rfl (Nat.le_of_ble_eq_true rfl) ⟨⟨rfl, rfl⟩, ⟨Nat.le_of_ble_eq_true rfl, Nat.le_of_ble_eq_true rfl⟩, Nat.zero_le _, Nat.zero_le _⟩ dX3_isWhole_23 ?_
    refine jx_if_eq (pc := 26) (tgt := 33) dX3_isWhole_26 (by decide) (fun c3 => ?_) (fun c3 => ?_)
    · have h := jx_t c3 h
      refine jx_iconst (pc := 33) (v := (0 : Int32)) (by decide) dX3_isWhole_33 ?_
      cases h
      exact jx_zret (pc := 34) (Or.inl rfl) dX3_isWhole_34
    · have h := jx_f c3 h
      refine jx_iconst (pc := 29) (v := (1 : Int32)) (by decide) dX3_isWhole_29 ?_
      refine jx_goto (pc := 30) (tgt := 34) dX3_isWhole_30 (by decide) ?_
      cases h
      exact jx_zret (pc := 34) (Or.inr rfl) dX3_isWhole_34
def f_X3_isWhole (t : jx_T) (σ : jx_M)  : Option (Int32 × jx_M) :=
  if (σ 0 34) = (7 : Int32) then jx_bd (f_X3_endTest t σ) (fun q2 => (b_X3_isWhole_13 t q2)) else (b_X3_isWhole_13 t σ)
set_option maxHeartbeats 4000000 in
set_option maxRecDepth 100000 in
theorem k_X3_isWhole (l : Launch) (G : jx_G) (t : jx_T) (hG : ll_ok G) (sz : Nat) (σ : jx_M)  (out : (Int32 × jx_M)) (h : f_X3_isWhole t σ = some out) : Met l yX3_isWhole (Cond.code yX3_isWhole cX3_isWhole 1 (some .boolean) :: jx_ws) rm_X3_isWhole (jx_Pc (ll_env G t) (ll_dyn G t) (ll_rg G) sz σ [.ref (G.2 25)]) (jx_Qi (ll_dyn G t) out.2 out.1 (jx_A (ll_rg G) sz)) 0 0 (jx_A (ll_rg G) sz) := by
  unfold f_X3_isWhole at h
  refine jx_met (by decide) (Nat.le_of_ble_eq_true rfl) ?_
  refine jx_sub (lv' := [(0, .ref (G.2 25))]) [0] rfl ?_
  refine jx_aload_n (pc := 0) (k0 := 0) rfl dX3_isWhole_0 ?_
  refine ll_greader_due (pc := 1) fl_X3_40 dX3_isWhole_1 ?_
  refine jx_bipush (pc := 4) (v := (7 : Int32)) (by decide) dX3_isWhole_4 ?_
  refine jx_icmp_ne (pc := 6) (tgt := 13) dX3_isWhole_6 (by decide) (fun c1 => ?_) (fun c1 => ?_)
  · have h := jx_f c1 h
    exact jx_sub [0] rfl (jb_X3_isWhole_13 l G t hG sz out σ h)
  · have h := jx_t c1 h
    refine jx_aload_n (pc := 9) (k0 := 0) rfl dX3_isWhole_9 ?_
    obtain ⟨q2, eq2, h⟩ := jx_bd_o h
    refine jx_callVv (pc := 10) [] (fun sz' => k_X3_endTest l G t hG sz' σ q2 eq2) kv_X3_84 ll_jok ll_rcreader rfl rfl (Nat.le_of_ble_eq_true rfl) ⟨⟨rfl, rfl⟩, ⟨Nat.le_of_ble_eq_true rfl, Nat.le_of_ble_eq_true rfl⟩, Nat.zero_le _, Nat.zero_le _⟩ dX3_isWhole_10 ?_
    exact jx_sub [0] rfl (jb_X3_isWhole_13 l G t hG sz out q2 h)
theorem dX5_at_0 : decode cX5_at 0 = .ok (.aload_n 0, 1) := by decide +kernel
theorem dX5_at_1 : decode cX5_at 1 = .ok (.getfield 12, 3) := by decide +kernel
theorem dX5_at_4 : decode cX5_at 4 = .ok (.iload_n 1, 1) := by decide +kernel
theorem dX5_at_5 : decode cX5_at 5 = .ok (.invokevirtual 85, 3) := by decide +kernel
theorem dX5_at_8 : decode cX5_at 8 = .ok (.ifCond .ne 5, 3) := by decide +kernel
theorem dX5_at_11 : decode cX5_at 11 = .ok (.iconst (-1), 1) := by decide +kernel
theorem dX5_at_12 : decode cX5_at 12 = .ok (.ireturn, 1) := by decide +kernel
theorem dX5_at_13 : decode cX5_at 13 = .ok (.iload_n 2, 1) := by decide +kernel
theorem dX5_at_14 : decode cX5_at 14 = .ok (.tableswitch 106 0 5 #[38, 38, 38, 50, 74, 90], 38) := by decide +kernel
theorem dX5_at_52 : decode cX5_at 52 = .ok (.aload_n 0, 1) := by decide +kernel
theorem dX5_at_53 : decode cX5_at 53 = .ok (.getfield 12, 3) := by decide +kernel
theorem dX5_at_56 : decode cX5_at 56 = .ok (.getfield 93, 3) := by decide +kernel
theorem dX5_at_59 : decode cX5_at 59 = .ok (.iload_n 1, 1) := by decide +kernel
theorem dX5_at_60 : decode cX5_at 60 = .ok (.aaload, 1) := by decide +kernel
theorem dX5_at_61 : decode cX5_at 61 = .ok (.iload_n 2, 1) := by decide +kernel
theorem dX5_at_62 : decode cX5_at 62 = .ok (.iaload, 1) := by decide +kernel
theorem dX5_at_63 : decode cX5_at 63 = .ok (.ireturn, 1) := by decide +kernel
theorem dX5_at_64 : decode cX5_at 64 = .ok (.aload_n 0, 1) := by decide +kernel
theorem dX5_at_65 : decode cX5_at 65 = .ok (.getfield 12, 3) := by decide +kernel
theorem dX5_at_68 : decode cX5_at 68 = .ok (.iload_n 1, 1) := by decide +kernel
theorem dX5_at_69 : decode cX5_at 69 = .ok (.aload_n 0, 1) := by decide +kernel
theorem dX5_at_70 : decode cX5_at 70 = .ok (.getfield 12, 3) := by decide +kernel
theorem dX5_at_73 : decode cX5_at 73 = .ok (.getfield 97, 3) := by decide +kernel
theorem dX5_at_76 : decode cX5_at 76 = .ok (.invokevirtual 100, 3) := by decide +kernel
theorem dX5_at_79 : decode cX5_at 79 = .ok (.ifCond .eq 7, 3) := by decide +kernel
theorem dX5_at_82 : decode cX5_at 82 = .ok (.iconst 1, 1) := by decide +kernel
theorem dX5_at_83 : decode cX5_at 83 = .ok (.goto 4, 3) := by decide +kernel
theorem dX5_at_86 : decode cX5_at 86 = .ok (.iconst 0, 1) := by decide +kernel
theorem dX5_at_87 : decode cX5_at 87 = .ok (.ireturn, 1) := by decide +kernel
theorem dX5_at_88 : decode cX5_at 88 = .ok (.aload_n 0, 1) := by decide +kernel
theorem dX5_at_89 : decode cX5_at 89 = .ok (.getfield 12, 3) := by decide +kernel
theorem dX5_at_92 : decode cX5_at 92 = .ok (.iload_n 1, 1) := by decide +kernel
theorem dX5_at_93 : decode cX5_at 93 = .ok (.aload_n 0, 1) := by decide +kernel
theorem dX5_at_94 : decode cX5_at 94 = .ok (.getfield 12, 3) := by decide +kernel
theorem dX5_at_97 : decode cX5_at 97 = .ok (.getfield 97, 3) := by decide +kernel
theorem dX5_at_100 : decode cX5_at 100 = .ok (.invokevirtual 103, 3) := by decide +kernel
theorem dX5_at_103 : decode cX5_at 103 = .ok (.ireturn, 1) := by decide +kernel
theorem dX5_at_104 : decode cX5_at 104 = .ok (.aload_n 0, 1) := by decide +kernel
theorem dX5_at_105 : decode cX5_at 105 = .ok (.getfield 12, 3) := by decide +kernel
theorem dX5_at_108 : decode cX5_at 108 = .ok (.iload_n 1, 1) := by decide +kernel
theorem dX5_at_109 : decode cX5_at 109 = .ok (.aload_n 0, 1) := by decide +kernel
theorem dX5_at_110 : decode cX5_at 110 = .ok (.getfield 12, 3) := by decide +kernel
theorem dX5_at_113 : decode cX5_at 113 = .ok (.getfield 97, 3) := by decide +kernel
theorem dX5_at_116 : decode cX5_at 116 = .ok (.invokevirtual 107, 3) := by decide +kernel
theorem dX5_at_119 : decode cX5_at 119 = .ok (.ireturn, 1) := by decide +kernel
theorem dX5_at_120 : decode cX5_at 120 = .ok (.iconst (-1), 1) := by decide +kernel
theorem dX5_at_121 : decode cX5_at 121 = .ok (.ireturn, 1) := by decide +kernel
abbrev rm_X5_at : Room := { frames := 3, cells := 0, slots := 0, locals := 74 }
abbrev jJ_X5_at (l : Launch) (G : jx_G) (t : jx_T) (sz : Nat) (out : (Int32 × jx_M)) (pc : Nat) (lv : List (Nat × Value)) (st : List Value) (σ : jx_M) : Prop := jx_J l (ll_env G t) (ll_dyn G t) (ll_rg G) sz RX5 "at" cX5_at 3 (some .int) rm_X5_at (fun below args s => MQ below (jx_Qi (ll_dyn G t) out.2 out.1 (jx_A (ll_rg G) sz)) args s 0 0 (jx_A (ll_rg G) sz)) 0 0 pc lv st σ
def b_X5_at_52 (t : jx_T)  (σ : jx_M) (v1 : Int32) (v2 : Int32) : Option (Int32 × jx_M) :=
  jx_gd (jx_in v1 7) (jx_gd (jx_in v2 (ll_len (1 + v1.toNatClampNeg))) (some ((σ (1 + v1.toNatClampNeg) v2.toNatClampNeg), σ)))
set_option maxHeartbeats 4000000 in
set_option maxRecDepth 100000 in
theorem jb_X5_at_52 (l : Launch) (G : jx_G) (t : jx_T) (hG : ll_ok G) (sz : Nat) (out : (Int32 × jx_M))  (σ : jx_M) (v1 : Int32) (v2 : Int32) (h : b_X5_at_52 t σ v1 v2 = some out) : jJ_X5_at l G t sz out 52 [(0, .ref (G.2 20)), (1, .int v1), (2, .int v2)] [] σ := by
  unfold b_X5_at_52 at h
  refine jx_aload_n (pc := 52) (k0 := 0) rfl dX5_at_52 ?_
  refine ll_glamp_now (pc := 53) fl_X5_12 dX5_at_53 ?_
  refine ll_gnow_place (pc := 56) fl_X5_93 dX5_at_56 ?_
  refine jx_iload_n (pc := 59) (k0 := 1) rfl dX5_at_59 ?_
  obtain ⟨g1, h⟩ := jx_gd_o h
  refine ll_a_now_place (pc := 60) (jx_in_o g1) dX5_at_60 ?_
  refine jx_iload_n (pc := 61) (k0 := 2) rfl dX5_at_61 ?_
  obtain ⟨g2, h⟩ := jx_gd_o h
  refine ll_l (pc := 62) (k := (1 + v1.toNatClampNeg)) (jx_in_o g2) rfl dX5_at_62 ?_
  cases h
  exact jx_iret (pc := 63) dX5_at_63
def f_X5_at (t : jx_T) (σ : jx_M) (a1 : Int32) (a2 : Int32) : Option (Int32 × jx_M) :=
  jx_bd (f_X1_hasPlace t σ a1) (fun q1 => if q1 = 0 then some ((-1 : Int32), σ) else if a2 = (0 : Int32) then (b_X5_at_52 t σ a1 a2) else if a2 = (1 : Int32) then (b_X5_at_52 t σ a1 a2) else if a2 = (2 : Int32) then (b_X5_at_52 t σ a1 a2) else if a2 = (3 : Int32) then jx_bd (f_X1_holdsBack t σ a1 (σ 0 1)) (fun q6 => if q6.1 = 0 then some ((0 : Int32), q6.2) else some ((1 : Int32), q6.2)) else if a2 = (4 : Int32) then jx_bd (f_X1_goal t σ a1 (σ 0 1)) (fun q9 => some (q9.1, q9.2)) else if a2 = (5 : Int32) then jx_bd (f_X1_weight t σ a1 (σ 0 1)) (fun q11 => some (q11.1, q11.2)) else some ((-1 : Int32), σ))
set_option maxHeartbeats 4000000 in
set_option maxRecDepth 100000 in
theorem k_X5_at (l : Launch) (G : jx_G) (t : jx_T) (hG : ll_ok G) (sz : Nat) (σ : jx_M) (a1 : Int32) (a2 : Int32) (out : (Int32 × jx_M)) (h : f_X5_at t σ a1 a2 = some out) : Met l yX5_at (Cond.code yX5_at cX5_at 3 (some .int) :: jx_ws) rm_X5_at (jx_Pc (ll_env G t) (ll_dyn G t) (ll_rg G) sz σ [.ref (G.2 20), .int a1, .int a2]) (jx_Qi (ll_dyn G t) out.2 out.1 (jx_A (ll_rg G) sz)) 0 0 (jx_A (ll_rg G) sz) := by
  unfold f_X5_at at h
  refine jx_met (by decide) (Nat.le_of_ble_eq_true rfl) ?_
  refine jx_sub (lv' := [(0, .ref (G.2 20)), (1, .int a1), (2, .int a2)]) [0, 1, 2] rfl ?_
  refine jx_aload_n (pc := 0) (k0 := 0) rfl dX5_at_0 ?_
  refine ll_glamp_now (pc := 1) fl_X5_12 dX5_at_1 ?_
  refine jx_iload_n (pc := 4) (k0 := 1) rfl dX5_at_4 ?_
  obtain ⟨q1, eq1, h⟩ := jx_bd_o h
  refine jx_callVi (pc := 5) [.int a1] (fun sz' => k_X1_hasPlace l G t hG sz' σ a1 q1 eq1) kv_X5_85 ll_jok ll_rcnow rfl rfl (Nat.le_of_ble_eq_true rfl) ⟨⟨rfl, rfl⟩, ⟨Nat.le_of_ble_eq_true rfl, Nat.le_of_ble_eq_true rfl⟩, Nat.zero_le _, Nat.zero_le _⟩ dX5_at_5 ?_
  refine jx_if_ne (pc := 8) (tgt := 13) dX5_at_8 (by decide) (fun c2 => ?_) (fun c2 => ?_)
  · have h := jx_f c2 h
    refine jx_iload_n (pc := 13) (k0 := 2) rfl dX5_at_13 ?_
    by_cases c3 : a2 = (0 : Int32)
    · have h := jx_t c3 h
      refine jx_tabIn (pc := 14) (tgt := 52) dX5_at_14 0 (by rw [c3]; rfl) (by decide) (by decide) rfl (by decide) ?_
      exact jx_sub [0, 1, 2] rfl (jb_X5_at_52 l G t hG sz out σ a1 a2 h)
    have h := jx_f c3 h
    by_cases c4 : a2 = (1 : Int32)
    · have h := jx_t c4 h
      refine jx_tabIn (pc := 14) (tgt := 52) dX5_at_14 1 (by rw [c4]; rfl) (by decide) (by decide) rfl (by decide) ?_
      exact jx_sub [0, 1, 2] rfl (jb_X5_at_52 l G t hG sz out σ a1 a2 h)
    have h := jx_f c4 h
    by_cases c5 : a2 = (2 : Int32)
    · have h := jx_t c5 h
      refine jx_tabIn (pc := 14) (tgt := 52) dX5_at_14 2 (by rw [c5]; rfl) (by decide) (by decide) rfl (by decide) ?_
      exact jx_sub [0, 1, 2] rfl (jb_X5_at_52 l G t hG sz out σ a1 a2 h)
    have h := jx_f c5 h
    by_cases c8 : a2 = (3 : Int32)
    · have h := jx_t c8 h
      refine jx_tabIn (pc := 14) (tgt := 64) dX5_at_14 3 (by rw [c8]; rfl) (by decide) (by decide) rfl (by decide) ?_
      refine jx_aload_n (pc := 64) (k0 := 0) rfl dX5_at_64 ?_
      refine ll_glamp_now (pc := 65) fl_X5_12 dX5_at_65 ?_
      refine jx_iload_n (pc := 68) (k0 := 1) rfl dX5_at_68 ?_
      refine jx_aload_n (pc := 69) (k0 := 0) rfl dX5_at_69 ?_
      refine ll_glamp_now (pc := 70) fl_X5_12 dX5_at_70 ?_
      refine ll_gnow_minute (pc := 73) fl_X5_97 dX5_at_73 ?_
      obtain ⟨q6, eq6, h⟩ := jx_bd_o h
      refine jx_callVi (pc := 76) [.int a1, .int (σ 0 1)] (fun sz' => k_X1_holdsBack l G t hG sz' σ a1 (σ 0 1) q6 eq6) kv_X5_100 ll_jok ll_rcnow rfl rfl (Nat.le_of_ble_eq_true rfl) ⟨⟨rfl, rfl⟩, ⟨Nat.le_of_ble_eq_true rfl, Nat.le_of_ble_eq_true rfl⟩, Nat.zero_le _, Nat.zero_le _⟩ dX5_at_76 ?_
      refine jx_if_eq (pc := 79) (tgt := 86) dX5_at_79 (by decide) (fun c7 => ?_) (fun c7 => ?_)
      · have h := jx_t c7 h
        refine jx_iconst (pc := 86) (v := (0 : Int32)) (by decide) dX5_at_86 ?_
        cases h
        exact jx_iret (pc := 87) dX5_at_87
      · have h := jx_f c7 h
        refine jx_iconst (pc := 82) (v := (1 : Int32)) (by decide) dX5_at_82 ?_
        refine jx_goto (pc := 83) (tgt := 87) dX5_at_83 (by decide) ?_
        cases h
        exact jx_iret (pc := 87) dX5_at_87
    have h := jx_f c8 h
    by_cases c10 : a2 = (4 : Int32)
    · have h := jx_t c10 h
      refine jx_tabIn (pc := 14) (tgt := 88) dX5_at_14 4 (by rw [c10]; rfl) (by decide) (by decide) rfl (by decide) ?_
      refine jx_aload_n (pc := 88) (k0 := 0) rfl dX5_at_88 ?_
      refine ll_glamp_now (pc := 89) fl_X5_12 dX5_at_89 ?_
      refine jx_iload_n (pc := 92) (k0 := 1) rfl dX5_at_92 ?_
      refine jx_aload_n (pc := 93) (k0 := 0) rfl dX5_at_93 ?_
      refine ll_glamp_now (pc := 94) fl_X5_12 dX5_at_94 ?_
      refine ll_gnow_minute (pc := 97) fl_X5_97 dX5_at_97 ?_
      obtain ⟨q9, eq9, h⟩ := jx_bd_o h
      refine jx_callVi (pc := 100) [.int a1, .int (σ 0 1)] (fun sz' => k_X1_goal l G t hG sz' σ a1 (σ 0 1) q9 eq9) kv_X5_103 ll_jok ll_rcnow rfl rfl (Nat.le_of_ble_eq_true rfl) ⟨⟨rfl, rfl⟩, ⟨Nat.le_of_ble_eq_true rfl, Nat.le_of_ble_eq_true rfl⟩, Nat.zero_le _, Nat.zero_le _⟩ dX5_at_100 ?_
      cases h
      exact jx_iret (pc := 103) dX5_at_103
    have h := jx_f c10 h
    by_cases c12 : a2 = (5 : Int32)
    · have h := jx_t c12 h
      refine jx_tabIn (pc := 14) (tgt := 104) dX5_at_14 5 (by rw [c12]; rfl) (by decide) (by decide) rfl (by decide) ?_
      refine jx_aload_n (pc := 104) (k0 := 0) rfl dX5_at_104 ?_
      refine ll_glamp_now (pc := 105) fl_X5_12 dX5_at_105 ?_
      refine jx_iload_n (pc := 108) (k0 := 1) rfl dX5_at_108 ?_
      refine jx_aload_n (pc := 109) (k0 := 0) rfl dX5_at_109 ?_
      refine ll_glamp_now (pc := 110) fl_X5_12 dX5_at_110 ?_
      refine ll_gnow_minute (pc := 113) fl_X5_97 dX5_at_113 ?_
      obtain ⟨q11, eq11, h⟩ := jx_bd_o h
      refine jx_callVi (pc := 116) [.int a1, .int (σ 0 1)] (fun sz' => k_X1_weight l G t hG sz' σ a1 (σ 0 1) q11 eq11) kv_X5_107 ll_jok ll_rcnow rfl rfl (Nat.le_of_ble_eq_true rfl) ⟨⟨rfl, rfl⟩, ⟨Nat.le_of_ble_eq_true rfl, Nat.le_of_ble_eq_true rfl⟩, Nat.zero_le _, Nat.zero_le _⟩ dX5_at_116 ?_
      cases h
      exact jx_iret (pc := 119) dX5_at_119
    have h := jx_f c12 h
    refine jx_tabOut (pc := 14) (tgt := 120) dX5_at_14 (by have z0 := lv_neT c3 (show (0 : Int32).toInt = 0 from rfl); have z1 := lv_neT c4 (show (1 : Int32).toInt = 1 from rfl); have z2 := lv_neT c5 (show (2 : Int32).toInt = 2 from rfl); have z3 := lv_neT c8 (show (3 : Int32).toInt = 3 from rfl); have z4 := lv_neT c10 (show (4 : Int32).toInt = 4 from rfl); have z5 := lv_neT c12 (show (5 : Int32).toInt = 5 from rfl); omega) (by decide) ?_
    refine jx_iconst (pc := 120) (v := (-1 : Int32)) (by decide) dX5_at_120 ?_
    cases h
    exact jx_iret (pc := 121) dX5_at_121
  · have h := jx_t c2 h
    refine jx_iconst (pc := 11) (v := (-1 : Int32)) (by decide) dX5_at_11 ?_
    cases h
    exact jx_iret (pc := 12) dX5_at_12
theorem dX2_pass_0 : decode cX2_pass 0 = .ok (.aload_n 0, 1) := by decide +kernel
theorem dX2_pass_1 : decode cX2_pass 1 = .ok (.invokevirtual 84, 3) := by decide +kernel
theorem dX2_pass_4 : decode cX2_pass 4 = .ok (.aload_n 0, 1) := by decide +kernel
theorem dX2_pass_5 : decode cX2_pass 5 = .ok (.invokevirtual 87, 3) := by decide +kernel
theorem dX2_pass_8 : decode cX2_pass 8 = .ok (.return_, 1) := by decide +kernel
abbrev rm_X2_pass : Room := { frames := 4, cells := 0, slots := 0, locals := 96 }
abbrev jJ_X2_pass (l : Launch) (G : jx_G) (t : jx_T) (sz : Nat) (out : jx_M) (pc : Nat) (lv : List (Nat × Value)) (st : List Value) (σ : jx_M) : Prop := jx_J l (ll_env G t) (ll_dyn G t) (ll_rg G) sz RX2 "pass" cX2_pass 1 none rm_X2_pass (fun below args s => MQ below (jx_Qv (ll_dyn G t) out (jx_A (ll_rg G) sz)) args s 0 0 (jx_A (ll_rg G) sz)) 0 0 pc lv st σ
def f_X2_pass (t : jx_T) (σ : jx_M)  : Option jx_M :=
  jx_bd (f_X2_chart t σ) (fun q1 => jx_bd (f_X2_lightAll t q1) (fun q2 => some q2))
set_option maxHeartbeats 4000000 in
set_option maxRecDepth 100000 in
theorem k_X2_pass (l : Launch) (G : jx_G) (t : jx_T) (hG : ll_ok G) (sz : Nat) (σ : jx_M)  (out : jx_M) (h : f_X2_pass t σ = some out) : Met l yX2_pass (Cond.code yX2_pass cX2_pass 1 none :: jx_ws) rm_X2_pass (jx_Pc (ll_env G t) (ll_dyn G t) (ll_rg G) sz σ [.ref (G.2 23)]) (jx_Qv (ll_dyn G t) out (jx_A (ll_rg G) sz)) 0 0 (jx_A (ll_rg G) sz) := by
  unfold f_X2_pass at h
  refine jx_met (by decide) (Nat.le_of_ble_eq_true rfl) ?_
  refine jx_sub (lv' := [(0, .ref (G.2 23))]) [0] rfl ?_
  refine jx_aload_n (pc := 0) (k0 := 0) rfl dX2_pass_0 ?_
  obtain ⟨q1, eq1, h⟩ := jx_bd_o h
  refine jx_callVv (pc := 1) [] (fun sz' => k_X2_chart l G t hG sz' σ q1 eq1) kv_X2_84 ll_jok ll_rcnight rfl rfl (Nat.le_of_ble_eq_true rfl) ⟨⟨rfl, rfl⟩, ⟨Nat.le_of_ble_eq_true rfl, Nat.le_of_ble_eq_true rfl⟩, Nat.zero_le _, Nat.zero_le _⟩ dX2_pass_1 ?_
  refine jx_aload_n (pc := 4) (k0 := 0) rfl dX2_pass_4 ?_
  obtain ⟨q2, eq2, h⟩ := jx_bd_o h
  refine jx_callVv (pc := 5) [] (fun sz' => k_X2_lightAll l G t hG sz' q1 q2 eq2) kv_X2_87 ll_jok ll_rcnight rfl rfl (Nat.le_of_ble_eq_true rfl) ⟨⟨rfl, rfl⟩, ⟨Nat.le_of_ble_eq_true rfl, Nat.le_of_ble_eq_true rfl⟩, Nat.zero_le _, Nat.zero_le _⟩ dX2_pass_5 ?_
  cases h
  exact jx_vret (pc := 8) dX2_pass_8
theorem dX2_startsTo_0 : decode cX2_startsTo 0 = .ok (.aload_n 0, 1) := by decide +kernel
theorem dX2_startsTo_1 : decode cX2_startsTo 1 = .ok (.invokevirtual 84, 3) := by decide +kernel
theorem dX2_startsTo_4 : decode cX2_startsTo 4 = .ok (.iconst 0, 1) := by decide +kernel
theorem dX2_startsTo_5 : decode cX2_startsTo 5 = .ok (.istore_n 3, 1) := by decide +kernel
theorem dX2_startsTo_6 : decode cX2_startsTo 6 = .ok (.iconst 0, 1) := by decide +kernel
theorem dX2_startsTo_7 : decode cX2_startsTo 7 = .ok (.istore 4, 2) := by decide +kernel
theorem dX2_startsTo_9 : decode cX2_startsTo 9 = .ok (.iload 4, 2) := by decide +kernel
theorem dX2_startsTo_11 : decode cX2_startsTo 11 = .ok (.aload_n 0, 1) := by decide +kernel
theorem dX2_startsTo_12 : decode cX2_startsTo 12 = .ok (.getfield 36, 3) := by decide +kernel
theorem dX2_startsTo_15 : decode cX2_startsTo 15 = .ok (.getfield 40, 3) := by decide +kernel
theorem dX2_startsTo_18 : decode cX2_startsTo 18 = .ok (.if_icmp .ge 28, 3) := by decide +kernel
theorem dX2_startsTo_21 : decode cX2_startsTo 21 = .ok (.aload_n 0, 1) := by decide +kernel
theorem dX2_startsTo_22 : decode cX2_startsTo 22 = .ok (.iload 4, 2) := by decide +kernel
theorem dX2_startsTo_24 : decode cX2_startsTo 24 = .ok (.iconst 0, 1) := by decide +kernel
theorem dX2_startsTo_25 : decode cX2_startsTo 25 = .ok (.iload_n 2, 1) := by decide +kernel
theorem dX2_startsTo_26 : decode cX2_startsTo 26 = .ok (.invokevirtual 70, 3) := by decide +kernel
theorem dX2_startsTo_29 : decode cX2_startsTo 29 = .ok (.iload_n 1, 1) := by decide +kernel
theorem dX2_startsTo_30 : decode cX2_startsTo 30 = .ok (.if_icmp .ne 10, 3) := by decide +kernel
theorem dX2_startsTo_33 : decode cX2_startsTo 33 = .ok (.iload_n 3, 1) := by decide +kernel
theorem dX2_startsTo_34 : decode cX2_startsTo 34 = .ok (.iconst 1, 1) := by decide +kernel
theorem dX2_startsTo_35 : decode cX2_startsTo 35 = .ok (.iload 4, 2) := by decide +kernel
theorem dX2_startsTo_37 : decode cX2_startsTo 37 = .ok (.ishl, 1) := by decide +kernel
theorem dX2_startsTo_38 : decode cX2_startsTo 38 = .ok (.ior, 1) := by decide +kernel
theorem dX2_startsTo_39 : decode cX2_startsTo 39 = .ok (.istore_n 3, 1) := by decide +kernel
theorem dX2_startsTo_40 : decode cX2_startsTo 40 = .ok (.iinc 4 1, 3) := by decide +kernel
theorem dX2_startsTo_43 : decode cX2_startsTo 43 = .ok (.goto (-34), 3) := by decide +kernel
theorem dX2_startsTo_46 : decode cX2_startsTo 46 = .ok (.iload_n 3, 1) := by decide +kernel
theorem dX2_startsTo_47 : decode cX2_startsTo 47 = .ok (.ireturn, 1) := by decide +kernel
abbrev rm_X2_startsTo : Room := { frames := 4, cells := 0, slots := 0, locals := 96 }
abbrev jJ_X2_startsTo (l : Launch) (G : jx_G) (t : jx_T) (sz : Nat) (out : (Int32 × jx_M)) (pc : Nat) (lv : List (Nat × Value)) (st : List Value) (σ : jx_M) : Prop := jx_J l (ll_env G t) (ll_dyn G t) (ll_rg G) sz RX2 "startsTo" cX2_startsTo 5 (some .int) rm_X2_startsTo (fun below args s => MQ below (jx_Qi (ll_dyn G t) out.2 out.1 (jx_A (ll_rg G) sz)) args s 0 0 (jx_A (ll_rg G) sz)) 0 0 pc lv st σ
def b_X2_startsTo_40 (t : jx_T) (k9 : jx_M → Int32 → Int32 → Int32 → Int32 → Option (Int32 × jx_M)) (σ : jx_M) (v1 : Int32) (v2 : Int32) (v3 : Int32) (v4 : Int32) : Option (Int32 × jx_M) :=
  jx_lt (v4 + (1 : Int32)) (fun x1 => (k9 σ v1 v2 v3 x1))
set_option maxHeartbeats 4000000 in
set_option maxRecDepth 100000 in
theorem jb_X2_startsTo_40 (l : Launch) (G : jx_G) (t : jx_T) (hG : ll_ok G) (sz : Nat) (out : (Int32 × jx_M)) (k9 : jx_M → Int32 → Int32 → Int32 → Int32 → Option (Int32 × jx_M)) (h9 : ∀ (σ : jx_M) (v1 : Int32) (v2 : Int32) (v3 : Int32) (v4 : Int32), k9 σ v1 v2 v3 v4 = some out → jJ_X2_startsTo l G t sz out 9 [(0, .ref (G.2 23)), (1, .int v1), (2, .int v2), (3, .int v3), (4, .int v4)] [] σ) (σ : jx_M) (v1 : Int32) (v2 : Int32) (v3 : Int32) (v4 : Int32) (h : b_X2_startsTo_40 t k9 σ v1 v2 v3 v4 = some out) : jJ_X2_startsTo l G t sz out 40 [(0, .ref (G.2 23)), (1, .int v1), (2, .int v2), (3, .int v3), (4, .int v4)] [] σ := by
  unfold b_X2_startsTo_40 at h
  obtain ⟨x1, ex1, h⟩ := jx_lt_o h
  refine jx_iinc (pc := 40) (i := 4) (v := v4) rfl ex1 (n := 1) (by decide) (by decide) (lv' := [(4, .int x1), (0, .ref (G.2 23)), (1, .int v1), (2, .int v2), (3, .int v3)]) rfl dX2_startsTo_40 ?_
  refine jx_goto (pc := 43) (tgt := 9) dX2_startsTo_43 (by decide) ?_
  exact jx_sub [1, 2, 3, 4, 0] rfl (h9 σ v1 v2 v3 x1 h)
def g_X2_startsTo_9 (t : jx_T) (k9 : jx_M → Int32 → Int32 → Int32 → Int32 → Option (Int32 × jx_M)) (σ : jx_M) (v1 : Int32) (v2 : Int32) (v3 : Int32) (v4 : Int32) : Option (Int32 × jx_M) :=
  if (σ 0 0) ≤ v4 then some (v3, σ) else jx_bd (f_X2_afloat t σ v4 (0 : Int32) v2) (fun q2 => if q2 = v1 then jx_lt ((v3 ||| ((1 : Int32) <<< (v4 &&& 31)))) (fun x4 => (b_X2_startsTo_40 t k9 σ v1 v2 x4 v4)) else (b_X2_startsTo_40 t k9 σ v1 v2 v3 v4))
set_option maxHeartbeats 4000000 in
set_option maxRecDepth 100000 in
theorem jg_X2_startsTo_9 (l : Launch) (G : jx_G) (t : jx_T) (hG : ll_ok G) (sz : Nat) (out : (Int32 × jx_M)) (k9 : jx_M → Int32 → Int32 → Int32 → Int32 → Option (Int32 × jx_M)) (h9 : ∀ (σ : jx_M) (v1 : Int32) (v2 : Int32) (v3 : Int32) (v4 : Int32), k9 σ v1 v2 v3 v4 = some out → jJ_X2_startsTo l G t sz out 9 [(0, .ref (G.2 23)), (1, .int v1), (2, .int v2), (3, .int v3), (4, .int v4)] [] σ) (σ : jx_M) (v1 : Int32) (v2 : Int32) (v3 : Int32) (v4 : Int32) (h : g_X2_startsTo_9 t k9 σ v1 v2 v3 v4 = some out) : jJ_X2_startsTo l G t sz out 9 [(0, .ref (G.2 23)), (1, .int v1), (2, .int v2), (3, .int v3), (4, .int v4)] [] σ := by
  unfold g_X2_startsTo_9 at h
  refine jx_iload (pc := 9) (i := 4) rfl dX2_startsTo_9 ?_
  refine jx_aload_n (pc := 11) (k0 := 0) rfl dX2_startsTo_11 ?_
  refine ll_gnight_canal (pc := 12) fl_X2_36 dX2_startsTo_12 ?_
  refine ll_gnow_places (pc := 15) fl_X2_40 dX2_startsTo_15 ?_
  refine jx_icmp_ge (pc := 18) (tgt := 46) dX2_startsTo_18 (by decide) (fun c1 => ?_) (fun c1 => ?_)
  · have h := jx_t c1 h
    refine jx_iload_n (pc := 46) (k0 := 3) rfl dX2_startsTo_46 ?_
    cases h
    exact jx_iret (pc := 47) dX2_startsTo_47
  · have h := jx_f c1 h
    refine jx_aload_n (pc := 21) (k0 := 0) rfl dX2_startsTo_21 ?_
    refine jx_iload (pc := 22) (i := 4) rfl dX2_startsTo_22 ?_
    refine jx_iconst (pc := 24) (v := (0 : Int32)) (by decide) dX2_startsTo_24 ?_
    refine jx_iload_n (pc := 25) (k0 := 2) rfl dX2_startsTo_25 ?_
    obtain ⟨q2, eq2, h⟩ := jx_bd_o h
    refine jx_callVi (pc := 26) [.int v4, .int (0 : Int32), .int v2] (fun sz' => k_X2_afloat l G t hG sz' σ v4 (0 : Int32) v2 q2 eq2) kv_X2_70 ll_jok ll_rcnight rfl rfl (Nat.le_of_ble_eq_true rfl) ⟨⟨rfl, rfl⟩, ⟨Nat.le_of_ble_eq_true rfl, Nat.le_of_ble_eq_true rfl⟩, Nat.zero_le _, Nat.zero_le _⟩ dX2_startsTo_26 ?_
    refine jx_iload_n (pc := 29) (k0 := 1) rfl dX2_startsTo_29 ?_
    refine jx_icmp_ne (pc := 30) (tgt := 40) dX2_startsTo_30 (by decide) (fun c3 => ?_) (fun c3 => ?_)
    · have h := jx_f c3 h
      exact jx_sub [0, 1, 2, 3, 4] rfl (jb_X2_startsTo_40 l G t hG sz out k9 h9 σ v1 v2 v3 v4 h)
    · have h := jx_t c3 h
      refine jx_iload_n (pc := 33) (k0 := 3) rfl dX2_startsTo_33 ?_
      refine jx_iconst (pc := 34) (v := (1 : Int32)) (by decide) dX2_startsTo_34 ?_
      refine jx_iload (pc := 35) (i := 4) rfl dX2_startsTo_35 ?_
      refine jx_ishl (pc := 37) dX2_startsTo_37 ?_
      refine jx_ior (pc := 38) dX2_startsTo_38 ?_
      obtain ⟨x4, ex4, h⟩ := jx_lt_o h
      refine jx_istore_n (pc := 39) (i := 3) rfl ex4 (by decide) (lv' := [(3, .int x4), (0, .ref (G.2 23)), (1, .int v1), (2, .int v2), (4, .int v4)]) rfl dX2_startsTo_39 ?_
      exact jx_sub [1, 2, 3, 0, 4] rfl (jb_X2_startsTo_40 l G t hG sz out k9 h9 σ v1 v2 x4 v4 h)
def b_X2_startsTo_9 (t : jx_T)  : Nat → jx_M → Int32 → Int32 → Int32 → Int32 → Option (Int32 × jx_M)
  | 0, _, _, _, _, _ => none
  | n + 1, σ, v1, v2, v3, v4 => g_X2_startsTo_9 t (b_X2_startsTo_9 t n) σ v1 v2 v3 v4
theorem jb_X2_startsTo_9 (l : Launch) (G : jx_G) (t : jx_T) (hG : ll_ok G) (sz : Nat) (out : (Int32 × jx_M))  : ∀ (n : Nat) (σ : jx_M) (v1 : Int32) (v2 : Int32) (v3 : Int32) (v4 : Int32), b_X2_startsTo_9 t n σ v1 v2 v3 v4 = some out → jJ_X2_startsTo l G t sz out 9 [(0, .ref (G.2 23)), (1, .int v1), (2, .int v2), (3, .int v3), (4, .int v4)] [] σ := by
  intro n
  induction n with
  | zero =>
    intro σ v1 v2 v3 v4 h
    cases h
  | succ n ih =>
    intro σ v1 v2 v3 v4 h
    exact jg_X2_startsTo_9 l G t hG sz out (b_X2_startsTo_9 t n) ih σ v1 v2 v3 v4 h
def f_X2_startsTo (t : jx_T) (σ : jx_M) (a1 : Int32) (a2 : Int32) : Option (Int32 × jx_M) :=
  jx_bd (f_X2_chart t σ) (fun q1 => (b_X2_startsTo_9 t jx_fuel q1 a1 a2 (0 : Int32) (0 : Int32)))
set_option maxHeartbeats 4000000 in
set_option maxRecDepth 100000 in
theorem k_X2_startsTo (l : Launch) (G : jx_G) (t : jx_T) (hG : ll_ok G) (sz : Nat) (σ : jx_M) (a1 : Int32) (a2 : Int32) (out : (Int32 × jx_M)) (h : f_X2_startsTo t σ a1 a2 = some out) : Met l yX2_startsTo (Cond.code yX2_startsTo cX2_startsTo 5 (some .int) :: jx_ws) rm_X2_startsTo (jx_Pc (ll_env G t) (ll_dyn G t) (ll_rg G) sz σ [.ref (G.2 23), .int a1, .int a2]) (jx_Qi (ll_dyn G t) out.2 out.1 (jx_A (ll_rg G) sz)) 0 0 (jx_A (ll_rg G) sz) := by
  unfold f_X2_startsTo at h
  refine jx_met (by decide) (Nat.le_of_ble_eq_true rfl) ?_
  refine jx_sub (lv' := [(0, .ref (G.2 23)), (1, .int a1), (2, .int a2)]) [0, 1, 2] rfl ?_
  refine jx_aload_n (pc := 0) (k0 := 0) rfl dX2_startsTo_0 ?_
  obtain ⟨q1, eq1, h⟩ := jx_bd_o h
  refine jx_callVv (pc := 1) [] (fun sz' => k_X2_chart l G t hG sz' σ q1 eq1) kv_X2_84 ll_jok ll_rcnight rfl rfl (Nat.le_of_ble_eq_true rfl) ⟨⟨rfl, rfl⟩, ⟨Nat.le_of_ble_eq_true rfl, Nat.le_of_ble_eq_true rfl⟩, Nat.zero_le _, Nat.zero_le _⟩ dX2_startsTo_1 ?_
  refine jx_iconst (pc := 4) (v := (0 : Int32)) (by decide) dX2_startsTo_4 ?_
  refine jx_istore_n (pc := 5) (i := 3) rfl rfl (by decide) (lv' := [(3, .int (0 : Int32)), (0, .ref (G.2 23)), (1, .int a1), (2, .int a2)]) rfl dX2_startsTo_5 ?_
  refine jx_iconst (pc := 6) (v := (0 : Int32)) (by decide) dX2_startsTo_6 ?_
  refine jx_istore (pc := 7) (i := 4) rfl (by decide) (lv' := [(4, .int (0 : Int32)), (3, .int (0 : Int32)), (0, .ref (G.2 23)), (1, .int a1), (2, .int a2)]) rfl dX2_startsTo_7 ?_
  exact jx_sub [2, 3, 4, 1, 0] rfl (jb_X2_startsTo_9 l G t hG sz out jx_fuel q1 a1 a2 (0 : Int32) (0 : Int32) h)
theorem dX2_stickFor_0 : decode cX2_stickFor 0 = .ok (.aload_n 0, 1) := by decide +kernel
theorem dX2_stickFor_1 : decode cX2_stickFor 1 = .ok (.invokevirtual 84, 3) := by decide +kernel
theorem dX2_stickFor_4 : decode cX2_stickFor 4 = .ok (.aload_n 0, 1) := by decide +kernel
theorem dX2_stickFor_5 : decode cX2_stickFor 5 = .ok (.getfield 36, 3) := by decide +kernel
theorem dX2_stickFor_8 : decode cX2_stickFor 8 = .ok (.invokevirtual 96, 3) := by decide +kernel
theorem dX2_stickFor_11 : decode cX2_stickFor 11 = .ok (.istore_n 2, 1) := by decide +kernel
theorem dX2_stickFor_12 : decode cX2_stickFor 12 = .ok (.bipush (-5), 2) := by decide +kernel
theorem dX2_stickFor_14 : decode cX2_stickFor 14 = .ok (.istore_n 3, 1) := by decide +kernel
theorem dX2_stickFor_15 : decode cX2_stickFor 15 = .ok (.iconst 0, 1) := by decide +kernel
theorem dX2_stickFor_16 : decode cX2_stickFor 16 = .ok (.istore 4, 2) := by decide +kernel
theorem dX2_stickFor_18 : decode cX2_stickFor 18 = .ok (.iload 4, 2) := by decide +kernel
theorem dX2_stickFor_20 : decode cX2_stickFor 20 = .ok (.aload_n 0, 1) := by decide +kernel
theorem dX2_stickFor_21 : decode cX2_stickFor 21 = .ok (.getfield 36, 3) := by decide +kernel
theorem dX2_stickFor_24 : decode cX2_stickFor 24 = .ok (.getfield 40, 3) := by decide +kernel
theorem dX2_stickFor_27 : decode cX2_stickFor 27 = .ok (.if_icmp .ge 37, 3) := by decide +kernel
theorem dX2_stickFor_30 : decode cX2_stickFor 30 = .ok (.iload_n 3, 1) := by decide +kernel
theorem dX2_stickFor_31 : decode cX2_stickFor 31 = .ok (.bipush (-5), 2) := by decide +kernel
theorem dX2_stickFor_33 : decode cX2_stickFor 33 = .ok (.if_icmp .ne 31, 3) := by decide +kernel
theorem dX2_stickFor_36 : decode cX2_stickFor 36 = .ok (.aload_n 0, 1) := by decide +kernel
theorem dX2_stickFor_37 : decode cX2_stickFor 37 = .ok (.iload 4, 2) := by decide +kernel
theorem dX2_stickFor_39 : decode cX2_stickFor 39 = .ok (.putfield 26, 3) := by decide +kernel
theorem dX2_stickFor_42 : decode cX2_stickFor 42 = .ok (.aload_n 0, 1) := by decide +kernel
theorem dX2_stickFor_43 : decode cX2_stickFor 43 = .ok (.invokevirtual 87, 3) := by decide +kernel
theorem dX2_stickFor_46 : decode cX2_stickFor 46 = .ok (.aload_n 0, 1) := by decide +kernel
theorem dX2_stickFor_47 : decode cX2_stickFor 47 = .ok (.iload_n 2, 1) := by decide +kernel
theorem dX2_stickFor_48 : decode cX2_stickFor 48 = .ok (.invokevirtual 106, 3) := by decide +kernel
theorem dX2_stickFor_51 : decode cX2_stickFor 51 = .ok (.iload_n 1, 1) := by decide +kernel
theorem dX2_stickFor_52 : decode cX2_stickFor 52 = .ok (.if_icmp .ne 6, 3) := by decide +kernel
theorem dX2_stickFor_55 : decode cX2_stickFor 55 = .ok (.iload 4, 2) := by decide +kernel
theorem dX2_stickFor_57 : decode cX2_stickFor 57 = .ok (.istore_n 3, 1) := by decide +kernel
theorem dX2_stickFor_58 : decode cX2_stickFor 58 = .ok (.iinc 4 1, 3) := by decide +kernel
theorem dX2_stickFor_61 : decode cX2_stickFor 61 = .ok (.goto (-43), 3) := by decide +kernel
theorem dX2_stickFor_64 : decode cX2_stickFor 64 = .ok (.aload_n 0, 1) := by decide +kernel
theorem dX2_stickFor_65 : decode cX2_stickFor 65 = .ok (.iconst (-1), 1) := by decide +kernel
theorem dX2_stickFor_66 : decode cX2_stickFor 66 = .ok (.putfield 26, 3) := by decide +kernel
theorem dX2_stickFor_69 : decode cX2_stickFor 69 = .ok (.iload_n 3, 1) := by decide +kernel
theorem dX2_stickFor_70 : decode cX2_stickFor 70 = .ok (.ireturn, 1) := by decide +kernel
abbrev rm_X2_stickFor : Room := { frames := 4, cells := 0, slots := 0, locals := 96 }
abbrev jJ_X2_stickFor (l : Launch) (G : jx_G) (t : jx_T) (sz : Nat) (out : (Int32 × jx_M)) (pc : Nat) (lv : List (Nat × Value)) (st : List Value) (σ : jx_M) : Prop := jx_J l (ll_env G t) (ll_dyn G t) (ll_rg G) sz RX2 "stickFor" cX2_stickFor 5 (some .int) rm_X2_stickFor (fun below args s => MQ below (jx_Qi (ll_dyn G t) out.2 out.1 (jx_A (ll_rg G) sz)) args s 0 0 (jx_A (ll_rg G) sz)) 0 0 pc lv st σ
def b_X2_stickFor_58 (t : jx_T) (k18 : jx_M → Int32 → Int32 → Int32 → Int32 → Option (Int32 × jx_M)) (σ : jx_M) (v1 : Int32) (v2 : Int32) (v3 : Int32) (v4 : Int32) : Option (Int32 × jx_M) :=
  jx_lt (v4 + (1 : Int32)) (fun x1 => (k18 σ v1 v2 v3 x1))
set_option maxHeartbeats 4000000 in
set_option maxRecDepth 100000 in
theorem jb_X2_stickFor_58 (l : Launch) (G : jx_G) (t : jx_T) (hG : ll_ok G) (sz : Nat) (out : (Int32 × jx_M)) (k18 : jx_M → Int32 → Int32 → Int32 → Int32 → Option (Int32 × jx_M)) (h18 : ∀ (σ : jx_M) (v1 : Int32) (v2 : Int32) (v3 : Int32) (v4 : Int32), k18 σ v1 v2 v3 v4 = some out → jJ_X2_stickFor l G t sz out 18 [(0, .ref (G.2 23)), (1, .int v1), (2, .int v2), (3, .int v3), (4, .int v4)] [] σ) (σ : jx_M) (v1 : Int32) (v2 : Int32) (v3 : Int32) (v4 : Int32) (h : b_X2_stickFor_58 t k18 σ v1 v2 v3 v4 = some out) : jJ_X2_stickFor l G t sz out 58 [(0, .ref (G.2 23)), (1, .int v1), (2, .int v2), (3, .int v3), (4, .int v4)] [] σ := by
  unfold b_X2_stickFor_58 at h
  obtain ⟨x1, ex1, h⟩ := jx_lt_o h
  refine jx_iinc (pc := 58) (i := 4) (v := v4) rfl ex1 (n := 1) (by decide) (by decide) (lv' := [(4, .int x1), (0, .ref (G.2 23)), (1, .int v1), (2, .int v2), (3, .int v3)]) rfl dX2_stickFor_58 ?_
  refine jx_goto (pc := 61) (tgt := 18) dX2_stickFor_61 (by decide) ?_
  exact jx_sub [1, 2, 3, 4, 0] rfl (h18 σ v1 v2 v3 x1 h)
def b_X2_stickFor_64 (t : jx_T)  (σ : jx_M) (v3 : Int32) : Option (Int32 × jx_M) :=
  jx_lt (jx_mu σ 0 20 (-1 : Int32)) (fun σ1 => some (v3, σ1))
set_option maxHeartbeats 4000000 in
set_option maxRecDepth 100000 in
theorem jb_X2_stickFor_64 (l : Launch) (G : jx_G) (t : jx_T) (hG : ll_ok G) (sz : Nat) (out : (Int32 × jx_M))  (σ : jx_M) (v3 : Int32) (h : b_X2_stickFor_64 t σ v3 = some out) : jJ_X2_stickFor l G t sz out 64 [(0, .ref (G.2 23)), (3, .int v3)] [] σ := by
  unfold b_X2_stickFor_64 at h
  refine jx_aload_n (pc := 64) (k0 := 0) rfl dX2_stickFor_64 ?_
  refine jx_iconst (pc := 65) (v := (-1 : Int32)) (by decide) dX2_stickFor_65 ?_
  obtain ⟨σ1, eσ1, h⟩ := jx_lt_o h
  refine ll_pnight_stick (pc := 66) hG fl_X2_26 eσ1 dX2_stickFor_66 ?_
  refine jx_iload_n (pc := 69) (k0 := 3) rfl dX2_stickFor_69 ?_
  cases h
  exact jx_iret (pc := 70) dX2_stickFor_70
def g_X2_stickFor_18 (t : jx_T) (k18 : jx_M → Int32 → Int32 → Int32 → Int32 → Option (Int32 × jx_M)) (σ : jx_M) (v1 : Int32) (v2 : Int32) (v3 : Int32) (v4 : Int32) : Option (Int32 × jx_M) :=
  if (σ 0 0) ≤ v4 then (b_X2_stickFor_64 t σ v3) else if v3 = (-5 : Int32) then jx_lt (jx_mu σ 0 20 v4) (fun σ3 => jx_bd (f_X2_lightAll t σ3) (fun q4 => jx_bd (f_X2_mayor t q4 v2) (fun q5 => if q5 = v1 then (b_X2_stickFor_58 t k18 q4 v1 v2 v4 v4) else (b_X2_stickFor_58 t k18 q4 v1 v2 v3 v4)))) else (b_X2_stickFor_64 t σ v3)
set_option maxHeartbeats 4000000 in
set_option maxRecDepth 100000 in
theorem jg_X2_stickFor_18 (l : Launch) (G : jx_G) (t : jx_T) (hG : ll_ok G) (sz : Nat) (out : (Int32 × jx_M)) (k18 : jx_M → Int32 → Int32 → Int32 → Int32 → Option (Int32 × jx_M)) (h18 : ∀ (σ : jx_M) (v1 : Int32) (v2 : Int32) (v3 : Int32) (v4 : Int32), k18 σ v1 v2 v3 v4 = some out → jJ_X2_stickFor l G t sz out 18 [(0, .ref (G.2 23)), (1, .int v1), (2, .int v2), (3, .int v3), (4, .int v4)] [] σ) (σ : jx_M) (v1 : Int32) (v2 : Int32) (v3 : Int32) (v4 : Int32) (h : g_X2_stickFor_18 t k18 σ v1 v2 v3 v4 = some out) : jJ_X2_stickFor l G t sz out 18 [(0, .ref (G.2 23)), (1, .int v1), (2, .int v2), (3, .int v3), (4, .int v4)] [] σ := by
  unfold g_X2_stickFor_18 at h
  refine jx_iload (pc := 18) (i := 4) rfl dX2_stickFor_18 ?_
  refine jx_aload_n (pc := 20) (k0 := 0) rfl dX2_stickFor_20 ?_
  refine ll_gnight_canal (pc := 21) fl_X2_36 dX2_stickFor_21 ?_
  refine ll_gnow_places (pc := 24) fl_X2_40 dX2_stickFor_24 ?_
  refine jx_icmp_ge (pc := 27) (tgt := 64) dX2_stickFor_27 (by decide) (fun c1 => ?_) (fun c1 => ?_)
  · have h := jx_t c1 h
    exact jx_sub [0, 3] rfl (jb_X2_stickFor_64 l G t hG sz out σ v3 h)
  · have h := jx_f c1 h
    refine jx_iload_n (pc := 30) (k0 := 3) rfl dX2_stickFor_30 ?_
    refine jx_bipush (pc := 31) (v := (-5 : Int32)) (by decide) dX2_stickFor_31 ?_
    refine jx_icmp_ne (pc := 33) (tgt := 64) dX2_stickFor_33 (by decide) (fun c2 => ?_) (fun c2 => ?_)
    · have h := jx_f c2 h
      exact jx_sub [0, 3] rfl (jb_X2_stickFor_64 l G t hG sz out σ v3 h)
    · have h := jx_t c2 h
      refine jx_aload_n (pc := 36) (k0 := 0) rfl dX2_stickFor_36 ?_
      refine jx_iload (pc := 37) (i := 4) rfl dX2_stickFor_37 ?_
      obtain ⟨σ3, eσ3, h⟩ := jx_lt_o h
      refine ll_pnight_stick (pc := 39) hG fl_X2_26 eσ3 dX2_stickFor_39 ?_
      refine jx_aload_n (pc := 42) (k0 := 0) rfl dX2_stickFor_42 ?_
      obtain ⟨q4, eq4, h⟩ := jx_bd_o h
      refine jx_callVv (pc := 43) [] (fun sz' => k_X2_lightAll l G t hG sz' σ3 q4 eq4) kv_X2_87 ll_jok ll_rcnight rfl rfl (Nat.le_of_ble_eq_true rfl) ⟨⟨rfl, rfl⟩, ⟨Nat.le_of_ble_eq_true rfl, Nat.le_of_ble_eq_true rfl⟩, Nat.zero_le _, Nat.zero_le _⟩ dX2_stickFor_43 ?_
      refine jx_aload_n (pc := 46) (k0 := 0) rfl dX2_stickFor_46 ?_
      refine jx_iload_n (pc := 47) (k0 := 2) rfl dX2_stickFor_47 ?_
      obtain ⟨q5, eq5, h⟩ := jx_bd_o h
      refine jx_callVi (pc := 48) [.int v2] (fun sz' => k_X2_mayor l G t hG sz' q4 v2 q5 eq5) kv_X2_106 ll_jok ll_rcnight rfl rfl (Nat.le_of_ble_eq_true rfl) ⟨⟨rfl, rfl⟩, ⟨Nat.le_of_ble_eq_true rfl, Nat.le_of_ble_eq_true rfl⟩, Nat.zero_le _, Nat.zero_le _⟩ dX2_stickFor_48 ?_
      refine jx_iload_n (pc := 51) (k0 := 1) rfl dX2_stickFor_51 ?_
      refine jx_icmp_ne (pc := 52) (tgt := 58) dX2_stickFor_52 (by decide) (fun c6 => ?_) (fun c6 => ?_)
      · have h := jx_f c6 h
        exact jx_sub [0, 1, 2, 3, 4] rfl (jb_X2_stickFor_58 l G t hG sz out k18 h18 q4 v1 v2 v3 v4 h)
      · have h := jx_t c6 h
        refine jx_iload (pc := 55) (i := 4) rfl dX2_stickFor_55 ?_
        refine jx_istore_n (pc := 57) (i := 3) rfl rfl (by decide) (lv' := [(3, .int v4), (0, .ref (G.2 23)), (1, .int v1), (2, .int v2), (4, .int v4)]) rfl dX2_stickFor_57 ?_
        exact jx_sub [1, 2, 3, 0, 4] rfl (jb_X2_stickFor_58 l G t hG sz out k18 h18 q4 v1 v2 v4 v4 h)
def b_X2_stickFor_18 (t : jx_T)  : Nat → jx_M → Int32 → Int32 → Int32 → Int32 → Option (Int32 × jx_M)
  | 0, _, _, _, _, _ => none
  | n + 1, σ, v1, v2, v3, v4 => g_X2_stickFor_18 t (b_X2_stickFor_18 t n) σ v1 v2 v3 v4
theorem jb_X2_stickFor_18 (l : Launch) (G : jx_G) (t : jx_T) (hG : ll_ok G) (sz : Nat) (out : (Int32 × jx_M))  : ∀ (n : Nat) (σ : jx_M) (v1 : Int32) (v2 : Int32) (v3 : Int32) (v4 : Int32), b_X2_stickFor_18 t n σ v1 v2 v3 v4 = some out → jJ_X2_stickFor l G t sz out 18 [(0, .ref (G.2 23)), (1, .int v1), (2, .int v2), (3, .int v3), (4, .int v4)] [] σ := by
  intro n
  induction n with
  | zero =>
    intro σ v1 v2 v3 v4 h
    cases h
  | succ n ih =>
    intro σ v1 v2 v3 v4 h
    exact jg_X2_stickFor_18 l G t hG sz out (b_X2_stickFor_18 t n) ih σ v1 v2 v3 v4 h
def f_X2_stickFor (t : jx_T) (σ : jx_M) (a1 : Int32) : Option (Int32 × jx_M) :=
  jx_bd (f_X2_chart t σ) (fun q1 => jx_bd (f_X1_wishes t q1) (fun q2 => (b_X2_stickFor_18 t jx_fuel q1 a1 q2 (-5 : Int32) (0 : Int32))))
set_option maxHeartbeats 4000000 in
set_option maxRecDepth 100000 in
theorem k_X2_stickFor (l : Launch) (G : jx_G) (t : jx_T) (hG : ll_ok G) (sz : Nat) (σ : jx_M) (a1 : Int32) (out : (Int32 × jx_M)) (h : f_X2_stickFor t σ a1 = some out) : Met l yX2_stickFor (Cond.code yX2_stickFor cX2_stickFor 5 (some .int) :: jx_ws) rm_X2_stickFor (jx_Pc (ll_env G t) (ll_dyn G t) (ll_rg G) sz σ [.ref (G.2 23), .int a1]) (jx_Qi (ll_dyn G t) out.2 out.1 (jx_A (ll_rg G) sz)) 0 0 (jx_A (ll_rg G) sz) := by
  unfold f_X2_stickFor at h
  refine jx_met (by decide) (Nat.le_of_ble_eq_true rfl) ?_
  refine jx_sub (lv' := [(0, .ref (G.2 23)), (1, .int a1)]) [0, 1] rfl ?_
  refine jx_aload_n (pc := 0) (k0 := 0) rfl dX2_stickFor_0 ?_
  obtain ⟨q1, eq1, h⟩ := jx_bd_o h
  refine jx_callVv (pc := 1) [] (fun sz' => k_X2_chart l G t hG sz' σ q1 eq1) kv_X2_84 ll_jok ll_rcnight rfl rfl (Nat.le_of_ble_eq_true rfl) ⟨⟨rfl, rfl⟩, ⟨Nat.le_of_ble_eq_true rfl, Nat.le_of_ble_eq_true rfl⟩, Nat.zero_le _, Nat.zero_le _⟩ dX2_stickFor_1 ?_
  refine jx_aload_n (pc := 4) (k0 := 0) rfl dX2_stickFor_4 ?_
  refine ll_gnight_canal (pc := 5) fl_X2_36 dX2_stickFor_5 ?_
  obtain ⟨q2, eq2, h⟩ := jx_bd_o h
  refine jx_callVi (pc := 8) [] (fun sz' => k_X1_wishes l G t hG sz' q1 q2 eq2) kv_X2_96 ll_jok ll_rcnow rfl rfl (Nat.le_of_ble_eq_true rfl) ⟨⟨rfl, rfl⟩, ⟨Nat.le_of_ble_eq_true rfl, Nat.le_of_ble_eq_true rfl⟩, Nat.zero_le _, Nat.zero_le _⟩ dX2_stickFor_8 ?_
  refine jx_istore_n (pc := 11) (i := 2) rfl rfl (by decide) (lv' := [(2, .int q2), (0, .ref (G.2 23)), (1, .int a1)]) rfl dX2_stickFor_11 ?_
  refine jx_bipush (pc := 12) (v := (-5 : Int32)) (by decide) dX2_stickFor_12 ?_
  refine jx_istore_n (pc := 14) (i := 3) rfl rfl (by decide) (lv' := [(3, .int (-5 : Int32)), (2, .int q2), (0, .ref (G.2 23)), (1, .int a1)]) rfl dX2_stickFor_14 ?_
  refine jx_iconst (pc := 15) (v := (0 : Int32)) (by decide) dX2_stickFor_15 ?_
  refine jx_istore (pc := 16) (i := 4) rfl (by decide) (lv' := [(4, .int (0 : Int32)), (3, .int (-5 : Int32)), (2, .int q2), (0, .ref (G.2 23)), (1, .int a1)]) rfl dX2_stickFor_16 ?_
  exact jx_sub [3, 4, 2, 1, 0] rfl (jb_X2_stickFor_18 l G t hG sz out jx_fuel q1 a1 q2 (-5 : Int32) (0 : Int32) h)
theorem dX2_leadBehind_0 : decode cX2_leadBehind 0 = .ok (.aload_n 0, 1) := by decide +kernel
theorem dX2_leadBehind_1 : decode cX2_leadBehind 1 = .ok (.iload_n 1, 1) := by decide +kernel
theorem dX2_leadBehind_2 : decode cX2_leadBehind 2 = .ok (.iload_n 2, 1) := by decide +kernel
theorem dX2_leadBehind_3 : decode cX2_leadBehind 3 = .ok (.invokevirtual 80, 3) := by decide +kernel
theorem dX2_leadBehind_6 : decode cX2_leadBehind 6 = .ok (.aload_n 0, 1) := by decide +kernel
theorem dX2_leadBehind_7 : decode cX2_leadBehind 7 = .ok (.iload_n 3, 1) := by decide +kernel
theorem dX2_leadBehind_8 : decode cX2_leadBehind 8 = .ok (.aload_n 0, 1) := by decide +kernel
theorem dX2_leadBehind_9 : decode cX2_leadBehind 9 = .ok (.iload_n 3, 1) := by decide +kernel
theorem dX2_leadBehind_10 : decode cX2_leadBehind 10 = .ok (.invokevirtual 118, 3) := by decide +kernel
theorem dX2_leadBehind_13 : decode cX2_leadBehind 13 = .ok (.invokevirtual 80, 3) := by decide +kernel
theorem dX2_leadBehind_16 : decode cX2_leadBehind 16 = .ok (.aload_n 0, 1) := by decide +kernel
theorem dX2_leadBehind_17 : decode cX2_leadBehind 17 = .ok (.iload_n 1, 1) := by decide +kernel
theorem dX2_leadBehind_18 : decode cX2_leadBehind 18 = .ok (.invokevirtual 115, 3) := by decide +kernel
theorem dX2_leadBehind_21 : decode cX2_leadBehind 21 = .ok (.ireturn, 1) := by decide +kernel
abbrev rm_X2_leadBehind : Room := { frames := 4, cells := 0, slots := 0, locals := 94 }
abbrev jJ_X2_leadBehind (l : Launch) (G : jx_G) (t : jx_T) (sz : Nat) (out : (Int32 × jx_M)) (pc : Nat) (lv : List (Nat × Value)) (st : List Value) (σ : jx_M) : Prop := jx_J l (ll_env G t) (ll_dyn G t) (ll_rg G) sz RX2 "leadBehind" cX2_leadBehind 4 (some .int) rm_X2_leadBehind (fun below args s => MQ below (jx_Qi (ll_dyn G t) out.2 out.1 (jx_A (ll_rg G) sz)) args s 0 0 (jx_A (ll_rg G) sz)) 0 0 pc lv st σ
def f_X2_leadBehind (t : jx_T) (σ : jx_M) (a1 : Int32) (a2 : Int32) (a3 : Int32) : Option (Int32 × jx_M) :=
  jx_bd (f_X2_light t σ a1 a2) (fun q1 => jx_bd (f_X2_bestFor t q1 a3) (fun q2 => jx_bd (f_X2_light t q2.2 a3 q2.1) (fun q3 => jx_bd (f_X2_leadOf t q3 a1) (fun q4 => some (q4, q3)))))
set_option maxHeartbeats 4000000 in
set_option maxRecDepth 100000 in
theorem k_X2_leadBehind (l : Launch) (G : jx_G) (t : jx_T) (hG : ll_ok G) (sz : Nat) (σ : jx_M) (a1 : Int32) (a2 : Int32) (a3 : Int32) (out : (Int32 × jx_M)) (h : f_X2_leadBehind t σ a1 a2 a3 = some out) : Met l yX2_leadBehind (Cond.code yX2_leadBehind cX2_leadBehind 4 (some .int) :: jx_ws) rm_X2_leadBehind (jx_Pc (ll_env G t) (ll_dyn G t) (ll_rg G) sz σ [.ref (G.2 23), .int a1, .int a2, .int a3]) (jx_Qi (ll_dyn G t) out.2 out.1 (jx_A (ll_rg G) sz)) 0 0 (jx_A (ll_rg G) sz) := by
  unfold f_X2_leadBehind at h
  refine jx_met (by decide) (Nat.le_of_ble_eq_true rfl) ?_
  refine jx_sub (lv' := [(0, .ref (G.2 23)), (1, .int a1), (2, .int a2), (3, .int a3)]) [0, 1, 2, 3] rfl ?_
  refine jx_aload_n (pc := 0) (k0 := 0) rfl dX2_leadBehind_0 ?_
  refine jx_iload_n (pc := 1) (k0 := 1) rfl dX2_leadBehind_1 ?_
  refine jx_iload_n (pc := 2) (k0 := 2) rfl dX2_leadBehind_2 ?_
  obtain ⟨q1, eq1, h⟩ := jx_bd_o h
  refine jx_callVv (pc := 3) [.int a1, .int a2] (fun sz' => k_X2_light l G t hG sz' σ a1 a2 q1 eq1) kv_X2_80 ll_jok ll_rcnight rfl rfl (Nat.le_of_ble_eq_true rfl) ⟨⟨rfl, rfl⟩, ⟨Nat.le_of_ble_eq_true rfl, Nat.le_of_ble_eq_true rfl⟩, Nat.zero_le _, Nat.zero_le _⟩ dX2_leadBehind_3 ?_
  refine jx_aload_n (pc := 6) (k0 := 0) rfl dX2_leadBehind_6 ?_
  refine jx_iload_n (pc := 7) (k0 := 3) rfl dX2_leadBehind_7 ?_
  refine jx_aload_n (pc := 8) (k0 := 0) rfl dX2_leadBehind_8 ?_
  refine jx_iload_n (pc := 9) (k0 := 3) rfl dX2_leadBehind_9 ?_
  obtain ⟨q2, eq2, h⟩ := jx_bd_o h
  refine jx_callVi (pc := 10) [.int a3] (fun sz' => k_X2_bestFor l G t hG sz' q1 a3 q2 eq2) kv_X2_118 ll_jok ll_rcnight rfl rfl (Nat.le_of_ble_eq_true rfl) ⟨⟨rfl, rfl⟩, ⟨Nat.le_of_ble_eq_true rfl, Nat.le_of_ble_eq_true rfl⟩, Nat.zero_le _, Nat.zero_le _⟩ dX2_leadBehind_10 ?_
  obtain ⟨q3, eq3, h⟩ := jx_bd_o h
  refine jx_callVv (pc := 13) [.int a3, .int q2.1] (fun sz' => k_X2_light l G t hG sz' q2.2 a3 q2.1 q3 eq3) kv_X2_80 ll_jok ll_rcnight rfl rfl (Nat.le_of_ble_eq_true rfl) ⟨⟨rfl, rfl⟩, ⟨Nat.le_of_ble_eq_true rfl, Nat.le_of_ble_eq_true rfl⟩, Nat.zero_le _, Nat.zero_le _⟩ dX2_leadBehind_13 ?_
  refine jx_aload_n (pc := 16) (k0 := 0) rfl dX2_leadBehind_16 ?_
  refine jx_iload_n (pc := 17) (k0 := 1) rfl dX2_leadBehind_17 ?_
  obtain ⟨q4, eq4, h⟩ := jx_bd_o h
  refine jx_callVi (pc := 18) [.int a1] (fun sz' => k_X2_leadOf l G t hG sz' q3 a1 q4 eq4) kv_X2_115 ll_jok ll_rcnight rfl rfl (Nat.le_of_ble_eq_true rfl) ⟨⟨rfl, rfl⟩, ⟨Nat.le_of_ble_eq_true rfl, Nat.le_of_ble_eq_true rfl⟩, Nat.zero_le _, Nat.zero_le _⟩ dX2_leadBehind_18 ?_
  cases h
  exact jx_iret (pc := 21) dX2_leadBehind_21
theorem dX2_firstUntrue_0 : decode cX2_firstUntrue 0 = .ok (.aload_n 0, 1) := by decide +kernel
theorem dX2_firstUntrue_1 : decode cX2_firstUntrue 1 = .ok (.invokevirtual 84, 3) := by decide +kernel
theorem dX2_firstUntrue_4 : decode cX2_firstUntrue 4 = .ok (.iconst 0, 1) := by decide +kernel
theorem dX2_firstUntrue_5 : decode cX2_firstUntrue 5 = .ok (.istore_n 1, 1) := by decide +kernel
theorem dX2_firstUntrue_6 : decode cX2_firstUntrue 6 = .ok (.iload_n 1, 1) := by decide +kernel
theorem dX2_firstUntrue_7 : decode cX2_firstUntrue 7 = .ok (.aload_n 0, 1) := by decide +kernel
theorem dX2_firstUntrue_8 : decode cX2_firstUntrue 8 = .ok (.getfield 36, 3) := by decide +kernel
theorem dX2_firstUntrue_11 : decode cX2_firstUntrue 11 = .ok (.getfield 152, 3) := by decide +kernel
theorem dX2_firstUntrue_14 : decode cX2_firstUntrue 14 = .ok (.if_icmp .ge 45, 3) := by decide +kernel
theorem dX2_firstUntrue_17 : decode cX2_firstUntrue 17 = .ok (.aload_n 0, 1) := by decide +kernel
theorem dX2_firstUntrue_18 : decode cX2_firstUntrue 18 = .ok (.aload_n 0, 1) := by decide +kernel
theorem dX2_firstUntrue_19 : decode cX2_firstUntrue 19 = .ok (.getfield 36, 3) := by decide +kernel
theorem dX2_firstUntrue_22 : decode cX2_firstUntrue 22 = .ok (.getfield 155, 3) := by decide +kernel
theorem dX2_firstUntrue_25 : decode cX2_firstUntrue 25 = .ok (.iload_n 1, 1) := by decide +kernel
theorem dX2_firstUntrue_26 : decode cX2_firstUntrue 26 = .ok (.iaload, 1) := by decide +kernel
theorem dX2_firstUntrue_27 : decode cX2_firstUntrue 27 = .ok (.aload_n 0, 1) := by decide +kernel
theorem dX2_firstUntrue_28 : decode cX2_firstUntrue 28 = .ok (.getfield 36, 3) := by decide +kernel
theorem dX2_firstUntrue_31 : decode cX2_firstUntrue 31 = .ok (.getfield 158, 3) := by decide +kernel
theorem dX2_firstUntrue_34 : decode cX2_firstUntrue 34 = .ok (.iload_n 1, 1) := by decide +kernel
theorem dX2_firstUntrue_35 : decode cX2_firstUntrue 35 = .ok (.iaload, 1) := by decide +kernel
theorem dX2_firstUntrue_36 : decode cX2_firstUntrue 36 = .ok (.invokevirtual 161, 3) := by decide +kernel
theorem dX2_firstUntrue_39 : decode cX2_firstUntrue 39 = .ok (.aload_n 0, 1) := by decide +kernel
theorem dX2_firstUntrue_40 : decode cX2_firstUntrue 40 = .ok (.getfield 36, 3) := by decide +kernel
theorem dX2_firstUntrue_43 : decode cX2_firstUntrue 43 = .ok (.getfield 164, 3) := by decide +kernel
theorem dX2_firstUntrue_46 : decode cX2_firstUntrue 46 = .ok (.iload_n 1, 1) := by decide +kernel
theorem dX2_firstUntrue_47 : decode cX2_firstUntrue 47 = .ok (.iaload, 1) := by decide +kernel
theorem dX2_firstUntrue_48 : decode cX2_firstUntrue 48 = .ok (.if_icmp .eq 5, 3) := by decide +kernel
theorem dX2_firstUntrue_51 : decode cX2_firstUntrue 51 = .ok (.iload_n 1, 1) := by decide +kernel
theorem dX2_firstUntrue_52 : decode cX2_firstUntrue 52 = .ok (.ireturn, 1) := by decide +kernel
theorem dX2_firstUntrue_53 : decode cX2_firstUntrue 53 = .ok (.iinc 1 1, 3) := by decide +kernel
theorem dX2_firstUntrue_56 : decode cX2_firstUntrue 56 = .ok (.goto (-50), 3) := by decide +kernel
theorem dX2_firstUntrue_59 : decode cX2_firstUntrue 59 = .ok (.bipush (-5), 2) := by decide +kernel
theorem dX2_firstUntrue_61 : decode cX2_firstUntrue 61 = .ok (.ireturn, 1) := by decide +kernel
abbrev rm_X2_firstUntrue : Room := { frames := 4, cells := 0, slots := 0, locals := 96 }
abbrev jJ_X2_firstUntrue (l : Launch) (G : jx_G) (t : jx_T) (sz : Nat) (out : (Int32 × jx_M)) (pc : Nat) (lv : List (Nat × Value)) (st : List Value) (σ : jx_M) : Prop := jx_J l (ll_env G t) (ll_dyn G t) (ll_rg G) sz RX2 "firstUntrue" cX2_firstUntrue 2 (some .int) rm_X2_firstUntrue (fun below args s => MQ below (jx_Qi (ll_dyn G t) out.2 out.1 (jx_A (ll_rg G) sz)) args s 0 0 (jx_A (ll_rg G) sz)) 0 0 pc lv st σ
def g_X2_firstUntrue_6 (t : jx_T) (k6 : jx_M → Int32 → Option (Int32 × jx_M)) (σ : jx_M) (v1 : Int32) : Option (Int32 × jx_M) :=
  if (σ 0 6) ≤ v1 then some ((-5 : Int32), σ) else jx_gd (jx_in v1 8) (jx_gd (jx_in v1 8) (jx_bd (f_X2_placeAfter t σ (σ 17 v1.toNatClampNeg) (σ 18 v1.toNatClampNeg)) (fun q4 => jx_gd (jx_in v1 8) (if q4 = (σ 19 v1.toNatClampNeg) then jx_lt (v1 + (1 : Int32)) (fun x7 => (k6 σ x7)) else some (v1, σ)))))
set_option maxHeartbeats 4000000 in
set_option maxRecDepth 100000 in
theorem jg_X2_firstUntrue_6 (l : Launch) (G : jx_G) (t : jx_T) (hG : ll_ok G) (sz : Nat) (out : (Int32 × jx_M)) (k6 : jx_M → Int32 → Option (Int32 × jx_M)) (h6 : ∀ (σ : jx_M) (v1 : Int32), k6 σ v1 = some out → jJ_X2_firstUntrue l G t sz out 6 [(0, .ref (G.2 23)), (1, .int v1)] [] σ) (σ : jx_M) (v1 : Int32) (h : g_X2_firstUntrue_6 t k6 σ v1 = some out) : jJ_X2_firstUntrue l G t sz out 6 [(0, .ref (G.2 23)), (1, .int v1)] [] σ := by
  unfold g_X2_firstUntrue_6 at h
  refine jx_iload_n (pc := 6) (k0 := 1) rfl dX2_firstUntrue_6 ?_
  refine jx_aload_n (pc := 7) (k0 := 0) rfl dX2_firstUntrue_7 ?_
  refine ll_gnight_canal (pc := 8) fl_X2_36 dX2_firstUntrue_8 ?_
  refine ll_gnow_tales (pc := 11) fl_X2_152 dX2_firstUntrue_11 ?_
  refine jx_icmp_ge (pc := 14) (tgt := 59) dX2_firstUntrue_14 (by decide) (fun c1 => ?_) (fun c1 => ?_)
  · have h := jx_t c1 h
    refine jx_bipush (pc := 59) (v := (-5 : Int32)) (by decide) dX2_firstUntrue_59 ?_
    cases h
    exact jx_iret (pc := 61) dX2_firstUntrue_61
  · have h := jx_f c1 h
    refine jx_aload_n (pc := 17) (k0 := 0) rfl dX2_firstUntrue_17 ?_
    refine jx_aload_n (pc := 18) (k0 := 0) rfl dX2_firstUntrue_18 ?_
    refine ll_gnight_canal (pc := 19) fl_X2_36 dX2_firstUntrue_19 ?_
    refine ll_gnow_taleVoter (pc := 22) fl_X2_155 dX2_firstUntrue_22 ?_
    refine jx_iload_n (pc := 25) (k0 := 1) rfl dX2_firstUntrue_25 ?_
    obtain ⟨g2, h⟩ := jx_gd_o h
    refine ll_l (pc := 26) (k := 17) (jx_in_o g2) rfl dX2_firstUntrue_26 ?_
    refine jx_aload_n (pc := 27) (k0 := 0) rfl dX2_firstUntrue_27 ?_
    refine ll_gnight_canal (pc := 28) fl_X2_36 dX2_firstUntrue_28 ?_
    refine ll_gnow_taleMinute (pc := 31) fl_X2_158 dX2_firstUntrue_31 ?_
    refine jx_iload_n (pc := 34) (k0 := 1) rfl dX2_firstUntrue_34 ?_
    obtain ⟨g3, h⟩ := jx_gd_o h
    refine ll_l (pc := 35) (k := 18) (jx_in_o g3) rfl dX2_firstUntrue_35 ?_
    obtain ⟨q4, eq4, h⟩ := jx_bd_o h
    refine jx_callVi (pc := 36) [.int (σ 17 v1.toNatClampNeg), .int (σ 18 v1.toNatClampNeg)] (fun sz' => k_X2_placeAfter l G t hG sz' σ (σ 17 v1.toNatClampNeg) (σ 18 v1.toNatClampNeg) q4 eq4) kv_X2_161 ll_jok ll_rcnight rfl rfl (Nat.le_of_ble_eq_true rfl) ⟨⟨rfl, rfl⟩, ⟨Nat.le_of_ble_eq_true rfl, Nat.le_of_ble_eq_true rfl⟩, Nat.zero_le _, Nat.zero_le _⟩ dX2_firstUntrue_36 ?_
    refine jx_aload_n (pc := 39) (k0 := 0) rfl dX2_firstUntrue_39 ?_
    refine ll_gnight_canal (pc := 40) fl_X2_36 dX2_firstUntrue_40 ?_
    refine ll_gnow_talePlace (pc := 43) fl_X2_164 dX2_firstUntrue_43 ?_
    refine jx_iload_n (pc := 46) (k0 := 1) rfl dX2_firstUntrue_46 ?_
    obtain ⟨g5, h⟩ := jx_gd_o h
    refine ll_l (pc := 47) (k := 19) (jx_in_o g5) rfl dX2_firstUntrue_47 ?_
    refine jx_icmp_eq (pc := 48) (tgt := 53) dX2_firstUntrue_48 (by decide) (fun c6 => ?_) (fun c6 => ?_)
    · have h := jx_t c6 h
      obtain ⟨x7, ex7, h⟩ := jx_lt_o h
      refine jx_iinc (pc := 53) (i := 1) (v := v1) rfl ex7 (n := 1) (by decide) (by decide) (lv' := [(1, .int x7), (0, .ref (G.2 23))]) rfl dX2_firstUntrue_53 ?_
      refine jx_goto (pc := 56) (tgt := 6) dX2_firstUntrue_56 (by decide) ?_
      exact jx_sub [1, 0] rfl (h6 σ x7 h)
    · have h := jx_f c6 h
      refine jx_iload_n (pc := 51) (k0 := 1) rfl dX2_firstUntrue_51 ?_
      cases h
      exact jx_iret (pc := 52) dX2_firstUntrue_52
def b_X2_firstUntrue_6 (t : jx_T)  : Nat → jx_M → Int32 → Option (Int32 × jx_M)
  | 0, _, _ => none
  | n + 1, σ, v1 => g_X2_firstUntrue_6 t (b_X2_firstUntrue_6 t n) σ v1
theorem jb_X2_firstUntrue_6 (l : Launch) (G : jx_G) (t : jx_T) (hG : ll_ok G) (sz : Nat) (out : (Int32 × jx_M))  : ∀ (n : Nat) (σ : jx_M) (v1 : Int32), b_X2_firstUntrue_6 t n σ v1 = some out → jJ_X2_firstUntrue l G t sz out 6 [(0, .ref (G.2 23)), (1, .int v1)] [] σ := by
  intro n
  induction n with
  | zero =>
    intro σ v1 h
    cases h
  | succ n ih =>
    intro σ v1 h
    exact jg_X2_firstUntrue_6 l G t hG sz out (b_X2_firstUntrue_6 t n) ih σ v1 h
def f_X2_firstUntrue (t : jx_T) (σ : jx_M)  : Option (Int32 × jx_M) :=
  jx_bd (f_X2_chart t σ) (fun q1 => (b_X2_firstUntrue_6 t jx_fuel q1 (0 : Int32)))
set_option maxHeartbeats 4000000 in
set_option maxRecDepth 100000 in
theorem k_X2_firstUntrue (l : Launch) (G : jx_G) (t : jx_T) (hG : ll_ok G) (sz : Nat) (σ : jx_M)  (out : (Int32 × jx_M)) (h : f_X2_firstUntrue t σ = some out) : Met l yX2_firstUntrue (Cond.code yX2_firstUntrue cX2_firstUntrue 2 (some .int) :: jx_ws) rm_X2_firstUntrue (jx_Pc (ll_env G t) (ll_dyn G t) (ll_rg G) sz σ [.ref (G.2 23)]) (jx_Qi (ll_dyn G t) out.2 out.1 (jx_A (ll_rg G) sz)) 0 0 (jx_A (ll_rg G) sz) := by
  unfold f_X2_firstUntrue at h
  refine jx_met (by decide) (Nat.le_of_ble_eq_true rfl) ?_
  refine jx_sub (lv' := [(0, .ref (G.2 23))]) [0] rfl ?_
  refine jx_aload_n (pc := 0) (k0 := 0) rfl dX2_firstUntrue_0 ?_
  obtain ⟨q1, eq1, h⟩ := jx_bd_o h
  refine jx_callVv (pc := 1) [] (fun sz' => k_X2_chart l G t hG sz' σ q1 eq1) kv_X2_84 ll_jok ll_rcnight rfl rfl (Nat.le_of_ble_eq_true rfl) ⟨⟨rfl, rfl⟩, ⟨Nat.le_of_ble_eq_true rfl, Nat.le_of_ble_eq_true rfl⟩, Nat.zero_le _, Nat.zero_le _⟩ dX2_firstUntrue_1 ?_
  refine jx_iconst (pc := 4) (v := (0 : Int32)) (by decide) dX2_firstUntrue_4 ?_
  refine jx_istore_n (pc := 5) (i := 1) rfl rfl (by decide) (lv' := [(1, .int (0 : Int32)), (0, .ref (G.2 23))]) rfl dX2_firstUntrue_5 ?_
  exact jx_sub [1, 0] rfl (jb_X2_firstUntrue_6 l G t hG sz out jx_fuel q1 (0 : Int32) h)
theorem dX5_of_0 : decode cX5_of 0 = .ok (.aload_n 0, 1) := by decide +kernel
theorem dX5_of_1 : decode cX5_of 1 = .ok (.getfield 12, 3) := by decide +kernel
theorem dX5_of_4 : decode cX5_of 4 = .ok (.iload_n 1, 1) := by decide +kernel
theorem dX5_of_5 : decode cX5_of 5 = .ok (.invokevirtual 119, 3) := by decide +kernel
theorem dX5_of_8 : decode cX5_of 8 = .ok (.ifCond .ne 5, 3) := by decide +kernel
theorem dX5_of_11 : decode cX5_of 11 = .ok (.iconst (-1), 1) := by decide +kernel
theorem dX5_of_12 : decode cX5_of 12 = .ok (.ireturn, 1) := by decide +kernel
theorem dX5_of_13 : decode cX5_of 13 = .ok (.iload_n 2, 1) := by decide +kernel
theorem dX5_of_14 : decode cX5_of 14 = .ok (.tableswitch 100 0 7 #[46, 46, 46, 46, 46, 58, 67, 76], 46) := by decide +kernel
theorem dX5_of_60 : decode cX5_of 60 = .ok (.aload_n 0, 1) := by decide +kernel
theorem dX5_of_61 : decode cX5_of 61 = .ok (.getfield 12, 3) := by decide +kernel
theorem dX5_of_64 : decode cX5_of 64 = .ok (.getfield 110, 3) := by decide +kernel
theorem dX5_of_67 : decode cX5_of 67 = .ok (.iload_n 1, 1) := by decide +kernel
theorem dX5_of_68 : decode cX5_of 68 = .ok (.aaload, 1) := by decide +kernel
theorem dX5_of_69 : decode cX5_of 69 = .ok (.iload_n 2, 1) := by decide +kernel
theorem dX5_of_70 : decode cX5_of 70 = .ok (.iaload, 1) := by decide +kernel
theorem dX5_of_71 : decode cX5_of 71 = .ok (.ireturn, 1) := by decide +kernel
theorem dX5_of_72 : decode cX5_of 72 = .ok (.aload_n 0, 1) := by decide +kernel
theorem dX5_of_73 : decode cX5_of 73 = .ok (.getfield 12, 3) := by decide +kernel
theorem dX5_of_76 : decode cX5_of 76 = .ok (.iload_n 1, 1) := by decide +kernel
theorem dX5_of_77 : decode cX5_of 77 = .ok (.invokevirtual 122, 3) := by decide +kernel
theorem dX5_of_80 : decode cX5_of 80 = .ok (.ireturn, 1) := by decide +kernel
theorem dX5_of_81 : decode cX5_of 81 = .ok (.aload_n 0, 1) := by decide +kernel
theorem dX5_of_82 : decode cX5_of 82 = .ok (.getfield 12, 3) := by decide +kernel
theorem dX5_of_85 : decode cX5_of 85 = .ok (.iload_n 1, 1) := by decide +kernel
theorem dX5_of_86 : decode cX5_of 86 = .ok (.invokevirtual 126, 3) := by decide +kernel
theorem dX5_of_89 : decode cX5_of 89 = .ok (.ireturn, 1) := by decide +kernel
theorem dX5_of_90 : decode cX5_of 90 = .ok (.aload_n 0, 1) := by decide +kernel
theorem dX5_of_91 : decode cX5_of 91 = .ok (.getfield 26, 3) := by decide +kernel
theorem dX5_of_94 : decode cX5_of 94 = .ok (.invokevirtual 129, 3) := by decide +kernel
theorem dX5_of_97 : decode cX5_of 97 = .ok (.aload_n 0, 1) := by decide +kernel
theorem dX5_of_98 : decode cX5_of 98 = .ok (.getfield 26, 3) := by decide +kernel
theorem dX5_of_101 : decode cX5_of 101 = .ok (.iload_n 1, 1) := by decide +kernel
theorem dX5_of_102 : decode cX5_of 102 = .ok (.aload_n 0, 1) := by decide +kernel
theorem dX5_of_103 : decode cX5_of 103 = .ok (.getfield 12, 3) := by decide +kernel
theorem dX5_of_106 : decode cX5_of 106 = .ok (.iload_n 1, 1) := by decide +kernel
theorem dX5_of_107 : decode cX5_of 107 = .ok (.invokevirtual 122, 3) := by decide +kernel
theorem dX5_of_110 : decode cX5_of 110 = .ok (.invokevirtual 132, 3) := by decide +kernel
theorem dX5_of_113 : decode cX5_of 113 = .ok (.ireturn, 1) := by decide +kernel
theorem dX5_of_114 : decode cX5_of 114 = .ok (.iconst (-1), 1) := by decide +kernel
theorem dX5_of_115 : decode cX5_of 115 = .ok (.ireturn, 1) := by decide +kernel
abbrev rm_X5_of : Room := { frames := 4, cells := 0, slots := 0, locals := 96 }
abbrev jJ_X5_of (l : Launch) (G : jx_G) (t : jx_T) (sz : Nat) (out : (Int32 × jx_M)) (pc : Nat) (lv : List (Nat × Value)) (st : List Value) (σ : jx_M) : Prop := jx_J l (ll_env G t) (ll_dyn G t) (ll_rg G) sz RX5 "of" cX5_of 3 (some .int) rm_X5_of (fun below args s => MQ below (jx_Qi (ll_dyn G t) out.2 out.1 (jx_A (ll_rg G) sz)) args s 0 0 (jx_A (ll_rg G) sz)) 0 0 pc lv st σ
def b_X5_of_60 (t : jx_T)  (σ : jx_M) (v1 : Int32) (v2 : Int32) : Option (Int32 × jx_M) :=
  jx_gd (jx_in v1 6) (jx_gd (jx_in v2 (ll_len (8 + v1.toNatClampNeg))) (some ((σ (8 + v1.toNatClampNeg) v2.toNatClampNeg), σ)))
set_option maxHeartbeats 4000000 in
set_option maxRecDepth 100000 in
theorem jb_X5_of_60 (l : Launch) (G : jx_G) (t : jx_T) (hG : ll_ok G) (sz : Nat) (out : (Int32 × jx_M))  (σ : jx_M) (v1 : Int32) (v2 : Int32) (h : b_X5_of_60 t σ v1 v2 = some out) : jJ_X5_of l G t sz out 60 [(0, .ref (G.2 20)), (1, .int v1), (2, .int v2)] [] σ := by
  unfold b_X5_of_60 at h
  refine jx_aload_n (pc := 60) (k0 := 0) rfl dX5_of_60 ?_
  refine ll_glamp_now (pc := 61) fl_X5_12 dX5_of_61 ?_
  refine ll_gnow_voter (pc := 64) fl_X5_110 dX5_of_64 ?_
  refine jx_iload_n (pc := 67) (k0 := 1) rfl dX5_of_67 ?_
  obtain ⟨g1, h⟩ := jx_gd_o h
  refine ll_a_now_voter (pc := 68) (jx_in_o g1) dX5_of_68 ?_
  refine jx_iload_n (pc := 69) (k0 := 2) rfl dX5_of_69 ?_
  obtain ⟨g2, h⟩ := jx_gd_o h
  refine ll_l (pc := 70) (k := (8 + v1.toNatClampNeg)) (jx_in_o g2) rfl dX5_of_70 ?_
  cases h
  exact jx_iret (pc := 71) dX5_of_71
def f_X5_of (t : jx_T) (σ : jx_M) (a1 : Int32) (a2 : Int32) : Option (Int32 × jx_M) :=
  jx_bd (f_X1_hasVoter t σ a1) (fun q1 => if q1 = 0 then some ((-1 : Int32), σ) else if a2 = (0 : Int32) then (b_X5_of_60 t σ a1 a2) else if a2 = (1 : Int32) then (b_X5_of_60 t σ a1 a2) else if a2 = (2 : Int32) then (b_X5_of_60 t σ a1 a2) else if a2 = (3 : Int32) then (b_X5_of_60 t σ a1 a2) else if a2 = (4 : Int32) then (b_X5_of_60 t σ a1 a2) else if a2 = (5 : Int32) then jx_bd (f_X1_setsAt t σ a1) (fun q8 => some (q8, σ)) else if a2 = (6 : Int32) then jx_bd (f_X1_delay t σ a1) (fun q10 => some (q10, σ)) else if a2 = (7 : Int32) then jx_bd (f_X2_chart t σ) (fun q12 => jx_bd (f_X1_setsAt t q12 a1) (fun q13 => jx_bd (f_X2_burns t q12 a1 q13) (fun q14 => some (q14, q12)))) else some ((-1 : Int32), σ))
set_option maxHeartbeats 4000000 in
set_option maxRecDepth 100000 in
theorem k_X5_of (l : Launch) (G : jx_G) (t : jx_T) (hG : ll_ok G) (sz : Nat) (σ : jx_M) (a1 : Int32) (a2 : Int32) (out : (Int32 × jx_M)) (h : f_X5_of t σ a1 a2 = some out) : Met l yX5_of (Cond.code yX5_of cX5_of 3 (some .int) :: jx_ws) rm_X5_of (jx_Pc (ll_env G t) (ll_dyn G t) (ll_rg G) sz σ [.ref (G.2 20), .int a1, .int a2]) (jx_Qi (ll_dyn G t) out.2 out.1 (jx_A (ll_rg G) sz)) 0 0 (jx_A (ll_rg G) sz) := by
  unfold f_X5_of at h
  refine jx_met (by decide) (Nat.le_of_ble_eq_true rfl) ?_
  refine jx_sub (lv' := [(0, .ref (G.2 20)), (1, .int a1), (2, .int a2)]) [0, 1, 2] rfl ?_
  refine jx_aload_n (pc := 0) (k0 := 0) rfl dX5_of_0 ?_
  refine ll_glamp_now (pc := 1) fl_X5_12 dX5_of_1 ?_
  refine jx_iload_n (pc := 4) (k0 := 1) rfl dX5_of_4 ?_
  obtain ⟨q1, eq1, h⟩ := jx_bd_o h
  refine jx_callVi (pc := 5) [.int a1] (fun sz' => k_X1_hasVoter l G t hG sz' σ a1 q1 eq1) kv_X5_119 ll_jok ll_rcnow rfl rfl (Nat.le_of_ble_eq_true rfl) ⟨⟨rfl, rfl⟩, ⟨Nat.le_of_ble_eq_true rfl, Nat.le_of_ble_eq_true rfl⟩, Nat.zero_le _, Nat.zero_le _⟩ dX5_of_5 ?_
  refine jx_if_ne (pc := 8) (tgt := 13) dX5_of_8 (by decide) (fun c2 => ?_) (fun c2 => ?_)
  · have h := jx_f c2 h
    refine jx_iload_n (pc := 13) (k0 := 2) rfl dX5_of_13 ?_
    by_cases c3 : a2 = (0 : Int32)
    · have h := jx_t c3 h
      refine jx_tabIn (pc := 14) (tgt := 60) dX5_of_14 0 (by rw [c3]; rfl) (by decide) (by decide) rfl (by decide) ?_
      exact jx_sub [0, 1, 2] rfl (jb_X5_of_60 l G t hG sz out σ a1 a2 h)
    have h := jx_f c3 h
    by_cases c4 : a2 = (1 : Int32)
    · have h := jx_t c4 h
      refine jx_tabIn (pc := 14) (tgt := 60) dX5_of_14 1 (by rw [c4]; rfl) (by decide) (by decide) rfl (by decide) ?_
      exact jx_sub [0, 1, 2] rfl (jb_X5_of_60 l G t hG sz out σ a1 a2 h)
    have h := jx_f c4 h
    by_cases c5 : a2 = (2 : Int32)
    · have h := jx_t c5 h
      refine jx_tabIn (pc := 14) (tgt := 60) dX5_of_14 2 (by rw [c5]; rfl) (by decide) (by decide) rfl (by decide) ?_
      exact jx_sub [0, 1, 2] rfl (jb_X5_of_60 l G t hG sz out σ a1 a2 h)
    have h := jx_f c5 h
    by_cases c6 : a2 = (3 : Int32)
    · have h := jx_t c6 h
      refine jx_tabIn (pc := 14) (tgt := 60) dX5_of_14 3 (by rw [c6]; rfl) (by decide) (by decide) rfl (by decide) ?_
      exact jx_sub [0, 1, 2] rfl (jb_X5_of_60 l G t hG sz out σ a1 a2 h)
    have h := jx_f c6 h
    by_cases c7 : a2 = (4 : Int32)
    · have h := jx_t c7 h
      refine jx_tabIn (pc := 14) (tgt := 60) dX5_of_14 4 (by rw [c7]; rfl) (by decide) (by decide) rfl (by decide) ?_
      exact jx_sub [0, 1, 2] rfl (jb_X5_of_60 l G t hG sz out σ a1 a2 h)
    have h := jx_f c7 h
    by_cases c9 : a2 = (5 : Int32)
    · have h := jx_t c9 h
      refine jx_tabIn (pc := 14) (tgt := 72) dX5_of_14 5 (by rw [c9]; rfl) (by decide) (by decide) rfl (by decide) ?_
      refine jx_aload_n (pc := 72) (k0 := 0) rfl dX5_of_72 ?_
      refine ll_glamp_now (pc := 73) fl_X5_12 dX5_of_73 ?_
      refine jx_iload_n (pc := 76) (k0 := 1) rfl dX5_of_76 ?_
      obtain ⟨q8, eq8, h⟩ := jx_bd_o h
      refine jx_callVi (pc := 77) [.int a1] (fun sz' => k_X1_setsAt l G t hG sz' σ a1 q8 eq8) kv_X5_122 ll_jok ll_rcnow rfl rfl (Nat.le_of_ble_eq_true rfl) ⟨⟨rfl, rfl⟩, ⟨Nat.le_of_ble_eq_true rfl, Nat.le_of_ble_eq_true rfl⟩, Nat.zero_le _, Nat.zero_le _⟩ dX5_of_77 ?_
      cases h
      exact jx_iret (pc := 80) dX5_of_80
    have h := jx_f c9 h
    by_cases c11 : a2 = (6 : Int32)
    · have h := jx_t c11 h
      refine jx_tabIn (pc := 14) (tgt := 81) dX5_of_14 6 (by rw [c11]; rfl) (by decide) (by decide) rfl (by decide) ?_
      refine jx_aload_n (pc := 81) (k0 := 0) rfl dX5_of_81 ?_
      refine ll_glamp_now (pc := 82) fl_X5_12 dX5_of_82 ?_
      refine jx_iload_n (pc := 85) (k0 := 1) rfl dX5_of_85 ?_
      obtain ⟨q10, eq10, h⟩ := jx_bd_o h
      refine jx_callVi (pc := 86) [.int a1] (fun sz' => k_X1_delay l G t hG sz' σ a1 q10 eq10) kv_X5_126 ll_jok ll_rcnow rfl rfl (Nat.le_of_ble_eq_true rfl) ⟨⟨rfl, rfl⟩, ⟨Nat.le_of_ble_eq_true rfl, Nat.le_of_ble_eq_true rfl⟩, Nat.zero_le _, Nat.zero_le _⟩ dX5_of_86 ?_
      cases h
      exact jx_iret (pc := 89) dX5_of_89
    have h := jx_f c11 h
    by_cases c15 : a2 = (7 : Int32)
    · have h := jx_t c15 h
      refine jx_tabIn (pc := 14) (tgt := 90) dX5_of_14 7 (by rw [c15]; rfl) (by decide) (by decide) rfl (by decide) ?_
      refine jx_aload_n (pc := 90) (k0 := 0) rfl dX5_of_90 ?_
      refine ll_glamp_night (pc := 91) fl_X5_26 dX5_of_91 ?_
      obtain ⟨q12, eq12, h⟩ := jx_bd_o h
      refine jx_callVv (pc := 94) [] (fun sz' => k_X2_chart l G t hG sz' σ q12 eq12) kv_X5_129 ll_jok ll_rcnight rfl rfl (Nat.le_of_ble_eq_true rfl) ⟨⟨rfl, rfl⟩, ⟨Nat.le_of_ble_eq_true rfl, Nat.le_of_ble_eq_true rfl⟩, Nat.zero_le _, Nat.zero_le _⟩ dX5_of_94 ?_
      refine jx_aload_n (pc := 97) (k0 := 0) rfl dX5_of_97 ?_
      refine ll_glamp_night (pc := 98) fl_X5_26 dX5_of_98 ?_
      refine jx_iload_n (pc := 101) (k0 := 1) rfl dX5_of_101 ?_
      refine jx_aload_n (pc := 102) (k0 := 0) rfl dX5_of_102 ?_
      refine ll_glamp_now (pc := 103) fl_X5_12 dX5_of_103 ?_
      refine jx_iload_n (pc := 106) (k0 := 1) rfl dX5_of_106 ?_
      obtain ⟨q13, eq13, h⟩ := jx_bd_o h
      refine jx_callVi (pc := 107) [.int a1] (fun sz' => k_X1_setsAt l G t hG sz' q12 a1 q13 eq13) kv_X5_122 ll_jok ll_rcnow rfl rfl (Nat.le_of_ble_eq_true rfl) ⟨⟨rfl, rfl⟩, ⟨Nat.le_of_ble_eq_true rfl, Nat.le_of_ble_eq_true rfl⟩, Nat.zero_le _, Nat.zero_le _⟩ dX5_of_107 ?_
      obtain ⟨q14, eq14, h⟩ := jx_bd_o h
      refine jx_callVi (pc := 110) [.int a1, .int q13] (fun sz' => k_X2_burns l G t hG sz' q12 a1 q13 q14 eq14) kv_X5_132 ll_jok ll_rcnight rfl rfl (Nat.le_of_ble_eq_true rfl) ⟨⟨rfl, rfl⟩, ⟨Nat.le_of_ble_eq_true rfl, Nat.le_of_ble_eq_true rfl⟩, Nat.zero_le _, Nat.zero_le _⟩ dX5_of_110 ?_
      cases h
      exact jx_iret (pc := 113) dX5_of_113
    have h := jx_f c15 h
    refine jx_tabOut (pc := 14) (tgt := 114) dX5_of_14 (by have z0 := lv_neT c3 (show (0 : Int32).toInt = 0 from rfl); have z1 := lv_neT c4 (show (1 : Int32).toInt = 1 from rfl); have z2 := lv_neT c5 (show (2 : Int32).toInt = 2 from rfl); have z3 := lv_neT c6 (show (3 : Int32).toInt = 3 from rfl); have z4 := lv_neT c7 (show (4 : Int32).toInt = 4 from rfl); have z5 := lv_neT c9 (show (5 : Int32).toInt = 5 from rfl); have z6 := lv_neT c11 (show (6 : Int32).toInt = 6 from rfl); have z7 := lv_neT c15 (show (7 : Int32).toInt = 7 from rfl); omega) (by decide) ?_
    refine jx_iconst (pc := 114) (v := (-1 : Int32)) (by decide) dX5_of_114 ?_
    cases h
    exact jx_iret (pc := 115) dX5_of_115
  · have h := jx_t c2 h
    refine jx_iconst (pc := 11) (v := (-1 : Int32)) (by decide) dX5_of_11 ?_
    cases h
    exact jx_iret (pc := 12) dX5_of_12
theorem dX5_drifts_0 : decode cX5_drifts 0 = .ok (.aload_n 0, 1) := by decide +kernel
theorem dX5_drifts_1 : decode cX5_drifts 1 = .ok (.getfield 12, 3) := by decide +kernel
theorem dX5_drifts_4 : decode cX5_drifts 4 = .ok (.iload_n 1, 1) := by decide +kernel
theorem dX5_drifts_5 : decode cX5_drifts 5 = .ok (.invokevirtual 85, 3) := by decide +kernel
theorem dX5_drifts_8 : decode cX5_drifts 8 = .ok (.ifCond .ne 5, 3) := by decide +kernel
theorem dX5_drifts_11 : decode cX5_drifts 11 = .ok (.iconst (-1), 1) := by decide +kernel
theorem dX5_drifts_12 : decode cX5_drifts 12 = .ok (.ireturn, 1) := by decide +kernel
theorem dX5_drifts_13 : decode cX5_drifts 13 = .ok (.iload_n 2, 1) := by decide +kernel
theorem dX5_drifts_14 : decode cX5_drifts 14 = .ok (.iconst 0, 1) := by decide +kernel
theorem dX5_drifts_15 : decode cX5_drifts 15 = .ok (.bipush 12, 2) := by decide +kernel
theorem dX5_drifts_17 : decode cX5_drifts 17 = .ok (.invokestatic 48, 3) := by decide +kernel
theorem dX5_drifts_20 : decode cX5_drifts 20 = .ok (.ifCond .ne 6, 3) := by decide +kernel
theorem dX5_drifts_23 : decode cX5_drifts 23 = .ok (.bipush (-2), 2) := by decide +kernel
theorem dX5_drifts_25 : decode cX5_drifts 25 = .ok (.ireturn, 1) := by decide +kernel
theorem dX5_drifts_26 : decode cX5_drifts 26 = .ok (.aload_n 0, 1) := by decide +kernel
theorem dX5_drifts_27 : decode cX5_drifts 27 = .ok (.getfield 26, 3) := by decide +kernel
theorem dX5_drifts_30 : decode cX5_drifts 30 = .ok (.invokevirtual 129, 3) := by decide +kernel
theorem dX5_drifts_33 : decode cX5_drifts 33 = .ok (.aload_n 0, 1) := by decide +kernel
theorem dX5_drifts_34 : decode cX5_drifts 34 = .ok (.getfield 26, 3) := by decide +kernel
theorem dX5_drifts_37 : decode cX5_drifts 37 = .ok (.iload_n 1, 1) := by decide +kernel
theorem dX5_drifts_38 : decode cX5_drifts 38 = .ok (.iconst 0, 1) := by decide +kernel
theorem dX5_drifts_39 : decode cX5_drifts 39 = .ok (.iload_n 2, 1) := by decide +kernel
theorem dX5_drifts_40 : decode cX5_drifts 40 = .ok (.invokevirtual 157, 3) := by decide +kernel
theorem dX5_drifts_43 : decode cX5_drifts 43 = .ok (.ireturn, 1) := by decide +kernel
abbrev rm_X5_drifts : Room := { frames := 4, cells := 0, slots := 0, locals := 96 }
abbrev jJ_X5_drifts (l : Launch) (G : jx_G) (t : jx_T) (sz : Nat) (out : (Int32 × jx_M)) (pc : Nat) (lv : List (Nat × Value)) (st : List Value) (σ : jx_M) : Prop := jx_J l (ll_env G t) (ll_dyn G t) (ll_rg G) sz RX5 "drifts" cX5_drifts 3 (some .int) rm_X5_drifts (fun below args s => MQ below (jx_Qi (ll_dyn G t) out.2 out.1 (jx_A (ll_rg G) sz)) args s 0 0 (jx_A (ll_rg G) sz)) 0 0 pc lv st σ
def f_X5_drifts (t : jx_T) (σ : jx_M) (a1 : Int32) (a2 : Int32) : Option (Int32 × jx_M) :=
  jx_bd (f_X1_hasPlace t σ a1) (fun q1 => if q1 = 0 then some ((-1 : Int32), σ) else jx_bd (f_X5_within a2 (0 : Int32) (12 : Int32)) (fun q3 => if q3 = 0 then some ((-2 : Int32), σ) else jx_bd (f_X2_chart t σ) (fun q5 => jx_bd (f_X2_afloat t q5 a1 (0 : Int32) a2) (fun q6 => some (q6, q5)))))
set_option maxHeartbeats 4000000 in
set_option maxRecDepth 100000 in
theorem k_X5_drifts (l : Launch) (G : jx_G) (t : jx_T) (hG : ll_ok G) (sz : Nat) (σ : jx_M) (a1 : Int32) (a2 : Int32) (out : (Int32 × jx_M)) (h : f_X5_drifts t σ a1 a2 = some out) : Met l yX5_drifts (Cond.code yX5_drifts cX5_drifts 3 (some .int) :: jx_ws) rm_X5_drifts (jx_Pc (ll_env G t) (ll_dyn G t) (ll_rg G) sz σ [.ref (G.2 20), .int a1, .int a2]) (jx_Qi (ll_dyn G t) out.2 out.1 (jx_A (ll_rg G) sz)) 0 0 (jx_A (ll_rg G) sz) := by
  unfold f_X5_drifts at h
  refine jx_met (by decide) (Nat.le_of_ble_eq_true rfl) ?_
  refine jx_sub (lv' := [(0, .ref (G.2 20)), (1, .int a1), (2, .int a2)]) [0, 1, 2] rfl ?_
  refine jx_aload_n (pc := 0) (k0 := 0) rfl dX5_drifts_0 ?_
  refine ll_glamp_now (pc := 1) fl_X5_12 dX5_drifts_1 ?_
  refine jx_iload_n (pc := 4) (k0 := 1) rfl dX5_drifts_4 ?_
  obtain ⟨q1, eq1, h⟩ := jx_bd_o h
  refine jx_callVi (pc := 5) [.int a1] (fun sz' => k_X1_hasPlace l G t hG sz' σ a1 q1 eq1) kv_X5_85 ll_jok ll_rcnow rfl rfl (Nat.le_of_ble_eq_true rfl) ⟨⟨rfl, rfl⟩, ⟨Nat.le_of_ble_eq_true rfl, Nat.le_of_ble_eq_true rfl⟩, Nat.zero_le _, Nat.zero_le _⟩ dX5_drifts_5 ?_
  refine jx_if_ne (pc := 8) (tgt := 13) dX5_drifts_8 (by decide) (fun c2 => ?_) (fun c2 => ?_)
  · have h := jx_f c2 h
    refine jx_iload_n (pc := 13) (k0 := 2) rfl dX5_drifts_13 ?_
    refine jx_iconst (pc := 14) (v := (0 : Int32)) (by decide) dX5_drifts_14 ?_
    refine jx_bipush (pc := 15) (v := (12 : Int32)) (by decide) dX5_drifts_15 ?_
    obtain ⟨q3, eq3, h⟩ := jx_bd_o h
    refine jx_callSi (pc := 17) [.int a2, .int (0 : Int32), .int (12 : Int32)] (fun sz' => k_X5_within l G t hG sz' σ a2 (0 : Int32) (12 : Int32) q3 eq3) ks_X5_48 ll_jok rfl rfl (Nat.le_of_ble_eq_true rfl) ⟨⟨rfl, rfl⟩, ⟨Nat.le_of_ble_eq_true rfl, Nat.le_of_ble_eq_true rfl⟩, Nat.zero_le _, Nat.zero_le _⟩ dX5_drifts_17 ?_
    refine jx_if_ne (pc := 20) (tgt := 26) dX5_drifts_20 (by decide) (fun c4 => ?_) (fun c4 => ?_)
    · have h := jx_f c4 h
      refine jx_aload_n (pc := 26) (k0 := 0) rfl dX5_drifts_26 ?_
      refine ll_glamp_night (pc := 27) fl_X5_26 dX5_drifts_27 ?_
      obtain ⟨q5, eq5, h⟩ := jx_bd_o h
      refine jx_callVv (pc := 30) [] (fun sz' => k_X2_chart l G t hG sz' σ q5 eq5) kv_X5_129 ll_jok ll_rcnight rfl rfl (Nat.le_of_ble_eq_true rfl) ⟨⟨rfl, rfl⟩, ⟨Nat.le_of_ble_eq_true rfl, Nat.le_of_ble_eq_true rfl⟩, Nat.zero_le _, Nat.zero_le _⟩ dX5_drifts_30 ?_
      refine jx_aload_n (pc := 33) (k0 := 0) rfl dX5_drifts_33 ?_
      refine ll_glamp_night (pc := 34) fl_X5_26 dX5_drifts_34 ?_
      refine jx_iload_n (pc := 37) (k0 := 1) rfl dX5_drifts_37 ?_
      refine jx_iconst (pc := 38) (v := (0 : Int32)) (by decide) dX5_drifts_38 ?_
      refine jx_iload_n (pc := 39) (k0 := 2) rfl dX5_drifts_39 ?_
      obtain ⟨q6, eq6, h⟩ := jx_bd_o h
      refine jx_callVi (pc := 40) [.int a1, .int (0 : Int32), .int a2] (fun sz' => k_X2_afloat l G t hG sz' q5 a1 (0 : Int32) a2 q6 eq6) kv_X5_157 ll_jok ll_rcnight rfl rfl (Nat.le_of_ble_eq_true rfl) ⟨⟨rfl, rfl⟩, ⟨Nat.le_of_ble_eq_true rfl, Nat.le_of_ble_eq_true rfl⟩, Nat.zero_le _, Nat.zero_le _⟩ dX5_drifts_40 ?_
      cases h
      exact jx_iret (pc := 43) dX5_drifts_43
    · have h := jx_t c4 h
      refine jx_bipush (pc := 23) (v := (-2 : Int32)) (by decide) dX5_drifts_23 ?_
      cases h
      exact jx_iret (pc := 25) dX5_drifts_25
  · have h := jx_t c2 h
    refine jx_iconst (pc := 11) (v := (-1 : Int32)) (by decide) dX5_drifts_11 ?_
    cases h
    exact jx_iret (pc := 12) dX5_drifts_12
theorem dX2_turning_0 : decode cX2_turning 0 = .ok (.aload_n 0, 1) := by decide +kernel
theorem dX2_turning_1 : decode cX2_turning 1 = .ok (.invokevirtual 103, 3) := by decide +kernel
theorem dX2_turning_4 : decode cX2_turning 4 = .ok (.aload_n 0, 1) := by decide +kernel
theorem dX2_turning_5 : decode cX2_turning 5 = .ok (.getfield 36, 3) := by decide +kernel
theorem dX2_turning_8 : decode cX2_turning 8 = .ok (.invokevirtual 96, 3) := by decide +kernel
theorem dX2_turning_11 : decode cX2_turning 11 = .ok (.istore_n 1, 1) := by decide +kernel
theorem dX2_turning_12 : decode cX2_turning 12 = .ok (.aload_n 0, 1) := by decide +kernel
theorem dX2_turning_13 : decode cX2_turning 13 = .ok (.iload_n 1, 1) := by decide +kernel
theorem dX2_turning_14 : decode cX2_turning 14 = .ok (.invokevirtual 106, 3) := by decide +kernel
theorem dX2_turning_17 : decode cX2_turning 17 = .ok (.istore_n 2, 1) := by decide +kernel
theorem dX2_turning_18 : decode cX2_turning 18 = .ok (.bipush (-5), 2) := by decide +kernel
theorem dX2_turning_20 : decode cX2_turning 20 = .ok (.istore_n 3, 1) := by decide +kernel
theorem dX2_turning_21 : decode cX2_turning 21 = .ok (.aload_n 0, 1) := by decide +kernel
theorem dX2_turning_22 : decode cX2_turning 22 = .ok (.getfield 36, 3) := by decide +kernel
theorem dX2_turning_25 : decode cX2_turning 25 = .ok (.getfield 74, 3) := by decide +kernel
theorem dX2_turning_28 : decode cX2_turning 28 = .ok (.iconst 1, 1) := by decide +kernel
theorem dX2_turning_29 : decode cX2_turning 29 = .ok (.iadd, 1) := by decide +kernel
theorem dX2_turning_30 : decode cX2_turning 30 = .ok (.istore 4, 2) := by decide +kernel
theorem dX2_turning_32 : decode cX2_turning 32 = .ok (.iconst 1, 1) := by decide +kernel
theorem dX2_turning_33 : decode cX2_turning 33 = .ok (.istore 5, 2) := by decide +kernel
theorem dX2_turning_35 : decode cX2_turning 35 = .ok (.iload 5, 2) := by decide +kernel
theorem dX2_turning_37 : decode cX2_turning 37 = .ok (.iconst 1, 1) := by decide +kernel
theorem dX2_turning_38 : decode cX2_turning 38 = .ok (.aload_n 0, 1) := by decide +kernel
theorem dX2_turning_39 : decode cX2_turning 39 = .ok (.getfield 36, 3) := by decide +kernel
theorem dX2_turning_42 : decode cX2_turning 42 = .ok (.getfield 74, 3) := by decide +kernel
theorem dX2_turning_45 : decode cX2_turning 45 = .ok (.ishl, 1) := by decide +kernel
theorem dX2_turning_46 : decode cX2_turning 46 = .ok (.if_icmp .ge 64, 3) := by decide +kernel
theorem dX2_turning_49 : decode cX2_turning 49 = .ok (.aload_n 0, 1) := by decide +kernel
theorem dX2_turning_50 : decode cX2_turning 50 = .ok (.iload_n 1, 1) := by decide +kernel
theorem dX2_turning_51 : decode cX2_turning 51 = .ok (.iload 5, 2) := by decide +kernel
theorem dX2_turning_53 : decode cX2_turning 53 = .ok (.ixor, 1) := by decide +kernel
theorem dX2_turning_54 : decode cX2_turning 54 = .ok (.invokevirtual 106, 3) := by decide +kernel
theorem dX2_turning_57 : decode cX2_turning 57 = .ok (.istore 6, 2) := by decide +kernel
theorem dX2_turning_59 : decode cX2_turning 59 = .ok (.iload 6, 2) := by decide +kernel
theorem dX2_turning_61 : decode cX2_turning 61 = .ok (.iload_n 2, 1) := by decide +kernel
theorem dX2_turning_62 : decode cX2_turning 62 = .ok (.if_icmp .eq 14, 3) := by decide +kernel
theorem dX2_turning_65 : decode cX2_turning 65 = .ok (.iload 6, 2) := by decide +kernel
theorem dX2_turning_67 : decode cX2_turning 67 = .ok (.bipush (-5), 2) := by decide +kernel
theorem dX2_turning_69 : decode cX2_turning 69 = .ok (.if_icmp .eq 7, 3) := by decide +kernel
theorem dX2_turning_72 : decode cX2_turning 72 = .ok (.iconst 1, 1) := by decide +kernel
theorem dX2_turning_73 : decode cX2_turning 73 = .ok (.goto 4, 3) := by decide +kernel
theorem dX2_turning_76 : decode cX2_turning 76 = .ok (.iconst 0, 1) := by decide +kernel
theorem dX2_turning_77 : decode cX2_turning 77 = .ok (.istore 7, 2) := by decide +kernel
theorem dX2_turning_79 : decode cX2_turning 79 = .ok (.iload 7, 2) := by decide +kernel
theorem dX2_turning_81 : decode cX2_turning 81 = .ok (.ifCond .eq 23, 3) := by decide +kernel
theorem dX2_turning_84 : decode cX2_turning 84 = .ok (.iload 5, 2) := by decide +kernel
theorem dX2_turning_86 : decode cX2_turning 86 = .ok (.invokestatic 109, 3) := by decide +kernel
theorem dX2_turning_89 : decode cX2_turning 89 = .ok (.iload 4, 2) := by decide +kernel
theorem dX2_turning_91 : decode cX2_turning 91 = .ok (.if_icmp .ge 13, 3) := by decide +kernel
theorem dX2_turning_94 : decode cX2_turning 94 = .ok (.iload 5, 2) := by decide +kernel
theorem dX2_turning_96 : decode cX2_turning 96 = .ok (.istore_n 3, 1) := by decide +kernel
theorem dX2_turning_97 : decode cX2_turning 97 = .ok (.iload 5, 2) := by decide +kernel
theorem dX2_turning_99 : decode cX2_turning 99 = .ok (.invokestatic 109, 3) := by decide +kernel
theorem dX2_turning_102 : decode cX2_turning 102 = .ok (.istore 4, 2) := by decide +kernel
theorem dX2_turning_104 : decode cX2_turning 104 = .ok (.iinc 5 1, 3) := by decide +kernel
theorem dX2_turning_107 : decode cX2_turning 107 = .ok (.goto (-72), 3) := by decide +kernel
theorem dX2_turning_110 : decode cX2_turning 110 = .ok (.iload_n 3, 1) := by decide +kernel
theorem dX2_turning_111 : decode cX2_turning 111 = .ok (.ireturn, 1) := by decide +kernel
abbrev rm_X2_turning : Room := { frames := 5, cells := 0, slots := 0, locals := 116 }
abbrev jJ_X2_turning (l : Launch) (G : jx_G) (t : jx_T) (sz : Nat) (out : (Int32 × jx_M)) (pc : Nat) (lv : List (Nat × Value)) (st : List Value) (σ : jx_M) : Prop := jx_J l (ll_env G t) (ll_dyn G t) (ll_rg G) sz RX2 "turning" cX2_turning 8 (some .int) rm_X2_turning (fun below args s => MQ below (jx_Qi (ll_dyn G t) out.2 out.1 (jx_A (ll_rg G) sz)) args s 0 0 (jx_A (ll_rg G) sz)) 0 0 pc lv st σ
def b_X2_turning_104 (t : jx_T) (k35 : jx_M → Int32 → Int32 → Int32 → Int32 → Int32 → Option (Int32 × jx_M)) (σ : jx_M) (v1 : Int32) (v2 : Int32) (v3 : Int32) (v4 : Int32) (v5 : Int32) : Option (Int32 × jx_M) :=
  jx_lt (v5 + (1 : Int32)) (fun x1 => (k35 σ v1 v2 v3 v4 x1))
set_option maxHeartbeats 4000000 in
set_option maxRecDepth 100000 in
theorem jb_X2_turning_104 (l : Launch) (G : jx_G) (t : jx_T) (hG : ll_ok G) (sz : Nat) (out : (Int32 × jx_M)) (k35 : jx_M → Int32 → Int32 → Int32 → Int32 → Int32 → Option (Int32 × jx_M)) (h35 : ∀ (σ : jx_M) (v1 : Int32) (v2 : Int32) (v3 : Int32) (v4 : Int32) (v5 : Int32), k35 σ v1 v2 v3 v4 v5 = some out → jJ_X2_turning l G t sz out 35 [(0, .ref (G.2 23)), (1, .int v1), (2, .int v2), (3, .int v3), (4, .int v4), (5, .int v5)] [] σ) (σ : jx_M) (v1 : Int32) (v2 : Int32) (v3 : Int32) (v4 : Int32) (v5 : Int32) (h : b_X2_turning_104 t k35 σ v1 v2 v3 v4 v5 = some out) : jJ_X2_turning l G t sz out 104 [(0, .ref (G.2 23)), (1, .int v1), (2, .int v2), (3, .int v3), (4, .int v4), (5, .int v5)] [] σ := by
  unfold b_X2_turning_104 at h
  obtain ⟨x1, ex1, h⟩ := jx_lt_o h
  refine jx_iinc (pc := 104) (i := 5) (v := v5) rfl ex1 (n := 1) (by decide) (by decide) (lv' := [(5, .int x1), (0, .ref (G.2 23)), (1, .int v1), (2, .int v2), (3, .int v3), (4, .int v4)]) rfl dX2_turning_104 ?_
  refine jx_goto (pc := 107) (tgt := 35) dX2_turning_107 (by decide) ?_
  exact jx_sub [1, 2, 3, 4, 5, 0] rfl (h35 σ v1 v2 v3 v4 x1 h)
def b_X2_turning_77 (t : jx_T) (k35 : jx_M → Int32 → Int32 → Int32 → Int32 → Int32 → Option (Int32 × jx_M)) (σ : jx_M) (v1 : Int32) (v2 : Int32) (v3 : Int32) (v4 : Int32) (v5 : Int32) (s0 : Int32) : Option (Int32 × jx_M) :=
  if s0 = 0 then (b_X2_turning_104 t k35 σ v1 v2 v3 v4 v5) else jx_bd (f_J6_bitCount_0f7a4 v5) (fun q2 => if v4 ≤ q2 then (b_X2_turning_104 t k35 σ v1 v2 v3 v4 v5) else jx_bd (f_J6_bitCount_0f7a4 v5) (fun q4 => (b_X2_turning_104 t k35 σ v1 v2 v5 q4 v5)))
set_option maxHeartbeats 4000000 in
set_option maxRecDepth 100000 in
theorem jb_X2_turning_77 (l : Launch) (G : jx_G) (t : jx_T) (hG : ll_ok G) (sz : Nat) (out : (Int32 × jx_M)) (k35 : jx_M → Int32 → Int32 → Int32 → Int32 → Int32 → Option (Int32 × jx_M)) (h35 : ∀ (σ : jx_M) (v1 : Int32) (v2 : Int32) (v3 : Int32) (v4 : Int32) (v5 : Int32), k35 σ v1 v2 v3 v4 v5 = some out → jJ_X2_turning l G t sz out 35 [(0, .ref (G.2 23)), (1, .int v1), (2, .int v2), (3, .int v3), (4, .int v4), (5, .int v5)] [] σ) (σ : jx_M) (v1 : Int32) (v2 : Int32) (v3 : Int32) (v4 : Int32) (v5 : Int32) (s0 : Int32) (h : b_X2_turning_77 t k35 σ v1 v2 v3 v4 v5 s0 = some out) : jJ_X2_turning l G t sz out 77 [(0, .ref (G.2 23)), (1, .int v1), (2, .int v2), (3, .int v3), (4, .int v4), (5, .int v5)] [.int s0] σ := by
  unfold b_X2_turning_77 at h
  refine jx_istore (pc := 77) (i := 7) rfl (by decide) (lv' := [(7, .int s0), (0, .ref (G.2 23)), (1, .int v1), (2, .int v2), (3, .int v3), (4, .int v4), (5, .int v5)]) rfl dX2_turning_77 ?_
  refine jx_iload (pc := 79) (i := 7) rfl dX2_turning_79 ?_
  refine jx_if_eq (pc := 81) (tgt := 104) dX2_turning_81 (by decide) (fun c1 => ?_) (fun c1 => ?_)
  · have h := jx_t c1 h
    exact jx_sub [1, 2, 3, 4, 5, 6] rfl (jb_X2_turning_104 l G t hG sz out k35 h35 σ v1 v2 v3 v4 v5 h)
  · have h := jx_f c1 h
    refine jx_iload (pc := 84) (i := 5) rfl dX2_turning_84 ?_
    obtain ⟨q2, eq2, h⟩ := jx_bd_o h
    refine jx_callSi (pc := 86) [.int v5] (fun sz' => k_J6_bitCount_0f7a4 l G t hG sz' σ v5 q2 eq2) ks_X2_109 ll_jok rfl rfl (Nat.le_of_ble_eq_true rfl) ⟨⟨rfl, rfl⟩, ⟨Nat.le_of_ble_eq_true rfl, Nat.le_of_ble_eq_true rfl⟩, Nat.zero_le _, Nat.zero_le _⟩ dX2_turning_86 ?_
    refine jx_iload (pc := 89) (i := 4) rfl dX2_turning_89 ?_
    refine jx_icmp_ge (pc := 91) (tgt := 104) dX2_turning_91 (by decide) (fun c3 => ?_) (fun c3 => ?_)
    · have h := jx_t c3 h
      exact jx_sub [1, 2, 3, 4, 5, 6] rfl (jb_X2_turning_104 l G t hG sz out k35 h35 σ v1 v2 v3 v4 v5 h)
    · have h := jx_f c3 h
      refine jx_iload (pc := 94) (i := 5) rfl dX2_turning_94 ?_
      refine jx_istore_n (pc := 96) (i := 3) rfl rfl (by decide) (lv' := [(3, .int v5), (7, .int s0), (0, .ref (G.2 23)), (1, .int v1), (2, .int v2), (4, .int v4), (5, .int v5)]) rfl dX2_turning_96 ?_
      refine jx_iload (pc := 97) (i := 5) rfl dX2_turning_97 ?_
      obtain ⟨q4, eq4, h⟩ := jx_bd_o h
      refine jx_callSi (pc := 99) [.int v5] (fun sz' => k_J6_bitCount_0f7a4 l G t hG sz' σ v5 q4 eq4) ks_X2_109 ll_jok rfl rfl (Nat.le_of_ble_eq_true rfl) ⟨⟨rfl, rfl⟩, ⟨Nat.le_of_ble_eq_true rfl, Nat.le_of_ble_eq_true rfl⟩, Nat.zero_le _, Nat.zero_le _⟩ dX2_turning_99 ?_
      refine jx_istore (pc := 102) (i := 4) rfl (by decide) (lv' := [(4, .int q4), (3, .int v5), (7, .int s0), (0, .ref (G.2 23)), (1, .int v1), (2, .int v2), (5, .int v5)]) rfl dX2_turning_102 ?_
      exact jx_sub [3, 4, 5, 1, 0, 6] rfl (jb_X2_turning_104 l G t hG sz out k35 h35 σ v1 v2 v5 q4 v5 h)
def b_X2_turning_76 (t : jx_T) (k35 : jx_M → Int32 → Int32 → Int32 → Int32 → Int32 → Option (Int32 × jx_M)) (σ : jx_M) (v1 : Int32) (v2 : Int32) (v3 : Int32) (v4 : Int32) (v5 : Int32) : Option (Int32 × jx_M) :=
  (b_X2_turning_77 t k35 σ v1 v2 v3 v4 v5 (0 : Int32))
set_option maxHeartbeats 4000000 in
set_option maxRecDepth 100000 in
theorem jb_X2_turning_76 (l : Launch) (G : jx_G) (t : jx_T) (hG : ll_ok G) (sz : Nat) (out : (Int32 × jx_M)) (k35 : jx_M → Int32 → Int32 → Int32 → Int32 → Int32 → Option (Int32 × jx_M)) (h35 : ∀ (σ : jx_M) (v1 : Int32) (v2 : Int32) (v3 : Int32) (v4 : Int32) (v5 : Int32), k35 σ v1 v2 v3 v4 v5 = some out → jJ_X2_turning l G t sz out 35 [(0, .ref (G.2 23)), (1, .int v1), (2, .int v2), (3, .int v3), (4, .int v4), (5, .int v5)] [] σ) (σ : jx_M) (v1 : Int32) (v2 : Int32) (v3 : Int32) (v4 : Int32) (v5 : Int32) (h : b_X2_turning_76 t k35 σ v1 v2 v3 v4 v5 = some out) : jJ_X2_turning l G t sz out 76 [(0, .ref (G.2 23)), (1, .int v1), (2, .int v2), (3, .int v3), (4, .int v4), (5, .int v5)] [] σ := by
  unfold b_X2_turning_76 at h
  refine jx_iconst (pc := 76) (v := (0 : Int32)) (by decide) dX2_turning_76 ?_
  exact jx_sub [0, 1, 2, 3, 4, 5] rfl (jb_X2_turning_77 l G t hG sz out k35 h35 σ v1 v2 v3 v4 v5 (0 : Int32) h)
def g_X2_turning_35 (t : jx_T) (k35 : jx_M → Int32 → Int32 → Int32 → Int32 → Int32 → Option (Int32 × jx_M)) (σ : jx_M) (v1 : Int32) (v2 : Int32) (v3 : Int32) (v4 : Int32) (v5 : Int32) : Option (Int32 × jx_M) :=
  if ((1 : Int32) <<< ((σ 0 2) &&& 31)) ≤ v5 then some (v3, σ) else jx_bd (f_X2_mayor t σ (v1 ^^^ v5)) (fun q2 => if q2 = v2 then (b_X2_turning_76 t k35 σ v1 v2 v3 v4 v5) else if q2 = (-5 : Int32) then (b_X2_turning_76 t k35 σ v1 v2 v3 v4 v5) else (b_X2_turning_77 t k35 σ v1 v2 v3 v4 v5 (1 : Int32)))
set_option maxHeartbeats 4000000 in
set_option maxRecDepth 100000 in
theorem jg_X2_turning_35 (l : Launch) (G : jx_G) (t : jx_T) (hG : ll_ok G) (sz : Nat) (out : (Int32 × jx_M)) (k35 : jx_M → Int32 → Int32 → Int32 → Int32 → Int32 → Option (Int32 × jx_M)) (h35 : ∀ (σ : jx_M) (v1 : Int32) (v2 : Int32) (v3 : Int32) (v4 : Int32) (v5 : Int32), k35 σ v1 v2 v3 v4 v5 = some out → jJ_X2_turning l G t sz out 35 [(0, .ref (G.2 23)), (1, .int v1), (2, .int v2), (3, .int v3), (4, .int v4), (5, .int v5)] [] σ) (σ : jx_M) (v1 : Int32) (v2 : Int32) (v3 : Int32) (v4 : Int32) (v5 : Int32) (h : g_X2_turning_35 t k35 σ v1 v2 v3 v4 v5 = some out) : jJ_X2_turning l G t sz out 35 [(0, .ref (G.2 23)), (1, .int v1), (2, .int v2), (3, .int v3), (4, .int v4), (5, .int v5)] [] σ := by
  unfold g_X2_turning_35 at h
  refine jx_iload (pc := 35) (i := 5) rfl dX2_turning_35 ?_
  refine jx_iconst (pc := 37) (v := (1 : Int32)) (by decide) dX2_turning_37 ?_
  refine jx_aload_n (pc := 38) (k0 := 0) rfl dX2_turning_38 ?_
  refine ll_gnight_canal (pc := 39) fl_X2_36 dX2_turning_39 ?_
  refine ll_gnow_voters (pc := 42) fl_X2_74 dX2_turning_42 ?_
  refine jx_ishl (pc := 45) dX2_turning_45 ?_
  refine jx_icmp_ge (pc := 46) (tgt := 110) dX2_turning_46 (by decide) (fun c1 => ?_) (fun c1 => ?_)
  · have h := jx_t c1 h
    refine jx_iload_n (pc := 110) (k0 := 3) rfl dX2_turning_110 ?_
    cases h
    exact jx_iret (pc := 111) dX2_turning_111
  · have h := jx_f c1 h
    refine jx_aload_n (pc := 49) (k0 := 0) rfl dX2_turning_49 ?_
    refine jx_iload_n (pc := 50) (k0 := 1) rfl dX2_turning_50 ?_
    refine jx_iload (pc := 51) (i := 5) rfl dX2_turning_51 ?_
    refine jx_ixor (pc := 53) dX2_turning_53 ?_
    obtain ⟨q2, eq2, h⟩ := jx_bd_o h
    refine jx_callVi (pc := 54) [.int (v1 ^^^ v5)] (fun sz' => k_X2_mayor l G t hG sz' σ (v1 ^^^ v5) q2 eq2) kv_X2_106 ll_jok ll_rcnight rfl rfl (Nat.le_of_ble_eq_true rfl) ⟨⟨rfl, rfl⟩, ⟨Nat.le_of_ble_eq_true rfl, Nat.le_of_ble_eq_true rfl⟩, Nat.zero_le _, Nat.zero_le _⟩ dX2_turning_54 ?_
    refine jx_istore (pc := 57) (i := 6) rfl (by decide) (lv' := [(6, .int q2), (0, .ref (G.2 23)), (1, .int v1), (2, .int v2), (3, .int v3), (4, .int v4), (5, .int v5)]) rfl dX2_turning_57 ?_
    refine jx_iload (pc := 59) (i := 6) rfl dX2_turning_59 ?_
    refine jx_iload_n (pc := 61) (k0 := 2) rfl dX2_turning_61 ?_
    refine jx_icmp_eq (pc := 62) (tgt := 76) dX2_turning_62 (by decide) (fun c3 => ?_) (fun c3 => ?_)
    · have h := jx_t c3 h
      exact jx_sub [1, 2, 3, 4, 5, 6] rfl (jb_X2_turning_76 l G t hG sz out k35 h35 σ v1 v2 v3 v4 v5 h)
    · have h := jx_f c3 h
      refine jx_iload (pc := 65) (i := 6) rfl dX2_turning_65 ?_
      refine jx_bipush (pc := 67) (v := (-5 : Int32)) (by decide) dX2_turning_67 ?_
      refine jx_icmp_eq (pc := 69) (tgt := 76) dX2_turning_69 (by decide) (fun c4 => ?_) (fun c4 => ?_)
      · have h := jx_t c4 h
        exact jx_sub [1, 2, 3, 4, 5, 6] rfl (jb_X2_turning_76 l G t hG sz out k35 h35 σ v1 v2 v3 v4 v5 h)
      · have h := jx_f c4 h
        refine jx_iconst (pc := 72) (v := (1 : Int32)) (by decide) dX2_turning_72 ?_
        refine jx_goto (pc := 73) (tgt := 77) dX2_turning_73 (by decide) ?_
        exact jx_sub [1, 2, 3, 4, 5, 6] rfl (jb_X2_turning_77 l G t hG sz out k35 h35 σ v1 v2 v3 v4 v5 (1 : Int32) h)
def b_X2_turning_35 (t : jx_T)  : Nat → jx_M → Int32 → Int32 → Int32 → Int32 → Int32 → Option (Int32 × jx_M)
  | 0, _, _, _, _, _, _ => none
  | n + 1, σ, v1, v2, v3, v4, v5 => g_X2_turning_35 t (b_X2_turning_35 t n) σ v1 v2 v3 v4 v5
theorem jb_X2_turning_35 (l : Launch) (G : jx_G) (t : jx_T) (hG : ll_ok G) (sz : Nat) (out : (Int32 × jx_M))  : ∀ (n : Nat) (σ : jx_M) (v1 : Int32) (v2 : Int32) (v3 : Int32) (v4 : Int32) (v5 : Int32), b_X2_turning_35 t n σ v1 v2 v3 v4 v5 = some out → jJ_X2_turning l G t sz out 35 [(0, .ref (G.2 23)), (1, .int v1), (2, .int v2), (3, .int v3), (4, .int v4), (5, .int v5)] [] σ := by
  intro n
  induction n with
  | zero =>
    intro σ v1 v2 v3 v4 v5 h
    cases h
  | succ n ih =>
    intro σ v1 v2 v3 v4 v5 h
    exact jg_X2_turning_35 l G t hG sz out (b_X2_turning_35 t n) ih σ v1 v2 v3 v4 v5 h
def f_X2_turning (t : jx_T) (σ : jx_M)  : Option (Int32 × jx_M) :=
  jx_bd (f_X2_pass t σ) (fun q1 => jx_bd (f_X1_wishes t q1) (fun q2 => jx_bd (f_X2_mayor t q1 q2) (fun q3 => jx_lt (((q1 0 2) + (1 : Int32))) (fun x4 => (b_X2_turning_35 t jx_fuel q1 q2 q3 (-5 : Int32) x4 (1 : Int32))))))
set_option maxHeartbeats 4000000 in
set_option maxRecDepth 100000 in
theorem k_X2_turning (l : Launch) (G : jx_G) (t : jx_T) (hG : ll_ok G) (sz : Nat) (σ : jx_M)  (out : (Int32 × jx_M)) (h : f_X2_turning t σ = some out) : Met l yX2_turning (Cond.code yX2_turning cX2_turning 8 (some .int) :: jx_ws) rm_X2_turning (jx_Pc (ll_env G t) (ll_dyn G t) (ll_rg G) sz σ [.ref (G.2 23)]) (jx_Qi (ll_dyn G t) out.2 out.1 (jx_A (ll_rg G) sz)) 0 0 (jx_A (ll_rg G) sz) := by
  unfold f_X2_turning at h
  refine jx_met (by decide) (Nat.le_of_ble_eq_true rfl) ?_
  refine jx_sub (lv' := [(0, .ref (G.2 23))]) [0] rfl ?_
  refine jx_aload_n (pc := 0) (k0 := 0) rfl dX2_turning_0 ?_
  obtain ⟨q1, eq1, h⟩ := jx_bd_o h
  refine jx_callVv (pc := 1) [] (fun sz' => k_X2_pass l G t hG sz' σ q1 eq1) kv_X2_103 ll_jok ll_rcnight rfl rfl (Nat.le_of_ble_eq_true rfl) ⟨⟨rfl, rfl⟩, ⟨Nat.le_of_ble_eq_true rfl, Nat.le_of_ble_eq_true rfl⟩, Nat.zero_le _, Nat.zero_le _⟩ dX2_turning_1 ?_
  refine jx_aload_n (pc := 4) (k0 := 0) rfl dX2_turning_4 ?_
  refine ll_gnight_canal (pc := 5) fl_X2_36 dX2_turning_5 ?_
  obtain ⟨q2, eq2, h⟩ := jx_bd_o h
  refine jx_callVi (pc := 8) [] (fun sz' => k_X1_wishes l G t hG sz' q1 q2 eq2) kv_X2_96 ll_jok ll_rcnow rfl rfl (Nat.le_of_ble_eq_true rfl) ⟨⟨rfl, rfl⟩, ⟨Nat.le_of_ble_eq_true rfl, Nat.le_of_ble_eq_true rfl⟩, Nat.zero_le _, Nat.zero_le _⟩ dX2_turning_8 ?_
  refine jx_istore_n (pc := 11) (i := 1) rfl rfl (by decide) (lv' := [(1, .int q2), (0, .ref (G.2 23))]) rfl dX2_turning_11 ?_
  refine jx_aload_n (pc := 12) (k0 := 0) rfl dX2_turning_12 ?_
  refine jx_iload_n (pc := 13) (k0 := 1) rfl dX2_turning_13 ?_
  obtain ⟨q3, eq3, h⟩ := jx_bd_o h
  refine jx_callVi (pc := 14) [.int q2] (fun sz' => k_X2_mayor l G t hG sz' q1 q2 q3 eq3) kv_X2_106 ll_jok ll_rcnight rfl rfl (Nat.le_of_ble_eq_true rfl) ⟨⟨rfl, rfl⟩, ⟨Nat.le_of_ble_eq_true rfl, Nat.le_of_ble_eq_true rfl⟩, Nat.zero_le _, Nat.zero_le _⟩ dX2_turning_14 ?_
  refine jx_istore_n (pc := 17) (i := 2) rfl rfl (by decide) (lv' := [(2, .int q3), (1, .int q2), (0, .ref (G.2 23))]) rfl dX2_turning_17 ?_
  refine jx_bipush (pc := 18) (v := (-5 : Int32)) (by decide) dX2_turning_18 ?_
  refine jx_istore_n (pc := 20) (i := 3) rfl rfl (by decide) (lv' := [(3, .int (-5 : Int32)), (2, .int q3), (1, .int q2), (0, .ref (G.2 23))]) rfl dX2_turning_20 ?_
  refine jx_aload_n (pc := 21) (k0 := 0) rfl dX2_turning_21 ?_
  refine ll_gnight_canal (pc := 22) fl_X2_36 dX2_turning_22 ?_
  refine ll_gnow_voters (pc := 25) fl_X2_74 dX2_turning_25 ?_
  refine jx_iconst (pc := 28) (v := (1 : Int32)) (by decide) dX2_turning_28 ?_
  refine jx_iadd (pc := 29) dX2_turning_29 ?_
  obtain ⟨x4, ex4, h⟩ := jx_lt_o h
  refine jx_istore (pc := 30) (i := 4) ex4 (by decide) (lv' := [(4, .int x4), (3, .int (-5 : Int32)), (2, .int q3), (1, .int q2), (0, .ref (G.2 23))]) rfl dX2_turning_30 ?_
  refine jx_iconst (pc := 32) (v := (1 : Int32)) (by decide) dX2_turning_32 ?_
  refine jx_istore (pc := 33) (i := 5) rfl (by decide) (lv' := [(5, .int (1 : Int32)), (4, .int x4), (3, .int (-5 : Int32)), (2, .int q3), (1, .int q2), (0, .ref (G.2 23))]) rfl dX2_turning_33 ?_
  exact jx_sub [5, 4, 3, 2, 1, 0] rfl (jb_X2_turning_35 l G t hG sz out jx_fuel q1 q2 q3 (-5 : Int32) x4 (1 : Int32) h)
theorem dX2_swayed_0 : decode cX2_swayed 0 = .ok (.aload_n 0, 1) := by decide +kernel
theorem dX2_swayed_1 : decode cX2_swayed 1 = .ok (.invokevirtual 103, 3) := by decide +kernel
theorem dX2_swayed_4 : decode cX2_swayed 4 = .ok (.iconst 0, 1) := by decide +kernel
theorem dX2_swayed_5 : decode cX2_swayed 5 = .ok (.istore_n 2, 1) := by decide +kernel
theorem dX2_swayed_6 : decode cX2_swayed 6 = .ok (.iconst 0, 1) := by decide +kernel
theorem dX2_swayed_7 : decode cX2_swayed 7 = .ok (.istore_n 3, 1) := by decide +kernel
theorem dX2_swayed_8 : decode cX2_swayed 8 = .ok (.iload_n 3, 1) := by decide +kernel
theorem dX2_swayed_9 : decode cX2_swayed 9 = .ok (.iconst 1, 1) := by decide +kernel
theorem dX2_swayed_10 : decode cX2_swayed 10 = .ok (.aload_n 0, 1) := by decide +kernel
theorem dX2_swayed_11 : decode cX2_swayed 11 = .ok (.getfield 36, 3) := by decide +kernel
theorem dX2_swayed_14 : decode cX2_swayed 14 = .ok (.getfield 74, 3) := by decide +kernel
theorem dX2_swayed_17 : decode cX2_swayed 17 = .ok (.ishl, 1) := by decide +kernel
theorem dX2_swayed_18 : decode cX2_swayed 18 = .ok (.if_icmp .ge 29, 3) := by decide +kernel
theorem dX2_swayed_21 : decode cX2_swayed 21 = .ok (.aload_n 0, 1) := by decide +kernel
theorem dX2_swayed_22 : decode cX2_swayed 22 = .ok (.iload_n 3, 1) := by decide +kernel
theorem dX2_swayed_23 : decode cX2_swayed 23 = .ok (.invokevirtual 106, 3) := by decide +kernel
theorem dX2_swayed_26 : decode cX2_swayed 26 = .ok (.aload_n 0, 1) := by decide +kernel
theorem dX2_swayed_27 : decode cX2_swayed 27 = .ok (.iload_n 3, 1) := by decide +kernel
theorem dX2_swayed_28 : decode cX2_swayed 28 = .ok (.iconst 1, 1) := by decide +kernel
theorem dX2_swayed_29 : decode cX2_swayed 29 = .ok (.iload_n 1, 1) := by decide +kernel
theorem dX2_swayed_30 : decode cX2_swayed 30 = .ok (.ishl, 1) := by decide +kernel
theorem dX2_swayed_31 : decode cX2_swayed 31 = .ok (.ixor, 1) := by decide +kernel
theorem dX2_swayed_32 : decode cX2_swayed 32 = .ok (.invokevirtual 106, 3) := by decide +kernel
theorem dX2_swayed_35 : decode cX2_swayed 35 = .ok (.if_icmp .eq 6, 3) := by decide +kernel
theorem dX2_swayed_38 : decode cX2_swayed 38 = .ok (.iinc 2 1, 3) := by decide +kernel
theorem dX2_swayed_41 : decode cX2_swayed 41 = .ok (.iinc 3 1, 3) := by decide +kernel
theorem dX2_swayed_44 : decode cX2_swayed 44 = .ok (.goto (-36), 3) := by decide +kernel
theorem dX2_swayed_47 : decode cX2_swayed 47 = .ok (.iload_n 2, 1) := by decide +kernel
theorem dX2_swayed_48 : decode cX2_swayed 48 = .ok (.ireturn, 1) := by decide +kernel
abbrev rm_X2_swayed : Room := { frames := 5, cells := 0, slots := 0, locals := 116 }
abbrev jJ_X2_swayed (l : Launch) (G : jx_G) (t : jx_T) (sz : Nat) (out : (Int32 × jx_M)) (pc : Nat) (lv : List (Nat × Value)) (st : List Value) (σ : jx_M) : Prop := jx_J l (ll_env G t) (ll_dyn G t) (ll_rg G) sz RX2 "swayed" cX2_swayed 4 (some .int) rm_X2_swayed (fun below args s => MQ below (jx_Qi (ll_dyn G t) out.2 out.1 (jx_A (ll_rg G) sz)) args s 0 0 (jx_A (ll_rg G) sz)) 0 0 pc lv st σ
def b_X2_swayed_41 (t : jx_T) (k8 : jx_M → Int32 → Int32 → Int32 → Option (Int32 × jx_M)) (σ : jx_M) (v1 : Int32) (v2 : Int32) (v3 : Int32) : Option (Int32 × jx_M) :=
  jx_lt (v3 + (1 : Int32)) (fun x1 => (k8 σ v1 v2 x1))
set_option maxHeartbeats 4000000 in
set_option maxRecDepth 100000 in
theorem jb_X2_swayed_41 (l : Launch) (G : jx_G) (t : jx_T) (hG : ll_ok G) (sz : Nat) (out : (Int32 × jx_M)) (k8 : jx_M → Int32 → Int32 → Int32 → Option (Int32 × jx_M)) (h8 : ∀ (σ : jx_M) (v1 : Int32) (v2 : Int32) (v3 : Int32), k8 σ v1 v2 v3 = some out → jJ_X2_swayed l G t sz out 8 [(0, .ref (G.2 23)), (1, .int v1), (2, .int v2), (3, .int v3)] [] σ) (σ : jx_M) (v1 : Int32) (v2 : Int32) (v3 : Int32) (h : b_X2_swayed_41 t k8 σ v1 v2 v3 = some out) : jJ_X2_swayed l G t sz out 41 [(0, .ref (G.2 23)), (1, .int v1), (2, .int v2), (3, .int v3)] [] σ := by
  unfold b_X2_swayed_41 at h
  obtain ⟨x1, ex1, h⟩ := jx_lt_o h
  refine jx_iinc (pc := 41) (i := 3) (v := v3) rfl ex1 (n := 1) (by decide) (by decide) (lv' := [(3, .int x1), (0, .ref (G.2 23)), (1, .int v1), (2, .int v2)]) rfl dX2_swayed_41 ?_
  refine jx_goto (pc := 44) (tgt := 8) dX2_swayed_44 (by decide) ?_
  exact jx_sub [1, 2, 3, 0] rfl (h8 σ v1 v2 x1 h)
def g_X2_swayed_8 (t : jx_T) (k8 : jx_M → Int32 → Int32 → Int32 → Option (Int32 × jx_M)) (σ : jx_M) (v1 : Int32) (v2 : Int32) (v3 : Int32) : Option (Int32 × jx_M) :=
  if ((1 : Int32) <<< ((σ 0 2) &&& 31)) ≤ v3 then some (v2, σ) else jx_bd (f_X2_mayor t σ v3) (fun q2 => jx_bd (f_X2_mayor t σ (v3 ^^^ ((1 : Int32) <<< (v1 &&& 31)))) (fun q3 => if q2 = q3 then (b_X2_swayed_41 t k8 σ v1 v2 v3) else jx_lt (v2 + (1 : Int32)) (fun x5 => (b_X2_swayed_41 t k8 σ v1 x5 v3))))
set_option maxHeartbeats 4000000 in
set_option maxRecDepth 100000 in
theorem jg_X2_swayed_8 (l : Launch) (G : jx_G) (t : jx_T) (hG : ll_ok G) (sz : Nat) (out : (Int32 × jx_M)) (k8 : jx_M → Int32 → Int32 → Int32 → Option (Int32 × jx_M)) (h8 : ∀ (σ : jx_M) (v1 : Int32) (v2 : Int32) (v3 : Int32), k8 σ v1 v2 v3 = some out → jJ_X2_swayed l G t sz out 8 [(0, .ref (G.2 23)), (1, .int v1), (2, .int v2), (3, .int v3)] [] σ) (σ : jx_M) (v1 : Int32) (v2 : Int32) (v3 : Int32) (h : g_X2_swayed_8 t k8 σ v1 v2 v3 = some out) : jJ_X2_swayed l G t sz out 8 [(0, .ref (G.2 23)), (1, .int v1), (2, .int v2), (3, .int v3)] [] σ := by
  unfold g_X2_swayed_8 at h
  refine jx_iload_n (pc := 8) (k0 := 3) rfl dX2_swayed_8 ?_
  refine jx_iconst (pc := 9) (v := (1 : Int32)) (by decide) dX2_swayed_9 ?_
  refine jx_aload_n (pc := 10) (k0 := 0) rfl dX2_swayed_10 ?_
  refine ll_gnight_canal (pc := 11) fl_X2_36 dX2_swayed_11 ?_
  refine ll_gnow_voters (pc := 14) fl_X2_74 dX2_swayed_14 ?_
  refine jx_ishl (pc := 17) dX2_swayed_17 ?_
  refine jx_icmp_ge (pc := 18) (tgt := 47) dX2_swayed_18 (by decide) (fun c1 => ?_) (fun c1 => ?_)
  · have h := jx_t c1 h
    refine jx_iload_n (pc := 47) (k0 := 2) rfl dX2_swayed_47 ?_
    cases h
    exact jx_iret (pc := 48) dX2_swayed_48
  · have h := jx_f c1 h
    refine jx_aload_n (pc := 21) (k0 := 0) rfl dX2_swayed_21 ?_
    refine jx_iload_n (pc := 22) (k0 := 3) rfl dX2_swayed_22 ?_
    obtain ⟨q2, eq2, h⟩ := jx_bd_o h
    refine jx_callVi (pc := 23) [.int v3] (fun sz' => k_X2_mayor l G t hG sz' σ v3 q2 eq2) kv_X2_106 ll_jok ll_rcnight rfl rfl (Nat.le_of_ble_eq_true rfl) ⟨⟨rfl, rfl⟩, ⟨Nat.le_of_ble_eq_true rfl, Nat.le_of_ble_eq_true rfl⟩, Nat.zero_le _, Nat.zero_le _⟩ dX2_swayed_23 ?_
    refine jx_aload_n (pc := 26) (k0 := 0) rfl dX2_swayed_26 ?_
    refine jx_iload_n (pc := 27) (k0 := 3) rfl dX2_swayed_27 ?_
    refine jx_iconst (pc := 28) (v := (1 : Int32)) (by decide) dX2_swayed_28 ?_
    refine jx_iload_n (pc := 29) (k0 := 1) rfl dX2_swayed_29 ?_
    refine jx_ishl (pc := 30) dX2_swayed_30 ?_
    refine jx_ixor (pc := 31) dX2_swayed_31 ?_
    obtain ⟨q3, eq3, h⟩ := jx_bd_o h
    refine jx_callVi (pc := 32) [.int (v3 ^^^ ((1 : Int32) <<< (v1 &&& 31)))] (fun sz' => k_X2_mayor l G t hG sz' σ (v3 ^^^ ((1 : Int32) <<< (v1 &&& 31))) q3 eq3) kv_X2_106 ll_jok ll_rcnight rfl rfl (Nat.le_of_ble_eq_true rfl) ⟨⟨rfl, rfl⟩, ⟨Nat.le_of_ble_eq_true rfl, Nat.le_of_ble_eq_true rfl⟩, Nat.zero_le _, Nat.zero_le _⟩ dX2_swayed_32 ?_
    refine jx_icmp_eq (pc := 35) (tgt := 41) dX2_swayed_35 (by decide) (fun c4 => ?_) (fun c4 => ?_)
    · have h := jx_t c4 h
      exact jx_sub [0, 1, 2, 3] rfl (jb_X2_swayed_41 l G t hG sz out k8 h8 σ v1 v2 v3 h)
    · have h := jx_f c4 h
      obtain ⟨x5, ex5, h⟩ := jx_lt_o h
      refine jx_iinc (pc := 38) (i := 2) (v := v2) rfl ex5 (n := 1) (by decide) (by decide) (lv' := [(2, .int x5), (0, .ref (G.2 23)), (1, .int v1), (3, .int v3)]) rfl dX2_swayed_38 ?_
      exact jx_sub [1, 2, 0, 3] rfl (jb_X2_swayed_41 l G t hG sz out k8 h8 σ v1 x5 v3 h)
def b_X2_swayed_8 (t : jx_T)  : Nat → jx_M → Int32 → Int32 → Int32 → Option (Int32 × jx_M)
  | 0, _, _, _, _ => none
  | n + 1, σ, v1, v2, v3 => g_X2_swayed_8 t (b_X2_swayed_8 t n) σ v1 v2 v3
theorem jb_X2_swayed_8 (l : Launch) (G : jx_G) (t : jx_T) (hG : ll_ok G) (sz : Nat) (out : (Int32 × jx_M))  : ∀ (n : Nat) (σ : jx_M) (v1 : Int32) (v2 : Int32) (v3 : Int32), b_X2_swayed_8 t n σ v1 v2 v3 = some out → jJ_X2_swayed l G t sz out 8 [(0, .ref (G.2 23)), (1, .int v1), (2, .int v2), (3, .int v3)] [] σ := by
  intro n
  induction n with
  | zero =>
    intro σ v1 v2 v3 h
    cases h
  | succ n ih =>
    intro σ v1 v2 v3 h
    exact jg_X2_swayed_8 l G t hG sz out (b_X2_swayed_8 t n) ih σ v1 v2 v3 h
def f_X2_swayed (t : jx_T) (σ : jx_M) (a1 : Int32) : Option (Int32 × jx_M) :=
  jx_bd (f_X2_pass t σ) (fun q1 => (b_X2_swayed_8 t jx_fuel q1 a1 (0 : Int32) (0 : Int32)))
set_option maxHeartbeats 4000000 in
set_option maxRecDepth 100000 in
theorem k_X2_swayed (l : Launch) (G : jx_G) (t : jx_T) (hG : ll_ok G) (sz : Nat) (σ : jx_M) (a1 : Int32) (out : (Int32 × jx_M)) (h : f_X2_swayed t σ a1 = some out) : Met l yX2_swayed (Cond.code yX2_swayed cX2_swayed 4 (some .int) :: jx_ws) rm_X2_swayed (jx_Pc (ll_env G t) (ll_dyn G t) (ll_rg G) sz σ [.ref (G.2 23), .int a1]) (jx_Qi (ll_dyn G t) out.2 out.1 (jx_A (ll_rg G) sz)) 0 0 (jx_A (ll_rg G) sz) := by
  unfold f_X2_swayed at h
  refine jx_met (by decide) (Nat.le_of_ble_eq_true rfl) ?_
  refine jx_sub (lv' := [(0, .ref (G.2 23)), (1, .int a1)]) [0, 1] rfl ?_
  refine jx_aload_n (pc := 0) (k0 := 0) rfl dX2_swayed_0 ?_
  obtain ⟨q1, eq1, h⟩ := jx_bd_o h
  refine jx_callVv (pc := 1) [] (fun sz' => k_X2_pass l G t hG sz' σ q1 eq1) kv_X2_103 ll_jok ll_rcnight rfl rfl (Nat.le_of_ble_eq_true rfl) ⟨⟨rfl, rfl⟩, ⟨Nat.le_of_ble_eq_true rfl, Nat.le_of_ble_eq_true rfl⟩, Nat.zero_le _, Nat.zero_le _⟩ dX2_swayed_1 ?_
  refine jx_iconst (pc := 4) (v := (0 : Int32)) (by decide) dX2_swayed_4 ?_
  refine jx_istore_n (pc := 5) (i := 2) rfl rfl (by decide) (lv' := [(2, .int (0 : Int32)), (0, .ref (G.2 23)), (1, .int a1)]) rfl dX2_swayed_5 ?_
  refine jx_iconst (pc := 6) (v := (0 : Int32)) (by decide) dX2_swayed_6 ?_
  refine jx_istore_n (pc := 7) (i := 3) rfl rfl (by decide) (lv' := [(3, .int (0 : Int32)), (2, .int (0 : Int32)), (0, .ref (G.2 23)), (1, .int a1)]) rfl dX2_swayed_7 ?_
  exact jx_sub [2, 3, 1, 0] rfl (jb_X2_swayed_8 l G t hG sz out jx_fuel q1 a1 (0 : Int32) (0 : Int32) h)
theorem dX2_firstOf_0 : decode cX2_firstOf 0 = .ok (.iconst 0, 1) := by decide +kernel
theorem dX2_firstOf_1 : decode cX2_firstOf 1 = .ok (.istore_n 3, 1) := by decide +kernel
theorem dX2_firstOf_2 : decode cX2_firstOf 2 = .ok (.ldc 114, 2) := by decide +kernel
theorem dX2_firstOf_4 : decode cX2_firstOf 4 = .ok (.istore 4, 2) := by decide +kernel
theorem dX2_firstOf_6 : decode cX2_firstOf 6 = .ok (.iconst 0, 1) := by decide +kernel
theorem dX2_firstOf_7 : decode cX2_firstOf 7 = .ok (.istore 5, 2) := by decide +kernel
theorem dX2_firstOf_9 : decode cX2_firstOf 9 = .ok (.iload 5, 2) := by decide +kernel
theorem dX2_firstOf_11 : decode cX2_firstOf 11 = .ok (.aload_n 0, 1) := by decide +kernel
theorem dX2_firstOf_12 : decode cX2_firstOf 12 = .ok (.getfield 36, 3) := by decide +kernel
theorem dX2_firstOf_15 : decode cX2_firstOf 15 = .ok (.getfield 40, 3) := by decide +kernel
theorem dX2_firstOf_18 : decode cX2_firstOf 18 = .ok (.if_icmp .ge 33, 3) := by decide +kernel
theorem dX2_firstOf_21 : decode cX2_firstOf 21 = .ok (.aload_n 0, 1) := by decide +kernel
theorem dX2_firstOf_22 : decode cX2_firstOf 22 = .ok (.iload_n 1, 1) := by decide +kernel
theorem dX2_firstOf_23 : decode cX2_firstOf 23 = .ok (.iload 5, 2) := by decide +kernel
theorem dX2_firstOf_25 : decode cX2_firstOf 25 = .ok (.iload_n 2, 1) := by decide +kernel
theorem dX2_firstOf_26 : decode cX2_firstOf 26 = .ok (.invokevirtual 121, 3) := by decide +kernel
theorem dX2_firstOf_29 : decode cX2_firstOf 29 = .ok (.istore 6, 2) := by decide +kernel
theorem dX2_firstOf_31 : decode cX2_firstOf 31 = .ok (.iload 6, 2) := by decide +kernel
theorem dX2_firstOf_33 : decode cX2_firstOf 33 = .ok (.iload 4, 2) := by decide +kernel
theorem dX2_firstOf_35 : decode cX2_firstOf 35 = .ok (.if_icmp .le 10, 3) := by decide +kernel
theorem dX2_firstOf_38 : decode cX2_firstOf 38 = .ok (.iload 6, 2) := by decide +kernel
theorem dX2_firstOf_40 : decode cX2_firstOf 40 = .ok (.istore 4, 2) := by decide +kernel
theorem dX2_firstOf_42 : decode cX2_firstOf 42 = .ok (.iload 5, 2) := by decide +kernel
theorem dX2_firstOf_44 : decode cX2_firstOf 44 = .ok (.istore_n 3, 1) := by decide +kernel
theorem dX2_firstOf_45 : decode cX2_firstOf 45 = .ok (.iinc 5 1, 3) := by decide +kernel
theorem dX2_firstOf_48 : decode cX2_firstOf 48 = .ok (.goto (-39), 3) := by decide +kernel
theorem dX2_firstOf_51 : decode cX2_firstOf 51 = .ok (.iload_n 3, 1) := by decide +kernel
theorem dX2_firstOf_52 : decode cX2_firstOf 52 = .ok (.ireturn, 1) := by decide +kernel
abbrev rm_X2_firstOf : Room := { frames := 5, cells := 0, slots := 0, locals := 117 }
abbrev jJ_X2_firstOf (l : Launch) (G : jx_G) (t : jx_T) (sz : Nat) (out : (Int32 × jx_M)) (pc : Nat) (lv : List (Nat × Value)) (st : List Value) (σ : jx_M) : Prop := jx_J l (ll_env G t) (ll_dyn G t) (ll_rg G) sz RX2 "firstOf" cX2_firstOf 7 (some .int) rm_X2_firstOf (fun below args s => MQ below (jx_Qi (ll_dyn G t) out.2 out.1 (jx_A (ll_rg G) sz)) args s 0 0 (jx_A (ll_rg G) sz)) 0 0 pc lv st σ
def b_X2_firstOf_45 (t : jx_T) (k9 : jx_M → Int32 → Int32 → Int32 → Int32 → Int32 → Option (Int32 × jx_M)) (σ : jx_M) (v1 : Int32) (v2 : Int32) (v3 : Int32) (v4 : Int32) (v5 : Int32) : Option (Int32 × jx_M) :=
  jx_lt (v5 + (1 : Int32)) (fun x1 => (k9 σ v1 v2 v3 v4 x1))
set_option maxHeartbeats 4000000 in
set_option maxRecDepth 100000 in
theorem jb_X2_firstOf_45 (l : Launch) (G : jx_G) (t : jx_T) (hG : ll_ok G) (sz : Nat) (out : (Int32 × jx_M)) (k9 : jx_M → Int32 → Int32 → Int32 → Int32 → Int32 → Option (Int32 × jx_M)) (h9 : ∀ (σ : jx_M) (v1 : Int32) (v2 : Int32) (v3 : Int32) (v4 : Int32) (v5 : Int32), k9 σ v1 v2 v3 v4 v5 = some out → jJ_X2_firstOf l G t sz out 9 [(0, .ref (G.2 23)), (1, .int v1), (2, .int v2), (3, .int v3), (4, .int v4), (5, .int v5)] [] σ) (σ : jx_M) (v1 : Int32) (v2 : Int32) (v3 : Int32) (v4 : Int32) (v5 : Int32) (h : b_X2_firstOf_45 t k9 σ v1 v2 v3 v4 v5 = some out) : jJ_X2_firstOf l G t sz out 45 [(0, .ref (G.2 23)), (1, .int v1), (2, .int v2), (3, .int v3), (4, .int v4), (5, .int v5)] [] σ := by
  unfold b_X2_firstOf_45 at h
  obtain ⟨x1, ex1, h⟩ := jx_lt_o h
  refine jx_iinc (pc := 45) (i := 5) (v := v5) rfl ex1 (n := 1) (by decide) (by decide) (lv' := [(5, .int x1), (0, .ref (G.2 23)), (1, .int v1), (2, .int v2), (3, .int v3), (4, .int v4)]) rfl dX2_firstOf_45 ?_
  refine jx_goto (pc := 48) (tgt := 9) dX2_firstOf_48 (by decide) ?_
  exact jx_sub [1, 2, 3, 4, 5, 0] rfl (h9 σ v1 v2 v3 v4 x1 h)
def g_X2_firstOf_9 (t : jx_T) (k9 : jx_M → Int32 → Int32 → Int32 → Int32 → Int32 → Option (Int32 × jx_M)) (σ : jx_M) (v1 : Int32) (v2 : Int32) (v3 : Int32) (v4 : Int32) (v5 : Int32) : Option (Int32 × jx_M) :=
  if (σ 0 0) ≤ v5 then some (v3, σ) else jx_bd (f_X2_leadBehind t σ v1 v5 v2) (fun q2 => if q2.1 ≤ v4 then (b_X2_firstOf_45 t k9 q2.2 v1 v2 v3 v4 v5) else (b_X2_firstOf_45 t k9 q2.2 v1 v2 v5 q2.1 v5))
set_option maxHeartbeats 4000000 in
set_option maxRecDepth 100000 in
theorem jg_X2_firstOf_9 (l : Launch) (G : jx_G) (t : jx_T) (hG : ll_ok G) (sz : Nat) (out : (Int32 × jx_M)) (k9 : jx_M → Int32 → Int32 → Int32 → Int32 → Int32 → Option (Int32 × jx_M)) (h9 : ∀ (σ : jx_M) (v1 : Int32) (v2 : Int32) (v3 : Int32) (v4 : Int32) (v5 : Int32), k9 σ v1 v2 v3 v4 v5 = some out → jJ_X2_firstOf l G t sz out 9 [(0, .ref (G.2 23)), (1, .int v1), (2, .int v2), (3, .int v3), (4, .int v4), (5, .int v5)] [] σ) (σ : jx_M) (v1 : Int32) (v2 : Int32) (v3 : Int32) (v4 : Int32) (v5 : Int32) (h : g_X2_firstOf_9 t k9 σ v1 v2 v3 v4 v5 = some out) : jJ_X2_firstOf l G t sz out 9 [(0, .ref (G.2 23)), (1, .int v1), (2, .int v2), (3, .int v3), (4, .int v4), (5, .int v5)] [] σ := by
  unfold g_X2_firstOf_9 at h
  refine jx_iload (pc := 9) (i := 5) rfl dX2_firstOf_9 ?_
  refine jx_aload_n (pc := 11) (k0 := 0) rfl dX2_firstOf_11 ?_
  refine ll_gnight_canal (pc := 12) fl_X2_36 dX2_firstOf_12 ?_
  refine ll_gnow_places (pc := 15) fl_X2_40 dX2_firstOf_15 ?_
  refine jx_icmp_ge (pc := 18) (tgt := 51) dX2_firstOf_18 (by decide) (fun c1 => ?_) (fun c1 => ?_)
  · have h := jx_t c1 h
    refine jx_iload_n (pc := 51) (k0 := 3) rfl dX2_firstOf_51 ?_
    cases h
    exact jx_iret (pc := 52) dX2_firstOf_52
  · have h := jx_f c1 h
    refine jx_aload_n (pc := 21) (k0 := 0) rfl dX2_firstOf_21 ?_
    refine jx_iload_n (pc := 22) (k0 := 1) rfl dX2_firstOf_22 ?_
    refine jx_iload (pc := 23) (i := 5) rfl dX2_firstOf_23 ?_
    refine jx_iload_n (pc := 25) (k0 := 2) rfl dX2_firstOf_25 ?_
    obtain ⟨q2, eq2, h⟩ := jx_bd_o h
    refine jx_callVi (pc := 26) [.int v1, .int v5, .int v2] (fun sz' => k_X2_leadBehind l G t hG sz' σ v1 v5 v2 q2 eq2) kv_X2_121 ll_jok ll_rcnight rfl rfl (Nat.le_of_ble_eq_true rfl) ⟨⟨rfl, rfl⟩, ⟨Nat.le_of_ble_eq_true rfl, Nat.le_of_ble_eq_true rfl⟩, Nat.zero_le _, Nat.zero_le _⟩ dX2_firstOf_26 ?_
    refine jx_istore (pc := 29) (i := 6) rfl (by decide) (lv' := [(6, .int q2.1), (0, .ref (G.2 23)), (1, .int v1), (2, .int v2), (3, .int v3), (4, .int v4), (5, .int v5)]) rfl dX2_firstOf_29 ?_
    refine jx_iload (pc := 31) (i := 6) rfl dX2_firstOf_31 ?_
    refine jx_iload (pc := 33) (i := 4) rfl dX2_firstOf_33 ?_
    refine jx_icmp_le (pc := 35) (tgt := 45) dX2_firstOf_35 (by decide) (fun c3 => ?_) (fun c3 => ?_)
    · have h := jx_t c3 h
      exact jx_sub [1, 2, 3, 4, 5, 6] rfl (jb_X2_firstOf_45 l G t hG sz out k9 h9 q2.2 v1 v2 v3 v4 v5 h)
    · have h := jx_f c3 h
      refine jx_iload (pc := 38) (i := 6) rfl dX2_firstOf_38 ?_
      refine jx_istore (pc := 40) (i := 4) rfl (by decide) (lv' := [(4, .int q2.1), (6, .int q2.1), (0, .ref (G.2 23)), (1, .int v1), (2, .int v2), (3, .int v3), (5, .int v5)]) rfl dX2_firstOf_40 ?_
      refine jx_iload (pc := 42) (i := 5) rfl dX2_firstOf_42 ?_
      refine jx_istore_n (pc := 44) (i := 3) rfl rfl (by decide) (lv' := [(3, .int v5), (4, .int q2.1), (6, .int q2.1), (0, .ref (G.2 23)), (1, .int v1), (2, .int v2), (5, .int v5)]) rfl dX2_firstOf_44 ?_
      exact jx_sub [3, 4, 5, 0, 1, 6] rfl (jb_X2_firstOf_45 l G t hG sz out k9 h9 q2.2 v1 v2 v5 q2.1 v5 h)
def b_X2_firstOf_9 (t : jx_T)  : Nat → jx_M → Int32 → Int32 → Int32 → Int32 → Int32 → Option (Int32 × jx_M)
  | 0, _, _, _, _, _, _ => none
  | n + 1, σ, v1, v2, v3, v4, v5 => g_X2_firstOf_9 t (b_X2_firstOf_9 t n) σ v1 v2 v3 v4 v5
theorem jb_X2_firstOf_9 (l : Launch) (G : jx_G) (t : jx_T) (hG : ll_ok G) (sz : Nat) (out : (Int32 × jx_M))  : ∀ (n : Nat) (σ : jx_M) (v1 : Int32) (v2 : Int32) (v3 : Int32) (v4 : Int32) (v5 : Int32), b_X2_firstOf_9 t n σ v1 v2 v3 v4 v5 = some out → jJ_X2_firstOf l G t sz out 9 [(0, .ref (G.2 23)), (1, .int v1), (2, .int v2), (3, .int v3), (4, .int v4), (5, .int v5)] [] σ := by
  intro n
  induction n with
  | zero =>
    intro σ v1 v2 v3 v4 v5 h
    cases h
  | succ n ih =>
    intro σ v1 v2 v3 v4 v5 h
    exact jg_X2_firstOf_9 l G t hG sz out (b_X2_firstOf_9 t n) ih σ v1 v2 v3 v4 v5 h
def f_X2_firstOf (t : jx_T) (σ : jx_M) (a1 : Int32) (a2 : Int32) : Option (Int32 × jx_M) :=
  (b_X2_firstOf_9 t jx_fuel σ a1 a2 (0 : Int32) (-2147483648 : Int32) (0 : Int32))
set_option maxHeartbeats 4000000 in
set_option maxRecDepth 100000 in
theorem k_X2_firstOf (l : Launch) (G : jx_G) (t : jx_T) (hG : ll_ok G) (sz : Nat) (σ : jx_M) (a1 : Int32) (a2 : Int32) (out : (Int32 × jx_M)) (h : f_X2_firstOf t σ a1 a2 = some out) : Met l yX2_firstOf (Cond.code yX2_firstOf cX2_firstOf 7 (some .int) :: jx_ws) rm_X2_firstOf (jx_Pc (ll_env G t) (ll_dyn G t) (ll_rg G) sz σ [.ref (G.2 23), .int a1, .int a2]) (jx_Qi (ll_dyn G t) out.2 out.1 (jx_A (ll_rg G) sz)) 0 0 (jx_A (ll_rg G) sz) := by
  unfold f_X2_firstOf at h
  refine jx_met (by decide) (Nat.le_of_ble_eq_true rfl) ?_
  refine jx_sub (lv' := [(0, .ref (G.2 23)), (1, .int a1), (2, .int a2)]) [0, 1, 2] rfl ?_
  refine jx_iconst (pc := 0) (v := (0 : Int32)) (by decide) dX2_firstOf_0 ?_
  refine jx_istore_n (pc := 1) (i := 3) rfl rfl (by decide) (lv' := [(3, .int (0 : Int32)), (0, .ref (G.2 23)), (1, .int a1), (2, .int a2)]) rfl dX2_firstOf_1 ?_
  refine jx_ldc (pc := 2) cn_X2_114 dX2_firstOf_2 ?_
  refine jx_istore (pc := 4) (i := 4) rfl (by decide) (lv' := [(4, .int (-2147483648 : Int32)), (3, .int (0 : Int32)), (0, .ref (G.2 23)), (1, .int a1), (2, .int a2)]) rfl dX2_firstOf_4 ?_
  refine jx_iconst (pc := 6) (v := (0 : Int32)) (by decide) dX2_firstOf_6 ?_
  refine jx_istore (pc := 7) (i := 5) rfl (by decide) (lv' := [(5, .int (0 : Int32)), (4, .int (-2147483648 : Int32)), (3, .int (0 : Int32)), (0, .ref (G.2 23)), (1, .int a1), (2, .int a2)]) rfl dX2_firstOf_7 ?_
  exact jx_sub [3, 4, 5, 2, 1, 0] rfl (jb_X2_firstOf_9 l G t hG sz out jx_fuel σ a1 a2 (0 : Int32) (-2147483648 : Int32) (0 : Int32) h)
theorem dX2_fitting_0 : decode cX2_fitting 0 = .ok (.aload_n 0, 1) := by decide +kernel
theorem dX2_fitting_1 : decode cX2_fitting 1 = .ok (.invokevirtual 103, 3) := by decide +kernel
theorem dX2_fitting_4 : decode cX2_fitting 4 = .ok (.iconst 0, 1) := by decide +kernel
theorem dX2_fitting_5 : decode cX2_fitting 5 = .ok (.istore_n 2, 1) := by decide +kernel
theorem dX2_fitting_6 : decode cX2_fitting 6 = .ok (.iconst 0, 1) := by decide +kernel
theorem dX2_fitting_7 : decode cX2_fitting 7 = .ok (.istore_n 3, 1) := by decide +kernel
theorem dX2_fitting_8 : decode cX2_fitting 8 = .ok (.iload_n 3, 1) := by decide +kernel
theorem dX2_fitting_9 : decode cX2_fitting 9 = .ok (.aload_n 0, 1) := by decide +kernel
theorem dX2_fitting_10 : decode cX2_fitting 10 = .ok (.getfield 36, 3) := by decide +kernel
theorem dX2_fitting_13 : decode cX2_fitting 13 = .ok (.getfield 40, 3) := by decide +kernel
theorem dX2_fitting_16 : decode cX2_fitting 16 = .ok (.if_icmp .ge 32, 3) := by decide +kernel
theorem dX2_fitting_19 : decode cX2_fitting 19 = .ok (.aload_n 0, 1) := by decide +kernel
theorem dX2_fitting_20 : decode cX2_fitting 20 = .ok (.iload_n 1, 1) := by decide +kernel
theorem dX2_fitting_21 : decode cX2_fitting 21 = .ok (.iload_n 3, 1) := by decide +kernel
theorem dX2_fitting_22 : decode cX2_fitting 22 = .ok (.invokevirtual 80, 3) := by decide +kernel
theorem dX2_fitting_25 : decode cX2_fitting 25 = .ok (.aload_n 0, 1) := by decide +kernel
theorem dX2_fitting_26 : decode cX2_fitting 26 = .ok (.invokevirtual 130, 3) := by decide +kernel
theorem dX2_fitting_29 : decode cX2_fitting 29 = .ok (.aload_n 0, 1) := by decide +kernel
theorem dX2_fitting_30 : decode cX2_fitting 30 = .ok (.invokevirtual 133, 3) := by decide +kernel
theorem dX2_fitting_33 : decode cX2_fitting 33 = .ok (.ifCond .eq 9, 3) := by decide +kernel
theorem dX2_fitting_36 : decode cX2_fitting 36 = .ok (.iload_n 2, 1) := by decide +kernel
theorem dX2_fitting_37 : decode cX2_fitting 37 = .ok (.iconst 1, 1) := by decide +kernel
theorem dX2_fitting_38 : decode cX2_fitting 38 = .ok (.iload_n 3, 1) := by decide +kernel
theorem dX2_fitting_39 : decode cX2_fitting 39 = .ok (.ishl, 1) := by decide +kernel
theorem dX2_fitting_40 : decode cX2_fitting 40 = .ok (.ior, 1) := by decide +kernel
theorem dX2_fitting_41 : decode cX2_fitting 41 = .ok (.istore_n 2, 1) := by decide +kernel
theorem dX2_fitting_42 : decode cX2_fitting 42 = .ok (.iinc 3 1, 3) := by decide +kernel
theorem dX2_fitting_45 : decode cX2_fitting 45 = .ok (.goto (-37), 3) := by decide +kernel
theorem dX2_fitting_48 : decode cX2_fitting 48 = .ok (.iload_n 2, 1) := by decide +kernel
theorem dX2_fitting_49 : decode cX2_fitting 49 = .ok (.ireturn, 1) := by decide +kernel
abbrev rm_X2_fitting : Room := { frames := 5, cells := 0, slots := 0, locals := 116 }
abbrev jJ_X2_fitting (l : Launch) (G : jx_G) (t : jx_T) (sz : Nat) (out : (Int32 × jx_M)) (pc : Nat) (lv : List (Nat × Value)) (st : List Value) (σ : jx_M) : Prop := jx_J l (ll_env G t) (ll_dyn G t) (ll_rg G) sz RX2 "fitting" cX2_fitting 4 (some .int) rm_X2_fitting (fun below args s => MQ below (jx_Qi (ll_dyn G t) out.2 out.1 (jx_A (ll_rg G) sz)) args s 0 0 (jx_A (ll_rg G) sz)) 0 0 pc lv st σ
def b_X2_fitting_42 (t : jx_T) (k8 : jx_M → Int32 → Int32 → Int32 → Option (Int32 × jx_M)) (σ : jx_M) (v1 : Int32) (v2 : Int32) (v3 : Int32) : Option (Int32 × jx_M) :=
  jx_lt (v3 + (1 : Int32)) (fun x1 => (k8 σ v1 v2 x1))
set_option maxHeartbeats 4000000 in
set_option maxRecDepth 100000 in
theorem jb_X2_fitting_42 (l : Launch) (G : jx_G) (t : jx_T) (hG : ll_ok G) (sz : Nat) (out : (Int32 × jx_M)) (k8 : jx_M → Int32 → Int32 → Int32 → Option (Int32 × jx_M)) (h8 : ∀ (σ : jx_M) (v1 : Int32) (v2 : Int32) (v3 : Int32), k8 σ v1 v2 v3 = some out → jJ_X2_fitting l G t sz out 8 [(0, .ref (G.2 23)), (1, .int v1), (2, .int v2), (3, .int v3)] [] σ) (σ : jx_M) (v1 : Int32) (v2 : Int32) (v3 : Int32) (h : b_X2_fitting_42 t k8 σ v1 v2 v3 = some out) : jJ_X2_fitting l G t sz out 42 [(0, .ref (G.2 23)), (1, .int v1), (2, .int v2), (3, .int v3)] [] σ := by
  unfold b_X2_fitting_42 at h
  obtain ⟨x1, ex1, h⟩ := jx_lt_o h
  refine jx_iinc (pc := 42) (i := 3) (v := v3) rfl ex1 (n := 1) (by decide) (by decide) (lv' := [(3, .int x1), (0, .ref (G.2 23)), (1, .int v1), (2, .int v2)]) rfl dX2_fitting_42 ?_
  refine jx_goto (pc := 45) (tgt := 8) dX2_fitting_45 (by decide) ?_
  exact jx_sub [1, 2, 3, 0] rfl (h8 σ v1 v2 x1 h)
def g_X2_fitting_8 (t : jx_T) (k8 : jx_M → Int32 → Int32 → Int32 → Option (Int32 × jx_M)) (σ : jx_M) (v1 : Int32) (v2 : Int32) (v3 : Int32) : Option (Int32 × jx_M) :=
  if (σ 0 0) ≤ v3 then some (v2, σ) else jx_bd (f_X2_light t σ v1 v3) (fun q2 => jx_bd (f_X2_countLamps t q2) (fun q3 => jx_bd (f_X2_isAsSeen t q3) (fun q4 => if q4 = 0 then (b_X2_fitting_42 t k8 q3 v1 v2 v3) else jx_lt ((v2 ||| ((1 : Int32) <<< (v3 &&& 31)))) (fun x6 => (b_X2_fitting_42 t k8 q3 v1 x6 v3)))))
set_option maxHeartbeats 4000000 in
set_option maxRecDepth 100000 in
theorem jg_X2_fitting_8 (l : Launch) (G : jx_G) (t : jx_T) (hG : ll_ok G) (sz : Nat) (out : (Int32 × jx_M)) (k8 : jx_M → Int32 → Int32 → Int32 → Option (Int32 × jx_M)) (h8 : ∀ (σ : jx_M) (v1 : Int32) (v2 : Int32) (v3 : Int32), k8 σ v1 v2 v3 = some out → jJ_X2_fitting l G t sz out 8 [(0, .ref (G.2 23)), (1, .int v1), (2, .int v2), (3, .int v3)] [] σ) (σ : jx_M) (v1 : Int32) (v2 : Int32) (v3 : Int32) (h : g_X2_fitting_8 t k8 σ v1 v2 v3 = some out) : jJ_X2_fitting l G t sz out 8 [(0, .ref (G.2 23)), (1, .int v1), (2, .int v2), (3, .int v3)] [] σ := by
  unfold g_X2_fitting_8 at h
  refine jx_iload_n (pc := 8) (k0 := 3) rfl dX2_fitting_8 ?_
  refine jx_aload_n (pc := 9) (k0 := 0) rfl dX2_fitting_9 ?_
  refine ll_gnight_canal (pc := 10) fl_X2_36 dX2_fitting_10 ?_
  refine ll_gnow_places (pc := 13) fl_X2_40 dX2_fitting_13 ?_
  refine jx_icmp_ge (pc := 16) (tgt := 48) dX2_fitting_16 (by decide) (fun c1 => ?_) (fun c1 => ?_)
  · have h := jx_t c1 h
    refine jx_iload_n (pc := 48) (k0 := 2) rfl dX2_fitting_48 ?_
    cases h
    exact jx_iret (pc := 49) dX2_fitting_49
  · have h := jx_f c1 h
    refine jx_aload_n (pc := 19) (k0 := 0) rfl dX2_fitting_19 ?_
    refine jx_iload_n (pc := 20) (k0 := 1) rfl dX2_fitting_20 ?_
    refine jx_iload_n (pc := 21) (k0 := 3) rfl dX2_fitting_21 ?_
    obtain ⟨q2, eq2, h⟩ := jx_bd_o h
    refine jx_callVv (pc := 22) [.int v1, .int v3] (fun sz' => k_X2_light l G t hG sz' σ v1 v3 q2 eq2) kv_X2_80 ll_jok ll_rcnight rfl rfl (Nat.le_of_ble_eq_true rfl) ⟨⟨rfl, rfl⟩, ⟨Nat.le_of_ble_eq_true rfl, Nat.le_of_ble_eq_true rfl⟩, Nat.zero_le _, Nat.zero_le _⟩ dX2_fitting_22 ?_
    refine jx_aload_n (pc := 25) (k0 := 0) rfl dX2_fitting_25 ?_
    obtain ⟨q3, eq3, h⟩ := jx_bd_o h
    refine jx_callVv (pc := 26) [] (fun sz' => k_X2_countLamps l G t hG sz' q2 q3 eq3) kv_X2_130 ll_jok ll_rcnight rfl rfl (Nat.le_of_ble_eq_true rfl) ⟨⟨rfl, rfl⟩, ⟨Nat.le_of_ble_eq_true rfl, Nat.le_of_ble_eq_true rfl⟩, Nat.zero_le _, Nat.zero_le _⟩ dX2_fitting_26 ?_
    refine jx_aload_n (pc := 29) (k0 := 0) rfl dX2_fitting_29 ?_
    obtain ⟨q4, eq4, h⟩ := jx_bd_o h
    refine jx_callVi (pc := 30) [] (fun sz' => k_X2_isAsSeen l G t hG sz' q3 q4 eq4) kv_X2_133 ll_jok ll_rcnight rfl rfl (Nat.le_of_ble_eq_true rfl) ⟨⟨rfl, rfl⟩, ⟨Nat.le_of_ble_eq_true rfl, Nat.le_of_ble_eq_true rfl⟩, Nat.zero_le _, Nat.zero_le _⟩ dX2_fitting_30 ?_
    refine jx_if_eq (pc := 33) (tgt := 42) dX2_fitting_33 (by decide) (fun c5 => ?_) (fun c5 => ?_)
    · have h := jx_t c5 h
      exact jx_sub [0, 1, 2, 3] rfl (jb_X2_fitting_42 l G t hG sz out k8 h8 q3 v1 v2 v3 h)
    · have h := jx_f c5 h
      refine jx_iload_n (pc := 36) (k0 := 2) rfl dX2_fitting_36 ?_
      refine jx_iconst (pc := 37) (v := (1 : Int32)) (by decide) dX2_fitting_37 ?_
      refine jx_iload_n (pc := 38) (k0 := 3) rfl dX2_fitting_38 ?_
      refine jx_ishl (pc := 39) dX2_fitting_39 ?_
      refine jx_ior (pc := 40) dX2_fitting_40 ?_
      obtain ⟨x6, ex6, h⟩ := jx_lt_o h
      refine jx_istore_n (pc := 41) (i := 2) rfl ex6 (by decide) (lv' := [(2, .int x6), (0, .ref (G.2 23)), (1, .int v1), (3, .int v3)]) rfl dX2_fitting_41 ?_
      exact jx_sub [1, 2, 0, 3] rfl (jb_X2_fitting_42 l G t hG sz out k8 h8 q3 v1 x6 v3 h)
def b_X2_fitting_8 (t : jx_T)  : Nat → jx_M → Int32 → Int32 → Int32 → Option (Int32 × jx_M)
  | 0, _, _, _, _ => none
  | n + 1, σ, v1, v2, v3 => g_X2_fitting_8 t (b_X2_fitting_8 t n) σ v1 v2 v3
theorem jb_X2_fitting_8 (l : Launch) (G : jx_G) (t : jx_T) (hG : ll_ok G) (sz : Nat) (out : (Int32 × jx_M))  : ∀ (n : Nat) (σ : jx_M) (v1 : Int32) (v2 : Int32) (v3 : Int32), b_X2_fitting_8 t n σ v1 v2 v3 = some out → jJ_X2_fitting l G t sz out 8 [(0, .ref (G.2 23)), (1, .int v1), (2, .int v2), (3, .int v3)] [] σ := by
  intro n
  induction n with
  | zero =>
    intro σ v1 v2 v3 h
    cases h
  | succ n ih =>
    intro σ v1 v2 v3 h
    exact jg_X2_fitting_8 l G t hG sz out (b_X2_fitting_8 t n) ih σ v1 v2 v3 h
def f_X2_fitting (t : jx_T) (σ : jx_M) (a1 : Int32) : Option (Int32 × jx_M) :=
  jx_bd (f_X2_pass t σ) (fun q1 => (b_X2_fitting_8 t jx_fuel q1 a1 (0 : Int32) (0 : Int32)))
set_option maxHeartbeats 4000000 in
set_option maxRecDepth 100000 in
theorem k_X2_fitting (l : Launch) (G : jx_G) (t : jx_T) (hG : ll_ok G) (sz : Nat) (σ : jx_M) (a1 : Int32) (out : (Int32 × jx_M)) (h : f_X2_fitting t σ a1 = some out) : Met l yX2_fitting (Cond.code yX2_fitting cX2_fitting 4 (some .int) :: jx_ws) rm_X2_fitting (jx_Pc (ll_env G t) (ll_dyn G t) (ll_rg G) sz σ [.ref (G.2 23), .int a1]) (jx_Qi (ll_dyn G t) out.2 out.1 (jx_A (ll_rg G) sz)) 0 0 (jx_A (ll_rg G) sz) := by
  unfold f_X2_fitting at h
  refine jx_met (by decide) (Nat.le_of_ble_eq_true rfl) ?_
  refine jx_sub (lv' := [(0, .ref (G.2 23)), (1, .int a1)]) [0, 1] rfl ?_
  refine jx_aload_n (pc := 0) (k0 := 0) rfl dX2_fitting_0 ?_
  obtain ⟨q1, eq1, h⟩ := jx_bd_o h
  refine jx_callVv (pc := 1) [] (fun sz' => k_X2_pass l G t hG sz' σ q1 eq1) kv_X2_103 ll_jok ll_rcnight rfl rfl (Nat.le_of_ble_eq_true rfl) ⟨⟨rfl, rfl⟩, ⟨Nat.le_of_ble_eq_true rfl, Nat.le_of_ble_eq_true rfl⟩, Nat.zero_le _, Nat.zero_le _⟩ dX2_fitting_1 ?_
  refine jx_iconst (pc := 4) (v := (0 : Int32)) (by decide) dX2_fitting_4 ?_
  refine jx_istore_n (pc := 5) (i := 2) rfl rfl (by decide) (lv' := [(2, .int (0 : Int32)), (0, .ref (G.2 23)), (1, .int a1)]) rfl dX2_fitting_5 ?_
  refine jx_iconst (pc := 6) (v := (0 : Int32)) (by decide) dX2_fitting_6 ?_
  refine jx_istore_n (pc := 7) (i := 3) rfl rfl (by decide) (lv' := [(3, .int (0 : Int32)), (2, .int (0 : Int32)), (0, .ref (G.2 23)), (1, .int a1)]) rfl dX2_fitting_7 ?_
  exact jx_sub [2, 3, 1, 0] rfl (jb_X2_fitting_8 l G t hG sz out jx_fuel q1 a1 (0 : Int32) (0 : Int32) h)
theorem dX5_vote_0 : decode cX5_vote 0 = .ok (.iload_n 1, 1) := by decide +kernel
theorem dX5_vote_1 : decode cX5_vote 1 = .ok (.iconst 0, 1) := by decide +kernel
theorem dX5_vote_2 : decode cX5_vote 2 = .ok (.iconst 2, 1) := by decide +kernel
theorem dX5_vote_3 : decode cX5_vote 3 = .ok (.invokestatic 48, 3) := by decide +kernel
theorem dX5_vote_6 : decode cX5_vote 6 = .ok (.ifCond .ne 5, 3) := by decide +kernel
theorem dX5_vote_9 : decode cX5_vote 9 = .ok (.iconst (-1), 1) := by decide +kernel
theorem dX5_vote_10 : decode cX5_vote 10 = .ok (.ireturn, 1) := by decide +kernel
theorem dX5_vote_11 : decode cX5_vote 11 = .ok (.aload_n 0, 1) := by decide +kernel
theorem dX5_vote_12 : decode cX5_vote 12 = .ok (.getfield 26, 3) := by decide +kernel
theorem dX5_vote_15 : decode cX5_vote 15 = .ok (.invokevirtual 135, 3) := by decide +kernel
theorem dX5_vote_18 : decode cX5_vote 18 = .ok (.iload_n 1, 1) := by decide +kernel
theorem dX5_vote_19 : decode cX5_vote 19 = .ok (.iconst 2, 1) := by decide +kernel
theorem dX5_vote_20 : decode cX5_vote 20 = .ok (.if_icmp .ne 20, 3) := by decide +kernel
theorem dX5_vote_23 : decode cX5_vote 23 = .ok (.aload_n 0, 1) := by decide +kernel
theorem dX5_vote_24 : decode cX5_vote 24 = .ok (.getfield 26, 3) := by decide +kernel
theorem dX5_vote_27 : decode cX5_vote 27 = .ok (.aload_n 0, 1) := by decide +kernel
theorem dX5_vote_28 : decode cX5_vote 28 = .ok (.getfield 12, 3) := by decide +kernel
theorem dX5_vote_31 : decode cX5_vote 31 = .ok (.invokevirtual 138, 3) := by decide +kernel
theorem dX5_vote_34 : decode cX5_vote 34 = .ok (.invokevirtual 142, 3) := by decide +kernel
theorem dX5_vote_37 : decode cX5_vote 37 = .ok (.goto 11, 3) := by decide +kernel
theorem dX5_vote_40 : decode cX5_vote 40 = .ok (.aload_n 0, 1) := by decide +kernel
theorem dX5_vote_41 : decode cX5_vote 41 = .ok (.getfield 26, 3) := by decide +kernel
theorem dX5_vote_44 : decode cX5_vote 44 = .ok (.iload_n 1, 1) := by decide +kernel
theorem dX5_vote_45 : decode cX5_vote 45 = .ok (.invokevirtual 145, 3) := by decide +kernel
theorem dX5_vote_48 : decode cX5_vote 48 = .ok (.ireturn, 1) := by decide +kernel
abbrev rm_X5_vote : Room := { frames := 5, cells := 0, slots := 0, locals := 116 }
abbrev jJ_X5_vote (l : Launch) (G : jx_G) (t : jx_T) (sz : Nat) (out : (Int32 × jx_M)) (pc : Nat) (lv : List (Nat × Value)) (st : List Value) (σ : jx_M) : Prop := jx_J l (ll_env G t) (ll_dyn G t) (ll_rg G) sz RX5 "vote" cX5_vote 2 (some .int) rm_X5_vote (fun below args s => MQ below (jx_Qi (ll_dyn G t) out.2 out.1 (jx_A (ll_rg G) sz)) args s 0 0 (jx_A (ll_rg G) sz)) 0 0 pc lv st σ
def f_X5_vote (t : jx_T) (σ : jx_M) (a1 : Int32) : Option (Int32 × jx_M) :=
  jx_bd (f_X5_within a1 (0 : Int32) (2 : Int32)) (fun q1 => if q1 = 0 then some ((-1 : Int32), σ) else jx_bd (f_X2_pass t σ) (fun q3 => if a1 = (2 : Int32) then jx_bd (f_X1_wishes t q3) (fun q6 => jx_bd (f_X2_mayor t q3 q6) (fun q7 => some (q7, q3))) else jx_bd (f_X2_votes t q3 a1) (fun q5 => some (q5, q3))))
set_option maxHeartbeats 4000000 in
set_option maxRecDepth 100000 in
theorem k_X5_vote (l : Launch) (G : jx_G) (t : jx_T) (hG : ll_ok G) (sz : Nat) (σ : jx_M) (a1 : Int32) (out : (Int32 × jx_M)) (h : f_X5_vote t σ a1 = some out) : Met l yX5_vote (Cond.code yX5_vote cX5_vote 2 (some .int) :: jx_ws) rm_X5_vote (jx_Pc (ll_env G t) (ll_dyn G t) (ll_rg G) sz σ [.ref (G.2 20), .int a1]) (jx_Qi (ll_dyn G t) out.2 out.1 (jx_A (ll_rg G) sz)) 0 0 (jx_A (ll_rg G) sz) := by
  unfold f_X5_vote at h
  refine jx_met (by decide) (Nat.le_of_ble_eq_true rfl) ?_
  refine jx_sub (lv' := [(0, .ref (G.2 20)), (1, .int a1)]) [0, 1] rfl ?_
  refine jx_iload_n (pc := 0) (k0 := 1) rfl dX5_vote_0 ?_
  refine jx_iconst (pc := 1) (v := (0 : Int32)) (by decide) dX5_vote_1 ?_
  refine jx_iconst (pc := 2) (v := (2 : Int32)) (by decide) dX5_vote_2 ?_
  obtain ⟨q1, eq1, h⟩ := jx_bd_o h
  refine jx_callSi (pc := 3) [.int a1, .int (0 : Int32), .int (2 : Int32)] (fun sz' => k_X5_within l G t hG sz' σ a1 (0 : Int32) (2 : Int32) q1 eq1) ks_X5_48 ll_jok rfl rfl (Nat.le_of_ble_eq_true rfl) ⟨⟨rfl, rfl⟩, ⟨Nat.le_of_ble_eq_true rfl, Nat.le_of_ble_eq_true rfl⟩, Nat.zero_le _, Nat.zero_le _⟩ dX5_vote_3 ?_
  refine jx_if_ne (pc := 6) (tgt := 11) dX5_vote_6 (by decide) (fun c2 => ?_) (fun c2 => ?_)
  · have h := jx_f c2 h
    refine jx_aload_n (pc := 11) (k0 := 0) rfl dX5_vote_11 ?_
    refine ll_glamp_night (pc := 12) fl_X5_26 dX5_vote_12 ?_
    obtain ⟨q3, eq3, h⟩ := jx_bd_o h
    refine jx_callVv (pc := 15) [] (fun sz' => k_X2_pass l G t hG sz' σ q3 eq3) kv_X5_135 ll_jok ll_rcnight rfl rfl (Nat.le_of_ble_eq_true rfl) ⟨⟨rfl, rfl⟩, ⟨Nat.le_of_ble_eq_true rfl, Nat.le_of_ble_eq_true rfl⟩, Nat.zero_le _, Nat.zero_le _⟩ dX5_vote_15 ?_
    refine jx_iload_n (pc := 18) (k0 := 1) rfl dX5_vote_18 ?_
    refine jx_iconst (pc := 19) (v := (2 : Int32)) (by decide) dX5_vote_19 ?_
    refine jx_icmp_ne (pc := 20) (tgt := 40) dX5_vote_20 (by decide) (fun c4 => ?_) (fun c4 => ?_)
    · have h := jx_f c4 h
      refine jx_aload_n (pc := 40) (k0 := 0) rfl dX5_vote_40 ?_
      refine ll_glamp_night (pc := 41) fl_X5_26 dX5_vote_41 ?_
      refine jx_iload_n (pc := 44) (k0 := 1) rfl dX5_vote_44 ?_
      obtain ⟨q5, eq5, h⟩ := jx_bd_o h
      refine jx_callVi (pc := 45) [.int a1] (fun sz' => k_X2_votes l G t hG sz' q3 a1 q5 eq5) kv_X5_145 ll_jok ll_rcnight rfl rfl (Nat.le_of_ble_eq_true rfl) ⟨⟨rfl, rfl⟩, ⟨Nat.le_of_ble_eq_true rfl, Nat.le_of_ble_eq_true rfl⟩, Nat.zero_le _, Nat.zero_le _⟩ dX5_vote_45 ?_
      cases h
      exact jx_iret (pc := 48) dX5_vote_48
    · have h := jx_t c4 h
      refine jx_aload_n (pc := 23) (k0 := 0) rfl dX5_vote_23 ?_
      refine ll_glamp_night (pc := 24) fl_X5_26 dX5_vote_24 ?_
      refine jx_aload_n (pc := 27) (k0 := 0) rfl dX5_vote_27 ?_
      refine ll_glamp_now (pc := 28) fl_X5_12 dX5_vote_28 ?_
      obtain ⟨q6, eq6, h⟩ := jx_bd_o h
      refine jx_callVi (pc := 31) [] (fun sz' => k_X1_wishes l G t hG sz' q3 q6 eq6) kv_X5_138 ll_jok ll_rcnow rfl rfl (Nat.le_of_ble_eq_true rfl) ⟨⟨rfl, rfl⟩, ⟨Nat.le_of_ble_eq_true rfl, Nat.le_of_ble_eq_true rfl⟩, Nat.zero_le _, Nat.zero_le _⟩ dX5_vote_31 ?_
      obtain ⟨q7, eq7, h⟩ := jx_bd_o h
      refine jx_callVi (pc := 34) [.int q6] (fun sz' => k_X2_mayor l G t hG sz' q3 q6 q7 eq7) kv_X5_142 ll_jok ll_rcnight rfl rfl (Nat.le_of_ble_eq_true rfl) ⟨⟨rfl, rfl⟩, ⟨Nat.le_of_ble_eq_true rfl, Nat.le_of_ble_eq_true rfl⟩, Nat.zero_le _, Nat.zero_le _⟩ dX5_vote_34 ?_
      refine jx_goto (pc := 37) (tgt := 48) dX5_vote_37 (by decide) ?_
      cases h
      exact jx_iret (pc := 48) dX5_vote_48
  · have h := jx_t c2 h
    refine jx_iconst (pc := 9) (v := (-1 : Int32)) (by decide) dX5_vote_9 ?_
    cases h
    exact jx_iret (pc := 10) dX5_vote_10
theorem dX5_lies_0 : decode cX5_lies 0 = .ok (.aload_n 0, 1) := by decide +kernel
theorem dX5_lies_1 : decode cX5_lies 1 = .ok (.getfield 12, 3) := by decide +kernel
theorem dX5_lies_4 : decode cX5_lies 4 = .ok (.iload_n 1, 1) := by decide +kernel
theorem dX5_lies_5 : decode cX5_lies 5 = .ok (.invokevirtual 119, 3) := by decide +kernel
theorem dX5_lies_8 : decode cX5_lies 8 = .ok (.ifCond .eq 12, 3) := by decide +kernel
theorem dX5_lies_11 : decode cX5_lies 11 = .ok (.iload_n 2, 1) := by decide +kernel
theorem dX5_lies_12 : decode cX5_lies 12 = .ok (.iconst 0, 1) := by decide +kernel
theorem dX5_lies_13 : decode cX5_lies 13 = .ok (.iconst 1, 1) := by decide +kernel
theorem dX5_lies_14 : decode cX5_lies 14 = .ok (.invokestatic 48, 3) := by decide +kernel
theorem dX5_lies_17 : decode cX5_lies 17 = .ok (.ifCond .ne 5, 3) := by decide +kernel
theorem dX5_lies_20 : decode cX5_lies 20 = .ok (.iconst (-1), 1) := by decide +kernel
theorem dX5_lies_21 : decode cX5_lies 21 = .ok (.ireturn, 1) := by decide +kernel
theorem dX5_lies_22 : decode cX5_lies 22 = .ok (.aload_n 0, 1) := by decide +kernel
theorem dX5_lies_23 : decode cX5_lies 23 = .ok (.getfield 26, 3) := by decide +kernel
theorem dX5_lies_26 : decode cX5_lies 26 = .ok (.invokevirtual 135, 3) := by decide +kernel
theorem dX5_lies_29 : decode cX5_lies 29 = .ok (.iload_n 2, 1) := by decide +kernel
theorem dX5_lies_30 : decode cX5_lies 30 = .ok (.ifCond .ne 13, 3) := by decide +kernel
theorem dX5_lies_33 : decode cX5_lies 33 = .ok (.aload_n 0, 1) := by decide +kernel
theorem dX5_lies_34 : decode cX5_lies 34 = .ok (.getfield 26, 3) := by decide +kernel
theorem dX5_lies_37 : decode cX5_lies 37 = .ok (.getfield 148, 3) := by decide +kernel
theorem dX5_lies_40 : decode cX5_lies 40 = .ok (.iload_n 1, 1) := by decide +kernel
theorem dX5_lies_41 : decode cX5_lies 41 = .ok (.iaload, 1) := by decide +kernel
theorem dX5_lies_42 : decode cX5_lies 42 = .ok (.ireturn, 1) := by decide +kernel
theorem dX5_lies_43 : decode cX5_lies 43 = .ok (.aload_n 0, 1) := by decide +kernel
theorem dX5_lies_44 : decode cX5_lies 44 = .ok (.getfield 26, 3) := by decide +kernel
theorem dX5_lies_47 : decode cX5_lies 47 = .ok (.getfield 151, 3) := by decide +kernel
theorem dX5_lies_50 : decode cX5_lies 50 = .ok (.iload_n 1, 1) := by decide +kernel
theorem dX5_lies_51 : decode cX5_lies 51 = .ok (.iaload, 1) := by decide +kernel
theorem dX5_lies_52 : decode cX5_lies 52 = .ok (.ifCond .le 7, 3) := by decide +kernel
theorem dX5_lies_55 : decode cX5_lies 55 = .ok (.iconst 1, 1) := by decide +kernel
theorem dX5_lies_56 : decode cX5_lies 56 = .ok (.goto 4, 3) := by decide +kernel
theorem dX5_lies_59 : decode cX5_lies 59 = .ok (.iconst 0, 1) := by decide +kernel
theorem dX5_lies_60 : decode cX5_lies 60 = .ok (.ireturn, 1) := by decide +kernel
abbrev rm_X5_lies : Room := { frames := 5, cells := 0, slots := 0, locals := 116 }
abbrev jJ_X5_lies (l : Launch) (G : jx_G) (t : jx_T) (sz : Nat) (out : (Int32 × jx_M)) (pc : Nat) (lv : List (Nat × Value)) (st : List Value) (σ : jx_M) : Prop := jx_J l (ll_env G t) (ll_dyn G t) (ll_rg G) sz RX5 "lies" cX5_lies 3 (some .int) rm_X5_lies (fun below args s => MQ below (jx_Qi (ll_dyn G t) out.2 out.1 (jx_A (ll_rg G) sz)) args s 0 0 (jx_A (ll_rg G) sz)) 0 0 pc lv st σ
def f_X5_lies (t : jx_T) (σ : jx_M) (a1 : Int32) (a2 : Int32) : Option (Int32 × jx_M) :=
  jx_bd (f_X1_hasVoter t σ a1) (fun q1 => if q1 = 0 then some ((-1 : Int32), σ) else jx_bd (f_X5_within a2 (0 : Int32) (1 : Int32)) (fun q3 => if q3 = 0 then some ((-1 : Int32), σ) else jx_bd (f_X2_pass t σ) (fun q5 => if a2 = 0 then jx_gd (jx_in a1 6) (some ((q5 58 a1.toNatClampNeg), q5)) else jx_gd (jx_in a1 6) (if (q5 59 a1.toNatClampNeg) ≤ 0 then some ((0 : Int32), q5) else some ((1 : Int32), q5)))))
set_option maxHeartbeats 4000000 in
set_option maxRecDepth 100000 in
theorem k_X5_lies (l : Launch) (G : jx_G) (t : jx_T) (hG : ll_ok G) (sz : Nat) (σ : jx_M) (a1 : Int32) (a2 : Int32) (out : (Int32 × jx_M)) (h : f_X5_lies t σ a1 a2 = some out) : Met l yX5_lies (Cond.code yX5_lies cX5_lies 3 (some .int) :: jx_ws) rm_X5_lies (jx_Pc (ll_env G t) (ll_dyn G t) (ll_rg G) sz σ [.ref (G.2 20), .int a1, .int a2]) (jx_Qi (ll_dyn G t) out.2 out.1 (jx_A (ll_rg G) sz)) 0 0 (jx_A (ll_rg G) sz) := by
  unfold f_X5_lies at h
  refine jx_met (by decide) (Nat.le_of_ble_eq_true rfl) ?_
  refine jx_sub (lv' := [(0, .ref (G.2 20)), (1, .int a1), (2, .int a2)]) [0, 1, 2] rfl ?_
  refine jx_aload_n (pc := 0) (k0 := 0) rfl dX5_lies_0 ?_
  refine ll_glamp_now (pc := 1) fl_X5_12 dX5_lies_1 ?_
  refine jx_iload_n (pc := 4) (k0 := 1) rfl dX5_lies_4 ?_
  obtain ⟨q1, eq1, h⟩ := jx_bd_o h
  refine jx_callVi (pc := 5) [.int a1] (fun sz' => k_X1_hasVoter l G t hG sz' σ a1 q1 eq1) kv_X5_119 ll_jok ll_rcnow rfl rfl (Nat.le_of_ble_eq_true rfl) ⟨⟨rfl, rfl⟩, ⟨Nat.le_of_ble_eq_true rfl, Nat.le_of_ble_eq_true rfl⟩, Nat.zero_le _, Nat.zero_le _⟩ dX5_lies_5 ?_
  refine jx_if_eq (pc := 8) (tgt := 20) dX5_lies_8 (by decide) (fun c2 => ?_) (fun c2 => ?_)
  · have h := jx_t c2 h
    refine jx_iconst (pc := 20) (v := (-1 : Int32)) (by decide) dX5_lies_20 ?_
    cases h
    exact jx_iret (pc := 21) dX5_lies_21
  · have h := jx_f c2 h
    refine jx_iload_n (pc := 11) (k0 := 2) rfl dX5_lies_11 ?_
    refine jx_iconst (pc := 12) (v := (0 : Int32)) (by decide) dX5_lies_12 ?_
    refine jx_iconst (pc := 13) (v := (1 : Int32)) (by decide) dX5_lies_13 ?_
    obtain ⟨q3, eq3, h⟩ := jx_bd_o h
    refine jx_callSi (pc := 14) [.int a2, .int (0 : Int32), .int (1 : Int32)] (fun sz' => k_X5_within l G t hG sz' σ a2 (0 : Int32) (1 : Int32) q3 eq3) ks_X5_48 ll_jok rfl rfl (Nat.le_of_ble_eq_true rfl) ⟨⟨rfl, rfl⟩, ⟨Nat.le_of_ble_eq_true rfl, Nat.le_of_ble_eq_true rfl⟩, Nat.zero_le _, Nat.zero_le _⟩ dX5_lies_14 ?_
    refine jx_if_ne (pc := 17) (tgt := 22) dX5_lies_17 (by decide) (fun c4 => ?_) (fun c4 => ?_)
    · have h := jx_f c4 h
      refine jx_aload_n (pc := 22) (k0 := 0) rfl dX5_lies_22 ?_
      refine ll_glamp_night (pc := 23) fl_X5_26 dX5_lies_23 ?_
      obtain ⟨q5, eq5, h⟩ := jx_bd_o h
      refine jx_callVv (pc := 26) [] (fun sz' => k_X2_pass l G t hG sz' σ q5 eq5) kv_X5_135 ll_jok ll_rcnight rfl rfl (Nat.le_of_ble_eq_true rfl) ⟨⟨rfl, rfl⟩, ⟨Nat.le_of_ble_eq_true rfl, Nat.le_of_ble_eq_true rfl⟩, Nat.zero_le _, Nat.zero_le _⟩ dX5_lies_26 ?_
      refine jx_iload_n (pc := 29) (k0 := 2) rfl dX5_lies_29 ?_
      refine jx_if_ne (pc := 30) (tgt := 43) dX5_lies_30 (by decide) (fun c6 => ?_) (fun c6 => ?_)
      · have h := jx_f c6 h
        refine jx_aload_n (pc := 43) (k0 := 0) rfl dX5_lies_43 ?_
        refine ll_glamp_night (pc := 44) fl_X5_26 dX5_lies_44 ?_
        refine ll_gnight_worth (pc := 47) fl_X5_151 dX5_lies_47 ?_
        refine jx_iload_n (pc := 50) (k0 := 1) rfl dX5_lies_50 ?_
        obtain ⟨g7, h⟩ := jx_gd_o h
        refine ll_l (pc := 51) (k := 59) (jx_in_o g7) rfl dX5_lies_51 ?_
        refine jx_if_le (pc := 52) (tgt := 59) dX5_lies_52 (by decide) (fun c8 => ?_) (fun c8 => ?_)
        · have h := jx_t c8 h
          refine jx_iconst (pc := 59) (v := (0 : Int32)) (by decide) dX5_lies_59 ?_
          cases h
          exact jx_iret (pc := 60) dX5_lies_60
        · have h := jx_f c8 h
          refine jx_iconst (pc := 55) (v := (1 : Int32)) (by decide) dX5_lies_55 ?_
          refine jx_goto (pc := 56) (tgt := 60) dX5_lies_56 (by decide) ?_
          cases h
          exact jx_iret (pc := 60) dX5_lies_60
      · have h := jx_t c6 h
        refine jx_aload_n (pc := 33) (k0 := 0) rfl dX5_lies_33 ?_
        refine ll_glamp_night (pc := 34) fl_X5_26 dX5_lies_34 ?_
        refine ll_gnight_lie (pc := 37) fl_X5_148 dX5_lies_37 ?_
        refine jx_iload_n (pc := 40) (k0 := 1) rfl dX5_lies_40 ?_
        obtain ⟨g9, h⟩ := jx_gd_o h
        refine ll_l (pc := 41) (k := 58) (jx_in_o g9) rfl dX5_lies_41 ?_
        cases h
        exact jx_iret (pc := 42) dX5_lies_42
    · have h := jx_t c4 h
      refine jx_iconst (pc := 20) (v := (-1 : Int32)) (by decide) dX5_lies_20 ?_
      cases h
      exact jx_iret (pc := 21) dX5_lies_21
