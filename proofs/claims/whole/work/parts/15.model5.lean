/-! the reference's methods: a function on the memory each, and its contract -/
theorem dX6_plain_0 : decode cX6_plain 0 = .ok (.aload_n 0, 1) := by decide +kernel
theorem dX6_plain_1 : decode cX6_plain 1 = .ok (.aload_n 2, 1) := by decide +kernel
theorem dX6_plain_2 : decode cX6_plain 2 = .ok (.invokevirtual 107, 3) := by decide +kernel
theorem dX6_plain_5 : decode cX6_plain 5 = .ok (.aload_n 0, 1) := by decide +kernel
theorem dX6_plain_6 : decode cX6_plain 6 = .ok (.invokevirtual 90, 3) := by decide +kernel
theorem dX6_plain_9 : decode cX6_plain 9 = .ok (.aload_n 0, 1) := by decide +kernel
theorem dX6_plain_10 : decode cX6_plain 10 = .ok (.iload_n 1, 1) := by decide +kernel
theorem dX6_plain_11 : decode cX6_plain 11 = .ok (.invokevirtual 87, 3) := by decide +kernel
theorem dX6_plain_14 : decode cX6_plain 14 = .ok (.return_, 1) := by decide +kernel
abbrev rm_X6_plain : Room := { frames := 43, cells := 0, slots := 0, locals := 920 }
abbrev jJ_X6_plain (l : Launch) (G : jx_G) (sz : Nat) (out : jx_M) (pc : Nat) (lv : List (Nat × Value)) (st : List Value) (σ : jx_M) : Prop := jx_J l (mm_env G) (mm_dyn G) (mm_rg G) sz RX6 "plain" cX6_plain 3 none rm_X6_plain (fun below args s => MQ below (jx_Qv (mm_dyn G) out (jx_A (mm_rg G) sz)) args s 0 0 (jx_A (mm_rg G) sz)) 0 0 pc lv st σ
def f_X6_plain (σ : jx_M) (a1 : Int32) (a2 : Nat) : Option jx_M :=
  jx_bd (f_X6_spells σ a2) (fun q1 => jx_bd (f_X6_some (f_X6_factor 8) q1) (fun q2 => jx_bd (f_X6_emits q2 a1) (fun q3 => some q3)))
set_option maxHeartbeats 4000000 in
set_option maxRecDepth 100000 in
theorem k_X6_plain (l : Launch) (G : jx_G) (hG : mm_ok G) (sz : Nat) (σ : jx_M) (a1 : Int32) (a2 : Nat) (out : jx_M) (h : f_X6_plain σ a1 a2 = some out) : Met l yX6_plain (Cond.code yX6_plain cX6_plain 3 none :: jx_ws) rm_X6_plain (jx_Pc (mm_env G) (mm_dyn G) (mm_rg G) sz σ [.ref (G.2 10), .int a1, .ref (G.2 (1000 + a2))]) (jx_Qv (mm_dyn G) out (jx_A (mm_rg G) sz)) 0 0 (jx_A (mm_rg G) sz) := by
  unfold f_X6_plain at h
  refine jx_met (by decide) (Nat.le_of_ble_eq_true rfl) ?_
  refine jx_sub (lv' := [(0, .ref (G.2 10)), (1, .int a1), (2, .ref (G.2 (1000 + a2)))]) [0, 1, 2] rfl ?_
  refine jx_aload_n (pc := 0) (k0 := 0) rfl dX6_plain_0 ?_
  refine jx_aload_n (pc := 1) (k0 := 2) rfl dX6_plain_1 ?_
  obtain ⟨q1, eq1, h⟩ := jx_bd_o h
  refine jx_callVv (pc := 2) [.ref (G.2 (1000 + a2))] (fun sz' => k_X6_spells l G hG sz' σ a2 q1 eq1) kv_X6_107 mm_jok mm_rc rfl rfl (Nat.le_of_ble_eq_true rfl) ⟨⟨rfl, rfl⟩, ⟨Nat.le_of_ble_eq_true rfl, Nat.le_of_ble_eq_true rfl⟩, Nat.zero_le _, Nat.zero_le _⟩ dX6_plain_2 ?_
  refine jx_aload_n (pc := 5) (k0 := 0) rfl dX6_plain_5 ?_
  obtain ⟨q2, eq2, h⟩ := jx_bd_o h
  refine jx_callVv (pc := 6) [] (fun sz' => k_X6_some l G hG (f_X6_factor 8) (5 * 8) (107 * 8) (k_X6_factor l G hG 8) sz' q1 q2 eq2) kv_X6_90 mm_jok mm_rc rfl rfl (Nat.le_of_ble_eq_true rfl) ⟨⟨rfl, rfl⟩, ⟨Nat.le_of_ble_eq_true rfl, Nat.le_of_ble_eq_true rfl⟩, Nat.zero_le _, Nat.zero_le _⟩ dX6_plain_6 ?_
  refine jx_aload_n (pc := 9) (k0 := 0) rfl dX6_plain_9 ?_
  refine jx_iload_n (pc := 10) (k0 := 1) rfl dX6_plain_10 ?_
  obtain ⟨q3, eq3, h⟩ := jx_bd_o h
  refine jx_callVv (pc := 11) [.int a1] (fun sz' => k_X6_emits l G hG sz' q2 a1 q3 eq3) kv_X6_87 mm_jok mm_rc rfl rfl (Nat.le_of_ble_eq_true rfl) ⟨⟨rfl, rfl⟩, ⟨Nat.le_of_ble_eq_true rfl, Nat.le_of_ble_eq_true rfl⟩, Nat.zero_le _, Nat.zero_le _⟩ dX6_plain_11 ?_
  have h := Option.some.inj h
  subst h
  exact jx_vret (pc := 14) dX6_plain_14
theorem dX6_much_0 : decode cX6_much 0 = .ok (.aload_n 0, 1) := by decide +kernel
theorem dX6_much_1 : decode cX6_much 1 = .ok (.aload_n 2, 1) := by decide +kernel
theorem dX6_much_2 : decode cX6_much 2 = .ok (.invokevirtual 107, 3) := by decide +kernel
theorem dX6_much_5 : decode cX6_much 5 = .ok (.aload_n 0, 1) := by decide +kernel
theorem dX6_much_6 : decode cX6_much 6 = .ok (.invokevirtual 101, 3) := by decide +kernel
theorem dX6_much_9 : decode cX6_much 9 = .ok (.istore_n 3, 1) := by decide +kernel
theorem dX6_much_10 : decode cX6_much 10 = .ok (.aload_n 0, 1) := by decide +kernel
theorem dX6_much_11 : decode cX6_much 11 = .ok (.bipush 32, 2) := by decide +kernel
theorem dX6_much_13 : decode cX6_much 13 = .ok (.invokevirtual 75, 3) := by decide +kernel
theorem dX6_much_16 : decode cX6_much 16 = .ok (.aload_n 0, 1) := by decide +kernel
theorem dX6_much_17 : decode cX6_much 17 = .ok (.invokevirtual 90, 3) := by decide +kernel
theorem dX6_much_20 : decode cX6_much 20 = .ok (.aload_n 0, 1) := by decide +kernel
theorem dX6_much_21 : decode cX6_much 21 = .ok (.iload_n 1, 1) := by decide +kernel
theorem dX6_much_22 : decode cX6_much 22 = .ok (.iload_n 3, 1) := by decide +kernel
theorem dX6_much_23 : decode cX6_much 23 = .ok (.isub, 1) := by decide +kernel
theorem dX6_much_24 : decode cX6_much 24 = .ok (.invokevirtual 87, 3) := by decide +kernel
theorem dX6_much_27 : decode cX6_much 27 = .ok (.return_, 1) := by decide +kernel
abbrev rm_X6_much : Room := { frames := 43, cells := 0, slots := 0, locals := 920 }
abbrev jJ_X6_much (l : Launch) (G : jx_G) (sz : Nat) (out : jx_M) (pc : Nat) (lv : List (Nat × Value)) (st : List Value) (σ : jx_M) : Prop := jx_J l (mm_env G) (mm_dyn G) (mm_rg G) sz RX6 "much" cX6_much 4 none rm_X6_much (fun below args s => MQ below (jx_Qv (mm_dyn G) out (jx_A (mm_rg G) sz)) args s 0 0 (jx_A (mm_rg G) sz)) 0 0 pc lv st σ
def f_X6_much (σ : jx_M) (a1 : Int32) (a2 : Nat) : Option jx_M :=
  jx_bd (f_X6_spells σ a2) (fun q1 => jx_bd (f_X6_figures q1) (fun q2 => jx_bd (f_X6_must q2.2 (32 : Int32)) (fun q3 => jx_bd (f_X6_some (f_X6_factor 8) q3) (fun q4 => jx_bd (f_X6_emits q4 (a1 - q2.1)) (fun q5 => some q5)))))
set_option maxHeartbeats 4000000 in
set_option maxRecDepth 100000 in
theorem k_X6_much (l : Launch) (G : jx_G) (hG : mm_ok G) (sz : Nat) (σ : jx_M) (a1 : Int32) (a2 : Nat) (out : jx_M) (h : f_X6_much σ a1 a2 = some out) : Met l yX6_much (Cond.code yX6_much cX6_much 4 none :: jx_ws) rm_X6_much (jx_Pc (mm_env G) (mm_dyn G) (mm_rg G) sz σ [.ref (G.2 10), .int a1, .ref (G.2 (1000 + a2))]) (jx_Qv (mm_dyn G) out (jx_A (mm_rg G) sz)) 0 0 (jx_A (mm_rg G) sz) := by
  unfold f_X6_much at h
  refine jx_met (by decide) (Nat.le_of_ble_eq_true rfl) ?_
  refine jx_sub (lv' := [(0, .ref (G.2 10)), (1, .int a1), (2, .ref (G.2 (1000 + a2)))]) [0, 1, 2] rfl ?_
  refine jx_aload_n (pc := 0) (k0 := 0) rfl dX6_much_0 ?_
  refine jx_aload_n (pc := 1) (k0 := 2) rfl dX6_much_1 ?_
  obtain ⟨q1, eq1, h⟩ := jx_bd_o h
  refine jx_callVv (pc := 2) [.ref (G.2 (1000 + a2))] (fun sz' => k_X6_spells l G hG sz' σ a2 q1 eq1) kv_X6_107 mm_jok mm_rc rfl rfl (Nat.le_of_ble_eq_true rfl) ⟨⟨rfl, rfl⟩, ⟨Nat.le_of_ble_eq_true rfl, Nat.le_of_ble_eq_true rfl⟩, Nat.zero_le _, Nat.zero_le _⟩ dX6_much_2 ?_
  refine jx_aload_n (pc := 5) (k0 := 0) rfl dX6_much_5 ?_
  obtain ⟨q2, eq2, h⟩ := jx_bd_o h
  refine jx_callVi (pc := 6) [] (fun sz' => k_X6_figures l G hG sz' q1 q2 eq2) kv_X6_101 mm_jok mm_rc rfl rfl (Nat.le_of_ble_eq_true rfl) ⟨⟨rfl, rfl⟩, ⟨Nat.le_of_ble_eq_true rfl, Nat.le_of_ble_eq_true rfl⟩, Nat.zero_le _, Nat.zero_le _⟩ dX6_much_6 ?_
  refine jx_istore_n (pc := 9) (i := 3) rfl rfl (by decide) (lv' := [(3, .int q2.1), (0, .ref (G.2 10)), (1, .int a1), (2, .ref (G.2 (1000 + a2)))]) rfl dX6_much_9 ?_
  refine jx_aload_n (pc := 10) (k0 := 0) rfl dX6_much_10 ?_
  refine jx_bipush (pc := 11) (v := (32 : Int32)) (by decide) dX6_much_11 ?_
  obtain ⟨q3, eq3, h⟩ := jx_bd_o h
  refine jx_callVv (pc := 13) [.int (32 : Int32)] (fun sz' => k_X6_must l G hG sz' q2.2 (32 : Int32) q3 eq3) kv_X6_75 mm_jok mm_rc rfl rfl (Nat.le_of_ble_eq_true rfl) ⟨⟨rfl, rfl⟩, ⟨Nat.le_of_ble_eq_true rfl, Nat.le_of_ble_eq_true rfl⟩, Nat.zero_le _, Nat.zero_le _⟩ dX6_much_13 ?_
  refine jx_aload_n (pc := 16) (k0 := 0) rfl dX6_much_16 ?_
  obtain ⟨q4, eq4, h⟩ := jx_bd_o h
  refine jx_callVv (pc := 17) [] (fun sz' => k_X6_some l G hG (f_X6_factor 8) (5 * 8) (107 * 8) (k_X6_factor l G hG 8) sz' q3 q4 eq4) kv_X6_90 mm_jok mm_rc rfl rfl (Nat.le_of_ble_eq_true rfl) ⟨⟨rfl, rfl⟩, ⟨Nat.le_of_ble_eq_true rfl, Nat.le_of_ble_eq_true rfl⟩, Nat.zero_le _, Nat.zero_le _⟩ dX6_much_17 ?_
  refine jx_aload_n (pc := 20) (k0 := 0) rfl dX6_much_20 ?_
  refine jx_iload_n (pc := 21) (k0 := 1) rfl dX6_much_21 ?_
  refine jx_iload_n (pc := 22) (k0 := 3) rfl dX6_much_22 ?_
  refine jx_isub (pc := 23) dX6_much_23 ?_
  obtain ⟨q5, eq5, h⟩ := jx_bd_o h
  refine jx_callVv (pc := 24) [.int (a1 - q2.1)] (fun sz' => k_X6_emits l G hG sz' q4 (a1 - q2.1) q5 eq5) kv_X6_87 mm_jok mm_rc rfl rfl (Nat.le_of_ble_eq_true rfl) ⟨⟨rfl, rfl⟩, ⟨Nat.le_of_ble_eq_true rfl, Nat.le_of_ble_eq_true rfl⟩, Nat.zero_le _, Nat.zero_le _⟩ dX6_much_24 ?_
  have h := Option.some.inj h
  subst h
  exact jx_vret (pc := 27) dX6_much_27
theorem dX6_lays_0 : decode cX6_lays 0 = .ok (.aload_n 0, 1) := by decide +kernel
theorem dX6_lays_1 : decode cX6_lays 1 = .ok (.getfield 31, 3) := by decide +kernel
theorem dX6_lays_4 : decode cX6_lays 4 = .ok (.iload_n 1, 1) := by decide +kernel
theorem dX6_lays_5 : decode cX6_lays 5 = .ok (.aload_n 0, 1) := by decide +kernel
theorem dX6_lays_6 : decode cX6_lays 6 = .ok (.iload_n 1, 1) := by decide +kernel
theorem dX6_lays_7 : decode cX6_lays 7 = .ok (.iload_n 2, 1) := by decide +kernel
theorem dX6_lays_8 : decode cX6_lays 8 = .ok (.bipush 12, 2) := by decide +kernel
theorem dX6_lays_10 : decode cX6_lays 10 = .ok (.invokevirtual 172, 3) := by decide +kernel
theorem dX6_lays_13 : decode cX6_lays 13 = .ok (.iastore, 1) := by decide +kernel
theorem dX6_lays_14 : decode cX6_lays 14 = .ok (.aload_n 0, 1) := by decide +kernel
theorem dX6_lays_15 : decode cX6_lays 15 = .ok (.getfield 34, 3) := by decide +kernel
theorem dX6_lays_18 : decode cX6_lays 18 = .ok (.iload_n 1, 1) := by decide +kernel
theorem dX6_lays_19 : decode cX6_lays 19 = .ok (.aload_n 0, 1) := by decide +kernel
theorem dX6_lays_20 : decode cX6_lays 20 = .ok (.getfield 9, 3) := by decide +kernel
theorem dX6_lays_23 : decode cX6_lays 23 = .ok (.bipush 31, 2) := by decide +kernel
theorem dX6_lays_25 : decode cX6_lays 25 = .ok (.iload_n 1, 1) := by decide +kernel
theorem dX6_lays_26 : decode cX6_lays 26 = .ok (.iadd, 1) := by decide +kernel
theorem dX6_lays_27 : decode cX6_lays 27 = .ok (.iaload, 1) := by decide +kernel
theorem dX6_lays_28 : decode cX6_lays 28 = .ok (.bipush 6, 2) := by decide +kernel
theorem dX6_lays_30 : decode cX6_lays 30 = .ok (.if_icmp .eq 20, 3) := by decide +kernel
theorem dX6_lays_33 : decode cX6_lays 33 = .ok (.aload_n 0, 1) := by decide +kernel
theorem dX6_lays_34 : decode cX6_lays 34 = .ok (.iload_n 1, 1) := by decide +kernel
theorem dX6_lays_35 : decode cX6_lays 35 = .ok (.invokevirtual 160, 3) := by decide +kernel
theorem dX6_lays_38 : decode cX6_lays 38 = .ok (.aload_n 0, 1) := by decide +kernel
theorem dX6_lays_39 : decode cX6_lays 39 = .ok (.iload_n 1, 1) := by decide +kernel
theorem dX6_lays_40 : decode cX6_lays 40 = .ok (.iload_n 2, 1) := by decide +kernel
theorem dX6_lays_41 : decode cX6_lays 41 = .ok (.invokevirtual 169, 3) := by decide +kernel
theorem dX6_lays_44 : decode cX6_lays 44 = .ok (.iadd, 1) := by decide +kernel
theorem dX6_lays_45 : decode cX6_lays 45 = .ok (.bipush 12, 2) := by decide +kernel
theorem dX6_lays_47 : decode cX6_lays 47 = .ok (.if_icmp .lt 7, 3) := by decide +kernel
theorem dX6_lays_50 : decode cX6_lays 50 = .ok (.iconst 1, 1) := by decide +kernel
theorem dX6_lays_51 : decode cX6_lays 51 = .ok (.goto 4, 3) := by decide +kernel
theorem dX6_lays_54 : decode cX6_lays 54 = .ok (.iconst 0, 1) := by decide +kernel
theorem dX6_lays_55 : decode cX6_lays 55 = .ok (.bastore, 1) := by decide +kernel
theorem dX6_lays_56 : decode cX6_lays 56 = .ok (.return_, 1) := by decide +kernel
abbrev rm_X6_lays : Room := { frames := 3, cells := 0, slots := 0, locals := 80 }
abbrev jJ_X6_lays (l : Launch) (G : jx_G) (sz : Nat) (out : jx_M) (pc : Nat) (lv : List (Nat × Value)) (st : List Value) (σ : jx_M) : Prop := jx_J l (mm_env G) (mm_dyn G) (mm_rg G) sz RX6 "lays" cX6_lays 3 none rm_X6_lays (fun below args s => MQ below (jx_Qv (mm_dyn G) out (jx_A (mm_rg G) sz)) args s 0 0 (jx_A (mm_rg G) sz)) 0 0 pc lv st σ
def b_X6_lays_55  (σ : jx_M) (s0 : Int32) (s1 : Int32) : Option jx_M :=
  jx_gd (decide (s0 = 0 ∨ s0 = 1)) (jx_gd (jx_in s1 6) (jx_lt (jx_mu σ 8 s1.toNatClampNeg s0) (fun σ3 => some σ3)))
set_option maxHeartbeats 4000000 in
set_option maxRecDepth 100000 in
theorem jb_X6_lays_55 (l : Launch) (G : jx_G) (hG : mm_ok G) (sz : Nat) (out : jx_M)  (σ : jx_M) (s0 : Int32) (s1 : Int32) (h : b_X6_lays_55 σ s0 s1 = some out) : jJ_X6_lays l G sz out 55 [] [.int s0, .int s1, .ref (G.2 108)] σ := by
  unfold b_X6_lays_55 at h
  obtain ⟨g1, h⟩ := jx_gd_o h
  obtain ⟨g2, h⟩ := jx_gd_o h
  obtain ⟨σ3, eσ3, h⟩ := jx_lt_o h
  refine mm_s_counts (pc := 55) hG (of_decide_eq_true g1) (jx_in_o g2) rfl eσ3 dX6_lays_55 ?_
  have h := Option.some.inj h
  subst h
  exact jx_vret (pc := 56) dX6_lays_56
def b_X6_lays_50  (σ : jx_M) (s0 : Int32) : Option jx_M :=
  (b_X6_lays_55 σ (1 : Int32) s0)
set_option maxHeartbeats 4000000 in
set_option maxRecDepth 100000 in
theorem jb_X6_lays_50 (l : Launch) (G : jx_G) (hG : mm_ok G) (sz : Nat) (out : jx_M)  (σ : jx_M) (s0 : Int32) (h : b_X6_lays_50 σ s0 = some out) : jJ_X6_lays l G sz out 50 [] [.int s0, .ref (G.2 108)] σ := by
  unfold b_X6_lays_50 at h
  refine jx_iconst (pc := 50) (v := (1 : Int32)) (by decide) dX6_lays_50 ?_
  refine jx_goto (pc := 51) (tgt := 55) dX6_lays_51 (by decide) ?_
  exact jx_sub [] rfl (jb_X6_lays_55 l G hG sz out σ (1 : Int32) s0 h)
def f_X6_lays (σ : jx_M) (a1 : Int32) (a2 : Int32) : Option jx_M :=
  jx_bd (f_X6_lampAt σ a1 a2 (12 : Int32)) (fun q1 => jx_gd (jx_in a1 6) (jx_lt (jx_mu q1.2 7 a1.toNatClampNeg q1.1) (fun σ3 => jx_gd (jx_in ((31 : Int32) + a1) 920) (if (σ3 1 ((31 : Int32) + a1).toNatClampNeg) = (6 : Int32) then (b_X6_lays_50 σ3 a1) else jx_bd (f_X6_delayOf σ3 a1) (fun q6 => jx_bd (f_X6_burnsAt σ3 a1 a2) (fun q7 => if (q6 + q7.1) < (12 : Int32) then (b_X6_lays_55 q7.2 (0 : Int32) a1) else (b_X6_lays_50 q7.2 a1)))))))
set_option maxHeartbeats 4000000 in
set_option maxRecDepth 100000 in
theorem k_X6_lays (l : Launch) (G : jx_G) (hG : mm_ok G) (sz : Nat) (σ : jx_M) (a1 : Int32) (a2 : Int32) (out : jx_M) (h : f_X6_lays σ a1 a2 = some out) : Met l yX6_lays (Cond.code yX6_lays cX6_lays 3 none :: jx_ws) rm_X6_lays (jx_Pc (mm_env G) (mm_dyn G) (mm_rg G) sz σ [.ref (G.2 10), .int a1, .int a2]) (jx_Qv (mm_dyn G) out (jx_A (mm_rg G) sz)) 0 0 (jx_A (mm_rg G) sz) := by
  unfold f_X6_lays at h
  refine jx_met (by decide) (Nat.le_of_ble_eq_true rfl) ?_
  refine jx_sub (lv' := [(0, .ref (G.2 10)), (1, .int a1), (2, .int a2)]) [0, 1, 2] rfl ?_
  refine jx_aload_n (pc := 0) (k0 := 0) rfl dX6_lays_0 ?_
  refine mm_g_lying (pc := 1) fl_X6_31 dX6_lays_1 ?_
  refine jx_iload_n (pc := 4) (k0 := 1) rfl dX6_lays_4 ?_
  refine jx_aload_n (pc := 5) (k0 := 0) rfl dX6_lays_5 ?_
  refine jx_iload_n (pc := 6) (k0 := 1) rfl dX6_lays_6 ?_
  refine jx_iload_n (pc := 7) (k0 := 2) rfl dX6_lays_7 ?_
  refine jx_bipush (pc := 8) (v := (12 : Int32)) (by decide) dX6_lays_8 ?_
  obtain ⟨q1, eq1, h⟩ := jx_bd_o h
  refine jx_callVi (pc := 10) [.int a1, .int a2, .int (12 : Int32)] (fun sz' => k_X6_lampAt l G hG sz' σ a1 a2 (12 : Int32) q1 eq1) kv_X6_172 mm_jok mm_rc rfl rfl (Nat.le_of_ble_eq_true rfl) ⟨⟨rfl, rfl⟩, ⟨Nat.le_of_ble_eq_true rfl, Nat.le_of_ble_eq_true rfl⟩, Nat.zero_le _, Nat.zero_le _⟩ dX6_lays_10 ?_
  obtain ⟨g2, h⟩ := jx_gd_o h
  obtain ⟨σ3, eσ3, h⟩ := jx_lt_o h
  refine mm_s_lying (pc := 13) hG (jx_in_o g2) rfl eσ3 dX6_lays_13 ?_
  refine jx_aload_n (pc := 14) (k0 := 0) rfl dX6_lays_14 ?_
  refine mm_g_counts (pc := 15) fl_X6_34 dX6_lays_15 ?_
  refine jx_iload_n (pc := 18) (k0 := 1) rfl dX6_lays_18 ?_
  refine jx_aload_n (pc := 19) (k0 := 0) rfl dX6_lays_19 ?_
  refine mm_g_s (pc := 20) fl_X6_9 dX6_lays_20 ?_
  refine jx_bipush (pc := 23) (v := (31 : Int32)) (by decide) dX6_lays_23 ?_
  refine jx_iload_n (pc := 25) (k0 := 1) rfl dX6_lays_25 ?_
  refine jx_iadd (pc := 26) dX6_lays_26 ?_
  obtain ⟨g4, h⟩ := jx_gd_o h
  refine mm_l_s (pc := 27) (jx_in_o g4) rfl dX6_lays_27 ?_
  refine jx_bipush (pc := 28) (v := (6 : Int32)) (by decide) dX6_lays_28 ?_
  refine jx_icmp_eq (pc := 30) (tgt := 50) dX6_lays_30 (by decide) (fun c5 => ?_) (fun c5 => ?_)
  · have h := jx_t c5 h
    exact jx_sub [] rfl (jb_X6_lays_50 l G hG sz out σ3 a1 h)
  · have h := jx_f c5 h
    refine jx_aload_n (pc := 33) (k0 := 0) rfl dX6_lays_33 ?_
    refine jx_iload_n (pc := 34) (k0 := 1) rfl dX6_lays_34 ?_
    obtain ⟨q6, eq6, h⟩ := jx_bd_o h
    refine jx_callVi (pc := 35) [.int a1] (fun sz' => k_X6_delayOf l G hG sz' σ3 a1 q6 eq6) kv_X6_160 mm_jok mm_rc rfl rfl (Nat.le_of_ble_eq_true rfl) ⟨⟨rfl, rfl⟩, ⟨Nat.le_of_ble_eq_true rfl, Nat.le_of_ble_eq_true rfl⟩, Nat.zero_le _, Nat.zero_le _⟩ dX6_lays_35 ?_
    refine jx_aload_n (pc := 38) (k0 := 0) rfl dX6_lays_38 ?_
    refine jx_iload_n (pc := 39) (k0 := 1) rfl dX6_lays_39 ?_
    refine jx_iload_n (pc := 40) (k0 := 2) rfl dX6_lays_40 ?_
    obtain ⟨q7, eq7, h⟩ := jx_bd_o h
    refine jx_callVi (pc := 41) [.int a1, .int a2] (fun sz' => k_X6_burnsAt l G hG sz' σ3 a1 a2 q7 eq7) kv_X6_169 mm_jok mm_rc rfl rfl (Nat.le_of_ble_eq_true rfl) ⟨⟨rfl, rfl⟩, ⟨Nat.le_of_ble_eq_true rfl, Nat.le_of_ble_eq_true rfl⟩, Nat.zero_le _, Nat.zero_le _⟩ dX6_lays_41 ?_
    refine jx_iadd (pc := 44) dX6_lays_44 ?_
    refine jx_bipush (pc := 45) (v := (12 : Int32)) (by decide) dX6_lays_45 ?_
    refine jx_icmp_lt (pc := 47) (tgt := 54) dX6_lays_47 (by decide) (fun c8 => ?_) (fun c8 => ?_)
    · have h := jx_t c8 h
      refine jx_iconst (pc := 54) (v := (0 : Int32)) (by decide) dX6_lays_54 ?_
      exact jx_sub [] rfl (jb_X6_lays_55 l G hG sz out q7.2 (0 : Int32) a1 h)
    · have h := jx_f c8 h
      exact jx_sub [] rfl (jb_X6_lays_50 l G hG sz out q7.2 a1 h)
theorem dX6_drifts_0 : decode cX6_drifts 0 = .ok (.aload_n 0, 1) := by decide +kernel
theorem dX6_drifts_1 : decode cX6_drifts 1 = .ok (.iload_n 1, 1) := by decide +kernel
theorem dX6_drifts_2 : decode cX6_drifts 2 = .ok (.invokevirtual 145, 3) := by decide +kernel
theorem dX6_drifts_5 : decode cX6_drifts 5 = .ok (.ifCond .ne 5, 3) := by decide +kernel
theorem dX6_drifts_8 : decode cX6_drifts 8 = .ok (.iconst (-1), 1) := by decide +kernel
theorem dX6_drifts_9 : decode cX6_drifts 9 = .ok (.ireturn, 1) := by decide +kernel
theorem dX6_drifts_10 : decode cX6_drifts 10 = .ok (.iload_n 2, 1) := by decide +kernel
theorem dX6_drifts_11 : decode cX6_drifts 11 = .ok (.iconst 0, 1) := by decide +kernel
theorem dX6_drifts_12 : decode cX6_drifts 12 = .ok (.bipush 12, 2) := by decide +kernel
theorem dX6_drifts_14 : decode cX6_drifts 14 = .ok (.invokestatic 48, 3) := by decide +kernel
theorem dX6_drifts_17 : decode cX6_drifts 17 = .ok (.ifCond .ne 6, 3) := by decide +kernel
theorem dX6_drifts_20 : decode cX6_drifts 20 = .ok (.bipush (-2), 2) := by decide +kernel
theorem dX6_drifts_22 : decode cX6_drifts 22 = .ok (.ireturn, 1) := by decide +kernel
theorem dX6_drifts_23 : decode cX6_drifts 23 = .ok (.aload_n 0, 1) := by decide +kernel
theorem dX6_drifts_24 : decode cX6_drifts 24 = .ok (.invokevirtual 185, 3) := by decide +kernel
theorem dX6_drifts_27 : decode cX6_drifts 27 = .ok (.aload_n 0, 1) := by decide +kernel
theorem dX6_drifts_28 : decode cX6_drifts 28 = .ok (.iload_n 1, 1) := by decide +kernel
theorem dX6_drifts_29 : decode cX6_drifts 29 = .ok (.iload_n 2, 1) := by decide +kernel
theorem dX6_drifts_30 : decode cX6_drifts 30 = .ok (.invokevirtual 194, 3) := by decide +kernel
theorem dX6_drifts_33 : decode cX6_drifts 33 = .ok (.ireturn, 1) := by decide +kernel
abbrev rm_X6_drifts : Room := { frames := 3, cells := 0, slots := 0, locals := 74 }
abbrev jJ_X6_drifts (l : Launch) (G : jx_G) (sz : Nat) (out : (Int32 × jx_M)) (pc : Nat) (lv : List (Nat × Value)) (st : List Value) (σ : jx_M) : Prop := jx_J l (mm_env G) (mm_dyn G) (mm_rg G) sz RX6 "drifts" cX6_drifts 3 (some .int) rm_X6_drifts (fun below args s => MQ below (jx_Qi (mm_dyn G) out.2 out.1 (jx_A (mm_rg G) sz)) args s 0 0 (jx_A (mm_rg G) sz)) 0 0 pc lv st σ
def f_X6_drifts (σ : jx_M) (a1 : Int32) (a2 : Int32) : Option (Int32 × jx_M) :=
  jx_bd (f_X6_isPlace σ a1) (fun q1 => if q1 = 0 then some ((-1 : Int32), σ) else jx_bd (f_X6_in a2 (0 : Int32) (12 : Int32)) (fun q3 => if q3 = 0 then some ((-2 : Int32), σ) else jx_bd (f_X6_looksForNight σ) (fun q5 => jx_bd (f_X6_driftOf q5 a1 a2) (fun q6 => some (q6, q5)))))
set_option maxHeartbeats 4000000 in
set_option maxRecDepth 100000 in
theorem k_X6_drifts (l : Launch) (G : jx_G) (hG : mm_ok G) (sz : Nat) (σ : jx_M) (a1 : Int32) (a2 : Int32) (out : (Int32 × jx_M)) (h : f_X6_drifts σ a1 a2 = some out) : Met l yX6_drifts (Cond.code yX6_drifts cX6_drifts 3 (some .int) :: jx_ws) rm_X6_drifts (jx_Pc (mm_env G) (mm_dyn G) (mm_rg G) sz σ [.ref (G.2 10), .int a1, .int a2]) (jx_Qi (mm_dyn G) out.2 out.1 (jx_A (mm_rg G) sz)) 0 0 (jx_A (mm_rg G) sz) := by
  unfold f_X6_drifts at h
  refine jx_met (by decide) (Nat.le_of_ble_eq_true rfl) ?_
  refine jx_sub (lv' := [(0, .ref (G.2 10)), (1, .int a1), (2, .int a2)]) [0, 1, 2] rfl ?_
  refine jx_aload_n (pc := 0) (k0 := 0) rfl dX6_drifts_0 ?_
  refine jx_iload_n (pc := 1) (k0 := 1) rfl dX6_drifts_1 ?_
  obtain ⟨q1, eq1, h⟩ := jx_bd_o h
  refine jx_callVi (pc := 2) [.int a1] (fun sz' => k_X6_isPlace l G hG sz' σ a1 q1 eq1) kv_X6_145 mm_jok mm_rc rfl rfl (Nat.le_of_ble_eq_true rfl) ⟨⟨rfl, rfl⟩, ⟨Nat.le_of_ble_eq_true rfl, Nat.le_of_ble_eq_true rfl⟩, Nat.zero_le _, Nat.zero_le _⟩ dX6_drifts_2 ?_
  refine jx_if_ne (pc := 5) (tgt := 10) dX6_drifts_5 (by decide) (fun c2 => ?_) (fun c2 => ?_)
  · have h := jx_f c2 h
    refine jx_iload_n (pc := 10) (k0 := 2) rfl dX6_drifts_10 ?_
    refine jx_iconst (pc := 11) (v := (0 : Int32)) (by decide) dX6_drifts_11 ?_
    refine jx_bipush (pc := 12) (v := (12 : Int32)) (by decide) dX6_drifts_12 ?_
    obtain ⟨q3, eq3, h⟩ := jx_bd_o h
    refine jx_callSi (pc := 14) [.int a2, .int (0 : Int32), .int (12 : Int32)] (fun sz' => k_X6_in l G hG sz' σ a2 (0 : Int32) (12 : Int32) q3 eq3) ks_X6_48 mm_jok rfl rfl (Nat.le_of_ble_eq_true rfl) ⟨⟨rfl, rfl⟩, ⟨Nat.le_of_ble_eq_true rfl, Nat.le_of_ble_eq_true rfl⟩, Nat.zero_le _, Nat.zero_le _⟩ dX6_drifts_14 ?_
    refine jx_if_ne (pc := 17) (tgt := 23) dX6_drifts_17 (by decide) (fun c4 => ?_) (fun c4 => ?_)
    · have h := jx_f c4 h
      refine jx_aload_n (pc := 23) (k0 := 0) rfl dX6_drifts_23 ?_
      obtain ⟨q5, eq5, h⟩ := jx_bd_o h
      refine jx_callVv (pc := 24) [] (fun sz' => k_X6_looksForNight l G hG sz' σ q5 eq5) kv_X6_185 mm_jok mm_rc rfl rfl (Nat.le_of_ble_eq_true rfl) ⟨⟨rfl, rfl⟩, ⟨Nat.le_of_ble_eq_true rfl, Nat.le_of_ble_eq_true rfl⟩, Nat.zero_le _, Nat.zero_le _⟩ dX6_drifts_24 ?_
      refine jx_aload_n (pc := 27) (k0 := 0) rfl dX6_drifts_27 ?_
      refine jx_iload_n (pc := 28) (k0 := 1) rfl dX6_drifts_28 ?_
      refine jx_iload_n (pc := 29) (k0 := 2) rfl dX6_drifts_29 ?_
      obtain ⟨q6, eq6, h⟩ := jx_bd_o h
      refine jx_callVi (pc := 30) [.int a1, .int a2] (fun sz' => k_X6_driftOf l G hG sz' q5 a1 a2 q6 eq6) kv_X6_194 mm_jok mm_rc rfl rfl (Nat.le_of_ble_eq_true rfl) ⟨⟨rfl, rfl⟩, ⟨Nat.le_of_ble_eq_true rfl, Nat.le_of_ble_eq_true rfl⟩, Nat.zero_le _, Nat.zero_le _⟩ dX6_drifts_30 ?_
      have h := Option.some.inj h
      subst h
      exact jx_iret (pc := 33) dX6_drifts_33
    · have h := jx_t c4 h
      refine jx_bipush (pc := 20) (v := (-2 : Int32)) (by decide) dX6_drifts_20 ?_
      have h := Option.some.inj h
      subst h
      exact jx_iret (pc := 22) dX6_drifts_22
  · have h := jx_t c2 h
    refine jx_iconst (pc := 8) (v := (-1 : Int32)) (by decide) dX6_drifts_8 ?_
    have h := Option.some.inj h
    subst h
    exact jx_iret (pc := 9) dX6_drifts_9
theorem dX6_from_0 : decode cX6_from 0 = .ok (.aload_n 0, 1) := by decide +kernel
theorem dX6_from_1 : decode cX6_from 1 = .ok (.iload_n 1, 1) := by decide +kernel
theorem dX6_from_2 : decode cX6_from 2 = .ok (.invokevirtual 145, 3) := by decide +kernel
theorem dX6_from_5 : decode cX6_from 5 = .ok (.ifCond .eq 12, 3) := by decide +kernel
theorem dX6_from_8 : decode cX6_from 8 = .ok (.iload_n 3, 1) := by decide +kernel
theorem dX6_from_9 : decode cX6_from 9 = .ok (.iconst 0, 1) := by decide +kernel
theorem dX6_from_10 : decode cX6_from 10 = .ok (.iconst 1, 1) := by decide +kernel
theorem dX6_from_11 : decode cX6_from 11 = .ok (.invokestatic 48, 3) := by decide +kernel
theorem dX6_from_14 : decode cX6_from 14 = .ok (.ifCond .ne 5, 3) := by decide +kernel
theorem dX6_from_17 : decode cX6_from 17 = .ok (.iconst (-1), 1) := by decide +kernel
theorem dX6_from_18 : decode cX6_from 18 = .ok (.ireturn, 1) := by decide +kernel
theorem dX6_from_19 : decode cX6_from 19 = .ok (.iload_n 2, 1) := by decide +kernel
theorem dX6_from_20 : decode cX6_from 20 = .ok (.iconst 0, 1) := by decide +kernel
theorem dX6_from_21 : decode cX6_from 21 = .ok (.bipush 12, 2) := by decide +kernel
theorem dX6_from_23 : decode cX6_from 23 = .ok (.invokestatic 48, 3) := by decide +kernel
theorem dX6_from_26 : decode cX6_from 26 = .ok (.ifCond .ne 6, 3) := by decide +kernel
theorem dX6_from_29 : decode cX6_from 29 = .ok (.bipush (-2), 2) := by decide +kernel
theorem dX6_from_31 : decode cX6_from 31 = .ok (.ireturn, 1) := by decide +kernel
theorem dX6_from_32 : decode cX6_from 32 = .ok (.aload_n 0, 1) := by decide +kernel
theorem dX6_from_33 : decode cX6_from 33 = .ok (.invokevirtual 185, 3) := by decide +kernel
theorem dX6_from_36 : decode cX6_from 36 = .ok (.iconst 0, 1) := by decide +kernel
theorem dX6_from_37 : decode cX6_from 37 = .ok (.istore 4, 2) := by decide +kernel
theorem dX6_from_39 : decode cX6_from 39 = .ok (.bipush (-5), 2) := by decide +kernel
theorem dX6_from_41 : decode cX6_from 41 = .ok (.istore 5, 2) := by decide +kernel
theorem dX6_from_43 : decode cX6_from 43 = .ok (.aload_n 0, 1) := by decide +kernel
theorem dX6_from_44 : decode cX6_from 44 = .ok (.getfield 9, 3) := by decide +kernel
theorem dX6_from_47 : decode cX6_from 47 = .ok (.bipush 6, 2) := by decide +kernel
theorem dX6_from_49 : decode cX6_from 49 = .ok (.iaload, 1) := by decide +kernel
theorem dX6_from_50 : decode cX6_from 50 = .ok (.iconst 1, 1) := by decide +kernel
theorem dX6_from_51 : decode cX6_from 51 = .ok (.isub, 1) := by decide +kernel
theorem dX6_from_52 : decode cX6_from 52 = .ok (.istore 6, 2) := by decide +kernel
theorem dX6_from_54 : decode cX6_from 54 = .ok (.iload 6, 2) := by decide +kernel
theorem dX6_from_56 : decode cX6_from 56 = .ok (.ifCond .lt 33, 3) := by decide +kernel
theorem dX6_from_59 : decode cX6_from 59 = .ok (.aload_n 0, 1) := by decide +kernel
theorem dX6_from_60 : decode cX6_from 60 = .ok (.iload 6, 2) := by decide +kernel
theorem dX6_from_62 : decode cX6_from 62 = .ok (.iload_n 2, 1) := by decide +kernel
theorem dX6_from_63 : decode cX6_from 63 = .ok (.invokevirtual 194, 3) := by decide +kernel
theorem dX6_from_66 : decode cX6_from 66 = .ok (.iload_n 1, 1) := by decide +kernel
theorem dX6_from_67 : decode cX6_from 67 = .ok (.if_icmp .ne 16, 3) := by decide +kernel
theorem dX6_from_70 : decode cX6_from 70 = .ok (.iload 4, 2) := by decide +kernel
theorem dX6_from_72 : decode cX6_from 72 = .ok (.iconst 1, 1) := by decide +kernel
theorem dX6_from_73 : decode cX6_from 73 = .ok (.iload 6, 2) := by decide +kernel
theorem dX6_from_75 : decode cX6_from 75 = .ok (.ishl, 1) := by decide +kernel
theorem dX6_from_76 : decode cX6_from 76 = .ok (.ior, 1) := by decide +kernel
theorem dX6_from_77 : decode cX6_from 77 = .ok (.istore 4, 2) := by decide +kernel
theorem dX6_from_79 : decode cX6_from 79 = .ok (.iload 6, 2) := by decide +kernel
theorem dX6_from_81 : decode cX6_from 81 = .ok (.istore 5, 2) := by decide +kernel
theorem dX6_from_83 : decode cX6_from 83 = .ok (.iinc 6 (-1), 3) := by decide +kernel
theorem dX6_from_86 : decode cX6_from 86 = .ok (.goto (-32), 3) := by decide +kernel
theorem dX6_from_89 : decode cX6_from 89 = .ok (.iload_n 3, 1) := by decide +kernel
theorem dX6_from_90 : decode cX6_from 90 = .ok (.ifCond .ne 8, 3) := by decide +kernel
theorem dX6_from_93 : decode cX6_from 93 = .ok (.iload 4, 2) := by decide +kernel
theorem dX6_from_95 : decode cX6_from 95 = .ok (.goto 5, 3) := by decide +kernel
theorem dX6_from_98 : decode cX6_from 98 = .ok (.iload 5, 2) := by decide +kernel
theorem dX6_from_100 : decode cX6_from 100 = .ok (.ireturn, 1) := by decide +kernel
abbrev rm_X6_from : Room := { frames := 3, cells := 0, slots := 0, locals := 74 }
abbrev jJ_X6_from (l : Launch) (G : jx_G) (sz : Nat) (out : (Int32 × jx_M)) (pc : Nat) (lv : List (Nat × Value)) (st : List Value) (σ : jx_M) : Prop := jx_J l (mm_env G) (mm_dyn G) (mm_rg G) sz RX6 "from" cX6_from 7 (some .int) rm_X6_from (fun below args s => MQ below (jx_Qi (mm_dyn G) out.2 out.1 (jx_A (mm_rg G) sz)) args s 0 0 (jx_A (mm_rg G) sz)) 0 0 pc lv st σ
def b_X6_from_83 (k54 : jx_M → Int32 → Int32 → Int32 → Int32 → Int32 → Int32 → Option (Int32 × jx_M)) (σ : jx_M) (v1 : Int32) (v2 : Int32) (v3 : Int32) (v4 : Int32) (v5 : Int32) (v6 : Int32) : Option (Int32 × jx_M) :=
  jx_lt (v6 + (-1 : Int32)) (fun x1 => (k54 σ v1 v2 v3 v4 v5 x1))
set_option maxHeartbeats 4000000 in
set_option maxRecDepth 100000 in
theorem jb_X6_from_83 (l : Launch) (G : jx_G) (hG : mm_ok G) (sz : Nat) (out : (Int32 × jx_M)) (k54 : jx_M → Int32 → Int32 → Int32 → Int32 → Int32 → Int32 → Option (Int32 × jx_M)) (h54 : ∀ (σ : jx_M) (v1 : Int32) (v2 : Int32) (v3 : Int32) (v4 : Int32) (v5 : Int32) (v6 : Int32), k54 σ v1 v2 v3 v4 v5 v6 = some out → jJ_X6_from l G sz out 54 [(0, .ref (G.2 10)), (1, .int v1), (2, .int v2), (3, .int v3), (4, .int v4), (5, .int v5), (6, .int v6)] [] σ) (σ : jx_M) (v1 : Int32) (v2 : Int32) (v3 : Int32) (v4 : Int32) (v5 : Int32) (v6 : Int32) (h : b_X6_from_83 k54 σ v1 v2 v3 v4 v5 v6 = some out) : jJ_X6_from l G sz out 83 [(0, .ref (G.2 10)), (1, .int v1), (2, .int v2), (3, .int v3), (4, .int v4), (5, .int v5), (6, .int v6)] [] σ := by
  unfold b_X6_from_83 at h
  obtain ⟨x1, ex1, h⟩ := jx_lt_o h
  refine jx_iinc (pc := 83) (i := 6) (v := v6) rfl ex1 (n := -1) (by decide) (by decide) (lv' := [(6, .int x1), (0, .ref (G.2 10)), (1, .int v1), (2, .int v2), (3, .int v3), (4, .int v4), (5, .int v5)]) rfl dX6_from_83 ?_
  refine jx_goto (pc := 86) (tgt := 54) dX6_from_86 (by decide) ?_
  exact jx_sub [1, 2, 3, 4, 5, 6, 0] rfl (h54 σ v1 v2 v3 v4 v5 x1 h)
def g_X6_from_54 (k54 : jx_M → Int32 → Int32 → Int32 → Int32 → Int32 → Int32 → Option (Int32 × jx_M)) (σ : jx_M) (v1 : Int32) (v2 : Int32) (v3 : Int32) (v4 : Int32) (v5 : Int32) (v6 : Int32) : Option (Int32 × jx_M) :=
  if v6 < 0 then if v3 = 0 then some (v4, σ) else some (v5, σ) else jx_bd (f_X6_driftOf σ v6 v2) (fun q3 => if q3 = v1 then jx_lt ((v4 ||| ((1 : Int32) <<< (v6 &&& 31)))) (fun x5 => (b_X6_from_83 k54 σ v1 v2 v3 x5 v6 v6)) else (b_X6_from_83 k54 σ v1 v2 v3 v4 v5 v6))
set_option maxHeartbeats 4000000 in
set_option maxRecDepth 100000 in
theorem jg_X6_from_54 (l : Launch) (G : jx_G) (hG : mm_ok G) (sz : Nat) (out : (Int32 × jx_M)) (k54 : jx_M → Int32 → Int32 → Int32 → Int32 → Int32 → Int32 → Option (Int32 × jx_M)) (h54 : ∀ (σ : jx_M) (v1 : Int32) (v2 : Int32) (v3 : Int32) (v4 : Int32) (v5 : Int32) (v6 : Int32), k54 σ v1 v2 v3 v4 v5 v6 = some out → jJ_X6_from l G sz out 54 [(0, .ref (G.2 10)), (1, .int v1), (2, .int v2), (3, .int v3), (4, .int v4), (5, .int v5), (6, .int v6)] [] σ) (σ : jx_M) (v1 : Int32) (v2 : Int32) (v3 : Int32) (v4 : Int32) (v5 : Int32) (v6 : Int32) (h : g_X6_from_54 k54 σ v1 v2 v3 v4 v5 v6 = some out) : jJ_X6_from l G sz out 54 [(0, .ref (G.2 10)), (1, .int v1), (2, .int v2), (3, .int v3), (4, .int v4), (5, .int v5), (6, .int v6)] [] σ := by
  unfold g_X6_from_54 at h
  refine jx_iload (pc := 54) (i := 6) rfl dX6_from_54 ?_
  refine jx_if_lt (pc := 56) (tgt := 89) dX6_from_56 (by decide) (fun c1 => ?_) (fun c1 => ?_)
  · have h := jx_t c1 h
    refine jx_iload_n (pc := 89) (k0 := 3) rfl dX6_from_89 ?_
    refine jx_if_ne (pc := 90) (tgt := 98) dX6_from_90 (by decide) (fun c2 => ?_) (fun c2 => ?_)
    · have h := jx_f c2 h
      refine jx_iload (pc := 98) (i := 5) rfl dX6_from_98 ?_
      have h := Option.some.inj h
      subst h
      exact jx_iret (pc := 100) dX6_from_100
    · have h := jx_t c2 h
      refine jx_iload (pc := 93) (i := 4) rfl dX6_from_93 ?_
      refine jx_goto (pc := 95) (tgt := 100) dX6_from_95 (by decide) ?_
      have h := Option.some.inj h
      subst h
      exact jx_iret (pc := 100) dX6_from_100
  · have h := jx_f c1 h
    refine jx_aload_n (pc := 59) (k0 := 0) rfl dX6_from_59 ?_
    refine jx_iload (pc := 60) (i := 6) rfl dX6_from_60 ?_
    refine jx_iload_n (pc := 62) (k0 := 2) rfl dX6_from_62 ?_
    obtain ⟨q3, eq3, h⟩ := jx_bd_o h
    refine jx_callVi (pc := 63) [.int v6, .int v2] (fun sz' => k_X6_driftOf l G hG sz' σ v6 v2 q3 eq3) kv_X6_194 mm_jok mm_rc rfl rfl (Nat.le_of_ble_eq_true rfl) ⟨⟨rfl, rfl⟩, ⟨Nat.le_of_ble_eq_true rfl, Nat.le_of_ble_eq_true rfl⟩, Nat.zero_le _, Nat.zero_le _⟩ dX6_from_63 ?_
    refine jx_iload_n (pc := 66) (k0 := 1) rfl dX6_from_66 ?_
    refine jx_icmp_ne (pc := 67) (tgt := 83) dX6_from_67 (by decide) (fun c4 => ?_) (fun c4 => ?_)
    · have h := jx_f c4 h
      exact jx_sub [0, 1, 2, 3, 4, 5, 6] rfl (jb_X6_from_83 l G hG sz out k54 h54 σ v1 v2 v3 v4 v5 v6 h)
    · have h := jx_t c4 h
      refine jx_iload (pc := 70) (i := 4) rfl dX6_from_70 ?_
      refine jx_iconst (pc := 72) (v := (1 : Int32)) (by decide) dX6_from_72 ?_
      refine jx_iload (pc := 73) (i := 6) rfl dX6_from_73 ?_
      refine jx_ishl (pc := 75) dX6_from_75 ?_
      refine jx_ior (pc := 76) dX6_from_76 ?_
      obtain ⟨x5, ex5, h⟩ := jx_lt_o h
      refine jx_istore (pc := 77) (i := 4) ex5 (by decide) (lv' := [(4, .int x5), (0, .ref (G.2 10)), (1, .int v1), (2, .int v2), (3, .int v3), (5, .int v5), (6, .int v6)]) rfl dX6_from_77 ?_
      refine jx_iload (pc := 79) (i := 6) rfl dX6_from_79 ?_
      refine jx_istore (pc := 81) (i := 5) rfl (by decide) (lv' := [(5, .int v6), (4, .int x5), (0, .ref (G.2 10)), (1, .int v1), (2, .int v2), (3, .int v3), (6, .int v6)]) rfl dX6_from_81 ?_
      exact jx_sub [2, 3, 4, 5, 1, 0, 6] rfl (jb_X6_from_83 l G hG sz out k54 h54 σ v1 v2 v3 x5 v6 v6 h)
def b_X6_from_54  : Nat → jx_M → Int32 → Int32 → Int32 → Int32 → Int32 → Int32 → Option (Int32 × jx_M)
  | 0, _, _, _, _, _, _, _ => none
  | n + 1, σ, v1, v2, v3, v4, v5, v6 => g_X6_from_54 (b_X6_from_54 n) σ v1 v2 v3 v4 v5 v6
theorem jb_X6_from_54 (l : Launch) (G : jx_G) (hG : mm_ok G) (sz : Nat) (out : (Int32 × jx_M))  : ∀ (n : Nat) (σ : jx_M) (v1 : Int32) (v2 : Int32) (v3 : Int32) (v4 : Int32) (v5 : Int32) (v6 : Int32), b_X6_from_54 n σ v1 v2 v3 v4 v5 v6 = some out → jJ_X6_from l G sz out 54 [(0, .ref (G.2 10)), (1, .int v1), (2, .int v2), (3, .int v3), (4, .int v4), (5, .int v5), (6, .int v6)] [] σ := by
  intro n
  induction n with
  | zero =>
    intro σ v1 v2 v3 v4 v5 v6 h
    cases h
  | succ n ih =>
    intro σ v1 v2 v3 v4 v5 v6 h
    exact jg_X6_from_54 l G hG sz out (b_X6_from_54 n) ih σ v1 v2 v3 v4 v5 v6 h
def f_X6_from (σ : jx_M) (a1 : Int32) (a2 : Int32) (a3 : Int32) : Option (Int32 × jx_M) :=
  jx_bd (f_X6_isPlace σ a1) (fun q1 => if q1 = 0 then some ((-1 : Int32), σ) else jx_bd (f_X6_in a3 (0 : Int32) (1 : Int32)) (fun q3 => if q3 = 0 then some ((-1 : Int32), σ) else jx_bd (f_X6_in a2 (0 : Int32) (12 : Int32)) (fun q5 => if q5 = 0 then some ((-2 : Int32), σ) else jx_bd (f_X6_looksForNight σ) (fun q7 => jx_lt (((q7 1 6) - (1 : Int32))) (fun x8 => (b_X6_from_54 jx_fuel q7 a1 a2 a3 (0 : Int32) (-5 : Int32) x8))))))
set_option maxHeartbeats 4000000 in
set_option maxRecDepth 100000 in
theorem k_X6_from (l : Launch) (G : jx_G) (hG : mm_ok G) (sz : Nat) (σ : jx_M) (a1 : Int32) (a2 : Int32) (a3 : Int32) (out : (Int32 × jx_M)) (h : f_X6_from σ a1 a2 a3 = some out) : Met l yX6_from (Cond.code yX6_from cX6_from 7 (some .int) :: jx_ws) rm_X6_from (jx_Pc (mm_env G) (mm_dyn G) (mm_rg G) sz σ [.ref (G.2 10), .int a1, .int a2, .int a3]) (jx_Qi (mm_dyn G) out.2 out.1 (jx_A (mm_rg G) sz)) 0 0 (jx_A (mm_rg G) sz) := by
  unfold f_X6_from at h
  refine jx_met (by decide) (Nat.le_of_ble_eq_true rfl) ?_
  refine jx_sub (lv' := [(0, .ref (G.2 10)), (1, .int a1), (2, .int a2), (3, .int a3)]) [0, 1, 2, 3] rfl ?_
  refine jx_aload_n (pc := 0) (k0 := 0) rfl dX6_from_0 ?_
  refine jx_iload_n (pc := 1) (k0 := 1) rfl dX6_from_1 ?_
  obtain ⟨q1, eq1, h⟩ := jx_bd_o h
  refine jx_callVi (pc := 2) [.int a1] (fun sz' => k_X6_isPlace l G hG sz' σ a1 q1 eq1) kv_X6_145 mm_jok mm_rc rfl rfl (Nat.le_of_ble_eq_true rfl) ⟨⟨rfl, rfl⟩, ⟨Nat.le_of_ble_eq_true rfl, Nat.le_of_ble_eq_true rfl⟩, Nat.zero_le _, Nat.zero_le _⟩ dX6_from_2 ?_
  refine jx_if_eq (pc := 5) (tgt := 17) dX6_from_5 (by decide) (fun c2 => ?_) (fun c2 => ?_)
  · have h := jx_t c2 h
    refine jx_iconst (pc := 17) (v := (-1 : Int32)) (by decide) dX6_from_17 ?_
    have h := Option.some.inj h
    subst h
    exact jx_iret (pc := 18) dX6_from_18
  · have h := jx_f c2 h
    refine jx_iload_n (pc := 8) (k0 := 3) rfl dX6_from_8 ?_
    refine jx_iconst (pc := 9) (v := (0 : Int32)) (by decide) dX6_from_9 ?_
    refine jx_iconst (pc := 10) (v := (1 : Int32)) (by decide) dX6_from_10 ?_
    obtain ⟨q3, eq3, h⟩ := jx_bd_o h
    refine jx_callSi (pc := 11) [.int a3, .int (0 : Int32), .int (1 : Int32)] (fun sz' => k_X6_in l G hG sz' σ a3 (0 : Int32) (1 : Int32) q3 eq3) ks_X6_48 mm_jok rfl rfl (Nat.le_of_ble_eq_true rfl) ⟨⟨rfl, rfl⟩, ⟨Nat.le_of_ble_eq_true rfl, Nat.le_of_ble_eq_true rfl⟩, Nat.zero_le _, Nat.zero_le _⟩ dX6_from_11 ?_
    refine jx_if_ne (pc := 14) (tgt := 19) dX6_from_14 (by decide) (fun c4 => ?_) (fun c4 => ?_)
    · have h := jx_f c4 h
      refine jx_iload_n (pc := 19) (k0 := 2) rfl dX6_from_19 ?_
      refine jx_iconst (pc := 20) (v := (0 : Int32)) (by decide) dX6_from_20 ?_
      refine jx_bipush (pc := 21) (v := (12 : Int32)) (by decide) dX6_from_21 ?_
      obtain ⟨q5, eq5, h⟩ := jx_bd_o h
      refine jx_callSi (pc := 23) [.int a2, .int (0 : Int32), .int (12 : Int32)] (fun sz' => k_X6_in l G hG sz' σ a2 (0 : Int32) (12 : Int32) q5 eq5) ks_X6_48 mm_jok rfl rfl (Nat.le_of_ble_eq_true rfl) ⟨⟨rfl, rfl⟩, ⟨Nat.le_of_ble_eq_true rfl, Nat.le_of_ble_eq_true rfl⟩, Nat.zero_le _, Nat.zero_le _⟩ dX6_from_23 ?_
      refine jx_if_ne (pc := 26) (tgt := 32) dX6_from_26 (by decide) (fun c6 => ?_) (fun c6 => ?_)
      · have h := jx_f c6 h
        refine jx_aload_n (pc := 32) (k0 := 0) rfl dX6_from_32 ?_
        obtain ⟨q7, eq7, h⟩ := jx_bd_o h
        refine jx_callVv (pc := 33) [] (fun sz' => k_X6_looksForNight l G hG sz' σ q7 eq7) kv_X6_185 mm_jok mm_rc rfl rfl (Nat.le_of_ble_eq_true rfl) ⟨⟨rfl, rfl⟩, ⟨Nat.le_of_ble_eq_true rfl, Nat.le_of_ble_eq_true rfl⟩, Nat.zero_le _, Nat.zero_le _⟩ dX6_from_33 ?_
        refine jx_iconst (pc := 36) (v := (0 : Int32)) (by decide) dX6_from_36 ?_
        refine jx_istore (pc := 37) (i := 4) rfl (by decide) (lv' := [(4, .int (0 : Int32)), (0, .ref (G.2 10)), (1, .int a1), (2, .int a2), (3, .int a3)]) rfl dX6_from_37 ?_
        refine jx_bipush (pc := 39) (v := (-5 : Int32)) (by decide) dX6_from_39 ?_
        refine jx_istore (pc := 41) (i := 5) rfl (by decide) (lv' := [(5, .int (-5 : Int32)), (4, .int (0 : Int32)), (0, .ref (G.2 10)), (1, .int a1), (2, .int a2), (3, .int a3)]) rfl dX6_from_41 ?_
        refine jx_aload_n (pc := 43) (k0 := 0) rfl dX6_from_43 ?_
        refine mm_g_s (pc := 44) fl_X6_9 dX6_from_44 ?_
        refine jx_bipush (pc := 47) (v := (6 : Int32)) (by decide) dX6_from_47 ?_
        refine mm_l_s (pc := 49) (j := 6) (jx_in_o (by decide)) (by decide) dX6_from_49 ?_
        refine jx_iconst (pc := 50) (v := (1 : Int32)) (by decide) dX6_from_50 ?_
        refine jx_isub (pc := 51) dX6_from_51 ?_
        obtain ⟨x8, ex8, h⟩ := jx_lt_o h
        refine jx_istore (pc := 52) (i := 6) ex8 (by decide) (lv' := [(6, .int x8), (5, .int (-5 : Int32)), (4, .int (0 : Int32)), (0, .ref (G.2 10)), (1, .int a1), (2, .int a2), (3, .int a3)]) rfl dX6_from_52 ?_
        exact jx_sub [3, 4, 5, 6, 2, 1, 0] rfl (jb_X6_from_54 l G hG sz out jx_fuel q7 a1 a2 a3 (0 : Int32) (-5 : Int32) x8 h)
      · have h := jx_t c6 h
        refine jx_bipush (pc := 29) (v := (-2 : Int32)) (by decide) dX6_from_29 ?_
        have h := Option.some.inj h
        subst h
        exact jx_iret (pc := 31) dX6_from_31
    · have h := jx_t c4 h
      refine jx_iconst (pc := 17) (v := (-1 : Int32)) (by decide) dX6_from_17 ?_
      have h := Option.some.inj h
      subst h
      exact jx_iret (pc := 18) dX6_from_18
theorem dX6_looked_0 : decode cX6_looked 0 = .ok (.aload_n 0, 1) := by decide +kernel
theorem dX6_looked_1 : decode cX6_looked 1 = .ok (.invokevirtual 185, 3) := by decide +kernel
theorem dX6_looked_4 : decode cX6_looked 4 = .ok (.iconst 0, 1) := by decide +kernel
theorem dX6_looked_5 : decode cX6_looked 5 = .ok (.istore_n 1, 1) := by decide +kernel
theorem dX6_looked_6 : decode cX6_looked 6 = .ok (.iload_n 1, 1) := by decide +kernel
theorem dX6_looked_7 : decode cX6_looked 7 = .ok (.aload_n 0, 1) := by decide +kernel
theorem dX6_looked_8 : decode cX6_looked 8 = .ok (.getfield 9, 3) := by decide +kernel
theorem dX6_looked_11 : decode cX6_looked 11 = .ok (.iconst 3, 1) := by decide +kernel
theorem dX6_looked_12 : decode cX6_looked 12 = .ok (.iaload, 1) := by decide +kernel
theorem dX6_looked_13 : decode cX6_looked 13 = .ok (.if_icmp .ge 52, 3) := by decide +kernel
theorem dX6_looked_16 : decode cX6_looked 16 = .ok (.aload_n 0, 1) := by decide +kernel
theorem dX6_looked_17 : decode cX6_looked 17 = .ok (.getfield 9, 3) := by decide +kernel
theorem dX6_looked_20 : decode cX6_looked 20 = .ok (.bipush 91, 2) := by decide +kernel
theorem dX6_looked_22 : decode cX6_looked 22 = .ok (.iload_n 1, 1) := by decide +kernel
theorem dX6_looked_23 : decode cX6_looked 23 = .ok (.iadd, 1) := by decide +kernel
theorem dX6_looked_24 : decode cX6_looked 24 = .ok (.iaload, 1) := by decide +kernel
theorem dX6_looked_25 : decode cX6_looked 25 = .ok (.istore_n 2, 1) := by decide +kernel
theorem dX6_looked_26 : decode cX6_looked 26 = .ok (.aload_n 0, 1) := by decide +kernel
theorem dX6_looked_27 : decode cX6_looked 27 = .ok (.iload_n 2, 1) := by decide +kernel
theorem dX6_looked_28 : decode cX6_looked 28 = .ok (.aload_n 0, 1) := by decide +kernel
theorem dX6_looked_29 : decode cX6_looked 29 = .ok (.iload_n 2, 1) := by decide +kernel
theorem dX6_looked_30 : decode cX6_looked 30 = .ok (.invokevirtual 166, 3) := by decide +kernel
theorem dX6_looked_33 : decode cX6_looked 33 = .ok (.aload_n 0, 1) := by decide +kernel
theorem dX6_looked_34 : decode cX6_looked 34 = .ok (.getfield 9, 3) := by decide +kernel
theorem dX6_looked_37 : decode cX6_looked 37 = .ok (.bipush 99, 2) := by decide +kernel
theorem dX6_looked_39 : decode cX6_looked 39 = .ok (.iload_n 1, 1) := by decide +kernel
theorem dX6_looked_40 : decode cX6_looked 40 = .ok (.iadd, 1) := by decide +kernel
theorem dX6_looked_41 : decode cX6_looked 41 = .ok (.iaload, 1) := by decide +kernel
theorem dX6_looked_42 : decode cX6_looked 42 = .ok (.invokevirtual 172, 3) := by decide +kernel
theorem dX6_looked_45 : decode cX6_looked 45 = .ok (.aload_n 0, 1) := by decide +kernel
theorem dX6_looked_46 : decode cX6_looked 46 = .ok (.getfield 9, 3) := by decide +kernel
theorem dX6_looked_49 : decode cX6_looked 49 = .ok (.bipush 107, 2) := by decide +kernel
theorem dX6_looked_51 : decode cX6_looked 51 = .ok (.iload_n 1, 1) := by decide +kernel
theorem dX6_looked_52 : decode cX6_looked 52 = .ok (.iadd, 1) := by decide +kernel
theorem dX6_looked_53 : decode cX6_looked 53 = .ok (.iaload, 1) := by decide +kernel
theorem dX6_looked_54 : decode cX6_looked 54 = .ok (.if_icmp .eq 5, 3) := by decide +kernel
theorem dX6_looked_57 : decode cX6_looked 57 = .ok (.iload_n 1, 1) := by decide +kernel
theorem dX6_looked_58 : decode cX6_looked 58 = .ok (.ireturn, 1) := by decide +kernel
theorem dX6_looked_59 : decode cX6_looked 59 = .ok (.iinc 1 1, 3) := by decide +kernel
theorem dX6_looked_62 : decode cX6_looked 62 = .ok (.goto (-56), 3) := by decide +kernel
theorem dX6_looked_65 : decode cX6_looked 65 = .ok (.bipush (-5), 2) := by decide +kernel
theorem dX6_looked_67 : decode cX6_looked 67 = .ok (.ireturn, 1) := by decide +kernel
abbrev rm_X6_looked : Room := { frames := 3, cells := 0, slots := 0, locals := 80 }
abbrev jJ_X6_looked (l : Launch) (G : jx_G) (sz : Nat) (out : (Int32 × jx_M)) (pc : Nat) (lv : List (Nat × Value)) (st : List Value) (σ : jx_M) : Prop := jx_J l (mm_env G) (mm_dyn G) (mm_rg G) sz RX6 "looked" cX6_looked 3 (some .int) rm_X6_looked (fun below args s => MQ below (jx_Qi (mm_dyn G) out.2 out.1 (jx_A (mm_rg G) sz)) args s 0 0 (jx_A (mm_rg G) sz)) 0 0 pc lv st σ
def g_X6_looked_6 (k6 : jx_M → Int32 → Option (Int32 × jx_M)) (σ : jx_M) (v1 : Int32) : Option (Int32 × jx_M) :=
  if (σ 1 3) ≤ v1 then some ((-5 : Int32), σ) else jx_gd (jx_in ((91 : Int32) + v1) 920) (jx_lt ((σ 1 ((91 : Int32) + v1).toNatClampNeg)) (fun x3 => jx_bd (f_X6_setsOf σ x3) (fun q4 => jx_gd (jx_in ((99 : Int32) + v1) 920) (jx_bd (f_X6_lampAt σ x3 q4 (σ 1 ((99 : Int32) + v1).toNatClampNeg)) (fun q6 => jx_gd (jx_in ((107 : Int32) + v1) 920) (if q6.1 = (q6.2 1 ((107 : Int32) + v1).toNatClampNeg) then jx_lt (v1 + (1 : Int32)) (fun x9 => (k6 q6.2 x9)) else some (v1, q6.2)))))))
set_option maxHeartbeats 4000000 in
set_option maxRecDepth 100000 in
theorem jg_X6_looked_6 (l : Launch) (G : jx_G) (hG : mm_ok G) (sz : Nat) (out : (Int32 × jx_M)) (k6 : jx_M → Int32 → Option (Int32 × jx_M)) (h6 : ∀ (σ : jx_M) (v1 : Int32), k6 σ v1 = some out → jJ_X6_looked l G sz out 6 [(0, .ref (G.2 10)), (1, .int v1)] [] σ) (σ : jx_M) (v1 : Int32) (h : g_X6_looked_6 k6 σ v1 = some out) : jJ_X6_looked l G sz out 6 [(0, .ref (G.2 10)), (1, .int v1)] [] σ := by
  unfold g_X6_looked_6 at h
  refine jx_iload_n (pc := 6) (k0 := 1) rfl dX6_looked_6 ?_
  refine jx_aload_n (pc := 7) (k0 := 0) rfl dX6_looked_7 ?_
  refine mm_g_s (pc := 8) fl_X6_9 dX6_looked_8 ?_
  refine jx_iconst (pc := 11) (v := (3 : Int32)) (by decide) dX6_looked_11 ?_
  refine mm_l_s (pc := 12) (j := 3) (jx_in_o (by decide)) (by decide) dX6_looked_12 ?_
  refine jx_icmp_ge (pc := 13) (tgt := 65) dX6_looked_13 (by decide) (fun c1 => ?_) (fun c1 => ?_)
  · have h := jx_t c1 h
    refine jx_bipush (pc := 65) (v := (-5 : Int32)) (by decide) dX6_looked_65 ?_
    have h := Option.some.inj h
    subst h
    exact jx_iret (pc := 67) dX6_looked_67
  · have h := jx_f c1 h
    refine jx_aload_n (pc := 16) (k0 := 0) rfl dX6_looked_16 ?_
    refine mm_g_s (pc := 17) fl_X6_9 dX6_looked_17 ?_
    refine jx_bipush (pc := 20) (v := (91 : Int32)) (by decide) dX6_looked_20 ?_
    refine jx_iload_n (pc := 22) (k0 := 1) rfl dX6_looked_22 ?_
    refine jx_iadd (pc := 23) dX6_looked_23 ?_
    obtain ⟨g2, h⟩ := jx_gd_o h
    refine mm_l_s (pc := 24) (jx_in_o g2) rfl dX6_looked_24 ?_
    obtain ⟨x3, ex3, h⟩ := jx_lt_o h
    refine jx_istore_n (pc := 25) (i := 2) rfl ex3 (by decide) (lv' := [(2, .int x3), (0, .ref (G.2 10)), (1, .int v1)]) rfl dX6_looked_25 ?_
    refine jx_aload_n (pc := 26) (k0 := 0) rfl dX6_looked_26 ?_
    refine jx_iload_n (pc := 27) (k0 := 2) rfl dX6_looked_27 ?_
    refine jx_aload_n (pc := 28) (k0 := 0) rfl dX6_looked_28 ?_
    refine jx_iload_n (pc := 29) (k0 := 2) rfl dX6_looked_29 ?_
    obtain ⟨q4, eq4, h⟩ := jx_bd_o h
    refine jx_callVi (pc := 30) [.int x3] (fun sz' => k_X6_setsOf l G hG sz' σ x3 q4 eq4) kv_X6_166 mm_jok mm_rc rfl rfl (Nat.le_of_ble_eq_true rfl) ⟨⟨rfl, rfl⟩, ⟨Nat.le_of_ble_eq_true rfl, Nat.le_of_ble_eq_true rfl⟩, Nat.zero_le _, Nat.zero_le _⟩ dX6_looked_30 ?_
    refine jx_aload_n (pc := 33) (k0 := 0) rfl dX6_looked_33 ?_
    refine mm_g_s (pc := 34) fl_X6_9 dX6_looked_34 ?_
    refine jx_bipush (pc := 37) (v := (99 : Int32)) (by decide) dX6_looked_37 ?_
    refine jx_iload_n (pc := 39) (k0 := 1) rfl dX6_looked_39 ?_
    refine jx_iadd (pc := 40) dX6_looked_40 ?_
    obtain ⟨g5, h⟩ := jx_gd_o h
    refine mm_l_s (pc := 41) (jx_in_o g5) rfl dX6_looked_41 ?_
    obtain ⟨q6, eq6, h⟩ := jx_bd_o h
    refine jx_callVi (pc := 42) [.int x3, .int q4, .int (σ 1 ((99 : Int32) + v1).toNatClampNeg)] (fun sz' => k_X6_lampAt l G hG sz' σ x3 q4 (σ 1 ((99 : Int32) + v1).toNatClampNeg) q6 eq6) kv_X6_172 mm_jok mm_rc rfl rfl (Nat.le_of_ble_eq_true rfl) ⟨⟨rfl, rfl⟩, ⟨Nat.le_of_ble_eq_true rfl, Nat.le_of_ble_eq_true rfl⟩, Nat.zero_le _, Nat.zero_le _⟩ dX6_looked_42 ?_
    refine jx_aload_n (pc := 45) (k0 := 0) rfl dX6_looked_45 ?_
    refine mm_g_s (pc := 46) fl_X6_9 dX6_looked_46 ?_
    refine jx_bipush (pc := 49) (v := (107 : Int32)) (by decide) dX6_looked_49 ?_
    refine jx_iload_n (pc := 51) (k0 := 1) rfl dX6_looked_51 ?_
    refine jx_iadd (pc := 52) dX6_looked_52 ?_
    obtain ⟨g7, h⟩ := jx_gd_o h
    refine mm_l_s (pc := 53) (jx_in_o g7) rfl dX6_looked_53 ?_
    refine jx_icmp_eq (pc := 54) (tgt := 59) dX6_looked_54 (by decide) (fun c8 => ?_) (fun c8 => ?_)
    · have h := jx_t c8 h
      obtain ⟨x9, ex9, h⟩ := jx_lt_o h
      refine jx_iinc (pc := 59) (i := 1) (v := v1) rfl ex9 (n := 1) (by decide) (by decide) (lv' := [(1, .int x9), (2, .int x3), (0, .ref (G.2 10))]) rfl dX6_looked_59 ?_
      refine jx_goto (pc := 62) (tgt := 6) dX6_looked_62 (by decide) ?_
      exact jx_sub [2, 0] rfl (h6 q6.2 x9 h)
    · have h := jx_f c8 h
      refine jx_iload_n (pc := 57) (k0 := 1) rfl dX6_looked_57 ?_
      have h := Option.some.inj h
      subst h
      exact jx_iret (pc := 58) dX6_looked_58
def b_X6_looked_6  : Nat → jx_M → Int32 → Option (Int32 × jx_M)
  | 0, _, _ => none
  | n + 1, σ, v1 => g_X6_looked_6 (b_X6_looked_6 n) σ v1
theorem jb_X6_looked_6 (l : Launch) (G : jx_G) (hG : mm_ok G) (sz : Nat) (out : (Int32 × jx_M))  : ∀ (n : Nat) (σ : jx_M) (v1 : Int32), b_X6_looked_6 n σ v1 = some out → jJ_X6_looked l G sz out 6 [(0, .ref (G.2 10)), (1, .int v1)] [] σ := by
  intro n
  induction n with
  | zero =>
    intro σ v1 h
    cases h
  | succ n ih =>
    intro σ v1 h
    exact jg_X6_looked_6 l G hG sz out (b_X6_looked_6 n) ih σ v1 h
def f_X6_looked (σ : jx_M)  : Option (Int32 × jx_M) :=
  jx_bd (f_X6_looksForNight σ) (fun q1 => (b_X6_looked_6 jx_fuel q1 (0 : Int32)))
set_option maxHeartbeats 4000000 in
set_option maxRecDepth 100000 in
theorem k_X6_looked (l : Launch) (G : jx_G) (hG : mm_ok G) (sz : Nat) (σ : jx_M)  (out : (Int32 × jx_M)) (h : f_X6_looked σ = some out) : Met l yX6_looked (Cond.code yX6_looked cX6_looked 3 (some .int) :: jx_ws) rm_X6_looked (jx_Pc (mm_env G) (mm_dyn G) (mm_rg G) sz σ [.ref (G.2 10)]) (jx_Qi (mm_dyn G) out.2 out.1 (jx_A (mm_rg G) sz)) 0 0 (jx_A (mm_rg G) sz) := by
  unfold f_X6_looked at h
  refine jx_met (by decide) (Nat.le_of_ble_eq_true rfl) ?_
  refine jx_sub (lv' := [(0, .ref (G.2 10))]) [0] rfl ?_
  refine jx_aload_n (pc := 0) (k0 := 0) rfl dX6_looked_0 ?_
  obtain ⟨q1, eq1, h⟩ := jx_bd_o h
  refine jx_callVv (pc := 1) [] (fun sz' => k_X6_looksForNight l G hG sz' σ q1 eq1) kv_X6_185 mm_jok mm_rc rfl rfl (Nat.le_of_ble_eq_true rfl) ⟨⟨rfl, rfl⟩, ⟨Nat.le_of_ble_eq_true rfl, Nat.le_of_ble_eq_true rfl⟩, Nat.zero_le _, Nat.zero_le _⟩ dX6_looked_1 ?_
  refine jx_iconst (pc := 4) (v := (0 : Int32)) (by decide) dX6_looked_4 ?_
  refine jx_istore_n (pc := 5) (i := 1) rfl rfl (by decide) (lv' := [(1, .int (0 : Int32)), (0, .ref (G.2 10))]) rfl dX6_looked_5 ?_
  exact jx_sub [1, 0] rfl (jb_X6_looked_6 l G hG sz out jx_fuel q1 (0 : Int32) h)
theorem dX6_plainBurns_0 : decode cX6_plainBurns 0 = .ok (.aload_n 0, 1) := by decide +kernel
theorem dX6_plainBurns_1 : decode cX6_plainBurns 1 = .ok (.iconst 2, 1) := by decide +kernel
theorem dX6_plainBurns_2 : decode cX6_plainBurns 2 = .ok (.invokevirtual 230, 3) := by decide +kernel
theorem dX6_plainBurns_5 : decode cX6_plainBurns 5 = .ok (.aload_n 0, 1) := by decide +kernel
theorem dX6_plainBurns_6 : decode cX6_plainBurns 6 = .ok (.iload_n 1, 1) := by decide +kernel
theorem dX6_plainBurns_7 : decode cX6_plainBurns 7 = .ok (.invokevirtual 246, 3) := by decide +kernel
theorem dX6_plainBurns_10 : decode cX6_plainBurns 10 = .ok (.aload_n 0, 1) := by decide +kernel
theorem dX6_plainBurns_11 : decode cX6_plainBurns 11 = .ok (.getfield 249, 3) := by decide +kernel
theorem dX6_plainBurns_14 : decode cX6_plainBurns 14 = .ok (.isub, 1) := by decide +kernel
theorem dX6_plainBurns_15 : decode cX6_plainBurns 15 = .ok (.ireturn, 1) := by decide +kernel
abbrev rm_X6_plainBurns : Room := { frames := 3, cells := 0, slots := 0, locals := 63 }
abbrev jJ_X6_plainBurns (l : Launch) (G : jx_G) (sz : Nat) (out : (Int32 × jx_M)) (pc : Nat) (lv : List (Nat × Value)) (st : List Value) (σ : jx_M) : Prop := jx_J l (mm_env G) (mm_dyn G) (mm_rg G) sz RX6 "plainBurns" cX6_plainBurns 2 (some .int) rm_X6_plainBurns (fun below args s => MQ below (jx_Qi (mm_dyn G) out.2 out.1 (jx_A (mm_rg G) sz)) args s 0 0 (jx_A (mm_rg G) sz)) 0 0 pc lv st σ
def f_X6_plainBurns (σ : jx_M) (a1 : Int32) : Option (Int32 × jx_M) :=
  jx_bd (f_X6_ranBody σ (2 : Int32)) (fun q1 => jx_bd (f_X6_setsActs q1 a1) (fun q2 => some ((q2.1 - (q2.2 0 25)), q2.2)))
set_option maxHeartbeats 4000000 in
set_option maxRecDepth 100000 in
theorem k_X6_plainBurns (l : Launch) (G : jx_G) (hG : mm_ok G) (sz : Nat) (σ : jx_M) (a1 : Int32) (out : (Int32 × jx_M)) (h : f_X6_plainBurns σ a1 = some out) : Met l yX6_plainBurns (Cond.code yX6_plainBurns cX6_plainBurns 2 (some .int) :: jx_ws) rm_X6_plainBurns (jx_Pc (mm_env G) (mm_dyn G) (mm_rg G) sz σ [.ref (G.2 10), .int a1]) (jx_Qi (mm_dyn G) out.2 out.1 (jx_A (mm_rg G) sz)) 0 0 (jx_A (mm_rg G) sz) := by
  unfold f_X6_plainBurns at h
  refine jx_met (by decide) (Nat.le_of_ble_eq_true rfl) ?_
  refine jx_sub (lv' := [(0, .ref (G.2 10)), (1, .int a1)]) [0, 1] rfl ?_
  refine jx_aload_n (pc := 0) (k0 := 0) rfl dX6_plainBurns_0 ?_
  refine jx_iconst (pc := 1) (v := (2 : Int32)) (by decide) dX6_plainBurns_1 ?_
  obtain ⟨q1, eq1, h⟩ := jx_bd_o h
  refine jx_callVv (pc := 2) [.int (2 : Int32)] (fun sz' => k_X6_ranBody l G hG sz' σ (2 : Int32) q1 eq1) kv_X6_230 mm_jok mm_rc rfl rfl (Nat.le_of_ble_eq_true rfl) ⟨⟨rfl, rfl⟩, ⟨Nat.le_of_ble_eq_true rfl, Nat.le_of_ble_eq_true rfl⟩, Nat.zero_le _, Nat.zero_le _⟩ dX6_plainBurns_2 ?_
  refine jx_aload_n (pc := 5) (k0 := 0) rfl dX6_plainBurns_5 ?_
  refine jx_iload_n (pc := 6) (k0 := 1) rfl dX6_plainBurns_6 ?_
  obtain ⟨q2, eq2, h⟩ := jx_bd_o h
  refine jx_callVi (pc := 7) [.int a1] (fun sz' => k_X6_setsActs l G hG sz' q1 a1 q2 eq2) kv_X6_246 mm_jok mm_rc rfl rfl (Nat.le_of_ble_eq_true rfl) ⟨⟨rfl, rfl⟩, ⟨Nat.le_of_ble_eq_true rfl, Nat.le_of_ble_eq_true rfl⟩, Nat.zero_le _, Nat.zero_le _⟩ dX6_plainBurns_7 ?_
  refine jx_aload_n (pc := 10) (k0 := 0) rfl dX6_plainBurns_10 ?_
  refine mm_g_tellsV (pc := 11) fl_X6_249 dX6_plainBurns_11 ?_
  refine jx_isub (pc := 14) dX6_plainBurns_14 ?_
  have h := Option.some.inj h
  subst h
  exact jx_iret (pc := 15) dX6_plainBurns_15
theorem dX6_clauseHere_0 : decode cX6_clauseHere 0 = .ok (.aload_n 0, 1) := by decide +kernel
theorem dX6_clauseHere_1 : decode cX6_clauseHere 1 = .ok (.invokevirtual 62, 3) := by decide +kernel
theorem dX6_clauseHere_4 : decode cX6_clauseHere 4 = .ok (.lookupswitch 90 #[(104, 55), (111, 66), (115, 44), (119, 78)], 44) := by decide +kernel
theorem dX6_clauseHere_48 : decode cX6_clauseHere 48 = .ok (.aload_n 0, 1) := by decide +kernel
theorem dX6_clauseHere_49 : decode cX6_clauseHere 49 = .ok (.bipush (-10), 2) := by decide +kernel
theorem dX6_clauseHere_51 : decode cX6_clauseHere 51 = .ok (.ldc 111, 2) := by decide +kernel
theorem dX6_clauseHere_53 : decode cX6_clauseHere 53 = .ok (.invokevirtual 113, 3) := by decide +kernel
theorem dX6_clauseHere_56 : decode cX6_clauseHere 56 = .ok (.goto 43, 3) := by decide +kernel
theorem dX6_clauseHere_59 : decode cX6_clauseHere 59 = .ok (.aload_n 0, 1) := by decide +kernel
theorem dX6_clauseHere_60 : decode cX6_clauseHere 60 = .ok (.bipush (-20), 2) := by decide +kernel
theorem dX6_clauseHere_62 : decode cX6_clauseHere 62 = .ok (.ldc 117, 2) := by decide +kernel
theorem dX6_clauseHere_64 : decode cX6_clauseHere 64 = .ok (.invokevirtual 113, 3) := by decide +kernel
theorem dX6_clauseHere_67 : decode cX6_clauseHere 67 = .ok (.goto 32, 3) := by decide +kernel
theorem dX6_clauseHere_70 : decode cX6_clauseHere 70 = .ok (.aload_n 0, 1) := by decide +kernel
theorem dX6_clauseHere_71 : decode cX6_clauseHere 71 = .ok (.sipush (-200), 3) := by decide +kernel
theorem dX6_clauseHere_74 : decode cX6_clauseHere 74 = .ok (.ldc 119, 2) := by decide +kernel
theorem dX6_clauseHere_76 : decode cX6_clauseHere 76 = .ok (.invokevirtual 121, 3) := by decide +kernel
theorem dX6_clauseHere_79 : decode cX6_clauseHere 79 = .ok (.goto 20, 3) := by decide +kernel
theorem dX6_clauseHere_82 : decode cX6_clauseHere 82 = .ok (.aload_n 0, 1) := by decide +kernel
theorem dX6_clauseHere_83 : decode cX6_clauseHere 83 = .ok (.sipush (-400), 3) := by decide +kernel
theorem dX6_clauseHere_86 : decode cX6_clauseHere 86 = .ok (.ldc 124, 2) := by decide +kernel
theorem dX6_clauseHere_88 : decode cX6_clauseHere 88 = .ok (.invokevirtual 121, 3) := by decide +kernel
theorem dX6_clauseHere_91 : decode cX6_clauseHere 91 = .ok (.goto 8, 3) := by decide +kernel
theorem dX6_clauseHere_94 : decode cX6_clauseHere 94 = .ok (.aload_n 0, 1) := by decide +kernel
theorem dX6_clauseHere_95 : decode cX6_clauseHere 95 = .ok (.iconst 1, 1) := by decide +kernel
theorem dX6_clauseHere_96 : decode cX6_clauseHere 96 = .ok (.putfield 58, 3) := by decide +kernel
theorem dX6_clauseHere_99 : decode cX6_clauseHere 99 = .ok (.return_, 1) := by decide +kernel
abbrev rm_X6_clauseHere : Room := { frames := 44, cells := 0, slots := 0, locals := 943 }
abbrev jJ_X6_clauseHere (l : Launch) (G : jx_G) (sz : Nat) (out : jx_M) (pc : Nat) (lv : List (Nat × Value)) (st : List Value) (σ : jx_M) : Prop := jx_J l (mm_env G) (mm_dyn G) (mm_rg G) sz RX6 "clauseHere" cX6_clauseHere 1 none rm_X6_clauseHere (fun below args s => MQ below (jx_Qv (mm_dyn G) out (jx_A (mm_rg G) sz)) args s 0 0 (jx_A (mm_rg G) sz)) 0 0 pc lv st σ
def f_X6_clauseHere (σ : jx_M)  : Option jx_M :=
  jx_bd (f_X6_here σ) (fun q1 => if q1 = (104 : Int32) then jx_bd (f_X6_plain σ (-20 : Int32) 4) (fun q2 => some q2) else if q1 = (111 : Int32) then jx_bd (f_X6_much σ (-200 : Int32) 5) (fun q4 => some q4) else if q1 = (115 : Int32) then jx_bd (f_X6_plain σ (-10 : Int32) 3) (fun q6 => some q6) else if q1 = (119 : Int32) then jx_bd (f_X6_much σ (-400 : Int32) 6) (fun q8 => some q8) else jx_lt (jx_mu σ 0 7 (1 : Int32)) (fun σ10 => some σ10))
set_option maxHeartbeats 4000000 in
set_option maxRecDepth 100000 in
theorem k_X6_clauseHere (l : Launch) (G : jx_G) (hG : mm_ok G) (sz : Nat) (σ : jx_M)  (out : jx_M) (h : f_X6_clauseHere σ = some out) : Met l yX6_clauseHere (Cond.code yX6_clauseHere cX6_clauseHere 1 none :: jx_ws) rm_X6_clauseHere (jx_Pc (mm_env G) (mm_dyn G) (mm_rg G) sz σ [.ref (G.2 10)]) (jx_Qv (mm_dyn G) out (jx_A (mm_rg G) sz)) 0 0 (jx_A (mm_rg G) sz) := by
  unfold f_X6_clauseHere at h
  refine jx_met (by decide) (Nat.le_of_ble_eq_true rfl) ?_
  refine jx_sub (lv' := [(0, .ref (G.2 10))]) [0] rfl ?_
  refine jx_aload_n (pc := 0) (k0 := 0) rfl dX6_clauseHere_0 ?_
  obtain ⟨q1, eq1, h⟩ := jx_bd_o h
  refine jx_callVi (pc := 1) [] (fun sz' => k_X6_here l G hG sz' σ q1 eq1) kv_X6_62 mm_jok mm_rc rfl rfl (Nat.le_of_ble_eq_true rfl) ⟨⟨rfl, rfl⟩, ⟨Nat.le_of_ble_eq_true rfl, Nat.le_of_ble_eq_true rfl⟩, Nat.zero_le _, Nat.zero_le _⟩ dX6_clauseHere_1 ?_
  by_cases c3 : q1 = (104 : Int32)
  · have h := jx_t c3 h
    refine jx_look (pc := 4) (tgt := 59) dX6_clauseHere_4 (by decide) (off := 55) (by rw [c3]; decide) (by decide) ?_
    refine jx_aload_n (pc := 59) (k0 := 0) rfl dX6_clauseHere_59 ?_
    refine jx_bipush (pc := 60) (v := (-20 : Int32)) (by decide) dX6_clauseHere_60 ?_
    refine st_ldc_X6_117 (pc := 62) mm_hex dX6_clauseHere_62 ?_
    obtain ⟨q2, eq2, h⟩ := jx_bd_o h
    refine jx_callVv (pc := 64) [.int (-20 : Int32), .ref (G.2 1004)] (fun sz' => k_X6_plain l G hG sz' σ (-20 : Int32) 4 q2 eq2) kv_X6_113 mm_jok mm_rc rfl rfl (Nat.le_of_ble_eq_true rfl) ⟨⟨rfl, rfl⟩, ⟨Nat.le_of_ble_eq_true rfl, Nat.le_of_ble_eq_true rfl⟩, Nat.zero_le _, Nat.zero_le _⟩ dX6_clauseHere_64 ?_
    refine jx_goto (pc := 67) (tgt := 99) dX6_clauseHere_67 (by decide) ?_
    have h := Option.some.inj h
    subst h
    exact jx_vret (pc := 99) dX6_clauseHere_99
  have h := jx_f c3 h
  by_cases c5 : q1 = (111 : Int32)
  · have h := jx_t c5 h
    refine jx_look (pc := 4) (tgt := 70) dX6_clauseHere_4 (by decide) (off := 66) (by rw [c5]; decide) (by decide) ?_
    refine jx_aload_n (pc := 70) (k0 := 0) rfl dX6_clauseHere_70 ?_
    refine jx_sipush (pc := 71) (v := (-200 : Int32)) (by decide) dX6_clauseHere_71 ?_
    refine st_ldc_X6_119 (pc := 74) mm_hex dX6_clauseHere_74 ?_
    obtain ⟨q4, eq4, h⟩ := jx_bd_o h
    refine jx_callVv (pc := 76) [.int (-200 : Int32), .ref (G.2 1005)] (fun sz' => k_X6_much l G hG sz' σ (-200 : Int32) 5 q4 eq4) kv_X6_121 mm_jok mm_rc rfl rfl (Nat.le_of_ble_eq_true rfl) ⟨⟨rfl, rfl⟩, ⟨Nat.le_of_ble_eq_true rfl, Nat.le_of_ble_eq_true rfl⟩, Nat.zero_le _, Nat.zero_le _⟩ dX6_clauseHere_76 ?_
    refine jx_goto (pc := 79) (tgt := 99) dX6_clauseHere_79 (by decide) ?_
    have h := Option.some.inj h
    subst h
    exact jx_vret (pc := 99) dX6_clauseHere_99
  have h := jx_f c5 h
  by_cases c7 : q1 = (115 : Int32)
  · have h := jx_t c7 h
    refine jx_look (pc := 4) (tgt := 48) dX6_clauseHere_4 (by decide) (off := 44) (by rw [c7]; decide) (by decide) ?_
    refine jx_aload_n (pc := 48) (k0 := 0) rfl dX6_clauseHere_48 ?_
    refine jx_bipush (pc := 49) (v := (-10 : Int32)) (by decide) dX6_clauseHere_49 ?_
    refine st_ldc_X6_111 (pc := 51) mm_hex dX6_clauseHere_51 ?_
    obtain ⟨q6, eq6, h⟩ := jx_bd_o h
    refine jx_callVv (pc := 53) [.int (-10 : Int32), .ref (G.2 1003)] (fun sz' => k_X6_plain l G hG sz' σ (-10 : Int32) 3 q6 eq6) kv_X6_113 mm_jok mm_rc rfl rfl (Nat.le_of_ble_eq_true rfl) ⟨⟨rfl, rfl⟩, ⟨Nat.le_of_ble_eq_true rfl, Nat.le_of_ble_eq_true rfl⟩, Nat.zero_le _, Nat.zero_le _⟩ dX6_clauseHere_53 ?_
    refine jx_goto (pc := 56) (tgt := 99) dX6_clauseHere_56 (by decide) ?_
    have h := Option.some.inj h
    subst h
    exact jx_vret (pc := 99) dX6_clauseHere_99
  have h := jx_f c7 h
  by_cases c9 : q1 = (119 : Int32)
  · have h := jx_t c9 h
    refine jx_look (pc := 4) (tgt := 82) dX6_clauseHere_4 (by decide) (off := 78) (by rw [c9]; decide) (by decide) ?_
    refine jx_aload_n (pc := 82) (k0 := 0) rfl dX6_clauseHere_82 ?_
    refine jx_sipush (pc := 83) (v := (-400 : Int32)) (by decide) dX6_clauseHere_83 ?_
    refine st_ldc_X6_124 (pc := 86) mm_hex dX6_clauseHere_86 ?_
    obtain ⟨q8, eq8, h⟩ := jx_bd_o h
    refine jx_callVv (pc := 88) [.int (-400 : Int32), .ref (G.2 1006)] (fun sz' => k_X6_much l G hG sz' σ (-400 : Int32) 6 q8 eq8) kv_X6_121 mm_jok mm_rc rfl rfl (Nat.le_of_ble_eq_true rfl) ⟨⟨rfl, rfl⟩, ⟨Nat.le_of_ble_eq_true rfl, Nat.le_of_ble_eq_true rfl⟩, Nat.zero_le _, Nat.zero_le _⟩ dX6_clauseHere_88 ?_
    refine jx_goto (pc := 91) (tgt := 99) dX6_clauseHere_91 (by decide) ?_
    have h := Option.some.inj h
    subst h
    exact jx_vret (pc := 99) dX6_clauseHere_99
  have h := jx_f c9 h
  refine jx_look (pc := 4) (tgt := 94) (off := 90) dX6_clauseHere_4 (by decide) ((lv_osw c3 (by decide)).trans ((lv_osw c5 (by decide)).trans ((lv_osw c7 (by decide)).trans ((lv_osw c9 (by decide)).trans rfl)))) (by decide) ?_
  refine jx_aload_n (pc := 94) (k0 := 0) rfl dX6_clauseHere_94 ?_
  refine jx_iconst (pc := 95) (v := (1 : Int32)) (by decide) dX6_clauseHere_95 ?_
  obtain ⟨σ10, eσ10, h⟩ := jx_lt_o h
  refine mm_p_isWrong (pc := 96) hG (by decide) fl_X6_58 eσ10 dX6_clauseHere_96 ?_
  have h := Option.some.inj h
  subst h
  exact jx_vret (pc := 99) dX6_clauseHere_99
theorem dX6_laysAll_0 : decode cX6_laysAll 0 = .ok (.iconst 0, 1) := by decide +kernel
theorem dX6_laysAll_1 : decode cX6_laysAll 1 = .ok (.istore_n 1, 1) := by decide +kernel
theorem dX6_laysAll_2 : decode cX6_laysAll 2 = .ok (.iload_n 1, 1) := by decide +kernel
theorem dX6_laysAll_3 : decode cX6_laysAll 3 = .ok (.aload_n 0, 1) := by decide +kernel
theorem dX6_laysAll_4 : decode cX6_laysAll 4 = .ok (.getfield 9, 3) := by decide +kernel
theorem dX6_laysAll_7 : decode cX6_laysAll 7 = .ok (.iconst 0, 1) := by decide +kernel
theorem dX6_laysAll_8 : decode cX6_laysAll 8 = .ok (.iaload, 1) := by decide +kernel
theorem dX6_laysAll_9 : decode cX6_laysAll 9 = .ok (.if_icmp .ge 19, 3) := by decide +kernel
theorem dX6_laysAll_12 : decode cX6_laysAll 12 = .ok (.aload_n 0, 1) := by decide +kernel
theorem dX6_laysAll_13 : decode cX6_laysAll 13 = .ok (.iload_n 1, 1) := by decide +kernel
theorem dX6_laysAll_14 : decode cX6_laysAll 14 = .ok (.aload_n 0, 1) := by decide +kernel
theorem dX6_laysAll_15 : decode cX6_laysAll 15 = .ok (.iload_n 1, 1) := by decide +kernel
theorem dX6_laysAll_16 : decode cX6_laysAll 16 = .ok (.invokevirtual 166, 3) := by decide +kernel
theorem dX6_laysAll_19 : decode cX6_laysAll 19 = .ok (.invokevirtual 176, 3) := by decide +kernel
theorem dX6_laysAll_22 : decode cX6_laysAll 22 = .ok (.iinc 1 1, 3) := by decide +kernel
theorem dX6_laysAll_25 : decode cX6_laysAll 25 = .ok (.goto (-23), 3) := by decide +kernel
theorem dX6_laysAll_28 : decode cX6_laysAll 28 = .ok (.return_, 1) := by decide +kernel
abbrev rm_X6_laysAll : Room := { frames := 4, cells := 0, slots := 0, locals := 102 }
abbrev jJ_X6_laysAll (l : Launch) (G : jx_G) (sz : Nat) (out : jx_M) (pc : Nat) (lv : List (Nat × Value)) (st : List Value) (σ : jx_M) : Prop := jx_J l (mm_env G) (mm_dyn G) (mm_rg G) sz RX6 "laysAll" cX6_laysAll 2 none rm_X6_laysAll (fun below args s => MQ below (jx_Qv (mm_dyn G) out (jx_A (mm_rg G) sz)) args s 0 0 (jx_A (mm_rg G) sz)) 0 0 pc lv st σ
def g_X6_laysAll_2 (k2 : jx_M → Int32 → Option jx_M) (σ : jx_M) (v1 : Int32) : Option jx_M :=
  if (σ 1 0) ≤ v1 then some σ else jx_bd (f_X6_setsOf σ v1) (fun q2 => jx_bd (f_X6_lays σ v1 q2) (fun q3 => jx_lt (v1 + (1 : Int32)) (fun x4 => (k2 q3 x4))))
set_option maxHeartbeats 4000000 in
set_option maxRecDepth 100000 in
theorem jg_X6_laysAll_2 (l : Launch) (G : jx_G) (hG : mm_ok G) (sz : Nat) (out : jx_M) (k2 : jx_M → Int32 → Option jx_M) (h2 : ∀ (σ : jx_M) (v1 : Int32), k2 σ v1 = some out → jJ_X6_laysAll l G sz out 2 [(0, .ref (G.2 10)), (1, .int v1)] [] σ) (σ : jx_M) (v1 : Int32) (h : g_X6_laysAll_2 k2 σ v1 = some out) : jJ_X6_laysAll l G sz out 2 [(0, .ref (G.2 10)), (1, .int v1)] [] σ := by
  unfold g_X6_laysAll_2 at h
  refine jx_iload_n (pc := 2) (k0 := 1) rfl dX6_laysAll_2 ?_
  refine jx_aload_n (pc := 3) (k0 := 0) rfl dX6_laysAll_3 ?_
  refine mm_g_s (pc := 4) fl_X6_9 dX6_laysAll_4 ?_
  refine jx_iconst (pc := 7) (v := (0 : Int32)) (by decide) dX6_laysAll_7 ?_
  refine mm_l_s (pc := 8) (j := 0) (jx_in_o (by decide)) (by decide) dX6_laysAll_8 ?_
  refine jx_icmp_ge (pc := 9) (tgt := 28) dX6_laysAll_9 (by decide) (fun c1 => ?_) (fun c1 => ?_)
  · have h := jx_t c1 h
    have h := Option.some.inj h
    subst h
    exact jx_vret (pc := 28) dX6_laysAll_28
  · have h := jx_f c1 h
    refine jx_aload_n (pc := 12) (k0 := 0) rfl dX6_laysAll_12 ?_
    refine jx_iload_n (pc := 13) (k0 := 1) rfl dX6_laysAll_13 ?_
    refine jx_aload_n (pc := 14) (k0 := 0) rfl dX6_laysAll_14 ?_
    refine jx_iload_n (pc := 15) (k0 := 1) rfl dX6_laysAll_15 ?_
    obtain ⟨q2, eq2, h⟩ := jx_bd_o h
    refine jx_callVi (pc := 16) [.int v1] (fun sz' => k_X6_setsOf l G hG sz' σ v1 q2 eq2) kv_X6_166 mm_jok mm_rc rfl rfl (Nat.le_of_ble_eq_true rfl) ⟨⟨rfl, rfl⟩, ⟨Nat.le_of_ble_eq_true rfl, Nat.le_of_ble_eq_true rfl⟩, Nat.zero_le _, Nat.zero_le _⟩ dX6_laysAll_16 ?_
    obtain ⟨q3, eq3, h⟩ := jx_bd_o h
    refine jx_callVv (pc := 19) [.int v1, .int q2] (fun sz' => k_X6_lays l G hG sz' σ v1 q2 q3 eq3) kv_X6_176 mm_jok mm_rc rfl rfl (Nat.le_of_ble_eq_true rfl) ⟨⟨rfl, rfl⟩, ⟨Nat.le_of_ble_eq_true rfl, Nat.le_of_ble_eq_true rfl⟩, Nat.zero_le _, Nat.zero_le _⟩ dX6_laysAll_19 ?_
    obtain ⟨x4, ex4, h⟩ := jx_lt_o h
    refine jx_iinc (pc := 22) (i := 1) (v := v1) rfl ex4 (n := 1) (by decide) (by decide) (lv' := [(1, .int x4), (0, .ref (G.2 10))]) rfl dX6_laysAll_22 ?_
    refine jx_goto (pc := 25) (tgt := 2) dX6_laysAll_25 (by decide) ?_
    exact jx_sub [1, 0] rfl (h2 q3 x4 h)
def b_X6_laysAll_2  : Nat → jx_M → Int32 → Option jx_M
  | 0, _, _ => none
  | n + 1, σ, v1 => g_X6_laysAll_2 (b_X6_laysAll_2 n) σ v1
theorem jb_X6_laysAll_2 (l : Launch) (G : jx_G) (hG : mm_ok G) (sz : Nat) (out : jx_M)  : ∀ (n : Nat) (σ : jx_M) (v1 : Int32), b_X6_laysAll_2 n σ v1 = some out → jJ_X6_laysAll l G sz out 2 [(0, .ref (G.2 10)), (1, .int v1)] [] σ := by
  intro n
  induction n with
  | zero =>
    intro σ v1 h
    cases h
  | succ n ih =>
    intro σ v1 h
    exact jg_X6_laysAll_2 l G hG sz out (b_X6_laysAll_2 n) ih σ v1 h
def f_X6_laysAll (σ : jx_M)  : Option jx_M :=
  (b_X6_laysAll_2 jx_fuel σ (0 : Int32))
set_option maxHeartbeats 4000000 in
set_option maxRecDepth 100000 in
theorem k_X6_laysAll (l : Launch) (G : jx_G) (hG : mm_ok G) (sz : Nat) (σ : jx_M)  (out : jx_M) (h : f_X6_laysAll σ = some out) : Met l yX6_laysAll (Cond.code yX6_laysAll cX6_laysAll 2 none :: jx_ws) rm_X6_laysAll (jx_Pc (mm_env G) (mm_dyn G) (mm_rg G) sz σ [.ref (G.2 10)]) (jx_Qv (mm_dyn G) out (jx_A (mm_rg G) sz)) 0 0 (jx_A (mm_rg G) sz) := by
  unfold f_X6_laysAll at h
  refine jx_met (by decide) (Nat.le_of_ble_eq_true rfl) ?_
  refine jx_sub (lv' := [(0, .ref (G.2 10))]) [0] rfl ?_
  refine jx_iconst (pc := 0) (v := (0 : Int32)) (by decide) dX6_laysAll_0 ?_
  refine jx_istore_n (pc := 1) (i := 1) rfl rfl (by decide) (lv' := [(1, .int (0 : Int32)), (0, .ref (G.2 10))]) rfl dX6_laysAll_1 ?_
  exact jx_sub [1, 0] rfl (jb_X6_laysAll_2 l G hG sz out jx_fuel σ (0 : Int32) h)
theorem dX6_looksForBest_0 : decode cX6_looksForBest 0 = .ok (.aload_n 0, 1) := by decide +kernel
theorem dX6_looksForBest_1 : decode cX6_looksForBest 1 = .ok (.iconst (-1), 1) := by decide +kernel
theorem dX6_looksForBest_2 : decode cX6_looksForBest 2 = .ok (.putfield 212, 3) := by decide +kernel
theorem dX6_looksForBest_5 : decode cX6_looksForBest 5 = .ok (.iconst 0, 1) := by decide +kernel
theorem dX6_looksForBest_6 : decode cX6_looksForBest 6 = .ok (.istore_n 2, 1) := by decide +kernel
theorem dX6_looksForBest_7 : decode cX6_looksForBest 7 = .ok (.iload_n 2, 1) := by decide +kernel
theorem dX6_looksForBest_8 : decode cX6_looksForBest 8 = .ok (.aload_n 0, 1) := by decide +kernel
theorem dX6_looksForBest_9 : decode cX6_looksForBest 9 = .ok (.getfield 9, 3) := by decide +kernel
theorem dX6_looksForBest_12 : decode cX6_looksForBest 12 = .ok (.bipush 6, 2) := by decide +kernel
theorem dX6_looksForBest_14 : decode cX6_looksForBest 14 = .ok (.iaload, 1) := by decide +kernel
theorem dX6_looksForBest_15 : decode cX6_looksForBest 15 = .ok (.if_icmp .ge 78, 3) := by decide +kernel
theorem dX6_looksForBest_18 : decode cX6_looksForBest 18 = .ok (.aload_n 0, 1) := by decide +kernel
theorem dX6_looksForBest_19 : decode cX6_looksForBest 19 = .ok (.iload_n 1, 1) := by decide +kernel
theorem dX6_looksForBest_20 : decode cX6_looksForBest 20 = .ok (.iload_n 2, 1) := by decide +kernel
theorem dX6_looksForBest_21 : decode cX6_looksForBest 21 = .ok (.invokevirtual 176, 3) := by decide +kernel
theorem dX6_looksForBest_24 : decode cX6_looksForBest 24 = .ok (.aload_n 0, 1) := by decide +kernel
theorem dX6_looksForBest_25 : decode cX6_looksForBest 25 = .ok (.iload_n 1, 1) := by decide +kernel
theorem dX6_looksForBest_26 : decode cX6_looksForBest 26 = .ok (.invokevirtual 215, 3) := by decide +kernel
theorem dX6_looksForBest_29 : decode cX6_looksForBest 29 = .ok (.istore_n 3, 1) := by decide +kernel
theorem dX6_looksForBest_30 : decode cX6_looksForBest 30 = .ok (.aload_n 0, 1) := by decide +kernel
theorem dX6_looksForBest_31 : decode cX6_looksForBest 31 = .ok (.getfield 212, 3) := by decide +kernel
theorem dX6_looksForBest_34 : decode cX6_looksForBest 34 = .ok (.iconst (-1), 1) := by decide +kernel
theorem dX6_looksForBest_35 : decode cX6_looksForBest 35 = .ok (.if_icmp .eq 11, 3) := by decide +kernel
theorem dX6_looksForBest_38 : decode cX6_looksForBest 38 = .ok (.iload_n 3, 1) := by decide +kernel
theorem dX6_looksForBest_39 : decode cX6_looksForBest 39 = .ok (.aload_n 0, 1) := by decide +kernel
theorem dX6_looksForBest_40 : decode cX6_looksForBest 40 = .ok (.getfield 218, 3) := by decide +kernel
theorem dX6_looksForBest_43 : decode cX6_looksForBest 43 = .ok (.if_icmp .le 7, 3) := by decide +kernel
theorem dX6_looksForBest_46 : decode cX6_looksForBest 46 = .ok (.iconst 1, 1) := by decide +kernel
theorem dX6_looksForBest_47 : decode cX6_looksForBest 47 = .ok (.goto 4, 3) := by decide +kernel
theorem dX6_looksForBest_50 : decode cX6_looksForBest 50 = .ok (.iconst 0, 1) := by decide +kernel
theorem dX6_looksForBest_51 : decode cX6_looksForBest 51 = .ok (.istore 4, 2) := by decide +kernel
theorem dX6_looksForBest_53 : decode cX6_looksForBest 53 = .ok (.aload_n 0, 1) := by decide +kernel
theorem dX6_looksForBest_54 : decode cX6_looksForBest 54 = .ok (.iload 4, 2) := by decide +kernel
theorem dX6_looksForBest_56 : decode cX6_looksForBest 56 = .ok (.ifCond .eq 7, 3) := by decide +kernel
theorem dX6_looksForBest_59 : decode cX6_looksForBest 59 = .ok (.iload_n 2, 1) := by decide +kernel
theorem dX6_looksForBest_60 : decode cX6_looksForBest 60 = .ok (.goto 7, 3) := by decide +kernel
theorem dX6_looksForBest_63 : decode cX6_looksForBest 63 = .ok (.aload_n 0, 1) := by decide +kernel
theorem dX6_looksForBest_64 : decode cX6_looksForBest 64 = .ok (.getfield 212, 3) := by decide +kernel
theorem dX6_looksForBest_67 : decode cX6_looksForBest 67 = .ok (.putfield 212, 3) := by decide +kernel
theorem dX6_looksForBest_70 : decode cX6_looksForBest 70 = .ok (.aload_n 0, 1) := by decide +kernel
theorem dX6_looksForBest_71 : decode cX6_looksForBest 71 = .ok (.iload 4, 2) := by decide +kernel
theorem dX6_looksForBest_73 : decode cX6_looksForBest 73 = .ok (.ifCond .eq 7, 3) := by decide +kernel
theorem dX6_looksForBest_76 : decode cX6_looksForBest 76 = .ok (.iload_n 3, 1) := by decide +kernel
theorem dX6_looksForBest_77 : decode cX6_looksForBest 77 = .ok (.goto 7, 3) := by decide +kernel
theorem dX6_looksForBest_80 : decode cX6_looksForBest 80 = .ok (.aload_n 0, 1) := by decide +kernel
theorem dX6_looksForBest_81 : decode cX6_looksForBest 81 = .ok (.getfield 218, 3) := by decide +kernel
theorem dX6_looksForBest_84 : decode cX6_looksForBest 84 = .ok (.putfield 218, 3) := by decide +kernel
theorem dX6_looksForBest_87 : decode cX6_looksForBest 87 = .ok (.iinc 2 1, 3) := by decide +kernel
theorem dX6_looksForBest_90 : decode cX6_looksForBest 90 = .ok (.goto (-83), 3) := by decide +kernel
theorem dX6_looksForBest_93 : decode cX6_looksForBest 93 = .ok (.aload_n 0, 1) := by decide +kernel
theorem dX6_looksForBest_94 : decode cX6_looksForBest 94 = .ok (.iload_n 1, 1) := by decide +kernel
theorem dX6_looksForBest_95 : decode cX6_looksForBest 95 = .ok (.aload_n 0, 1) := by decide +kernel
theorem dX6_looksForBest_96 : decode cX6_looksForBest 96 = .ok (.getfield 212, 3) := by decide +kernel
theorem dX6_looksForBest_99 : decode cX6_looksForBest 99 = .ok (.invokevirtual 176, 3) := by decide +kernel
theorem dX6_looksForBest_102 : decode cX6_looksForBest 102 = .ok (.return_, 1) := by decide +kernel
abbrev rm_X6_looksForBest : Room := { frames := 4, cells := 0, slots := 0, locals := 102 }
abbrev jJ_X6_looksForBest (l : Launch) (G : jx_G) (sz : Nat) (out : jx_M) (pc : Nat) (lv : List (Nat × Value)) (st : List Value) (σ : jx_M) : Prop := jx_J l (mm_env G) (mm_dyn G) (mm_rg G) sz RX6 "looksForBest" cX6_looksForBest 5 none rm_X6_looksForBest (fun below args s => MQ below (jx_Qv (mm_dyn G) out (jx_A (mm_rg G) sz)) args s 0 0 (jx_A (mm_rg G) sz)) 0 0 pc lv st σ
def b_X6_looksForBest_84 (k7 : jx_M → Int32 → Int32 → Option jx_M) (σ : jx_M) (v1 : Int32) (v2 : Int32) (s0 : Int32) : Option jx_M :=
  jx_lt (jx_mu σ 0 20 s0) (fun σ1 => jx_lt (v2 + (1 : Int32)) (fun x2 => (k7 σ1 v1 x2)))
set_option maxHeartbeats 4000000 in
set_option maxRecDepth 100000 in
theorem jb_X6_looksForBest_84 (l : Launch) (G : jx_G) (hG : mm_ok G) (sz : Nat) (out : jx_M) (k7 : jx_M → Int32 → Int32 → Option jx_M) (h7 : ∀ (σ : jx_M) (v1 : Int32) (v2 : Int32), k7 σ v1 v2 = some out → jJ_X6_looksForBest l G sz out 7 [(0, .ref (G.2 10)), (1, .int v1), (2, .int v2)] [] σ) (σ : jx_M) (v1 : Int32) (v2 : Int32) (s0 : Int32) (h : b_X6_looksForBest_84 k7 σ v1 v2 s0 = some out) : jJ_X6_looksForBest l G sz out 84 [(0, .ref (G.2 10)), (1, .int v1), (2, .int v2)] [.int s0, .ref (G.2 10)] σ := by
  unfold b_X6_looksForBest_84 at h
  obtain ⟨σ1, eσ1, h⟩ := jx_lt_o h
  refine mm_p_bestMore (pc := 84) hG fl_X6_218 eσ1 dX6_looksForBest_84 ?_
  obtain ⟨x2, ex2, h⟩ := jx_lt_o h
  refine jx_iinc (pc := 87) (i := 2) (v := v2) rfl ex2 (n := 1) (by decide) (by decide) (lv' := [(2, .int x2), (0, .ref (G.2 10)), (1, .int v1)]) rfl dX6_looksForBest_87 ?_
  refine jx_goto (pc := 90) (tgt := 7) dX6_looksForBest_90 (by decide) ?_
  exact jx_sub [1, 2, 0] rfl (h7 σ1 v1 x2 h)
def b_X6_looksForBest_67 (k7 : jx_M → Int32 → Int32 → Option jx_M) (σ : jx_M) (v1 : Int32) (v2 : Int32) (v3 : Int32) (v4 : Int32) (s0 : Int32) : Option jx_M :=
  jx_lt (jx_mu σ 0 19 s0) (fun σ1 => if v4 = 0 then (b_X6_looksForBest_84 k7 σ1 v1 v2 (σ1 0 20)) else (b_X6_looksForBest_84 k7 σ1 v1 v2 v3))
set_option maxHeartbeats 4000000 in
set_option maxRecDepth 100000 in
theorem jb_X6_looksForBest_67 (l : Launch) (G : jx_G) (hG : mm_ok G) (sz : Nat) (out : jx_M) (k7 : jx_M → Int32 → Int32 → Option jx_M) (h7 : ∀ (σ : jx_M) (v1 : Int32) (v2 : Int32), k7 σ v1 v2 = some out → jJ_X6_looksForBest l G sz out 7 [(0, .ref (G.2 10)), (1, .int v1), (2, .int v2)] [] σ) (σ : jx_M) (v1 : Int32) (v2 : Int32) (v3 : Int32) (v4 : Int32) (s0 : Int32) (h : b_X6_looksForBest_67 k7 σ v1 v2 v3 v4 s0 = some out) : jJ_X6_looksForBest l G sz out 67 [(0, .ref (G.2 10)), (1, .int v1), (2, .int v2), (3, .int v3), (4, .int v4)] [.int s0, .ref (G.2 10)] σ := by
  unfold b_X6_looksForBest_67 at h
  obtain ⟨σ1, eσ1, h⟩ := jx_lt_o h
  refine mm_p_bestPlace (pc := 67) hG fl_X6_212 eσ1 dX6_looksForBest_67 ?_
  refine jx_aload_n (pc := 70) (k0 := 0) rfl dX6_looksForBest_70 ?_
  refine jx_iload (pc := 71) (i := 4) rfl dX6_looksForBest_71 ?_
  refine jx_if_eq (pc := 73) (tgt := 80) dX6_looksForBest_73 (by decide) (fun c2 => ?_) (fun c2 => ?_)
  · have h := jx_t c2 h
    refine jx_aload_n (pc := 80) (k0 := 0) rfl dX6_looksForBest_80 ?_
    refine mm_g_bestMore (pc := 81) fl_X6_218 dX6_looksForBest_81 ?_
    exact jx_sub [0, 1, 2] rfl (jb_X6_looksForBest_84 l G hG sz out k7 h7 σ1 v1 v2 (σ1 0 20) h)
  · have h := jx_f c2 h
    refine jx_iload_n (pc := 76) (k0 := 3) rfl dX6_looksForBest_76 ?_
    refine jx_goto (pc := 77) (tgt := 84) dX6_looksForBest_77 (by decide) ?_
    exact jx_sub [0, 1, 2] rfl (jb_X6_looksForBest_84 l G hG sz out k7 h7 σ1 v1 v2 v3 h)
def b_X6_looksForBest_51 (k7 : jx_M → Int32 → Int32 → Option jx_M) (σ : jx_M) (v1 : Int32) (v2 : Int32) (v3 : Int32) (s0 : Int32) : Option jx_M :=
  if s0 = 0 then (b_X6_looksForBest_67 k7 σ v1 v2 v3 s0 (σ 0 19)) else (b_X6_looksForBest_67 k7 σ v1 v2 v3 s0 v2)
set_option maxHeartbeats 4000000 in
set_option maxRecDepth 100000 in
theorem jb_X6_looksForBest_51 (l : Launch) (G : jx_G) (hG : mm_ok G) (sz : Nat) (out : jx_M) (k7 : jx_M → Int32 → Int32 → Option jx_M) (h7 : ∀ (σ : jx_M) (v1 : Int32) (v2 : Int32), k7 σ v1 v2 = some out → jJ_X6_looksForBest l G sz out 7 [(0, .ref (G.2 10)), (1, .int v1), (2, .int v2)] [] σ) (σ : jx_M) (v1 : Int32) (v2 : Int32) (v3 : Int32) (s0 : Int32) (h : b_X6_looksForBest_51 k7 σ v1 v2 v3 s0 = some out) : jJ_X6_looksForBest l G sz out 51 [(0, .ref (G.2 10)), (1, .int v1), (2, .int v2), (3, .int v3)] [.int s0] σ := by
  unfold b_X6_looksForBest_51 at h
  refine jx_istore (pc := 51) (i := 4) rfl (by decide) (lv' := [(4, .int s0), (0, .ref (G.2 10)), (1, .int v1), (2, .int v2), (3, .int v3)]) rfl dX6_looksForBest_51 ?_
  refine jx_aload_n (pc := 53) (k0 := 0) rfl dX6_looksForBest_53 ?_
  refine jx_iload (pc := 54) (i := 4) rfl dX6_looksForBest_54 ?_
  refine jx_if_eq (pc := 56) (tgt := 63) dX6_looksForBest_56 (by decide) (fun c1 => ?_) (fun c1 => ?_)
  · have h := jx_t c1 h
    refine jx_aload_n (pc := 63) (k0 := 0) rfl dX6_looksForBest_63 ?_
    refine mm_g_bestPlace (pc := 64) fl_X6_212 dX6_looksForBest_64 ?_
    exact jx_sub [1, 2, 3, 4, 0] rfl (jb_X6_looksForBest_67 l G hG sz out k7 h7 σ v1 v2 v3 s0 (σ 0 19) h)
  · have h := jx_f c1 h
    refine jx_iload_n (pc := 59) (k0 := 2) rfl dX6_looksForBest_59 ?_
    refine jx_goto (pc := 60) (tgt := 67) dX6_looksForBest_60 (by decide) ?_
    exact jx_sub [1, 2, 3, 4, 0] rfl (jb_X6_looksForBest_67 l G hG sz out k7 h7 σ v1 v2 v3 s0 v2 h)
def b_X6_looksForBest_46 (k7 : jx_M → Int32 → Int32 → Option jx_M) (σ : jx_M) (v1 : Int32) (v2 : Int32) (v3 : Int32) : Option jx_M :=
  (b_X6_looksForBest_51 k7 σ v1 v2 v3 (1 : Int32))
set_option maxHeartbeats 4000000 in
set_option maxRecDepth 100000 in
theorem jb_X6_looksForBest_46 (l : Launch) (G : jx_G) (hG : mm_ok G) (sz : Nat) (out : jx_M) (k7 : jx_M → Int32 → Int32 → Option jx_M) (h7 : ∀ (σ : jx_M) (v1 : Int32) (v2 : Int32), k7 σ v1 v2 = some out → jJ_X6_looksForBest l G sz out 7 [(0, .ref (G.2 10)), (1, .int v1), (2, .int v2)] [] σ) (σ : jx_M) (v1 : Int32) (v2 : Int32) (v3 : Int32) (h : b_X6_looksForBest_46 k7 σ v1 v2 v3 = some out) : jJ_X6_looksForBest l G sz out 46 [(0, .ref (G.2 10)), (1, .int v1), (2, .int v2), (3, .int v3)] [] σ := by
  unfold b_X6_looksForBest_46 at h
  refine jx_iconst (pc := 46) (v := (1 : Int32)) (by decide) dX6_looksForBest_46 ?_
  refine jx_goto (pc := 47) (tgt := 51) dX6_looksForBest_47 (by decide) ?_
  exact jx_sub [0, 1, 2, 3] rfl (jb_X6_looksForBest_51 l G hG sz out k7 h7 σ v1 v2 v3 (1 : Int32) h)
def g_X6_looksForBest_7 (k7 : jx_M → Int32 → Int32 → Option jx_M) (σ : jx_M) (v1 : Int32) (v2 : Int32) : Option jx_M :=
  if (σ 1 6) ≤ v2 then jx_bd (f_X6_lays σ v1 (σ 0 19)) (fun q2 => some q2) else jx_bd (f_X6_lays σ v1 v2) (fun q3 => jx_bd (f_X6_moreOf q3 v1) (fun q4 => if (q3 0 19) = (-1 : Int32) then (b_X6_looksForBest_46 k7 q3 v1 v2 q4) else if q4 ≤ (q3 0 20) then (b_X6_looksForBest_51 k7 q3 v1 v2 q4 (0 : Int32)) else (b_X6_looksForBest_46 k7 q3 v1 v2 q4)))
set_option maxHeartbeats 4000000 in
set_option maxRecDepth 100000 in
theorem jg_X6_looksForBest_7 (l : Launch) (G : jx_G) (hG : mm_ok G) (sz : Nat) (out : jx_M) (k7 : jx_M → Int32 → Int32 → Option jx_M) (h7 : ∀ (σ : jx_M) (v1 : Int32) (v2 : Int32), k7 σ v1 v2 = some out → jJ_X6_looksForBest l G sz out 7 [(0, .ref (G.2 10)), (1, .int v1), (2, .int v2)] [] σ) (σ : jx_M) (v1 : Int32) (v2 : Int32) (h : g_X6_looksForBest_7 k7 σ v1 v2 = some out) : jJ_X6_looksForBest l G sz out 7 [(0, .ref (G.2 10)), (1, .int v1), (2, .int v2)] [] σ := by
  unfold g_X6_looksForBest_7 at h
  refine jx_iload_n (pc := 7) (k0 := 2) rfl dX6_looksForBest_7 ?_
  refine jx_aload_n (pc := 8) (k0 := 0) rfl dX6_looksForBest_8 ?_
  refine mm_g_s (pc := 9) fl_X6_9 dX6_looksForBest_9 ?_
  refine jx_bipush (pc := 12) (v := (6 : Int32)) (by decide) dX6_looksForBest_12 ?_
  refine mm_l_s (pc := 14) (j := 6) (jx_in_o (by decide)) (by decide) dX6_looksForBest_14 ?_
  refine jx_icmp_ge (pc := 15) (tgt := 93) dX6_looksForBest_15 (by decide) (fun c1 => ?_) (fun c1 => ?_)
  · have h := jx_t c1 h
    refine jx_aload_n (pc := 93) (k0 := 0) rfl dX6_looksForBest_93 ?_
    refine jx_iload_n (pc := 94) (k0 := 1) rfl dX6_looksForBest_94 ?_
    refine jx_aload_n (pc := 95) (k0 := 0) rfl dX6_looksForBest_95 ?_
    refine mm_g_bestPlace (pc := 96) fl_X6_212 dX6_looksForBest_96 ?_
    obtain ⟨q2, eq2, h⟩ := jx_bd_o h
    refine jx_callVv (pc := 99) [.int v1, .int (σ 0 19)] (fun sz' => k_X6_lays l G hG sz' σ v1 (σ 0 19) q2 eq2) kv_X6_176 mm_jok mm_rc rfl rfl (Nat.le_of_ble_eq_true rfl) ⟨⟨rfl, rfl⟩, ⟨Nat.le_of_ble_eq_true rfl, Nat.le_of_ble_eq_true rfl⟩, Nat.zero_le _, Nat.zero_le _⟩ dX6_looksForBest_99 ?_
    have h := Option.some.inj h
    subst h
    exact jx_vret (pc := 102) dX6_looksForBest_102
  · have h := jx_f c1 h
    refine jx_aload_n (pc := 18) (k0 := 0) rfl dX6_looksForBest_18 ?_
    refine jx_iload_n (pc := 19) (k0 := 1) rfl dX6_looksForBest_19 ?_
    refine jx_iload_n (pc := 20) (k0 := 2) rfl dX6_looksForBest_20 ?_
    obtain ⟨q3, eq3, h⟩ := jx_bd_o h
    refine jx_callVv (pc := 21) [.int v1, .int v2] (fun sz' => k_X6_lays l G hG sz' σ v1 v2 q3 eq3) kv_X6_176 mm_jok mm_rc rfl rfl (Nat.le_of_ble_eq_true rfl) ⟨⟨rfl, rfl⟩, ⟨Nat.le_of_ble_eq_true rfl, Nat.le_of_ble_eq_true rfl⟩, Nat.zero_le _, Nat.zero_le _⟩ dX6_looksForBest_21 ?_
    refine jx_aload_n (pc := 24) (k0 := 0) rfl dX6_looksForBest_24 ?_
    refine jx_iload_n (pc := 25) (k0 := 1) rfl dX6_looksForBest_25 ?_
    obtain ⟨q4, eq4, h⟩ := jx_bd_o h
    refine jx_callVi (pc := 26) [.int v1] (fun sz' => k_X6_moreOf l G hG sz' q3 v1 q4 eq4) kv_X6_215 mm_jok mm_rc rfl rfl (Nat.le_of_ble_eq_true rfl) ⟨⟨rfl, rfl⟩, ⟨Nat.le_of_ble_eq_true rfl, Nat.le_of_ble_eq_true rfl⟩, Nat.zero_le _, Nat.zero_le _⟩ dX6_looksForBest_26 ?_
    refine jx_istore_n (pc := 29) (i := 3) rfl rfl (by decide) (lv' := [(3, .int q4), (0, .ref (G.2 10)), (1, .int v1), (2, .int v2)]) rfl dX6_looksForBest_29 ?_
    refine jx_aload_n (pc := 30) (k0 := 0) rfl dX6_looksForBest_30 ?_
    refine mm_g_bestPlace (pc := 31) fl_X6_212 dX6_looksForBest_31 ?_
    refine jx_iconst (pc := 34) (v := (-1 : Int32)) (by decide) dX6_looksForBest_34 ?_
    refine jx_icmp_eq (pc := 35) (tgt := 46) dX6_looksForBest_35 (by decide) (fun c5 => ?_) (fun c5 => ?_)
    · have h := jx_t c5 h
      exact jx_sub [1, 2, 3, 0] rfl (jb_X6_looksForBest_46 l G hG sz out k7 h7 q3 v1 v2 q4 h)
    · have h := jx_f c5 h
      refine jx_iload_n (pc := 38) (k0 := 3) rfl dX6_looksForBest_38 ?_
      refine jx_aload_n (pc := 39) (k0 := 0) rfl dX6_looksForBest_39 ?_
      refine mm_g_bestMore (pc := 40) fl_X6_218 dX6_looksForBest_40 ?_
      refine jx_icmp_le (pc := 43) (tgt := 50) dX6_looksForBest_43 (by decide) (fun c6 => ?_) (fun c6 => ?_)
      · have h := jx_t c6 h
        refine jx_iconst (pc := 50) (v := (0 : Int32)) (by decide) dX6_looksForBest_50 ?_
        exact jx_sub [1, 2, 3, 0] rfl (jb_X6_looksForBest_51 l G hG sz out k7 h7 q3 v1 v2 q4 (0 : Int32) h)
      · have h := jx_f c6 h
        exact jx_sub [1, 2, 3, 0] rfl (jb_X6_looksForBest_46 l G hG sz out k7 h7 q3 v1 v2 q4 h)
def b_X6_looksForBest_7  : Nat → jx_M → Int32 → Int32 → Option jx_M
  | 0, _, _, _ => none
  | n + 1, σ, v1, v2 => g_X6_looksForBest_7 (b_X6_looksForBest_7 n) σ v1 v2
theorem jb_X6_looksForBest_7 (l : Launch) (G : jx_G) (hG : mm_ok G) (sz : Nat) (out : jx_M)  : ∀ (n : Nat) (σ : jx_M) (v1 : Int32) (v2 : Int32), b_X6_looksForBest_7 n σ v1 v2 = some out → jJ_X6_looksForBest l G sz out 7 [(0, .ref (G.2 10)), (1, .int v1), (2, .int v2)] [] σ := by
  intro n
  induction n with
  | zero =>
    intro σ v1 v2 h
    cases h
  | succ n ih =>
    intro σ v1 v2 h
    exact jg_X6_looksForBest_7 l G hG sz out (b_X6_looksForBest_7 n) ih σ v1 v2 h
def f_X6_looksForBest (σ : jx_M) (a1 : Int32) : Option jx_M :=
  jx_lt (jx_mu σ 0 19 (-1 : Int32)) (fun σ1 => (b_X6_looksForBest_7 jx_fuel σ1 a1 (0 : Int32)))
set_option maxHeartbeats 4000000 in
set_option maxRecDepth 100000 in
theorem k_X6_looksForBest (l : Launch) (G : jx_G) (hG : mm_ok G) (sz : Nat) (σ : jx_M) (a1 : Int32) (out : jx_M) (h : f_X6_looksForBest σ a1 = some out) : Met l yX6_looksForBest (Cond.code yX6_looksForBest cX6_looksForBest 5 none :: jx_ws) rm_X6_looksForBest (jx_Pc (mm_env G) (mm_dyn G) (mm_rg G) sz σ [.ref (G.2 10), .int a1]) (jx_Qv (mm_dyn G) out (jx_A (mm_rg G) sz)) 0 0 (jx_A (mm_rg G) sz) := by
  unfold f_X6_looksForBest at h
  refine jx_met (by decide) (Nat.le_of_ble_eq_true rfl) ?_
  refine jx_sub (lv' := [(0, .ref (G.2 10)), (1, .int a1)]) [0, 1] rfl ?_
  refine jx_aload_n (pc := 0) (k0 := 0) rfl dX6_looksForBest_0 ?_
  refine jx_iconst (pc := 1) (v := (-1 : Int32)) (by decide) dX6_looksForBest_1 ?_
  obtain ⟨σ1, eσ1, h⟩ := jx_lt_o h
  refine mm_p_bestPlace (pc := 2) hG fl_X6_212 eσ1 dX6_looksForBest_2 ?_
  refine jx_iconst (pc := 5) (v := (0 : Int32)) (by decide) dX6_looksForBest_5 ?_
  refine jx_istore_n (pc := 6) (i := 2) rfl rfl (by decide) (lv' := [(2, .int (0 : Int32)), (0, .ref (G.2 10)), (1, .int a1)]) rfl dX6_looksForBest_6 ?_
  exact jx_sub [1, 2, 0] rfl (jb_X6_looksForBest_7 l G hG sz out jx_fuel σ1 a1 (0 : Int32) h)
theorem dX6_burnsActs_0 : decode cX6_burnsActs 0 = .ok (.aload_n 0, 1) := by decide +kernel
theorem dX6_burnsActs_1 : decode cX6_burnsActs 1 = .ok (.getfield 236, 3) := by decide +kernel
theorem dX6_burnsActs_4 : decode cX6_burnsActs 4 = .ok (.iconst 2, 1) := by decide +kernel
theorem dX6_burnsActs_5 : decode cX6_burnsActs 5 = .ok (.invokestatic 239, 3) := by decide +kernel
theorem dX6_burnsActs_8 : decode cX6_burnsActs 8 = .ok (.ifCond .eq 16, 3) := by decide +kernel
theorem dX6_burnsActs_11 : decode cX6_burnsActs 11 = .ok (.aload_n 0, 1) := by decide +kernel
theorem dX6_burnsActs_12 : decode cX6_burnsActs 12 = .ok (.bipush 21, 2) := by decide +kernel
theorem dX6_burnsActs_14 : decode cX6_burnsActs 14 = .ok (.invokevirtual 230, 3) := by decide +kernel
theorem dX6_burnsActs_17 : decode cX6_burnsActs 17 = .ok (.aload_n 0, 1) := by decide +kernel
theorem dX6_burnsActs_18 : decode cX6_burnsActs 18 = .ok (.iload_n 1, 1) := by decide +kernel
theorem dX6_burnsActs_19 : decode cX6_burnsActs 19 = .ok (.invokevirtual 252, 3) := by decide +kernel
theorem dX6_burnsActs_22 : decode cX6_burnsActs 22 = .ok (.ineg, 1) := by decide +kernel
theorem dX6_burnsActs_23 : decode cX6_burnsActs 23 = .ok (.ireturn, 1) := by decide +kernel
theorem dX6_burnsActs_24 : decode cX6_burnsActs 24 = .ok (.aload_n 0, 1) := by decide +kernel
theorem dX6_burnsActs_25 : decode cX6_burnsActs 25 = .ok (.getfield 236, 3) := by decide +kernel
theorem dX6_burnsActs_28 : decode cX6_burnsActs 28 = .ok (.bipush 6, 2) := by decide +kernel
theorem dX6_burnsActs_30 : decode cX6_burnsActs 30 = .ok (.if_icmp .ne 20, 3) := by decide +kernel
theorem dX6_burnsActs_33 : decode cX6_burnsActs 33 = .ok (.aload_n 0, 1) := by decide +kernel
theorem dX6_burnsActs_34 : decode cX6_burnsActs 34 = .ok (.bipush 61, 2) := by decide +kernel
theorem dX6_burnsActs_36 : decode cX6_burnsActs 36 = .ok (.invokevirtual 230, 3) := by decide +kernel
theorem dX6_burnsActs_39 : decode cX6_burnsActs 39 = .ok (.aload_n 0, 1) := by decide +kernel
theorem dX6_burnsActs_40 : decode cX6_burnsActs 40 = .ok (.iload_n 1, 1) := by decide +kernel
theorem dX6_burnsActs_41 : decode cX6_burnsActs 41 = .ok (.invokevirtual 252, 3) := by decide +kernel
theorem dX6_burnsActs_44 : decode cX6_burnsActs 44 = .ok (.aload_n 0, 1) := by decide +kernel
theorem dX6_burnsActs_45 : decode cX6_burnsActs 45 = .ok (.getfield 249, 3) := by decide +kernel
theorem dX6_burnsActs_48 : decode cX6_burnsActs 48 = .ok (.iadd, 1) := by decide +kernel
theorem dX6_burnsActs_49 : decode cX6_burnsActs 49 = .ok (.ireturn, 1) := by decide +kernel
theorem dX6_burnsActs_50 : decode cX6_burnsActs 50 = .ok (.aload_n 0, 1) := by decide +kernel
theorem dX6_burnsActs_51 : decode cX6_burnsActs 51 = .ok (.iload_n 1, 1) := by decide +kernel
theorem dX6_burnsActs_52 : decode cX6_burnsActs 52 = .ok (.invokevirtual 252, 3) := by decide +kernel
theorem dX6_burnsActs_55 : decode cX6_burnsActs 55 = .ok (.ireturn, 1) := by decide +kernel
abbrev rm_X6_burnsActs : Room := { frames := 4, cells := 0, slots := 0, locals := 84 }
abbrev jJ_X6_burnsActs (l : Launch) (G : jx_G) (sz : Nat) (out : (Int32 × jx_M)) (pc : Nat) (lv : List (Nat × Value)) (st : List Value) (σ : jx_M) : Prop := jx_J l (mm_env G) (mm_dyn G) (mm_rg G) sz RX6 "burnsActs" cX6_burnsActs 2 (some .int) rm_X6_burnsActs (fun below args s => MQ below (jx_Qi (mm_dyn G) out.2 out.1 (jx_A (mm_rg G) sz)) args s 0 0 (jx_A (mm_rg G) sz)) 0 0 pc lv st σ
def f_X6_burnsActs (σ : jx_M) (a1 : Int32) : Option (Int32 × jx_M) :=
  jx_bd (f_X6_isUnder (σ 0 23) (2 : Int32)) (fun q1 => if q1 = 0 then if (σ 0 23) = (6 : Int32) then jx_bd (f_X6_ranBody σ (61 : Int32)) (fun q5 => jx_bd (f_X6_plainBurns q5 a1) (fun q6 => some ((q6.1 + (q6.2 0 25)), q6.2))) else jx_bd (f_X6_plainBurns σ a1) (fun q4 => some (q4.1, q4.2)) else jx_bd (f_X6_ranBody σ (21 : Int32)) (fun q7 => jx_bd (f_X6_plainBurns q7 a1) (fun q8 => some ((-q8.1), q8.2))))
set_option maxHeartbeats 4000000 in
set_option maxRecDepth 100000 in
theorem k_X6_burnsActs (l : Launch) (G : jx_G) (hG : mm_ok G) (sz : Nat) (σ : jx_M) (a1 : Int32) (out : (Int32 × jx_M)) (h : f_X6_burnsActs σ a1 = some out) : Met l yX6_burnsActs (Cond.code yX6_burnsActs cX6_burnsActs 2 (some .int) :: jx_ws) rm_X6_burnsActs (jx_Pc (mm_env G) (mm_dyn G) (mm_rg G) sz σ [.ref (G.2 10), .int a1]) (jx_Qi (mm_dyn G) out.2 out.1 (jx_A (mm_rg G) sz)) 0 0 (jx_A (mm_rg G) sz) := by
  unfold f_X6_burnsActs at h
  refine jx_met (by decide) (Nat.le_of_ble_eq_true rfl) ?_
  refine jx_sub (lv' := [(0, .ref (G.2 10)), (1, .int a1)]) [0, 1] rfl ?_
  refine jx_aload_n (pc := 0) (k0 := 0) rfl dX6_burnsActs_0 ?_
  refine mm_g_kind (pc := 1) fl_X6_236 dX6_burnsActs_1 ?_
  refine jx_iconst (pc := 4) (v := (2 : Int32)) (by decide) dX6_burnsActs_4 ?_
  obtain ⟨q1, eq1, h⟩ := jx_bd_o h
  refine jx_callSi (pc := 5) [.int (σ 0 23), .int (2 : Int32)] (fun sz' => k_X6_isUnder l G hG sz' σ (σ 0 23) (2 : Int32) q1 eq1) ks_X6_239 mm_jok rfl rfl (Nat.le_of_ble_eq_true rfl) ⟨⟨rfl, rfl⟩, ⟨Nat.le_of_ble_eq_true rfl, Nat.le_of_ble_eq_true rfl⟩, Nat.zero_le _, Nat.zero_le _⟩ dX6_burnsActs_5 ?_
  refine jx_if_eq (pc := 8) (tgt := 24) dX6_burnsActs_8 (by decide) (fun c2 => ?_) (fun c2 => ?_)
  · have h := jx_t c2 h
    refine jx_aload_n (pc := 24) (k0 := 0) rfl dX6_burnsActs_24 ?_
    refine mm_g_kind (pc := 25) fl_X6_236 dX6_burnsActs_25 ?_
    refine jx_bipush (pc := 28) (v := (6 : Int32)) (by decide) dX6_burnsActs_28 ?_
    refine jx_icmp_ne (pc := 30) (tgt := 50) dX6_burnsActs_30 (by decide) (fun c3 => ?_) (fun c3 => ?_)
    · have h := jx_f c3 h
      refine jx_aload_n (pc := 50) (k0 := 0) rfl dX6_burnsActs_50 ?_
      refine jx_iload_n (pc := 51) (k0 := 1) rfl dX6_burnsActs_51 ?_
      obtain ⟨q4, eq4, h⟩ := jx_bd_o h
      refine jx_callVi (pc := 52) [.int a1] (fun sz' => k_X6_plainBurns l G hG sz' σ a1 q4 eq4) kv_X6_252 mm_jok mm_rc rfl rfl (Nat.le_of_ble_eq_true rfl) ⟨⟨rfl, rfl⟩, ⟨Nat.le_of_ble_eq_true rfl, Nat.le_of_ble_eq_true rfl⟩, Nat.zero_le _, Nat.zero_le _⟩ dX6_burnsActs_52 ?_
      have h := Option.some.inj h
      subst h
      exact jx_iret (pc := 55) dX6_burnsActs_55
    · have h := jx_t c3 h
      refine jx_aload_n (pc := 33) (k0 := 0) rfl dX6_burnsActs_33 ?_
      refine jx_bipush (pc := 34) (v := (61 : Int32)) (by decide) dX6_burnsActs_34 ?_
      obtain ⟨q5, eq5, h⟩ := jx_bd_o h
      refine jx_callVv (pc := 36) [.int (61 : Int32)] (fun sz' => k_X6_ranBody l G hG sz' σ (61 : Int32) q5 eq5) kv_X6_230 mm_jok mm_rc rfl rfl (Nat.le_of_ble_eq_true rfl) ⟨⟨rfl, rfl⟩, ⟨Nat.le_of_ble_eq_true rfl, Nat.le_of_ble_eq_true rfl⟩, Nat.zero_le _, Nat.zero_le _⟩ dX6_burnsActs_36 ?_
      refine jx_aload_n (pc := 39) (k0 := 0) rfl dX6_burnsActs_39 ?_
      refine jx_iload_n (pc := 40) (k0 := 1) rfl dX6_burnsActs_40 ?_
      obtain ⟨q6, eq6, h⟩ := jx_bd_o h
      refine jx_callVi (pc := 41) [.int a1] (fun sz' => k_X6_plainBurns l G hG sz' q5 a1 q6 eq6) kv_X6_252 mm_jok mm_rc rfl rfl (Nat.le_of_ble_eq_true rfl) ⟨⟨rfl, rfl⟩, ⟨Nat.le_of_ble_eq_true rfl, Nat.le_of_ble_eq_true rfl⟩, Nat.zero_le _, Nat.zero_le _⟩ dX6_burnsActs_41 ?_
      refine jx_aload_n (pc := 44) (k0 := 0) rfl dX6_burnsActs_44 ?_
      refine mm_g_tellsV (pc := 45) fl_X6_249 dX6_burnsActs_45 ?_
      refine jx_iadd (pc := 48) dX6_burnsActs_48 ?_
      have h := Option.some.inj h
      subst h
      exact jx_iret (pc := 49) dX6_burnsActs_49
  · have h := jx_f c2 h
    refine jx_aload_n (pc := 11) (k0 := 0) rfl dX6_burnsActs_11 ?_
    refine jx_bipush (pc := 12) (v := (21 : Int32)) (by decide) dX6_burnsActs_12 ?_
    obtain ⟨q7, eq7, h⟩ := jx_bd_o h
    refine jx_callVv (pc := 14) [.int (21 : Int32)] (fun sz' => k_X6_ranBody l G hG sz' σ (21 : Int32) q7 eq7) kv_X6_230 mm_jok mm_rc rfl rfl (Nat.le_of_ble_eq_true rfl) ⟨⟨rfl, rfl⟩, ⟨Nat.le_of_ble_eq_true rfl, Nat.le_of_ble_eq_true rfl⟩, Nat.zero_le _, Nat.zero_le _⟩ dX6_burnsActs_14 ?_
    refine jx_aload_n (pc := 17) (k0 := 0) rfl dX6_burnsActs_17 ?_
    refine jx_iload_n (pc := 18) (k0 := 1) rfl dX6_burnsActs_18 ?_
    obtain ⟨q8, eq8, h⟩ := jx_bd_o h
    refine jx_callVi (pc := 19) [.int a1] (fun sz' => k_X6_plainBurns l G hG sz' q7 a1 q8 eq8) kv_X6_252 mm_jok mm_rc rfl rfl (Nat.le_of_ble_eq_true rfl) ⟨⟨rfl, rfl⟩, ⟨Nat.le_of_ble_eq_true rfl, Nat.le_of_ble_eq_true rfl⟩, Nat.zero_le _, Nat.zero_le _⟩ dX6_burnsActs_19 ?_
    refine jx_ineg (pc := 22) dX6_burnsActs_22 ?_
    have h := Option.some.inj h
    subst h
    exact jx_iret (pc := 23) dX6_burnsActs_23
theorem dX6_tide_0 : decode cX6_tide 0 = .ok (.aload_n 0, 1) := by decide +kernel
theorem dX6_tide_1 : decode cX6_tide 1 = .ok (.getfield 9, 3) := by decide +kernel
theorem dX6_tide_4 : decode cX6_tide 4 = .ok (.iconst 1, 1) := by decide +kernel
theorem dX6_tide_5 : decode cX6_tide 5 = .ok (.iaload, 1) := by decide +kernel
theorem dX6_tide_6 : decode cX6_tide 6 = .ok (.iconst 5, 1) := by decide +kernel
theorem dX6_tide_7 : decode cX6_tide 7 = .ok (.if_icmp .ne 6, 3) := by decide +kernel
theorem dX6_tide_10 : decode cX6_tide 10 = .ok (.bipush (-4), 2) := by decide +kernel
theorem dX6_tide_12 : decode cX6_tide 12 = .ok (.ireturn, 1) := by decide +kernel
theorem dX6_tide_13 : decode cX6_tide 13 = .ok (.aload_n 0, 1) := by decide +kernel
theorem dX6_tide_14 : decode cX6_tide 14 = .ok (.aload_n 0, 1) := by decide +kernel
theorem dX6_tide_15 : decode cX6_tide 15 = .ok (.getfield 9, 3) := by decide +kernel
theorem dX6_tide_18 : decode cX6_tide 18 = .ok (.iconst 1, 1) := by decide +kernel
theorem dX6_tide_19 : decode cX6_tide 19 = .ok (.iaload, 1) := by decide +kernel
theorem dX6_tide_20 : decode cX6_tide 20 = .ok (.putfield 78, 3) := by decide +kernel
theorem dX6_tide_23 : decode cX6_tide 23 = .ok (.aload_n 0, 1) := by decide +kernel
theorem dX6_tide_24 : decode cX6_tide 24 = .ok (.aload_n 0, 1) := by decide +kernel
theorem dX6_tide_25 : decode cX6_tide 25 = .ok (.getfield 9, 3) := by decide +kernel
theorem dX6_tide_28 : decode cX6_tide 28 = .ok (.iconst 4, 1) := by decide +kernel
theorem dX6_tide_29 : decode cX6_tide 29 = .ok (.iaload, 1) := by decide +kernel
theorem dX6_tide_30 : decode cX6_tide 30 = .ok (.putfield 55, 3) := by decide +kernel
theorem dX6_tide_33 : decode cX6_tide 33 = .ok (.aload_n 0, 1) := by decide +kernel
theorem dX6_tide_34 : decode cX6_tide 34 = .ok (.getfield 9, 3) := by decide +kernel
theorem dX6_tide_37 : decode cX6_tide 37 = .ok (.iconst 4, 1) := by decide +kernel
theorem dX6_tide_38 : decode cX6_tide 38 = .ok (.iconst 0, 1) := by decide +kernel
theorem dX6_tide_39 : decode cX6_tide 39 = .ok (.iastore, 1) := by decide +kernel
theorem dX6_tide_40 : decode cX6_tide 40 = .ok (.aload_n 0, 1) := by decide +kernel
theorem dX6_tide_41 : decode cX6_tide 41 = .ok (.getfield 9, 3) := by decide +kernel
theorem dX6_tide_44 : decode cX6_tide 44 = .ok (.sipush 215, 3) := by decide +kernel
theorem dX6_tide_47 : decode cX6_tide 47 = .ok (.aload_n 0, 1) := by decide +kernel
theorem dX6_tide_48 : decode cX6_tide 48 = .ok (.getfield 78, 3) := by decide +kernel
theorem dX6_tide_51 : decode cX6_tide 51 = .ok (.iadd, 1) := by decide +kernel
theorem dX6_tide_52 : decode cX6_tide 52 = .ok (.iconst 0, 1) := by decide +kernel
theorem dX6_tide_53 : decode cX6_tide 53 = .ok (.iastore, 1) := by decide +kernel
theorem dX6_tide_54 : decode cX6_tide 54 = .ok (.aload_n 0, 1) := by decide +kernel
theorem dX6_tide_55 : decode cX6_tide 55 = .ok (.iconst 0, 1) := by decide +kernel
theorem dX6_tide_56 : decode cX6_tide 56 = .ok (.putfield 52, 3) := by decide +kernel
theorem dX6_tide_59 : decode cX6_tide 59 = .ok (.aload_n 0, 1) := by decide +kernel
theorem dX6_tide_60 : decode cX6_tide 60 = .ok (.iconst 0, 1) := by decide +kernel
theorem dX6_tide_61 : decode cX6_tide 61 = .ok (.putfield 58, 3) := by decide +kernel
theorem dX6_tide_64 : decode cX6_tide 64 = .ok (.aload_n 0, 1) := by decide +kernel
theorem dX6_tide_65 : decode cX6_tide 65 = .ok (.iconst 0, 1) := by decide +kernel
theorem dX6_tide_66 : decode cX6_tide 66 = .ok (.putfield 81, 3) := by decide +kernel
theorem dX6_tide_69 : decode cX6_tide 69 = .ok (.iconst 1, 1) := by decide +kernel
theorem dX6_tide_70 : decode cX6_tide 70 = .ok (.istore_n 1, 1) := by decide +kernel
theorem dX6_tide_71 : decode cX6_tide 71 = .ok (.aload_n 0, 1) := by decide +kernel
theorem dX6_tide_72 : decode cX6_tide 72 = .ok (.invokevirtual 126, 3) := by decide +kernel
theorem dX6_tide_75 : decode cX6_tide 75 = .ok (.aload_n 0, 1) := by decide +kernel
theorem dX6_tide_76 : decode cX6_tide 76 = .ok (.getfield 58, 3) := by decide +kernel
theorem dX6_tide_79 : decode cX6_tide 79 = .ok (.ifCond .ne 38, 3) := by decide +kernel
theorem dX6_tide_82 : decode cX6_tide 82 = .ok (.iload_n 1, 1) := by decide +kernel
theorem dX6_tide_83 : decode cX6_tide 83 = .ok (.bipush 10, 2) := by decide +kernel
theorem dX6_tide_85 : decode cX6_tide 85 = .ok (.if_icmp .ge 32, 3) := by decide +kernel
theorem dX6_tide_88 : decode cX6_tide 88 = .ok (.aload_n 0, 1) := by decide +kernel
theorem dX6_tide_89 : decode cX6_tide 89 = .ok (.invokevirtual 62, 3) := by decide +kernel
theorem dX6_tide_92 : decode cX6_tide 92 = .ok (.bipush 59, 2) := by decide +kernel
theorem dX6_tide_94 : decode cX6_tide 94 = .ok (.if_icmp .ne 23, 3) := by decide +kernel
theorem dX6_tide_97 : decode cX6_tide 97 = .ok (.aload_n 0, 1) := by decide +kernel
theorem dX6_tide_98 : decode cX6_tide 98 = .ok (.dup, 1) := by decide +kernel
theorem dX6_tide_99 : decode cX6_tide 99 = .ok (.getfield 52, 3) := by decide +kernel
theorem dX6_tide_102 : decode cX6_tide 102 = .ok (.iconst 1, 1) := by decide +kernel
theorem dX6_tide_103 : decode cX6_tide 103 = .ok (.iadd, 1) := by decide +kernel
theorem dX6_tide_104 : decode cX6_tide 104 = .ok (.putfield 52, 3) := by decide +kernel
theorem dX6_tide_107 : decode cX6_tide 107 = .ok (.aload_n 0, 1) := by decide +kernel
theorem dX6_tide_108 : decode cX6_tide 108 = .ok (.invokevirtual 126, 3) := by decide +kernel
theorem dX6_tide_111 : decode cX6_tide 111 = .ok (.iinc 1 1, 3) := by decide +kernel
theorem dX6_tide_114 : decode cX6_tide 114 = .ok (.goto (-39), 3) := by decide +kernel
theorem dX6_tide_117 : decode cX6_tide 117 = .ok (.aload_n 0, 1) := by decide +kernel
theorem dX6_tide_118 : decode cX6_tide 118 = .ok (.getfield 58, 3) := by decide +kernel
theorem dX6_tide_121 : decode cX6_tide 121 = .ok (.ifCond .ne 14, 3) := by decide +kernel
theorem dX6_tide_124 : decode cX6_tide 124 = .ok (.aload_n 0, 1) := by decide +kernel
theorem dX6_tide_125 : decode cX6_tide 125 = .ok (.getfield 52, 3) := by decide +kernel
theorem dX6_tide_128 : decode cX6_tide 128 = .ok (.aload_n 0, 1) := by decide +kernel
theorem dX6_tide_129 : decode cX6_tide 129 = .ok (.getfield 55, 3) := by decide +kernel
theorem dX6_tide_132 : decode cX6_tide 132 = .ok (.if_icmp .eq 11, 3) := by decide +kernel
theorem dX6_tide_135 : decode cX6_tide 135 = .ok (.bipush (-10), 2) := by decide +kernel
theorem dX6_tide_137 : decode cX6_tide 137 = .ok (.aload_n 0, 1) := by decide +kernel
theorem dX6_tide_138 : decode cX6_tide 138 = .ok (.getfield 52, 3) := by decide +kernel
theorem dX6_tide_141 : decode cX6_tide 141 = .ok (.isub, 1) := by decide +kernel
theorem dX6_tide_142 : decode cX6_tide 142 = .ok (.ireturn, 1) := by decide +kernel
theorem dX6_tide_143 : decode cX6_tide 143 = .ok (.aload_n 0, 1) := by decide +kernel
theorem dX6_tide_144 : decode cX6_tide 144 = .ok (.getfield 9, 3) := by decide +kernel
theorem dX6_tide_147 : decode cX6_tide 147 = .ok (.iconst 1, 1) := by decide +kernel
theorem dX6_tide_148 : decode cX6_tide 148 = .ok (.dup2, 1) := by decide +kernel
theorem dX6_tide_149 : decode cX6_tide 149 = .ok (.iaload, 1) := by decide +kernel
theorem dX6_tide_150 : decode cX6_tide 150 = .ok (.iconst 1, 1) := by decide +kernel
theorem dX6_tide_151 : decode cX6_tide 151 = .ok (.iadd, 1) := by decide +kernel
theorem dX6_tide_152 : decode cX6_tide 152 = .ok (.iastore, 1) := by decide +kernel
theorem dX6_tide_153 : decode cX6_tide 153 = .ok (.aload_n 0, 1) := by decide +kernel
theorem dX6_tide_154 : decode cX6_tide 154 = .ok (.getfield 9, 3) := by decide +kernel
theorem dX6_tide_157 : decode cX6_tide 157 = .ok (.iconst 5, 1) := by decide +kernel
theorem dX6_tide_158 : decode cX6_tide 158 = .ok (.aload_n 0, 1) := by decide +kernel
theorem dX6_tide_159 : decode cX6_tide 159 = .ok (.getfield 78, 3) := by decide +kernel
theorem dX6_tide_162 : decode cX6_tide 162 = .ok (.iastore, 1) := by decide +kernel
theorem dX6_tide_163 : decode cX6_tide 163 = .ok (.aload_n 0, 1) := by decide +kernel
theorem dX6_tide_164 : decode cX6_tide 164 = .ok (.getfield 78, 3) := by decide +kernel
theorem dX6_tide_167 : decode cX6_tide 167 = .ok (.ireturn, 1) := by decide +kernel
abbrev rm_X6_tide : Room := { frames := 45, cells := 0, slots := 0, locals := 963 }
abbrev jJ_X6_tide (l : Launch) (G : jx_G) (sz : Nat) (out : (Int32 × jx_M)) (pc : Nat) (lv : List (Nat × Value)) (st : List Value) (σ : jx_M) : Prop := jx_J l (mm_env G) (mm_dyn G) (mm_rg G) sz RX6 "tide" cX6_tide 2 (some .int) rm_X6_tide (fun below args s => MQ below (jx_Qi (mm_dyn G) out.2 out.1 (jx_A (mm_rg G) sz)) args s 0 0 (jx_A (mm_rg G) sz)) 0 0 pc lv st σ
def b_X6_tide_117  (σ : jx_M)  : Option (Int32 × jx_M) :=
  if (σ 0 7) = 0 then if (σ 0 5) = (σ 0 6) then jx_lt (jx_mu σ 1 1 ((σ 1 1) + (1 : Int32))) (fun σ3 => jx_lt (jx_mu σ3 1 5 (σ3 0 4)) (fun σ4 => some ((σ4 0 4), σ4))) else some (((-10 : Int32) - (σ 0 5)), σ) else some (((-10 : Int32) - (σ 0 5)), σ)
set_option maxHeartbeats 4000000 in
set_option maxRecDepth 100000 in
theorem jb_X6_tide_117 (l : Launch) (G : jx_G) (hG : mm_ok G) (sz : Nat) (out : (Int32 × jx_M))  (σ : jx_M)  (h : b_X6_tide_117 σ = some out) : jJ_X6_tide l G sz out 117 [(0, .ref (G.2 10))] [] σ := by
  unfold b_X6_tide_117 at h
  refine jx_aload_n (pc := 117) (k0 := 0) rfl dX6_tide_117 ?_
  refine mm_g_isWrong (pc := 118) fl_X6_58 dX6_tide_118 ?_
  refine jx_if_ne (pc := 121) (tgt := 135) dX6_tide_121 (by decide) (fun c1 => ?_) (fun c1 => ?_)
  · have h := jx_f c1 h
    refine jx_bipush (pc := 135) (v := (-10 : Int32)) (by decide) dX6_tide_135 ?_
    refine jx_aload_n (pc := 137) (k0 := 0) rfl dX6_tide_137 ?_
    refine mm_g_spot (pc := 138) fl_X6_52 dX6_tide_138 ?_
    refine jx_isub (pc := 141) dX6_tide_141 ?_
    have h := Option.some.inj h
    subst h
    exact jx_iret (pc := 142) dX6_tide_142
  · have h := jx_t c1 h
    refine jx_aload_n (pc := 124) (k0 := 0) rfl dX6_tide_124 ?_
    refine mm_g_spot (pc := 125) fl_X6_52 dX6_tide_125 ?_
    refine jx_aload_n (pc := 128) (k0 := 0) rfl dX6_tide_128 ?_
    refine mm_g_end (pc := 129) fl_X6_55 dX6_tide_129 ?_
    refine jx_icmp_eq (pc := 132) (tgt := 143) dX6_tide_132 (by decide) (fun c2 => ?_) (fun c2 => ?_)
    · have h := jx_t c2 h
      refine jx_aload_n (pc := 143) (k0 := 0) rfl dX6_tide_143 ?_
      refine mm_g_s (pc := 144) fl_X6_9 dX6_tide_144 ?_
      refine jx_iconst (pc := 147) (v := (1 : Int32)) (by decide) dX6_tide_147 ?_
      refine jx_dup2 (pc := 148) rfl rfl dX6_tide_148 ?_
      refine mm_l_s (pc := 149) (j := 1) (jx_in_o (by decide)) (by decide) dX6_tide_149 ?_
      refine jx_iconst (pc := 150) (v := (1 : Int32)) (by decide) dX6_tide_150 ?_
      refine jx_iadd (pc := 151) dX6_tide_151 ?_
      obtain ⟨σ3, eσ3, h⟩ := jx_lt_o h
      refine mm_s_s (pc := 152) hG (jx_in_o (by decide)) (by decide) eσ3 dX6_tide_152 ?_
      refine jx_aload_n (pc := 153) (k0 := 0) rfl dX6_tide_153 ?_
      refine mm_g_s (pc := 154) fl_X6_9 dX6_tide_154 ?_
      refine jx_iconst (pc := 157) (v := (5 : Int32)) (by decide) dX6_tide_157 ?_
      refine jx_aload_n (pc := 158) (k0 := 0) rfl dX6_tide_158 ?_
      refine mm_g_act (pc := 159) fl_X6_78 dX6_tide_159 ?_
      obtain ⟨σ4, eσ4, h⟩ := jx_lt_o h
      refine mm_s_s (pc := 162) hG (jx_in_o (by decide)) (by decide) eσ4 dX6_tide_162 ?_
      refine jx_aload_n (pc := 163) (k0 := 0) rfl dX6_tide_163 ?_
      refine mm_g_act (pc := 164) fl_X6_78 dX6_tide_164 ?_
      have h := Option.some.inj h
      subst h
      exact jx_iret (pc := 167) dX6_tide_167
    · have h := jx_f c2 h
      refine jx_bipush (pc := 135) (v := (-10 : Int32)) (by decide) dX6_tide_135 ?_
      refine jx_aload_n (pc := 137) (k0 := 0) rfl dX6_tide_137 ?_
      refine mm_g_spot (pc := 138) fl_X6_52 dX6_tide_138 ?_
      refine jx_isub (pc := 141) dX6_tide_141 ?_
      have h := Option.some.inj h
      subst h
      exact jx_iret (pc := 142) dX6_tide_142
def g_X6_tide_75 (k75 : jx_M → Int32 → Option (Int32 × jx_M)) (σ : jx_M) (v1 : Int32) : Option (Int32 × jx_M) :=
  if (σ 0 7) = 0 then if (10 : Int32) ≤ v1 then (b_X6_tide_117 σ) else jx_bd (f_X6_here σ) (fun q3 => if q3 = (59 : Int32) then jx_lt (jx_mu σ 0 5 ((σ 0 5) + (1 : Int32))) (fun σ5 => jx_bd (f_X6_clauseHere σ5) (fun q6 => jx_lt (v1 + (1 : Int32)) (fun x7 => (k75 q6 x7)))) else (b_X6_tide_117 σ)) else (b_X6_tide_117 σ)
set_option maxHeartbeats 4000000 in
set_option maxRecDepth 100000 in
theorem jg_X6_tide_75 (l : Launch) (G : jx_G) (hG : mm_ok G) (sz : Nat) (out : (Int32 × jx_M)) (k75 : jx_M → Int32 → Option (Int32 × jx_M)) (h75 : ∀ (σ : jx_M) (v1 : Int32), k75 σ v1 = some out → jJ_X6_tide l G sz out 75 [(0, .ref (G.2 10)), (1, .int v1)] [] σ) (σ : jx_M) (v1 : Int32) (h : g_X6_tide_75 k75 σ v1 = some out) : jJ_X6_tide l G sz out 75 [(0, .ref (G.2 10)), (1, .int v1)] [] σ := by
  unfold g_X6_tide_75 at h
  refine jx_aload_n (pc := 75) (k0 := 0) rfl dX6_tide_75 ?_
  refine mm_g_isWrong (pc := 76) fl_X6_58 dX6_tide_76 ?_
  refine jx_if_ne (pc := 79) (tgt := 117) dX6_tide_79 (by decide) (fun c1 => ?_) (fun c1 => ?_)
  · have h := jx_f c1 h
    exact jx_sub [0] rfl (jb_X6_tide_117 l G hG sz out σ h)
  · have h := jx_t c1 h
    refine jx_iload_n (pc := 82) (k0 := 1) rfl dX6_tide_82 ?_
    refine jx_bipush (pc := 83) (v := (10 : Int32)) (by decide) dX6_tide_83 ?_
    refine jx_icmp_ge (pc := 85) (tgt := 117) dX6_tide_85 (by decide) (fun c2 => ?_) (fun c2 => ?_)
    · have h := jx_t c2 h
      exact jx_sub [0] rfl (jb_X6_tide_117 l G hG sz out σ h)
    · have h := jx_f c2 h
      refine jx_aload_n (pc := 88) (k0 := 0) rfl dX6_tide_88 ?_
      obtain ⟨q3, eq3, h⟩ := jx_bd_o h
      refine jx_callVi (pc := 89) [] (fun sz' => k_X6_here l G hG sz' σ q3 eq3) kv_X6_62 mm_jok mm_rc rfl rfl (Nat.le_of_ble_eq_true rfl) ⟨⟨rfl, rfl⟩, ⟨Nat.le_of_ble_eq_true rfl, Nat.le_of_ble_eq_true rfl⟩, Nat.zero_le _, Nat.zero_le _⟩ dX6_tide_89 ?_
      refine jx_bipush (pc := 92) (v := (59 : Int32)) (by decide) dX6_tide_92 ?_
      refine jx_icmp_ne (pc := 94) (tgt := 117) dX6_tide_94 (by decide) (fun c4 => ?_) (fun c4 => ?_)
      · have h := jx_f c4 h
        exact jx_sub [0] rfl (jb_X6_tide_117 l G hG sz out σ h)
      · have h := jx_t c4 h
        refine jx_aload_n (pc := 97) (k0 := 0) rfl dX6_tide_97 ?_
        refine jx_dup (pc := 98) rfl dX6_tide_98 ?_
        refine mm_g_spot (pc := 99) fl_X6_52 dX6_tide_99 ?_
        refine jx_iconst (pc := 102) (v := (1 : Int32)) (by decide) dX6_tide_102 ?_
        refine jx_iadd (pc := 103) dX6_tide_103 ?_
        obtain ⟨σ5, eσ5, h⟩ := jx_lt_o h
        refine mm_p_spot (pc := 104) hG fl_X6_52 eσ5 dX6_tide_104 ?_
        refine jx_aload_n (pc := 107) (k0 := 0) rfl dX6_tide_107 ?_
        obtain ⟨q6, eq6, h⟩ := jx_bd_o h
        refine jx_callVv (pc := 108) [] (fun sz' => k_X6_clauseHere l G hG sz' σ5 q6 eq6) kv_X6_126 mm_jok mm_rc rfl rfl (Nat.le_of_ble_eq_true rfl) ⟨⟨rfl, rfl⟩, ⟨Nat.le_of_ble_eq_true rfl, Nat.le_of_ble_eq_true rfl⟩, Nat.zero_le _, Nat.zero_le _⟩ dX6_tide_108 ?_
        obtain ⟨x7, ex7, h⟩ := jx_lt_o h
        refine jx_iinc (pc := 111) (i := 1) (v := v1) rfl ex7 (n := 1) (by decide) (by decide) (lv' := [(1, .int x7), (0, .ref (G.2 10))]) rfl dX6_tide_111 ?_
        refine jx_goto (pc := 114) (tgt := 75) dX6_tide_114 (by decide) ?_
        exact jx_sub [1, 0] rfl (h75 q6 x7 h)
def b_X6_tide_75  : Nat → jx_M → Int32 → Option (Int32 × jx_M)
  | 0, _, _ => none
  | n + 1, σ, v1 => g_X6_tide_75 (b_X6_tide_75 n) σ v1
theorem jb_X6_tide_75 (l : Launch) (G : jx_G) (hG : mm_ok G) (sz : Nat) (out : (Int32 × jx_M))  : ∀ (n : Nat) (σ : jx_M) (v1 : Int32), b_X6_tide_75 n σ v1 = some out → jJ_X6_tide l G sz out 75 [(0, .ref (G.2 10)), (1, .int v1)] [] σ := by
  intro n
  induction n with
  | zero =>
    intro σ v1 h
    cases h
  | succ n ih =>
    intro σ v1 h
    exact jg_X6_tide_75 l G hG sz out (b_X6_tide_75 n) ih σ v1 h
def f_X6_tide (σ : jx_M)  : Option (Int32 × jx_M) :=
  if (σ 1 1) = (5 : Int32) then some ((-4 : Int32), σ) else jx_lt (jx_mu σ 0 4 (σ 1 1)) (fun σ2 => jx_lt (jx_mu σ2 0 6 (σ2 1 4)) (fun σ3 => jx_lt (jx_mu σ3 1 4 (0 : Int32)) (fun σ4 => jx_gd (jx_in ((215 : Int32) + (σ4 0 4)) 920) (jx_lt (jx_mu σ4 1 ((215 : Int32) + (σ4 0 4)).toNatClampNeg (0 : Int32)) (fun σ6 => jx_lt (jx_mu σ6 0 5 (0 : Int32)) (fun σ7 => jx_lt (jx_mu σ7 0 7 (0 : Int32)) (fun σ8 => jx_lt (jx_mu σ8 0 8 (0 : Int32)) (fun σ9 => jx_bd (f_X6_clauseHere σ9) (fun q10 => (b_X6_tide_75 jx_fuel q10 (1 : Int32)))))))))))
set_option maxHeartbeats 4000000 in
set_option maxRecDepth 100000 in
theorem k_X6_tide (l : Launch) (G : jx_G) (hG : mm_ok G) (sz : Nat) (σ : jx_M)  (out : (Int32 × jx_M)) (h : f_X6_tide σ = some out) : Met l yX6_tide (Cond.code yX6_tide cX6_tide 2 (some .int) :: jx_ws) rm_X6_tide (jx_Pc (mm_env G) (mm_dyn G) (mm_rg G) sz σ [.ref (G.2 10)]) (jx_Qi (mm_dyn G) out.2 out.1 (jx_A (mm_rg G) sz)) 0 0 (jx_A (mm_rg G) sz) := by
  unfold f_X6_tide at h
  refine jx_met (by decide) (Nat.le_of_ble_eq_true rfl) ?_
  refine jx_sub (lv' := [(0, .ref (G.2 10))]) [0] rfl ?_
  refine jx_aload_n (pc := 0) (k0 := 0) rfl dX6_tide_0 ?_
  refine mm_g_s (pc := 1) fl_X6_9 dX6_tide_1 ?_
  refine jx_iconst (pc := 4) (v := (1 : Int32)) (by decide) dX6_tide_4 ?_
  refine mm_l_s (pc := 5) (j := 1) (jx_in_o (by decide)) (by decide) dX6_tide_5 ?_
  refine jx_iconst (pc := 6) (v := (5 : Int32)) (by decide) dX6_tide_6 ?_
  refine jx_icmp_ne (pc := 7) (tgt := 13) dX6_tide_7 (by decide) (fun c1 => ?_) (fun c1 => ?_)
  · have h := jx_f c1 h
    refine jx_aload_n (pc := 13) (k0 := 0) rfl dX6_tide_13 ?_
    refine jx_aload_n (pc := 14) (k0 := 0) rfl dX6_tide_14 ?_
    refine mm_g_s (pc := 15) fl_X6_9 dX6_tide_15 ?_
    refine jx_iconst (pc := 18) (v := (1 : Int32)) (by decide) dX6_tide_18 ?_
    refine mm_l_s (pc := 19) (j := 1) (jx_in_o (by decide)) (by decide) dX6_tide_19 ?_
    obtain ⟨σ2, eσ2, h⟩ := jx_lt_o h
    refine mm_p_act (pc := 20) hG fl_X6_78 eσ2 dX6_tide_20 ?_
    refine jx_aload_n (pc := 23) (k0 := 0) rfl dX6_tide_23 ?_
    refine jx_aload_n (pc := 24) (k0 := 0) rfl dX6_tide_24 ?_
    refine mm_g_s (pc := 25) fl_X6_9 dX6_tide_25 ?_
    refine jx_iconst (pc := 28) (v := (4 : Int32)) (by decide) dX6_tide_28 ?_
    refine mm_l_s (pc := 29) (j := 4) (jx_in_o (by decide)) (by decide) dX6_tide_29 ?_
    obtain ⟨σ3, eσ3, h⟩ := jx_lt_o h
    refine mm_p_end (pc := 30) hG fl_X6_55 eσ3 dX6_tide_30 ?_
    refine jx_aload_n (pc := 33) (k0 := 0) rfl dX6_tide_33 ?_
    refine mm_g_s (pc := 34) fl_X6_9 dX6_tide_34 ?_
    refine jx_iconst (pc := 37) (v := (4 : Int32)) (by decide) dX6_tide_37 ?_
    refine jx_iconst (pc := 38) (v := (0 : Int32)) (by decide) dX6_tide_38 ?_
    obtain ⟨σ4, eσ4, h⟩ := jx_lt_o h
    refine mm_s_s (pc := 39) hG (jx_in_o (by decide)) (by decide) eσ4 dX6_tide_39 ?_
    refine jx_aload_n (pc := 40) (k0 := 0) rfl dX6_tide_40 ?_
    refine mm_g_s (pc := 41) fl_X6_9 dX6_tide_41 ?_
    refine jx_sipush (pc := 44) (v := (215 : Int32)) (by decide) dX6_tide_44 ?_
    refine jx_aload_n (pc := 47) (k0 := 0) rfl dX6_tide_47 ?_
    refine mm_g_act (pc := 48) fl_X6_78 dX6_tide_48 ?_
    refine jx_iadd (pc := 51) dX6_tide_51 ?_
    refine jx_iconst (pc := 52) (v := (0 : Int32)) (by decide) dX6_tide_52 ?_
    obtain ⟨g5, h⟩ := jx_gd_o h
    obtain ⟨σ6, eσ6, h⟩ := jx_lt_o h
    refine mm_s_s (pc := 53) hG (jx_in_o g5) rfl eσ6 dX6_tide_53 ?_
    refine jx_aload_n (pc := 54) (k0 := 0) rfl dX6_tide_54 ?_
    refine jx_iconst (pc := 55) (v := (0 : Int32)) (by decide) dX6_tide_55 ?_
    obtain ⟨σ7, eσ7, h⟩ := jx_lt_o h
    refine mm_p_spot (pc := 56) hG fl_X6_52 eσ7 dX6_tide_56 ?_
    refine jx_aload_n (pc := 59) (k0 := 0) rfl dX6_tide_59 ?_
    refine jx_iconst (pc := 60) (v := (0 : Int32)) (by decide) dX6_tide_60 ?_
    obtain ⟨σ8, eσ8, h⟩ := jx_lt_o h
    refine mm_p_isWrong (pc := 61) hG (by decide) fl_X6_58 eσ8 dX6_tide_61 ?_
    refine jx_aload_n (pc := 64) (k0 := 0) rfl dX6_tide_64 ?_
    refine jx_iconst (pc := 65) (v := (0 : Int32)) (by decide) dX6_tide_65 ?_
    obtain ⟨σ9, eσ9, h⟩ := jx_lt_o h
    refine mm_p_open (pc := 66) hG fl_X6_81 eσ9 dX6_tide_66 ?_
    refine jx_iconst (pc := 69) (v := (1 : Int32)) (by decide) dX6_tide_69 ?_
    refine jx_istore_n (pc := 70) (i := 1) rfl rfl (by decide) (lv' := [(1, .int (1 : Int32)), (0, .ref (G.2 10))]) rfl dX6_tide_70 ?_
    refine jx_aload_n (pc := 71) (k0 := 0) rfl dX6_tide_71 ?_
    obtain ⟨q10, eq10, h⟩ := jx_bd_o h
    refine jx_callVv (pc := 72) [] (fun sz' => k_X6_clauseHere l G hG sz' σ9 q10 eq10) kv_X6_126 mm_jok mm_rc rfl rfl (Nat.le_of_ble_eq_true rfl) ⟨⟨rfl, rfl⟩, ⟨Nat.le_of_ble_eq_true rfl, Nat.le_of_ble_eq_true rfl⟩, Nat.zero_le _, Nat.zero_le _⟩ dX6_tide_72 ?_
    exact jx_sub [1, 0] rfl (jb_X6_tide_75 l G hG sz out jx_fuel q10 (1 : Int32) h)
  · have h := jx_t c1 h
    refine jx_bipush (pc := 10) (v := (-4 : Int32)) (by decide) dX6_tide_10 ?_
    have h := Option.some.inj h
    subst h
    exact jx_iret (pc := 12) dX6_tide_12
theorem dX6_vote_0 : decode cX6_vote 0 = .ok (.iload_n 1, 1) := by decide +kernel
theorem dX6_vote_1 : decode cX6_vote 1 = .ok (.iconst 0, 1) := by decide +kernel
theorem dX6_vote_2 : decode cX6_vote 2 = .ok (.iconst 2, 1) := by decide +kernel
theorem dX6_vote_3 : decode cX6_vote 3 = .ok (.invokestatic 48, 3) := by decide +kernel
theorem dX6_vote_6 : decode cX6_vote 6 = .ok (.ifCond .ne 5, 3) := by decide +kernel
theorem dX6_vote_9 : decode cX6_vote 9 = .ok (.iconst (-1), 1) := by decide +kernel
theorem dX6_vote_10 : decode cX6_vote 10 = .ok (.ireturn, 1) := by decide +kernel
theorem dX6_vote_11 : decode cX6_vote 11 = .ok (.aload_n 0, 1) := by decide +kernel
theorem dX6_vote_12 : decode cX6_vote 12 = .ok (.invokevirtual 185, 3) := by decide +kernel
theorem dX6_vote_15 : decode cX6_vote 15 = .ok (.aload_n 0, 1) := by decide +kernel
theorem dX6_vote_16 : decode cX6_vote 16 = .ok (.invokevirtual 188, 3) := by decide +kernel
theorem dX6_vote_19 : decode cX6_vote 19 = .ok (.iload_n 1, 1) := by decide +kernel
theorem dX6_vote_20 : decode cX6_vote 20 = .ok (.iconst 2, 1) := by decide +kernel
theorem dX6_vote_21 : decode cX6_vote 21 = .ok (.if_icmp .ne 10, 3) := by decide +kernel
theorem dX6_vote_24 : decode cX6_vote 24 = .ok (.aload_n 0, 1) := by decide +kernel
theorem dX6_vote_25 : decode cX6_vote 25 = .ok (.invokevirtual 191, 3) := by decide +kernel
theorem dX6_vote_28 : decode cX6_vote 28 = .ok (.goto 8, 3) := by decide +kernel
theorem dX6_vote_31 : decode cX6_vote 31 = .ok (.aload_n 0, 1) := by decide +kernel
theorem dX6_vote_32 : decode cX6_vote 32 = .ok (.iload_n 1, 1) := by decide +kernel
theorem dX6_vote_33 : decode cX6_vote 33 = .ok (.invokevirtual 179, 3) := by decide +kernel
theorem dX6_vote_36 : decode cX6_vote 36 = .ok (.ireturn, 1) := by decide +kernel
abbrev rm_X6_vote : Room := { frames := 5, cells := 0, slots := 0, locals := 123 }
abbrev jJ_X6_vote (l : Launch) (G : jx_G) (sz : Nat) (out : (Int32 × jx_M)) (pc : Nat) (lv : List (Nat × Value)) (st : List Value) (σ : jx_M) : Prop := jx_J l (mm_env G) (mm_dyn G) (mm_rg G) sz RX6 "vote" cX6_vote 2 (some .int) rm_X6_vote (fun below args s => MQ below (jx_Qi (mm_dyn G) out.2 out.1 (jx_A (mm_rg G) sz)) args s 0 0 (jx_A (mm_rg G) sz)) 0 0 pc lv st σ
def f_X6_vote (σ : jx_M) (a1 : Int32) : Option (Int32 × jx_M) :=
  jx_bd (f_X6_in a1 (0 : Int32) (2 : Int32)) (fun q1 => if q1 = 0 then some ((-1 : Int32), σ) else jx_bd (f_X6_looksForNight σ) (fun q3 => jx_bd (f_X6_laysAll q3) (fun q4 => if a1 = (2 : Int32) then jx_bd (f_X6_mayor q4) (fun q7 => some (q7, q4)) else jx_bd (f_X6_votesFor q4 a1) (fun q6 => some (q6, q4)))))
set_option maxHeartbeats 4000000 in
set_option maxRecDepth 100000 in
theorem k_X6_vote (l : Launch) (G : jx_G) (hG : mm_ok G) (sz : Nat) (σ : jx_M) (a1 : Int32) (out : (Int32 × jx_M)) (h : f_X6_vote σ a1 = some out) : Met l yX6_vote (Cond.code yX6_vote cX6_vote 2 (some .int) :: jx_ws) rm_X6_vote (jx_Pc (mm_env G) (mm_dyn G) (mm_rg G) sz σ [.ref (G.2 10), .int a1]) (jx_Qi (mm_dyn G) out.2 out.1 (jx_A (mm_rg G) sz)) 0 0 (jx_A (mm_rg G) sz) := by
  unfold f_X6_vote at h
  refine jx_met (by decide) (Nat.le_of_ble_eq_true rfl) ?_
  refine jx_sub (lv' := [(0, .ref (G.2 10)), (1, .int a1)]) [0, 1] rfl ?_
  refine jx_iload_n (pc := 0) (k0 := 1) rfl dX6_vote_0 ?_
  refine jx_iconst (pc := 1) (v := (0 : Int32)) (by decide) dX6_vote_1 ?_
  refine jx_iconst (pc := 2) (v := (2 : Int32)) (by decide) dX6_vote_2 ?_
  obtain ⟨q1, eq1, h⟩ := jx_bd_o h
  refine jx_callSi (pc := 3) [.int a1, .int (0 : Int32), .int (2 : Int32)] (fun sz' => k_X6_in l G hG sz' σ a1 (0 : Int32) (2 : Int32) q1 eq1) ks_X6_48 mm_jok rfl rfl (Nat.le_of_ble_eq_true rfl) ⟨⟨rfl, rfl⟩, ⟨Nat.le_of_ble_eq_true rfl, Nat.le_of_ble_eq_true rfl⟩, Nat.zero_le _, Nat.zero_le _⟩ dX6_vote_3 ?_
  refine jx_if_ne (pc := 6) (tgt := 11) dX6_vote_6 (by decide) (fun c2 => ?_) (fun c2 => ?_)
  · have h := jx_f c2 h
    refine jx_aload_n (pc := 11) (k0 := 0) rfl dX6_vote_11 ?_
    obtain ⟨q3, eq3, h⟩ := jx_bd_o h
    refine jx_callVv (pc := 12) [] (fun sz' => k_X6_looksForNight l G hG sz' σ q3 eq3) kv_X6_185 mm_jok mm_rc rfl rfl (Nat.le_of_ble_eq_true rfl) ⟨⟨rfl, rfl⟩, ⟨Nat.le_of_ble_eq_true rfl, Nat.le_of_ble_eq_true rfl⟩, Nat.zero_le _, Nat.zero_le _⟩ dX6_vote_12 ?_
    refine jx_aload_n (pc := 15) (k0 := 0) rfl dX6_vote_15 ?_
    obtain ⟨q4, eq4, h⟩ := jx_bd_o h
    refine jx_callVv (pc := 16) [] (fun sz' => k_X6_laysAll l G hG sz' q3 q4 eq4) kv_X6_188 mm_jok mm_rc rfl rfl (Nat.le_of_ble_eq_true rfl) ⟨⟨rfl, rfl⟩, ⟨Nat.le_of_ble_eq_true rfl, Nat.le_of_ble_eq_true rfl⟩, Nat.zero_le _, Nat.zero_le _⟩ dX6_vote_16 ?_
    refine jx_iload_n (pc := 19) (k0 := 1) rfl dX6_vote_19 ?_
    refine jx_iconst (pc := 20) (v := (2 : Int32)) (by decide) dX6_vote_20 ?_
    refine jx_icmp_ne (pc := 21) (tgt := 31) dX6_vote_21 (by decide) (fun c5 => ?_) (fun c5 => ?_)
    · have h := jx_f c5 h
      refine jx_aload_n (pc := 31) (k0 := 0) rfl dX6_vote_31 ?_
      refine jx_iload_n (pc := 32) (k0 := 1) rfl dX6_vote_32 ?_
      obtain ⟨q6, eq6, h⟩ := jx_bd_o h
      refine jx_callVi (pc := 33) [.int a1] (fun sz' => k_X6_votesFor l G hG sz' q4 a1 q6 eq6) kv_X6_179 mm_jok mm_rc rfl rfl (Nat.le_of_ble_eq_true rfl) ⟨⟨rfl, rfl⟩, ⟨Nat.le_of_ble_eq_true rfl, Nat.le_of_ble_eq_true rfl⟩, Nat.zero_le _, Nat.zero_le _⟩ dX6_vote_33 ?_
      have h := Option.some.inj h
      subst h
      exact jx_iret (pc := 36) dX6_vote_36
    · have h := jx_t c5 h
      refine jx_aload_n (pc := 24) (k0 := 0) rfl dX6_vote_24 ?_
      obtain ⟨q7, eq7, h⟩ := jx_bd_o h
      refine jx_callVi (pc := 25) [] (fun sz' => k_X6_mayor l G hG sz' q4 q7 eq7) kv_X6_191 mm_jok mm_rc rfl rfl (Nat.le_of_ble_eq_true rfl) ⟨⟨rfl, rfl⟩, ⟨Nat.le_of_ble_eq_true rfl, Nat.le_of_ble_eq_true rfl⟩, Nat.zero_le _, Nat.zero_le _⟩ dX6_vote_25 ?_
      refine jx_goto (pc := 28) (tgt := 36) dX6_vote_28 (by decide) ?_
      have h := Option.some.inj h
      subst h
      exact jx_iret (pc := 36) dX6_vote_36
  · have h := jx_t c2 h
    refine jx_iconst (pc := 9) (v := (-1 : Int32)) (by decide) dX6_vote_9 ?_
    have h := Option.some.inj h
    subst h
    exact jx_iret (pc := 10) dX6_vote_10
theorem dX6_lies_0 : decode cX6_lies 0 = .ok (.aload_n 0, 1) := by decide +kernel
theorem dX6_lies_1 : decode cX6_lies 1 = .ok (.iload_n 1, 1) := by decide +kernel
theorem dX6_lies_2 : decode cX6_lies 2 = .ok (.invokevirtual 163, 3) := by decide +kernel
theorem dX6_lies_5 : decode cX6_lies 5 = .ok (.ifCond .eq 12, 3) := by decide +kernel
theorem dX6_lies_8 : decode cX6_lies 8 = .ok (.iload_n 2, 1) := by decide +kernel
theorem dX6_lies_9 : decode cX6_lies 9 = .ok (.iconst 0, 1) := by decide +kernel
theorem dX6_lies_10 : decode cX6_lies 10 = .ok (.iconst 1, 1) := by decide +kernel
theorem dX6_lies_11 : decode cX6_lies 11 = .ok (.invokestatic 48, 3) := by decide +kernel
theorem dX6_lies_14 : decode cX6_lies 14 = .ok (.ifCond .ne 5, 3) := by decide +kernel
theorem dX6_lies_17 : decode cX6_lies 17 = .ok (.iconst (-1), 1) := by decide +kernel
theorem dX6_lies_18 : decode cX6_lies 18 = .ok (.ireturn, 1) := by decide +kernel
theorem dX6_lies_19 : decode cX6_lies 19 = .ok (.aload_n 0, 1) := by decide +kernel
theorem dX6_lies_20 : decode cX6_lies 20 = .ok (.invokevirtual 185, 3) := by decide +kernel
theorem dX6_lies_23 : decode cX6_lies 23 = .ok (.aload_n 0, 1) := by decide +kernel
theorem dX6_lies_24 : decode cX6_lies 24 = .ok (.invokevirtual 188, 3) := by decide +kernel
theorem dX6_lies_27 : decode cX6_lies 27 = .ok (.iload_n 2, 1) := by decide +kernel
theorem dX6_lies_28 : decode cX6_lies 28 = .ok (.ifCond .ne 12, 3) := by decide +kernel
theorem dX6_lies_31 : decode cX6_lies 31 = .ok (.aload_n 0, 1) := by decide +kernel
theorem dX6_lies_32 : decode cX6_lies 32 = .ok (.getfield 31, 3) := by decide +kernel
theorem dX6_lies_35 : decode cX6_lies 35 = .ok (.iload_n 1, 1) := by decide +kernel
theorem dX6_lies_36 : decode cX6_lies 36 = .ok (.iaload, 1) := by decide +kernel
theorem dX6_lies_37 : decode cX6_lies 37 = .ok (.goto 17, 3) := by decide +kernel
theorem dX6_lies_40 : decode cX6_lies 40 = .ok (.aload_n 0, 1) := by decide +kernel
theorem dX6_lies_41 : decode cX6_lies 41 = .ok (.getfield 34, 3) := by decide +kernel
theorem dX6_lies_44 : decode cX6_lies 44 = .ok (.iload_n 1, 1) := by decide +kernel
theorem dX6_lies_45 : decode cX6_lies 45 = .ok (.baload, 1) := by decide +kernel
theorem dX6_lies_46 : decode cX6_lies 46 = .ok (.ifCond .eq 7, 3) := by decide +kernel
theorem dX6_lies_49 : decode cX6_lies 49 = .ok (.iconst 1, 1) := by decide +kernel
theorem dX6_lies_50 : decode cX6_lies 50 = .ok (.goto 4, 3) := by decide +kernel
theorem dX6_lies_53 : decode cX6_lies 53 = .ok (.iconst 0, 1) := by decide +kernel
theorem dX6_lies_54 : decode cX6_lies 54 = .ok (.ireturn, 1) := by decide +kernel
abbrev rm_X6_lies : Room := { frames := 5, cells := 0, slots := 0, locals := 123 }
abbrev jJ_X6_lies (l : Launch) (G : jx_G) (sz : Nat) (out : (Int32 × jx_M)) (pc : Nat) (lv : List (Nat × Value)) (st : List Value) (σ : jx_M) : Prop := jx_J l (mm_env G) (mm_dyn G) (mm_rg G) sz RX6 "lies" cX6_lies 3 (some .int) rm_X6_lies (fun below args s => MQ below (jx_Qi (mm_dyn G) out.2 out.1 (jx_A (mm_rg G) sz)) args s 0 0 (jx_A (mm_rg G) sz)) 0 0 pc lv st σ
def f_X6_lies (σ : jx_M) (a1 : Int32) (a2 : Int32) : Option (Int32 × jx_M) :=
  jx_bd (f_X6_isVoter σ a1) (fun q1 => if q1 = 0 then some ((-1 : Int32), σ) else jx_bd (f_X6_in a2 (0 : Int32) (1 : Int32)) (fun q3 => if q3 = 0 then some ((-1 : Int32), σ) else jx_bd (f_X6_looksForNight σ) (fun q5 => jx_bd (f_X6_laysAll q5) (fun q6 => if a2 = 0 then jx_gd (jx_in a1 6) (some ((q6 7 a1.toNatClampNeg), q6)) else jx_gd (jx_in a1 6) (if (q6 8 a1.toNatClampNeg) = 0 then some ((0 : Int32), q6) else some ((1 : Int32), q6))))))
set_option maxHeartbeats 4000000 in
set_option maxRecDepth 100000 in
theorem k_X6_lies (l : Launch) (G : jx_G) (hG : mm_ok G) (sz : Nat) (σ : jx_M) (a1 : Int32) (a2 : Int32) (out : (Int32 × jx_M)) (h : f_X6_lies σ a1 a2 = some out) : Met l yX6_lies (Cond.code yX6_lies cX6_lies 3 (some .int) :: jx_ws) rm_X6_lies (jx_Pc (mm_env G) (mm_dyn G) (mm_rg G) sz σ [.ref (G.2 10), .int a1, .int a2]) (jx_Qi (mm_dyn G) out.2 out.1 (jx_A (mm_rg G) sz)) 0 0 (jx_A (mm_rg G) sz) := by
  unfold f_X6_lies at h
  refine jx_met (by decide) (Nat.le_of_ble_eq_true rfl) ?_
  refine jx_sub (lv' := [(0, .ref (G.2 10)), (1, .int a1), (2, .int a2)]) [0, 1, 2] rfl ?_
  refine jx_aload_n (pc := 0) (k0 := 0) rfl dX6_lies_0 ?_
  refine jx_iload_n (pc := 1) (k0 := 1) rfl dX6_lies_1 ?_
  obtain ⟨q1, eq1, h⟩ := jx_bd_o h
  refine jx_callVi (pc := 2) [.int a1] (fun sz' => k_X6_isVoter l G hG sz' σ a1 q1 eq1) kv_X6_163 mm_jok mm_rc rfl rfl (Nat.le_of_ble_eq_true rfl) ⟨⟨rfl, rfl⟩, ⟨Nat.le_of_ble_eq_true rfl, Nat.le_of_ble_eq_true rfl⟩, Nat.zero_le _, Nat.zero_le _⟩ dX6_lies_2 ?_
  refine jx_if_eq (pc := 5) (tgt := 17) dX6_lies_5 (by decide) (fun c2 => ?_) (fun c2 => ?_)
  · have h := jx_t c2 h
    refine jx_iconst (pc := 17) (v := (-1 : Int32)) (by decide) dX6_lies_17 ?_
    have h := Option.some.inj h
    subst h
    exact jx_iret (pc := 18) dX6_lies_18
  · have h := jx_f c2 h
    refine jx_iload_n (pc := 8) (k0 := 2) rfl dX6_lies_8 ?_
    refine jx_iconst (pc := 9) (v := (0 : Int32)) (by decide) dX6_lies_9 ?_
    refine jx_iconst (pc := 10) (v := (1 : Int32)) (by decide) dX6_lies_10 ?_
    obtain ⟨q3, eq3, h⟩ := jx_bd_o h
    refine jx_callSi (pc := 11) [.int a2, .int (0 : Int32), .int (1 : Int32)] (fun sz' => k_X6_in l G hG sz' σ a2 (0 : Int32) (1 : Int32) q3 eq3) ks_X6_48 mm_jok rfl rfl (Nat.le_of_ble_eq_true rfl) ⟨⟨rfl, rfl⟩, ⟨Nat.le_of_ble_eq_true rfl, Nat.le_of_ble_eq_true rfl⟩, Nat.zero_le _, Nat.zero_le _⟩ dX6_lies_11 ?_
    refine jx_if_ne (pc := 14) (tgt := 19) dX6_lies_14 (by decide) (fun c4 => ?_) (fun c4 => ?_)
    · have h := jx_f c4 h
      refine jx_aload_n (pc := 19) (k0 := 0) rfl dX6_lies_19 ?_
      obtain ⟨q5, eq5, h⟩ := jx_bd_o h
      refine jx_callVv (pc := 20) [] (fun sz' => k_X6_looksForNight l G hG sz' σ q5 eq5) kv_X6_185 mm_jok mm_rc rfl rfl (Nat.le_of_ble_eq_true rfl) ⟨⟨rfl, rfl⟩, ⟨Nat.le_of_ble_eq_true rfl, Nat.le_of_ble_eq_true rfl⟩, Nat.zero_le _, Nat.zero_le _⟩ dX6_lies_20 ?_
      refine jx_aload_n (pc := 23) (k0 := 0) rfl dX6_lies_23 ?_
      obtain ⟨q6, eq6, h⟩ := jx_bd_o h
      refine jx_callVv (pc := 24) [] (fun sz' => k_X6_laysAll l G hG sz' q5 q6 eq6) kv_X6_188 mm_jok mm_rc rfl rfl (Nat.le_of_ble_eq_true rfl) ⟨⟨rfl, rfl⟩, ⟨Nat.le_of_ble_eq_true rfl, Nat.le_of_ble_eq_true rfl⟩, Nat.zero_le _, Nat.zero_le _⟩ dX6_lies_24 ?_
      refine jx_iload_n (pc := 27) (k0 := 2) rfl dX6_lies_27 ?_
      refine jx_if_ne (pc := 28) (tgt := 40) dX6_lies_28 (by decide) (fun c7 => ?_) (fun c7 => ?_)
      · have h := jx_f c7 h
        refine jx_aload_n (pc := 40) (k0 := 0) rfl dX6_lies_40 ?_
        refine mm_g_counts (pc := 41) fl_X6_34 dX6_lies_41 ?_
        refine jx_iload_n (pc := 44) (k0 := 1) rfl dX6_lies_44 ?_
        obtain ⟨g8, h⟩ := jx_gd_o h
        refine mm_l_counts (pc := 45) (jx_in_o g8) rfl dX6_lies_45 ?_
        refine jx_if_eq (pc := 46) (tgt := 53) dX6_lies_46 (by decide) (fun c9 => ?_) (fun c9 => ?_)
        · have h := jx_t c9 h
          refine jx_iconst (pc := 53) (v := (0 : Int32)) (by decide) dX6_lies_53 ?_
          have h := Option.some.inj h
          subst h
          exact jx_iret (pc := 54) dX6_lies_54
        · have h := jx_f c9 h
          refine jx_iconst (pc := 49) (v := (1 : Int32)) (by decide) dX6_lies_49 ?_
          refine jx_goto (pc := 50) (tgt := 54) dX6_lies_50 (by decide) ?_
          have h := Option.some.inj h
          subst h
          exact jx_iret (pc := 54) dX6_lies_54
      · have h := jx_t c7 h
        refine jx_aload_n (pc := 31) (k0 := 0) rfl dX6_lies_31 ?_
        refine mm_g_lying (pc := 32) fl_X6_31 dX6_lies_32 ?_
        refine jx_iload_n (pc := 35) (k0 := 1) rfl dX6_lies_35 ?_
        obtain ⟨g10, h⟩ := jx_gd_o h
        refine mm_l_lying (pc := 36) (jx_in_o g10) rfl dX6_lies_36 ?_
        refine jx_goto (pc := 37) (tgt := 54) dX6_lies_37 (by decide) ?_
        have h := Option.some.inj h
        subst h
        exact jx_iret (pc := 54) dX6_lies_54
    · have h := jx_t c4 h
      refine jx_iconst (pc := 17) (v := (-1 : Int32)) (by decide) dX6_lies_17 ?_
      have h := Option.some.inj h
      subst h
      exact jx_iret (pc := 18) dX6_lies_18
