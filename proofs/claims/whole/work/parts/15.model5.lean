/-! the reference's methods: a function on the memory each, and its contract -/
theorem dX6_looked_0 : decode cX6_looked 0 = .ok (.aload_n 0, 1) := by decide +kernel
theorem dX6_looked_1 : decode cX6_looked 1 = .ok (.invokevirtual 185, 3) := by decide +kernel
theorem dX6_looked_4 : decode cX6_looked 4 = .ok (.iconst 0, 1) := by decide +kernel
theorem dX6_looked_5 : decode cX6_looked 5 = .ok (.istore_n 1, 1) := by decide +kernel
theorem dX6_looked_6 : decode cX6_looked 6 = .ok (.iload_n 1, 1) := by decide +kernel
theorem dX6_looked_7 : decode cX6_looked 7 = .ok (.aload_n 0, 1) := by decide +kernel
theorem dX6_looked_8 : decode cX6_looked 8 = .ok (.getfield 9, 3) := by decide +kernel
theorem dX6_looked_11 : decode cX6_looked 11 = .ok (.iconst 3, 1) := by decide +kernel
theorem dX6_looked_12 : decode cX6_looked 12 = .ok (.iaload, 1) := by decide +kernel
theorem dX6_looked_13 : decode cX6_looked 13 = .ok (.if_icmp .ge 52, 3) := by decide +kernel
theorem dX6_looked_16 : decode cX6_looked 16 = .ok (.aload_n 0, 1) := by decide +kernel
theorem dX6_looked_17 : decode cX6_looked 17 = .ok (.getfield 9, 3) := by decide +kernel
theorem dX6_looked_20 : decode cX6_looked 20 = .ok (.bipush 91, 2) := by decide +kernel
theorem dX6_looked_22 : decode cX6_looked 22 = .ok (.iload_n 1, 1) := by decide +kernel
theorem dX6_looked_23 : decode cX6_looked 23 = .ok (.iadd, 1) := by decide +kernel
theorem dX6_looked_24 : decode cX6_looked 24 = .ok (.iaload, 1) := by decide +kernel
theorem dX6_looked_25 : decode cX6_looked 25 = .ok (.istore_n 2, 1) := by decide +kernel
theorem dX6_looked_26 : decode cX6_looked 26 = .ok (.aload_n 0, 1) := by decide +kernel
theorem dX6_looked_27 : decode cX6_looked 27 = .ok (.iload_n 2, 1) := by decide +kernel
theorem dX6_looked_28 : decode cX6_looked 28 = .ok (.aload_n 0, 1) := by decide +kernel
theorem dX6_looked_29 : decode cX6_looked 29 = .ok (.iload_n 2, 1) := by decide +kernel
theorem dX6_looked_30 : decode cX6_looked 30 = .ok (.invokevirtual 166, 3) := by decide +kernel
theorem dX6_looked_33 : decode cX6_looked 33 = .ok (.aload_n 0, 1) := by decide +kernel
theorem dX6_looked_34 : decode cX6_looked 34 = .ok (.getfield 9, 3) := by decide +kernel
theorem dX6_looked_37 : decode cX6_looked 37 = .ok (.bipush 99, 2) := by decide +kernel
theorem dX6_looked_39 : decode cX6_looked 39 = .ok (.iload_n 1, 1) := by decide +kernel
theorem dX6_looked_40 : decode cX6_looked 40 = .ok (.iadd, 1) := by decide +kernel
theorem dX6_looked_41 : decode cX6_looked 41 = .ok (.iaload, 1) := by decide +kernel
theorem dX6_looked_42 : decode cX6_looked 42 = .ok (.invokevirtual 172, 3) := by decide +kernel
theorem dX6_looked_45 : decode cX6_looked 45 = .ok (.aload_n 0, 1) := by decide +kernel
theorem dX6_looked_46 : decode cX6_looked 46 = .ok (.getfield 9, 3) := by decide +kernel
theorem dX6_looked_49 : decode cX6_looked 49 = .ok (.bipush 107, 2) := by decide +kernel
theorem dX6_looked_51 : decode cX6_looked 51 = .ok (.iload_n 1, 1) := by decide +kernel
theorem dX6_looked_52 : decode cX6_looked 52 = .ok (.iadd, 1) := by decide +kernel
theorem dX6_looked_53 : decode cX6_looked 53 = .ok (.iaload, 1) := by decide +kernel
theorem dX6_looked_54 : decode cX6_looked 54 = .ok (.if_icmp .eq 5, 3) := by decide +kernel
theorem dX6_looked_57 : decode cX6_looked 57 = .ok (.iload_n 1, 1) := by decide +kernel
theorem dX6_looked_58 : decode cX6_looked 58 = .ok (.ireturn, 1) := by decide +kernel
theorem dX6_looked_59 : decode cX6_looked 59 = .ok (.iinc 1 1, 3) := by decide +kernel
theorem dX6_looked_62 : decode cX6_looked 62 = .ok (.goto (-56), 3) := by decide +kernel
theorem dX6_looked_65 : decode cX6_looked 65 = .ok (.bipush (-5), 2) := by decide +kernel
theorem dX6_looked_67 : decode cX6_looked 67 = .ok (.ireturn, 1) := by decide +kernel
abbrev rm_X6_looked : Room := { frames := 3, cells := 0, slots := 0, locals := 80 }
abbrev jJ_X6_looked (l : Launch) (G : jx_G) (sz : Nat) (out : (Int32 × jx_M)) (pc : Nat) (lv : List (Nat × Value)) (st : List Value) (σ : jx_M) : Prop := jx_J l (mm_env G) (mm_dyn G) (mm_rg G) sz RX6 "looked" cX6_looked 3 (some .int) rm_X6_looked (fun below args s => MQ below (jx_Qi (mm_dyn G) out.2 out.1 (jx_A (mm_rg G) sz)) args s 0 0 (jx_A (mm_rg G) sz)) 0 0 pc lv st σ
def g_X6_looked_6 (k6 : jx_M → Int32 → Option (Int32 × jx_M)) (σ : jx_M) (v1 : Int32) : Option (Int32 × jx_M) :=
  if (σ 1 3) ≤ v1 then some ((-5 : Int32), σ) else jx_gd (jx_in ((91 : Int32) + v1) 920) (jx_lt ((σ 1 ((91 : Int32) + v1).toNatClampNeg)) (fun x3 => jx_bd (f_X6_setsOf σ x3) (fun q4 => jx_gd (jx_in ((99 : Int32) + v1) 920) (jx_bd (f_X6_lampAt σ x3 q4 (σ 1 ((99 : Int32) + v1).toNatClampNeg)) (fun q6 => jx_gd (jx_in ((107 : Int32) + v1) 920) (if q6.1 = (q6.2 1 ((107 : Int32) + v1).toNatClampNeg) then jx_lt (v1 + (1 : Int32)) (fun x9 => (k6 q6.2 x9)) else some (v1, q6.2)))))))
set_option maxHeartbeats 4000000 in
set_option maxRecDepth 100000 in
theorem jg_X6_looked_6 (l : Launch) (G : jx_G) (hG : mm_ok G) (sz : Nat) (out : (Int32 × jx_M)) (k6 : jx_M → Int32 → Option (Int32 × jx_M)) (h6 : ∀ (σ : jx_M) (v1 : Int32), k6 σ v1 = some out → jJ_X6_looked l G sz out 6 [(0, .ref (G.2 10)), (1, .int v1)] [] σ) (σ : jx_M) (v1 : Int32) (h : g_X6_looked_6 k6 σ v1 = some out) : jJ_X6_looked l G sz out 6 [(0, .ref (G.2 10)), (1, .int v1)] [] σ := by
  unfold g_X6_looked_6 at h
  refine jx_iload_n (pc := 6) (k0 := 1) rfl dX6_looked_6 ?_
  refine jx_aload_n (pc := 7) (k0 := 0) rfl dX6_looked_7 ?_
  refine mm_g_s (pc := 8) fl_X6_9 dX6_looked_8 ?_
  refine jx_iconst (pc := 11) (v := (3 : Int32)) (by decide) dX6_looked_11 ?_
  refine mm_l_s (pc := 12) (j := 3) (jx_in_o (by decide)) (by decide) dX6_looked_12 ?_
  refine jx_icmp_ge (pc := 13) (tgt := 65) dX6_looked_13 (by decide) (fun c1 => ?_) (fun c1 => ?_)
  · have h := jx_t c1 h
    refine jx_bipush (pc := 65) (v := (-5 : Int32)) (by decide) dX6_looked_65 ?_
    cases h
    exact jx_iret (pc := 67) dX6_looked_67
  · have h := jx_f c1 h
    refine jx_aload_n (pc := 16) (k0 := 0) rfl dX6_looked_16 ?_
    refine mm_g_s (pc := 17) fl_X6_9 dX6_looked_17 ?_
    refine jx_bipush (pc := 20) (v := (91 : Int32)) (by decide) dX6_looked_20 ?_
    refine jx_iload_n (pc := 22) (k0 := 1) rfl dX6_looked_22 ?_
    refine jx_iadd (pc := 23) dX6_looked_23 ?_
    obtain ⟨g2, h⟩ := jx_gd_o h
    refine mm_l_s (pc := 24) (jx_in_o g2) rfl dX6_looked_24 ?_
    obtain ⟨x3, ex3, h⟩ := jx_lt_o h
    refine jx_istore_n (pc := 25) (i := 2) rfl ex3 (by decide) (lv' := [(2, .int x3), (0, .ref (G.2 10)), (1, .int v1)]) rfl dX6_looked_25 ?_
    refine jx_aload_n (pc := 26) (k0 := 0) rfl dX6_looked_26 ?_
    refine jx_iload_n (pc := 27) (k0 := 2) rfl dX6_looked_27 ?_
    refine jx_aload_n (pc := 28) (k0 := 0) rfl dX6_looked_28 ?_
    refine jx_iload_n (pc := 29) (k0 := 2) rfl dX6_looked_29 ?_
    obtain ⟨q4, eq4, h⟩ := jx_bd_o h
    refine jx_callVi (pc := 30) [.int x3] (fun sz' => k_X6_setsOf l G hG sz' σ x3 q4 eq4) kv_X6_166 mm_jok mm_rc rfl rfl (Nat.le_of_ble_eq_true rfl) ⟨⟨rfl, rfl⟩, ⟨Nat.le_of_ble_eq_true rfl, Nat.le_of_ble_eq_true rfl⟩, Nat.zero_le _, Nat.zero_le _⟩ dX6_looked_30 ?_
    refine jx_aload_n (pc := 33) (k0 := 0) rfl dX6_looked_33 ?_
    refine mm_g_s (pc := 34) fl_X6_9 dX6_looked_34 ?_
    refine jx_bipush (pc := 37) (v := (99 : Int32)) (by decide) dX6_looked_37 ?_
    refine jx_iload_n (pc := 39) (k0 := 1) rfl dX6_looked_39 ?_
    refine jx_iadd (pc := 40) dX6_looked_40 ?_
    obtain ⟨g5, h⟩ := jx_gd_o h
    refine mm_l_s (pc := 41) (jx_in_o g5) rfl dX6_looked_41 ?_
    obtain ⟨q6, eq6, h⟩ := jx_bd_o h
    refine jx_callVi (pc := 42) [.int x3, .int q4, .int (σ 1 ((99 : Int32) + v1).toNatClampNeg)] (fun sz' => k_X6_lampAt l G hG sz' σ x3 q4 (σ 1 ((99 : Int32) + v1).toNatClampNeg) q6 eq6) kv_X6_172 mm_jok mm_rc rfl rfl (Nat.le_of_ble_eq_true rfl) ⟨⟨rfl, rfl⟩, ⟨Nat.le_of_ble_eq_true rfl, Nat.le_of_ble_eq_true rfl⟩, Nat.zero_le _, Nat.zero_le _⟩ dX6_looked_42 ?_
    refine jx_aload_n (pc := 45) (k0 := 0) rfl dX6_looked_45 ?_
    refine mm_g_s (pc := 46) fl_X6_9 dX6_looked_46 ?_
    refine jx_bipush (pc := 49) (v := (107 : Int32)) (by decide) dX6_looked_49 ?_
    refine jx_iload_n (pc := 51) (k0 := 1) rfl dX6_looked_51 ?_
    refine jx_iadd (pc := 52) dX6_looked_52 ?_
    obtain ⟨g7, h⟩ := jx_gd_o h
    refine mm_l_s (pc := 53) (jx_in_o g7) rfl dX6_looked_53 ?_
    refine jx_icmp_eq (pc := 54) (tgt := 59) dX6_looked_54 (by decide) (fun c8 => ?_) (fun c8 => ?_)
    · have h := jx_t c8 h
      obtain ⟨x9, ex9, h⟩ := jx_lt_o h
      refine jx_iinc (pc := 59) (i := 1) (v := v1) rfl ex9 (n := 1) (by decide) (by decide) (lv' := [(1, .int x9), (2, .int x3), (0, .ref (G.2 10))]) rfl dX6_looked_59 ?_
      refine jx_goto (pc := 62) (tgt := 6) dX6_looked_62 (by decide) ?_
      exact jx_sub [2, 0] rfl (h6 q6.2 x9 h)
    · have h := jx_f c8 h
      refine jx_iload_n (pc := 57) (k0 := 1) rfl dX6_looked_57 ?_
      cases h
      exact jx_iret (pc := 58) dX6_looked_58
def b_X6_looked_6  : Nat → jx_M → Int32 → Option (Int32 × jx_M)
  | 0, _, _ => none
  | n + 1, σ, v1 => g_X6_looked_6 (b_X6_looked_6 n) σ v1
theorem jb_X6_looked_6 (l : Launch) (G : jx_G) (hG : mm_ok G) (sz : Nat) (out : (Int32 × jx_M))  : ∀ (n : Nat) (σ : jx_M) (v1 : Int32), b_X6_looked_6 n σ v1 = some out → jJ_X6_looked l G sz out 6 [(0, .ref (G.2 10)), (1, .int v1)] [] σ := by
  intro n
  induction n with
  | zero =>
    intro σ v1 h
    cases h
  | succ n ih =>
    intro σ v1 h
    exact jg_X6_looked_6 l G hG sz out (b_X6_looked_6 n) ih σ v1 h
def f_X6_looked (σ : jx_M)  : Option (Int32 × jx_M) :=
  jx_bd (f_X6_looksForNight σ) (fun q1 => (b_X6_looked_6 jx_fuel q1 (0 : Int32)))
set_option maxHeartbeats 4000000 in
set_option maxRecDepth 100000 in
theorem k_X6_looked (l : Launch) (G : jx_G) (hG : mm_ok G) (sz : Nat) (σ : jx_M)  (out : (Int32 × jx_M)) (h : f_X6_looked σ = some out) : Met l yX6_looked (Cond.code yX6_looked cX6_looked 3 (some .int) :: jx_ws) rm_X6_looked (jx_Pc (mm_env G) (mm_dyn G) (mm_rg G) sz σ [.ref (G.2 10)]) (jx_Qi (mm_dyn G) out.2 out.1 (jx_A (mm_rg G) sz)) 0 0 (jx_A (mm_rg G) sz) := by
  unfold f_X6_looked at h
  refine jx_met (by decide) (Nat.le_of_ble_eq_true rfl) ?_
  refine jx_sub (lv' := [(0, .ref (G.2 10))]) [0] rfl ?_
  refine jx_aload_n (pc := 0) (k0 := 0) rfl dX6_looked_0 ?_
  obtain ⟨q1, eq1, h⟩ := jx_bd_o h
  refine jx_callVv (pc := 1) [] (fun sz' => k_X6_looksForNight l G hG sz' σ q1 eq1) kv_X6_185 mm_jok mm_rc rfl rfl (Nat.le_of_ble_eq_true rfl) ⟨⟨rfl, rfl⟩, ⟨Nat.le_of_ble_eq_true rfl, Nat.le_of_ble_eq_true rfl⟩, Nat.zero_le _, Nat.zero_le _⟩ dX6_looked_1 ?_
  refine jx_iconst (pc := 4) (v := (0 : Int32)) (by decide) dX6_looked_4 ?_
  refine jx_istore_n (pc := 5) (i := 1) rfl rfl (by decide) (lv' := [(1, .int (0 : Int32)), (0, .ref (G.2 10))]) rfl dX6_looked_5 ?_
  exact jx_sub [1, 0] rfl (jb_X6_looked_6 l G hG sz out jx_fuel q1 (0 : Int32) h)
theorem dX6_plainBurns_0 : decode cX6_plainBurns 0 = .ok (.aload_n 0, 1) := by decide +kernel
theorem dX6_plainBurns_1 : decode cX6_plainBurns 1 = .ok (.iconst 2, 1) := by decide +kernel
theorem dX6_plainBurns_2 : decode cX6_plainBurns 2 = .ok (.invokevirtual 230, 3) := by decide +kernel
theorem dX6_plainBurns_5 : decode cX6_plainBurns 5 = .ok (.aload_n 0, 1) := by decide +kernel
theorem dX6_plainBurns_6 : decode cX6_plainBurns 6 = .ok (.iload_n 1, 1) := by decide +kernel
theorem dX6_plainBurns_7 : decode cX6_plainBurns 7 = .ok (.invokevirtual 246, 3) := by decide +kernel
theorem dX6_plainBurns_10 : decode cX6_plainBurns 10 = .ok (.aload_n 0, 1) := by decide +kernel
theorem dX6_plainBurns_11 : decode cX6_plainBurns 11 = .ok (.getfield 249, 3) := by decide +kernel
theorem dX6_plainBurns_14 : decode cX6_plainBurns 14 = .ok (.isub, 1) := by decide +kernel
theorem dX6_plainBurns_15 : decode cX6_plainBurns 15 = .ok (.ireturn, 1) := by decide +kernel
abbrev rm_X6_plainBurns : Room := { frames := 3, cells := 0, slots := 0, locals := 63 }
abbrev jJ_X6_plainBurns (l : Launch) (G : jx_G) (sz : Nat) (out : (Int32 × jx_M)) (pc : Nat) (lv : List (Nat × Value)) (st : List Value) (σ : jx_M) : Prop := jx_J l (mm_env G) (mm_dyn G) (mm_rg G) sz RX6 "plainBurns" cX6_plainBurns 2 (some .int) rm_X6_plainBurns (fun below args s => MQ below (jx_Qi (mm_dyn G) out.2 out.1 (jx_A (mm_rg G) sz)) args s 0 0 (jx_A (mm_rg G) sz)) 0 0 pc lv st σ
def f_X6_plainBurns (σ : jx_M) (a1 : Int32) : Option (Int32 × jx_M) :=
  jx_bd (f_X6_ranBody σ (2 : Int32)) (fun q1 => jx_bd (f_X6_setsActs q1 a1) (fun q2 => some ((q2.1 - (q2.2 0 25)), q2.2)))
set_option maxHeartbeats 4000000 in
set_option maxRecDepth 100000 in
theorem k_X6_plainBurns (l : Launch) (G : jx_G) (hG : mm_ok G) (sz : Nat) (σ : jx_M) (a1 : Int32) (out : (Int32 × jx_M)) (h : f_X6_plainBurns σ a1 = some out) : Met l yX6_plainBurns (Cond.code yX6_plainBurns cX6_plainBurns 2 (some .int) :: jx_ws) rm_X6_plainBurns (jx_Pc (mm_env G) (mm_dyn G) (mm_rg G) sz σ [.ref (G.2 10), .int a1]) (jx_Qi (mm_dyn G) out.2 out.1 (jx_A (mm_rg G) sz)) 0 0 (jx_A (mm_rg G) sz) := by
  unfold f_X6_plainBurns at h
  refine jx_met (by decide) (Nat.le_of_ble_eq_true rfl) ?_
  refine jx_sub (lv' := [(0, .ref (G.2 10)), (1, .int a1)]) [0, 1] rfl ?_
  refine jx_aload_n (pc := 0) (k0 := 0) rfl dX6_plainBurns_0 ?_
  refine jx_iconst (pc := 1) (v := (2 : Int32)) (by decide) dX6_plainBurns_1 ?_
  obtain ⟨q1, eq1, h⟩ := jx_bd_o h
  refine jx_callVv (pc := 2) [.int (2 : Int32)] (fun sz' => k_X6_ranBody l G hG sz' σ (2 : Int32) q1 eq1) kv_X6_230 mm_jok mm_rc rfl rfl (Nat.le_of_ble_eq_true rfl) ⟨⟨rfl, rfl⟩, ⟨Nat.le_of_ble_eq_true rfl, Nat.le_of_ble_eq_true rfl⟩, Nat.zero_le _, Nat.zero_le _⟩ dX6_plainBurns_2 ?_
  refine jx_aload_n (pc := 5) (k0 := 0) rfl dX6_plainBurns_5 ?_
  refine jx_iload_n (pc := 6) (k0 := 1) rfl dX6_plainBurns_6 ?_
  obtain ⟨q2, eq2, h⟩ := jx_bd_o h
  refine jx_callVi (pc := 7) [.int a1] (fun sz' => k_X6_setsActs l G hG sz' q1 a1 q2 eq2) kv_X6_246 mm_jok mm_rc rfl rfl (Nat.le_of_ble_eq_true rfl) ⟨⟨rfl, rfl⟩, ⟨Nat.le_of_ble_eq_true rfl, Nat.le_of_ble_eq_true rfl⟩, Nat.zero_le _, Nat.zero_le _⟩ dX6_plainBurns_7 ?_
  refine jx_aload_n (pc := 10) (k0 := 0) rfl dX6_plainBurns_10 ?_
  refine mm_g_tellsV (pc := 11) fl_X6_249 dX6_plainBurns_11 ?_
  refine jx_isub (pc := 14) dX6_plainBurns_14 ?_
  cases h
  exact jx_iret (pc := 15) dX6_plainBurns_15
theorem dX6_laysAll_0 : decode cX6_laysAll 0 = .ok (.iconst 0, 1) := by decide +kernel
theorem dX6_laysAll_1 : decode cX6_laysAll 1 = .ok (.istore_n 1, 1) := by decide +kernel
theorem dX6_laysAll_2 : decode cX6_laysAll 2 = .ok (.iload_n 1, 1) := by decide +kernel
theorem dX6_laysAll_3 : decode cX6_laysAll 3 = .ok (.aload_n 0, 1) := by decide +kernel
theorem dX6_laysAll_4 : decode cX6_laysAll 4 = .ok (.getfield 9, 3) := by decide +kernel
theorem dX6_laysAll_7 : decode cX6_laysAll 7 = .ok (.iconst 0, 1) := by decide +kernel
theorem dX6_laysAll_8 : decode cX6_laysAll 8 = .ok (.iaload, 1) := by decide +kernel
theorem dX6_laysAll_9 : decode cX6_laysAll 9 = .ok (.if_icmp .ge 19, 3) := by decide +kernel
theorem dX6_laysAll_12 : decode cX6_laysAll 12 = .ok (.aload_n 0, 1) := by decide +kernel
theorem dX6_laysAll_13 : decode cX6_laysAll 13 = .ok (.iload_n 1, 1) := by decide +kernel
theorem dX6_laysAll_14 : decode cX6_laysAll 14 = .ok (.aload_n 0, 1) := by decide +kernel
theorem dX6_laysAll_15 : decode cX6_laysAll 15 = .ok (.iload_n 1, 1) := by decide +kernel
theorem dX6_laysAll_16 : decode cX6_laysAll 16 = .ok (.invokevirtual 166, 3) := by decide +kernel
theorem dX6_laysAll_19 : decode cX6_laysAll 19 = .ok (.invokevirtual 176, 3) := by decide +kernel
theorem dX6_laysAll_22 : decode cX6_laysAll 22 = .ok (.iinc 1 1, 3) := by decide +kernel
theorem dX6_laysAll_25 : decode cX6_laysAll 25 = .ok (.goto (-23), 3) := by decide +kernel
theorem dX6_laysAll_28 : decode cX6_laysAll 28 = .ok (.return_, 1) := by decide +kernel
abbrev rm_X6_laysAll : Room := { frames := 4, cells := 0, slots := 0, locals := 102 }
abbrev jJ_X6_laysAll (l : Launch) (G : jx_G) (sz : Nat) (out : jx_M) (pc : Nat) (lv : List (Nat × Value)) (st : List Value) (σ : jx_M) : Prop := jx_J l (mm_env G) (mm_dyn G) (mm_rg G) sz RX6 "laysAll" cX6_laysAll 2 none rm_X6_laysAll (fun below args s => MQ below (jx_Qv (mm_dyn G) out (jx_A (mm_rg G) sz)) args s 0 0 (jx_A (mm_rg G) sz)) 0 0 pc lv st σ
def g_X6_laysAll_2 (k2 : jx_M → Int32 → Option jx_M) (σ : jx_M) (v1 : Int32) : Option jx_M :=
  if (σ 1 0) ≤ v1 then some σ else jx_bd (f_X6_setsOf σ v1) (fun q2 => jx_bd (f_X6_lays σ v1 q2) (fun q3 => jx_lt (v1 + (1 : Int32)) (fun x4 => (k2 q3 x4))))
set_option maxHeartbeats 4000000 in
set_option maxRecDepth 100000 in
theorem jg_X6_laysAll_2 (l : Launch) (G : jx_G) (hG : mm_ok G) (sz : Nat) (out : jx_M) (k2 : jx_M → Int32 → Option jx_M) (h2 : ∀ (σ : jx_M) (v1 : Int32), k2 σ v1 = some out → jJ_X6_laysAll l G sz out 2 [(0, .ref (G.2 10)), (1, .int v1)] [] σ) (σ : jx_M) (v1 : Int32) (h : g_X6_laysAll_2 k2 σ v1 = some out) : jJ_X6_laysAll l G sz out 2 [(0, .ref (G.2 10)), (1, .int v1)] [] σ := by
  unfold g_X6_laysAll_2 at h
  refine jx_iload_n (pc := 2) (k0 := 1) rfl dX6_laysAll_2 ?_
  refine jx_aload_n (pc := 3) (k0 := 0) rfl dX6_laysAll_3 ?_
  refine mm_g_s (pc := 4) fl_X6_9 dX6_laysAll_4 ?_
  refine jx_iconst (pc := 7) (v := (0 : Int32)) (by decide) dX6_laysAll_7 ?_
  refine mm_l_s (pc := 8) (j := 0) (jx_in_o (by decide)) (by decide) dX6_laysAll_8 ?_
  refine jx_icmp_ge (pc := 9) (tgt := 28) dX6_laysAll_9 (by decide) (fun c1 => ?_) (fun c1 => ?_)
  · have h := jx_t c1 h
    cases h
    exact jx_vret (pc := 28) dX6_laysAll_28
  · have h := jx_f c1 h
    refine jx_aload_n (pc := 12) (k0 := 0) rfl dX6_laysAll_12 ?_
    refine jx_iload_n (pc := 13) (k0 := 1) rfl dX6_laysAll_13 ?_
    refine jx_aload_n (pc := 14) (k0 := 0) rfl dX6_laysAll_14 ?_
    refine jx_iload_n (pc := 15) (k0 := 1) rfl dX6_laysAll_15 ?_
    obtain ⟨q2, eq2, h⟩ := jx_bd_o h
    refine jx_callVi (pc := 16) [.int v1] (fun sz' => k_X6_setsOf l G hG sz' σ v1 q2 eq2) kv_X6_166 mm_jok mm_rc rfl rfl (Nat.le_of_ble_eq_true rfl) ⟨⟨rfl, rfl⟩, ⟨Nat.le_of_ble_eq_true rfl, Nat.le_of_ble_eq_true rfl⟩, Nat.zero_le _, Nat.zero_le _⟩ dX6_laysAll_16 ?_
    obtain ⟨q3, eq3, h⟩ := jx_bd_o h
    refine jx_callVv (pc := 19) [.int v1, .int q2] (fun sz' => k_X6_lays l G hG sz' σ v1 q2 q3 eq3) kv_X6_176 mm_jok mm_rc rfl rfl (Nat.le_of_ble_eq_true rfl) ⟨⟨rfl, rfl⟩, ⟨Nat.le_of_ble_eq_true rfl, Nat.le_of_ble_eq_true rfl⟩, Nat.zero_le _, Nat.zero_le _⟩ dX6_laysAll_19 ?_
    obtain ⟨x4, ex4, h⟩ := jx_lt_o h
    refine jx_iinc (pc := 22) (i := 1) (v := v1) rfl ex4 (n := 1) (by decide) (by decide) (lv' := [(1, .int x4), (0, .ref (G.2 10))]) rfl dX6_laysAll_22 ?_
    refine jx_goto (pc := 25) (tgt := 2) dX6_laysAll_25 (by decide) ?_
    exact jx_sub [1, 0] rfl (h2 q3 x4 h)
def b_X6_laysAll_2  : Nat → jx_M → Int32 → Option jx_M
  | 0, _, _ => none
  | n + 1, σ, v1 => g_X6_laysAll_2 (b_X6_laysAll_2 n) σ v1
theorem jb_X6_laysAll_2 (l : Launch) (G : jx_G) (hG : mm_ok G) (sz : Nat) (out : jx_M)  : ∀ (n : Nat) (σ : jx_M) (v1 : Int32), b_X6_laysAll_2 n σ v1 = some out → jJ_X6_laysAll l G sz out 2 [(0, .ref (G.2 10)), (1, .int v1)] [] σ := by
  intro n
  induction n with
  | zero =>
    intro σ v1 h
    cases h
  | succ n ih =>
    intro σ v1 h
    exact jg_X6_laysAll_2 l G hG sz out (b_X6_laysAll_2 n) ih σ v1 h
def f_X6_laysAll (σ : jx_M)  : Option jx_M :=
  (b_X6_laysAll_2 jx_fuel σ (0 : Int32))
set_option maxHeartbeats 4000000 in
set_option maxRecDepth 100000 in
theorem k_X6_laysAll (l : Launch) (G : jx_G) (hG : mm_ok G) (sz : Nat) (σ : jx_M)  (out : jx_M) (h : f_X6_laysAll σ = some out) : Met l yX6_laysAll (Cond.code yX6_laysAll cX6_laysAll 2 none :: jx_ws) rm_X6_laysAll (jx_Pc (mm_env G) (mm_dyn G) (mm_rg G) sz σ [.ref (G.2 10)]) (jx_Qv (mm_dyn G) out (jx_A (mm_rg G) sz)) 0 0 (jx_A (mm_rg G) sz) := by
  unfold f_X6_laysAll at h
  refine jx_met (by decide) (Nat.le_of_ble_eq_true rfl) ?_
  refine jx_sub (lv' := [(0, .ref (G.2 10))]) [0] rfl ?_
  refine jx_iconst (pc := 0) (v := (0 : Int32)) (by decide) dX6_laysAll_0 ?_
  refine jx_istore_n (pc := 1) (i := 1) rfl rfl (by decide) (lv' := [(1, .int (0 : Int32)), (0, .ref (G.2 10))]) rfl dX6_laysAll_1 ?_
  exact jx_sub [1, 0] rfl (jb_X6_laysAll_2 l G hG sz out jx_fuel σ (0 : Int32) h)
theorem dX6_looksForBest_0 : decode cX6_looksForBest 0 = .ok (.aload_n 0, 1) := by decide +kernel
theorem dX6_looksForBest_1 : decode cX6_looksForBest 1 = .ok (.iconst (-1), 1) := by decide +kernel
theorem dX6_looksForBest_2 : decode cX6_looksForBest 2 = .ok (.putfield 212, 3) := by decide +kernel
theorem dX6_looksForBest_5 : decode cX6_looksForBest 5 = .ok (.iconst 0, 1) := by decide +kernel
theorem dX6_looksForBest_6 : decode cX6_looksForBest 6 = .ok (.istore_n 2, 1) := by decide +kernel
theorem dX6_looksForBest_7 : decode cX6_looksForBest 7 = .ok (.iload_n 2, 1) := by decide +kernel
theorem dX6_looksForBest_8 : decode cX6_looksForBest 8 = .ok (.aload_n 0, 1) := by decide +kernel
theorem dX6_looksForBest_9 : decode cX6_looksForBest 9 = .ok (.getfield 9, 3) := by decide +kernel
theorem dX6_looksForBest_12 : decode cX6_looksForBest 12 = .ok (.bipush 6, 2) := by decide +kernel
theorem dX6_looksForBest_14 : decode cX6_looksForBest 14 = .ok (.iaload, 1) := by decide +kernel
theorem dX6_looksForBest_15 : decode cX6_looksForBest 15 = .ok (.if_icmp .ge 78, 3) := by decide +kernel
theorem dX6_looksForBest_18 : decode cX6_looksForBest 18 = .ok (.aload_n 0, 1) := by decide +kernel
theorem dX6_looksForBest_19 : decode cX6_looksForBest 19 = .ok (.iload_n 1, 1) := by decide +kernel
theorem dX6_looksForBest_20 : decode cX6_looksForBest 20 = .ok (.iload_n 2, 1) := by decide +kernel
theorem dX6_looksForBest_21 : decode cX6_looksForBest 21 = .ok (.invokevirtual 176, 3) := by decide +kernel
theorem dX6_looksForBest_24 : decode cX6_looksForBest 24 = .ok (.aload_n 0, 1) := by decide +kernel
theorem dX6_looksForBest_25 : decode cX6_looksForBest 25 = .ok (.iload_n 1, 1) := by decide +kernel
theorem dX6_looksForBest_26 : decode cX6_looksForBest 26 = .ok (.invokevirtual 215, 3) := by decide +kernel
theorem dX6_looksForBest_29 : decode cX6_looksForBest 29 = .ok (.istore_n 3, 1) := by decide +kernel
theorem dX6_looksForBest_30 : decode cX6_looksForBest 30 = .ok (.aload_n 0, 1) := by decide +kernel
theorem dX6_looksForBest_31 : decode cX6_looksForBest 31 = .ok (.getfield 212, 3) := by decide +kernel
theorem dX6_looksForBest_34 : decode cX6_looksForBest 34 = .ok (.iconst (-1), 1) := by decide +kernel
theorem dX6_looksForBest_35 : decode cX6_looksForBest 35 = .ok (.if_icmp .eq 11, 3) := by decide +kernel
theorem dX6_looksForBest_38 : decode cX6_looksForBest 38 = .ok (.iload_n 3, 1) := by decide +kernel
theorem dX6_looksForBest_39 : decode cX6_looksForBest 39 = .ok (.aload_n 0, 1) := by decide +kernel
theorem dX6_looksForBest_40 : decode cX6_looksForBest 40 = .ok (.getfield 218, 3) := by decide +kernel
theorem dX6_looksForBest_43 : decode cX6_looksForBest 43 = .ok (.if_icmp .le 7, 3) := by decide +kernel
theorem dX6_looksForBest_46 : decode cX6_looksForBest 46 = .ok (.iconst 1, 1) := by decide +kernel
theorem dX6_looksForBest_47 : decode cX6_looksForBest 47 = .ok (.goto 4, 3) := by decide +kernel
theorem dX6_looksForBest_50 : decode cX6_looksForBest 50 = .ok (.iconst 0, 1) := by decide +kernel
theorem dX6_looksForBest_51 : decode cX6_looksForBest 51 = .ok (.istore 4, 2) := by decide +kernel
theorem dX6_looksForBest_53 : decode cX6_looksForBest 53 = .ok (.aload_n 0, 1) := by decide +kernel
theorem dX6_looksForBest_54 : decode cX6_looksForBest 54 = .ok (.iload 4, 2) := by decide +kernel
theorem dX6_looksForBest_56 : decode cX6_looksForBest 56 = .ok (.ifCond .eq 7, 3) := by decide +kernel
theorem dX6_looksForBest_59 : decode cX6_looksForBest 59 = .ok (.iload_n 2, 1) := by decide +kernel
theorem dX6_looksForBest_60 : decode cX6_looksForBest 60 = .ok (.goto 7, 3) := by decide +kernel
theorem dX6_looksForBest_63 : decode cX6_looksForBest 63 = .ok (.aload_n 0, 1) := by decide +kernel
theorem dX6_looksForBest_64 : decode cX6_looksForBest 64 = .ok (.getfield 212, 3) := by decide +kernel
theorem dX6_looksForBest_67 : decode cX6_looksForBest 67 = .ok (.putfield 212, 3) := by decide +kernel
theorem dX6_looksForBest_70 : decode cX6_looksForBest 70 = .ok (.aload_n 0, 1) := by decide +kernel
theorem dX6_looksForBest_71 : decode cX6_looksForBest 71 = .ok (.iload 4, 2) := by decide +kernel
theorem dX6_looksForBest_73 : decode cX6_looksForBest 73 = .ok (.ifCond .eq 7, 3) := by decide +kernel
theorem dX6_looksForBest_76 : decode cX6_looksForBest 76 = .ok (.iload_n 3, 1) := by decide +kernel
theorem dX6_looksForBest_77 : decode cX6_looksForBest 77 = .ok (.goto 7, 3) := by decide +kernel
theorem dX6_looksForBest_80 : decode cX6_looksForBest 80 = .ok (.aload_n 0, 1) := by decide +kernel
theorem dX6_looksForBest_81 : decode cX6_looksForBest 81 = .ok (.getfield 218, 3) := by decide +kernel
theorem dX6_looksForBest_84 : decode cX6_looksForBest 84 = .ok (.putfield 218, 3) := by decide +kernel
theorem dX6_looksForBest_87 : decode cX6_looksForBest 87 = .ok (.iinc 2 1, 3) := by decide +kernel
theorem dX6_looksForBest_90 : decode cX6_looksForBest 90 = .ok (.goto (-83), 3) := by decide +kernel
theorem dX6_looksForBest_93 : decode cX6_looksForBest 93 = .ok (.aload_n 0, 1) := by decide +kernel
theorem dX6_looksForBest_94 : decode cX6_looksForBest 94 = .ok (.iload_n 1, 1) := by decide +kernel
theorem dX6_looksForBest_95 : decode cX6_looksForBest 95 = .ok (.aload_n 0, 1) := by decide +kernel
theorem dX6_looksForBest_96 : decode cX6_looksForBest 96 = .ok (.getfield 212, 3) := by decide +kernel
theorem dX6_looksForBest_99 : decode cX6_looksForBest 99 = .ok (.invokevirtual 176, 3) := by decide +kernel
theorem dX6_looksForBest_102 : decode cX6_looksForBest 102 = .ok (.return_, 1) := by decide +kernel
abbrev rm_X6_looksForBest : Room := { frames := 4, cells := 0, slots := 0, locals := 102 }
abbrev jJ_X6_looksForBest (l : Launch) (G : jx_G) (sz : Nat) (out : jx_M) (pc : Nat) (lv : List (Nat × Value)) (st : List Value) (σ : jx_M) : Prop := jx_J l (mm_env G) (mm_dyn G) (mm_rg G) sz RX6 "looksForBest" cX6_looksForBest 5 none rm_X6_looksForBest (fun below args s => MQ below (jx_Qv (mm_dyn G) out (jx_A (mm_rg G) sz)) args s 0 0 (jx_A (mm_rg G) sz)) 0 0 pc lv st σ
def b_X6_looksForBest_84 (k7 : jx_M → Int32 → Int32 → Option jx_M) (σ : jx_M) (v1 : Int32) (v2 : Int32) (s0 : Int32) : Option jx_M :=
  jx_lt (jx_mu σ 0 20 s0) (fun σ1 => jx_lt (v2 + (1 : Int32)) (fun x2 => (k7 σ1 v1 x2)))
set_option maxHeartbeats 4000000 in
set_option maxRecDepth 100000 in
theorem jb_X6_looksForBest_84 (l : Launch) (G : jx_G) (hG : mm_ok G) (sz : Nat) (out : jx_M) (k7 : jx_M → Int32 → Int32 → Option jx_M) (h7 : ∀ (σ : jx_M) (v1 : Int32) (v2 : Int32), k7 σ v1 v2 = some out → jJ_X6_looksForBest l G sz out 7 [(0, .ref (G.2 10)), (1, .int v1), (2, .int v2)] [] σ) (σ : jx_M) (v1 : Int32) (v2 : Int32) (s0 : Int32) (h : b_X6_looksForBest_84 k7 σ v1 v2 s0 = some out) : jJ_X6_looksForBest l G sz out 84 [(0, .ref (G.2 10)), (1, .int v1), (2, .int v2)] [.int s0, .ref (G.2 10)] σ := by
  unfold b_X6_looksForBest_84 at h
  obtain ⟨σ1, eσ1, h⟩ := jx_lt_o h
  refine mm_p_bestMore (pc := 84) hG fl_X6_218 eσ1 dX6_looksForBest_84 ?_
  obtain ⟨x2, ex2, h⟩ := jx_lt_o h
  refine jx_iinc (pc := 87) (i := 2) (v := v2) rfl ex2 (n := 1) (by decide) (by decide) (lv' := [(2, .int x2), (0, .ref (G.2 10)), (1, .int v1)]) rfl dX6_looksForBest_87 ?_
  refine jx_goto (pc := 90) (tgt := 7) dX6_looksForBest_90 (by decide) ?_
  exact jx_sub [1, 2, 0] rfl (h7 σ1 v1 x2 h)
def b_X6_looksForBest_67 (k7 : jx_M → Int32 → Int32 → Option jx_M) (σ : jx_M) (v1 : Int32) (v2 : Int32) (v3 : Int32) (v4 : Int32) (s0 : Int32) : Option jx_M :=
  jx_lt (jx_mu σ 0 19 s0) (fun σ1 => if v4 = 0 then (b_X6_looksForBest_84 k7 σ1 v1 v2 (σ1 0 20)) else (b_X6_looksForBest_84 k7 σ1 v1 v2 v3))
set_option maxHeartbeats 4000000 in
set_option maxRecDepth 100000 in
theorem jb_X6_looksForBest_67 (l : Launch) (G : jx_G) (hG : mm_ok G) (sz : Nat) (out : jx_M) (k7 : jx_M → Int32 → Int32 → Option jx_M) (h7 : ∀ (σ : jx_M) (v1 : Int32) (v2 : Int32), k7 σ v1 v2 = some out → jJ_X6_looksForBest l G sz out 7 [(0, .ref (G.2 10)), (1, .int v1), (2, .int v2)] [] σ) (σ : jx_M) (v1 : Int32) (v2 : Int32) (v3 : Int32) (v4 : Int32) (s0 : Int32) (h : b_X6_looksForBest_67 k7 σ v1 v2 v3 v4 s0 = some out) : jJ_X6_looksForBest l G sz out 67 [(0, .ref (G.2 10)), (1, .int v1), (2, .int v2), (3, .int v3), (4, .int v4)] [.int s0, .ref (G.2 10)] σ := by
  unfold b_X6_looksForBest_67 at h
  obtain ⟨σ1, eσ1, h⟩ := jx_lt_o h
  refine mm_p_bestPlace (pc := 67) hG fl_X6_212 eσ1 dX6_looksForBest_67 ?_
  refine jx_aload_n (pc := 70) (k0 := 0) rfl dX6_looksForBest_70 ?_
  refine jx_iload (pc := 71) (i := 4) rfl dX6_looksForBest_71 ?_
  refine jx_if_eq (pc := 73) (tgt := 80) dX6_looksForBest_73 (by decide) (fun c2 => ?_) (fun c2 => ?_)
  · have h := jx_t c2 h
    refine jx_aload_n (pc := 80) (k0 := 0) rfl dX6_looksForBest_80 ?_
    refine mm_g_bestMore (pc := 81) fl_X6_218 dX6_looksForBest_81 ?_
    exact jx_sub [0, 1, 2] rfl (jb_X6_looksForBest_84 l G hG sz out k7 h7 σ1 v1 v2 (σ1 0 20) h)
  · have h := jx_f c2 h
    refine jx_iload_n (pc := 76) (k0 := 3) rfl dX6_looksForBest_76 ?_
    refine jx_goto (pc := 77) (tgt := 84) dX6_looksForBest_77 (by decide) ?_
    exact jx_sub [0, 1, 2] rfl (jb_X6_looksForBest_84 l G hG sz out k7 h7 σ1 v1 v2 v3 h)
def b_X6_looksForBest_51 (k7 : jx_M → Int32 → Int32 → Option jx_M) (σ : jx_M) (v1 : Int32) (v2 : Int32) (v3 : Int32) (s0 : Int32) : Option jx_M :=
  if s0 = 0 then (b_X6_looksForBest_67 k7 σ v1 v2 v3 s0 (σ 0 19)) else (b_X6_looksForBest_67 k7 σ v1 v2 v3 s0 v2)
set_option maxHeartbeats 4000000 in
set_option maxRecDepth 100000 in
theorem jb_X6_looksForBest_51 (l : Launch) (G : jx_G) (hG : mm_ok G) (sz : Nat) (out : jx_M) (k7 : jx_M → Int32 → Int32 → Option jx_M) (h7 : ∀ (σ : jx_M) (v1 : Int32) (v2 : Int32), k7 σ v1 v2 = some out → jJ_X6_looksForBest l G sz out 7 [(0, .ref (G.2 10)), (1, .int v1), (2, .int v2)] [] σ) (σ : jx_M) (v1 : Int32) (v2 : Int32) (v3 : Int32) (s0 : Int32) (h : b_X6_looksForBest_51 k7 σ v1 v2 v3 s0 = some out) : jJ_X6_looksForBest l G sz out 51 [(0, .ref (G.2 10)), (1, .int v1), (2, .int v2), (3, .int v3)] [.int s0] σ := by
  unfold b_X6_looksForBest_51 at h
  refine jx_istore (pc := 51) (i := 4) rfl (by decide) (lv' := [(4, .int s0), (0, .ref (G.2 10)), (1, .int v1), (2, .int v2), (3, .int v3)]) rfl dX6_looksForBest_51 ?_
  refine jx_aload_n (pc := 53) (k0 := 0) rfl dX6_looksForBest_53 ?_
  refine jx_iload (pc := 54) (i := 4) rfl dX6_looksForBest_54 ?_
  refine jx_if_eq (pc := 56) (tgt := 63) dX6_looksForBest_56 (by decide) (fun c1 => ?_) (fun c1 => ?_)
  · have h := jx_t c1 h
    refine jx_aload_n (pc := 63) (k0 := 0) rfl dX6_looksForBest_63 ?_
    refine mm_g_bestPlace (pc := 64) fl_X6_212 dX6_looksForBest_64 ?_
    exact jx_sub [1, 2, 3, 4, 0] rfl (jb_X6_looksForBest_67 l G hG sz out k7 h7 σ v1 v2 v3 s0 (σ 0 19) h)
  · have h := jx_f c1 h
    refine jx_iload_n (pc := 59) (k0 := 2) rfl dX6_looksForBest_59 ?_
    refine jx_goto (pc := 60) (tgt := 67) dX6_looksForBest_60 (by decide) ?_
    exact jx_sub [1, 2, 3, 4, 0] rfl (jb_X6_looksForBest_67 l G hG sz out k7 h7 σ v1 v2 v3 s0 v2 h)
def b_X6_looksForBest_46 (k7 : jx_M → Int32 → Int32 → Option jx_M) (σ : jx_M) (v1 : Int32) (v2 : Int32) (v3 : Int32) : Option jx_M :=
  (b_X6_looksForBest_51 k7 σ v1 v2 v3 (1 : Int32))
set_option maxHeartbeats 4000000 in
set_option maxRecDepth 100000 in
theorem jb_X6_looksForBest_46 (l : Launch) (G : jx_G) (hG : mm_ok G) (sz : Nat) (out : jx_M) (k7 : jx_M → Int32 → Int32 → Option jx_M) (h7 : ∀ (σ : jx_M) (v1 : Int32) (v2 : Int32), k7 σ v1 v2 = some out → jJ_X6_looksForBest l G sz out 7 [(0, .ref (G.2 10)), (1, .int v1), (2, .int v2)] [] σ) (σ : jx_M) (v1 : Int32) (v2 : Int32) (v3 : Int32) (h : b_X6_looksForBest_46 k7 σ v1 v2 v3 = some out) : jJ_X6_looksForBest l G sz out 46 [(0, .ref (G.2 10)), (1, .int v1), (2, .int v2), (3, .int v3)] [] σ := by
  unfold b_X6_looksForBest_46 at h
  refine jx_iconst (pc := 46) (v := (1 : Int32)) (by decide) dX6_looksForBest_46 ?_
  refine jx_goto (pc := 47) (tgt := 51) dX6_looksForBest_47 (by decide) ?_
  exact jx_sub [0, 1, 2, 3] rfl (jb_X6_looksForBest_51 l G hG sz out k7 h7 σ v1 v2 v3 (1 : Int32) h)
def g_X6_looksForBest_7 (k7 : jx_M → Int32 → Int32 → Option jx_M) (σ : jx_M) (v1 : Int32) (v2 : Int32) : Option jx_M :=
  if (σ 1 6) ≤ v2 then jx_bd (f_X6_lays σ v1 (σ 0 19)) (fun q2 => some q2) else jx_bd (f_X6_lays σ v1 v2) (fun q3 => jx_bd (f_X6_moreOf q3 v1) (fun q4 => if (q3 0 19) = (-1 : Int32) then (b_X6_looksForBest_46 k7 q3 v1 v2 q4) else if q4 ≤ (q3 0 20) then (b_X6_looksForBest_51 k7 q3 v1 v2 q4 (0 : Int32)) else (b_X6_looksForBest_46 k7 q3 v1 v2 q4)))
set_option maxHeartbeats 4000000 in
set_option maxRecDepth 100000 in
theorem jg_X6_looksForBest_7 (l : Launch) (G : jx_G) (hG : mm_ok G) (sz : Nat) (out : jx_M) (k7 : jx_M → Int32 → Int32 → Option jx_M) (h7 : ∀ (σ : jx_M) (v1 : Int32) (v2 : Int32), k7 σ v1 v2 = some out → jJ_X6_looksForBest l G sz out 7 [(0, .ref (G.2 10)), (1, .int v1), (2, .int v2)] [] σ) (σ : jx_M) (v1 : Int32) (v2 : Int32) (h : g_X6_looksForBest_7 k7 σ v1 v2 = some out) : jJ_X6_looksForBest l G sz out 7 [(0, .ref (G.2 10)), (1, .int v1), (2, .int v2)] [] σ := by
  unfold g_X6_looksForBest_7 at h
  refine jx_iload_n (pc := 7) (k0 := 2) rfl dX6_looksForBest_7 ?_
  refine jx_aload_n (pc := 8) (k0 := 0) rfl dX6_looksForBest_8 ?_
  refine mm_g_s (pc := 9) fl_X6_9 dX6_looksForBest_9 ?_
  refine jx_bipush (pc := 12) (v := (6 : Int32)) (by decide) dX6_looksForBest_12 ?_
  refine mm_l_s (pc := 14) (j := 6) (jx_in_o (by decide)) (by decide) dX6_looksForBest_14 ?_
  refine jx_icmp_ge (pc := 15) (tgt := 93) dX6_looksForBest_15 (by decide) (fun c1 => ?_) (fun c1 => ?_)
  · have h := jx_t c1 h
    refine jx_aload_n (pc := 93) (k0 := 0) rfl dX6_looksForBest_93 ?_
    refine jx_iload_n (pc := 94) (k0 := 1) rfl dX6_looksForBest_94 ?_
    refine jx_aload_n (pc := 95) (k0 := 0) rfl dX6_looksForBest_95 ?_
    refine mm_g_bestPlace (pc := 96) fl_X6_212 dX6_looksForBest_96 ?_
    obtain ⟨q2, eq2, h⟩ := jx_bd_o h
    refine jx_callVv (pc := 99) [.int v1, .int (σ 0 19)] (fun sz' => k_X6_lays l G hG sz' σ v1 (σ 0 19) q2 eq2) kv_X6_176 mm_jok mm_rc rfl rfl (Nat.le_of_ble_eq_true rfl) ⟨⟨rfl, rfl⟩, ⟨Nat.le_of_ble_eq_true rfl, Nat.le_of_ble_eq_true rfl⟩, Nat.zero_le _, Nat.zero_le _⟩ dX6_looksForBest_99 ?_
    cases h
    exact jx_vret (pc := 102) dX6_looksForBest_102
  · have h := jx_f c1 h
    refine jx_aload_n (pc := 18) (k0 := 0) rfl dX6_looksForBest_18 ?_
    refine jx_iload_n (pc := 19) (k0 := 1) rfl dX6_looksForBest_19 ?_
    refine jx_iload_n (pc := 20) (k0 := 2) rfl dX6_looksForBest_20 ?_
    obtain ⟨q3, eq3, h⟩ := jx_bd_o h
    refine jx_callVv (pc := 21) [.int v1, .int v2] (fun sz' => k_X6_lays l G hG sz' σ v1 v2 q3 eq3) kv_X6_176 mm_jok mm_rc rfl rfl (Nat.le_of_ble_eq_true rfl) ⟨⟨rfl, rfl⟩, ⟨Nat.le_of_ble_eq_true rfl, Nat.le_of_ble_eq_true rfl⟩, Nat.zero_le _, Nat.zero_le _⟩ dX6_looksForBest_21 ?_
    refine jx_aload_n (pc := 24) (k0 := 0) rfl dX6_looksForBest_24 ?_
    refine jx_iload_n (pc := 25) (k0 := 1) rfl dX6_looksForBest_25 ?_
    obtain ⟨q4, eq4, h⟩ := jx_bd_o h
    refine jx_callVi (pc := 26) [.int v1] (fun sz' => k_X6_moreOf l G hG sz' q3 v1 q4 eq4) kv_X6_215 mm_jok mm_rc rfl rfl (Nat.le_of_ble_eq_true rfl) ⟨⟨rfl, rfl⟩, ⟨Nat.le_of_ble_eq_true rfl, Nat.le_of_ble_eq_true rfl⟩, Nat.zero_le _, Nat.zero_le _⟩ dX6_looksForBest_26 ?_
    refine jx_istore_n (pc := 29) (i := 3) rfl rfl (by decide) (lv' := [(3, .int q4), (0, .ref (G.2 10)), (1, .int v1), (2, .int v2)]) rfl dX6_looksForBest_29 ?_
    refine jx_aload_n (pc := 30) (k0 := 0) rfl dX6_looksForBest_30 ?_
    refine mm_g_bestPlace (pc := 31) fl_X6_212 dX6_looksForBest_31 ?_
    refine jx_iconst (pc := 34) (v := (-1 : Int32)) (by decide) dX6_looksForBest_34 ?_
    refine jx_icmp_eq (pc := 35) (tgt := 46) dX6_looksForBest_35 (by decide) (fun c5 => ?_) (fun c5 => ?_)
    · have h := jx_t c5 h
      exact jx_sub [1, 2, 3, 0] rfl (jb_X6_looksForBest_46 l G hG sz out k7 h7 q3 v1 v2 q4 h)
    · have h := jx_f c5 h
      refine jx_iload_n (pc := 38) (k0 := 3) rfl dX6_looksForBest_38 ?_
      refine jx_aload_n (pc := 39) (k0 := 0) rfl dX6_looksForBest_39 ?_
      refine mm_g_bestMore (pc := 40) fl_X6_218 dX6_looksForBest_40 ?_
      refine jx_icmp_le (pc := 43) (tgt := 50) dX6_looksForBest_43 (by decide) (fun c6 => ?_) (fun c6 => ?_)
      · have h := jx_t c6 h
        refine jx_iconst (pc := 50) (v := (0 : Int32)) (by decide) dX6_looksForBest_50 ?_
        exact jx_sub [1, 2, 3, 0] rfl (jb_X6_looksForBest_51 l G hG sz out k7 h7 q3 v1 v2 q4 (0 : Int32) h)
      · have h := jx_f c6 h
        exact jx_sub [1, 2, 3, 0] rfl (jb_X6_looksForBest_46 l G hG sz out k7 h7 q3 v1 v2 q4 h)
def b_X6_looksForBest_7  : Nat → jx_M → Int32 → Int32 → Option jx_M
  | 0, _, _, _ => none
  | n + 1, σ, v1, v2 => g_X6_looksForBest_7 (b_X6_looksForBest_7 n) σ v1 v2
theorem jb_X6_looksForBest_7 (l : Launch) (G : jx_G) (hG : mm_ok G) (sz : Nat) (out : jx_M)  : ∀ (n : Nat) (σ : jx_M) (v1 : Int32) (v2 : Int32), b_X6_looksForBest_7 n σ v1 v2 = some out → jJ_X6_looksForBest l G sz out 7 [(0, .ref (G.2 10)), (1, .int v1), (2, .int v2)] [] σ := by
  intro n
  induction n with
  | zero =>
    intro σ v1 v2 h
    cases h
  | succ n ih =>
    intro σ v1 v2 h
    exact jg_X6_looksForBest_7 l G hG sz out (b_X6_looksForBest_7 n) ih σ v1 v2 h
def f_X6_looksForBest (σ : jx_M) (a1 : Int32) : Option jx_M :=
  jx_lt (jx_mu σ 0 19 (-1 : Int32)) (fun σ1 => (b_X6_looksForBest_7 jx_fuel σ1 a1 (0 : Int32)))
set_option maxHeartbeats 4000000 in
set_option maxRecDepth 100000 in
theorem k_X6_looksForBest (l : Launch) (G : jx_G) (hG : mm_ok G) (sz : Nat) (σ : jx_M) (a1 : Int32) (out : jx_M) (h : f_X6_looksForBest σ a1 = some out) : Met l yX6_looksForBest (Cond.code yX6_looksForBest cX6_looksForBest 5 none :: jx_ws) rm_X6_looksForBest (jx_Pc (mm_env G) (mm_dyn G) (mm_rg G) sz σ [.ref (G.2 10), .int a1]) (jx_Qv (mm_dyn G) out (jx_A (mm_rg G) sz)) 0 0 (jx_A (mm_rg G) sz) := by
  unfold f_X6_looksForBest at h
  refine jx_met (by decide) (Nat.le_of_ble_eq_true rfl) ?_
  refine jx_sub (lv' := [(0, .ref (G.2 10)), (1, .int a1)]) [0, 1] rfl ?_
  refine jx_aload_n (pc := 0) (k0 := 0) rfl dX6_looksForBest_0 ?_
  refine jx_iconst (pc := 1) (v := (-1 : Int32)) (by decide) dX6_looksForBest_1 ?_
  obtain ⟨σ1, eσ1, h⟩ := jx_lt_o h
  refine mm_p_bestPlace (pc := 2) hG fl_X6_212 eσ1 dX6_looksForBest_2 ?_
  refine jx_iconst (pc := 5) (v := (0 : Int32)) (by decide) dX6_looksForBest_5 ?_
  refine jx_istore_n (pc := 6) (i := 2) rfl rfl (by decide) (lv' := [(2, .int (0 : Int32)), (0, .ref (G.2 10)), (1, .int a1)]) rfl dX6_looksForBest_6 ?_
  exact jx_sub [1, 2, 0] rfl (jb_X6_looksForBest_7 l G hG sz out jx_fuel σ1 a1 (0 : Int32) h)
theorem dX6_burnsActs_0 : decode cX6_burnsActs 0 = .ok (.aload_n 0, 1) := by decide +kernel
theorem dX6_burnsActs_1 : decode cX6_burnsActs 1 = .ok (.getfield 236, 3) := by decide +kernel
theorem dX6_burnsActs_4 : decode cX6_burnsActs 4 = .ok (.iconst 2, 1) := by decide +kernel
theorem dX6_burnsActs_5 : decode cX6_burnsActs 5 = .ok (.invokestatic 239, 3) := by decide +kernel
theorem dX6_burnsActs_8 : decode cX6_burnsActs 8 = .ok (.ifCond .eq 16, 3) := by decide +kernel
theorem dX6_burnsActs_11 : decode cX6_burnsActs 11 = .ok (.aload_n 0, 1) := by decide +kernel
theorem dX6_burnsActs_12 : decode cX6_burnsActs 12 = .ok (.bipush 21, 2) := by decide +kernel
theorem dX6_burnsActs_14 : decode cX6_burnsActs 14 = .ok (.invokevirtual 230, 3) := by decide +kernel
theorem dX6_burnsActs_17 : decode cX6_burnsActs 17 = .ok (.aload_n 0, 1) := by decide +kernel
theorem dX6_burnsActs_18 : decode cX6_burnsActs 18 = .ok (.iload_n 1, 1) := by decide +kernel
theorem dX6_burnsActs_19 : decode cX6_burnsActs 19 = .ok (.invokevirtual 252, 3) := by decide +kernel
theorem dX6_burnsActs_22 : decode cX6_burnsActs 22 = .ok (.ineg, 1) := by decide +kernel
theorem dX6_burnsActs_23 : decode cX6_burnsActs 23 = .ok (.ireturn, 1) := by decide +kernel
theorem dX6_burnsActs_24 : decode cX6_burnsActs 24 = .ok (.aload_n 0, 1) := by decide +kernel
theorem dX6_burnsActs_25 : decode cX6_burnsActs 25 = .ok (.getfield 236, 3) := by decide +kernel
theorem dX6_burnsActs_28 : decode cX6_burnsActs 28 = .ok (.bipush 6, 2) := by decide +kernel
theorem dX6_burnsActs_30 : decode cX6_burnsActs 30 = .ok (.if_icmp .ne 20, 3) := by decide +kernel
theorem dX6_burnsActs_33 : decode cX6_burnsActs 33 = .ok (.aload_n 0, 1) := by decide +kernel
theorem dX6_burnsActs_34 : decode cX6_burnsActs 34 = .ok (.bipush 61, 2) := by decide +kernel
theorem dX6_burnsActs_36 : decode cX6_burnsActs 36 = .ok (.invokevirtual 230, 3) := by decide +kernel
theorem dX6_burnsActs_39 : decode cX6_burnsActs 39 = .ok (.aload_n 0, 1) := by decide +kernel
theorem dX6_burnsActs_40 : decode cX6_burnsActs 40 = .ok (.iload_n 1, 1) := by decide +kernel
theorem dX6_burnsActs_41 : decode cX6_burnsActs 41 = .ok (.invokevirtual 252, 3) := by decide +kernel
theorem dX6_burnsActs_44 : decode cX6_burnsActs 44 = .ok (.aload_n 0, 1) := by decide +kernel
theorem dX6_burnsActs_45 : decode cX6_burnsActs 45 = .ok (.getfield 249, 3) := by decide +kernel
theorem dX6_burnsActs_48 : decode cX6_burnsActs 48 = .ok (.iadd, 1) := by decide +kernel
theorem dX6_burnsActs_49 : decode cX6_burnsActs 49 = .ok (.ireturn, 1) := by decide +kernel
theorem dX6_burnsActs_50 : decode cX6_burnsActs 50 = .ok (.aload_n 0, 1) := by decide +kernel
theorem dX6_burnsActs_51 : decode cX6_burnsActs 51 = .ok (.iload_n 1, 1) := by decide +kernel
theorem dX6_burnsActs_52 : decode cX6_burnsActs 52 = .ok (.invokevirtual 252, 3) := by decide +kernel
theorem dX6_burnsActs_55 : decode cX6_burnsActs 55 = .ok (.ireturn, 1) := by decide +kernel
abbrev rm_X6_burnsActs : Room := { frames := 4, cells := 0, slots := 0, locals := 84 }
abbrev jJ_X6_burnsActs (l : Launch) (G : jx_G) (sz : Nat) (out : (Int32 × jx_M)) (pc : Nat) (lv : List (Nat × Value)) (st : List Value) (σ : jx_M) : Prop := jx_J l (mm_env G) (mm_dyn G) (mm_rg G) sz RX6 "burnsActs" cX6_burnsActs 2 (some .int) rm_X6_burnsActs (fun below args s => MQ below (jx_Qi (mm_dyn G) out.2 out.1 (jx_A (mm_rg G) sz)) args s 0 0 (jx_A (mm_rg G) sz)) 0 0 pc lv st σ
def f_X6_burnsActs (σ : jx_M) (a1 : Int32) : Option (Int32 × jx_M) :=
  jx_bd (f_X6_isUnder (σ 0 23) (2 : Int32)) (fun q1 => if q1 = 0 then if (σ 0 23) = (6 : Int32) then jx_bd (f_X6_ranBody σ (61 : Int32)) (fun q5 => jx_bd (f_X6_plainBurns q5 a1) (fun q6 => some ((q6.1 + (q6.2 0 25)), q6.2))) else jx_bd (f_X6_plainBurns σ a1) (fun q4 => some (q4.1, q4.2)) else jx_bd (f_X6_ranBody σ (21 : Int32)) (fun q7 => jx_bd (f_X6_plainBurns q7 a1) (fun q8 => some ((-q8.1), q8.2))))
set_option maxHeartbeats 4000000 in
set_option maxRecDepth 100000 in
theorem k_X6_burnsActs (l : Launch) (G : jx_G) (hG : mm_ok G) (sz : Nat) (σ : jx_M) (a1 : Int32) (out : (Int32 × jx_M)) (h : f_X6_burnsActs σ a1 = some out) : Met l yX6_burnsActs (Cond.code yX6_burnsActs cX6_burnsActs 2 (some .int) :: jx_ws) rm_X6_burnsActs (jx_Pc (mm_env G) (mm_dyn G) (mm_rg G) sz σ [.ref (G.2 10), .int a1]) (jx_Qi (mm_dyn G) out.2 out.1 (jx_A (mm_rg G) sz)) 0 0 (jx_A (mm_rg G) sz) := by
  unfold f_X6_burnsActs at h
  refine jx_met (by decide) (Nat.le_of_ble_eq_true rfl) ?_
  refine jx_sub (lv' := [(0, .ref (G.2 10)), (1, .int a1)]) [0, 1] rfl ?_
  refine jx_aload_n (pc := 0) (k0 := 0) rfl dX6_burnsActs_0 ?_
  refine mm_g_kind (pc := 1) fl_X6_236 dX6_burnsActs_1 ?_
  refine jx_iconst (pc := 4) (v := (2 : Int32)) (by decide) dX6_burnsActs_4 ?_
  obtain ⟨q1, eq1, h⟩ := jx_bd_o h
  refine jx_callSi (pc := 5) [.int (σ 0 23), .int (2 : Int32)] (fun sz' => k_X6_isUnder l G hG sz' σ (σ 0 23) (2 : Int32) q1 eq1) ks_X6_239 mm_jok rfl rfl (Nat.le_of_ble_eq_true rfl) ⟨⟨rfl, rfl⟩, ⟨Nat.le_of_ble_eq_true rfl, Nat.le_of_ble_eq_true rfl⟩, Nat.zero_le _, Nat.zero_le _⟩ dX6_burnsActs_5 ?_
  refine jx_if_eq (pc := 8) (tgt := 24) dX6_burnsActs_8 (by decide) (fun c2 => ?_) (fun c2 => ?_)
  · have h := jx_t c2 h
    refine jx_aload_n (pc := 24) (k0 := 0) rfl dX6_burnsActs_24 ?_
    refine mm_g_kind (pc := 25) fl_X6_236 dX6_burnsActs_25 ?_
    refine jx_bipush (pc := 28) (v := (6 : Int32)) (by decide) dX6_burnsActs_28 ?_
    refine jx_icmp_ne (pc := 30) (tgt := 50) dX6_burnsActs_30 (by decide) (fun c3 => ?_) (fun c3 => ?_)
    · have h := jx_f c3 h
      refine jx_aload_n (pc := 50) (k0 := 0) rfl dX6_burnsActs_50 ?_
      refine jx_iload_n (pc := 51) (k0 := 1) rfl dX6_burnsActs_51 ?_
      obtain ⟨q4, eq4, h⟩ := jx_bd_o h
      refine jx_callVi (pc := 52) [.int a1] (fun sz' => k_X6_plainBurns l G hG sz' σ a1 q4 eq4) kv_X6_252 mm_jok mm_rc rfl rfl (Nat.le_of_ble_eq_true rfl) ⟨⟨rfl, rfl⟩, ⟨Nat.le_of_ble_eq_true rfl, Nat.le_of_ble_eq_true rfl⟩, Nat.zero_le _, Nat.zero_le _⟩ dX6_burnsActs_52 ?_
      cases h
      exact jx_iret (pc := 55) dX6_burnsActs_55
    · have h := jx_t c3 h
      refine jx_aload_n (pc := 33) (k0 := 0) rfl dX6_burnsActs_33 ?_
      refine jx_bipush (pc := 34) (v := (61 : Int32)) (by decide) dX6_burnsActs_34 ?_
      obtain ⟨q5, eq5, h⟩ := jx_bd_o h
      refine jx_callVv (pc := 36) [.int (61 : Int32)] (fun sz' => k_X6_ranBody l G hG sz' σ (61 : Int32) q5 eq5) kv_X6_230 mm_jok mm_rc rfl rfl (Nat.le_of_ble_eq_true rfl) ⟨⟨rfl, rfl⟩, ⟨Nat.le_of_ble_eq_true rfl, Nat.le_of_ble_eq_true rfl⟩, Nat.zero_le _, Nat.zero_le _⟩ dX6_burnsActs_36 ?_
      refine jx_aload_n (pc := 39) (k0 := 0) rfl dX6_burnsActs_39 ?_
      refine jx_iload_n (pc := 40) (k0 := 1) rfl dX6_burnsActs_40 ?_
      obtain ⟨q6, eq6, h⟩ := jx_bd_o h
      refine jx_callVi (pc := 41) [.int a1] (fun sz' => k_X6_plainBurns l G hG sz' q5 a1 q6 eq6) kv_X6_252 mm_jok mm_rc rfl rfl (Nat.le_of_ble_eq_true rfl) ⟨⟨rfl, rfl⟩, ⟨Nat.le_of_ble_eq_true rfl, Nat.le_of_ble_eq_true rfl⟩, Nat.zero_le _, Nat.zero_le _⟩ dX6_burnsActs_41 ?_
      refine jx_aload_n (pc := 44) (k0 := 0) rfl dX6_burnsActs_44 ?_
      refine mm_g_tellsV (pc := 45) fl_X6_249 dX6_burnsActs_45 ?_
      refine jx_iadd (pc := 48) dX6_burnsActs_48 ?_
      cases h
      exact jx_iret (pc := 49) dX6_burnsActs_49
  · have h := jx_f c2 h
    refine jx_aload_n (pc := 11) (k0 := 0) rfl dX6_burnsActs_11 ?_
    refine jx_bipush (pc := 12) (v := (21 : Int32)) (by decide) dX6_burnsActs_12 ?_
    obtain ⟨q7, eq7, h⟩ := jx_bd_o h
    refine jx_callVv (pc := 14) [.int (21 : Int32)] (fun sz' => k_X6_ranBody l G hG sz' σ (21 : Int32) q7 eq7) kv_X6_230 mm_jok mm_rc rfl rfl (Nat.le_of_ble_eq_true rfl) ⟨⟨rfl, rfl⟩, ⟨Nat.le_of_ble_eq_true rfl, Nat.le_of_ble_eq_true rfl⟩, Nat.zero_le _, Nat.zero_le _⟩ dX6_burnsActs_14 ?_
    refine jx_aload_n (pc := 17) (k0 := 0) rfl dX6_burnsActs_17 ?_
    refine jx_iload_n (pc := 18) (k0 := 1) rfl dX6_burnsActs_18 ?_
    obtain ⟨q8, eq8, h⟩ := jx_bd_o h
    refine jx_callVi (pc := 19) [.int a1] (fun sz' => k_X6_plainBurns l G hG sz' q7 a1 q8 eq8) kv_X6_252 mm_jok mm_rc rfl rfl (Nat.le_of_ble_eq_true rfl) ⟨⟨rfl, rfl⟩, ⟨Nat.le_of_ble_eq_true rfl, Nat.le_of_ble_eq_true rfl⟩, Nat.zero_le _, Nat.zero_le _⟩ dX6_burnsActs_19 ?_
    refine jx_ineg (pc := 22) dX6_burnsActs_22 ?_
    cases h
    exact jx_iret (pc := 23) dX6_burnsActs_23
theorem dX6_vote_0 : decode cX6_vote 0 = .ok (.iload_n 1, 1) := by decide +kernel
theorem dX6_vote_1 : decode cX6_vote 1 = .ok (.iconst 0, 1) := by decide +kernel
theorem dX6_vote_2 : decode cX6_vote 2 = .ok (.iconst 2, 1) := by decide +kernel
theorem dX6_vote_3 : decode cX6_vote 3 = .ok (.invokestatic 48, 3) := by decide +kernel
theorem dX6_vote_6 : decode cX6_vote 6 = .ok (.ifCond .ne 5, 3) := by decide +kernel
theorem dX6_vote_9 : decode cX6_vote 9 = .ok (.iconst (-1), 1) := by decide +kernel
theorem dX6_vote_10 : decode cX6_vote 10 = .ok (.ireturn, 1) := by decide +kernel
theorem dX6_vote_11 : decode cX6_vote 11 = .ok (.aload_n 0, 1) := by decide +kernel
theorem dX6_vote_12 : decode cX6_vote 12 = .ok (.invokevirtual 185, 3) := by decide +kernel
theorem dX6_vote_15 : decode cX6_vote 15 = .ok (.aload_n 0, 1) := by decide +kernel
theorem dX6_vote_16 : decode cX6_vote 16 = .ok (.invokevirtual 188, 3) := by decide +kernel
theorem dX6_vote_19 : decode cX6_vote 19 = .ok (.iload_n 1, 1) := by decide +kernel
theorem dX6_vote_20 : decode cX6_vote 20 = .ok (.iconst 2, 1) := by decide +kernel
theorem dX6_vote_21 : decode cX6_vote 21 = .ok (.if_icmp .ne 10, 3) := by decide +kernel
theorem dX6_vote_24 : decode cX6_vote 24 = .ok (.aload_n 0, 1) := by decide +kernel
theorem dX6_vote_25 : decode cX6_vote 25 = .ok (.invokevirtual 191, 3) := by decide +kernel
theorem dX6_vote_28 : decode cX6_vote 28 = .ok (.goto 8, 3) := by decide +kernel
theorem dX6_vote_31 : decode cX6_vote 31 = .ok (.aload_n 0, 1) := by decide +kernel
theorem dX6_vote_32 : decode cX6_vote 32 = .ok (.iload_n 1, 1) := by decide +kernel
theorem dX6_vote_33 : decode cX6_vote 33 = .ok (.invokevirtual 179, 3) := by decide +kernel
theorem dX6_vote_36 : decode cX6_vote 36 = .ok (.ireturn, 1) := by decide +kernel
abbrev rm_X6_vote : Room := { frames := 5, cells := 0, slots := 0, locals := 123 }
abbrev jJ_X6_vote (l : Launch) (G : jx_G) (sz : Nat) (out : (Int32 × jx_M)) (pc : Nat) (lv : List (Nat × Value)) (st : List Value) (σ : jx_M) : Prop := jx_J l (mm_env G) (mm_dyn G) (mm_rg G) sz RX6 "vote" cX6_vote 2 (some .int) rm_X6_vote (fun below args s => MQ below (jx_Qi (mm_dyn G) out.2 out.1 (jx_A (mm_rg G) sz)) args s 0 0 (jx_A (mm_rg G) sz)) 0 0 pc lv st σ
def f_X6_vote (σ : jx_M) (a1 : Int32) : Option (Int32 × jx_M) :=
  jx_bd (f_X6_in a1 (0 : Int32) (2 : Int32)) (fun q1 => if q1 = 0 then some ((-1 : Int32), σ) else jx_bd (f_X6_looksForNight σ) (fun q3 => jx_bd (f_X6_laysAll q3) (fun q4 => if a1 = (2 : Int32) then jx_bd (f_X6_mayor q4) (fun q7 => some (q7, q4)) else jx_bd (f_X6_votesFor q4 a1) (fun q6 => some (q6, q4)))))
set_option maxHeartbeats 4000000 in
set_option maxRecDepth 100000 in
theorem k_X6_vote (l : Launch) (G : jx_G) (hG : mm_ok G) (sz : Nat) (σ : jx_M) (a1 : Int32) (out : (Int32 × jx_M)) (h : f_X6_vote σ a1 = some out) : Met l yX6_vote (Cond.code yX6_vote cX6_vote 2 (some .int) :: jx_ws) rm_X6_vote (jx_Pc (mm_env G) (mm_dyn G) (mm_rg G) sz σ [.ref (G.2 10), .int a1]) (jx_Qi (mm_dyn G) out.2 out.1 (jx_A (mm_rg G) sz)) 0 0 (jx_A (mm_rg G) sz) := by
  unfold f_X6_vote at h
  refine jx_met (by decide) (Nat.le_of_ble_eq_true rfl) ?_
  refine jx_sub (lv' := [(0, .ref (G.2 10)), (1, .int a1)]) [0, 1] rfl ?_
  refine jx_iload_n (pc := 0) (k0 := 1) rfl dX6_vote_0 ?_
  refine jx_iconst (pc := 1) (v := (0 : Int32)) (by decide) dX6_vote_1 ?_
  refine jx_iconst (pc := 2) (v := (2 : Int32)) (by decide) dX6_vote_2 ?_
  obtain ⟨q1, eq1, h⟩ := jx_bd_o h
  refine jx_callSi (pc := 3) [.int a1, .int (0 : Int32), .int (2 : Int32)] (fun sz' => k_X6_in l G hG sz' σ a1 (0 : Int32) (2 : Int32) q1 eq1) ks_X6_48 mm_jok rfl rfl (Nat.le_of_ble_eq_true rfl) ⟨⟨rfl, rfl⟩, ⟨Nat.le_of_ble_eq_true rfl, Nat.le_of_ble_eq_true rfl⟩, Nat.zero_le _, Nat.zero_le _⟩ dX6_vote_3 ?_
  refine jx_if_ne (pc := 6) (tgt := 11) dX6_vote_6 (by decide) (fun c2 => ?_) (fun c2 => ?_)
  · have h := jx_f c2 h
    refine jx_aload_n (pc := 11) (k0 := 0) rfl dX6_vote_11 ?_
    obtain ⟨q3, eq3, h⟩ := jx_bd_o h
    refine jx_callVv (pc := 12) [] (fun sz' => k_X6_looksForNight l G hG sz' σ q3 eq3) kv_X6_185 mm_jok mm_rc rfl rfl (Nat.le_of_ble_eq_true rfl) ⟨⟨rfl, rfl⟩, ⟨Nat.le_of_ble_eq_true rfl, Nat.le_of_ble_eq_true rfl⟩, Nat.zero_le _, Nat.zero_le _⟩ dX6_vote_12 ?_
    refine jx_aload_n (pc := 15) (k0 := 0) rfl dX6_vote_15 ?_
    obtain ⟨q4, eq4, h⟩ := jx_bd_o h
    refine jx_callVv (pc := 16) [] (fun sz' => k_X6_laysAll l G hG sz' q3 q4 eq4) kv_X6_188 mm_jok mm_rc rfl rfl (Nat.le_of_ble_eq_true rfl) ⟨⟨rfl, rfl⟩, ⟨Nat.le_of_ble_eq_true rfl, Nat.le_of_ble_eq_true rfl⟩, Nat.zero_le _, Nat.zero_le _⟩ dX6_vote_16 ?_
    refine jx_iload_n (pc := 19) (k0 := 1) rfl dX6_vote_19 ?_
    refine jx_iconst (pc := 20) (v := (2 : Int32)) (by decide) dX6_vote_20 ?_
    refine jx_icmp_ne (pc := 21) (tgt := 31) dX6_vote_21 (by decide) (fun c5 => ?_) (fun c5 => ?_)
    · have h := jx_f c5 h
      refine jx_aload_n (pc := 31) (k0 := 0) rfl dX6_vote_31 ?_
      refine jx_iload_n (pc := 32) (k0 := 1) rfl dX6_vote_32 ?_
      obtain ⟨q6, eq6, h⟩ := jx_bd_o h
      refine jx_callVi (pc := 33) [.int a1] (fun sz' => k_X6_votesFor l G hG sz' q4 a1 q6 eq6) kv_X6_179 mm_jok mm_rc rfl rfl (Nat.le_of_ble_eq_true rfl) ⟨⟨rfl, rfl⟩, ⟨Nat.le_of_ble_eq_true rfl, Nat.le_of_ble_eq_true rfl⟩, Nat.zero_le _, Nat.zero_le _⟩ dX6_vote_33 ?_
      cases h
      exact jx_iret (pc := 36) dX6_vote_36
    · have h := jx_t c5 h
      refine jx_aload_n (pc := 24) (k0 := 0) rfl dX6_vote_24 ?_
      obtain ⟨q7, eq7, h⟩ := jx_bd_o h
      refine jx_callVi (pc := 25) [] (fun sz' => k_X6_mayor l G hG sz' q4 q7 eq7) kv_X6_191 mm_jok mm_rc rfl rfl (Nat.le_of_ble_eq_true rfl) ⟨⟨rfl, rfl⟩, ⟨Nat.le_of_ble_eq_true rfl, Nat.le_of_ble_eq_true rfl⟩, Nat.zero_le _, Nat.zero_le _⟩ dX6_vote_25 ?_
      refine jx_goto (pc := 28) (tgt := 36) dX6_vote_28 (by decide) ?_
      cases h
      exact jx_iret (pc := 36) dX6_vote_36
  · have h := jx_t c2 h
    refine jx_iconst (pc := 9) (v := (-1 : Int32)) (by decide) dX6_vote_9 ?_
    cases h
    exact jx_iret (pc := 10) dX6_vote_10
theorem dX6_lies_0 : decode cX6_lies 0 = .ok (.aload_n 0, 1) := by decide +kernel
theorem dX6_lies_1 : decode cX6_lies 1 = .ok (.iload_n 1, 1) := by decide +kernel
theorem dX6_lies_2 : decode cX6_lies 2 = .ok (.invokevirtual 163, 3) := by decide +kernel
theorem dX6_lies_5 : decode cX6_lies 5 = .ok (.ifCond .eq 12, 3) := by decide +kernel
theorem dX6_lies_8 : decode cX6_lies 8 = .ok (.iload_n 2, 1) := by decide +kernel
theorem dX6_lies_9 : decode cX6_lies 9 = .ok (.iconst 0, 1) := by decide +kernel
theorem dX6_lies_10 : decode cX6_lies 10 = .ok (.iconst 1, 1) := by decide +kernel
theorem dX6_lies_11 : decode cX6_lies 11 = .ok (.invokestatic 48, 3) := by decide +kernel
theorem dX6_lies_14 : decode cX6_lies 14 = .ok (.ifCond .ne 5, 3) := by decide +kernel
theorem dX6_lies_17 : decode cX6_lies 17 = .ok (.iconst (-1), 1) := by decide +kernel
theorem dX6_lies_18 : decode cX6_lies 18 = .ok (.ireturn, 1) := by decide +kernel
theorem dX6_lies_19 : decode cX6_lies 19 = .ok (.aload_n 0, 1) := by decide +kernel
theorem dX6_lies_20 : decode cX6_lies 20 = .ok (.invokevirtual 185, 3) := by decide +kernel
theorem dX6_lies_23 : decode cX6_lies 23 = .ok (.aload_n 0, 1) := by decide +kernel
theorem dX6_lies_24 : decode cX6_lies 24 = .ok (.invokevirtual 188, 3) := by decide +kernel
theorem dX6_lies_27 : decode cX6_lies 27 = .ok (.iload_n 2, 1) := by decide +kernel
theorem dX6_lies_28 : decode cX6_lies 28 = .ok (.ifCond .ne 12, 3) := by decide +kernel
theorem dX6_lies_31 : decode cX6_lies 31 = .ok (.aload_n 0, 1) := by decide +kernel
theorem dX6_lies_32 : decode cX6_lies 32 = .ok (.getfield 31, 3) := by decide +kernel
theorem dX6_lies_35 : decode cX6_lies 35 = .ok (.iload_n 1, 1) := by decide +kernel
theorem dX6_lies_36 : decode cX6_lies 36 = .ok (.iaload, 1) := by decide +kernel
theorem dX6_lies_37 : decode cX6_lies 37 = .ok (.goto 17, 3) := by decide +kernel
theorem dX6_lies_40 : decode cX6_lies 40 = .ok (.aload_n 0, 1) := by decide +kernel
theorem dX6_lies_41 : decode cX6_lies 41 = .ok (.getfield 34, 3) := by decide +kernel
theorem dX6_lies_44 : decode cX6_lies 44 = .ok (.iload_n 1, 1) := by decide +kernel
theorem dX6_lies_45 : decode cX6_lies 45 = .ok (.baload, 1) := by decide +kernel
theorem dX6_lies_46 : decode cX6_lies 46 = .ok (.ifCond .eq 7, 3) := by decide +kernel
theorem dX6_lies_49 : decode cX6_lies 49 = .ok (.iconst 1, 1) := by decide +kernel
theorem dX6_lies_50 : decode cX6_lies 50 = .ok (.goto 4, 3) := by decide +kernel
theorem dX6_lies_53 : decode cX6_lies 53 = .ok (.iconst 0, 1) := by decide +kernel
theorem dX6_lies_54 : decode cX6_lies 54 = .ok (.ireturn, 1) := by decide +kernel
abbrev rm_X6_lies : Room := { frames := 5, cells := 0, slots := 0, locals := 123 }
abbrev jJ_X6_lies (l : Launch) (G : jx_G) (sz : Nat) (out : (Int32 × jx_M)) (pc : Nat) (lv : List (Nat × Value)) (st : List Value) (σ : jx_M) : Prop := jx_J l (mm_env G) (mm_dyn G) (mm_rg G) sz RX6 "lies" cX6_lies 3 (some .int) rm_X6_lies (fun below args s => MQ below (jx_Qi (mm_dyn G) out.2 out.1 (jx_A (mm_rg G) sz)) args s 0 0 (jx_A (mm_rg G) sz)) 0 0 pc lv st σ
def f_X6_lies (σ : jx_M) (a1 : Int32) (a2 : Int32) : Option (Int32 × jx_M) :=
  jx_bd (f_X6_isVoter σ a1) (fun q1 => if q1 = 0 then some ((-1 : Int32), σ) else jx_bd (f_X6_in a2 (0 : Int32) (1 : Int32)) (fun q3 => if q3 = 0 then some ((-1 : Int32), σ) else jx_bd (f_X6_looksForNight σ) (fun q5 => jx_bd (f_X6_laysAll q5) (fun q6 => if a2 = 0 then jx_gd (jx_in a1 6) (some ((q6 7 a1.toNatClampNeg), q6)) else jx_gd (jx_in a1 6) (if (q6 8 a1.toNatClampNeg) = 0 then some ((0 : Int32), q6) else some ((1 : Int32), q6))))))
set_option maxHeartbeats 4000000 in
set_option maxRecDepth 100000 in
theorem k_X6_lies (l : Launch) (G : jx_G) (hG : mm_ok G) (sz : Nat) (σ : jx_M) (a1 : Int32) (a2 : Int32) (out : (Int32 × jx_M)) (h : f_X6_lies σ a1 a2 = some out) : Met l yX6_lies (Cond.code yX6_lies cX6_lies 3 (some .int) :: jx_ws) rm_X6_lies (jx_Pc (mm_env G) (mm_dyn G) (mm_rg G) sz σ [.ref (G.2 10), .int a1, .int a2]) (jx_Qi (mm_dyn G) out.2 out.1 (jx_A (mm_rg G) sz)) 0 0 (jx_A (mm_rg G) sz) := by
  unfold f_X6_lies at h
  refine jx_met (by decide) (Nat.le_of_ble_eq_true rfl) ?_
  refine jx_sub (lv' := [(0, .ref (G.2 10)), (1, .int a1), (2, .int a2)]) [0, 1, 2] rfl ?_
  refine jx_aload_n (pc := 0) (k0 := 0) rfl dX6_lies_0 ?_
  refine jx_iload_n (pc := 1) (k0 := 1) rfl dX6_lies_1 ?_
  obtain ⟨q1, eq1, h⟩ := jx_bd_o h
  refine jx_callVi (pc := 2) [.int a1] (fun sz' => k_X6_isVoter l G hG sz' σ a1 q1 eq1) kv_X6_163 mm_jok mm_rc rfl rfl (Nat.le_of_ble_eq_true rfl) ⟨⟨rfl, rfl⟩, ⟨Nat.le_of_ble_eq_true rfl, Nat.le_of_ble_eq_true rfl⟩, Nat.zero_le _, Nat.zero_le _⟩ dX6_lies_2 ?_
  refine jx_if_eq (pc := 5) (tgt := 17) dX6_lies_5 (by decide) (fun c2 => ?_) (fun c2 => ?_)
  · have h := jx_t c2 h
    refine jx_iconst (pc := 17) (v := (-1 : Int32)) (by decide) dX6_lies_17 ?_
    cases h
    exact jx_iret (pc := 18) dX6_lies_18
  · have h := jx_f c2 h
    refine jx_iload_n (pc := 8) (k0 := 2) rfl dX6_lies_8 ?_
    refine jx_iconst (pc := 9) (v := (0 : Int32)) (by decide) dX6_lies_9 ?_
    refine jx_iconst (pc := 10) (v := (1 : Int32)) (by decide) dX6_lies_10 ?_
    obtain ⟨q3, eq3, h⟩ := jx_bd_o h
    refine jx_callSi (pc := 11) [.int a2, .int (0 : Int32), .int (1 : Int32)] (fun sz' => k_X6_in l G hG sz' σ a2 (0 : Int32) (1 : Int32) q3 eq3) ks_X6_48 mm_jok rfl rfl (Nat.le_of_ble_eq_true rfl) ⟨⟨rfl, rfl⟩, ⟨Nat.le_of_ble_eq_true rfl, Nat.le_of_ble_eq_true rfl⟩, Nat.zero_le _, Nat.zero_le _⟩ dX6_lies_11 ?_
    refine jx_if_ne (pc := 14) (tgt := 19) dX6_lies_14 (by decide) (fun c4 => ?_) (fun c4 => ?_)
    · have h := jx_f c4 h
      refine jx_aload_n (pc := 19) (k0 := 0) rfl dX6_lies_19 ?_
      obtain ⟨q5, eq5, h⟩ := jx_bd_o h
      refine jx_callVv (pc := 20) [] (fun sz' => k_X6_looksForNight l G hG sz' σ q5 eq5) kv_X6_185 mm_jok mm_rc rfl rfl (Nat.le_of_ble_eq_true rfl) ⟨⟨rfl, rfl⟩, ⟨Nat.le_of_ble_eq_true rfl, Nat.le_of_ble_eq_true rfl⟩, Nat.zero_le _, Nat.zero_le _⟩ dX6_lies_20 ?_
      refine jx_aload_n (pc := 23) (k0 := 0) rfl dX6_lies_23 ?_
      obtain ⟨q6, eq6, h⟩ := jx_bd_o h
      refine jx_callVv (pc := 24) [] (fun sz' => k_X6_laysAll l G hG sz' q5 q6 eq6) kv_X6_188 mm_jok mm_rc rfl rfl (Nat.le_of_ble_eq_true rfl) ⟨⟨rfl, rfl⟩, ⟨Nat.le_of_ble_eq_true rfl, Nat.le_of_ble_eq_true rfl⟩, Nat.zero_le _, Nat.zero_le _⟩ dX6_lies_24 ?_
      refine jx_iload_n (pc := 27) (k0 := 2) rfl dX6_lies_27 ?_
      refine jx_if_ne (pc := 28) (tgt := 40) dX6_lies_28 (by decide) (fun c7 => ?_) (fun c7 => ?_)
      · have h := jx_f c7 h
        refine jx_aload_n (pc := 40) (k0 := 0) rfl dX6_lies_40 ?_
        refine mm_g_counts (pc := 41) fl_X6_34 dX6_lies_41 ?_
        refine jx_iload_n (pc := 44) (k0 := 1) rfl dX6_lies_44 ?_
        obtain ⟨g8, h⟩ := jx_gd_o h
        refine mm_l_counts (pc := 45) (jx_in_o g8) rfl dX6_lies_45 ?_
        refine jx_if_eq (pc := 46) (tgt := 53) dX6_lies_46 (by decide) (fun c9 => ?_) (fun c9 => ?_)
        · have h := jx_t c9 h
          refine jx_iconst (pc := 53) (v := (0 : Int32)) (by decide) dX6_lies_53 ?_
          cases h
          exact jx_iret (pc := 54) dX6_lies_54
        · have h := jx_f c9 h
          refine jx_iconst (pc := 49) (v := (1 : Int32)) (by decide) dX6_lies_49 ?_
          refine jx_goto (pc := 50) (tgt := 54) dX6_lies_50 (by decide) ?_
          cases h
          exact jx_iret (pc := 54) dX6_lies_54
      · have h := jx_t c7 h
        refine jx_aload_n (pc := 31) (k0 := 0) rfl dX6_lies_31 ?_
        refine mm_g_lying (pc := 32) fl_X6_31 dX6_lies_32 ?_
        refine jx_iload_n (pc := 35) (k0 := 1) rfl dX6_lies_35 ?_
        obtain ⟨g10, h⟩ := jx_gd_o h
        refine mm_l_lying (pc := 36) (jx_in_o g10) rfl dX6_lies_36 ?_
        refine jx_goto (pc := 37) (tgt := 54) dX6_lies_37 (by decide) ?_
        cases h
        exact jx_iret (pc := 54) dX6_lies_54
    · have h := jx_t c4 h
      refine jx_iconst (pc := 17) (v := (-1 : Int32)) (by decide) dX6_lies_17 ?_
      cases h
      exact jx_iret (pc := 18) dX6_lies_18
theorem dX6_ward_0 : decode cX6_ward 0 = .ok (.iload_n 1, 1) := by decide +kernel
theorem dX6_ward_1 : decode cX6_ward 1 = .ok (.iconst 0, 1) := by decide +kernel
theorem dX6_ward_2 : decode cX6_ward 2 = .ok (.iconst 2, 1) := by decide +kernel
theorem dX6_ward_3 : decode cX6_ward 3 = .ok (.invokestatic 48, 3) := by decide +kernel
theorem dX6_ward_6 : decode cX6_ward 6 = .ok (.ifCond .ne 5, 3) := by decide +kernel
theorem dX6_ward_9 : decode cX6_ward 9 = .ok (.iconst (-1), 1) := by decide +kernel
theorem dX6_ward_10 : decode cX6_ward 10 = .ok (.ireturn, 1) := by decide +kernel
theorem dX6_ward_11 : decode cX6_ward 11 = .ok (.aload_n 0, 1) := by decide +kernel
theorem dX6_ward_12 : decode cX6_ward 12 = .ok (.invokevirtual 185, 3) := by decide +kernel
theorem dX6_ward_15 : decode cX6_ward 15 = .ok (.aload_n 0, 1) := by decide +kernel
theorem dX6_ward_16 : decode cX6_ward 16 = .ok (.invokevirtual 188, 3) := by decide +kernel
theorem dX6_ward_19 : decode cX6_ward 19 = .ok (.iconst 0, 1) := by decide +kernel
theorem dX6_ward_20 : decode cX6_ward 20 = .ok (.istore_n 2, 1) := by decide +kernel
theorem dX6_ward_21 : decode cX6_ward 21 = .ok (.iconst 0, 1) := by decide +kernel
theorem dX6_ward_22 : decode cX6_ward 22 = .ok (.istore_n 3, 1) := by decide +kernel
theorem dX6_ward_23 : decode cX6_ward 23 = .ok (.iconst 0, 1) := by decide +kernel
theorem dX6_ward_24 : decode cX6_ward 24 = .ok (.istore 4, 2) := by decide +kernel
theorem dX6_ward_26 : decode cX6_ward 26 = .ok (.iload 4, 2) := by decide +kernel
theorem dX6_ward_28 : decode cX6_ward 28 = .ok (.aload_n 0, 1) := by decide +kernel
theorem dX6_ward_29 : decode cX6_ward 29 = .ok (.getfield 9, 3) := by decide +kernel
theorem dX6_ward_32 : decode cX6_ward 32 = .ok (.iconst 0, 1) := by decide +kernel
theorem dX6_ward_33 : decode cX6_ward 33 = .ok (.iaload, 1) := by decide +kernel
theorem dX6_ward_34 : decode cX6_ward 34 = .ok (.if_icmp .ge 101, 3) := by decide +kernel
theorem dX6_ward_37 : decode cX6_ward 37 = .ok (.aload_n 0, 1) := by decide +kernel
theorem dX6_ward_38 : decode cX6_ward 38 = .ok (.getfield 34, 3) := by decide +kernel
theorem dX6_ward_41 : decode cX6_ward 41 = .ok (.iload 4, 2) := by decide +kernel
theorem dX6_ward_43 : decode cX6_ward 43 = .ok (.baload, 1) := by decide +kernel
theorem dX6_ward_44 : decode cX6_ward 44 = .ok (.ifCond .eq 37, 3) := by decide +kernel
theorem dX6_ward_47 : decode cX6_ward 47 = .ok (.aload_n 0, 1) := by decide +kernel
theorem dX6_ward_48 : decode cX6_ward 48 = .ok (.getfield 9, 3) := by decide +kernel
theorem dX6_ward_51 : decode cX6_ward 51 = .ok (.bipush 24, 2) := by decide +kernel
theorem dX6_ward_53 : decode cX6_ward 53 = .ok (.aload_n 0, 1) := by decide +kernel
theorem dX6_ward_54 : decode cX6_ward 54 = .ok (.getfield 31, 3) := by decide +kernel
theorem dX6_ward_57 : decode cX6_ward 57 = .ok (.iload 4, 2) := by decide +kernel
theorem dX6_ward_59 : decode cX6_ward 59 = .ok (.iaload, 1) := by decide +kernel
theorem dX6_ward_60 : decode cX6_ward 60 = .ok (.iadd, 1) := by decide +kernel
theorem dX6_ward_61 : decode cX6_ward 61 = .ok (.iaload, 1) := by decide +kernel
theorem dX6_ward_62 : decode cX6_ward 62 = .ok (.iload_n 1, 1) := by decide +kernel
theorem dX6_ward_63 : decode cX6_ward 63 = .ok (.if_icmp .ne 18, 3) := by decide +kernel
theorem dX6_ward_66 : decode cX6_ward 66 = .ok (.aload_n 0, 1) := by decide +kernel
theorem dX6_ward_67 : decode cX6_ward 67 = .ok (.getfield 28, 3) := by decide +kernel
theorem dX6_ward_70 : decode cX6_ward 70 = .ok (.aload_n 0, 1) := by decide +kernel
theorem dX6_ward_71 : decode cX6_ward 71 = .ok (.getfield 31, 3) := by decide +kernel
theorem dX6_ward_74 : decode cX6_ward 74 = .ok (.iload 4, 2) := by decide +kernel
theorem dX6_ward_76 : decode cX6_ward 76 = .ok (.iaload, 1) := by decide +kernel
theorem dX6_ward_77 : decode cX6_ward 77 = .ok (.iaload, 1) := by decide +kernel
theorem dX6_ward_78 : decode cX6_ward 78 = .ok (.goto 4, 3) := by decide +kernel
theorem dX6_ward_81 : decode cX6_ward 81 = .ok (.iconst 0, 1) := by decide +kernel
theorem dX6_ward_82 : decode cX6_ward 82 = .ok (.istore 5, 2) := by decide +kernel
theorem dX6_ward_84 : decode cX6_ward 84 = .ok (.iload_n 2, 1) := by decide +kernel
theorem dX6_ward_85 : decode cX6_ward 85 = .ok (.aload_n 0, 1) := by decide +kernel
theorem dX6_ward_86 : decode cX6_ward 86 = .ok (.getfield 9, 3) := by decide +kernel
theorem dX6_ward_89 : decode cX6_ward 89 = .ok (.bipush 49, 2) := by decide +kernel
theorem dX6_ward_91 : decode cX6_ward 91 = .ok (.iload 4, 2) := by decide +kernel
theorem dX6_ward_93 : decode cX6_ward 93 = .ok (.iadd, 1) := by decide +kernel
theorem dX6_ward_94 : decode cX6_ward 94 = .ok (.iaload, 1) := by decide +kernel
theorem dX6_ward_95 : decode cX6_ward 95 = .ok (.ifCond .ne 8, 3) := by decide +kernel
theorem dX6_ward_98 : decode cX6_ward 98 = .ok (.iload 5, 2) := by decide +kernel
theorem dX6_ward_100 : decode cX6_ward 100 = .ok (.goto 4, 3) := by decide +kernel
theorem dX6_ward_103 : decode cX6_ward 103 = .ok (.iconst 0, 1) := by decide +kernel
theorem dX6_ward_104 : decode cX6_ward 104 = .ok (.iadd, 1) := by decide +kernel
theorem dX6_ward_105 : decode cX6_ward 105 = .ok (.istore_n 2, 1) := by decide +kernel
theorem dX6_ward_106 : decode cX6_ward 106 = .ok (.iload_n 3, 1) := by decide +kernel
theorem dX6_ward_107 : decode cX6_ward 107 = .ok (.aload_n 0, 1) := by decide +kernel
theorem dX6_ward_108 : decode cX6_ward 108 = .ok (.getfield 9, 3) := by decide +kernel
theorem dX6_ward_111 : decode cX6_ward 111 = .ok (.bipush 49, 2) := by decide +kernel
theorem dX6_ward_113 : decode cX6_ward 113 = .ok (.iload 4, 2) := by decide +kernel
theorem dX6_ward_115 : decode cX6_ward 115 = .ok (.iadd, 1) := by decide +kernel
theorem dX6_ward_116 : decode cX6_ward 116 = .ok (.iaload, 1) := by decide +kernel
theorem dX6_ward_117 : decode cX6_ward 117 = .ok (.iconst 1, 1) := by decide +kernel
theorem dX6_ward_118 : decode cX6_ward 118 = .ok (.if_icmp .ne 8, 3) := by decide +kernel
theorem dX6_ward_121 : decode cX6_ward 121 = .ok (.iload 5, 2) := by decide +kernel
theorem dX6_ward_123 : decode cX6_ward 123 = .ok (.goto 4, 3) := by decide +kernel
theorem dX6_ward_126 : decode cX6_ward 126 = .ok (.iconst 0, 1) := by decide +kernel
theorem dX6_ward_127 : decode cX6_ward 127 = .ok (.iadd, 1) := by decide +kernel
theorem dX6_ward_128 : decode cX6_ward 128 = .ok (.istore_n 3, 1) := by decide +kernel
theorem dX6_ward_129 : decode cX6_ward 129 = .ok (.iinc 4 1, 3) := by decide +kernel
theorem dX6_ward_132 : decode cX6_ward 132 = .ok (.goto (-106), 3) := by decide +kernel
theorem dX6_ward_135 : decode cX6_ward 135 = .ok (.iload_n 2, 1) := by decide +kernel
theorem dX6_ward_136 : decode cX6_ward 136 = .ok (.iload_n 3, 1) := by decide +kernel
theorem dX6_ward_137 : decode cX6_ward 137 = .ok (.invokestatic 182, 3) := by decide +kernel
theorem dX6_ward_140 : decode cX6_ward 140 = .ok (.ireturn, 1) := by decide +kernel
abbrev rm_X6_ward : Room := { frames := 5, cells := 0, slots := 0, locals := 123 }
abbrev jJ_X6_ward (l : Launch) (G : jx_G) (sz : Nat) (out : (Int32 × jx_M)) (pc : Nat) (lv : List (Nat × Value)) (st : List Value) (σ : jx_M) : Prop := jx_J l (mm_env G) (mm_dyn G) (mm_rg G) sz RX6 "ward" cX6_ward 6 (some .int) rm_X6_ward (fun below args s => MQ below (jx_Qi (mm_dyn G) out.2 out.1 (jx_A (mm_rg G) sz)) args s 0 0 (jx_A (mm_rg G) sz)) 0 0 pc lv st σ
def b_X6_ward_127 (k26 : jx_M → Int32 → Int32 → Int32 → Int32 → Option (Int32 × jx_M)) (σ : jx_M) (v1 : Int32) (v2 : Int32) (v4 : Int32) (s0 : Int32) (s1 : Int32) : Option (Int32 × jx_M) :=
  jx_lt ((s1 + s0)) (fun x1 => jx_lt (v4 + (1 : Int32)) (fun x2 => (k26 σ v1 v2 x1 x2)))
set_option maxHeartbeats 4000000 in
set_option maxRecDepth 100000 in
theorem jb_X6_ward_127 (l : Launch) (G : jx_G) (hG : mm_ok G) (sz : Nat) (out : (Int32 × jx_M)) (k26 : jx_M → Int32 → Int32 → Int32 → Int32 → Option (Int32 × jx_M)) (h26 : ∀ (σ : jx_M) (v1 : Int32) (v2 : Int32) (v3 : Int32) (v4 : Int32), k26 σ v1 v2 v3 v4 = some out → jJ_X6_ward l G sz out 26 [(0, .ref (G.2 10)), (1, .int v1), (2, .int v2), (3, .int v3), (4, .int v4)] [] σ) (σ : jx_M) (v1 : Int32) (v2 : Int32) (v4 : Int32) (s0 : Int32) (s1 : Int32) (h : b_X6_ward_127 k26 σ v1 v2 v4 s0 s1 = some out) : jJ_X6_ward l G sz out 127 [(0, .ref (G.2 10)), (1, .int v1), (2, .int v2), (4, .int v4)] [.int s0, .int s1] σ := by
  unfold b_X6_ward_127 at h
  refine jx_iadd (pc := 127) dX6_ward_127 ?_
  obtain ⟨x1, ex1, h⟩ := jx_lt_o h
  refine jx_istore_n (pc := 128) (i := 3) rfl ex1 (by decide) (lv' := [(3, .int x1), (0, .ref (G.2 10)), (1, .int v1), (2, .int v2), (4, .int v4)]) rfl dX6_ward_128 ?_
  obtain ⟨x2, ex2, h⟩ := jx_lt_o h
  refine jx_iinc (pc := 129) (i := 4) (v := v4) rfl ex2 (n := 1) (by decide) (by decide) (lv' := [(4, .int x2), (3, .int x1), (0, .ref (G.2 10)), (1, .int v1), (2, .int v2)]) rfl dX6_ward_129 ?_
  refine jx_goto (pc := 132) (tgt := 26) dX6_ward_132 (by decide) ?_
  exact jx_sub [2, 3, 4, 1, 0] rfl (h26 σ v1 v2 x1 x2 h)
def b_X6_ward_104 (k26 : jx_M → Int32 → Int32 → Int32 → Int32 → Option (Int32 × jx_M)) (σ : jx_M) (v1 : Int32) (v3 : Int32) (v4 : Int32) (v5 : Int32) (s0 : Int32) (s1 : Int32) : Option (Int32 × jx_M) :=
  jx_lt ((s1 + s0)) (fun x1 => jx_gd (jx_in ((49 : Int32) + v4) 920) (if (σ 1 ((49 : Int32) + v4).toNatClampNeg) = (1 : Int32) then (b_X6_ward_127 k26 σ v1 x1 v4 v5 v3) else (b_X6_ward_127 k26 σ v1 x1 v4 (0 : Int32) v3)))
set_option maxHeartbeats 4000000 in
set_option maxRecDepth 100000 in
theorem jb_X6_ward_104 (l : Launch) (G : jx_G) (hG : mm_ok G) (sz : Nat) (out : (Int32 × jx_M)) (k26 : jx_M → Int32 → Int32 → Int32 → Int32 → Option (Int32 × jx_M)) (h26 : ∀ (σ : jx_M) (v1 : Int32) (v2 : Int32) (v3 : Int32) (v4 : Int32), k26 σ v1 v2 v3 v4 = some out → jJ_X6_ward l G sz out 26 [(0, .ref (G.2 10)), (1, .int v1), (2, .int v2), (3, .int v3), (4, .int v4)] [] σ) (σ : jx_M) (v1 : Int32) (v3 : Int32) (v4 : Int32) (v5 : Int32) (s0 : Int32) (s1 : Int32) (h : b_X6_ward_104 k26 σ v1 v3 v4 v5 s0 s1 = some out) : jJ_X6_ward l G sz out 104 [(0, .ref (G.2 10)), (1, .int v1), (3, .int v3), (4, .int v4), (5, .int v5)] [.int s0, .int s1] σ := by
  unfold b_X6_ward_104 at h
  refine jx_iadd (pc := 104) dX6_ward_104 ?_
  obtain ⟨x1, ex1, h⟩ := jx_lt_o h
  refine jx_istore_n (pc := 105) (i := 2) rfl ex1 (by decide) (lv' := [(2, .int x1), (0, .ref (G.2 10)), (1, .int v1), (3, .int v3), (4, .int v4), (5, .int v5)]) rfl dX6_ward_105 ?_
  refine jx_iload_n (pc := 106) (k0 := 3) rfl dX6_ward_106 ?_
  refine jx_aload_n (pc := 107) (k0 := 0) rfl dX6_ward_107 ?_
  refine mm_g_s (pc := 108) fl_X6_9 dX6_ward_108 ?_
  refine jx_bipush (pc := 111) (v := (49 : Int32)) (by decide) dX6_ward_111 ?_
  refine jx_iload (pc := 113) (i := 4) rfl dX6_ward_113 ?_
  refine jx_iadd (pc := 115) dX6_ward_115 ?_
  obtain ⟨g2, h⟩ := jx_gd_o h
  refine mm_l_s (pc := 116) (jx_in_o g2) rfl dX6_ward_116 ?_
  refine jx_iconst (pc := 117) (v := (1 : Int32)) (by decide) dX6_ward_117 ?_
  refine jx_icmp_ne (pc := 118) (tgt := 126) dX6_ward_118 (by decide) (fun c3 => ?_) (fun c3 => ?_)
  · have h := jx_f c3 h
    refine jx_iconst (pc := 126) (v := (0 : Int32)) (by decide) dX6_ward_126 ?_
    exact jx_sub [1, 2, 0, 4] rfl (jb_X6_ward_127 l G hG sz out k26 h26 σ v1 x1 v4 (0 : Int32) v3 h)
  · have h := jx_t c3 h
    refine jx_iload (pc := 121) (i := 5) rfl dX6_ward_121 ?_
    refine jx_goto (pc := 123) (tgt := 127) dX6_ward_123 (by decide) ?_
    exact jx_sub [1, 2, 0, 4] rfl (jb_X6_ward_127 l G hG sz out k26 h26 σ v1 x1 v4 v5 v3 h)
def b_X6_ward_82 (k26 : jx_M → Int32 → Int32 → Int32 → Int32 → Option (Int32 × jx_M)) (σ : jx_M) (v1 : Int32) (v2 : Int32) (v3 : Int32) (v4 : Int32) (s0 : Int32) : Option (Int32 × jx_M) :=
  jx_gd (jx_in ((49 : Int32) + v4) 920) (if (σ 1 ((49 : Int32) + v4).toNatClampNeg) = 0 then (b_X6_ward_104 k26 σ v1 v3 v4 s0 s0 v2) else (b_X6_ward_104 k26 σ v1 v3 v4 s0 (0 : Int32) v2))
set_option maxHeartbeats 4000000 in
set_option maxRecDepth 100000 in
theorem jb_X6_ward_82 (l : Launch) (G : jx_G) (hG : mm_ok G) (sz : Nat) (out : (Int32 × jx_M)) (k26 : jx_M → Int32 → Int32 → Int32 → Int32 → Option (Int32 × jx_M)) (h26 : ∀ (σ : jx_M) (v1 : Int32) (v2 : Int32) (v3 : Int32) (v4 : Int32), k26 σ v1 v2 v3 v4 = some out → jJ_X6_ward l G sz out 26 [(0, .ref (G.2 10)), (1, .int v1), (2, .int v2), (3, .int v3), (4, .int v4)] [] σ) (σ : jx_M) (v1 : Int32) (v2 : Int32) (v3 : Int32) (v4 : Int32) (s0 : Int32) (h : b_X6_ward_82 k26 σ v1 v2 v3 v4 s0 = some out) : jJ_X6_ward l G sz out 82 [(0, .ref (G.2 10)), (1, .int v1), (2, .int v2), (3, .int v3), (4, .int v4)] [.int s0] σ := by
  unfold b_X6_ward_82 at h
  refine jx_istore (pc := 82) (i := 5) rfl (by decide) (lv' := [(5, .int s0), (0, .ref (G.2 10)), (1, .int v1), (2, .int v2), (3, .int v3), (4, .int v4)]) rfl dX6_ward_82 ?_
  refine jx_iload_n (pc := 84) (k0 := 2) rfl dX6_ward_84 ?_
  refine jx_aload_n (pc := 85) (k0 := 0) rfl dX6_ward_85 ?_
  refine mm_g_s (pc := 86) fl_X6_9 dX6_ward_86 ?_
  refine jx_bipush (pc := 89) (v := (49 : Int32)) (by decide) dX6_ward_89 ?_
  refine jx_iload (pc := 91) (i := 4) rfl dX6_ward_91 ?_
  refine jx_iadd (pc := 93) dX6_ward_93 ?_
  obtain ⟨g1, h⟩ := jx_gd_o h
  refine mm_l_s (pc := 94) (jx_in_o g1) rfl dX6_ward_94 ?_
  refine jx_if_ne (pc := 95) (tgt := 103) dX6_ward_95 (by decide) (fun c2 => ?_) (fun c2 => ?_)
  · have h := jx_f c2 h
    refine jx_iconst (pc := 103) (v := (0 : Int32)) (by decide) dX6_ward_103 ?_
    exact jx_sub [1, 2, 4, 5, 0] rfl (jb_X6_ward_104 l G hG sz out k26 h26 σ v1 v3 v4 s0 (0 : Int32) v2 h)
  · have h := jx_t c2 h
    refine jx_iload (pc := 98) (i := 5) rfl dX6_ward_98 ?_
    refine jx_goto (pc := 100) (tgt := 104) dX6_ward_100 (by decide) ?_
    exact jx_sub [1, 2, 4, 5, 0] rfl (jb_X6_ward_104 l G hG sz out k26 h26 σ v1 v3 v4 s0 s0 v2 h)
def b_X6_ward_81 (k26 : jx_M → Int32 → Int32 → Int32 → Int32 → Option (Int32 × jx_M)) (σ : jx_M) (v1 : Int32) (v2 : Int32) (v3 : Int32) (v4 : Int32) : Option (Int32 × jx_M) :=
  (b_X6_ward_82 k26 σ v1 v2 v3 v4 (0 : Int32))
set_option maxHeartbeats 4000000 in
set_option maxRecDepth 100000 in
theorem jb_X6_ward_81 (l : Launch) (G : jx_G) (hG : mm_ok G) (sz : Nat) (out : (Int32 × jx_M)) (k26 : jx_M → Int32 → Int32 → Int32 → Int32 → Option (Int32 × jx_M)) (h26 : ∀ (σ : jx_M) (v1 : Int32) (v2 : Int32) (v3 : Int32) (v4 : Int32), k26 σ v1 v2 v3 v4 = some out → jJ_X6_ward l G sz out 26 [(0, .ref (G.2 10)), (1, .int v1), (2, .int v2), (3, .int v3), (4, .int v4)] [] σ) (σ : jx_M) (v1 : Int32) (v2 : Int32) (v3 : Int32) (v4 : Int32) (h : b_X6_ward_81 k26 σ v1 v2 v3 v4 = some out) : jJ_X6_ward l G sz out 81 [(0, .ref (G.2 10)), (1, .int v1), (2, .int v2), (3, .int v3), (4, .int v4)] [] σ := by
  unfold b_X6_ward_81 at h
  refine jx_iconst (pc := 81) (v := (0 : Int32)) (by decide) dX6_ward_81 ?_
  exact jx_sub [0, 1, 2, 3, 4] rfl (jb_X6_ward_82 l G hG sz out k26 h26 σ v1 v2 v3 v4 (0 : Int32) h)
def g_X6_ward_26 (k26 : jx_M → Int32 → Int32 → Int32 → Int32 → Option (Int32 × jx_M)) (σ : jx_M) (v1 : Int32) (v2 : Int32) (v3 : Int32) (v4 : Int32) : Option (Int32 × jx_M) :=
  if (σ 1 0) ≤ v4 then jx_bd (f_X6_greater v2 v3) (fun q2 => some (q2, σ)) else jx_gd (jx_in v4 6) (if (σ 8 v4.toNatClampNeg) = 0 then (b_X6_ward_81 k26 σ v1 v2 v3 v4) else jx_gd (jx_in v4 6) (jx_gd (jx_in ((24 : Int32) + (σ 7 v4.toNatClampNeg)) 920) (if (σ 1 ((24 : Int32) + (σ 7 v4.toNatClampNeg)).toNatClampNeg) = v1 then jx_gd (jx_in v4 6) (jx_gd (jx_in (σ 7 v4.toNatClampNeg) 7) ((b_X6_ward_82 k26 σ v1 v2 v3 v4 (σ 6 (σ 7 v4.toNatClampNeg).toNatClampNeg)))) else (b_X6_ward_81 k26 σ v1 v2 v3 v4))))
set_option maxHeartbeats 4000000 in
set_option maxRecDepth 100000 in
theorem jg_X6_ward_26 (l : Launch) (G : jx_G) (hG : mm_ok G) (sz : Nat) (out : (Int32 × jx_M)) (k26 : jx_M → Int32 → Int32 → Int32 → Int32 → Option (Int32 × jx_M)) (h26 : ∀ (σ : jx_M) (v1 : Int32) (v2 : Int32) (v3 : Int32) (v4 : Int32), k26 σ v1 v2 v3 v4 = some out → jJ_X6_ward l G sz out 26 [(0, .ref (G.2 10)), (1, .int v1), (2, .int v2), (3, .int v3), (4, .int v4)] [] σ) (σ : jx_M) (v1 : Int32) (v2 : Int32) (v3 : Int32) (v4 : Int32) (h : g_X6_ward_26 k26 σ v1 v2 v3 v4 = some out) : jJ_X6_ward l G sz out 26 [(0, .ref (G.2 10)), (1, .int v1), (2, .int v2), (3, .int v3), (4, .int v4)] [] σ := by
  unfold g_X6_ward_26 at h
  refine jx_iload (pc := 26) (i := 4) rfl dX6_ward_26 ?_
  refine jx_aload_n (pc := 28) (k0 := 0) rfl dX6_ward_28 ?_
  refine mm_g_s (pc := 29) fl_X6_9 dX6_ward_29 ?_
  refine jx_iconst (pc := 32) (v := (0 : Int32)) (by decide) dX6_ward_32 ?_
  refine mm_l_s (pc := 33) (j := 0) (jx_in_o (by decide)) (by decide) dX6_ward_33 ?_
  refine jx_icmp_ge (pc := 34) (tgt := 135) dX6_ward_34 (by decide) (fun c1 => ?_) (fun c1 => ?_)
  · have h := jx_t c1 h
    refine jx_iload_n (pc := 135) (k0 := 2) rfl dX6_ward_135 ?_
    refine jx_iload_n (pc := 136) (k0 := 3) rfl dX6_ward_136 ?_
    obtain ⟨q2, eq2, h⟩ := jx_bd_o h
    refine jx_callSi (pc := 137) [.int v2, .int v3] (fun sz' => k_X6_greater l G hG sz' σ v2 v3 q2 eq2) ks_X6_182 mm_jok rfl rfl (Nat.le_of_ble_eq_true rfl) ⟨⟨rfl, rfl⟩, ⟨Nat.le_of_ble_eq_true rfl, Nat.le_of_ble_eq_true rfl⟩, Nat.zero_le _, Nat.zero_le _⟩ dX6_ward_137 ?_
    cases h
    exact jx_iret (pc := 140) dX6_ward_140
  · have h := jx_f c1 h
    refine jx_aload_n (pc := 37) (k0 := 0) rfl dX6_ward_37 ?_
    refine mm_g_counts (pc := 38) fl_X6_34 dX6_ward_38 ?_
    refine jx_iload (pc := 41) (i := 4) rfl dX6_ward_41 ?_
    obtain ⟨g3, h⟩ := jx_gd_o h
    refine mm_l_counts (pc := 43) (jx_in_o g3) rfl dX6_ward_43 ?_
    refine jx_if_eq (pc := 44) (tgt := 81) dX6_ward_44 (by decide) (fun c4 => ?_) (fun c4 => ?_)
    · have h := jx_t c4 h
      exact jx_sub [0, 1, 2, 3, 4] rfl (jb_X6_ward_81 l G hG sz out k26 h26 σ v1 v2 v3 v4 h)
    · have h := jx_f c4 h
      refine jx_aload_n (pc := 47) (k0 := 0) rfl dX6_ward_47 ?_
      refine mm_g_s (pc := 48) fl_X6_9 dX6_ward_48 ?_
      refine jx_bipush (pc := 51) (v := (24 : Int32)) (by decide) dX6_ward_51 ?_
      refine jx_aload_n (pc := 53) (k0 := 0) rfl dX6_ward_53 ?_
      refine mm_g_lying (pc := 54) fl_X6_31 dX6_ward_54 ?_
      refine jx_iload (pc := 57) (i := 4) rfl dX6_ward_57 ?_
      obtain ⟨g5, h⟩ := jx_gd_o h
      refine mm_l_lying (pc := 59) (jx_in_o g5) rfl dX6_ward_59 ?_
      refine jx_iadd (pc := 60) dX6_ward_60 ?_
      obtain ⟨g6, h⟩ := jx_gd_o h
      refine mm_l_s (pc := 61) (jx_in_o g6) rfl dX6_ward_61 ?_
      refine jx_iload_n (pc := 62) (k0 := 1) rfl dX6_ward_62 ?_
      refine jx_icmp_ne (pc := 63) (tgt := 81) dX6_ward_63 (by decide) (fun c7 => ?_) (fun c7 => ?_)
      · have h := jx_f c7 h
        exact jx_sub [0, 1, 2, 3, 4] rfl (jb_X6_ward_81 l G hG sz out k26 h26 σ v1 v2 v3 v4 h)
      · have h := jx_t c7 h
        refine jx_aload_n (pc := 66) (k0 := 0) rfl dX6_ward_66 ?_
        refine mm_g_weights (pc := 67) fl_X6_28 dX6_ward_67 ?_
        refine jx_aload_n (pc := 70) (k0 := 0) rfl dX6_ward_70 ?_
        refine mm_g_lying (pc := 71) fl_X6_31 dX6_ward_71 ?_
        refine jx_iload (pc := 74) (i := 4) rfl dX6_ward_74 ?_
        obtain ⟨g8, h⟩ := jx_gd_o h
        refine mm_l_lying (pc := 76) (jx_in_o g8) rfl dX6_ward_76 ?_
        obtain ⟨g9, h⟩ := jx_gd_o h
        refine mm_l_weights (pc := 77) (jx_in_o g9) rfl dX6_ward_77 ?_
        refine jx_goto (pc := 78) (tgt := 82) dX6_ward_78 (by decide) ?_
        exact jx_sub [0, 1, 2, 3, 4] rfl (jb_X6_ward_82 l G hG sz out k26 h26 σ v1 v2 v3 v4 (σ 6 (σ 7 v4.toNatClampNeg).toNatClampNeg) h)
def b_X6_ward_26  : Nat → jx_M → Int32 → Int32 → Int32 → Int32 → Option (Int32 × jx_M)
  | 0, _, _, _, _, _ => none
  | n + 1, σ, v1, v2, v3, v4 => g_X6_ward_26 (b_X6_ward_26 n) σ v1 v2 v3 v4
theorem jb_X6_ward_26 (l : Launch) (G : jx_G) (hG : mm_ok G) (sz : Nat) (out : (Int32 × jx_M))  : ∀ (n : Nat) (σ : jx_M) (v1 : Int32) (v2 : Int32) (v3 : Int32) (v4 : Int32), b_X6_ward_26 n σ v1 v2 v3 v4 = some out → jJ_X6_ward l G sz out 26 [(0, .ref (G.2 10)), (1, .int v1), (2, .int v2), (3, .int v3), (4, .int v4)] [] σ := by
  intro n
  induction n with
  | zero =>
    intro σ v1 v2 v3 v4 h
    cases h
  | succ n ih =>
    intro σ v1 v2 v3 v4 h
    exact jg_X6_ward_26 l G hG sz out (b_X6_ward_26 n) ih σ v1 v2 v3 v4 h
def f_X6_ward (σ : jx_M) (a1 : Int32) : Option (Int32 × jx_M) :=
  jx_bd (f_X6_in a1 (0 : Int32) (2 : Int32)) (fun q1 => if q1 = 0 then some ((-1 : Int32), σ) else jx_bd (f_X6_looksForNight σ) (fun q3 => jx_bd (f_X6_laysAll q3) (fun q4 => (b_X6_ward_26 jx_fuel q4 a1 (0 : Int32) (0 : Int32) (0 : Int32)))))
set_option maxHeartbeats 4000000 in
set_option maxRecDepth 100000 in
theorem k_X6_ward (l : Launch) (G : jx_G) (hG : mm_ok G) (sz : Nat) (σ : jx_M) (a1 : Int32) (out : (Int32 × jx_M)) (h : f_X6_ward σ a1 = some out) : Met l yX6_ward (Cond.code yX6_ward cX6_ward 6 (some .int) :: jx_ws) rm_X6_ward (jx_Pc (mm_env G) (mm_dyn G) (mm_rg G) sz σ [.ref (G.2 10), .int a1]) (jx_Qi (mm_dyn G) out.2 out.1 (jx_A (mm_rg G) sz)) 0 0 (jx_A (mm_rg G) sz) := by
  unfold f_X6_ward at h
  refine jx_met (by decide) (Nat.le_of_ble_eq_true rfl) ?_
  refine jx_sub (lv' := [(0, .ref (G.2 10)), (1, .int a1)]) [0, 1] rfl ?_
  refine jx_iload_n (pc := 0) (k0 := 1) rfl dX6_ward_0 ?_
  refine jx_iconst (pc := 1) (v := (0 : Int32)) (by decide) dX6_ward_1 ?_
  refine jx_iconst (pc := 2) (v := (2 : Int32)) (by decide) dX6_ward_2 ?_
  obtain ⟨q1, eq1, h⟩ := jx_bd_o h
  refine jx_callSi (pc := 3) [.int a1, .int (0 : Int32), .int (2 : Int32)] (fun sz' => k_X6_in l G hG sz' σ a1 (0 : Int32) (2 : Int32) q1 eq1) ks_X6_48 mm_jok rfl rfl (Nat.le_of_ble_eq_true rfl) ⟨⟨rfl, rfl⟩, ⟨Nat.le_of_ble_eq_true rfl, Nat.le_of_ble_eq_true rfl⟩, Nat.zero_le _, Nat.zero_le _⟩ dX6_ward_3 ?_
  refine jx_if_ne (pc := 6) (tgt := 11) dX6_ward_6 (by decide) (fun c2 => ?_) (fun c2 => ?_)
  · have h := jx_f c2 h
    refine jx_aload_n (pc := 11) (k0 := 0) rfl dX6_ward_11 ?_
    obtain ⟨q3, eq3, h⟩ := jx_bd_o h
    refine jx_callVv (pc := 12) [] (fun sz' => k_X6_looksForNight l G hG sz' σ q3 eq3) kv_X6_185 mm_jok mm_rc rfl rfl (Nat.le_of_ble_eq_true rfl) ⟨⟨rfl, rfl⟩, ⟨Nat.le_of_ble_eq_true rfl, Nat.le_of_ble_eq_true rfl⟩, Nat.zero_le _, Nat.zero_le _⟩ dX6_ward_12 ?_
    refine jx_aload_n (pc := 15) (k0 := 0) rfl dX6_ward_15 ?_
    obtain ⟨q4, eq4, h⟩ := jx_bd_o h
    refine jx_callVv (pc := 16) [] (fun sz' => k_X6_laysAll l G hG sz' q3 q4 eq4) kv_X6_188 mm_jok mm_rc rfl rfl (Nat.le_of_ble_eq_true rfl) ⟨⟨rfl, rfl⟩, ⟨Nat.le_of_ble_eq_true rfl, Nat.le_of_ble_eq_true rfl⟩, Nat.zero_le _, Nat.zero_le _⟩ dX6_ward_16 ?_
    refine jx_iconst (pc := 19) (v := (0 : Int32)) (by decide) dX6_ward_19 ?_
    refine jx_istore_n (pc := 20) (i := 2) rfl rfl (by decide) (lv' := [(2, .int (0 : Int32)), (0, .ref (G.2 10)), (1, .int a1)]) rfl dX6_ward_20 ?_
    refine jx_iconst (pc := 21) (v := (0 : Int32)) (by decide) dX6_ward_21 ?_
    refine jx_istore_n (pc := 22) (i := 3) rfl rfl (by decide) (lv' := [(3, .int (0 : Int32)), (2, .int (0 : Int32)), (0, .ref (G.2 10)), (1, .int a1)]) rfl dX6_ward_22 ?_
    refine jx_iconst (pc := 23) (v := (0 : Int32)) (by decide) dX6_ward_23 ?_
    refine jx_istore (pc := 24) (i := 4) rfl (by decide) (lv' := [(4, .int (0 : Int32)), (3, .int (0 : Int32)), (2, .int (0 : Int32)), (0, .ref (G.2 10)), (1, .int a1)]) rfl dX6_ward_24 ?_
    exact jx_sub [3, 4, 2, 1, 0] rfl (jb_X6_ward_26 l G hG sz out jx_fuel q4 a1 (0 : Int32) (0 : Int32) (0 : Int32) h)
  · have h := jx_t c2 h
    refine jx_iconst (pc := 9) (v := (-1 : Int32)) (by decide) dX6_ward_9 ?_
    cases h
    exact jx_iret (pc := 10) dX6_ward_10
theorem dX6_turns_0 : decode cX6_turns 0 = .ok (.iload_n 1, 1) := by decide +kernel
theorem dX6_turns_1 : decode cX6_turns 1 = .ok (.iconst 0, 1) := by decide +kernel
theorem dX6_turns_2 : decode cX6_turns 2 = .ok (.iconst 1, 1) := by decide +kernel
theorem dX6_turns_3 : decode cX6_turns 3 = .ok (.invokestatic 48, 3) := by decide +kernel
theorem dX6_turns_6 : decode cX6_turns 6 = .ok (.ifCond .ne 5, 3) := by decide +kernel
theorem dX6_turns_9 : decode cX6_turns 9 = .ok (.iconst (-1), 1) := by decide +kernel
theorem dX6_turns_10 : decode cX6_turns 10 = .ok (.ireturn, 1) := by decide +kernel
theorem dX6_turns_11 : decode cX6_turns 11 = .ok (.aload_n 0, 1) := by decide +kernel
theorem dX6_turns_12 : decode cX6_turns 12 = .ok (.invokevirtual 185, 3) := by decide +kernel
theorem dX6_turns_15 : decode cX6_turns 15 = .ok (.aload_n 0, 1) := by decide +kernel
theorem dX6_turns_16 : decode cX6_turns 16 = .ok (.invokevirtual 188, 3) := by decide +kernel
theorem dX6_turns_19 : decode cX6_turns 19 = .ok (.aload_n 0, 1) := by decide +kernel
theorem dX6_turns_20 : decode cX6_turns 20 = .ok (.invokevirtual 191, 3) := by decide +kernel
theorem dX6_turns_23 : decode cX6_turns 23 = .ok (.istore_n 2, 1) := by decide +kernel
theorem dX6_turns_24 : decode cX6_turns 24 = .ok (.bipush (-5), 2) := by decide +kernel
theorem dX6_turns_26 : decode cX6_turns 26 = .ok (.istore_n 3, 1) := by decide +kernel
theorem dX6_turns_27 : decode cX6_turns 27 = .ok (.bipush 99, 2) := by decide +kernel
theorem dX6_turns_29 : decode cX6_turns 29 = .ok (.istore 4, 2) := by decide +kernel
theorem dX6_turns_31 : decode cX6_turns 31 = .ok (.iconst 0, 1) := by decide +kernel
theorem dX6_turns_32 : decode cX6_turns 32 = .ok (.istore 5, 2) := by decide +kernel
theorem dX6_turns_34 : decode cX6_turns 34 = .ok (.iload 5, 2) := by decide +kernel
theorem dX6_turns_36 : decode cX6_turns 36 = .ok (.iconst 1, 1) := by decide +kernel
theorem dX6_turns_37 : decode cX6_turns 37 = .ok (.aload_n 0, 1) := by decide +kernel
theorem dX6_turns_38 : decode cX6_turns 38 = .ok (.getfield 9, 3) := by decide +kernel
theorem dX6_turns_41 : decode cX6_turns 41 = .ok (.iconst 0, 1) := by decide +kernel
theorem dX6_turns_42 : decode cX6_turns 42 = .ok (.iaload, 1) := by decide +kernel
theorem dX6_turns_43 : decode cX6_turns 43 = .ok (.ishl, 1) := by decide +kernel
theorem dX6_turns_44 : decode cX6_turns 44 = .ok (.if_icmp .ge 76, 3) := by decide +kernel
theorem dX6_turns_47 : decode cX6_turns 47 = .ok (.aload_n 0, 1) := by decide +kernel
theorem dX6_turns_48 : decode cX6_turns 48 = .ok (.iload 5, 2) := by decide +kernel
theorem dX6_turns_50 : decode cX6_turns 50 = .ok (.invokevirtual 200, 3) := by decide +kernel
theorem dX6_turns_53 : decode cX6_turns 53 = .ok (.istore 6, 2) := by decide +kernel
theorem dX6_turns_55 : decode cX6_turns 55 = .ok (.iload 6, 2) := by decide +kernel
theorem dX6_turns_57 : decode cX6_turns 57 = .ok (.bipush (-5), 2) := by decide +kernel
theorem dX6_turns_59 : decode cX6_turns 59 = .ok (.if_icmp .eq 23, 3) := by decide +kernel
theorem dX6_turns_62 : decode cX6_turns 62 = .ok (.iload 6, 2) := by decide +kernel
theorem dX6_turns_64 : decode cX6_turns 64 = .ok (.iload_n 2, 1) := by decide +kernel
theorem dX6_turns_65 : decode cX6_turns 65 = .ok (.if_icmp .eq 17, 3) := by decide +kernel
theorem dX6_turns_68 : decode cX6_turns 68 = .ok (.iload 5, 2) := by decide +kernel
theorem dX6_turns_70 : decode cX6_turns 70 = .ok (.invokestatic 203, 3) := by decide +kernel
theorem dX6_turns_73 : decode cX6_turns 73 = .ok (.iload 4, 2) := by decide +kernel
theorem dX6_turns_75 : decode cX6_turns 75 = .ok (.if_icmp .ge 7, 3) := by decide +kernel
theorem dX6_turns_78 : decode cX6_turns 78 = .ok (.iconst 1, 1) := by decide +kernel
theorem dX6_turns_79 : decode cX6_turns 79 = .ok (.goto 4, 3) := by decide +kernel
theorem dX6_turns_82 : decode cX6_turns 82 = .ok (.iconst 0, 1) := by decide +kernel
theorem dX6_turns_83 : decode cX6_turns 83 = .ok (.istore 7, 2) := by decide +kernel
theorem dX6_turns_85 : decode cX6_turns 85 = .ok (.iload 7, 2) := by decide +kernel
theorem dX6_turns_87 : decode cX6_turns 87 = .ok (.ifCond .eq 8, 3) := by decide +kernel
theorem dX6_turns_90 : decode cX6_turns 90 = .ok (.iload 5, 2) := by decide +kernel
theorem dX6_turns_92 : decode cX6_turns 92 = .ok (.goto 4, 3) := by decide +kernel
theorem dX6_turns_95 : decode cX6_turns 95 = .ok (.iload_n 3, 1) := by decide +kernel
theorem dX6_turns_96 : decode cX6_turns 96 = .ok (.istore_n 3, 1) := by decide +kernel
theorem dX6_turns_97 : decode cX6_turns 97 = .ok (.iload 7, 2) := by decide +kernel
theorem dX6_turns_99 : decode cX6_turns 99 = .ok (.ifCond .eq 11, 3) := by decide +kernel
theorem dX6_turns_102 : decode cX6_turns 102 = .ok (.iload 5, 2) := by decide +kernel
theorem dX6_turns_104 : decode cX6_turns 104 = .ok (.invokestatic 203, 3) := by decide +kernel
theorem dX6_turns_107 : decode cX6_turns 107 = .ok (.goto 5, 3) := by decide +kernel
theorem dX6_turns_110 : decode cX6_turns 110 = .ok (.iload 4, 2) := by decide +kernel
theorem dX6_turns_112 : decode cX6_turns 112 = .ok (.istore 4, 2) := by decide +kernel
theorem dX6_turns_114 : decode cX6_turns 114 = .ok (.iinc 5 1, 3) := by decide +kernel
theorem dX6_turns_117 : decode cX6_turns 117 = .ok (.goto (-83), 3) := by decide +kernel
theorem dX6_turns_120 : decode cX6_turns 120 = .ok (.iload_n 3, 1) := by decide +kernel
theorem dX6_turns_121 : decode cX6_turns 121 = .ok (.bipush (-5), 2) := by decide +kernel
theorem dX6_turns_123 : decode cX6_turns 123 = .ok (.if_icmp .ne 8, 3) := by decide +kernel
theorem dX6_turns_126 : decode cX6_turns 126 = .ok (.bipush (-5), 2) := by decide +kernel
theorem dX6_turns_128 : decode cX6_turns 128 = .ok (.goto 13, 3) := by decide +kernel
theorem dX6_turns_131 : decode cX6_turns 131 = .ok (.iload_n 1, 1) := by decide +kernel
theorem dX6_turns_132 : decode cX6_turns 132 = .ok (.ifCond .ne 8, 3) := by decide +kernel
theorem dX6_turns_135 : decode cX6_turns 135 = .ok (.iload 4, 2) := by decide +kernel
theorem dX6_turns_137 : decode cX6_turns 137 = .ok (.goto 4, 3) := by decide +kernel
theorem dX6_turns_140 : decode cX6_turns 140 = .ok (.iload_n 3, 1) := by decide +kernel
theorem dX6_turns_141 : decode cX6_turns 141 = .ok (.ireturn, 1) := by decide +kernel
abbrev rm_X6_turns : Room := { frames := 5, cells := 0, slots := 0, locals := 123 }
abbrev jJ_X6_turns (l : Launch) (G : jx_G) (sz : Nat) (out : (Int32 × jx_M)) (pc : Nat) (lv : List (Nat × Value)) (st : List Value) (σ : jx_M) : Prop := jx_J l (mm_env G) (mm_dyn G) (mm_rg G) sz RX6 "turns" cX6_turns 8 (some .int) rm_X6_turns (fun below args s => MQ below (jx_Qi (mm_dyn G) out.2 out.1 (jx_A (mm_rg G) sz)) args s 0 0 (jx_A (mm_rg G) sz)) 0 0 pc lv st σ
def b_X6_turns_112 (k34 : jx_M → Int32 → Int32 → Int32 → Int32 → Int32 → Option (Int32 × jx_M)) (σ : jx_M) (v1 : Int32) (v2 : Int32) (v3 : Int32) (v5 : Int32) (s0 : Int32) : Option (Int32 × jx_M) :=
  jx_lt (v5 + (1 : Int32)) (fun x1 => (k34 σ v1 v2 v3 s0 x1))
set_option maxHeartbeats 4000000 in
set_option maxRecDepth 100000 in
theorem jb_X6_turns_112 (l : Launch) (G : jx_G) (hG : mm_ok G) (sz : Nat) (out : (Int32 × jx_M)) (k34 : jx_M → Int32 → Int32 → Int32 → Int32 → Int32 → Option (Int32 × jx_M)) (h34 : ∀ (σ : jx_M) (v1 : Int32) (v2 : Int32) (v3 : Int32) (v4 : Int32) (v5 : Int32), k34 σ v1 v2 v3 v4 v5 = some out → jJ_X6_turns l G sz out 34 [(0, .ref (G.2 10)), (1, .int v1), (2, .int v2), (3, .int v3), (4, .int v4), (5, .int v5)] [] σ) (σ : jx_M) (v1 : Int32) (v2 : Int32) (v3 : Int32) (v5 : Int32) (s0 : Int32) (h : b_X6_turns_112 k34 σ v1 v2 v3 v5 s0 = some out) : jJ_X6_turns l G sz out 112 [(0, .ref (G.2 10)), (1, .int v1), (2, .int v2), (3, .int v3), (5, .int v5)] [.int s0] σ := by
  unfold b_X6_turns_112 at h
  refine jx_istore (pc := 112) (i := 4) rfl (by decide) (lv' := [(4, .int s0), (0, .ref (G.2 10)), (1, .int v1), (2, .int v2), (3, .int v3), (5, .int v5)]) rfl dX6_turns_112 ?_
  obtain ⟨x1, ex1, h⟩ := jx_lt_o h
  refine jx_iinc (pc := 114) (i := 5) (v := v5) rfl ex1 (n := 1) (by decide) (by decide) (lv' := [(5, .int x1), (4, .int s0), (0, .ref (G.2 10)), (1, .int v1), (2, .int v2), (3, .int v3)]) rfl dX6_turns_114 ?_
  refine jx_goto (pc := 117) (tgt := 34) dX6_turns_117 (by decide) ?_
  exact jx_sub [2, 3, 4, 5, 1, 0] rfl (h34 σ v1 v2 v3 s0 x1 h)
def b_X6_turns_96 (k34 : jx_M → Int32 → Int32 → Int32 → Int32 → Int32 → Option (Int32 × jx_M)) (σ : jx_M) (v1 : Int32) (v2 : Int32) (v4 : Int32) (v5 : Int32) (v7 : Int32) (s0 : Int32) : Option (Int32 × jx_M) :=
  if v7 = 0 then (b_X6_turns_112 k34 σ v1 v2 s0 v5 v4) else jx_bd (f_X6_count1 v5) (fun q2 => (b_X6_turns_112 k34 σ v1 v2 s0 v5 q2))
set_option maxHeartbeats 4000000 in
set_option maxRecDepth 100000 in
theorem jb_X6_turns_96 (l : Launch) (G : jx_G) (hG : mm_ok G) (sz : Nat) (out : (Int32 × jx_M)) (k34 : jx_M → Int32 → Int32 → Int32 → Int32 → Int32 → Option (Int32 × jx_M)) (h34 : ∀ (σ : jx_M) (v1 : Int32) (v2 : Int32) (v3 : Int32) (v4 : Int32) (v5 : Int32), k34 σ v1 v2 v3 v4 v5 = some out → jJ_X6_turns l G sz out 34 [(0, .ref (G.2 10)), (1, .int v1), (2, .int v2), (3, .int v3), (4, .int v4), (5, .int v5)] [] σ) (σ : jx_M) (v1 : Int32) (v2 : Int32) (v4 : Int32) (v5 : Int32) (v7 : Int32) (s0 : Int32) (h : b_X6_turns_96 k34 σ v1 v2 v4 v5 v7 s0 = some out) : jJ_X6_turns l G sz out 96 [(0, .ref (G.2 10)), (1, .int v1), (2, .int v2), (4, .int v4), (5, .int v5), (7, .int v7)] [.int s0] σ := by
  unfold b_X6_turns_96 at h
  refine jx_istore_n (pc := 96) (i := 3) rfl rfl (by decide) (lv' := [(3, .int s0), (0, .ref (G.2 10)), (1, .int v1), (2, .int v2), (4, .int v4), (5, .int v5), (7, .int v7)]) rfl dX6_turns_96 ?_
  refine jx_iload (pc := 97) (i := 7) rfl dX6_turns_97 ?_
  refine jx_if_eq (pc := 99) (tgt := 110) dX6_turns_99 (by decide) (fun c1 => ?_) (fun c1 => ?_)
  · have h := jx_t c1 h
    refine jx_iload (pc := 110) (i := 4) rfl dX6_turns_110 ?_
    exact jx_sub [1, 2, 3, 0, 5] rfl (jb_X6_turns_112 l G hG sz out k34 h34 σ v1 v2 s0 v5 v4 h)
  · have h := jx_f c1 h
    refine jx_iload (pc := 102) (i := 5) rfl dX6_turns_102 ?_
    obtain ⟨q2, eq2, h⟩ := jx_bd_o h
    refine jx_callSi (pc := 104) [.int v5] (fun sz' => k_X6_count1 l G hG sz' σ v5 q2 eq2) ks_X6_203 mm_jok rfl rfl (Nat.le_of_ble_eq_true rfl) ⟨⟨rfl, rfl⟩, ⟨Nat.le_of_ble_eq_true rfl, Nat.le_of_ble_eq_true rfl⟩, Nat.zero_le _, Nat.zero_le _⟩ dX6_turns_104 ?_
    refine jx_goto (pc := 107) (tgt := 112) dX6_turns_107 (by decide) ?_
    exact jx_sub [1, 2, 3, 0, 5] rfl (jb_X6_turns_112 l G hG sz out k34 h34 σ v1 v2 s0 v5 q2 h)
def b_X6_turns_83 (k34 : jx_M → Int32 → Int32 → Int32 → Int32 → Int32 → Option (Int32 × jx_M)) (σ : jx_M) (v1 : Int32) (v2 : Int32) (v3 : Int32) (v4 : Int32) (v5 : Int32) (s0 : Int32) : Option (Int32 × jx_M) :=
  if s0 = 0 then (b_X6_turns_96 k34 σ v1 v2 v4 v5 s0 v3) else (b_X6_turns_96 k34 σ v1 v2 v4 v5 s0 v5)
set_option maxHeartbeats 4000000 in
set_option maxRecDepth 100000 in
theorem jb_X6_turns_83 (l : Launch) (G : jx_G) (hG : mm_ok G) (sz : Nat) (out : (Int32 × jx_M)) (k34 : jx_M → Int32 → Int32 → Int32 → Int32 → Int32 → Option (Int32 × jx_M)) (h34 : ∀ (σ : jx_M) (v1 : Int32) (v2 : Int32) (v3 : Int32) (v4 : Int32) (v5 : Int32), k34 σ v1 v2 v3 v4 v5 = some out → jJ_X6_turns l G sz out 34 [(0, .ref (G.2 10)), (1, .int v1), (2, .int v2), (3, .int v3), (4, .int v4), (5, .int v5)] [] σ) (σ : jx_M) (v1 : Int32) (v2 : Int32) (v3 : Int32) (v4 : Int32) (v5 : Int32) (s0 : Int32) (h : b_X6_turns_83 k34 σ v1 v2 v3 v4 v5 s0 = some out) : jJ_X6_turns l G sz out 83 [(0, .ref (G.2 10)), (1, .int v1), (2, .int v2), (3, .int v3), (4, .int v4), (5, .int v5)] [.int s0] σ := by
  unfold b_X6_turns_83 at h
  refine jx_istore (pc := 83) (i := 7) rfl (by decide) (lv' := [(7, .int s0), (0, .ref (G.2 10)), (1, .int v1), (2, .int v2), (3, .int v3), (4, .int v4), (5, .int v5)]) rfl dX6_turns_83 ?_
  refine jx_iload (pc := 85) (i := 7) rfl dX6_turns_85 ?_
  refine jx_if_eq (pc := 87) (tgt := 95) dX6_turns_87 (by decide) (fun c1 => ?_) (fun c1 => ?_)
  · have h := jx_t c1 h
    refine jx_iload_n (pc := 95) (k0 := 3) rfl dX6_turns_95 ?_
    exact jx_sub [1, 2, 3, 5, 6, 0] rfl (jb_X6_turns_96 l G hG sz out k34 h34 σ v1 v2 v4 v5 s0 v3 h)
  · have h := jx_f c1 h
    refine jx_iload (pc := 90) (i := 5) rfl dX6_turns_90 ?_
    refine jx_goto (pc := 92) (tgt := 96) dX6_turns_92 (by decide) ?_
    exact jx_sub [1, 2, 3, 5, 6, 0] rfl (jb_X6_turns_96 l G hG sz out k34 h34 σ v1 v2 v4 v5 s0 v5 h)
def b_X6_turns_82 (k34 : jx_M → Int32 → Int32 → Int32 → Int32 → Int32 → Option (Int32 × jx_M)) (σ : jx_M) (v1 : Int32) (v2 : Int32) (v3 : Int32) (v4 : Int32) (v5 : Int32) : Option (Int32 × jx_M) :=
  (b_X6_turns_83 k34 σ v1 v2 v3 v4 v5 (0 : Int32))
set_option maxHeartbeats 4000000 in
set_option maxRecDepth 100000 in
theorem jb_X6_turns_82 (l : Launch) (G : jx_G) (hG : mm_ok G) (sz : Nat) (out : (Int32 × jx_M)) (k34 : jx_M → Int32 → Int32 → Int32 → Int32 → Int32 → Option (Int32 × jx_M)) (h34 : ∀ (σ : jx_M) (v1 : Int32) (v2 : Int32) (v3 : Int32) (v4 : Int32) (v5 : Int32), k34 σ v1 v2 v3 v4 v5 = some out → jJ_X6_turns l G sz out 34 [(0, .ref (G.2 10)), (1, .int v1), (2, .int v2), (3, .int v3), (4, .int v4), (5, .int v5)] [] σ) (σ : jx_M) (v1 : Int32) (v2 : Int32) (v3 : Int32) (v4 : Int32) (v5 : Int32) (h : b_X6_turns_82 k34 σ v1 v2 v3 v4 v5 = some out) : jJ_X6_turns l G sz out 82 [(0, .ref (G.2 10)), (1, .int v1), (2, .int v2), (3, .int v3), (4, .int v4), (5, .int v5)] [] σ := by
  unfold b_X6_turns_82 at h
  refine jx_iconst (pc := 82) (v := (0 : Int32)) (by decide) dX6_turns_82 ?_
  exact jx_sub [0, 1, 2, 3, 4, 5] rfl (jb_X6_turns_83 l G hG sz out k34 h34 σ v1 v2 v3 v4 v5 (0 : Int32) h)
def g_X6_turns_34 (k34 : jx_M → Int32 → Int32 → Int32 → Int32 → Int32 → Option (Int32 × jx_M)) (σ : jx_M) (v1 : Int32) (v2 : Int32) (v3 : Int32) (v4 : Int32) (v5 : Int32) : Option (Int32 × jx_M) :=
  if ((1 : Int32) <<< ((σ 1 0) &&& 31)) ≤ v5 then if v3 = (-5 : Int32) then some ((-5 : Int32), σ) else if v1 = 0 then some (v4, σ) else some (v3, σ) else jx_bd (f_X6_mayorBy σ v5) (fun q4 => if q4.1 = (-5 : Int32) then (b_X6_turns_82 k34 q4.2 v1 v2 v3 v4 v5) else if q4.1 = v2 then (b_X6_turns_82 k34 q4.2 v1 v2 v3 v4 v5) else jx_bd (f_X6_count1 v5) (fun q7 => if v4 ≤ q7 then (b_X6_turns_82 k34 q4.2 v1 v2 v3 v4 v5) else (b_X6_turns_83 k34 q4.2 v1 v2 v3 v4 v5 (1 : Int32))))
set_option maxHeartbeats 4000000 in
set_option maxRecDepth 100000 in
theorem jg_X6_turns_34 (l : Launch) (G : jx_G) (hG : mm_ok G) (sz : Nat) (out : (Int32 × jx_M)) (k34 : jx_M → Int32 → Int32 → Int32 → Int32 → Int32 → Option (Int32 × jx_M)) (h34 : ∀ (σ : jx_M) (v1 : Int32) (v2 : Int32) (v3 : Int32) (v4 : Int32) (v5 : Int32), k34 σ v1 v2 v3 v4 v5 = some out → jJ_X6_turns l G sz out 34 [(0, .ref (G.2 10)), (1, .int v1), (2, .int v2), (3, .int v3), (4, .int v4), (5, .int v5)] [] σ) (σ : jx_M) (v1 : Int32) (v2 : Int32) (v3 : Int32) (v4 : Int32) (v5 : Int32) (h : g_X6_turns_34 k34 σ v1 v2 v3 v4 v5 = some out) : jJ_X6_turns l G sz out 34 [(0, .ref (G.2 10)), (1, .int v1), (2, .int v2), (3, .int v3), (4, .int v4), (5, .int v5)] [] σ := by
  unfold g_X6_turns_34 at h
  refine jx_iload (pc := 34) (i := 5) rfl dX6_turns_34 ?_
  refine jx_iconst (pc := 36) (v := (1 : Int32)) (by decide) dX6_turns_36 ?_
  refine jx_aload_n (pc := 37) (k0 := 0) rfl dX6_turns_37 ?_
  refine mm_g_s (pc := 38) fl_X6_9 dX6_turns_38 ?_
  refine jx_iconst (pc := 41) (v := (0 : Int32)) (by decide) dX6_turns_41 ?_
  refine mm_l_s (pc := 42) (j := 0) (jx_in_o (by decide)) (by decide) dX6_turns_42 ?_
  refine jx_ishl (pc := 43) dX6_turns_43 ?_
  refine jx_icmp_ge (pc := 44) (tgt := 120) dX6_turns_44 (by decide) (fun c1 => ?_) (fun c1 => ?_)
  · have h := jx_t c1 h
    refine jx_iload_n (pc := 120) (k0 := 3) rfl dX6_turns_120 ?_
    refine jx_bipush (pc := 121) (v := (-5 : Int32)) (by decide) dX6_turns_121 ?_
    refine jx_icmp_ne (pc := 123) (tgt := 131) dX6_turns_123 (by decide) (fun c2 => ?_) (fun c2 => ?_)
    · have h := jx_f c2 h
      refine jx_iload_n (pc := 131) (k0 := 1) rfl dX6_turns_131 ?_
      refine jx_if_ne (pc := 132) (tgt := 140) dX6_turns_132 (by decide) (fun c3 => ?_) (fun c3 => ?_)
      · have h := jx_f c3 h
        refine jx_iload_n (pc := 140) (k0 := 3) rfl dX6_turns_140 ?_
        cases h
        exact jx_iret (pc := 141) dX6_turns_141
      · have h := jx_t c3 h
        refine jx_iload (pc := 135) (i := 4) rfl dX6_turns_135 ?_
        refine jx_goto (pc := 137) (tgt := 141) dX6_turns_137 (by decide) ?_
        cases h
        exact jx_iret (pc := 141) dX6_turns_141
    · have h := jx_t c2 h
      refine jx_bipush (pc := 126) (v := (-5 : Int32)) (by decide) dX6_turns_126 ?_
      refine jx_goto (pc := 128) (tgt := 141) dX6_turns_128 (by decide) ?_
      cases h
      exact jx_iret (pc := 141) dX6_turns_141
  · have h := jx_f c1 h
    refine jx_aload_n (pc := 47) (k0 := 0) rfl dX6_turns_47 ?_
    refine jx_iload (pc := 48) (i := 5) rfl dX6_turns_48 ?_
    obtain ⟨q4, eq4, h⟩ := jx_bd_o h
    refine jx_callVi (pc := 50) [.int v5] (fun sz' => k_X6_mayorBy l G hG sz' σ v5 q4 eq4) kv_X6_200 mm_jok mm_rc rfl rfl (Nat.le_of_ble_eq_true rfl) ⟨⟨rfl, rfl⟩, ⟨Nat.le_of_ble_eq_true rfl, Nat.le_of_ble_eq_true rfl⟩, Nat.zero_le _, Nat.zero_le _⟩ dX6_turns_50 ?_
    refine jx_istore (pc := 53) (i := 6) rfl (by decide) (lv' := [(6, .int q4.1), (0, .ref (G.2 10)), (1, .int v1), (2, .int v2), (3, .int v3), (4, .int v4), (5, .int v5)]) rfl dX6_turns_53 ?_
    refine jx_iload (pc := 55) (i := 6) rfl dX6_turns_55 ?_
    refine jx_bipush (pc := 57) (v := (-5 : Int32)) (by decide) dX6_turns_57 ?_
    refine jx_icmp_eq (pc := 59) (tgt := 82) dX6_turns_59 (by decide) (fun c5 => ?_) (fun c5 => ?_)
    · have h := jx_t c5 h
      exact jx_sub [1, 2, 3, 4, 5, 6] rfl (jb_X6_turns_82 l G hG sz out k34 h34 q4.2 v1 v2 v3 v4 v5 h)
    · have h := jx_f c5 h
      refine jx_iload (pc := 62) (i := 6) rfl dX6_turns_62 ?_
      refine jx_iload_n (pc := 64) (k0 := 2) rfl dX6_turns_64 ?_
      refine jx_icmp_eq (pc := 65) (tgt := 82) dX6_turns_65 (by decide) (fun c6 => ?_) (fun c6 => ?_)
      · have h := jx_t c6 h
        exact jx_sub [1, 2, 3, 4, 5, 6] rfl (jb_X6_turns_82 l G hG sz out k34 h34 q4.2 v1 v2 v3 v4 v5 h)
      · have h := jx_f c6 h
        refine jx_iload (pc := 68) (i := 5) rfl dX6_turns_68 ?_
        obtain ⟨q7, eq7, h⟩ := jx_bd_o h
        refine jx_callSi (pc := 70) [.int v5] (fun sz' => k_X6_count1 l G hG sz' q4.2 v5 q7 eq7) ks_X6_203 mm_jok rfl rfl (Nat.le_of_ble_eq_true rfl) ⟨⟨rfl, rfl⟩, ⟨Nat.le_of_ble_eq_true rfl, Nat.le_of_ble_eq_true rfl⟩, Nat.zero_le _, Nat.zero_le _⟩ dX6_turns_70 ?_
        refine jx_iload (pc := 73) (i := 4) rfl dX6_turns_73 ?_
        refine jx_icmp_ge (pc := 75) (tgt := 82) dX6_turns_75 (by decide) (fun c8 => ?_) (fun c8 => ?_)
        · have h := jx_t c8 h
          exact jx_sub [1, 2, 3, 4, 5, 6] rfl (jb_X6_turns_82 l G hG sz out k34 h34 q4.2 v1 v2 v3 v4 v5 h)
        · have h := jx_f c8 h
          refine jx_iconst (pc := 78) (v := (1 : Int32)) (by decide) dX6_turns_78 ?_
          refine jx_goto (pc := 79) (tgt := 83) dX6_turns_79 (by decide) ?_
          exact jx_sub [1, 2, 3, 4, 5, 6] rfl (jb_X6_turns_83 l G hG sz out k34 h34 q4.2 v1 v2 v3 v4 v5 (1 : Int32) h)
def b_X6_turns_34  : Nat → jx_M → Int32 → Int32 → Int32 → Int32 → Int32 → Option (Int32 × jx_M)
  | 0, _, _, _, _, _, _ => none
  | n + 1, σ, v1, v2, v3, v4, v5 => g_X6_turns_34 (b_X6_turns_34 n) σ v1 v2 v3 v4 v5
theorem jb_X6_turns_34 (l : Launch) (G : jx_G) (hG : mm_ok G) (sz : Nat) (out : (Int32 × jx_M))  : ∀ (n : Nat) (σ : jx_M) (v1 : Int32) (v2 : Int32) (v3 : Int32) (v4 : Int32) (v5 : Int32), b_X6_turns_34 n σ v1 v2 v3 v4 v5 = some out → jJ_X6_turns l G sz out 34 [(0, .ref (G.2 10)), (1, .int v1), (2, .int v2), (3, .int v3), (4, .int v4), (5, .int v5)] [] σ := by
  intro n
  induction n with
  | zero =>
    intro σ v1 v2 v3 v4 v5 h
    cases h
  | succ n ih =>
    intro σ v1 v2 v3 v4 v5 h
    exact jg_X6_turns_34 l G hG sz out (b_X6_turns_34 n) ih σ v1 v2 v3 v4 v5 h
def f_X6_turns (σ : jx_M) (a1 : Int32) : Option (Int32 × jx_M) :=
  jx_bd (f_X6_in a1 (0 : Int32) (1 : Int32)) (fun q1 => if q1 = 0 then some ((-1 : Int32), σ) else jx_bd (f_X6_looksForNight σ) (fun q3 => jx_bd (f_X6_laysAll q3) (fun q4 => jx_bd (f_X6_mayor q4) (fun q5 => (b_X6_turns_34 jx_fuel q4 a1 q5 (-5 : Int32) (99 : Int32) (0 : Int32))))))
set_option maxHeartbeats 4000000 in
set_option maxRecDepth 100000 in
theorem k_X6_turns (l : Launch) (G : jx_G) (hG : mm_ok G) (sz : Nat) (σ : jx_M) (a1 : Int32) (out : (Int32 × jx_M)) (h : f_X6_turns σ a1 = some out) : Met l yX6_turns (Cond.code yX6_turns cX6_turns 8 (some .int) :: jx_ws) rm_X6_turns (jx_Pc (mm_env G) (mm_dyn G) (mm_rg G) sz σ [.ref (G.2 10), .int a1]) (jx_Qi (mm_dyn G) out.2 out.1 (jx_A (mm_rg G) sz)) 0 0 (jx_A (mm_rg G) sz) := by
  unfold f_X6_turns at h
  refine jx_met (by decide) (Nat.le_of_ble_eq_true rfl) ?_
  refine jx_sub (lv' := [(0, .ref (G.2 10)), (1, .int a1)]) [0, 1] rfl ?_
  refine jx_iload_n (pc := 0) (k0 := 1) rfl dX6_turns_0 ?_
  refine jx_iconst (pc := 1) (v := (0 : Int32)) (by decide) dX6_turns_1 ?_
  refine jx_iconst (pc := 2) (v := (1 : Int32)) (by decide) dX6_turns_2 ?_
  obtain ⟨q1, eq1, h⟩ := jx_bd_o h
  refine jx_callSi (pc := 3) [.int a1, .int (0 : Int32), .int (1 : Int32)] (fun sz' => k_X6_in l G hG sz' σ a1 (0 : Int32) (1 : Int32) q1 eq1) ks_X6_48 mm_jok rfl rfl (Nat.le_of_ble_eq_true rfl) ⟨⟨rfl, rfl⟩, ⟨Nat.le_of_ble_eq_true rfl, Nat.le_of_ble_eq_true rfl⟩, Nat.zero_le _, Nat.zero_le _⟩ dX6_turns_3 ?_
  refine jx_if_ne (pc := 6) (tgt := 11) dX6_turns_6 (by decide) (fun c2 => ?_) (fun c2 => ?_)
  · have h := jx_f c2 h
    refine jx_aload_n (pc := 11) (k0 := 0) rfl dX6_turns_11 ?_
    obtain ⟨q3, eq3, h⟩ := jx_bd_o h
    refine jx_callVv (pc := 12) [] (fun sz' => k_X6_looksForNight l G hG sz' σ q3 eq3) kv_X6_185 mm_jok mm_rc rfl rfl (Nat.le_of_ble_eq_true rfl) ⟨⟨rfl, rfl⟩, ⟨Nat.le_of_ble_eq_true rfl, Nat.le_of_ble_eq_true rfl⟩, Nat.zero_le _, Nat.zero_le _⟩ dX6_turns_12 ?_
    refine jx_aload_n (pc := 15) (k0 := 0) rfl dX6_turns_15 ?_
    obtain ⟨q4, eq4, h⟩ := jx_bd_o h
    refine jx_callVv (pc := 16) [] (fun sz' => k_X6_laysAll l G hG sz' q3 q4 eq4) kv_X6_188 mm_jok mm_rc rfl rfl (Nat.le_of_ble_eq_true rfl) ⟨⟨rfl, rfl⟩, ⟨Nat.le_of_ble_eq_true rfl, Nat.le_of_ble_eq_true rfl⟩, Nat.zero_le _, Nat.zero_le _⟩ dX6_turns_16 ?_
    refine jx_aload_n (pc := 19) (k0 := 0) rfl dX6_turns_19 ?_
    obtain ⟨q5, eq5, h⟩ := jx_bd_o h
    refine jx_callVi (pc := 20) [] (fun sz' => k_X6_mayor l G hG sz' q4 q5 eq5) kv_X6_191 mm_jok mm_rc rfl rfl (Nat.le_of_ble_eq_true rfl) ⟨⟨rfl, rfl⟩, ⟨Nat.le_of_ble_eq_true rfl, Nat.le_of_ble_eq_true rfl⟩, Nat.zero_le _, Nat.zero_le _⟩ dX6_turns_20 ?_
    refine jx_istore_n (pc := 23) (i := 2) rfl rfl (by decide) (lv' := [(2, .int q5), (0, .ref (G.2 10)), (1, .int a1)]) rfl dX6_turns_23 ?_
    refine jx_bipush (pc := 24) (v := (-5 : Int32)) (by decide) dX6_turns_24 ?_
    refine jx_istore_n (pc := 26) (i := 3) rfl rfl (by decide) (lv' := [(3, .int (-5 : Int32)), (2, .int q5), (0, .ref (G.2 10)), (1, .int a1)]) rfl dX6_turns_26 ?_
    refine jx_bipush (pc := 27) (v := (99 : Int32)) (by decide) dX6_turns_27 ?_
    refine jx_istore (pc := 29) (i := 4) rfl (by decide) (lv' := [(4, .int (99 : Int32)), (3, .int (-5 : Int32)), (2, .int q5), (0, .ref (G.2 10)), (1, .int a1)]) rfl dX6_turns_29 ?_
    refine jx_iconst (pc := 31) (v := (0 : Int32)) (by decide) dX6_turns_31 ?_
    refine jx_istore (pc := 32) (i := 5) rfl (by decide) (lv' := [(5, .int (0 : Int32)), (4, .int (99 : Int32)), (3, .int (-5 : Int32)), (2, .int q5), (0, .ref (G.2 10)), (1, .int a1)]) rfl dX6_turns_32 ?_
    exact jx_sub [4, 5, 3, 2, 1, 0] rfl (jb_X6_turns_34 l G hG sz out jx_fuel q4 a1 q5 (-5 : Int32) (99 : Int32) (0 : Int32) h)
  · have h := jx_t c2 h
    refine jx_iconst (pc := 9) (v := (-1 : Int32)) (by decide) dX6_turns_9 ?_
    cases h
    exact jx_iret (pc := 10) dX6_turns_10
theorem dX6_sways_0 : decode cX6_sways 0 = .ok (.aload_n 0, 1) := by decide +kernel
theorem dX6_sways_1 : decode cX6_sways 1 = .ok (.iload_n 1, 1) := by decide +kernel
theorem dX6_sways_2 : decode cX6_sways 2 = .ok (.invokevirtual 163, 3) := by decide +kernel
theorem dX6_sways_5 : decode cX6_sways 5 = .ok (.ifCond .eq 12, 3) := by decide +kernel
theorem dX6_sways_8 : decode cX6_sways 8 = .ok (.iload_n 2, 1) := by decide +kernel
theorem dX6_sways_9 : decode cX6_sways 9 = .ok (.iconst 0, 1) := by decide +kernel
theorem dX6_sways_10 : decode cX6_sways 10 = .ok (.iconst 1, 1) := by decide +kernel
theorem dX6_sways_11 : decode cX6_sways 11 = .ok (.invokestatic 48, 3) := by decide +kernel
theorem dX6_sways_14 : decode cX6_sways 14 = .ok (.ifCond .ne 7, 3) := by decide +kernel
theorem dX6_sways_17 : decode cX6_sways 17 = .ok (.ldc2_w 206, 3) := by decide +kernel
theorem dX6_sways_20 : decode cX6_sways 20 = .ok (.lreturn, 1) := by decide +kernel
theorem dX6_sways_21 : decode cX6_sways 21 = .ok (.aload_n 0, 1) := by decide +kernel
theorem dX6_sways_22 : decode cX6_sways 22 = .ok (.invokevirtual 185, 3) := by decide +kernel
theorem dX6_sways_25 : decode cX6_sways 25 = .ok (.aload_n 0, 1) := by decide +kernel
theorem dX6_sways_26 : decode cX6_sways 26 = .ok (.invokevirtual 188, 3) := by decide +kernel
theorem dX6_sways_29 : decode cX6_sways 29 = .ok (.lconst 0, 1) := by decide +kernel
theorem dX6_sways_30 : decode cX6_sways 30 = .ok (.lstore_n 3, 1) := by decide +kernel
theorem dX6_sways_31 : decode cX6_sways 31 = .ok (.iconst 0, 1) := by decide +kernel
theorem dX6_sways_32 : decode cX6_sways 32 = .ok (.istore 5, 2) := by decide +kernel
theorem dX6_sways_34 : decode cX6_sways 34 = .ok (.iload 5, 2) := by decide +kernel
theorem dX6_sways_36 : decode cX6_sways 36 = .ok (.iconst 1, 1) := by decide +kernel
theorem dX6_sways_37 : decode cX6_sways 37 = .ok (.aload_n 0, 1) := by decide +kernel
theorem dX6_sways_38 : decode cX6_sways 38 = .ok (.getfield 9, 3) := by decide +kernel
theorem dX6_sways_41 : decode cX6_sways 41 = .ok (.iconst 0, 1) := by decide +kernel
theorem dX6_sways_42 : decode cX6_sways 42 = .ok (.iaload, 1) := by decide +kernel
theorem dX6_sways_43 : decode cX6_sways 43 = .ok (.ishl, 1) := by decide +kernel
theorem dX6_sways_44 : decode cX6_sways 44 = .ok (.if_icmp .ge 36, 3) := by decide +kernel
theorem dX6_sways_47 : decode cX6_sways 47 = .ok (.lload_n 3, 1) := by decide +kernel
theorem dX6_sways_48 : decode cX6_sways 48 = .ok (.aload_n 0, 1) := by decide +kernel
theorem dX6_sways_49 : decode cX6_sways 49 = .ok (.iload 5, 2) := by decide +kernel
theorem dX6_sways_51 : decode cX6_sways 51 = .ok (.invokevirtual 200, 3) := by decide +kernel
theorem dX6_sways_54 : decode cX6_sways 54 = .ok (.aload_n 0, 1) := by decide +kernel
theorem dX6_sways_55 : decode cX6_sways 55 = .ok (.iload 5, 2) := by decide +kernel
theorem dX6_sways_57 : decode cX6_sways 57 = .ok (.iconst 1, 1) := by decide +kernel
theorem dX6_sways_58 : decode cX6_sways 58 = .ok (.iload_n 1, 1) := by decide +kernel
theorem dX6_sways_59 : decode cX6_sways 59 = .ok (.ishl, 1) := by decide +kernel
theorem dX6_sways_60 : decode cX6_sways 60 = .ok (.ixor, 1) := by decide +kernel
theorem dX6_sways_61 : decode cX6_sways 61 = .ok (.invokevirtual 200, 3) := by decide +kernel
theorem dX6_sways_64 : decode cX6_sways 64 = .ok (.if_icmp .eq 7, 3) := by decide +kernel
theorem dX6_sways_67 : decode cX6_sways 67 = .ok (.lconst 1, 1) := by decide +kernel
theorem dX6_sways_68 : decode cX6_sways 68 = .ok (.goto 4, 3) := by decide +kernel
theorem dX6_sways_71 : decode cX6_sways 71 = .ok (.lconst 0, 1) := by decide +kernel
theorem dX6_sways_72 : decode cX6_sways 72 = .ok (.ladd, 1) := by decide +kernel
theorem dX6_sways_73 : decode cX6_sways 73 = .ok (.lstore_n 3, 1) := by decide +kernel
theorem dX6_sways_74 : decode cX6_sways 74 = .ok (.iinc 5 1, 3) := by decide +kernel
theorem dX6_sways_77 : decode cX6_sways 77 = .ok (.goto (-43), 3) := by decide +kernel
theorem dX6_sways_80 : decode cX6_sways 80 = .ok (.lload_n 3, 1) := by decide +kernel
theorem dX6_sways_81 : decode cX6_sways 81 = .ok (.lconst 1, 1) := by decide +kernel
theorem dX6_sways_82 : decode cX6_sways 82 = .ok (.aload_n 0, 1) := by decide +kernel
theorem dX6_sways_83 : decode cX6_sways 83 = .ok (.getfield 9, 3) := by decide +kernel
theorem dX6_sways_86 : decode cX6_sways 86 = .ok (.iconst 0, 1) := by decide +kernel
theorem dX6_sways_87 : decode cX6_sways 87 = .ok (.iaload, 1) := by decide +kernel
theorem dX6_sways_88 : decode cX6_sways 88 = .ok (.lshl, 1) := by decide +kernel
theorem dX6_sways_89 : decode cX6_sways 89 = .ok (.iload_n 2, 1) := by decide +kernel
theorem dX6_sways_90 : decode cX6_sways 90 = .ok (.invokestatic 208, 3) := by decide +kernel
theorem dX6_sways_93 : decode cX6_sways 93 = .ok (.lreturn, 1) := by decide +kernel
abbrev rm_X6_sways : Room := { frames := 5, cells := 0, slots := 0, locals := 123 }
abbrev jJ_X6_sways (l : Launch) (G : jx_G) (sz : Nat) (out : (Int64 × jx_M)) (pc : Nat) (lv : List (Nat × Value)) (st : List Value) (σ : jx_M) : Prop := jx_J l (mm_env G) (mm_dyn G) (mm_rg G) sz RX6 "sways" cX6_sways 6 (some .long) rm_X6_sways (fun below args s => MQ below (jx_Ql (mm_dyn G) out.2 out.1 (jx_A (mm_rg G) sz)) args s 0 0 (jx_A (mm_rg G) sz)) 0 0 pc lv st σ
def b_X6_sways_72 (k34 : jx_M → Int32 → Int32 → Int64 → Int32 → Option (Int64 × jx_M)) (σ : jx_M) (v1 : Int32) (v2 : Int32) (v5 : Int32) (s0 : Int64) (s1 : Int64) : Option (Int64 × jx_M) :=
  jx_lt ((s1 + s0)) (fun x1 => jx_lt (v5 + (1 : Int32)) (fun x2 => (k34 σ v1 v2 x1 x2)))
set_option maxHeartbeats 4000000 in
set_option maxRecDepth 100000 in
theorem jb_X6_sways_72 (l : Launch) (G : jx_G) (hG : mm_ok G) (sz : Nat) (out : (Int64 × jx_M)) (k34 : jx_M → Int32 → Int32 → Int64 → Int32 → Option (Int64 × jx_M)) (h34 : ∀ (σ : jx_M) (v1 : Int32) (v2 : Int32) (v3 : Int64) (v5 : Int32), k34 σ v1 v2 v3 v5 = some out → jJ_X6_sways l G sz out 34 [(0, .ref (G.2 10)), (1, .int v1), (2, .int v2), (3, .long v3), (5, .int v5)] [] σ) (σ : jx_M) (v1 : Int32) (v2 : Int32) (v5 : Int32) (s0 : Int64) (s1 : Int64) (h : b_X6_sways_72 k34 σ v1 v2 v5 s0 s1 = some out) : jJ_X6_sways l G sz out 72 [(0, .ref (G.2 10)), (1, .int v1), (2, .int v2), (5, .int v5)] [.long s0, .long s1] σ := by
  unfold b_X6_sways_72 at h
  refine jx_ladd (pc := 72) dX6_sways_72 ?_
  obtain ⟨x1, ex1, h⟩ := jx_lt_o h
  refine jx_lstore_n (pc := 73) (i := 3) rfl ex1 (by decide) (lv' := [(3, .long x1), (0, .ref (G.2 10)), (1, .int v1), (2, .int v2), (5, .int v5)]) rfl dX6_sways_73 ?_
  obtain ⟨x2, ex2, h⟩ := jx_lt_o h
  refine jx_iinc (pc := 74) (i := 5) (v := v5) rfl ex2 (n := 1) (by decide) (by decide) (lv' := [(5, .int x2), (3, .long x1), (0, .ref (G.2 10)), (1, .int v1), (2, .int v2)]) rfl dX6_sways_74 ?_
  refine jx_goto (pc := 77) (tgt := 34) dX6_sways_77 (by decide) ?_
  exact jx_sub [2, 3, 4, 1, 0] rfl (h34 σ v1 v2 x1 x2 h)
def g_X6_sways_34 (k34 : jx_M → Int32 → Int32 → Int64 → Int32 → Option (Int64 × jx_M)) (σ : jx_M) (v1 : Int32) (v2 : Int32) (v3 : Int64) (v5 : Int32) : Option (Int64 × jx_M) :=
  if ((1 : Int32) <<< ((σ 1 0) &&& 31)) ≤ v5 then jx_bd (f_X6_lowest v3 ((1 : Int64) <<< ((σ 1 0).toInt64 &&& 63)) v2) (fun q2 => some (q2, σ)) else jx_bd (f_X6_mayorBy σ v5) (fun q3 => jx_bd (f_X6_mayorBy q3.2 (v5 ^^^ ((1 : Int32) <<< (v1 &&& 31)))) (fun q4 => if q3.1 = q4.1 then (b_X6_sways_72 k34 q4.2 v1 v2 v5 (0 : Int64) v3) else (b_X6_sways_72 k34 q4.2 v1 v2 v5 (1 : Int64) v3)))
set_option maxHeartbeats 4000000 in
set_option maxRecDepth 100000 in
theorem jg_X6_sways_34 (l : Launch) (G : jx_G) (hG : mm_ok G) (sz : Nat) (out : (Int64 × jx_M)) (k34 : jx_M → Int32 → Int32 → Int64 → Int32 → Option (Int64 × jx_M)) (h34 : ∀ (σ : jx_M) (v1 : Int32) (v2 : Int32) (v3 : Int64) (v5 : Int32), k34 σ v1 v2 v3 v5 = some out → jJ_X6_sways l G sz out 34 [(0, .ref (G.2 10)), (1, .int v1), (2, .int v2), (3, .long v3), (5, .int v5)] [] σ) (σ : jx_M) (v1 : Int32) (v2 : Int32) (v3 : Int64) (v5 : Int32) (h : g_X6_sways_34 k34 σ v1 v2 v3 v5 = some out) : jJ_X6_sways l G sz out 34 [(0, .ref (G.2 10)), (1, .int v1), (2, .int v2), (3, .long v3), (5, .int v5)] [] σ := by
  unfold g_X6_sways_34 at h
  refine jx_iload (pc := 34) (i := 5) rfl dX6_sways_34 ?_
  refine jx_iconst (pc := 36) (v := (1 : Int32)) (by decide) dX6_sways_36 ?_
  refine jx_aload_n (pc := 37) (k0 := 0) rfl dX6_sways_37 ?_
  refine mm_g_s (pc := 38) fl_X6_9 dX6_sways_38 ?_
  refine jx_iconst (pc := 41) (v := (0 : Int32)) (by decide) dX6_sways_41 ?_
  refine mm_l_s (pc := 42) (j := 0) (jx_in_o (by decide)) (by decide) dX6_sways_42 ?_
  refine jx_ishl (pc := 43) dX6_sways_43 ?_
  refine jx_icmp_ge (pc := 44) (tgt := 80) dX6_sways_44 (by decide) (fun c1 => ?_) (fun c1 => ?_)
  · have h := jx_t c1 h
    refine jx_lload_n (pc := 80) (k0 := 3) rfl dX6_sways_80 ?_
    refine jx_lconst (pc := 81) (v := (1 : Int64)) (by decide) dX6_sways_81 ?_
    refine jx_aload_n (pc := 82) (k0 := 0) rfl dX6_sways_82 ?_
    refine mm_g_s (pc := 83) fl_X6_9 dX6_sways_83 ?_
    refine jx_iconst (pc := 86) (v := (0 : Int32)) (by decide) dX6_sways_86 ?_
    refine mm_l_s (pc := 87) (j := 0) (jx_in_o (by decide)) (by decide) dX6_sways_87 ?_
    refine jx_lshl (pc := 88) dX6_sways_88 ?_
    refine jx_iload_n (pc := 89) (k0 := 2) rfl dX6_sways_89 ?_
    obtain ⟨q2, eq2, h⟩ := jx_bd_o h
    refine jx_callSl (pc := 90) [.long v3, .long ((1 : Int64) <<< ((σ 1 0).toInt64 &&& 63)), .int v2] (fun sz' => k_X6_lowest l G hG sz' σ v3 ((1 : Int64) <<< ((σ 1 0).toInt64 &&& 63)) v2 q2 eq2) ks_X6_208 mm_jok rfl rfl (Nat.le_of_ble_eq_true rfl) ⟨⟨rfl, rfl⟩, ⟨Nat.le_of_ble_eq_true rfl, Nat.le_of_ble_eq_true rfl⟩, Nat.zero_le _, Nat.zero_le _⟩ dX6_sways_90 ?_
    cases h
    exact jx_lret (pc := 93) dX6_sways_93
  · have h := jx_f c1 h
    refine jx_lload_n (pc := 47) (k0 := 3) rfl dX6_sways_47 ?_
    refine jx_aload_n (pc := 48) (k0 := 0) rfl dX6_sways_48 ?_
    refine jx_iload (pc := 49) (i := 5) rfl dX6_sways_49 ?_
    obtain ⟨q3, eq3, h⟩ := jx_bd_o h
    refine jx_callVi (pc := 51) [.int v5] (fun sz' => k_X6_mayorBy l G hG sz' σ v5 q3 eq3) kv_X6_200 mm_jok mm_rc rfl rfl (Nat.le_of_ble_eq_true rfl) ⟨⟨rfl, rfl⟩, ⟨Nat.le_of_ble_eq_true rfl, Nat.le_of_ble_eq_true rfl⟩, Nat.zero_le _, Nat.zero_le _⟩ dX6_sways_51 ?_
    refine jx_aload_n (pc := 54) (k0 := 0) rfl dX6_sways_54 ?_
    refine jx_iload (pc := 55) (i := 5) rfl dX6_sways_55 ?_
    refine jx_iconst (pc := 57) (v := (1 : Int32)) (by decide) dX6_sways_57 ?_
    refine jx_iload_n (pc := 58) (k0 := 1) rfl dX6_sways_58 ?_
    refine jx_ishl (pc := 59) dX6_sways_59 ?_
    refine jx_ixor (pc := 60) dX6_sways_60 ?_
    obtain ⟨q4, eq4, h⟩ := jx_bd_o h
    refine jx_callVi (pc := 61) [.int (v5 ^^^ ((1 : Int32) <<< (v1 &&& 31)))] (fun sz' => k_X6_mayorBy l G hG sz' q3.2 (v5 ^^^ ((1 : Int32) <<< (v1 &&& 31))) q4 eq4) kv_X6_200 mm_jok mm_rc rfl rfl (Nat.le_of_ble_eq_true rfl) ⟨⟨rfl, rfl⟩, ⟨Nat.le_of_ble_eq_true rfl, Nat.le_of_ble_eq_true rfl⟩, Nat.zero_le _, Nat.zero_le _⟩ dX6_sways_61 ?_
    refine jx_icmp_eq (pc := 64) (tgt := 71) dX6_sways_64 (by decide) (fun c5 => ?_) (fun c5 => ?_)
    · have h := jx_t c5 h
      refine jx_lconst (pc := 71) (v := (0 : Int64)) (by decide) dX6_sways_71 ?_
      exact jx_sub [0, 1, 2, 4] rfl (jb_X6_sways_72 l G hG sz out k34 h34 q4.2 v1 v2 v5 (0 : Int64) v3 h)
    · have h := jx_f c5 h
      refine jx_lconst (pc := 67) (v := (1 : Int64)) (by decide) dX6_sways_67 ?_
      refine jx_goto (pc := 68) (tgt := 72) dX6_sways_68 (by decide) ?_
      exact jx_sub [0, 1, 2, 4] rfl (jb_X6_sways_72 l G hG sz out k34 h34 q4.2 v1 v2 v5 (1 : Int64) v3 h)
def b_X6_sways_34  : Nat → jx_M → Int32 → Int32 → Int64 → Int32 → Option (Int64 × jx_M)
  | 0, _, _, _, _, _ => none
  | n + 1, σ, v1, v2, v3, v5 => g_X6_sways_34 (b_X6_sways_34 n) σ v1 v2 v3 v5
theorem jb_X6_sways_34 (l : Launch) (G : jx_G) (hG : mm_ok G) (sz : Nat) (out : (Int64 × jx_M))  : ∀ (n : Nat) (σ : jx_M) (v1 : Int32) (v2 : Int32) (v3 : Int64) (v5 : Int32), b_X6_sways_34 n σ v1 v2 v3 v5 = some out → jJ_X6_sways l G sz out 34 [(0, .ref (G.2 10)), (1, .int v1), (2, .int v2), (3, .long v3), (5, .int v5)] [] σ := by
  intro n
  induction n with
  | zero =>
    intro σ v1 v2 v3 v5 h
    cases h
  | succ n ih =>
    intro σ v1 v2 v3 v5 h
    exact jg_X6_sways_34 l G hG sz out (b_X6_sways_34 n) ih σ v1 v2 v3 v5 h
def f_X6_sways (σ : jx_M) (a1 : Int32) (a2 : Int32) : Option (Int64 × jx_M) :=
  jx_bd (f_X6_isVoter σ a1) (fun q1 => if q1 = 0 then some ((-9223372036854775808 : Int64), σ) else jx_bd (f_X6_in a2 (0 : Int32) (1 : Int32)) (fun q3 => if q3 = 0 then some ((-9223372036854775808 : Int64), σ) else jx_bd (f_X6_looksForNight σ) (fun q5 => jx_bd (f_X6_laysAll q5) (fun q6 => (b_X6_sways_34 jx_fuel q6 a1 a2 (0 : Int64) (0 : Int32))))))
set_option maxHeartbeats 4000000 in
set_option maxRecDepth 100000 in
theorem k_X6_sways (l : Launch) (G : jx_G) (hG : mm_ok G) (sz : Nat) (σ : jx_M) (a1 : Int32) (a2 : Int32) (out : (Int64 × jx_M)) (h : f_X6_sways σ a1 a2 = some out) : Met l yX6_sways (Cond.code yX6_sways cX6_sways 6 (some .long) :: jx_ws) rm_X6_sways (jx_Pc (mm_env G) (mm_dyn G) (mm_rg G) sz σ [.ref (G.2 10), .int a1, .int a2]) (jx_Ql (mm_dyn G) out.2 out.1 (jx_A (mm_rg G) sz)) 0 0 (jx_A (mm_rg G) sz) := by
  unfold f_X6_sways at h
  refine jx_met (by decide) (Nat.le_of_ble_eq_true rfl) ?_
  refine jx_sub (lv' := [(0, .ref (G.2 10)), (1, .int a1), (2, .int a2)]) [0, 1, 2] rfl ?_
  refine jx_aload_n (pc := 0) (k0 := 0) rfl dX6_sways_0 ?_
  refine jx_iload_n (pc := 1) (k0 := 1) rfl dX6_sways_1 ?_
  obtain ⟨q1, eq1, h⟩ := jx_bd_o h
  refine jx_callVi (pc := 2) [.int a1] (fun sz' => k_X6_isVoter l G hG sz' σ a1 q1 eq1) kv_X6_163 mm_jok mm_rc rfl rfl (Nat.le_of_ble_eq_true rfl) ⟨⟨rfl, rfl⟩, ⟨Nat.le_of_ble_eq_true rfl, Nat.le_of_ble_eq_true rfl⟩, Nat.zero_le _, Nat.zero_le _⟩ dX6_sways_2 ?_
  refine jx_if_eq (pc := 5) (tgt := 17) dX6_sways_5 (by decide) (fun c2 => ?_) (fun c2 => ?_)
  · have h := jx_t c2 h
    refine jx_ldc2 (pc := 17) cn_X6_206 dX6_sways_17 ?_
    cases h
    exact jx_lret (pc := 20) dX6_sways_20
  · have h := jx_f c2 h
    refine jx_iload_n (pc := 8) (k0 := 2) rfl dX6_sways_8 ?_
    refine jx_iconst (pc := 9) (v := (0 : Int32)) (by decide) dX6_sways_9 ?_
    refine jx_iconst (pc := 10) (v := (1 : Int32)) (by decide) dX6_sways_10 ?_
    obtain ⟨q3, eq3, h⟩ := jx_bd_o h
    refine jx_callSi (pc := 11) [.int a2, .int (0 : Int32), .int (1 : Int32)] (fun sz' => k_X6_in l G hG sz' σ a2 (0 : Int32) (1 : Int32) q3 eq3) ks_X6_48 mm_jok rfl rfl (Nat.le_of_ble_eq_true rfl) ⟨⟨rfl, rfl⟩, ⟨Nat.le_of_ble_eq_true rfl, Nat.le_of_ble_eq_true rfl⟩, Nat.zero_le _, Nat.zero_le _⟩ dX6_sways_11 ?_
    refine jx_if_ne (pc := 14) (tgt := 21) dX6_sways_14 (by decide) (fun c4 => ?_) (fun c4 => ?_)
    · have h := jx_f c4 h
      refine jx_aload_n (pc := 21) (k0 := 0) rfl dX6_sways_21 ?_
      obtain ⟨q5, eq5, h⟩ := jx_bd_o h
      refine jx_callVv (pc := 22) [] (fun sz' => k_X6_looksForNight l G hG sz' σ q5 eq5) kv_X6_185 mm_jok mm_rc rfl rfl (Nat.le_of_ble_eq_true rfl) ⟨⟨rfl, rfl⟩, ⟨Nat.le_of_ble_eq_true rfl, Nat.le_of_ble_eq_true rfl⟩, Nat.zero_le _, Nat.zero_le _⟩ dX6_sways_22 ?_
      refine jx_aload_n (pc := 25) (k0 := 0) rfl dX6_sways_25 ?_
      obtain ⟨q6, eq6, h⟩ := jx_bd_o h
      refine jx_callVv (pc := 26) [] (fun sz' => k_X6_laysAll l G hG sz' q5 q6 eq6) kv_X6_188 mm_jok mm_rc rfl rfl (Nat.le_of_ble_eq_true rfl) ⟨⟨rfl, rfl⟩, ⟨Nat.le_of_ble_eq_true rfl, Nat.le_of_ble_eq_true rfl⟩, Nat.zero_le _, Nat.zero_le _⟩ dX6_sways_26 ?_
      refine jx_lconst (pc := 29) (v := (0 : Int64)) (by decide) dX6_sways_29 ?_
      refine jx_lstore_n (pc := 30) (i := 3) rfl rfl (by decide) (lv' := [(3, .long (0 : Int64)), (0, .ref (G.2 10)), (1, .int a1), (2, .int a2)]) rfl dX6_sways_30 ?_
      refine jx_iconst (pc := 31) (v := (0 : Int32)) (by decide) dX6_sways_31 ?_
      refine jx_istore (pc := 32) (i := 5) rfl (by decide) (lv' := [(5, .int (0 : Int32)), (3, .long (0 : Int64)), (0, .ref (G.2 10)), (1, .int a1), (2, .int a2)]) rfl dX6_sways_32 ?_
      exact jx_sub [2, 3, 4, 1, 0] rfl (jb_X6_sways_34 l G hG sz out jx_fuel q6 a1 a2 (0 : Int64) (0 : Int32) h)
    · have h := jx_t c4 h
      refine jx_ldc2 (pc := 17) cn_X6_206 dX6_sways_17 ?_
      cases h
      exact jx_lret (pc := 20) dX6_sways_20
theorem dX6_stick_0 : decode cX6_stick 0 = .ok (.iload_n 1, 1) := by decide +kernel
theorem dX6_stick_1 : decode cX6_stick 1 = .ok (.iconst 0, 1) := by decide +kernel
theorem dX6_stick_2 : decode cX6_stick 2 = .ok (.iconst 1, 1) := by decide +kernel
theorem dX6_stick_3 : decode cX6_stick 3 = .ok (.invokestatic 48, 3) := by decide +kernel
theorem dX6_stick_6 : decode cX6_stick 6 = .ok (.ifCond .ne 6, 3) := by decide +kernel
theorem dX6_stick_9 : decode cX6_stick 9 = .ok (.bipush (-2), 2) := by decide +kernel
theorem dX6_stick_11 : decode cX6_stick 11 = .ok (.ireturn, 1) := by decide +kernel
theorem dX6_stick_12 : decode cX6_stick 12 = .ok (.iconst 0, 1) := by decide +kernel
theorem dX6_stick_13 : decode cX6_stick 13 = .ok (.istore_n 2, 1) := by decide +kernel
theorem dX6_stick_14 : decode cX6_stick 14 = .ok (.iload_n 2, 1) := by decide +kernel
theorem dX6_stick_15 : decode cX6_stick 15 = .ok (.aload_n 0, 1) := by decide +kernel
theorem dX6_stick_16 : decode cX6_stick 16 = .ok (.getfield 9, 3) := by decide +kernel
theorem dX6_stick_19 : decode cX6_stick 19 = .ok (.bipush 6, 2) := by decide +kernel
theorem dX6_stick_21 : decode cX6_stick 21 = .ok (.iaload, 1) := by decide +kernel
theorem dX6_stick_22 : decode cX6_stick 22 = .ok (.if_icmp .ge 53, 3) := by decide +kernel
theorem dX6_stick_25 : decode cX6_stick 25 = .ok (.aload_n 0, 1) := by decide +kernel
theorem dX6_stick_26 : decode cX6_stick 26 = .ok (.invokevirtual 185, 3) := by decide +kernel
theorem dX6_stick_29 : decode cX6_stick 29 = .ok (.iconst 0, 1) := by decide +kernel
theorem dX6_stick_30 : decode cX6_stick 30 = .ok (.istore_n 3, 1) := by decide +kernel
theorem dX6_stick_31 : decode cX6_stick 31 = .ok (.iload_n 3, 1) := by decide +kernel
theorem dX6_stick_32 : decode cX6_stick 32 = .ok (.bipush 12, 2) := by decide +kernel
theorem dX6_stick_34 : decode cX6_stick 34 = .ok (.if_icmp .ge 21, 3) := by decide +kernel
theorem dX6_stick_37 : decode cX6_stick 37 = .ok (.aload_n 0, 1) := by decide +kernel
theorem dX6_stick_38 : decode cX6_stick 38 = .ok (.getfield 25, 3) := by decide +kernel
theorem dX6_stick_41 : decode cX6_stick 41 = .ok (.bipush 7, 2) := by decide +kernel
theorem dX6_stick_43 : decode cX6_stick 43 = .ok (.iload_n 3, 1) := by decide +kernel
theorem dX6_stick_44 : decode cX6_stick 44 = .ok (.imul, 1) := by decide +kernel
theorem dX6_stick_45 : decode cX6_stick 45 = .ok (.iload_n 2, 1) := by decide +kernel
theorem dX6_stick_46 : decode cX6_stick 46 = .ok (.iadd, 1) := by decide +kernel
theorem dX6_stick_47 : decode cX6_stick 47 = .ok (.iload_n 2, 1) := by decide +kernel
theorem dX6_stick_48 : decode cX6_stick 48 = .ok (.iastore, 1) := by decide +kernel
theorem dX6_stick_49 : decode cX6_stick 49 = .ok (.iinc 3 1, 3) := by decide +kernel
theorem dX6_stick_52 : decode cX6_stick 52 = .ok (.goto (-21), 3) := by decide +kernel
theorem dX6_stick_55 : decode cX6_stick 55 = .ok (.aload_n 0, 1) := by decide +kernel
theorem dX6_stick_56 : decode cX6_stick 56 = .ok (.invokevirtual 188, 3) := by decide +kernel
theorem dX6_stick_59 : decode cX6_stick 59 = .ok (.aload_n 0, 1) := by decide +kernel
theorem dX6_stick_60 : decode cX6_stick 60 = .ok (.invokevirtual 191, 3) := by decide +kernel
theorem dX6_stick_63 : decode cX6_stick 63 = .ok (.iload_n 1, 1) := by decide +kernel
theorem dX6_stick_64 : decode cX6_stick 64 = .ok (.if_icmp .ne 5, 3) := by decide +kernel
theorem dX6_stick_67 : decode cX6_stick 67 = .ok (.iload_n 2, 1) := by decide +kernel
theorem dX6_stick_68 : decode cX6_stick 68 = .ok (.ireturn, 1) := by decide +kernel
theorem dX6_stick_69 : decode cX6_stick 69 = .ok (.iinc 2 1, 3) := by decide +kernel
theorem dX6_stick_72 : decode cX6_stick 72 = .ok (.goto (-58), 3) := by decide +kernel
theorem dX6_stick_75 : decode cX6_stick 75 = .ok (.bipush (-5), 2) := by decide +kernel
theorem dX6_stick_77 : decode cX6_stick 77 = .ok (.ireturn, 1) := by decide +kernel
abbrev rm_X6_stick : Room := { frames := 5, cells := 0, slots := 0, locals := 123 }
abbrev jJ_X6_stick (l : Launch) (G : jx_G) (sz : Nat) (out : (Int32 × jx_M)) (pc : Nat) (lv : List (Nat × Value)) (st : List Value) (σ : jx_M) : Prop := jx_J l (mm_env G) (mm_dyn G) (mm_rg G) sz RX6 "stick" cX6_stick 4 (some .int) rm_X6_stick (fun below args s => MQ below (jx_Qi (mm_dyn G) out.2 out.1 (jx_A (mm_rg G) sz)) args s 0 0 (jx_A (mm_rg G) sz)) 0 0 pc lv st σ
def g_X6_stick_31 (k14 : jx_M → Int32 → Int32 → Option (Int32 × jx_M)) (k31 : jx_M → Int32 → Int32 → Int32 → Option (Int32 × jx_M)) (σ : jx_M) (v1 : Int32) (v2 : Int32) (v3 : Int32) : Option (Int32 × jx_M) :=
  if (12 : Int32) ≤ v3 then jx_bd (f_X6_laysAll σ) (fun q2 => jx_bd (f_X6_mayor q2) (fun q3 => if q3 = v1 then some (v2, q2) else jx_lt (v2 + (1 : Int32)) (fun x5 => (k14 q2 v1 x5)))) else jx_gd (jx_in (((7 : Int32) * v3) + v2) 84) (jx_lt (jx_mu σ 5 (((7 : Int32) * v3) + v2).toNatClampNeg v2) (fun σ7 => jx_lt (v3 + (1 : Int32)) (fun x8 => (k31 σ7 v1 v2 x8))))
set_option maxHeartbeats 4000000 in
set_option maxRecDepth 100000 in
theorem jg_X6_stick_31 (l : Launch) (G : jx_G) (hG : mm_ok G) (sz : Nat) (out : (Int32 × jx_M)) (k14 : jx_M → Int32 → Int32 → Option (Int32 × jx_M)) (h14 : ∀ (σ : jx_M) (v1 : Int32) (v2 : Int32), k14 σ v1 v2 = some out → jJ_X6_stick l G sz out 14 [(0, .ref (G.2 10)), (1, .int v1), (2, .int v2)] [] σ) (k31 : jx_M → Int32 → Int32 → Int32 → Option (Int32 × jx_M)) (h31 : ∀ (σ : jx_M) (v1 : Int32) (v2 : Int32) (v3 : Int32), k31 σ v1 v2 v3 = some out → jJ_X6_stick l G sz out 31 [(0, .ref (G.2 10)), (1, .int v1), (2, .int v2), (3, .int v3)] [] σ) (σ : jx_M) (v1 : Int32) (v2 : Int32) (v3 : Int32) (h : g_X6_stick_31 k14 k31 σ v1 v2 v3 = some out) : jJ_X6_stick l G sz out 31 [(0, .ref (G.2 10)), (1, .int v1), (2, .int v2), (3, .int v3)] [] σ := by
  unfold g_X6_stick_31 at h
  refine jx_iload_n (pc := 31) (k0 := 3) rfl dX6_stick_31 ?_
  refine jx_bipush (pc := 32) (v := (12 : Int32)) (by decide) dX6_stick_32 ?_
  refine jx_icmp_ge (pc := 34) (tgt := 55) dX6_stick_34 (by decide) (fun c1 => ?_) (fun c1 => ?_)
  · have h := jx_t c1 h
    refine jx_aload_n (pc := 55) (k0 := 0) rfl dX6_stick_55 ?_
    obtain ⟨q2, eq2, h⟩ := jx_bd_o h
    refine jx_callVv (pc := 56) [] (fun sz' => k_X6_laysAll l G hG sz' σ q2 eq2) kv_X6_188 mm_jok mm_rc rfl rfl (Nat.le_of_ble_eq_true rfl) ⟨⟨rfl, rfl⟩, ⟨Nat.le_of_ble_eq_true rfl, Nat.le_of_ble_eq_true rfl⟩, Nat.zero_le _, Nat.zero_le _⟩ dX6_stick_56 ?_
    refine jx_aload_n (pc := 59) (k0 := 0) rfl dX6_stick_59 ?_
    obtain ⟨q3, eq3, h⟩ := jx_bd_o h
    refine jx_callVi (pc := 60) [] (fun sz' => k_X6_mayor l G hG sz' q2 q3 eq3) kv_X6_191 mm_jok mm_rc rfl rfl (Nat.le_of_ble_eq_true rfl) ⟨⟨rfl, rfl⟩, ⟨Nat.le_of_ble_eq_true rfl, Nat.le_of_ble_eq_true rfl⟩, Nat.zero_le _, Nat.zero_le _⟩ dX6_stick_60 ?_
    refine jx_iload_n (pc := 63) (k0 := 1) rfl dX6_stick_63 ?_
    refine jx_icmp_ne (pc := 64) (tgt := 69) dX6_stick_64 (by decide) (fun c4 => ?_) (fun c4 => ?_)
    · have h := jx_f c4 h
      obtain ⟨x5, ex5, h⟩ := jx_lt_o h
      refine jx_iinc (pc := 69) (i := 2) (v := v2) rfl ex5 (n := 1) (by decide) (by decide) (lv' := [(2, .int x5), (0, .ref (G.2 10)), (1, .int v1), (3, .int v3)]) rfl dX6_stick_69 ?_
      refine jx_goto (pc := 72) (tgt := 14) dX6_stick_72 (by decide) ?_
      exact jx_sub [1, 2, 0] rfl (h14 q2 v1 x5 h)
    · have h := jx_t c4 h
      refine jx_iload_n (pc := 67) (k0 := 2) rfl dX6_stick_67 ?_
      cases h
      exact jx_iret (pc := 68) dX6_stick_68
  · have h := jx_f c1 h
    refine jx_aload_n (pc := 37) (k0 := 0) rfl dX6_stick_37 ?_
    refine mm_g_going (pc := 38) fl_X6_25 dX6_stick_38 ?_
    refine jx_bipush (pc := 41) (v := (7 : Int32)) (by decide) dX6_stick_41 ?_
    refine jx_iload_n (pc := 43) (k0 := 3) rfl dX6_stick_43 ?_
    refine jx_imul (pc := 44) dX6_stick_44 ?_
    refine jx_iload_n (pc := 45) (k0 := 2) rfl dX6_stick_45 ?_
    refine jx_iadd (pc := 46) dX6_stick_46 ?_
    refine jx_iload_n (pc := 47) (k0 := 2) rfl dX6_stick_47 ?_
    obtain ⟨g6, h⟩ := jx_gd_o h
    obtain ⟨σ7, eσ7, h⟩ := jx_lt_o h
    refine mm_s_going (pc := 48) hG (jx_in_o g6) rfl eσ7 dX6_stick_48 ?_
    obtain ⟨x8, ex8, h⟩ := jx_lt_o h
    refine jx_iinc (pc := 49) (i := 3) (v := v3) rfl ex8 (n := 1) (by decide) (by decide) (lv' := [(3, .int x8), (0, .ref (G.2 10)), (1, .int v1), (2, .int v2)]) rfl dX6_stick_49 ?_
    refine jx_goto (pc := 52) (tgt := 31) dX6_stick_52 (by decide) ?_
    exact jx_sub [1, 2, 3, 0] rfl (h31 σ7 v1 v2 x8 h)
def b_X6_stick_31 (k14 : jx_M → Int32 → Int32 → Option (Int32 × jx_M)) : Nat → jx_M → Int32 → Int32 → Int32 → Option (Int32 × jx_M)
  | 0, _, _, _, _ => none
  | n + 1, σ, v1, v2, v3 => g_X6_stick_31 k14 (b_X6_stick_31 k14 n) σ v1 v2 v3
theorem jb_X6_stick_31 (l : Launch) (G : jx_G) (hG : mm_ok G) (sz : Nat) (out : (Int32 × jx_M)) (k14 : jx_M → Int32 → Int32 → Option (Int32 × jx_M)) (h14 : ∀ (σ : jx_M) (v1 : Int32) (v2 : Int32), k14 σ v1 v2 = some out → jJ_X6_stick l G sz out 14 [(0, .ref (G.2 10)), (1, .int v1), (2, .int v2)] [] σ) : ∀ (n : Nat) (σ : jx_M) (v1 : Int32) (v2 : Int32) (v3 : Int32), b_X6_stick_31 k14 n σ v1 v2 v3 = some out → jJ_X6_stick l G sz out 31 [(0, .ref (G.2 10)), (1, .int v1), (2, .int v2), (3, .int v3)] [] σ := by
  intro n
  induction n with
  | zero =>
    intro σ v1 v2 v3 h
    cases h
  | succ n ih =>
    intro σ v1 v2 v3 h
    exact jg_X6_stick_31 l G hG sz out k14 h14 (b_X6_stick_31 k14 n) ih σ v1 v2 v3 h
def g_X6_stick_14 (k14 : jx_M → Int32 → Int32 → Option (Int32 × jx_M)) (σ : jx_M) (v1 : Int32) (v2 : Int32) : Option (Int32 × jx_M) :=
  if (σ 1 6) ≤ v2 then some ((-5 : Int32), σ) else jx_bd (f_X6_looksForNight σ) (fun q2 => (b_X6_stick_31 k14 jx_fuel q2 v1 v2 (0 : Int32)))
set_option maxHeartbeats 4000000 in
set_option maxRecDepth 100000 in
theorem jg_X6_stick_14 (l : Launch) (G : jx_G) (hG : mm_ok G) (sz : Nat) (out : (Int32 × jx_M)) (k14 : jx_M → Int32 → Int32 → Option (Int32 × jx_M)) (h14 : ∀ (σ : jx_M) (v1 : Int32) (v2 : Int32), k14 σ v1 v2 = some out → jJ_X6_stick l G sz out 14 [(0, .ref (G.2 10)), (1, .int v1), (2, .int v2)] [] σ) (σ : jx_M) (v1 : Int32) (v2 : Int32) (h : g_X6_stick_14 k14 σ v1 v2 = some out) : jJ_X6_stick l G sz out 14 [(0, .ref (G.2 10)), (1, .int v1), (2, .int v2)] [] σ := by
  unfold g_X6_stick_14 at h
  refine jx_iload_n (pc := 14) (k0 := 2) rfl dX6_stick_14 ?_
  refine jx_aload_n (pc := 15) (k0 := 0) rfl dX6_stick_15 ?_
  refine mm_g_s (pc := 16) fl_X6_9 dX6_stick_16 ?_
  refine jx_bipush (pc := 19) (v := (6 : Int32)) (by decide) dX6_stick_19 ?_
  refine mm_l_s (pc := 21) (j := 6) (jx_in_o (by decide)) (by decide) dX6_stick_21 ?_
  refine jx_icmp_ge (pc := 22) (tgt := 75) dX6_stick_22 (by decide) (fun c1 => ?_) (fun c1 => ?_)
  · have h := jx_t c1 h
    refine jx_bipush (pc := 75) (v := (-5 : Int32)) (by decide) dX6_stick_75 ?_
    cases h
    exact jx_iret (pc := 77) dX6_stick_77
  · have h := jx_f c1 h
    refine jx_aload_n (pc := 25) (k0 := 0) rfl dX6_stick_25 ?_
    obtain ⟨q2, eq2, h⟩ := jx_bd_o h
    refine jx_callVv (pc := 26) [] (fun sz' => k_X6_looksForNight l G hG sz' σ q2 eq2) kv_X6_185 mm_jok mm_rc rfl rfl (Nat.le_of_ble_eq_true rfl) ⟨⟨rfl, rfl⟩, ⟨Nat.le_of_ble_eq_true rfl, Nat.le_of_ble_eq_true rfl⟩, Nat.zero_le _, Nat.zero_le _⟩ dX6_stick_26 ?_
    refine jx_iconst (pc := 29) (v := (0 : Int32)) (by decide) dX6_stick_29 ?_
    refine jx_istore_n (pc := 30) (i := 3) rfl rfl (by decide) (lv' := [(3, .int (0 : Int32)), (0, .ref (G.2 10)), (1, .int v1), (2, .int v2)]) rfl dX6_stick_30 ?_
    exact jx_sub [1, 2, 3, 0] rfl (jb_X6_stick_31 l G hG sz out k14 h14 jx_fuel q2 v1 v2 (0 : Int32) h)
def b_X6_stick_14  : Nat → jx_M → Int32 → Int32 → Option (Int32 × jx_M)
  | 0, _, _, _ => none
  | n + 1, σ, v1, v2 => g_X6_stick_14 (b_X6_stick_14 n) σ v1 v2
theorem jb_X6_stick_14 (l : Launch) (G : jx_G) (hG : mm_ok G) (sz : Nat) (out : (Int32 × jx_M))  : ∀ (n : Nat) (σ : jx_M) (v1 : Int32) (v2 : Int32), b_X6_stick_14 n σ v1 v2 = some out → jJ_X6_stick l G sz out 14 [(0, .ref (G.2 10)), (1, .int v1), (2, .int v2)] [] σ := by
  intro n
  induction n with
  | zero =>
    intro σ v1 v2 h
    cases h
  | succ n ih =>
    intro σ v1 v2 h
    exact jg_X6_stick_14 l G hG sz out (b_X6_stick_14 n) ih σ v1 v2 h
def f_X6_stick (σ : jx_M) (a1 : Int32) : Option (Int32 × jx_M) :=
  jx_bd (f_X6_in a1 (0 : Int32) (1 : Int32)) (fun q1 => if q1 = 0 then some ((-2 : Int32), σ) else (b_X6_stick_14 jx_fuel σ a1 (0 : Int32)))
set_option maxHeartbeats 4000000 in
set_option maxRecDepth 100000 in
theorem k_X6_stick (l : Launch) (G : jx_G) (hG : mm_ok G) (sz : Nat) (σ : jx_M) (a1 : Int32) (out : (Int32 × jx_M)) (h : f_X6_stick σ a1 = some out) : Met l yX6_stick (Cond.code yX6_stick cX6_stick 4 (some .int) :: jx_ws) rm_X6_stick (jx_Pc (mm_env G) (mm_dyn G) (mm_rg G) sz σ [.ref (G.2 10), .int a1]) (jx_Qi (mm_dyn G) out.2 out.1 (jx_A (mm_rg G) sz)) 0 0 (jx_A (mm_rg G) sz) := by
  unfold f_X6_stick at h
  refine jx_met (by decide) (Nat.le_of_ble_eq_true rfl) ?_
  refine jx_sub (lv' := [(0, .ref (G.2 10)), (1, .int a1)]) [0, 1] rfl ?_
  refine jx_iload_n (pc := 0) (k0 := 1) rfl dX6_stick_0 ?_
  refine jx_iconst (pc := 1) (v := (0 : Int32)) (by decide) dX6_stick_1 ?_
  refine jx_iconst (pc := 2) (v := (1 : Int32)) (by decide) dX6_stick_2 ?_
  obtain ⟨q1, eq1, h⟩ := jx_bd_o h
  refine jx_callSi (pc := 3) [.int a1, .int (0 : Int32), .int (1 : Int32)] (fun sz' => k_X6_in l G hG sz' σ a1 (0 : Int32) (1 : Int32) q1 eq1) ks_X6_48 mm_jok rfl rfl (Nat.le_of_ble_eq_true rfl) ⟨⟨rfl, rfl⟩, ⟨Nat.le_of_ble_eq_true rfl, Nat.le_of_ble_eq_true rfl⟩, Nat.zero_le _, Nat.zero_le _⟩ dX6_stick_3 ?_
  refine jx_if_ne (pc := 6) (tgt := 12) dX6_stick_6 (by decide) (fun c2 => ?_) (fun c2 => ?_)
  · have h := jx_f c2 h
    refine jx_iconst (pc := 12) (v := (0 : Int32)) (by decide) dX6_stick_12 ?_
    refine jx_istore_n (pc := 13) (i := 2) rfl rfl (by decide) (lv' := [(2, .int (0 : Int32)), (0, .ref (G.2 10)), (1, .int a1)]) rfl dX6_stick_13 ?_
    exact jx_sub [1, 2, 0] rfl (jb_X6_stick_14 l G hG sz out jx_fuel σ a1 (0 : Int32) h)
  · have h := jx_t c2 h
    refine jx_bipush (pc := 9) (v := (-2 : Int32)) (by decide) dX6_stick_9 ?_
    cases h
    exact jx_iret (pc := 11) dX6_stick_11
