/-! the class's methods: a function on the memory each, and its contract -/
theorem dX2_leadBehind_0 : decode cX2_leadBehind 0 = .ok (.aload_n 0, 1) := by decide +kernel
theorem dX2_leadBehind_1 : decode cX2_leadBehind 1 = .ok (.iload_n 1, 1) := by decide +kernel
theorem dX2_leadBehind_2 : decode cX2_leadBehind 2 = .ok (.iload_n 2, 1) := by decide +kernel
theorem dX2_leadBehind_3 : decode cX2_leadBehind 3 = .ok (.invokevirtual 80, 3) := by decide +kernel
theorem dX2_leadBehind_6 : decode cX2_leadBehind 6 = .ok (.aload_n 0, 1) := by decide +kernel
theorem dX2_leadBehind_7 : decode cX2_leadBehind 7 = .ok (.iload_n 3, 1) := by decide +kernel
theorem dX2_leadBehind_8 : decode cX2_leadBehind 8 = .ok (.aload_n 0, 1) := by decide +kernel
theorem dX2_leadBehind_9 : decode cX2_leadBehind 9 = .ok (.iload_n 3, 1) := by decide +kernel
theorem dX2_leadBehind_10 : decode cX2_leadBehind 10 = .ok (.invokevirtual 117, 3) := by decide +kernel
theorem dX2_leadBehind_13 : decode cX2_leadBehind 13 = .ok (.invokevirtual 80, 3) := by decide +kernel
theorem dX2_leadBehind_16 : decode cX2_leadBehind 16 = .ok (.aload_n 0, 1) := by decide +kernel
theorem dX2_leadBehind_17 : decode cX2_leadBehind 17 = .ok (.iload_n 1, 1) := by decide +kernel
theorem dX2_leadBehind_18 : decode cX2_leadBehind 18 = .ok (.invokevirtual 114, 3) := by decide +kernel
theorem dX2_leadBehind_21 : decode cX2_leadBehind 21 = .ok (.ireturn, 1) := by decide +kernel
abbrev rm_X2_leadBehind : Room := { frames := 4, cells := 0, slots := 0, locals := 95 }
abbrev jJ_X2_leadBehind (l : Launch) (G : jx_G) (t : jx_T) (sz : Nat) (out : (Int32 × jx_M)) (pc : Nat) (lv : List (Nat × Value)) (st : List Value) (σ : jx_M) : Prop := jx_J l (ll_env G t) (ll_dyn G t) (ll_rg G) sz RX2 "leadBehind" cX2_leadBehind 4 (some .int) rm_X2_leadBehind (fun below args s => MQ below (jx_Qi (ll_dyn G t) out.2 out.1 (jx_A (ll_rg G) sz)) args s 0 0 (jx_A (ll_rg G) sz)) 0 0 pc lv st σ
def f_X2_leadBehind (t : jx_T) (σ : jx_M) (a1 : Int32) (a2 : Int32) (a3 : Int32) : Option (Int32 × jx_M) :=
  jx_bd (f_X2_light t σ a1 a2) (fun q1 => jx_bd (f_X2_bestFor t q1 a3) (fun q2 => jx_bd (f_X2_light t q2.2 a3 q2.1) (fun q3 => jx_bd (f_X2_leadOf t q3 a1) (fun q4 => some (q4, q3)))))
set_option maxHeartbeats 4000000 in
set_option maxRecDepth 100000 in
theorem k_X2_leadBehind (l : Launch) (G : jx_G) (t : jx_T) (hG : ll_ok G) (sz : Nat) (σ : jx_M) (a1 : Int32) (a2 : Int32) (a3 : Int32) (out : (Int32 × jx_M)) (h : f_X2_leadBehind t σ a1 a2 a3 = some out) : Met l yX2_leadBehind (Cond.code yX2_leadBehind cX2_leadBehind 4 (some .int) :: jx_ws) rm_X2_leadBehind (jx_Pc (ll_env G t) (ll_dyn G t) (ll_rg G) sz σ [.ref (G.2 23), .int a1, .int a2, .int a3]) (jx_Qi (ll_dyn G t) out.2 out.1 (jx_A (ll_rg G) sz)) 0 0 (jx_A (ll_rg G) sz) := by
  unfold f_X2_leadBehind at h
  refine jx_met (by decide) (Nat.le_of_ble_eq_true rfl) ?_
  refine jx_sub (lv' := [(0, .ref (G.2 23)), (1, .int a1), (2, .int a2), (3, .int a3)]) [0, 1, 2, 3] rfl ?_
  refine jx_aload_n (pc := 0) (k0 := 0) rfl dX2_leadBehind_0 ?_
  refine jx_iload_n (pc := 1) (k0 := 1) rfl dX2_leadBehind_1 ?_
  refine jx_iload_n (pc := 2) (k0 := 2) rfl dX2_leadBehind_2 ?_
  obtain ⟨q1, eq1, h⟩ := jx_bd_o h
  refine jx_callVv (pc := 3) [.int a1, .int a2] (fun sz' => k_X2_light l G t hG sz' σ a1 a2 q1 eq1) kv_X2_80 ll_jok ll_rcnight rfl rfl (Nat.le_of_ble_eq_true rfl) ⟨⟨rfl, rfl⟩, ⟨Nat.le_of_ble_eq_true rfl, Nat.le_of_ble_eq_true rfl⟩, Nat.zero_le _, Nat.zero_le _⟩ dX2_leadBehind_3 ?_
  refine jx_aload_n (pc := 6) (k0 := 0) rfl dX2_leadBehind_6 ?_
  refine jx_iload_n (pc := 7) (k0 := 3) rfl dX2_leadBehind_7 ?_
  refine jx_aload_n (pc := 8) (k0 := 0) rfl dX2_leadBehind_8 ?_
  refine jx_iload_n (pc := 9) (k0 := 3) rfl dX2_leadBehind_9 ?_
  obtain ⟨q2, eq2, h⟩ := jx_bd_o h
  refine jx_callVi (pc := 10) [.int a3] (fun sz' => k_X2_bestFor l G t hG sz' q1 a3 q2 eq2) kv_X2_117 ll_jok ll_rcnight rfl rfl (Nat.le_of_ble_eq_true rfl) ⟨⟨rfl, rfl⟩, ⟨Nat.le_of_ble_eq_true rfl, Nat.le_of_ble_eq_true rfl⟩, Nat.zero_le _, Nat.zero_le _⟩ dX2_leadBehind_10 ?_
  obtain ⟨q3, eq3, h⟩ := jx_bd_o h
  refine jx_callVv (pc := 13) [.int a3, .int q2.1] (fun sz' => k_X2_light l G t hG sz' q2.2 a3 q2.1 q3 eq3) kv_X2_80 ll_jok ll_rcnight rfl rfl (Nat.le_of_ble_eq_true rfl) ⟨⟨rfl, rfl⟩, ⟨Nat.le_of_ble_eq_true rfl, Nat.le_of_ble_eq_true rfl⟩, Nat.zero_le _, Nat.zero_le _⟩ dX2_leadBehind_13 ?_
  refine jx_aload_n (pc := 16) (k0 := 0) rfl dX2_leadBehind_16 ?_
  refine jx_iload_n (pc := 17) (k0 := 1) rfl dX2_leadBehind_17 ?_
  obtain ⟨q4, eq4, h⟩ := jx_bd_o h
  refine jx_callVi (pc := 18) [.int a1] (fun sz' => k_X2_leadOf l G t hG sz' q3 a1 q4 eq4) kv_X2_114 ll_jok ll_rcnight rfl rfl (Nat.le_of_ble_eq_true rfl) ⟨⟨rfl, rfl⟩, ⟨Nat.le_of_ble_eq_true rfl, Nat.le_of_ble_eq_true rfl⟩, Nat.zero_le _, Nat.zero_le _⟩ dX2_leadBehind_18 ?_
  have h := Option.some.inj h
  subst h
  exact jx_iret (pc := 21) dX2_leadBehind_21
theorem dX2_firstUntrue_0 : decode cX2_firstUntrue 0 = .ok (.aload_n 0, 1) := by decide +kernel
theorem dX2_firstUntrue_1 : decode cX2_firstUntrue 1 = .ok (.invokevirtual 84, 3) := by decide +kernel
theorem dX2_firstUntrue_4 : decode cX2_firstUntrue 4 = .ok (.iconst 0, 1) := by decide +kernel
theorem dX2_firstUntrue_5 : decode cX2_firstUntrue 5 = .ok (.istore_n 1, 1) := by decide +kernel
theorem dX2_firstUntrue_6 : decode cX2_firstUntrue 6 = .ok (.iload_n 1, 1) := by decide +kernel
theorem dX2_firstUntrue_7 : decode cX2_firstUntrue 7 = .ok (.aload_n 0, 1) := by decide +kernel
theorem dX2_firstUntrue_8 : decode cX2_firstUntrue 8 = .ok (.getfield 36, 3) := by decide +kernel
theorem dX2_firstUntrue_11 : decode cX2_firstUntrue 11 = .ok (.getfield 151, 3) := by decide +kernel
theorem dX2_firstUntrue_14 : decode cX2_firstUntrue 14 = .ok (.if_icmp .ge 45, 3) := by decide +kernel
theorem dX2_firstUntrue_17 : decode cX2_firstUntrue 17 = .ok (.aload_n 0, 1) := by decide +kernel
theorem dX2_firstUntrue_18 : decode cX2_firstUntrue 18 = .ok (.aload_n 0, 1) := by decide +kernel
theorem dX2_firstUntrue_19 : decode cX2_firstUntrue 19 = .ok (.getfield 36, 3) := by decide +kernel
theorem dX2_firstUntrue_22 : decode cX2_firstUntrue 22 = .ok (.getfield 154, 3) := by decide +kernel
theorem dX2_firstUntrue_25 : decode cX2_firstUntrue 25 = .ok (.iload_n 1, 1) := by decide +kernel
theorem dX2_firstUntrue_26 : decode cX2_firstUntrue 26 = .ok (.iaload, 1) := by decide +kernel
theorem dX2_firstUntrue_27 : decode cX2_firstUntrue 27 = .ok (.aload_n 0, 1) := by decide +kernel
theorem dX2_firstUntrue_28 : decode cX2_firstUntrue 28 = .ok (.getfield 36, 3) := by decide +kernel
theorem dX2_firstUntrue_31 : decode cX2_firstUntrue 31 = .ok (.getfield 157, 3) := by decide +kernel
theorem dX2_firstUntrue_34 : decode cX2_firstUntrue 34 = .ok (.iload_n 1, 1) := by decide +kernel
theorem dX2_firstUntrue_35 : decode cX2_firstUntrue 35 = .ok (.iaload, 1) := by decide +kernel
theorem dX2_firstUntrue_36 : decode cX2_firstUntrue 36 = .ok (.invokevirtual 160, 3) := by decide +kernel
theorem dX2_firstUntrue_39 : decode cX2_firstUntrue 39 = .ok (.aload_n 0, 1) := by decide +kernel
theorem dX2_firstUntrue_40 : decode cX2_firstUntrue 40 = .ok (.getfield 36, 3) := by decide +kernel
theorem dX2_firstUntrue_43 : decode cX2_firstUntrue 43 = .ok (.getfield 163, 3) := by decide +kernel
theorem dX2_firstUntrue_46 : decode cX2_firstUntrue 46 = .ok (.iload_n 1, 1) := by decide +kernel
theorem dX2_firstUntrue_47 : decode cX2_firstUntrue 47 = .ok (.iaload, 1) := by decide +kernel
theorem dX2_firstUntrue_48 : decode cX2_firstUntrue 48 = .ok (.if_icmp .eq 5, 3) := by decide +kernel
theorem dX2_firstUntrue_51 : decode cX2_firstUntrue 51 = .ok (.iload_n 1, 1) := by decide +kernel
theorem dX2_firstUntrue_52 : decode cX2_firstUntrue 52 = .ok (.ireturn, 1) := by decide +kernel
theorem dX2_firstUntrue_53 : decode cX2_firstUntrue 53 = .ok (.iinc 1 1, 3) := by decide +kernel
theorem dX2_firstUntrue_56 : decode cX2_firstUntrue 56 = .ok (.goto (-50), 3) := by decide +kernel
theorem dX2_firstUntrue_59 : decode cX2_firstUntrue 59 = .ok (.bipush (-5), 2) := by decide +kernel
theorem dX2_firstUntrue_61 : decode cX2_firstUntrue 61 = .ok (.ireturn, 1) := by decide +kernel
abbrev rm_X2_firstUntrue : Room := { frames := 4, cells := 0, slots := 0, locals := 96 }
abbrev jJ_X2_firstUntrue (l : Launch) (G : jx_G) (t : jx_T) (sz : Nat) (out : (Int32 × jx_M)) (pc : Nat) (lv : List (Nat × Value)) (st : List Value) (σ : jx_M) : Prop := jx_J l (ll_env G t) (ll_dyn G t) (ll_rg G) sz RX2 "firstUntrue" cX2_firstUntrue 2 (some .int) rm_X2_firstUntrue (fun below args s => MQ below (jx_Qi (ll_dyn G t) out.2 out.1 (jx_A (ll_rg G) sz)) args s 0 0 (jx_A (ll_rg G) sz)) 0 0 pc lv st σ
def g_X2_firstUntrue_6 (t : jx_T) (k6 : jx_M → Int32 → Option (Int32 × jx_M)) (σ : jx_M) (v1 : Int32) : Option (Int32 × jx_M) :=
  if (σ 0 6) ≤ v1 then some ((-5 : Int32), σ) else jx_gd (jx_in v1 8) (jx_gd (jx_in v1 8) (jx_bd (f_X2_placeAfter t σ (σ 17 v1.toNatClampNeg) (σ 18 v1.toNatClampNeg)) (fun q4 => jx_gd (jx_in v1 8) (if q4 = (σ 19 v1.toNatClampNeg) then jx_lt (v1 + (1 : Int32)) (fun x7 => (k6 σ x7)) else some (v1, σ)))))
set_option maxHeartbeats 4000000 in
set_option maxRecDepth 100000 in
theorem jg_X2_firstUntrue_6 (l : Launch) (G : jx_G) (t : jx_T) (hG : ll_ok G) (sz : Nat) (out : (Int32 × jx_M)) (k6 : jx_M → Int32 → Option (Int32 × jx_M)) (h6 : ∀ (σ : jx_M) (v1 : Int32), k6 σ v1 = some out → jJ_X2_firstUntrue l G t sz out 6 [(0, .ref (G.2 23)), (1, .int v1)] [] σ) (σ : jx_M) (v1 : Int32) (h : g_X2_firstUntrue_6 t k6 σ v1 = some out) : jJ_X2_firstUntrue l G t sz out 6 [(0, .ref (G.2 23)), (1, .int v1)] [] σ := by
  unfold g_X2_firstUntrue_6 at h
  refine jx_iload_n (pc := 6) (k0 := 1) rfl dX2_firstUntrue_6 ?_
  refine jx_aload_n (pc := 7) (k0 := 0) rfl dX2_firstUntrue_7 ?_
  refine ll_gnight_canal (pc := 8) fl_X2_36 dX2_firstUntrue_8 ?_
  refine ll_gnow_tales (pc := 11) fl_X2_151 dX2_firstUntrue_11 ?_
  refine jx_icmp_ge (pc := 14) (tgt := 59) dX2_firstUntrue_14 (by decide) (fun c1 => ?_) (fun c1 => ?_)
  · have h := jx_t c1 h
    refine jx_bipush (pc := 59) (v := (-5 : Int32)) (by decide) dX2_firstUntrue_59 ?_
    have h := Option.some.inj h
    subst h
    exact jx_iret (pc := 61) dX2_firstUntrue_61
  · have h := jx_f c1 h
    refine jx_aload_n (pc := 17) (k0 := 0) rfl dX2_firstUntrue_17 ?_
    refine jx_aload_n (pc := 18) (k0 := 0) rfl dX2_firstUntrue_18 ?_
    refine ll_gnight_canal (pc := 19) fl_X2_36 dX2_firstUntrue_19 ?_
    refine ll_gnow_taleVoter (pc := 22) fl_X2_154 dX2_firstUntrue_22 ?_
    refine jx_iload_n (pc := 25) (k0 := 1) rfl dX2_firstUntrue_25 ?_
    obtain ⟨g2, h⟩ := jx_gd_o h
    refine ll_l (pc := 26) (k := 17) (jx_in_o g2) rfl dX2_firstUntrue_26 ?_
    refine jx_aload_n (pc := 27) (k0 := 0) rfl dX2_firstUntrue_27 ?_
    refine ll_gnight_canal (pc := 28) fl_X2_36 dX2_firstUntrue_28 ?_
    refine ll_gnow_taleMinute (pc := 31) fl_X2_157 dX2_firstUntrue_31 ?_
    refine jx_iload_n (pc := 34) (k0 := 1) rfl dX2_firstUntrue_34 ?_
    obtain ⟨g3, h⟩ := jx_gd_o h
    refine ll_l (pc := 35) (k := 18) (jx_in_o g3) rfl dX2_firstUntrue_35 ?_
    obtain ⟨q4, eq4, h⟩ := jx_bd_o h
    refine jx_callVi (pc := 36) [.int (σ 17 v1.toNatClampNeg), .int (σ 18 v1.toNatClampNeg)] (fun sz' => k_X2_placeAfter l G t hG sz' σ (σ 17 v1.toNatClampNeg) (σ 18 v1.toNatClampNeg) q4 eq4) kv_X2_160 ll_jok ll_rcnight rfl rfl (Nat.le_of_ble_eq_true rfl) ⟨⟨rfl, rfl⟩, ⟨Nat.le_of_ble_eq_true rfl, Nat.le_of_ble_eq_true rfl⟩, Nat.zero_le _, Nat.zero_le _⟩ dX2_firstUntrue_36 ?_
    refine jx_aload_n (pc := 39) (k0 := 0) rfl dX2_firstUntrue_39 ?_
    refine ll_gnight_canal (pc := 40) fl_X2_36 dX2_firstUntrue_40 ?_
    refine ll_gnow_talePlace (pc := 43) fl_X2_163 dX2_firstUntrue_43 ?_
    refine jx_iload_n (pc := 46) (k0 := 1) rfl dX2_firstUntrue_46 ?_
    obtain ⟨g5, h⟩ := jx_gd_o h
    refine ll_l (pc := 47) (k := 19) (jx_in_o g5) rfl dX2_firstUntrue_47 ?_
    refine jx_icmp_eq (pc := 48) (tgt := 53) dX2_firstUntrue_48 (by decide) (fun c6 => ?_) (fun c6 => ?_)
    · have h := jx_t c6 h
      obtain ⟨x7, ex7, h⟩ := jx_lt_o h
      refine jx_iinc (pc := 53) (i := 1) (v := v1) rfl ex7 (n := 1) (by decide) (by decide) (lv' := [(1, .int x7), (0, .ref (G.2 23))]) rfl dX2_firstUntrue_53 ?_
      refine jx_goto (pc := 56) (tgt := 6) dX2_firstUntrue_56 (by decide) ?_
      exact jx_sub [1, 0] rfl (h6 σ x7 h)
    · have h := jx_f c6 h
      refine jx_iload_n (pc := 51) (k0 := 1) rfl dX2_firstUntrue_51 ?_
      have h := Option.some.inj h
      subst h
      exact jx_iret (pc := 52) dX2_firstUntrue_52
def b_X2_firstUntrue_6 (t : jx_T)  : Nat → jx_M → Int32 → Option (Int32 × jx_M)
  | 0, _, _ => none
  | n + 1, σ, v1 => g_X2_firstUntrue_6 t (b_X2_firstUntrue_6 t n) σ v1
theorem jb_X2_firstUntrue_6 (l : Launch) (G : jx_G) (t : jx_T) (hG : ll_ok G) (sz : Nat) (out : (Int32 × jx_M))  : ∀ (n : Nat) (σ : jx_M) (v1 : Int32), b_X2_firstUntrue_6 t n σ v1 = some out → jJ_X2_firstUntrue l G t sz out 6 [(0, .ref (G.2 23)), (1, .int v1)] [] σ := by
  intro n
  induction n with
  | zero =>
    intro σ v1 h
    cases h
  | succ n ih =>
    intro σ v1 h
    exact jg_X2_firstUntrue_6 l G t hG sz out (b_X2_firstUntrue_6 t n) ih σ v1 h
def f_X2_firstUntrue (t : jx_T) (σ : jx_M)  : Option (Int32 × jx_M) :=
  jx_bd (f_X2_chart t σ) (fun q1 => (b_X2_firstUntrue_6 t jx_fuel q1 (0 : Int32)))
set_option maxHeartbeats 4000000 in
set_option maxRecDepth 100000 in
theorem k_X2_firstUntrue (l : Launch) (G : jx_G) (t : jx_T) (hG : ll_ok G) (sz : Nat) (σ : jx_M)  (out : (Int32 × jx_M)) (h : f_X2_firstUntrue t σ = some out) : Met l yX2_firstUntrue (Cond.code yX2_firstUntrue cX2_firstUntrue 2 (some .int) :: jx_ws) rm_X2_firstUntrue (jx_Pc (ll_env G t) (ll_dyn G t) (ll_rg G) sz σ [.ref (G.2 23)]) (jx_Qi (ll_dyn G t) out.2 out.1 (jx_A (ll_rg G) sz)) 0 0 (jx_A (ll_rg G) sz) := by
  unfold f_X2_firstUntrue at h
  refine jx_met (by decide) (Nat.le_of_ble_eq_true rfl) ?_
  refine jx_sub (lv' := [(0, .ref (G.2 23))]) [0] rfl ?_
  refine jx_aload_n (pc := 0) (k0 := 0) rfl dX2_firstUntrue_0 ?_
  obtain ⟨q1, eq1, h⟩ := jx_bd_o h
  refine jx_callVv (pc := 1) [] (fun sz' => k_X2_chart l G t hG sz' σ q1 eq1) kv_X2_84 ll_jok ll_rcnight rfl rfl (Nat.le_of_ble_eq_true rfl) ⟨⟨rfl, rfl⟩, ⟨Nat.le_of_ble_eq_true rfl, Nat.le_of_ble_eq_true rfl⟩, Nat.zero_le _, Nat.zero_le _⟩ dX2_firstUntrue_1 ?_
  refine jx_iconst (pc := 4) (v := (0 : Int32)) (by decide) dX2_firstUntrue_4 ?_
  refine jx_istore_n (pc := 5) (i := 1) rfl rfl (by decide) (lv' := [(1, .int (0 : Int32)), (0, .ref (G.2 23))]) rfl dX2_firstUntrue_5 ?_
  exact jx_sub [1, 0] rfl (jb_X2_firstUntrue_6 l G t hG sz out jx_fuel q1 (0 : Int32) h)
theorem dX3_takes_0 : decode cX3_takes 0 = .ok (.aload_n 0, 1) := by decide +kernel
theorem dX3_takes_1 : decode cX3_takes 1 = .ok (.getfield 40, 3) := by decide +kernel
theorem dX3_takes_4 : decode cX3_takes 4 = .ok (.tableswitch 126 0 7 #[48, 54, 60, 67, 86, 92, 98, 106], 48) := by decide +kernel
theorem dX3_takes_52 : decode cX3_takes 52 = .ok (.aload_n 0, 1) := by decide +kernel
theorem dX3_takes_53 : decode cX3_takes 53 = .ok (.iload_n 1, 1) := by decide +kernel
theorem dX3_takes_54 : decode cX3_takes 54 = .ok (.invokevirtual 62, 3) := by decide +kernel
theorem dX3_takes_57 : decode cX3_takes 57 = .ok (.ireturn, 1) := by decide +kernel
theorem dX3_takes_58 : decode cX3_takes 58 = .ok (.aload_n 0, 1) := by decide +kernel
theorem dX3_takes_59 : decode cX3_takes 59 = .ok (.iload_n 1, 1) := by decide +kernel
theorem dX3_takes_60 : decode cX3_takes 60 = .ok (.invokevirtual 65, 3) := by decide +kernel
theorem dX3_takes_63 : decode cX3_takes 63 = .ok (.ireturn, 1) := by decide +kernel
theorem dX3_takes_64 : decode cX3_takes 64 = .ok (.aload_n 0, 1) := by decide +kernel
theorem dX3_takes_65 : decode cX3_takes 65 = .ok (.iload_n 1, 1) := by decide +kernel
theorem dX3_takes_66 : decode cX3_takes 66 = .ok (.iconst 3, 1) := by decide +kernel
theorem dX3_takes_67 : decode cX3_takes 67 = .ok (.invokevirtual 68, 3) := by decide +kernel
theorem dX3_takes_70 : decode cX3_takes 70 = .ok (.ireturn, 1) := by decide +kernel
theorem dX3_takes_71 : decode cX3_takes 71 = .ok (.iload_n 1, 1) := by decide +kernel
theorem dX3_takes_72 : decode cX3_takes 72 = .ok (.bipush 32, 2) := by decide +kernel
theorem dX3_takes_74 : decode cX3_takes 74 = .ok (.if_icmp .ne 10, 3) := by decide +kernel
theorem dX3_takes_77 : decode cX3_takes 77 = .ok (.aload_n 0, 1) := by decide +kernel
theorem dX3_takes_78 : decode cX3_takes 78 = .ok (.invokevirtual 72, 3) := by decide +kernel
theorem dX3_takes_81 : decode cX3_takes 81 = .ok (.goto 8, 3) := by decide +kernel
theorem dX3_takes_84 : decode cX3_takes 84 = .ok (.aload_n 0, 1) := by decide +kernel
theorem dX3_takes_85 : decode cX3_takes 85 = .ok (.iload_n 1, 1) := by decide +kernel
theorem dX3_takes_86 : decode cX3_takes 86 = .ok (.invokevirtual 75, 3) := by decide +kernel
theorem dX3_takes_89 : decode cX3_takes 89 = .ok (.ireturn, 1) := by decide +kernel
theorem dX3_takes_90 : decode cX3_takes 90 = .ok (.aload_n 0, 1) := by decide +kernel
theorem dX3_takes_91 : decode cX3_takes 91 = .ok (.iload_n 1, 1) := by decide +kernel
theorem dX3_takes_92 : decode cX3_takes 92 = .ok (.invokevirtual 78, 3) := by decide +kernel
theorem dX3_takes_95 : decode cX3_takes 95 = .ok (.ireturn, 1) := by decide +kernel
theorem dX3_takes_96 : decode cX3_takes 96 = .ok (.aload_n 0, 1) := by decide +kernel
theorem dX3_takes_97 : decode cX3_takes 97 = .ok (.iload_n 1, 1) := by decide +kernel
theorem dX3_takes_98 : decode cX3_takes 98 = .ok (.invokevirtual 81, 3) := by decide +kernel
theorem dX3_takes_101 : decode cX3_takes 101 = .ok (.ireturn, 1) := by decide +kernel
theorem dX3_takes_102 : decode cX3_takes 102 = .ok (.aload_n 0, 1) := by decide +kernel
theorem dX3_takes_103 : decode cX3_takes 103 = .ok (.iload_n 1, 1) := by decide +kernel
theorem dX3_takes_104 : decode cX3_takes 104 = .ok (.bipush 7, 2) := by decide +kernel
theorem dX3_takes_106 : decode cX3_takes 106 = .ok (.invokevirtual 68, 3) := by decide +kernel
theorem dX3_takes_109 : decode cX3_takes 109 = .ok (.ireturn, 1) := by decide +kernel
theorem dX3_takes_110 : decode cX3_takes 110 = .ok (.aload_n 0, 1) := by decide +kernel
theorem dX3_takes_111 : decode cX3_takes 111 = .ok (.iload_n 1, 1) := by decide +kernel
theorem dX3_takes_112 : decode cX3_takes 112 = .ok (.invokevirtual 75, 3) := by decide +kernel
theorem dX3_takes_115 : decode cX3_takes 115 = .ok (.ifCond .eq 5, 3) := by decide +kernel
theorem dX3_takes_118 : decode cX3_takes 118 = .ok (.iconst 1, 1) := by decide +kernel
theorem dX3_takes_119 : decode cX3_takes 119 = .ok (.ireturn, 1) := by decide +kernel
theorem dX3_takes_120 : decode cX3_takes 120 = .ok (.aload_n 0, 1) := by decide +kernel
theorem dX3_takes_121 : decode cX3_takes 121 = .ok (.invokevirtual 84, 3) := by decide +kernel
theorem dX3_takes_124 : decode cX3_takes 124 = .ok (.aload_n 0, 1) := by decide +kernel
theorem dX3_takes_125 : decode cX3_takes 125 = .ok (.iload_n 1, 1) := by decide +kernel
theorem dX3_takes_126 : decode cX3_takes 126 = .ok (.invokevirtual 87, 3) := by decide +kernel
theorem dX3_takes_129 : decode cX3_takes 129 = .ok (.ireturn, 1) := by decide +kernel
theorem dX3_takes_130 : decode cX3_takes 130 = .ok (.aload_n 0, 1) := by decide +kernel
theorem dX3_takes_131 : decode cX3_takes 131 = .ok (.iload_n 1, 1) := by decide +kernel
theorem dX3_takes_132 : decode cX3_takes 132 = .ok (.invokevirtual 87, 3) := by decide +kernel
theorem dX3_takes_135 : decode cX3_takes 135 = .ok (.ireturn, 1) := by decide +kernel
abbrev rm_X3_takes : Room := { frames := 5, cells := 0, slots := 0, locals := 112 }
abbrev jJ_X3_takes (l : Launch) (G : jx_G) (t : jx_T) (sz : Nat) (out : (Int32 × jx_M)) (pc : Nat) (lv : List (Nat × Value)) (st : List Value) (σ : jx_M) : Prop := jx_J l (ll_env G t) (ll_dyn G t) (ll_rg G) sz RX3 "takes" cX3_takes 2 (some .boolean) rm_X3_takes (fun below args s => MQ below (jx_Qi (ll_dyn G t) out.2 out.1 (jx_A (ll_rg G) sz)) args s 0 0 (jx_A (ll_rg G) sz)) 0 0 pc lv st σ
def f_X3_takes (t : jx_T) (σ : jx_M) (a1 : Int32) : Option (Int32 × jx_M) :=
  if (σ 0 34) = (0 : Int32) then jx_bd (f_X3_takesWord t σ a1) (fun q1 => jx_gd (decide (q1.1 = 0 ∨ q1.1 = 1)) (some (q1.1, q1.2))) else if (σ 0 34) = (1 : Int32) then jx_bd (f_X3_takesLetter t σ a1) (fun q4 => jx_gd (decide (q4.1 = 0 ∨ q4.1 = 1)) (some (q4.1, q4.2))) else if (σ 0 34) = (2 : Int32) then jx_bd (f_X3_takesDigit t σ a1 (3 : Int32)) (fun q7 => jx_gd (decide (q7.1 = 0 ∨ q7.1 = 1)) (some (q7.1, q7.2))) else if (σ 0 34) = (3 : Int32) then if a1 = (32 : Int32) then jx_bd (f_X3_takesBlank t σ) (fun q13 => jx_gd (decide (q13.1 = 0 ∨ q13.1 = 1)) (some (q13.1, q13.2))) else jx_bd (f_X3_takesSecondDigit t σ a1) (fun q11 => jx_gd (decide (q11.1 = 0 ∨ q11.1 = 1)) (some (q11.1, q11.2))) else if (σ 0 34) = (4 : Int32) then jx_bd (f_X3_takesFactor t σ a1) (fun q16 => jx_gd (decide (q16.1 = 0 ∨ q16.1 = 1)) (some (q16.1, q16.2))) else if (σ 0 34) = (5 : Int32) then jx_bd (f_X3_takesRelation t σ a1) (fun q19 => jx_gd (decide (q19.1 = 0 ∨ q19.1 = 1)) (some (q19.1, q19.2))) else if (σ 0 34) = (6 : Int32) then jx_bd (f_X3_takesDigit t σ a1 (7 : Int32)) (fun q22 => jx_gd (decide (q22.1 = 0 ∨ q22.1 = 1)) (some (q22.1, q22.2))) else if (σ 0 34) = (7 : Int32) then jx_bd (f_X3_takesSecondDigit t σ a1) (fun q25 => if q25.1 = 0 then jx_bd (f_X3_endTest t q25.2) (fun q27 => jx_bd (f_X3_takesJoint t q27 a1) (fun q28 => jx_gd (decide (q28.1 = 0 ∨ q28.1 = 1)) (some (q28.1, q28.2)))) else some ((1 : Int32), q25.2)) else jx_bd (f_X3_takesJoint t σ a1) (fun q31 => jx_gd (decide (q31.1 = 0 ∨ q31.1 = 1)) (some (q31.1, q31.2)))
set_option maxHeartbeats 4000000 in
set_option maxRecDepth 100000 in
theorem k_X3_takes (l : Launch) (G : jx_G) (t : jx_T) (hG : ll_ok G) (sz : Nat) (σ : jx_M) (a1 : Int32) (out : (Int32 × jx_M)) (h : f_X3_takes t σ a1 = some out) : Met l yX3_takes (Cond.code yX3_takes cX3_takes 2 (some .boolean) :: jx_ws) rm_X3_takes (jx_Pc (ll_env G t) (ll_dyn G t) (ll_rg G) sz σ [.ref (G.2 25), .int a1]) (jx_Qi (ll_dyn G t) out.2 out.1 (jx_A (ll_rg G) sz)) 0 0 (jx_A (ll_rg G) sz) := by
  unfold f_X3_takes at h
  refine jx_met (by decide) (Nat.le_of_ble_eq_true rfl) ?_
  refine jx_sub (lv' := [(0, .ref (G.2 25)), (1, .int a1)]) [0, 1] rfl ?_
  refine jx_aload_n (pc := 0) (k0 := 0) rfl dX3_takes_0 ?_
  refine ll_greader_due (pc := 1) fl_X3_40 dX3_takes_1 ?_
  by_cases c3 : (σ 0 34) = (0 : Int32)
  · have h := jx_t c3 h
    refine jx_tabIn (pc := 4) (tgt := 52) dX3_takes_4 0 (by rw [c3]; rfl) (by decide) (by decide) rfl (by decide) ?_
    refine jx_aload_n (pc := 52) (k0 := 0) rfl dX3_takes_52 ?_
    refine jx_iload_n (pc := 53) (k0 := 1) rfl dX3_takes_53 ?_
    obtain ⟨q1, eq1, h⟩ := jx_bd_o h
    refine jx_callVi (pc := 54) [.int a1] (fun sz' => k_X3_takesWord l G t hG sz' σ a1 q1 eq1) kv_X3_62 ll_jok ll_rcreader rfl rfl (Nat.le_of_ble_eq_true rfl) ⟨⟨rfl, rfl⟩, ⟨Nat.le_of_ble_eq_true rfl, Nat.le_of_ble_eq_true rfl⟩, Nat.zero_le _, Nat.zero_le _⟩ dX3_takes_54 ?_
    obtain ⟨g2, h⟩ := jx_gd_o h
    have h := Option.some.inj h
    subst h
    exact jx_zret (pc := 57) (of_decide_eq_true g2) dX3_takes_57
  have h := jx_f c3 h
  by_cases c6 : (σ 0 34) = (1 : Int32)
  · have h := jx_t c6 h
    refine jx_tabIn (pc := 4) (tgt := 58) dX3_takes_4 1 (by rw [c6]; rfl) (by decide) (by decide) rfl (by decide) ?_
    refine jx_aload_n (pc := 58) (k0 := 0) rfl dX3_takes_58 ?_
    refine jx_iload_n (pc := 59) (k0 := 1) rfl dX3_takes_59 ?_
    obtain ⟨q4, eq4, h⟩ := jx_bd_o h
    refine jx_callVi (pc := 60) [.int a1] (fun sz' => k_X3_takesLetter l G t hG sz' σ a1 q4 eq4) kv_X3_65 ll_jok ll_rcreader rfl rfl (Nat.le_of_ble_eq_true rfl) ⟨⟨rfl, rfl⟩, ⟨Nat.le_of_ble_eq_true rfl, Nat.le_of_ble_eq_true rfl⟩, Nat.zero_le _, Nat.zero_le _⟩ dX3_takes_60 ?_
    obtain ⟨g5, h⟩ := jx_gd_o h
    have h := Option.some.inj h
    subst h
    exact jx_zret (pc := 63) (of_decide_eq_true g5) dX3_takes_63
  have h := jx_f c6 h
  by_cases c9 : (σ 0 34) = (2 : Int32)
  · have h := jx_t c9 h
    refine jx_tabIn (pc := 4) (tgt := 64) dX3_takes_4 2 (by rw [c9]; rfl) (by decide) (by decide) rfl (by decide) ?_
    refine jx_aload_n (pc := 64) (k0 := 0) rfl dX3_takes_64 ?_
    refine jx_iload_n (pc := 65) (k0 := 1) rfl dX3_takes_65 ?_
    refine jx_iconst (pc := 66) (v := (3 : Int32)) (by decide) dX3_takes_66 ?_
    obtain ⟨q7, eq7, h⟩ := jx_bd_o h
    refine jx_callVi (pc := 67) [.int a1, .int (3 : Int32)] (fun sz' => k_X3_takesDigit l G t hG sz' σ a1 (3 : Int32) q7 eq7) kv_X3_68 ll_jok ll_rcreader rfl rfl (Nat.le_of_ble_eq_true rfl) ⟨⟨rfl, rfl⟩, ⟨Nat.le_of_ble_eq_true rfl, Nat.le_of_ble_eq_true rfl⟩, Nat.zero_le _, Nat.zero_le _⟩ dX3_takes_67 ?_
    obtain ⟨g8, h⟩ := jx_gd_o h
    have h := Option.some.inj h
    subst h
    exact jx_zret (pc := 70) (of_decide_eq_true g8) dX3_takes_70
  have h := jx_f c9 h
  by_cases c15 : (σ 0 34) = (3 : Int32)
  · have h := jx_t c15 h
    refine jx_tabIn (pc := 4) (tgt := 71) dX3_takes_4 3 (by rw [c15]; rfl) (by decide) (by decide) rfl (by decide) ?_
    refine jx_iload_n (pc := 71) (k0 := 1) rfl dX3_takes_71 ?_
    refine jx_bipush (pc := 72) (v := (32 : Int32)) (by decide) dX3_takes_72 ?_
    refine jx_icmp_ne (pc := 74) (tgt := 84) dX3_takes_74 (by decide) (fun c10 => ?_) (fun c10 => ?_)
    · have h := jx_f c10 h
      refine jx_aload_n (pc := 84) (k0 := 0) rfl dX3_takes_84 ?_
      refine jx_iload_n (pc := 85) (k0 := 1) rfl dX3_takes_85 ?_
      obtain ⟨q11, eq11, h⟩ := jx_bd_o h
      refine jx_callVi (pc := 86) [.int a1] (fun sz' => k_X3_takesSecondDigit l G t hG sz' σ a1 q11 eq11) kv_X3_75 ll_jok ll_rcreader rfl rfl (Nat.le_of_ble_eq_true rfl) ⟨⟨rfl, rfl⟩, ⟨Nat.le_of_ble_eq_true rfl, Nat.le_of_ble_eq_true rfl⟩, Nat.zero_le _, Nat.zero_le _⟩ dX3_takes_86 ?_
      obtain ⟨g12, h⟩ := jx_gd_o h
      have h := Option.some.inj h
      subst h
      exact jx_zret (pc := 89) (of_decide_eq_true g12) dX3_takes_89
    · have h := jx_t c10 h
      refine jx_aload_n (pc := 77) (k0 := 0) rfl dX3_takes_77 ?_
      obtain ⟨q13, eq13, h⟩ := jx_bd_o h
      refine jx_callVi (pc := 78) [] (fun sz' => k_X3_takesBlank l G t hG sz' σ q13 eq13) kv_X3_72 ll_jok ll_rcreader rfl rfl (Nat.le_of_ble_eq_true rfl) ⟨⟨rfl, rfl⟩, ⟨Nat.le_of_ble_eq_true rfl, Nat.le_of_ble_eq_true rfl⟩, Nat.zero_le _, Nat.zero_le _⟩ dX3_takes_78 ?_
      refine jx_goto (pc := 81) (tgt := 89) dX3_takes_81 (by decide) ?_
      obtain ⟨g14, h⟩ := jx_gd_o h
      have h := Option.some.inj h
      subst h
      exact jx_zret (pc := 89) (of_decide_eq_true g14) dX3_takes_89
  have h := jx_f c15 h
  by_cases c18 : (σ 0 34) = (4 : Int32)
  · have h := jx_t c18 h
    refine jx_tabIn (pc := 4) (tgt := 90) dX3_takes_4 4 (by rw [c18]; rfl) (by decide) (by decide) rfl (by decide) ?_
    refine jx_aload_n (pc := 90) (k0 := 0) rfl dX3_takes_90 ?_
    refine jx_iload_n (pc := 91) (k0 := 1) rfl dX3_takes_91 ?_
    obtain ⟨q16, eq16, h⟩ := jx_bd_o h
    refine jx_callVi (pc := 92) [.int a1] (fun sz' => k_X3_takesFactor l G t hG sz' σ a1 q16 eq16) kv_X3_78 ll_jok ll_rcreader rfl rfl (Nat.le_of_ble_eq_true rfl) ⟨⟨rfl, rfl⟩, ⟨Nat.le_of_ble_eq_true rfl, Nat.le_of_ble_eq_true rfl⟩, Nat.zero_le _, Nat.zero_le _⟩ dX3_takes_92 ?_
    obtain ⟨g17, h⟩ := jx_gd_o h
    have h := Option.some.inj h
    subst h
    exact jx_zret (pc := 95) (of_decide_eq_true g17) dX3_takes_95
  have h := jx_f c18 h
  by_cases c21 : (σ 0 34) = (5 : Int32)
  · have h := jx_t c21 h
    refine jx_tabIn (pc := 4) (tgt := 96) dX3_takes_4 5 (by rw [c21]; rfl) (by decide) (by decide) rfl (by decide) ?_
    refine jx_aload_n (pc := 96) (k0 := 0) rfl dX3_takes_96 ?_
    refine jx_iload_n (pc := 97) (k0 := 1) rfl dX3_takes_97 ?_
    obtain ⟨q19, eq19, h⟩ := jx_bd_o h
    refine jx_callVi (pc := 98) [.int a1] (fun sz' => k_X3_takesRelation l G t hG sz' σ a1 q19 eq19) kv_X3_81 ll_jok ll_rcreader rfl rfl (Nat.le_of_ble_eq_true rfl) ⟨⟨rfl, rfl⟩, ⟨Nat.le_of_ble_eq_true rfl, Nat.le_of_ble_eq_true rfl⟩, Nat.zero_le _, Nat.zero_le _⟩ dX3_takes_98 ?_
    obtain ⟨g20, h⟩ := jx_gd_o h
    have h := Option.some.inj h
    subst h
    exact jx_zret (pc := 101) (of_decide_eq_true g20) dX3_takes_101
  have h := jx_f c21 h
  by_cases c24 : (σ 0 34) = (6 : Int32)
  · have h := jx_t c24 h
    refine jx_tabIn (pc := 4) (tgt := 102) dX3_takes_4 6 (by rw [c24]; rfl) (by decide) (by decide) rfl (by decide) ?_
    refine jx_aload_n (pc := 102) (k0 := 0) rfl dX3_takes_102 ?_
    refine jx_iload_n (pc := 103) (k0 := 1) rfl dX3_takes_103 ?_
    refine jx_bipush (pc := 104) (v := (7 : Int32)) (by decide) dX3_takes_104 ?_
    obtain ⟨q22, eq22, h⟩ := jx_bd_o h
    refine jx_callVi (pc := 106) [.int a1, .int (7 : Int32)] (fun sz' => k_X3_takesDigit l G t hG sz' σ a1 (7 : Int32) q22 eq22) kv_X3_68 ll_jok ll_rcreader rfl rfl (Nat.le_of_ble_eq_true rfl) ⟨⟨rfl, rfl⟩, ⟨Nat.le_of_ble_eq_true rfl, Nat.le_of_ble_eq_true rfl⟩, Nat.zero_le _, Nat.zero_le _⟩ dX3_takes_106 ?_
    obtain ⟨g23, h⟩ := jx_gd_o h
    have h := Option.some.inj h
    subst h
    exact jx_zret (pc := 109) (of_decide_eq_true g23) dX3_takes_109
  have h := jx_f c24 h
  by_cases c30 : (σ 0 34) = (7 : Int32)
  · have h := jx_t c30 h
    refine jx_tabIn (pc := 4) (tgt := 110) dX3_takes_4 7 (by rw [c30]; rfl) (by decide) (by decide) rfl (by decide) ?_
    refine jx_aload_n (pc := 110) (k0 := 0) rfl dX3_takes_110 ?_
    refine jx_iload_n (pc := 111) (k0 := 1) rfl dX3_takes_111 ?_
    obtain ⟨q25, eq25, h⟩ := jx_bd_o h
    refine jx_callVi (pc := 112) [.int a1] (fun sz' => k_X3_takesSecondDigit l G t hG sz' σ a1 q25 eq25) kv_X3_75 ll_jok ll_rcreader rfl rfl (Nat.le_of_ble_eq_true rfl) ⟨⟨rfl, rfl⟩, ⟨Nat.le_of_ble_eq_true rfl, Nat.le_of_ble_eq_true rfl⟩, Nat.zero_le _, Nat.zero_le _⟩ dX3_takes_112 ?_
    refine jx_if_eq (pc := 115) (tgt := 120) dX3_takes_115 (by decide) (fun c26 => ?_) (fun c26 => ?_)
    · have h := jx_t c26 h
      refine jx_aload_n (pc := 120) (k0 := 0) rfl dX3_takes_120 ?_
      obtain ⟨q27, eq27, h⟩ := jx_bd_o h
      refine jx_callVv (pc := 121) [] (fun sz' => k_X3_endTest l G t hG sz' q25.2 q27 eq27) kv_X3_84 ll_jok ll_rcreader rfl rfl (Nat.le_of_ble_eq_true rfl) ⟨⟨rfl, rfl⟩, ⟨Nat.le_of_ble_eq_true rfl, Nat.le_of_ble_eq_true rfl⟩, Nat.zero_le _, Nat.zero_le _⟩ dX3_takes_121 ?_
      refine jx_aload_n (pc := 124) (k0 := 0) rfl dX3_takes_124 ?_
      refine jx_iload_n (pc := 125) (k0 := 1) rfl dX3_takes_125 ?_
      obtain ⟨q28, eq28, h⟩ := jx_bd_o h
      refine jx_callVi (pc := 126) [.int a1] (fun sz' => k_X3_takesJoint l G t hG sz' q27 a1 q28 eq28) kv_X3_87 ll_jok ll_rcreader rfl rfl (Nat.le_of_ble_eq_true rfl) ⟨⟨rfl, rfl⟩, ⟨Nat.le_of_ble_eq_true rfl, Nat.le_of_ble_eq_true rfl⟩, Nat.zero_le _, Nat.zero_le _⟩ dX3_takes_126 ?_
      obtain ⟨g29, h⟩ := jx_gd_o h
      have h := Option.some.inj h
      subst h
      exact jx_zret (pc := 129) (of_decide_eq_true g29) dX3_takes_129
    · have h := jx_f c26 h
      refine jx_iconst (pc := 118) (v := (1 : Int32)) (by decide) dX3_takes_118 ?_
      have h := Option.some.inj h
      subst h
      exact jx_zret (pc := 119) (Or.inr rfl) dX3_takes_119
  have h := jx_f c30 h
  refine jx_tabOut (pc := 4) (tgt := 130) dX3_takes_4 (by have z0 := lv_neT c3 (show (0 : Int32).toInt = 0 from rfl); have z1 := lv_neT c6 (show (1 : Int32).toInt = 1 from rfl); have z2 := lv_neT c9 (show (2 : Int32).toInt = 2 from rfl); have z3 := lv_neT c15 (show (3 : Int32).toInt = 3 from rfl); have z4 := lv_neT c18 (show (4 : Int32).toInt = 4 from rfl); have z5 := lv_neT c21 (show (5 : Int32).toInt = 5 from rfl); have z6 := lv_neT c24 (show (6 : Int32).toInt = 6 from rfl); have z7 := lv_neT c30 (show (7 : Int32).toInt = 7 from rfl); omega) (by decide) ?_
  refine jx_aload_n (pc := 130) (k0 := 0) rfl dX3_takes_130 ?_
  refine jx_iload_n (pc := 131) (k0 := 1) rfl dX3_takes_131 ?_
  obtain ⟨q31, eq31, h⟩ := jx_bd_o h
  refine jx_callVi (pc := 132) [.int a1] (fun sz' => k_X3_takesJoint l G t hG sz' σ a1 q31 eq31) kv_X3_87 ll_jok ll_rcreader rfl rfl (Nat.le_of_ble_eq_true rfl) ⟨⟨rfl, rfl⟩, ⟨Nat.le_of_ble_eq_true rfl, Nat.le_of_ble_eq_true rfl⟩, Nat.zero_le _, Nat.zero_le _⟩ dX3_takes_132 ?_
  obtain ⟨g32, h⟩ := jx_gd_o h
  have h := Option.some.inj h
  subst h
  exact jx_zret (pc := 135) (of_decide_eq_true g32) dX3_takes_135
theorem dX5_of_0 : decode cX5_of 0 = .ok (.aload_n 0, 1) := by decide +kernel
theorem dX5_of_1 : decode cX5_of 1 = .ok (.getfield 12, 3) := by decide +kernel
theorem dX5_of_4 : decode cX5_of 4 = .ok (.iload_n 1, 1) := by decide +kernel
theorem dX5_of_5 : decode cX5_of 5 = .ok (.invokevirtual 119, 3) := by decide +kernel
theorem dX5_of_8 : decode cX5_of 8 = .ok (.ifCond .ne 5, 3) := by decide +kernel
theorem dX5_of_11 : decode cX5_of 11 = .ok (.iconst (-1), 1) := by decide +kernel
theorem dX5_of_12 : decode cX5_of 12 = .ok (.ireturn, 1) := by decide +kernel
theorem dX5_of_13 : decode cX5_of 13 = .ok (.iload_n 2, 1) := by decide +kernel
theorem dX5_of_14 : decode cX5_of 14 = .ok (.tableswitch 100 0 7 #[46, 46, 46, 46, 46, 58, 67, 76], 46) := by decide +kernel
theorem dX5_of_60 : decode cX5_of 60 = .ok (.aload_n 0, 1) := by decide +kernel
theorem dX5_of_61 : decode cX5_of 61 = .ok (.getfield 12, 3) := by decide +kernel
theorem dX5_of_64 : decode cX5_of 64 = .ok (.getfield 110, 3) := by decide +kernel
theorem dX5_of_67 : decode cX5_of 67 = .ok (.iload_n 1, 1) := by decide +kernel
theorem dX5_of_68 : decode cX5_of 68 = .ok (.aaload, 1) := by decide +kernel
theorem dX5_of_69 : decode cX5_of 69 = .ok (.iload_n 2, 1) := by decide +kernel
theorem dX5_of_70 : decode cX5_of 70 = .ok (.iaload, 1) := by decide +kernel
theorem dX5_of_71 : decode cX5_of 71 = .ok (.ireturn, 1) := by decide +kernel
theorem dX5_of_72 : decode cX5_of 72 = .ok (.aload_n 0, 1) := by decide +kernel
theorem dX5_of_73 : decode cX5_of 73 = .ok (.getfield 12, 3) := by decide +kernel
theorem dX5_of_76 : decode cX5_of 76 = .ok (.iload_n 1, 1) := by decide +kernel
theorem dX5_of_77 : decode cX5_of 77 = .ok (.invokevirtual 122, 3) := by decide +kernel
theorem dX5_of_80 : decode cX5_of 80 = .ok (.ireturn, 1) := by decide +kernel
theorem dX5_of_81 : decode cX5_of 81 = .ok (.aload_n 0, 1) := by decide +kernel
theorem dX5_of_82 : decode cX5_of 82 = .ok (.getfield 12, 3) := by decide +kernel
theorem dX5_of_85 : decode cX5_of 85 = .ok (.iload_n 1, 1) := by decide +kernel
theorem dX5_of_86 : decode cX5_of 86 = .ok (.invokevirtual 126, 3) := by decide +kernel
theorem dX5_of_89 : decode cX5_of 89 = .ok (.ireturn, 1) := by decide +kernel
theorem dX5_of_90 : decode cX5_of 90 = .ok (.aload_n 0, 1) := by decide +kernel
theorem dX5_of_91 : decode cX5_of 91 = .ok (.getfield 26, 3) := by decide +kernel
theorem dX5_of_94 : decode cX5_of 94 = .ok (.invokevirtual 129, 3) := by decide +kernel
theorem dX5_of_97 : decode cX5_of 97 = .ok (.aload_n 0, 1) := by decide +kernel
theorem dX5_of_98 : decode cX5_of 98 = .ok (.getfield 26, 3) := by decide +kernel
theorem dX5_of_101 : decode cX5_of 101 = .ok (.iload_n 1, 1) := by decide +kernel
theorem dX5_of_102 : decode cX5_of 102 = .ok (.aload_n 0, 1) := by decide +kernel
theorem dX5_of_103 : decode cX5_of 103 = .ok (.getfield 12, 3) := by decide +kernel
theorem dX5_of_106 : decode cX5_of 106 = .ok (.iload_n 1, 1) := by decide +kernel
theorem dX5_of_107 : decode cX5_of 107 = .ok (.invokevirtual 122, 3) := by decide +kernel
theorem dX5_of_110 : decode cX5_of 110 = .ok (.invokevirtual 132, 3) := by decide +kernel
theorem dX5_of_113 : decode cX5_of 113 = .ok (.ireturn, 1) := by decide +kernel
theorem dX5_of_114 : decode cX5_of 114 = .ok (.iconst (-1), 1) := by decide +kernel
theorem dX5_of_115 : decode cX5_of 115 = .ok (.ireturn, 1) := by decide +kernel
abbrev rm_X5_of : Room := { frames := 4, cells := 0, slots := 0, locals := 96 }
abbrev jJ_X5_of (l : Launch) (G : jx_G) (t : jx_T) (sz : Nat) (out : (Int32 × jx_M)) (pc : Nat) (lv : List (Nat × Value)) (st : List Value) (σ : jx_M) : Prop := jx_J l (ll_env G t) (ll_dyn G t) (ll_rg G) sz RX5 "of" cX5_of 3 (some .int) rm_X5_of (fun below args s => MQ below (jx_Qi (ll_dyn G t) out.2 out.1 (jx_A (ll_rg G) sz)) args s 0 0 (jx_A (ll_rg G) sz)) 0 0 pc lv st σ
def b_X5_of_60 (t : jx_T)  (σ : jx_M) (v1 : Int32) (v2 : Int32) : Option (Int32 × jx_M) :=
  jx_gd (jx_in v1 6) (jx_gd (jx_in v2 (ll_len (8 + v1.toNatClampNeg))) (some ((σ (8 + v1.toNatClampNeg) v2.toNatClampNeg), σ)))
set_option maxHeartbeats 4000000 in
set_option maxRecDepth 100000 in
theorem jb_X5_of_60 (l : Launch) (G : jx_G) (t : jx_T) (hG : ll_ok G) (sz : Nat) (out : (Int32 × jx_M))  (σ : jx_M) (v1 : Int32) (v2 : Int32) (h : b_X5_of_60 t σ v1 v2 = some out) : jJ_X5_of l G t sz out 60 [(0, .ref (G.2 20)), (1, .int v1), (2, .int v2)] [] σ := by
  unfold b_X5_of_60 at h
  refine jx_aload_n (pc := 60) (k0 := 0) rfl dX5_of_60 ?_
  refine ll_glamp_now (pc := 61) fl_X5_12 dX5_of_61 ?_
  refine ll_gnow_voter (pc := 64) fl_X5_110 dX5_of_64 ?_
  refine jx_iload_n (pc := 67) (k0 := 1) rfl dX5_of_67 ?_
  obtain ⟨g1, h⟩ := jx_gd_o h
  refine ll_a_now_voter (pc := 68) (jx_in_o g1) dX5_of_68 ?_
  refine jx_iload_n (pc := 69) (k0 := 2) rfl dX5_of_69 ?_
  obtain ⟨g2, h⟩ := jx_gd_o h
  refine ll_l (pc := 70) (k := (8 + v1.toNatClampNeg)) (jx_in_o g2) rfl dX5_of_70 ?_
  have h := Option.some.inj h
  subst h
  exact jx_iret (pc := 71) dX5_of_71
def f_X5_of (t : jx_T) (σ : jx_M) (a1 : Int32) (a2 : Int32) : Option (Int32 × jx_M) :=
  jx_bd (f_X1_hasVoter t σ a1) (fun q1 => if q1 = 0 then some ((-1 : Int32), σ) else if a2 = (0 : Int32) then (b_X5_of_60 t σ a1 a2) else if a2 = (1 : Int32) then (b_X5_of_60 t σ a1 a2) else if a2 = (2 : Int32) then (b_X5_of_60 t σ a1 a2) else if a2 = (3 : Int32) then (b_X5_of_60 t σ a1 a2) else if a2 = (4 : Int32) then (b_X5_of_60 t σ a1 a2) else if a2 = (5 : Int32) then jx_bd (f_X1_setsAt t σ a1) (fun q8 => some (q8, σ)) else if a2 = (6 : Int32) then jx_bd (f_X1_delay t σ a1) (fun q10 => some (q10, σ)) else if a2 = (7 : Int32) then jx_bd (f_X2_chart t σ) (fun q12 => jx_bd (f_X1_setsAt t q12 a1) (fun q13 => jx_bd (f_X2_burns t q12 a1 q13) (fun q14 => some (q14, q12)))) else some ((-1 : Int32), σ))
set_option maxHeartbeats 4000000 in
set_option maxRecDepth 100000 in
theorem k_X5_of (l : Launch) (G : jx_G) (t : jx_T) (hG : ll_ok G) (sz : Nat) (σ : jx_M) (a1 : Int32) (a2 : Int32) (out : (Int32 × jx_M)) (h : f_X5_of t σ a1 a2 = some out) : Met l yX5_of (Cond.code yX5_of cX5_of 3 (some .int) :: jx_ws) rm_X5_of (jx_Pc (ll_env G t) (ll_dyn G t) (ll_rg G) sz σ [.ref (G.2 20), .int a1, .int a2]) (jx_Qi (ll_dyn G t) out.2 out.1 (jx_A (ll_rg G) sz)) 0 0 (jx_A (ll_rg G) sz) := by
  unfold f_X5_of at h
  refine jx_met (by decide) (Nat.le_of_ble_eq_true rfl) ?_
  refine jx_sub (lv' := [(0, .ref (G.2 20)), (1, .int a1), (2, .int a2)]) [0, 1, 2] rfl ?_
  refine jx_aload_n (pc := 0) (k0 := 0) rfl dX5_of_0 ?_
  refine ll_glamp_now (pc := 1) fl_X5_12 dX5_of_1 ?_
  refine jx_iload_n (pc := 4) (k0 := 1) rfl dX5_of_4 ?_
  obtain ⟨q1, eq1, h⟩ := jx_bd_o h
  refine jx_callVi (pc := 5) [.int a1] (fun sz' => k_X1_hasVoter l G t hG sz' σ a1 q1 eq1) kv_X5_119 ll_jok ll_rcnow rfl rfl (Nat.le_of_ble_eq_true rfl) ⟨⟨rfl, rfl⟩, ⟨Nat.le_of_ble_eq_true rfl, Nat.le_of_ble_eq_true rfl⟩, Nat.zero_le _, Nat.zero_le _⟩ dX5_of_5 ?_
  refine jx_if_ne (pc := 8) (tgt := 13) dX5_of_8 (by decide) (fun c2 => ?_) (fun c2 => ?_)
  · have h := jx_f c2 h
    refine jx_iload_n (pc := 13) (k0 := 2) rfl dX5_of_13 ?_
    by_cases c3 : a2 = (0 : Int32)
    · have h := jx_t c3 h
      refine jx_tabIn (pc := 14) (tgt := 60) dX5_of_14 0 (by rw [c3]; rfl) (by decide) (by decide) rfl (by decide) ?_
      exact jx_sub [0, 1, 2] rfl (jb_X5_of_60 l G t hG sz out σ a1 a2 h)
    have h := jx_f c3 h
    by_cases c4 : a2 = (1 : Int32)
    · have h := jx_t c4 h
      refine jx_tabIn (pc := 14) (tgt := 60) dX5_of_14 1 (by rw [c4]; rfl) (by decide) (by decide) rfl (by decide) ?_
      exact jx_sub [0, 1, 2] rfl (jb_X5_of_60 l G t hG sz out σ a1 a2 h)
    have h := jx_f c4 h
    by_cases c5 : a2 = (2 : Int32)
    · have h := jx_t c5 h
      refine jx_tabIn (pc := 14) (tgt := 60) dX5_of_14 2 (by rw [c5]; rfl) (by decide) (by decide) rfl (by decide) ?_
      exact jx_sub [0, 1, 2] rfl (jb_X5_of_60 l G t hG sz out σ a1 a2 h)
    have h := jx_f c5 h
    by_cases c6 : a2 = (3 : Int32)
    · have h := jx_t c6 h
      refine jx_tabIn (pc := 14) (tgt := 60) dX5_of_14 3 (by rw [c6]; rfl) (by decide) (by decide) rfl (by decide) ?_
      exact jx_sub [0, 1, 2] rfl (jb_X5_of_60 l G t hG sz out σ a1 a2 h)
    have h := jx_f c6 h
    by_cases c7 : a2 = (4 : Int32)
    · have h := jx_t c7 h
      refine jx_tabIn (pc := 14) (tgt := 60) dX5_of_14 4 (by rw [c7]; rfl) (by decide) (by decide) rfl (by decide) ?_
      exact jx_sub [0, 1, 2] rfl (jb_X5_of_60 l G t hG sz out σ a1 a2 h)
    have h := jx_f c7 h
    by_cases c9 : a2 = (5 : Int32)
    · have h := jx_t c9 h
      refine jx_tabIn (pc := 14) (tgt := 72) dX5_of_14 5 (by rw [c9]; rfl) (by decide) (by decide) rfl (by decide) ?_
      refine jx_aload_n (pc := 72) (k0 := 0) rfl dX5_of_72 ?_
      refine ll_glamp_now (pc := 73) fl_X5_12 dX5_of_73 ?_
      refine jx_iload_n (pc := 76) (k0 := 1) rfl dX5_of_76 ?_
      obtain ⟨q8, eq8, h⟩ := jx_bd_o h
      refine jx_callVi (pc := 77) [.int a1] (fun sz' => k_X1_setsAt l G t hG sz' σ a1 q8 eq8) kv_X5_122 ll_jok ll_rcnow rfl rfl (Nat.le_of_ble_eq_true rfl) ⟨⟨rfl, rfl⟩, ⟨Nat.le_of_ble_eq_true rfl, Nat.le_of_ble_eq_true rfl⟩, Nat.zero_le _, Nat.zero_le _⟩ dX5_of_77 ?_
      have h := Option.some.inj h
      subst h
      exact jx_iret (pc := 80) dX5_of_80
    have h := jx_f c9 h
    by_cases c11 : a2 = (6 : Int32)
    · have h := jx_t c11 h
      refine jx_tabIn (pc := 14) (tgt := 81) dX5_of_14 6 (by rw [c11]; rfl) (by decide) (by decide) rfl (by decide) ?_
      refine jx_aload_n (pc := 81) (k0 := 0) rfl dX5_of_81 ?_
      refine ll_glamp_now (pc := 82) fl_X5_12 dX5_of_82 ?_
      refine jx_iload_n (pc := 85) (k0 := 1) rfl dX5_of_85 ?_
      obtain ⟨q10, eq10, h⟩ := jx_bd_o h
      refine jx_callVi (pc := 86) [.int a1] (fun sz' => k_X1_delay l G t hG sz' σ a1 q10 eq10) kv_X5_126 ll_jok ll_rcnow rfl rfl (Nat.le_of_ble_eq_true rfl) ⟨⟨rfl, rfl⟩, ⟨Nat.le_of_ble_eq_true rfl, Nat.le_of_ble_eq_true rfl⟩, Nat.zero_le _, Nat.zero_le _⟩ dX5_of_86 ?_
      have h := Option.some.inj h
      subst h
      exact jx_iret (pc := 89) dX5_of_89
    have h := jx_f c11 h
    by_cases c15 : a2 = (7 : Int32)
    · have h := jx_t c15 h
      refine jx_tabIn (pc := 14) (tgt := 90) dX5_of_14 7 (by rw [c15]; rfl) (by decide) (by decide) rfl (by decide) ?_
      refine jx_aload_n (pc := 90) (k0 := 0) rfl dX5_of_90 ?_
      refine ll_glamp_night (pc := 91) fl_X5_26 dX5_of_91 ?_
      obtain ⟨q12, eq12, h⟩ := jx_bd_o h
      refine jx_callVv (pc := 94) [] (fun sz' => k_X2_chart l G t hG sz' σ q12 eq12) kv_X5_129 ll_jok ll_rcnight rfl rfl (Nat.le_of_ble_eq_true rfl) ⟨⟨rfl, rfl⟩, ⟨Nat.le_of_ble_eq_true rfl, Nat.le_of_ble_eq_true rfl⟩, Nat.zero_le _, Nat.zero_le _⟩ dX5_of_94 ?_
      refine jx_aload_n (pc := 97) (k0 := 0) rfl dX5_of_97 ?_
      refine ll_glamp_night (pc := 98) fl_X5_26 dX5_of_98 ?_
      refine jx_iload_n (pc := 101) (k0 := 1) rfl dX5_of_101 ?_
      refine jx_aload_n (pc := 102) (k0 := 0) rfl dX5_of_102 ?_
      refine ll_glamp_now (pc := 103) fl_X5_12 dX5_of_103 ?_
      refine jx_iload_n (pc := 106) (k0 := 1) rfl dX5_of_106 ?_
      obtain ⟨q13, eq13, h⟩ := jx_bd_o h
      refine jx_callVi (pc := 107) [.int a1] (fun sz' => k_X1_setsAt l G t hG sz' q12 a1 q13 eq13) kv_X5_122 ll_jok ll_rcnow rfl rfl (Nat.le_of_ble_eq_true rfl) ⟨⟨rfl, rfl⟩, ⟨Nat.le_of_ble_eq_true rfl, Nat.le_of_ble_eq_true rfl⟩, Nat.zero_le _, Nat.zero_le _⟩ dX5_of_107 ?_
      obtain ⟨q14, eq14, h⟩ := jx_bd_o h
      refine jx_callVi (pc := 110) [.int a1, .int q13] (fun sz' => k_X2_burns l G t hG sz' q12 a1 q13 q14 eq14) kv_X5_132 ll_jok ll_rcnight rfl rfl (Nat.le_of_ble_eq_true rfl) ⟨⟨rfl, rfl⟩, ⟨Nat.le_of_ble_eq_true rfl, Nat.le_of_ble_eq_true rfl⟩, Nat.zero_le _, Nat.zero_le _⟩ dX5_of_110 ?_
      have h := Option.some.inj h
      subst h
      exact jx_iret (pc := 113) dX5_of_113
    have h := jx_f c15 h
    refine jx_tabOut (pc := 14) (tgt := 114) dX5_of_14 (by have z0 := lv_neT c3 (show (0 : Int32).toInt = 0 from rfl); have z1 := lv_neT c4 (show (1 : Int32).toInt = 1 from rfl); have z2 := lv_neT c5 (show (2 : Int32).toInt = 2 from rfl); have z3 := lv_neT c6 (show (3 : Int32).toInt = 3 from rfl); have z4 := lv_neT c7 (show (4 : Int32).toInt = 4 from rfl); have z5 := lv_neT c9 (show (5 : Int32).toInt = 5 from rfl); have z6 := lv_neT c11 (show (6 : Int32).toInt = 6 from rfl); have z7 := lv_neT c15 (show (7 : Int32).toInt = 7 from rfl); omega) (by decide) ?_
    refine jx_iconst (pc := 114) (v := (-1 : Int32)) (by decide) dX5_of_114 ?_
    have h := Option.some.inj h
    subst h
    exact jx_iret (pc := 115) dX5_of_115
  · have h := jx_t c2 h
    refine jx_iconst (pc := 11) (v := (-1 : Int32)) (by decide) dX5_of_11 ?_
    have h := Option.some.inj h
    subst h
    exact jx_iret (pc := 12) dX5_of_12
theorem dX5_drifts_0 : decode cX5_drifts 0 = .ok (.aload_n 0, 1) := by decide +kernel
theorem dX5_drifts_1 : decode cX5_drifts 1 = .ok (.getfield 12, 3) := by decide +kernel
theorem dX5_drifts_4 : decode cX5_drifts 4 = .ok (.iload_n 1, 1) := by decide +kernel
theorem dX5_drifts_5 : decode cX5_drifts 5 = .ok (.invokevirtual 85, 3) := by decide +kernel
theorem dX5_drifts_8 : decode cX5_drifts 8 = .ok (.ifCond .ne 5, 3) := by decide +kernel
theorem dX5_drifts_11 : decode cX5_drifts 11 = .ok (.iconst (-1), 1) := by decide +kernel
theorem dX5_drifts_12 : decode cX5_drifts 12 = .ok (.ireturn, 1) := by decide +kernel
theorem dX5_drifts_13 : decode cX5_drifts 13 = .ok (.iload_n 2, 1) := by decide +kernel
theorem dX5_drifts_14 : decode cX5_drifts 14 = .ok (.iconst 0, 1) := by decide +kernel
theorem dX5_drifts_15 : decode cX5_drifts 15 = .ok (.bipush 12, 2) := by decide +kernel
theorem dX5_drifts_17 : decode cX5_drifts 17 = .ok (.invokestatic 48, 3) := by decide +kernel
theorem dX5_drifts_20 : decode cX5_drifts 20 = .ok (.ifCond .ne 6, 3) := by decide +kernel
theorem dX5_drifts_23 : decode cX5_drifts 23 = .ok (.bipush (-2), 2) := by decide +kernel
theorem dX5_drifts_25 : decode cX5_drifts 25 = .ok (.ireturn, 1) := by decide +kernel
theorem dX5_drifts_26 : decode cX5_drifts 26 = .ok (.aload_n 0, 1) := by decide +kernel
theorem dX5_drifts_27 : decode cX5_drifts 27 = .ok (.getfield 26, 3) := by decide +kernel
theorem dX5_drifts_30 : decode cX5_drifts 30 = .ok (.invokevirtual 129, 3) := by decide +kernel
theorem dX5_drifts_33 : decode cX5_drifts 33 = .ok (.aload_n 0, 1) := by decide +kernel
theorem dX5_drifts_34 : decode cX5_drifts 34 = .ok (.getfield 26, 3) := by decide +kernel
theorem dX5_drifts_37 : decode cX5_drifts 37 = .ok (.iload_n 1, 1) := by decide +kernel
theorem dX5_drifts_38 : decode cX5_drifts 38 = .ok (.iconst 0, 1) := by decide +kernel
theorem dX5_drifts_39 : decode cX5_drifts 39 = .ok (.iload_n 2, 1) := by decide +kernel
theorem dX5_drifts_40 : decode cX5_drifts 40 = .ok (.invokevirtual 157, 3) := by decide +kernel
theorem dX5_drifts_43 : decode cX5_drifts 43 = .ok (.ireturn, 1) := by decide +kernel
abbrev rm_X5_drifts : Room := { frames := 4, cells := 0, slots := 0, locals := 96 }
abbrev jJ_X5_drifts (l : Launch) (G : jx_G) (t : jx_T) (sz : Nat) (out : (Int32 × jx_M)) (pc : Nat) (lv : List (Nat × Value)) (st : List Value) (σ : jx_M) : Prop := jx_J l (ll_env G t) (ll_dyn G t) (ll_rg G) sz RX5 "drifts" cX5_drifts 3 (some .int) rm_X5_drifts (fun below args s => MQ below (jx_Qi (ll_dyn G t) out.2 out.1 (jx_A (ll_rg G) sz)) args s 0 0 (jx_A (ll_rg G) sz)) 0 0 pc lv st σ
def f_X5_drifts (t : jx_T) (σ : jx_M) (a1 : Int32) (a2 : Int32) : Option (Int32 × jx_M) :=
  jx_bd (f_X1_hasPlace t σ a1) (fun q1 => if q1 = 0 then some ((-1 : Int32), σ) else jx_bd (f_X5_within a2 (0 : Int32) (12 : Int32)) (fun q3 => if q3 = 0 then some ((-2 : Int32), σ) else jx_bd (f_X2_chart t σ) (fun q5 => jx_bd (f_X2_afloat t q5 a1 (0 : Int32) a2) (fun q6 => some (q6, q5)))))
set_option maxHeartbeats 4000000 in
set_option maxRecDepth 100000 in
theorem k_X5_drifts (l : Launch) (G : jx_G) (t : jx_T) (hG : ll_ok G) (sz : Nat) (σ : jx_M) (a1 : Int32) (a2 : Int32) (out : (Int32 × jx_M)) (h : f_X5_drifts t σ a1 a2 = some out) : Met l yX5_drifts (Cond.code yX5_drifts cX5_drifts 3 (some .int) :: jx_ws) rm_X5_drifts (jx_Pc (ll_env G t) (ll_dyn G t) (ll_rg G) sz σ [.ref (G.2 20), .int a1, .int a2]) (jx_Qi (ll_dyn G t) out.2 out.1 (jx_A (ll_rg G) sz)) 0 0 (jx_A (ll_rg G) sz) := by
  unfold f_X5_drifts at h
  refine jx_met (by decide) (Nat.le_of_ble_eq_true rfl) ?_
  refine jx_sub (lv' := [(0, .ref (G.2 20)), (1, .int a1), (2, .int a2)]) [0, 1, 2] rfl ?_
  refine jx_aload_n (pc := 0) (k0 := 0) rfl dX5_drifts_0 ?_
  refine ll_glamp_now (pc := 1) fl_X5_12 dX5_drifts_1 ?_
  refine jx_iload_n (pc := 4) (k0 := 1) rfl dX5_drifts_4 ?_
  obtain ⟨q1, eq1, h⟩ := jx_bd_o h
  refine jx_callVi (pc := 5) [.int a1] (fun sz' => k_X1_hasPlace l G t hG sz' σ a1 q1 eq1) kv_X5_85 ll_jok ll_rcnow rfl rfl (Nat.le_of_ble_eq_true rfl) ⟨⟨rfl, rfl⟩, ⟨Nat.le_of_ble_eq_true rfl, Nat.le_of_ble_eq_true rfl⟩, Nat.zero_le _, Nat.zero_le _⟩ dX5_drifts_5 ?_
  refine jx_if_ne (pc := 8) (tgt := 13) dX5_drifts_8 (by decide) (fun c2 => ?_) (fun c2 => ?_)
  · have h := jx_f c2 h
    refine jx_iload_n (pc := 13) (k0 := 2) rfl dX5_drifts_13 ?_
    refine jx_iconst (pc := 14) (v := (0 : Int32)) (by decide) dX5_drifts_14 ?_
    refine jx_bipush (pc := 15) (v := (12 : Int32)) (by decide) dX5_drifts_15 ?_
    obtain ⟨q3, eq3, h⟩ := jx_bd_o h
    refine jx_callSi (pc := 17) [.int a2, .int (0 : Int32), .int (12 : Int32)] (fun sz' => k_X5_within l G t hG sz' σ a2 (0 : Int32) (12 : Int32) q3 eq3) ks_X5_48 ll_jok rfl rfl (Nat.le_of_ble_eq_true rfl) ⟨⟨rfl, rfl⟩, ⟨Nat.le_of_ble_eq_true rfl, Nat.le_of_ble_eq_true rfl⟩, Nat.zero_le _, Nat.zero_le _⟩ dX5_drifts_17 ?_
    refine jx_if_ne (pc := 20) (tgt := 26) dX5_drifts_20 (by decide) (fun c4 => ?_) (fun c4 => ?_)
    · have h := jx_f c4 h
      refine jx_aload_n (pc := 26) (k0 := 0) rfl dX5_drifts_26 ?_
      refine ll_glamp_night (pc := 27) fl_X5_26 dX5_drifts_27 ?_
      obtain ⟨q5, eq5, h⟩ := jx_bd_o h
      refine jx_callVv (pc := 30) [] (fun sz' => k_X2_chart l G t hG sz' σ q5 eq5) kv_X5_129 ll_jok ll_rcnight rfl rfl (Nat.le_of_ble_eq_true rfl) ⟨⟨rfl, rfl⟩, ⟨Nat.le_of_ble_eq_true rfl, Nat.le_of_ble_eq_true rfl⟩, Nat.zero_le _, Nat.zero_le _⟩ dX5_drifts_30 ?_
      refine jx_aload_n (pc := 33) (k0 := 0) rfl dX5_drifts_33 ?_
      refine ll_glamp_night (pc := 34) fl_X5_26 dX5_drifts_34 ?_
      refine jx_iload_n (pc := 37) (k0 := 1) rfl dX5_drifts_37 ?_
      refine jx_iconst (pc := 38) (v := (0 : Int32)) (by decide) dX5_drifts_38 ?_
      refine jx_iload_n (pc := 39) (k0 := 2) rfl dX5_drifts_39 ?_
      obtain ⟨q6, eq6, h⟩ := jx_bd_o h
      refine jx_callVi (pc := 40) [.int a1, .int (0 : Int32), .int a2] (fun sz' => k_X2_afloat l G t hG sz' q5 a1 (0 : Int32) a2 q6 eq6) kv_X5_157 ll_jok ll_rcnight rfl rfl (Nat.le_of_ble_eq_true rfl) ⟨⟨rfl, rfl⟩, ⟨Nat.le_of_ble_eq_true rfl, Nat.le_of_ble_eq_true rfl⟩, Nat.zero_le _, Nat.zero_le _⟩ dX5_drifts_40 ?_
      have h := Option.some.inj h
      subst h
      exact jx_iret (pc := 43) dX5_drifts_43
    · have h := jx_t c4 h
      refine jx_bipush (pc := 23) (v := (-2 : Int32)) (by decide) dX5_drifts_23 ?_
      have h := Option.some.inj h
      subst h
      exact jx_iret (pc := 25) dX5_drifts_25
  · have h := jx_t c2 h
    refine jx_iconst (pc := 11) (v := (-1 : Int32)) (by decide) dX5_drifts_11 ?_
    have h := Option.some.inj h
    subst h
    exact jx_iret (pc := 12) dX5_drifts_12
theorem dX2_turning_0 : decode cX2_turning 0 = .ok (.aload_n 0, 1) := by decide +kernel
theorem dX2_turning_1 : decode cX2_turning 1 = .ok (.invokevirtual 103, 3) := by decide +kernel
theorem dX2_turning_4 : decode cX2_turning 4 = .ok (.aload_n 0, 1) := by decide +kernel
theorem dX2_turning_5 : decode cX2_turning 5 = .ok (.getfield 36, 3) := by decide +kernel
theorem dX2_turning_8 : decode cX2_turning 8 = .ok (.invokevirtual 96, 3) := by decide +kernel
theorem dX2_turning_11 : decode cX2_turning 11 = .ok (.istore_n 1, 1) := by decide +kernel
theorem dX2_turning_12 : decode cX2_turning 12 = .ok (.aload_n 0, 1) := by decide +kernel
theorem dX2_turning_13 : decode cX2_turning 13 = .ok (.iload_n 1, 1) := by decide +kernel
theorem dX2_turning_14 : decode cX2_turning 14 = .ok (.invokevirtual 106, 3) := by decide +kernel
theorem dX2_turning_17 : decode cX2_turning 17 = .ok (.istore_n 2, 1) := by decide +kernel
theorem dX2_turning_18 : decode cX2_turning 18 = .ok (.bipush (-5), 2) := by decide +kernel
theorem dX2_turning_20 : decode cX2_turning 20 = .ok (.istore_n 3, 1) := by decide +kernel
theorem dX2_turning_21 : decode cX2_turning 21 = .ok (.aload_n 0, 1) := by decide +kernel
theorem dX2_turning_22 : decode cX2_turning 22 = .ok (.getfield 36, 3) := by decide +kernel
theorem dX2_turning_25 : decode cX2_turning 25 = .ok (.getfield 74, 3) := by decide +kernel
theorem dX2_turning_28 : decode cX2_turning 28 = .ok (.iconst 1, 1) := by decide +kernel
theorem dX2_turning_29 : decode cX2_turning 29 = .ok (.iadd, 1) := by decide +kernel
theorem dX2_turning_30 : decode cX2_turning 30 = .ok (.istore 4, 2) := by decide +kernel
theorem dX2_turning_32 : decode cX2_turning 32 = .ok (.iconst 1, 1) := by decide +kernel
theorem dX2_turning_33 : decode cX2_turning 33 = .ok (.istore 5, 2) := by decide +kernel
theorem dX2_turning_35 : decode cX2_turning 35 = .ok (.iload 5, 2) := by decide +kernel
theorem dX2_turning_37 : decode cX2_turning 37 = .ok (.iconst 1, 1) := by decide +kernel
theorem dX2_turning_38 : decode cX2_turning 38 = .ok (.aload_n 0, 1) := by decide +kernel
theorem dX2_turning_39 : decode cX2_turning 39 = .ok (.getfield 36, 3) := by decide +kernel
theorem dX2_turning_42 : decode cX2_turning 42 = .ok (.getfield 74, 3) := by decide +kernel
theorem dX2_turning_45 : decode cX2_turning 45 = .ok (.ishl, 1) := by decide +kernel
theorem dX2_turning_46 : decode cX2_turning 46 = .ok (.if_icmp .ge 64, 3) := by decide +kernel
theorem dX2_turning_49 : decode cX2_turning 49 = .ok (.aload_n 0, 1) := by decide +kernel
theorem dX2_turning_50 : decode cX2_turning 50 = .ok (.iload_n 1, 1) := by decide +kernel
theorem dX2_turning_51 : decode cX2_turning 51 = .ok (.iload 5, 2) := by decide +kernel
theorem dX2_turning_53 : decode cX2_turning 53 = .ok (.ixor, 1) := by decide +kernel
theorem dX2_turning_54 : decode cX2_turning 54 = .ok (.invokevirtual 106, 3) := by decide +kernel
theorem dX2_turning_57 : decode cX2_turning 57 = .ok (.istore 6, 2) := by decide +kernel
theorem dX2_turning_59 : decode cX2_turning 59 = .ok (.iload 6, 2) := by decide +kernel
theorem dX2_turning_61 : decode cX2_turning 61 = .ok (.iload_n 2, 1) := by decide +kernel
theorem dX2_turning_62 : decode cX2_turning 62 = .ok (.if_icmp .eq 14, 3) := by decide +kernel
theorem dX2_turning_65 : decode cX2_turning 65 = .ok (.iload 6, 2) := by decide +kernel
theorem dX2_turning_67 : decode cX2_turning 67 = .ok (.bipush (-5), 2) := by decide +kernel
theorem dX2_turning_69 : decode cX2_turning 69 = .ok (.if_icmp .eq 7, 3) := by decide +kernel
theorem dX2_turning_72 : decode cX2_turning 72 = .ok (.iconst 1, 1) := by decide +kernel
theorem dX2_turning_73 : decode cX2_turning 73 = .ok (.goto 4, 3) := by decide +kernel
theorem dX2_turning_76 : decode cX2_turning 76 = .ok (.iconst 0, 1) := by decide +kernel
theorem dX2_turning_77 : decode cX2_turning 77 = .ok (.istore 7, 2) := by decide +kernel
theorem dX2_turning_79 : decode cX2_turning 79 = .ok (.iload 7, 2) := by decide +kernel
theorem dX2_turning_81 : decode cX2_turning 81 = .ok (.ifCond .eq 23, 3) := by decide +kernel
theorem dX2_turning_84 : decode cX2_turning 84 = .ok (.iload 5, 2) := by decide +kernel
theorem dX2_turning_86 : decode cX2_turning 86 = .ok (.invokestatic 109, 3) := by decide +kernel
theorem dX2_turning_89 : decode cX2_turning 89 = .ok (.iload 4, 2) := by decide +kernel
theorem dX2_turning_91 : decode cX2_turning 91 = .ok (.if_icmp .ge 13, 3) := by decide +kernel
theorem dX2_turning_94 : decode cX2_turning 94 = .ok (.iload 5, 2) := by decide +kernel
theorem dX2_turning_96 : decode cX2_turning 96 = .ok (.istore_n 3, 1) := by decide +kernel
theorem dX2_turning_97 : decode cX2_turning 97 = .ok (.iload 5, 2) := by decide +kernel
theorem dX2_turning_99 : decode cX2_turning 99 = .ok (.invokestatic 109, 3) := by decide +kernel
theorem dX2_turning_102 : decode cX2_turning 102 = .ok (.istore 4, 2) := by decide +kernel
theorem dX2_turning_104 : decode cX2_turning 104 = .ok (.iinc 5 1, 3) := by decide +kernel
theorem dX2_turning_107 : decode cX2_turning 107 = .ok (.goto (-72), 3) := by decide +kernel
theorem dX2_turning_110 : decode cX2_turning 110 = .ok (.iload_n 3, 1) := by decide +kernel
theorem dX2_turning_111 : decode cX2_turning 111 = .ok (.ireturn, 1) := by decide +kernel
abbrev rm_X2_turning : Room := { frames := 5, cells := 0, slots := 0, locals := 116 }
abbrev jJ_X2_turning (l : Launch) (G : jx_G) (t : jx_T) (sz : Nat) (out : (Int32 × jx_M)) (pc : Nat) (lv : List (Nat × Value)) (st : List Value) (σ : jx_M) : Prop := jx_J l (ll_env G t) (ll_dyn G t) (ll_rg G) sz RX2 "turning" cX2_turning 8 (some .int) rm_X2_turning (fun below args s => MQ below (jx_Qi (ll_dyn G t) out.2 out.1 (jx_A (ll_rg G) sz)) args s 0 0 (jx_A (ll_rg G) sz)) 0 0 pc lv st σ
def b_X2_turning_104 (t : jx_T) (k35 : jx_M → Int32 → Int32 → Int32 → Int32 → Int32 → Option (Int32 × jx_M)) (σ : jx_M) (v1 : Int32) (v2 : Int32) (v3 : Int32) (v4 : Int32) (v5 : Int32) : Option (Int32 × jx_M) :=
  jx_lt (v5 + (1 : Int32)) (fun x1 => (k35 σ v1 v2 v3 v4 x1))
set_option maxHeartbeats 4000000 in
set_option maxRecDepth 100000 in
theorem jb_X2_turning_104 (l : Launch) (G : jx_G) (t : jx_T) (hG : ll_ok G) (sz : Nat) (out : (Int32 × jx_M)) (k35 : jx_M → Int32 → Int32 → Int32 → Int32 → Int32 → Option (Int32 × jx_M)) (h35 : ∀ (σ : jx_M) (v1 : Int32) (v2 : Int32) (v3 : Int32) (v4 : Int32) (v5 : Int32), k35 σ v1 v2 v3 v4 v5 = some out → jJ_X2_turning l G t sz out 35 [(0, .ref (G.2 23)), (1, .int v1), (2, .int v2), (3, .int v3), (4, .int v4), (5, .int v5)] [] σ) (σ : jx_M) (v1 : Int32) (v2 : Int32) (v3 : Int32) (v4 : Int32) (v5 : Int32) (h : b_X2_turning_104 t k35 σ v1 v2 v3 v4 v5 = some out) : jJ_X2_turning l G t sz out 104 [(0, .ref (G.2 23)), (1, .int v1), (2, .int v2), (3, .int v3), (4, .int v4), (5, .int v5)] [] σ := by
  unfold b_X2_turning_104 at h
  obtain ⟨x1, ex1, h⟩ := jx_lt_o h
  refine jx_iinc (pc := 104) (i := 5) (v := v5) rfl ex1 (n := 1) (by decide) (by decide) (lv' := [(5, .int x1), (0, .ref (G.2 23)), (1, .int v1), (2, .int v2), (3, .int v3), (4, .int v4)]) rfl dX2_turning_104 ?_
  refine jx_goto (pc := 107) (tgt := 35) dX2_turning_107 (by decide) ?_
  exact jx_sub [1, 2, 3, 4, 5, 0] rfl (h35 σ v1 v2 v3 v4 x1 h)
def b_X2_turning_77 (t : jx_T) (k35 : jx_M → Int32 → Int32 → Int32 → Int32 → Int32 → Option (Int32 × jx_M)) (σ : jx_M) (v1 : Int32) (v2 : Int32) (v3 : Int32) (v4 : Int32) (v5 : Int32) (s0 : Int32) : Option (Int32 × jx_M) :=
  if s0 = 0 then (b_X2_turning_104 t k35 σ v1 v2 v3 v4 v5) else jx_bd (f_J6_bitCount_0f7a4 v5) (fun q2 => if v4 ≤ q2 then (b_X2_turning_104 t k35 σ v1 v2 v3 v4 v5) else jx_bd (f_J6_bitCount_0f7a4 v5) (fun q4 => (b_X2_turning_104 t k35 σ v1 v2 v5 q4 v5)))
set_option maxHeartbeats 4000000 in
set_option maxRecDepth 100000 in
theorem jb_X2_turning_77 (l : Launch) (G : jx_G) (t : jx_T) (hG : ll_ok G) (sz : Nat) (out : (Int32 × jx_M)) (k35 : jx_M → Int32 → Int32 → Int32 → Int32 → Int32 → Option (Int32 × jx_M)) (h35 : ∀ (σ : jx_M) (v1 : Int32) (v2 : Int32) (v3 : Int32) (v4 : Int32) (v5 : Int32), k35 σ v1 v2 v3 v4 v5 = some out → jJ_X2_turning l G t sz out 35 [(0, .ref (G.2 23)), (1, .int v1), (2, .int v2), (3, .int v3), (4, .int v4), (5, .int v5)] [] σ) (σ : jx_M) (v1 : Int32) (v2 : Int32) (v3 : Int32) (v4 : Int32) (v5 : Int32) (s0 : Int32) (h : b_X2_turning_77 t k35 σ v1 v2 v3 v4 v5 s0 = some out) : jJ_X2_turning l G t sz out 77 [(0, .ref (G.2 23)), (1, .int v1), (2, .int v2), (3, .int v3), (4, .int v4), (5, .int v5)] [.int s0] σ := by
  unfold b_X2_turning_77 at h
  refine jx_istore (pc := 77) (i := 7) rfl (by decide) (lv' := [(7, .int s0), (0, .ref (G.2 23)), (1, .int v1), (2, .int v2), (3, .int v3), (4, .int v4), (5, .int v5)]) rfl dX2_turning_77 ?_
  refine jx_iload (pc := 79) (i := 7) rfl dX2_turning_79 ?_
  refine jx_if_eq (pc := 81) (tgt := 104) dX2_turning_81 (by decide) (fun c1 => ?_) (fun c1 => ?_)
  · have h := jx_t c1 h
    exact jx_sub [1, 2, 3, 4, 5, 6] rfl (jb_X2_turning_104 l G t hG sz out k35 h35 σ v1 v2 v3 v4 v5 h)
  · have h := jx_f c1 h
    refine jx_iload (pc := 84) (i := 5) rfl dX2_turning_84 ?_
    obtain ⟨q2, eq2, h⟩ := jx_bd_o h
    refine jx_callSi (pc := 86) [.int v5] (fun sz' => k_J6_bitCount_0f7a4 l G t hG sz' σ v5 q2 eq2) ks_X2_109 ll_jok rfl rfl (Nat.le_of_ble_eq_true rfl) ⟨⟨rfl, rfl⟩, ⟨Nat.le_of_ble_eq_true rfl, Nat.le_of_ble_eq_true rfl⟩, Nat.zero_le _, Nat.zero_le _⟩ dX2_turning_86 ?_
    refine jx_iload (pc := 89) (i := 4) rfl dX2_turning_89 ?_
    refine jx_icmp_ge (pc := 91) (tgt := 104) dX2_turning_91 (by decide) (fun c3 => ?_) (fun c3 => ?_)
    · have h := jx_t c3 h
      exact jx_sub [1, 2, 3, 4, 5, 6] rfl (jb_X2_turning_104 l G t hG sz out k35 h35 σ v1 v2 v3 v4 v5 h)
    · have h := jx_f c3 h
      refine jx_iload (pc := 94) (i := 5) rfl dX2_turning_94 ?_
      refine jx_istore_n (pc := 96) (i := 3) rfl rfl (by decide) (lv' := [(3, .int v5), (7, .int s0), (0, .ref (G.2 23)), (1, .int v1), (2, .int v2), (4, .int v4), (5, .int v5)]) rfl dX2_turning_96 ?_
      refine jx_iload (pc := 97) (i := 5) rfl dX2_turning_97 ?_
      obtain ⟨q4, eq4, h⟩ := jx_bd_o h
      refine jx_callSi (pc := 99) [.int v5] (fun sz' => k_J6_bitCount_0f7a4 l G t hG sz' σ v5 q4 eq4) ks_X2_109 ll_jok rfl rfl (Nat.le_of_ble_eq_true rfl) ⟨⟨rfl, rfl⟩, ⟨Nat.le_of_ble_eq_true rfl, Nat.le_of_ble_eq_true rfl⟩, Nat.zero_le _, Nat.zero_le _⟩ dX2_turning_99 ?_
      refine jx_istore (pc := 102) (i := 4) rfl (by decide) (lv' := [(4, .int q4), (3, .int v5), (7, .int s0), (0, .ref (G.2 23)), (1, .int v1), (2, .int v2), (5, .int v5)]) rfl dX2_turning_102 ?_
      exact jx_sub [3, 4, 5, 1, 0, 6] rfl (jb_X2_turning_104 l G t hG sz out k35 h35 σ v1 v2 v5 q4 v5 h)
def b_X2_turning_76 (t : jx_T) (k35 : jx_M → Int32 → Int32 → Int32 → Int32 → Int32 → Option (Int32 × jx_M)) (σ : jx_M) (v1 : Int32) (v2 : Int32) (v3 : Int32) (v4 : Int32) (v5 : Int32) : Option (Int32 × jx_M) :=
  (b_X2_turning_77 t k35 σ v1 v2 v3 v4 v5 (0 : Int32))
set_option maxHeartbeats 4000000 in
set_option maxRecDepth 100000 in
theorem jb_X2_turning_76 (l : Launch) (G : jx_G) (t : jx_T) (hG : ll_ok G) (sz : Nat) (out : (Int32 × jx_M)) (k35 : jx_M → Int32 → Int32 → Int32 → Int32 → Int32 → Option (Int32 × jx_M)) (h35 : ∀ (σ : jx_M) (v1 : Int32) (v2 : Int32) (v3 : Int32) (v4 : Int32) (v5 : Int32), k35 σ v1 v2 v3 v4 v5 = some out → jJ_X2_turning l G t sz out 35 [(0, .ref (G.2 23)), (1, .int v1), (2, .int v2), (3, .int v3), (4, .int v4), (5, .int v5)] [] σ) (σ : jx_M) (v1 : Int32) (v2 : Int32) (v3 : Int32) (v4 : Int32) (v5 : Int32) (h : b_X2_turning_76 t k35 σ v1 v2 v3 v4 v5 = some out) : jJ_X2_turning l G t sz out 76 [(0, .ref (G.2 23)), (1, .int v1), (2, .int v2), (3, .int v3), (4, .int v4), (5, .int v5)] [] σ := by
  unfold b_X2_turning_76 at h
  refine jx_iconst (pc := 76) (v := (0 : Int32)) (by decide) dX2_turning_76 ?_
  exact jx_sub [0, 1, 2, 3, 4, 5] rfl (jb_X2_turning_77 l G t hG sz out k35 h35 σ v1 v2 v3 v4 v5 (0 : Int32) h)
def g_X2_turning_35 (t : jx_T) (k35 : jx_M → Int32 → Int32 → Int32 → Int32 → Int32 → Option (Int32 × jx_M)) (σ : jx_M) (v1 : Int32) (v2 : Int32) (v3 : Int32) (v4 : Int32) (v5 : Int32) : Option (Int32 × jx_M) :=
  if ((1 : Int32) <<< ((σ 0 2) &&& 31)) ≤ v5 then some (v3, σ) else jx_bd (f_X2_mayor t σ (v1 ^^^ v5)) (fun q2 => if q2 = v2 then (b_X2_turning_76 t k35 σ v1 v2 v3 v4 v5) else if q2 = (-5 : Int32) then (b_X2_turning_76 t k35 σ v1 v2 v3 v4 v5) else (b_X2_turning_77 t k35 σ v1 v2 v3 v4 v5 (1 : Int32)))
set_option maxHeartbeats 4000000 in
set_option maxRecDepth 100000 in
theorem jg_X2_turning_35 (l : Launch) (G : jx_G) (t : jx_T) (hG : ll_ok G) (sz : Nat) (out : (Int32 × jx_M)) (k35 : jx_M → Int32 → Int32 → Int32 → Int32 → Int32 → Option (Int32 × jx_M)) (h35 : ∀ (σ : jx_M) (v1 : Int32) (v2 : Int32) (v3 : Int32) (v4 : Int32) (v5 : Int32), k35 σ v1 v2 v3 v4 v5 = some out → jJ_X2_turning l G t sz out 35 [(0, .ref (G.2 23)), (1, .int v1), (2, .int v2), (3, .int v3), (4, .int v4), (5, .int v5)] [] σ) (σ : jx_M) (v1 : Int32) (v2 : Int32) (v3 : Int32) (v4 : Int32) (v5 : Int32) (h : g_X2_turning_35 t k35 σ v1 v2 v3 v4 v5 = some out) : jJ_X2_turning l G t sz out 35 [(0, .ref (G.2 23)), (1, .int v1), (2, .int v2), (3, .int v3), (4, .int v4), (5, .int v5)] [] σ := by
  unfold g_X2_turning_35 at h
  refine jx_iload (pc := 35) (i := 5) rfl dX2_turning_35 ?_
  refine jx_iconst (pc := 37) (v := (1 : Int32)) (by decide) dX2_turning_37 ?_
  refine jx_aload_n (pc := 38) (k0 := 0) rfl dX2_turning_38 ?_
  refine ll_gnight_canal (pc := 39) fl_X2_36 dX2_turning_39 ?_
  refine ll_gnow_voters (pc := 42) fl_X2_74 dX2_turning_42 ?_
  refine jx_ishl (pc := 45) dX2_turning_45 ?_
  refine jx_icmp_ge (pc := 46) (tgt := 110) dX2_turning_46 (by decide) (fun c1 => ?_) (fun c1 => ?_)
  · have h := jx_t c1 h
    refine jx_iload_n (pc := 110) (k0 := 3) rfl dX2_turning_110 ?_
    have h := Option.some.inj h
    subst h
    exact jx_iret (pc := 111) dX2_turning_111
  · have h := jx_f c1 h
    refine jx_aload_n (pc := 49) (k0 := 0) rfl dX2_turning_49 ?_
    refine jx_iload_n (pc := 50) (k0 := 1) rfl dX2_turning_50 ?_
    refine jx_iload (pc := 51) (i := 5) rfl dX2_turning_51 ?_
    refine jx_ixor (pc := 53) dX2_turning_53 ?_
    obtain ⟨q2, eq2, h⟩ := jx_bd_o h
    refine jx_callVi (pc := 54) [.int (v1 ^^^ v5)] (fun sz' => k_X2_mayor l G t hG sz' σ (v1 ^^^ v5) q2 eq2) kv_X2_106 ll_jok ll_rcnight rfl rfl (Nat.le_of_ble_eq_true rfl) ⟨⟨rfl, rfl⟩, ⟨Nat.le_of_ble_eq_true rfl, Nat.le_of_ble_eq_true rfl⟩, Nat.zero_le _, Nat.zero_le _⟩ dX2_turning_54 ?_
    refine jx_istore (pc := 57) (i := 6) rfl (by decide) (lv' := [(6, .int q2), (0, .ref (G.2 23)), (1, .int v1), (2, .int v2), (3, .int v3), (4, .int v4), (5, .int v5)]) rfl dX2_turning_57 ?_
    refine jx_iload (pc := 59) (i := 6) rfl dX2_turning_59 ?_
    refine jx_iload_n (pc := 61) (k0 := 2) rfl dX2_turning_61 ?_
    refine jx_icmp_eq (pc := 62) (tgt := 76) dX2_turning_62 (by decide) (fun c3 => ?_) (fun c3 => ?_)
    · have h := jx_t c3 h
      exact jx_sub [1, 2, 3, 4, 5, 6] rfl (jb_X2_turning_76 l G t hG sz out k35 h35 σ v1 v2 v3 v4 v5 h)
    · have h := jx_f c3 h
      refine jx_iload (pc := 65) (i := 6) rfl dX2_turning_65 ?_
      refine jx_bipush (pc := 67) (v := (-5 : Int32)) (by decide) dX2_turning_67 ?_
      refine jx_icmp_eq (pc := 69) (tgt := 76) dX2_turning_69 (by decide) (fun c4 => ?_) (fun c4 => ?_)
      · have h := jx_t c4 h
        exact jx_sub [1, 2, 3, 4, 5, 6] rfl (jb_X2_turning_76 l G t hG sz out k35 h35 σ v1 v2 v3 v4 v5 h)
      · have h := jx_f c4 h
        refine jx_iconst (pc := 72) (v := (1 : Int32)) (by decide) dX2_turning_72 ?_
        refine jx_goto (pc := 73) (tgt := 77) dX2_turning_73 (by decide) ?_
        exact jx_sub [1, 2, 3, 4, 5, 6] rfl (jb_X2_turning_77 l G t hG sz out k35 h35 σ v1 v2 v3 v4 v5 (1 : Int32) h)
def b_X2_turning_35 (t : jx_T)  : Nat → jx_M → Int32 → Int32 → Int32 → Int32 → Int32 → Option (Int32 × jx_M)
  | 0, _, _, _, _, _, _ => none
  | n + 1, σ, v1, v2, v3, v4, v5 => g_X2_turning_35 t (b_X2_turning_35 t n) σ v1 v2 v3 v4 v5
theorem jb_X2_turning_35 (l : Launch) (G : jx_G) (t : jx_T) (hG : ll_ok G) (sz : Nat) (out : (Int32 × jx_M))  : ∀ (n : Nat) (σ : jx_M) (v1 : Int32) (v2 : Int32) (v3 : Int32) (v4 : Int32) (v5 : Int32), b_X2_turning_35 t n σ v1 v2 v3 v4 v5 = some out → jJ_X2_turning l G t sz out 35 [(0, .ref (G.2 23)), (1, .int v1), (2, .int v2), (3, .int v3), (4, .int v4), (5, .int v5)] [] σ := by
  intro n
  induction n with
  | zero =>
    intro σ v1 v2 v3 v4 v5 h
    cases h
  | succ n ih =>
    intro σ v1 v2 v3 v4 v5 h
    exact jg_X2_turning_35 l G t hG sz out (b_X2_turning_35 t n) ih σ v1 v2 v3 v4 v5 h
def f_X2_turning (t : jx_T) (σ : jx_M)  : Option (Int32 × jx_M) :=
  jx_bd (f_X2_pass t σ) (fun q1 => jx_bd (f_X1_wishes t q1) (fun q2 => jx_bd (f_X2_mayor t q1 q2) (fun q3 => jx_lt (((q1 0 2) + (1 : Int32))) (fun x4 => (b_X2_turning_35 t jx_fuel q1 q2 q3 (-5 : Int32) x4 (1 : Int32))))))
set_option maxHeartbeats 4000000 in
set_option maxRecDepth 100000 in
theorem k_X2_turning (l : Launch) (G : jx_G) (t : jx_T) (hG : ll_ok G) (sz : Nat) (σ : jx_M)  (out : (Int32 × jx_M)) (h : f_X2_turning t σ = some out) : Met l yX2_turning (Cond.code yX2_turning cX2_turning 8 (some .int) :: jx_ws) rm_X2_turning (jx_Pc (ll_env G t) (ll_dyn G t) (ll_rg G) sz σ [.ref (G.2 23)]) (jx_Qi (ll_dyn G t) out.2 out.1 (jx_A (ll_rg G) sz)) 0 0 (jx_A (ll_rg G) sz) := by
  unfold f_X2_turning at h
  refine jx_met (by decide) (Nat.le_of_ble_eq_true rfl) ?_
  refine jx_sub (lv' := [(0, .ref (G.2 23))]) [0] rfl ?_
  refine jx_aload_n (pc := 0) (k0 := 0) rfl dX2_turning_0 ?_
  obtain ⟨q1, eq1, h⟩ := jx_bd_o h
  refine jx_callVv (pc := 1) [] (fun sz' => k_X2_pass l G t hG sz' σ q1 eq1) kv_X2_103 ll_jok ll_rcnight rfl rfl (Nat.le_of_ble_eq_true rfl) ⟨⟨rfl, rfl⟩, ⟨Nat.le_of_ble_eq_true rfl, Nat.le_of_ble_eq_true rfl⟩, Nat.zero_le _, Nat.zero_le _⟩ dX2_turning_1 ?_
  refine jx_aload_n (pc := 4) (k0 := 0) rfl dX2_turning_4 ?_
  refine ll_gnight_canal (pc := 5) fl_X2_36 dX2_turning_5 ?_
  obtain ⟨q2, eq2, h⟩ := jx_bd_o h
  refine jx_callVi (pc := 8) [] (fun sz' => k_X1_wishes l G t hG sz' q1 q2 eq2) kv_X2_96 ll_jok ll_rcnow rfl rfl (Nat.le_of_ble_eq_true rfl) ⟨⟨rfl, rfl⟩, ⟨Nat.le_of_ble_eq_true rfl, Nat.le_of_ble_eq_true rfl⟩, Nat.zero_le _, Nat.zero_le _⟩ dX2_turning_8 ?_
  refine jx_istore_n (pc := 11) (i := 1) rfl rfl (by decide) (lv' := [(1, .int q2), (0, .ref (G.2 23))]) rfl dX2_turning_11 ?_
  refine jx_aload_n (pc := 12) (k0 := 0) rfl dX2_turning_12 ?_
  refine jx_iload_n (pc := 13) (k0 := 1) rfl dX2_turning_13 ?_
  obtain ⟨q3, eq3, h⟩ := jx_bd_o h
  refine jx_callVi (pc := 14) [.int q2] (fun sz' => k_X2_mayor l G t hG sz' q1 q2 q3 eq3) kv_X2_106 ll_jok ll_rcnight rfl rfl (Nat.le_of_ble_eq_true rfl) ⟨⟨rfl, rfl⟩, ⟨Nat.le_of_ble_eq_true rfl, Nat.le_of_ble_eq_true rfl⟩, Nat.zero_le _, Nat.zero_le _⟩ dX2_turning_14 ?_
  refine jx_istore_n (pc := 17) (i := 2) rfl rfl (by decide) (lv' := [(2, .int q3), (1, .int q2), (0, .ref (G.2 23))]) rfl dX2_turning_17 ?_
  refine jx_bipush (pc := 18) (v := (-5 : Int32)) (by decide) dX2_turning_18 ?_
  refine jx_istore_n (pc := 20) (i := 3) rfl rfl (by decide) (lv' := [(3, .int (-5 : Int32)), (2, .int q3), (1, .int q2), (0, .ref (G.2 23))]) rfl dX2_turning_20 ?_
  refine jx_aload_n (pc := 21) (k0 := 0) rfl dX2_turning_21 ?_
  refine ll_gnight_canal (pc := 22) fl_X2_36 dX2_turning_22 ?_
  refine ll_gnow_voters (pc := 25) fl_X2_74 dX2_turning_25 ?_
  refine jx_iconst (pc := 28) (v := (1 : Int32)) (by decide) dX2_turning_28 ?_
  refine jx_iadd (pc := 29) dX2_turning_29 ?_
  obtain ⟨x4, ex4, h⟩ := jx_lt_o h
  refine jx_istore (pc := 30) (i := 4) ex4 (by decide) (lv' := [(4, .int x4), (3, .int (-5 : Int32)), (2, .int q3), (1, .int q2), (0, .ref (G.2 23))]) rfl dX2_turning_30 ?_
  refine jx_iconst (pc := 32) (v := (1 : Int32)) (by decide) dX2_turning_32 ?_
  refine jx_istore (pc := 33) (i := 5) rfl (by decide) (lv' := [(5, .int (1 : Int32)), (4, .int x4), (3, .int (-5 : Int32)), (2, .int q3), (1, .int q2), (0, .ref (G.2 23))]) rfl dX2_turning_33 ?_
  exact jx_sub [5, 4, 3, 2, 1, 0] rfl (jb_X2_turning_35 l G t hG sz out jx_fuel q1 q2 q3 (-5 : Int32) x4 (1 : Int32) h)
theorem dX2_swayed_0 : decode cX2_swayed 0 = .ok (.aload_n 0, 1) := by decide +kernel
theorem dX2_swayed_1 : decode cX2_swayed 1 = .ok (.invokevirtual 103, 3) := by decide +kernel
theorem dX2_swayed_4 : decode cX2_swayed 4 = .ok (.iconst 0, 1) := by decide +kernel
theorem dX2_swayed_5 : decode cX2_swayed 5 = .ok (.istore_n 2, 1) := by decide +kernel
theorem dX2_swayed_6 : decode cX2_swayed 6 = .ok (.iconst 0, 1) := by decide +kernel
theorem dX2_swayed_7 : decode cX2_swayed 7 = .ok (.istore_n 3, 1) := by decide +kernel
theorem dX2_swayed_8 : decode cX2_swayed 8 = .ok (.iload_n 3, 1) := by decide +kernel
theorem dX2_swayed_9 : decode cX2_swayed 9 = .ok (.iconst 1, 1) := by decide +kernel
theorem dX2_swayed_10 : decode cX2_swayed 10 = .ok (.aload_n 0, 1) := by decide +kernel
theorem dX2_swayed_11 : decode cX2_swayed 11 = .ok (.getfield 36, 3) := by decide +kernel
theorem dX2_swayed_14 : decode cX2_swayed 14 = .ok (.getfield 74, 3) := by decide +kernel
theorem dX2_swayed_17 : decode cX2_swayed 17 = .ok (.ishl, 1) := by decide +kernel
theorem dX2_swayed_18 : decode cX2_swayed 18 = .ok (.if_icmp .ge 29, 3) := by decide +kernel
theorem dX2_swayed_21 : decode cX2_swayed 21 = .ok (.aload_n 0, 1) := by decide +kernel
theorem dX2_swayed_22 : decode cX2_swayed 22 = .ok (.iload_n 3, 1) := by decide +kernel
theorem dX2_swayed_23 : decode cX2_swayed 23 = .ok (.invokevirtual 106, 3) := by decide +kernel
theorem dX2_swayed_26 : decode cX2_swayed 26 = .ok (.aload_n 0, 1) := by decide +kernel
theorem dX2_swayed_27 : decode cX2_swayed 27 = .ok (.iload_n 3, 1) := by decide +kernel
theorem dX2_swayed_28 : decode cX2_swayed 28 = .ok (.iconst 1, 1) := by decide +kernel
theorem dX2_swayed_29 : decode cX2_swayed 29 = .ok (.iload_n 1, 1) := by decide +kernel
theorem dX2_swayed_30 : decode cX2_swayed 30 = .ok (.ishl, 1) := by decide +kernel
theorem dX2_swayed_31 : decode cX2_swayed 31 = .ok (.ixor, 1) := by decide +kernel
theorem dX2_swayed_32 : decode cX2_swayed 32 = .ok (.invokevirtual 106, 3) := by decide +kernel
theorem dX2_swayed_35 : decode cX2_swayed 35 = .ok (.if_icmp .eq 6, 3) := by decide +kernel
theorem dX2_swayed_38 : decode cX2_swayed 38 = .ok (.iinc 2 1, 3) := by decide +kernel
theorem dX2_swayed_41 : decode cX2_swayed 41 = .ok (.iinc 3 1, 3) := by decide +kernel
theorem dX2_swayed_44 : decode cX2_swayed 44 = .ok (.goto (-36), 3) := by decide +kernel
theorem dX2_swayed_47 : decode cX2_swayed 47 = .ok (.iload_n 2, 1) := by decide +kernel
theorem dX2_swayed_48 : decode cX2_swayed 48 = .ok (.ireturn, 1) := by decide +kernel
abbrev rm_X2_swayed : Room := { frames := 5, cells := 0, slots := 0, locals := 116 }
abbrev jJ_X2_swayed (l : Launch) (G : jx_G) (t : jx_T) (sz : Nat) (out : (Int32 × jx_M)) (pc : Nat) (lv : List (Nat × Value)) (st : List Value) (σ : jx_M) : Prop := jx_J l (ll_env G t) (ll_dyn G t) (ll_rg G) sz RX2 "swayed" cX2_swayed 4 (some .int) rm_X2_swayed (fun below args s => MQ below (jx_Qi (ll_dyn G t) out.2 out.1 (jx_A (ll_rg G) sz)) args s 0 0 (jx_A (ll_rg G) sz)) 0 0 pc lv st σ
def b_X2_swayed_41 (t : jx_T) (k8 : jx_M → Int32 → Int32 → Int32 → Option (Int32 × jx_M)) (σ : jx_M) (v1 : Int32) (v2 : Int32) (v3 : Int32) : Option (Int32 × jx_M) :=
  jx_lt (v3 + (1 : Int32)) (fun x1 => (k8 σ v1 v2 x1))
set_option maxHeartbeats 4000000 in
set_option maxRecDepth 100000 in
theorem jb_X2_swayed_41 (l : Launch) (G : jx_G) (t : jx_T) (hG : ll_ok G) (sz : Nat) (out : (Int32 × jx_M)) (k8 : jx_M → Int32 → Int32 → Int32 → Option (Int32 × jx_M)) (h8 : ∀ (σ : jx_M) (v1 : Int32) (v2 : Int32) (v3 : Int32), k8 σ v1 v2 v3 = some out → jJ_X2_swayed l G t sz out 8 [(0, .ref (G.2 23)), (1, .int v1), (2, .int v2), (3, .int v3)] [] σ) (σ : jx_M) (v1 : Int32) (v2 : Int32) (v3 : Int32) (h : b_X2_swayed_41 t k8 σ v1 v2 v3 = some out) : jJ_X2_swayed l G t sz out 41 [(0, .ref (G.2 23)), (1, .int v1), (2, .int v2), (3, .int v3)] [] σ := by
  unfold b_X2_swayed_41 at h
  obtain ⟨x1, ex1, h⟩ := jx_lt_o h
  refine jx_iinc (pc := 41) (i := 3) (v := v3) rfl ex1 (n := 1) (by decide) (by decide) (lv' := [(3, .int x1), (0, .ref (G.2 23)), (1, .int v1), (2, .int v2)]) rfl dX2_swayed_41 ?_
  refine jx_goto (pc := 44) (tgt := 8) dX2_swayed_44 (by decide) ?_
  exact jx_sub [1, 2, 3, 0] rfl (h8 σ v1 v2 x1 h)
def g_X2_swayed_8 (t : jx_T) (k8 : jx_M → Int32 → Int32 → Int32 → Option (Int32 × jx_M)) (σ : jx_M) (v1 : Int32) (v2 : Int32) (v3 : Int32) : Option (Int32 × jx_M) :=
  if ((1 : Int32) <<< ((σ 0 2) &&& 31)) ≤ v3 then some (v2, σ) else jx_bd (f_X2_mayor t σ v3) (fun q2 => jx_bd (f_X2_mayor t σ (v3 ^^^ ((1 : Int32) <<< (v1 &&& 31)))) (fun q3 => if q2 = q3 then (b_X2_swayed_41 t k8 σ v1 v2 v3) else jx_lt (v2 + (1 : Int32)) (fun x5 => (b_X2_swayed_41 t k8 σ v1 x5 v3))))
set_option maxHeartbeats 4000000 in
set_option maxRecDepth 100000 in
theorem jg_X2_swayed_8 (l : Launch) (G : jx_G) (t : jx_T) (hG : ll_ok G) (sz : Nat) (out : (Int32 × jx_M)) (k8 : jx_M → Int32 → Int32 → Int32 → Option (Int32 × jx_M)) (h8 : ∀ (σ : jx_M) (v1 : Int32) (v2 : Int32) (v3 : Int32), k8 σ v1 v2 v3 = some out → jJ_X2_swayed l G t sz out 8 [(0, .ref (G.2 23)), (1, .int v1), (2, .int v2), (3, .int v3)] [] σ) (σ : jx_M) (v1 : Int32) (v2 : Int32) (v3 : Int32) (h : g_X2_swayed_8 t k8 σ v1 v2 v3 = some out) : jJ_X2_swayed l G t sz out 8 [(0, .ref (G.2 23)), (1, .int v1), (2, .int v2), (3, .int v3)] [] σ := by
  unfold g_X2_swayed_8 at h
  refine jx_iload_n (pc := 8) (k0 := 3) rfl dX2_swayed_8 ?_
  refine jx_iconst (pc := 9) (v := (1 : Int32)) (by decide) dX2_swayed_9 ?_
  refine jx_aload_n (pc := 10) (k0 := 0) rfl dX2_swayed_10 ?_
  refine ll_gnight_canal (pc := 11) fl_X2_36 dX2_swayed_11 ?_
  refine ll_gnow_voters (pc := 14) fl_X2_74 dX2_swayed_14 ?_
  refine jx_ishl (pc := 17) dX2_swayed_17 ?_
  refine jx_icmp_ge (pc := 18) (tgt := 47) dX2_swayed_18 (by decide) (fun c1 => ?_) (fun c1 => ?_)
  · have h := jx_t c1 h
    refine jx_iload_n (pc := 47) (k0 := 2) rfl dX2_swayed_47 ?_
    have h := Option.some.inj h
    subst h
    exact jx_iret (pc := 48) dX2_swayed_48
  · have h := jx_f c1 h
    refine jx_aload_n (pc := 21) (k0 := 0) rfl dX2_swayed_21 ?_
    refine jx_iload_n (pc := 22) (k0 := 3) rfl dX2_swayed_22 ?_
    obtain ⟨q2, eq2, h⟩ := jx_bd_o h
    refine jx_callVi (pc := 23) [.int v3] (fun sz' => k_X2_mayor l G t hG sz' σ v3 q2 eq2) kv_X2_106 ll_jok ll_rcnight rfl rfl (Nat.le_of_ble_eq_true rfl) ⟨⟨rfl, rfl⟩, ⟨Nat.le_of_ble_eq_true rfl, Nat.le_of_ble_eq_true rfl⟩, Nat.zero_le _, Nat.zero_le _⟩ dX2_swayed_23 ?_
    refine jx_aload_n (pc := 26) (k0 := 0) rfl dX2_swayed_26 ?_
    refine jx_iload_n (pc := 27) (k0 := 3) rfl dX2_swayed_27 ?_
    refine jx_iconst (pc := 28) (v := (1 : Int32)) (by decide) dX2_swayed_28 ?_
    refine jx_iload_n (pc := 29) (k0 := 1) rfl dX2_swayed_29 ?_
    refine jx_ishl (pc := 30) dX2_swayed_30 ?_
    refine jx_ixor (pc := 31) dX2_swayed_31 ?_
    obtain ⟨q3, eq3, h⟩ := jx_bd_o h
    refine jx_callVi (pc := 32) [.int (v3 ^^^ ((1 : Int32) <<< (v1 &&& 31)))] (fun sz' => k_X2_mayor l G t hG sz' σ (v3 ^^^ ((1 : Int32) <<< (v1 &&& 31))) q3 eq3) kv_X2_106 ll_jok ll_rcnight rfl rfl (Nat.le_of_ble_eq_true rfl) ⟨⟨rfl, rfl⟩, ⟨Nat.le_of_ble_eq_true rfl, Nat.le_of_ble_eq_true rfl⟩, Nat.zero_le _, Nat.zero_le _⟩ dX2_swayed_32 ?_
    refine jx_icmp_eq (pc := 35) (tgt := 41) dX2_swayed_35 (by decide) (fun c4 => ?_) (fun c4 => ?_)
    · have h := jx_t c4 h
      exact jx_sub [0, 1, 2, 3] rfl (jb_X2_swayed_41 l G t hG sz out k8 h8 σ v1 v2 v3 h)
    · have h := jx_f c4 h
      obtain ⟨x5, ex5, h⟩ := jx_lt_o h
      refine jx_iinc (pc := 38) (i := 2) (v := v2) rfl ex5 (n := 1) (by decide) (by decide) (lv' := [(2, .int x5), (0, .ref (G.2 23)), (1, .int v1), (3, .int v3)]) rfl dX2_swayed_38 ?_
      exact jx_sub [1, 2, 0, 3] rfl (jb_X2_swayed_41 l G t hG sz out k8 h8 σ v1 x5 v3 h)
def b_X2_swayed_8 (t : jx_T)  : Nat → jx_M → Int32 → Int32 → Int32 → Option (Int32 × jx_M)
  | 0, _, _, _, _ => none
  | n + 1, σ, v1, v2, v3 => g_X2_swayed_8 t (b_X2_swayed_8 t n) σ v1 v2 v3
theorem jb_X2_swayed_8 (l : Launch) (G : jx_G) (t : jx_T) (hG : ll_ok G) (sz : Nat) (out : (Int32 × jx_M))  : ∀ (n : Nat) (σ : jx_M) (v1 : Int32) (v2 : Int32) (v3 : Int32), b_X2_swayed_8 t n σ v1 v2 v3 = some out → jJ_X2_swayed l G t sz out 8 [(0, .ref (G.2 23)), (1, .int v1), (2, .int v2), (3, .int v3)] [] σ := by
  intro n
  induction n with
  | zero =>
    intro σ v1 v2 v3 h
    cases h
  | succ n ih =>
    intro σ v1 v2 v3 h
    exact jg_X2_swayed_8 l G t hG sz out (b_X2_swayed_8 t n) ih σ v1 v2 v3 h
def f_X2_swayed (t : jx_T) (σ : jx_M) (a1 : Int32) : Option (Int32 × jx_M) :=
  jx_bd (f_X2_pass t σ) (fun q1 => (b_X2_swayed_8 t jx_fuel q1 a1 (0 : Int32) (0 : Int32)))
set_option maxHeartbeats 4000000 in
set_option maxRecDepth 100000 in
theorem k_X2_swayed (l : Launch) (G : jx_G) (t : jx_T) (hG : ll_ok G) (sz : Nat) (σ : jx_M) (a1 : Int32) (out : (Int32 × jx_M)) (h : f_X2_swayed t σ a1 = some out) : Met l yX2_swayed (Cond.code yX2_swayed cX2_swayed 4 (some .int) :: jx_ws) rm_X2_swayed (jx_Pc (ll_env G t) (ll_dyn G t) (ll_rg G) sz σ [.ref (G.2 23), .int a1]) (jx_Qi (ll_dyn G t) out.2 out.1 (jx_A (ll_rg G) sz)) 0 0 (jx_A (ll_rg G) sz) := by
  unfold f_X2_swayed at h
  refine jx_met (by decide) (Nat.le_of_ble_eq_true rfl) ?_
  refine jx_sub (lv' := [(0, .ref (G.2 23)), (1, .int a1)]) [0, 1] rfl ?_
  refine jx_aload_n (pc := 0) (k0 := 0) rfl dX2_swayed_0 ?_
  obtain ⟨q1, eq1, h⟩ := jx_bd_o h
  refine jx_callVv (pc := 1) [] (fun sz' => k_X2_pass l G t hG sz' σ q1 eq1) kv_X2_103 ll_jok ll_rcnight rfl rfl (Nat.le_of_ble_eq_true rfl) ⟨⟨rfl, rfl⟩, ⟨Nat.le_of_ble_eq_true rfl, Nat.le_of_ble_eq_true rfl⟩, Nat.zero_le _, Nat.zero_le _⟩ dX2_swayed_1 ?_
  refine jx_iconst (pc := 4) (v := (0 : Int32)) (by decide) dX2_swayed_4 ?_
  refine jx_istore_n (pc := 5) (i := 2) rfl rfl (by decide) (lv' := [(2, .int (0 : Int32)), (0, .ref (G.2 23)), (1, .int a1)]) rfl dX2_swayed_5 ?_
  refine jx_iconst (pc := 6) (v := (0 : Int32)) (by decide) dX2_swayed_6 ?_
  refine jx_istore_n (pc := 7) (i := 3) rfl rfl (by decide) (lv' := [(3, .int (0 : Int32)), (2, .int (0 : Int32)), (0, .ref (G.2 23)), (1, .int a1)]) rfl dX2_swayed_7 ?_
  exact jx_sub [2, 3, 1, 0] rfl (jb_X2_swayed_8 l G t hG sz out jx_fuel q1 a1 (0 : Int32) (0 : Int32) h)
theorem dX2_firstOf_0 : decode cX2_firstOf 0 = .ok (.iconst 0, 1) := by decide +kernel
theorem dX2_firstOf_1 : decode cX2_firstOf 1 = .ok (.istore_n 3, 1) := by decide +kernel
theorem dX2_firstOf_2 : decode cX2_firstOf 2 = .ok (.iconst 0, 1) := by decide +kernel
theorem dX2_firstOf_3 : decode cX2_firstOf 3 = .ok (.istore 4, 2) := by decide +kernel
theorem dX2_firstOf_5 : decode cX2_firstOf 5 = .ok (.iconst 0, 1) := by decide +kernel
theorem dX2_firstOf_6 : decode cX2_firstOf 6 = .ok (.istore 5, 2) := by decide +kernel
theorem dX2_firstOf_8 : decode cX2_firstOf 8 = .ok (.iload 5, 2) := by decide +kernel
theorem dX2_firstOf_10 : decode cX2_firstOf 10 = .ok (.aload_n 0, 1) := by decide +kernel
theorem dX2_firstOf_11 : decode cX2_firstOf 11 = .ok (.getfield 36, 3) := by decide +kernel
theorem dX2_firstOf_14 : decode cX2_firstOf 14 = .ok (.getfield 40, 3) := by decide +kernel
theorem dX2_firstOf_17 : decode cX2_firstOf 17 = .ok (.if_icmp .ge 38, 3) := by decide +kernel
theorem dX2_firstOf_20 : decode cX2_firstOf 20 = .ok (.aload_n 0, 1) := by decide +kernel
theorem dX2_firstOf_21 : decode cX2_firstOf 21 = .ok (.iload_n 1, 1) := by decide +kernel
theorem dX2_firstOf_22 : decode cX2_firstOf 22 = .ok (.iload 5, 2) := by decide +kernel
theorem dX2_firstOf_24 : decode cX2_firstOf 24 = .ok (.iload_n 2, 1) := by decide +kernel
theorem dX2_firstOf_25 : decode cX2_firstOf 25 = .ok (.invokevirtual 120, 3) := by decide +kernel
theorem dX2_firstOf_28 : decode cX2_firstOf 28 = .ok (.istore 6, 2) := by decide +kernel
theorem dX2_firstOf_30 : decode cX2_firstOf 30 = .ok (.iload 5, 2) := by decide +kernel
theorem dX2_firstOf_32 : decode cX2_firstOf 32 = .ok (.ifCond .eq 10, 3) := by decide +kernel
theorem dX2_firstOf_35 : decode cX2_firstOf 35 = .ok (.iload 6, 2) := by decide +kernel
theorem dX2_firstOf_37 : decode cX2_firstOf 37 = .ok (.iload 4, 2) := by decide +kernel
theorem dX2_firstOf_39 : decode cX2_firstOf 39 = .ok (.if_icmp .le 10, 3) := by decide +kernel
theorem dX2_firstOf_42 : decode cX2_firstOf 42 = .ok (.iload 6, 2) := by decide +kernel
theorem dX2_firstOf_44 : decode cX2_firstOf 44 = .ok (.istore 4, 2) := by decide +kernel
theorem dX2_firstOf_46 : decode cX2_firstOf 46 = .ok (.iload 5, 2) := by decide +kernel
theorem dX2_firstOf_48 : decode cX2_firstOf 48 = .ok (.istore_n 3, 1) := by decide +kernel
theorem dX2_firstOf_49 : decode cX2_firstOf 49 = .ok (.iinc 5 1, 3) := by decide +kernel
theorem dX2_firstOf_52 : decode cX2_firstOf 52 = .ok (.goto (-44), 3) := by decide +kernel
theorem dX2_firstOf_55 : decode cX2_firstOf 55 = .ok (.iload_n 3, 1) := by decide +kernel
theorem dX2_firstOf_56 : decode cX2_firstOf 56 = .ok (.ireturn, 1) := by decide +kernel
abbrev rm_X2_firstOf : Room := { frames := 5, cells := 0, slots := 0, locals := 118 }
abbrev jJ_X2_firstOf (l : Launch) (G : jx_G) (t : jx_T) (sz : Nat) (out : (Int32 × jx_M)) (pc : Nat) (lv : List (Nat × Value)) (st : List Value) (σ : jx_M) : Prop := jx_J l (ll_env G t) (ll_dyn G t) (ll_rg G) sz RX2 "firstOf" cX2_firstOf 7 (some .int) rm_X2_firstOf (fun below args s => MQ below (jx_Qi (ll_dyn G t) out.2 out.1 (jx_A (ll_rg G) sz)) args s 0 0 (jx_A (ll_rg G) sz)) 0 0 pc lv st σ
def b_X2_firstOf_49 (t : jx_T) (k8 : jx_M → Int32 → Int32 → Int32 → Int32 → Int32 → Option (Int32 × jx_M)) (σ : jx_M) (v1 : Int32) (v2 : Int32) (v3 : Int32) (v4 : Int32) (v5 : Int32) : Option (Int32 × jx_M) :=
  jx_lt (v5 + (1 : Int32)) (fun x1 => (k8 σ v1 v2 v3 v4 x1))
set_option maxHeartbeats 4000000 in
set_option maxRecDepth 100000 in
theorem jb_X2_firstOf_49 (l : Launch) (G : jx_G) (t : jx_T) (hG : ll_ok G) (sz : Nat) (out : (Int32 × jx_M)) (k8 : jx_M → Int32 → Int32 → Int32 → Int32 → Int32 → Option (Int32 × jx_M)) (h8 : ∀ (σ : jx_M) (v1 : Int32) (v2 : Int32) (v3 : Int32) (v4 : Int32) (v5 : Int32), k8 σ v1 v2 v3 v4 v5 = some out → jJ_X2_firstOf l G t sz out 8 [(0, .ref (G.2 23)), (1, .int v1), (2, .int v2), (3, .int v3), (4, .int v4), (5, .int v5)] [] σ) (σ : jx_M) (v1 : Int32) (v2 : Int32) (v3 : Int32) (v4 : Int32) (v5 : Int32) (h : b_X2_firstOf_49 t k8 σ v1 v2 v3 v4 v5 = some out) : jJ_X2_firstOf l G t sz out 49 [(0, .ref (G.2 23)), (1, .int v1), (2, .int v2), (3, .int v3), (4, .int v4), (5, .int v5)] [] σ := by
  unfold b_X2_firstOf_49 at h
  obtain ⟨x1, ex1, h⟩ := jx_lt_o h
  refine jx_iinc (pc := 49) (i := 5) (v := v5) rfl ex1 (n := 1) (by decide) (by decide) (lv' := [(5, .int x1), (0, .ref (G.2 23)), (1, .int v1), (2, .int v2), (3, .int v3), (4, .int v4)]) rfl dX2_firstOf_49 ?_
  refine jx_goto (pc := 52) (tgt := 8) dX2_firstOf_52 (by decide) ?_
  exact jx_sub [1, 2, 3, 4, 5, 0] rfl (h8 σ v1 v2 v3 v4 x1 h)
def b_X2_firstOf_42 (t : jx_T) (k8 : jx_M → Int32 → Int32 → Int32 → Int32 → Int32 → Option (Int32 × jx_M)) (σ : jx_M) (v1 : Int32) (v2 : Int32) (v5 : Int32) (v6 : Int32) : Option (Int32 × jx_M) :=
  (b_X2_firstOf_49 t k8 σ v1 v2 v5 v6 v5)
set_option maxHeartbeats 4000000 in
set_option maxRecDepth 100000 in
theorem jb_X2_firstOf_42 (l : Launch) (G : jx_G) (t : jx_T) (hG : ll_ok G) (sz : Nat) (out : (Int32 × jx_M)) (k8 : jx_M → Int32 → Int32 → Int32 → Int32 → Int32 → Option (Int32 × jx_M)) (h8 : ∀ (σ : jx_M) (v1 : Int32) (v2 : Int32) (v3 : Int32) (v4 : Int32) (v5 : Int32), k8 σ v1 v2 v3 v4 v5 = some out → jJ_X2_firstOf l G t sz out 8 [(0, .ref (G.2 23)), (1, .int v1), (2, .int v2), (3, .int v3), (4, .int v4), (5, .int v5)] [] σ) (σ : jx_M) (v1 : Int32) (v2 : Int32) (v5 : Int32) (v6 : Int32) (h : b_X2_firstOf_42 t k8 σ v1 v2 v5 v6 = some out) : jJ_X2_firstOf l G t sz out 42 [(0, .ref (G.2 23)), (1, .int v1), (2, .int v2), (5, .int v5), (6, .int v6)] [] σ := by
  unfold b_X2_firstOf_42 at h
  refine jx_iload (pc := 42) (i := 6) rfl dX2_firstOf_42 ?_
  refine jx_istore (pc := 44) (i := 4) rfl (by decide) (lv' := [(4, .int v6), (0, .ref (G.2 23)), (1, .int v1), (2, .int v2), (5, .int v5), (6, .int v6)]) rfl dX2_firstOf_44 ?_
  refine jx_iload (pc := 46) (i := 5) rfl dX2_firstOf_46 ?_
  refine jx_istore_n (pc := 48) (i := 3) rfl rfl (by decide) (lv' := [(3, .int v5), (4, .int v6), (0, .ref (G.2 23)), (1, .int v1), (2, .int v2), (5, .int v5), (6, .int v6)]) rfl dX2_firstOf_48 ?_
  exact jx_sub [2, 3, 4, 0, 1, 5] rfl (jb_X2_firstOf_49 l G t hG sz out k8 h8 σ v1 v2 v5 v6 v5 h)
def g_X2_firstOf_8 (t : jx_T) (k8 : jx_M → Int32 → Int32 → Int32 → Int32 → Int32 → Option (Int32 × jx_M)) (σ : jx_M) (v1 : Int32) (v2 : Int32) (v3 : Int32) (v4 : Int32) (v5 : Int32) : Option (Int32 × jx_M) :=
  if (σ 0 0) ≤ v5 then some (v3, σ) else jx_bd (f_X2_leadBehind t σ v1 v5 v2) (fun q2 => if v5 = 0 then (b_X2_firstOf_42 t k8 q2.2 v1 v2 v5 q2.1) else if q2.1 ≤ v4 then (b_X2_firstOf_49 t k8 q2.2 v1 v2 v3 v4 v5) else (b_X2_firstOf_42 t k8 q2.2 v1 v2 v5 q2.1))
set_option maxHeartbeats 4000000 in
set_option maxRecDepth 100000 in
theorem jg_X2_firstOf_8 (l : Launch) (G : jx_G) (t : jx_T) (hG : ll_ok G) (sz : Nat) (out : (Int32 × jx_M)) (k8 : jx_M → Int32 → Int32 → Int32 → Int32 → Int32 → Option (Int32 × jx_M)) (h8 : ∀ (σ : jx_M) (v1 : Int32) (v2 : Int32) (v3 : Int32) (v4 : Int32) (v5 : Int32), k8 σ v1 v2 v3 v4 v5 = some out → jJ_X2_firstOf l G t sz out 8 [(0, .ref (G.2 23)), (1, .int v1), (2, .int v2), (3, .int v3), (4, .int v4), (5, .int v5)] [] σ) (σ : jx_M) (v1 : Int32) (v2 : Int32) (v3 : Int32) (v4 : Int32) (v5 : Int32) (h : g_X2_firstOf_8 t k8 σ v1 v2 v3 v4 v5 = some out) : jJ_X2_firstOf l G t sz out 8 [(0, .ref (G.2 23)), (1, .int v1), (2, .int v2), (3, .int v3), (4, .int v4), (5, .int v5)] [] σ := by
  unfold g_X2_firstOf_8 at h
  refine jx_iload (pc := 8) (i := 5) rfl dX2_firstOf_8 ?_
  refine jx_aload_n (pc := 10) (k0 := 0) rfl dX2_firstOf_10 ?_
  refine ll_gnight_canal (pc := 11) fl_X2_36 dX2_firstOf_11 ?_
  refine ll_gnow_places (pc := 14) fl_X2_40 dX2_firstOf_14 ?_
  refine jx_icmp_ge (pc := 17) (tgt := 55) dX2_firstOf_17 (by decide) (fun c1 => ?_) (fun c1 => ?_)
  · have h := jx_t c1 h
    refine jx_iload_n (pc := 55) (k0 := 3) rfl dX2_firstOf_55 ?_
    have h := Option.some.inj h
    subst h
    exact jx_iret (pc := 56) dX2_firstOf_56
  · have h := jx_f c1 h
    refine jx_aload_n (pc := 20) (k0 := 0) rfl dX2_firstOf_20 ?_
    refine jx_iload_n (pc := 21) (k0 := 1) rfl dX2_firstOf_21 ?_
    refine jx_iload (pc := 22) (i := 5) rfl dX2_firstOf_22 ?_
    refine jx_iload_n (pc := 24) (k0 := 2) rfl dX2_firstOf_24 ?_
    obtain ⟨q2, eq2, h⟩ := jx_bd_o h
    refine jx_callVi (pc := 25) [.int v1, .int v5, .int v2] (fun sz' => k_X2_leadBehind l G t hG sz' σ v1 v5 v2 q2 eq2) kv_X2_120 ll_jok ll_rcnight rfl rfl (Nat.le_of_ble_eq_true rfl) ⟨⟨rfl, rfl⟩, ⟨Nat.le_of_ble_eq_true rfl, Nat.le_of_ble_eq_true rfl⟩, Nat.zero_le _, Nat.zero_le _⟩ dX2_firstOf_25 ?_
    refine jx_istore (pc := 28) (i := 6) rfl (by decide) (lv' := [(6, .int q2.1), (0, .ref (G.2 23)), (1, .int v1), (2, .int v2), (3, .int v3), (4, .int v4), (5, .int v5)]) rfl dX2_firstOf_28 ?_
    refine jx_iload (pc := 30) (i := 5) rfl dX2_firstOf_30 ?_
    refine jx_if_eq (pc := 32) (tgt := 42) dX2_firstOf_32 (by decide) (fun c3 => ?_) (fun c3 => ?_)
    · have h := jx_t c3 h
      exact jx_sub [1, 2, 3, 6, 0] rfl (jb_X2_firstOf_42 l G t hG sz out k8 h8 q2.2 v1 v2 v5 q2.1 h)
    · have h := jx_f c3 h
      refine jx_iload (pc := 35) (i := 6) rfl dX2_firstOf_35 ?_
      refine jx_iload (pc := 37) (i := 4) rfl dX2_firstOf_37 ?_
      refine jx_icmp_le (pc := 39) (tgt := 49) dX2_firstOf_39 (by decide) (fun c4 => ?_) (fun c4 => ?_)
      · have h := jx_t c4 h
        exact jx_sub [1, 2, 3, 4, 5, 6] rfl (jb_X2_firstOf_49 l G t hG sz out k8 h8 q2.2 v1 v2 v3 v4 v5 h)
      · have h := jx_f c4 h
        exact jx_sub [1, 2, 3, 6, 0] rfl (jb_X2_firstOf_42 l G t hG sz out k8 h8 q2.2 v1 v2 v5 q2.1 h)
def b_X2_firstOf_8 (t : jx_T)  : Nat → jx_M → Int32 → Int32 → Int32 → Int32 → Int32 → Option (Int32 × jx_M)
  | 0, _, _, _, _, _, _ => none
  | n + 1, σ, v1, v2, v3, v4, v5 => g_X2_firstOf_8 t (b_X2_firstOf_8 t n) σ v1 v2 v3 v4 v5
theorem jb_X2_firstOf_8 (l : Launch) (G : jx_G) (t : jx_T) (hG : ll_ok G) (sz : Nat) (out : (Int32 × jx_M))  : ∀ (n : Nat) (σ : jx_M) (v1 : Int32) (v2 : Int32) (v3 : Int32) (v4 : Int32) (v5 : Int32), b_X2_firstOf_8 t n σ v1 v2 v3 v4 v5 = some out → jJ_X2_firstOf l G t sz out 8 [(0, .ref (G.2 23)), (1, .int v1), (2, .int v2), (3, .int v3), (4, .int v4), (5, .int v5)] [] σ := by
  intro n
  induction n with
  | zero =>
    intro σ v1 v2 v3 v4 v5 h
    cases h
  | succ n ih =>
    intro σ v1 v2 v3 v4 v5 h
    exact jg_X2_firstOf_8 l G t hG sz out (b_X2_firstOf_8 t n) ih σ v1 v2 v3 v4 v5 h
def f_X2_firstOf (t : jx_T) (σ : jx_M) (a1 : Int32) (a2 : Int32) : Option (Int32 × jx_M) :=
  (b_X2_firstOf_8 t jx_fuel σ a1 a2 (0 : Int32) (0 : Int32) (0 : Int32))
set_option maxHeartbeats 4000000 in
set_option maxRecDepth 100000 in
theorem k_X2_firstOf (l : Launch) (G : jx_G) (t : jx_T) (hG : ll_ok G) (sz : Nat) (σ : jx_M) (a1 : Int32) (a2 : Int32) (out : (Int32 × jx_M)) (h : f_X2_firstOf t σ a1 a2 = some out) : Met l yX2_firstOf (Cond.code yX2_firstOf cX2_firstOf 7 (some .int) :: jx_ws) rm_X2_firstOf (jx_Pc (ll_env G t) (ll_dyn G t) (ll_rg G) sz σ [.ref (G.2 23), .int a1, .int a2]) (jx_Qi (ll_dyn G t) out.2 out.1 (jx_A (ll_rg G) sz)) 0 0 (jx_A (ll_rg G) sz) := by
  unfold f_X2_firstOf at h
  refine jx_met (by decide) (Nat.le_of_ble_eq_true rfl) ?_
  refine jx_sub (lv' := [(0, .ref (G.2 23)), (1, .int a1), (2, .int a2)]) [0, 1, 2] rfl ?_
  refine jx_iconst (pc := 0) (v := (0 : Int32)) (by decide) dX2_firstOf_0 ?_
  refine jx_istore_n (pc := 1) (i := 3) rfl rfl (by decide) (lv' := [(3, .int (0 : Int32)), (0, .ref (G.2 23)), (1, .int a1), (2, .int a2)]) rfl dX2_firstOf_1 ?_
  refine jx_iconst (pc := 2) (v := (0 : Int32)) (by decide) dX2_firstOf_2 ?_
  refine jx_istore (pc := 3) (i := 4) rfl (by decide) (lv' := [(4, .int (0 : Int32)), (3, .int (0 : Int32)), (0, .ref (G.2 23)), (1, .int a1), (2, .int a2)]) rfl dX2_firstOf_3 ?_
  refine jx_iconst (pc := 5) (v := (0 : Int32)) (by decide) dX2_firstOf_5 ?_
  refine jx_istore (pc := 6) (i := 5) rfl (by decide) (lv' := [(5, .int (0 : Int32)), (4, .int (0 : Int32)), (3, .int (0 : Int32)), (0, .ref (G.2 23)), (1, .int a1), (2, .int a2)]) rfl dX2_firstOf_6 ?_
  exact jx_sub [3, 4, 5, 2, 1, 0] rfl (jb_X2_firstOf_8 l G t hG sz out jx_fuel σ a1 a2 (0 : Int32) (0 : Int32) (0 : Int32) h)
theorem dX2_fitting_0 : decode cX2_fitting 0 = .ok (.aload_n 0, 1) := by decide +kernel
theorem dX2_fitting_1 : decode cX2_fitting 1 = .ok (.invokevirtual 103, 3) := by decide +kernel
theorem dX2_fitting_4 : decode cX2_fitting 4 = .ok (.iconst 0, 1) := by decide +kernel
theorem dX2_fitting_5 : decode cX2_fitting 5 = .ok (.istore_n 2, 1) := by decide +kernel
theorem dX2_fitting_6 : decode cX2_fitting 6 = .ok (.iconst 0, 1) := by decide +kernel
theorem dX2_fitting_7 : decode cX2_fitting 7 = .ok (.istore_n 3, 1) := by decide +kernel
theorem dX2_fitting_8 : decode cX2_fitting 8 = .ok (.iload_n 3, 1) := by decide +kernel
theorem dX2_fitting_9 : decode cX2_fitting 9 = .ok (.aload_n 0, 1) := by decide +kernel
theorem dX2_fitting_10 : decode cX2_fitting 10 = .ok (.getfield 36, 3) := by decide +kernel
theorem dX2_fitting_13 : decode cX2_fitting 13 = .ok (.getfield 40, 3) := by decide +kernel
theorem dX2_fitting_16 : decode cX2_fitting 16 = .ok (.if_icmp .ge 32, 3) := by decide +kernel
theorem dX2_fitting_19 : decode cX2_fitting 19 = .ok (.aload_n 0, 1) := by decide +kernel
theorem dX2_fitting_20 : decode cX2_fitting 20 = .ok (.iload_n 1, 1) := by decide +kernel
theorem dX2_fitting_21 : decode cX2_fitting 21 = .ok (.iload_n 3, 1) := by decide +kernel
theorem dX2_fitting_22 : decode cX2_fitting 22 = .ok (.invokevirtual 80, 3) := by decide +kernel
theorem dX2_fitting_25 : decode cX2_fitting 25 = .ok (.aload_n 0, 1) := by decide +kernel
theorem dX2_fitting_26 : decode cX2_fitting 26 = .ok (.invokevirtual 129, 3) := by decide +kernel
theorem dX2_fitting_29 : decode cX2_fitting 29 = .ok (.aload_n 0, 1) := by decide +kernel
theorem dX2_fitting_30 : decode cX2_fitting 30 = .ok (.invokevirtual 132, 3) := by decide +kernel
theorem dX2_fitting_33 : decode cX2_fitting 33 = .ok (.ifCond .eq 9, 3) := by decide +kernel
theorem dX2_fitting_36 : decode cX2_fitting 36 = .ok (.iload_n 2, 1) := by decide +kernel
theorem dX2_fitting_37 : decode cX2_fitting 37 = .ok (.iconst 1, 1) := by decide +kernel
theorem dX2_fitting_38 : decode cX2_fitting 38 = .ok (.iload_n 3, 1) := by decide +kernel
theorem dX2_fitting_39 : decode cX2_fitting 39 = .ok (.ishl, 1) := by decide +kernel
theorem dX2_fitting_40 : decode cX2_fitting 40 = .ok (.ior, 1) := by decide +kernel
theorem dX2_fitting_41 : decode cX2_fitting 41 = .ok (.istore_n 2, 1) := by decide +kernel
theorem dX2_fitting_42 : decode cX2_fitting 42 = .ok (.iinc 3 1, 3) := by decide +kernel
theorem dX2_fitting_45 : decode cX2_fitting 45 = .ok (.goto (-37), 3) := by decide +kernel
theorem dX2_fitting_48 : decode cX2_fitting 48 = .ok (.iload_n 2, 1) := by decide +kernel
theorem dX2_fitting_49 : decode cX2_fitting 49 = .ok (.ireturn, 1) := by decide +kernel
abbrev rm_X2_fitting : Room := { frames := 5, cells := 0, slots := 0, locals := 116 }
abbrev jJ_X2_fitting (l : Launch) (G : jx_G) (t : jx_T) (sz : Nat) (out : (Int32 × jx_M)) (pc : Nat) (lv : List (Nat × Value)) (st : List Value) (σ : jx_M) : Prop := jx_J l (ll_env G t) (ll_dyn G t) (ll_rg G) sz RX2 "fitting" cX2_fitting 4 (some .int) rm_X2_fitting (fun below args s => MQ below (jx_Qi (ll_dyn G t) out.2 out.1 (jx_A (ll_rg G) sz)) args s 0 0 (jx_A (ll_rg G) sz)) 0 0 pc lv st σ
def b_X2_fitting_42 (t : jx_T) (k8 : jx_M → Int32 → Int32 → Int32 → Option (Int32 × jx_M)) (σ : jx_M) (v1 : Int32) (v2 : Int32) (v3 : Int32) : Option (Int32 × jx_M) :=
  jx_lt (v3 + (1 : Int32)) (fun x1 => (k8 σ v1 v2 x1))
set_option maxHeartbeats 4000000 in
set_option maxRecDepth 100000 in
theorem jb_X2_fitting_42 (l : Launch) (G : jx_G) (t : jx_T) (hG : ll_ok G) (sz : Nat) (out : (Int32 × jx_M)) (k8 : jx_M → Int32 → Int32 → Int32 → Option (Int32 × jx_M)) (h8 : ∀ (σ : jx_M) (v1 : Int32) (v2 : Int32) (v3 : Int32), k8 σ v1 v2 v3 = some out → jJ_X2_fitting l G t sz out 8 [(0, .ref (G.2 23)), (1, .int v1), (2, .int v2), (3, .int v3)] [] σ) (σ : jx_M) (v1 : Int32) (v2 : Int32) (v3 : Int32) (h : b_X2_fitting_42 t k8 σ v1 v2 v3 = some out) : jJ_X2_fitting l G t sz out 42 [(0, .ref (G.2 23)), (1, .int v1), (2, .int v2), (3, .int v3)] [] σ := by
  unfold b_X2_fitting_42 at h
  obtain ⟨x1, ex1, h⟩ := jx_lt_o h
  refine jx_iinc (pc := 42) (i := 3) (v := v3) rfl ex1 (n := 1) (by decide) (by decide) (lv' := [(3, .int x1), (0, .ref (G.2 23)), (1, .int v1), (2, .int v2)]) rfl dX2_fitting_42 ?_
  refine jx_goto (pc := 45) (tgt := 8) dX2_fitting_45 (by decide) ?_
  exact jx_sub [1, 2, 3, 0] rfl (h8 σ v1 v2 x1 h)
def g_X2_fitting_8 (t : jx_T) (k8 : jx_M → Int32 → Int32 → Int32 → Option (Int32 × jx_M)) (σ : jx_M) (v1 : Int32) (v2 : Int32) (v3 : Int32) : Option (Int32 × jx_M) :=
  if (σ 0 0) ≤ v3 then some (v2, σ) else jx_bd (f_X2_light t σ v1 v3) (fun q2 => jx_bd (f_X2_countLamps t q2) (fun q3 => jx_bd (f_X2_isAsSeen t q3) (fun q4 => if q4 = 0 then (b_X2_fitting_42 t k8 q3 v1 v2 v3) else jx_lt ((v2 ||| ((1 : Int32) <<< (v3 &&& 31)))) (fun x6 => (b_X2_fitting_42 t k8 q3 v1 x6 v3)))))
set_option maxHeartbeats 4000000 in
set_option maxRecDepth 100000 in
theorem jg_X2_fitting_8 (l : Launch) (G : jx_G) (t : jx_T) (hG : ll_ok G) (sz : Nat) (out : (Int32 × jx_M)) (k8 : jx_M → Int32 → Int32 → Int32 → Option (Int32 × jx_M)) (h8 : ∀ (σ : jx_M) (v1 : Int32) (v2 : Int32) (v3 : Int32), k8 σ v1 v2 v3 = some out → jJ_X2_fitting l G t sz out 8 [(0, .ref (G.2 23)), (1, .int v1), (2, .int v2), (3, .int v3)] [] σ) (σ : jx_M) (v1 : Int32) (v2 : Int32) (v3 : Int32) (h : g_X2_fitting_8 t k8 σ v1 v2 v3 = some out) : jJ_X2_fitting l G t sz out 8 [(0, .ref (G.2 23)), (1, .int v1), (2, .int v2), (3, .int v3)] [] σ := by
  unfold g_X2_fitting_8 at h
  refine jx_iload_n (pc := 8) (k0 := 3) rfl dX2_fitting_8 ?_
  refine jx_aload_n (pc := 9) (k0 := 0) rfl dX2_fitting_9 ?_
  refine ll_gnight_canal (pc := 10) fl_X2_36 dX2_fitting_10 ?_
  refine ll_gnow_places (pc := 13) fl_X2_40 dX2_fitting_13 ?_
  refine jx_icmp_ge (pc := 16) (tgt := 48) dX2_fitting_16 (by decide) (fun c1 => ?_) (fun c1 => ?_)
  · have h := jx_t c1 h
    refine jx_iload_n (pc := 48) (k0 := 2) rfl dX2_fitting_48 ?_
    have h := Option.some.inj h
    subst h
    exact jx_iret (pc := 49) dX2_fitting_49
  · have h := jx_f c1 h
    refine jx_aload_n (pc := 19) (k0 := 0) rfl dX2_fitting_19 ?_
    refine jx_iload_n (pc := 20) (k0 := 1) rfl dX2_fitting_20 ?_
    refine jx_iload_n (pc := 21) (k0 := 3) rfl dX2_fitting_21 ?_
    obtain ⟨q2, eq2, h⟩ := jx_bd_o h
    refine jx_callVv (pc := 22) [.int v1, .int v3] (fun sz' => k_X2_light l G t hG sz' σ v1 v3 q2 eq2) kv_X2_80 ll_jok ll_rcnight rfl rfl (Nat.le_of_ble_eq_true rfl) ⟨⟨rfl, rfl⟩, ⟨Nat.le_of_ble_eq_true rfl, Nat.le_of_ble_eq_true rfl⟩, Nat.zero_le _, Nat.zero_le _⟩ dX2_fitting_22 ?_
    refine jx_aload_n (pc := 25) (k0 := 0) rfl dX2_fitting_25 ?_
    obtain ⟨q3, eq3, h⟩ := jx_bd_o h
    refine jx_callVv (pc := 26) [] (fun sz' => k_X2_countLamps l G t hG sz' q2 q3 eq3) kv_X2_129 ll_jok ll_rcnight rfl rfl (Nat.le_of_ble_eq_true rfl) ⟨⟨rfl, rfl⟩, ⟨Nat.le_of_ble_eq_true rfl, Nat.le_of_ble_eq_true rfl⟩, Nat.zero_le _, Nat.zero_le _⟩ dX2_fitting_26 ?_
    refine jx_aload_n (pc := 29) (k0 := 0) rfl dX2_fitting_29 ?_
    obtain ⟨q4, eq4, h⟩ := jx_bd_o h
    refine jx_callVi (pc := 30) [] (fun sz' => k_X2_isAsSeen l G t hG sz' q3 q4 eq4) kv_X2_132 ll_jok ll_rcnight rfl rfl (Nat.le_of_ble_eq_true rfl) ⟨⟨rfl, rfl⟩, ⟨Nat.le_of_ble_eq_true rfl, Nat.le_of_ble_eq_true rfl⟩, Nat.zero_le _, Nat.zero_le _⟩ dX2_fitting_30 ?_
    refine jx_if_eq (pc := 33) (tgt := 42) dX2_fitting_33 (by decide) (fun c5 => ?_) (fun c5 => ?_)
    · have h := jx_t c5 h
      exact jx_sub [0, 1, 2, 3] rfl (jb_X2_fitting_42 l G t hG sz out k8 h8 q3 v1 v2 v3 h)
    · have h := jx_f c5 h
      refine jx_iload_n (pc := 36) (k0 := 2) rfl dX2_fitting_36 ?_
      refine jx_iconst (pc := 37) (v := (1 : Int32)) (by decide) dX2_fitting_37 ?_
      refine jx_iload_n (pc := 38) (k0 := 3) rfl dX2_fitting_38 ?_
      refine jx_ishl (pc := 39) dX2_fitting_39 ?_
      refine jx_ior (pc := 40) dX2_fitting_40 ?_
      obtain ⟨x6, ex6, h⟩ := jx_lt_o h
      refine jx_istore_n (pc := 41) (i := 2) rfl ex6 (by decide) (lv' := [(2, .int x6), (0, .ref (G.2 23)), (1, .int v1), (3, .int v3)]) rfl dX2_fitting_41 ?_
      exact jx_sub [1, 2, 0, 3] rfl (jb_X2_fitting_42 l G t hG sz out k8 h8 q3 v1 x6 v3 h)
def b_X2_fitting_8 (t : jx_T)  : Nat → jx_M → Int32 → Int32 → Int32 → Option (Int32 × jx_M)
  | 0, _, _, _, _ => none
  | n + 1, σ, v1, v2, v3 => g_X2_fitting_8 t (b_X2_fitting_8 t n) σ v1 v2 v3
theorem jb_X2_fitting_8 (l : Launch) (G : jx_G) (t : jx_T) (hG : ll_ok G) (sz : Nat) (out : (Int32 × jx_M))  : ∀ (n : Nat) (σ : jx_M) (v1 : Int32) (v2 : Int32) (v3 : Int32), b_X2_fitting_8 t n σ v1 v2 v3 = some out → jJ_X2_fitting l G t sz out 8 [(0, .ref (G.2 23)), (1, .int v1), (2, .int v2), (3, .int v3)] [] σ := by
  intro n
  induction n with
  | zero =>
    intro σ v1 v2 v3 h
    cases h
  | succ n ih =>
    intro σ v1 v2 v3 h
    exact jg_X2_fitting_8 l G t hG sz out (b_X2_fitting_8 t n) ih σ v1 v2 v3 h
def f_X2_fitting (t : jx_T) (σ : jx_M) (a1 : Int32) : Option (Int32 × jx_M) :=
  jx_bd (f_X2_pass t σ) (fun q1 => (b_X2_fitting_8 t jx_fuel q1 a1 (0 : Int32) (0 : Int32)))
set_option maxHeartbeats 4000000 in
set_option maxRecDepth 100000 in
theorem k_X2_fitting (l : Launch) (G : jx_G) (t : jx_T) (hG : ll_ok G) (sz : Nat) (σ : jx_M) (a1 : Int32) (out : (Int32 × jx_M)) (h : f_X2_fitting t σ a1 = some out) : Met l yX2_fitting (Cond.code yX2_fitting cX2_fitting 4 (some .int) :: jx_ws) rm_X2_fitting (jx_Pc (ll_env G t) (ll_dyn G t) (ll_rg G) sz σ [.ref (G.2 23), .int a1]) (jx_Qi (ll_dyn G t) out.2 out.1 (jx_A (ll_rg G) sz)) 0 0 (jx_A (ll_rg G) sz) := by
  unfold f_X2_fitting at h
  refine jx_met (by decide) (Nat.le_of_ble_eq_true rfl) ?_
  refine jx_sub (lv' := [(0, .ref (G.2 23)), (1, .int a1)]) [0, 1] rfl ?_
  refine jx_aload_n (pc := 0) (k0 := 0) rfl dX2_fitting_0 ?_
  obtain ⟨q1, eq1, h⟩ := jx_bd_o h
  refine jx_callVv (pc := 1) [] (fun sz' => k_X2_pass l G t hG sz' σ q1 eq1) kv_X2_103 ll_jok ll_rcnight rfl rfl (Nat.le_of_ble_eq_true rfl) ⟨⟨rfl, rfl⟩, ⟨Nat.le_of_ble_eq_true rfl, Nat.le_of_ble_eq_true rfl⟩, Nat.zero_le _, Nat.zero_le _⟩ dX2_fitting_1 ?_
  refine jx_iconst (pc := 4) (v := (0 : Int32)) (by decide) dX2_fitting_4 ?_
  refine jx_istore_n (pc := 5) (i := 2) rfl rfl (by decide) (lv' := [(2, .int (0 : Int32)), (0, .ref (G.2 23)), (1, .int a1)]) rfl dX2_fitting_5 ?_
  refine jx_iconst (pc := 6) (v := (0 : Int32)) (by decide) dX2_fitting_6 ?_
  refine jx_istore_n (pc := 7) (i := 3) rfl rfl (by decide) (lv' := [(3, .int (0 : Int32)), (2, .int (0 : Int32)), (0, .ref (G.2 23)), (1, .int a1)]) rfl dX2_fitting_7 ?_
  exact jx_sub [2, 3, 1, 0] rfl (jb_X2_fitting_8 l G t hG sz out jx_fuel q1 a1 (0 : Int32) (0 : Int32) h)
theorem dX3_faultOf_0 : decode cX3_faultOf 0 = .ok (.aload_n 0, 1) := by decide +kernel
theorem dX3_faultOf_1 : decode cX3_faultOf 1 = .ok (.iconst 0, 1) := by decide +kernel
theorem dX3_faultOf_2 : decode cX3_faultOf 2 = .ok (.putfield 27, 3) := by decide +kernel
theorem dX3_faultOf_5 : decode cX3_faultOf 5 = .ok (.aload_n 0, 1) := by decide +kernel
theorem dX3_faultOf_6 : decode cX3_faultOf 6 = .ok (.iconst 0, 1) := by decide +kernel
theorem dX3_faultOf_7 : decode cX3_faultOf 7 = .ok (.putfield 31, 3) := by decide +kernel
theorem dX3_faultOf_10 : decode cX3_faultOf 10 = .ok (.aload_n 0, 1) := by decide +kernel
theorem dX3_faultOf_11 : decode cX3_faultOf 11 = .ok (.iconst 0, 1) := by decide +kernel
theorem dX3_faultOf_12 : decode cX3_faultOf 12 = .ok (.putfield 34, 3) := by decide +kernel
theorem dX3_faultOf_15 : decode cX3_faultOf 15 = .ok (.aload_n 0, 1) := by decide +kernel
theorem dX3_faultOf_16 : decode cX3_faultOf 16 = .ok (.iconst 0, 1) := by decide +kernel
theorem dX3_faultOf_17 : decode cX3_faultOf 17 = .ok (.putfield 37, 3) := by decide +kernel
theorem dX3_faultOf_20 : decode cX3_faultOf 20 = .ok (.aload_n 0, 1) := by decide +kernel
theorem dX3_faultOf_21 : decode cX3_faultOf 21 = .ok (.iconst 0, 1) := by decide +kernel
theorem dX3_faultOf_22 : decode cX3_faultOf 22 = .ok (.putfield 40, 3) := by decide +kernel
theorem dX3_faultOf_25 : decode cX3_faultOf 25 = .ok (.iconst 0, 1) := by decide +kernel
theorem dX3_faultOf_26 : decode cX3_faultOf 26 = .ok (.istore_n 3, 1) := by decide +kernel
theorem dX3_faultOf_27 : decode cX3_faultOf 27 = .ok (.iload_n 3, 1) := by decide +kernel
theorem dX3_faultOf_28 : decode cX3_faultOf 28 = .ok (.iload_n 2, 1) := by decide +kernel
theorem dX3_faultOf_29 : decode cX3_faultOf 29 = .ok (.if_icmp .ge 27, 3) := by decide +kernel
theorem dX3_faultOf_32 : decode cX3_faultOf 32 = .ok (.iload_n 3, 1) := by decide +kernel
theorem dX3_faultOf_33 : decode cX3_faultOf 33 = .ok (.aload_n 1, 1) := by decide +kernel
theorem dX3_faultOf_34 : decode cX3_faultOf 34 = .ok (.arraylength, 1) := by decide +kernel
theorem dX3_faultOf_35 : decode cX3_faultOf 35 = .ok (.if_icmp .ge 21, 3) := by decide +kernel
theorem dX3_faultOf_38 : decode cX3_faultOf 38 = .ok (.aload_n 0, 1) := by decide +kernel
theorem dX3_faultOf_39 : decode cX3_faultOf 39 = .ok (.aload_n 1, 1) := by decide +kernel
theorem dX3_faultOf_40 : decode cX3_faultOf 40 = .ok (.iload_n 3, 1) := by decide +kernel
theorem dX3_faultOf_41 : decode cX3_faultOf 41 = .ok (.iaload, 1) := by decide +kernel
theorem dX3_faultOf_42 : decode cX3_faultOf 42 = .ok (.invokevirtual 43, 3) := by decide +kernel
theorem dX3_faultOf_45 : decode cX3_faultOf 45 = .ok (.ifCond .ne 5, 3) := by decide +kernel
theorem dX3_faultOf_48 : decode cX3_faultOf 48 = .ok (.iload_n 3, 1) := by decide +kernel
theorem dX3_faultOf_49 : decode cX3_faultOf 49 = .ok (.ireturn, 1) := by decide +kernel
theorem dX3_faultOf_50 : decode cX3_faultOf 50 = .ok (.iinc 3 1, 3) := by decide +kernel
theorem dX3_faultOf_53 : decode cX3_faultOf 53 = .ok (.goto (-26), 3) := by decide +kernel
theorem dX3_faultOf_56 : decode cX3_faultOf 56 = .ok (.aload_n 0, 1) := by decide +kernel
theorem dX3_faultOf_57 : decode cX3_faultOf 57 = .ok (.invokevirtual 47, 3) := by decide +kernel
theorem dX3_faultOf_60 : decode cX3_faultOf 60 = .ok (.ifCond .eq 7, 3) := by decide +kernel
theorem dX3_faultOf_63 : decode cX3_faultOf 63 = .ok (.iconst (-1), 1) := by decide +kernel
theorem dX3_faultOf_64 : decode cX3_faultOf 64 = .ok (.goto 4, 3) := by decide +kernel
theorem dX3_faultOf_67 : decode cX3_faultOf 67 = .ok (.iload_n 2, 1) := by decide +kernel
theorem dX3_faultOf_68 : decode cX3_faultOf 68 = .ok (.ireturn, 1) := by decide +kernel
abbrev rm_X3_faultOf : Room := { frames := 6, cells := 0, slots := 0, locals := 133 }
abbrev jJ_X3_faultOf (l : Launch) (G : jx_G) (t : jx_T) (sz : Nat) (out : (Int32 × jx_M)) (pc : Nat) (lv : List (Nat × Value)) (st : List Value) (σ : jx_M) : Prop := jx_J l (ll_env G t) (ll_dyn G t) (ll_rg G) sz RX3 "faultOf" cX3_faultOf 4 (some .int) rm_X3_faultOf (fun below args s => MQ below (jx_Qi (ll_dyn G t) out.2 out.1 (jx_A (ll_rg G) sz)) args s 0 0 (jx_A (ll_rg G) sz)) 0 0 pc lv st σ
def b_X3_faultOf_56 (t : jx_T)  (σ : jx_M) (v2 : Int32) : Option (Int32 × jx_M) :=
  jx_bd (f_X3_isWhole t σ) (fun q1 => if q1.1 = 0 then some (v2, q1.2) else some ((-1 : Int32), q1.2))
set_option maxHeartbeats 4000000 in
set_option maxRecDepth 100000 in
theorem jb_X3_faultOf_56 (l : Launch) (G : jx_G) (t : jx_T) (hG : ll_ok G) (sz : Nat) (out : (Int32 × jx_M))  (σ : jx_M) (v2 : Int32) (h : b_X3_faultOf_56 t σ v2 = some out) : jJ_X3_faultOf l G t sz out 56 [(0, .ref (G.2 25)), (2, .int v2)] [] σ := by
  unfold b_X3_faultOf_56 at h
  refine jx_aload_n (pc := 56) (k0 := 0) rfl dX3_faultOf_56 ?_
  obtain ⟨q1, eq1, h⟩ := jx_bd_o h
  refine jx_callVi (pc := 57) [] (fun sz' => k_X3_isWhole l G t hG sz' σ q1 eq1) kv_X3_47 ll_jok ll_rcreader rfl rfl (Nat.le_of_ble_eq_true rfl) ⟨⟨rfl, rfl⟩, ⟨Nat.le_of_ble_eq_true rfl, Nat.le_of_ble_eq_true rfl⟩, Nat.zero_le _, Nat.zero_le _⟩ dX3_faultOf_57 ?_
  refine jx_if_eq (pc := 60) (tgt := 67) dX3_faultOf_60 (by decide) (fun c2 => ?_) (fun c2 => ?_)
  · have h := jx_t c2 h
    refine jx_iload_n (pc := 67) (k0 := 2) rfl dX3_faultOf_67 ?_
    have h := Option.some.inj h
    subst h
    exact jx_iret (pc := 68) dX3_faultOf_68
  · have h := jx_f c2 h
    refine jx_iconst (pc := 63) (v := (-1 : Int32)) (by decide) dX3_faultOf_63 ?_
    refine jx_goto (pc := 64) (tgt := 68) dX3_faultOf_64 (by decide) ?_
    have h := Option.some.inj h
    subst h
    exact jx_iret (pc := 68) dX3_faultOf_68
def g_X3_faultOf_27 (t : jx_T) (k27 : jx_M → Nat → Int32 → Int32 → Option (Int32 × jx_M)) (σ : jx_M) (v1 : Nat) (v2 : Int32) (v3 : Int32) : Option (Int32 × jx_M) :=
  if v2 ≤ v3 then (b_X3_faultOf_56 t σ v2) else jx_gd (decide (1 ≤ v1 ∧ v1 ≤ 65)) (if (Int32.ofNat (ll_len v1)) ≤ v3 then (b_X3_faultOf_56 t σ v2) else jx_gd (jx_in v3 (ll_len v1)) (jx_bd (f_X3_takes t σ (σ v1 v3.toNatClampNeg)) (fun q5 => if q5.1 = 0 then some (v3, q5.2) else jx_lt (v3 + (1 : Int32)) (fun x7 => (k27 q5.2 v1 v2 x7)))))
set_option maxHeartbeats 4000000 in
set_option maxRecDepth 100000 in
theorem jg_X3_faultOf_27 (l : Launch) (G : jx_G) (t : jx_T) (hG : ll_ok G) (sz : Nat) (out : (Int32 × jx_M)) (k27 : jx_M → Nat → Int32 → Int32 → Option (Int32 × jx_M)) (h27 : ∀ (σ : jx_M) (v1 : Nat) (v2 : Int32) (v3 : Int32), k27 σ v1 v2 v3 = some out → jJ_X3_faultOf l G t sz out 27 [(0, .ref (G.2 25)), (1, .ref (G.2 (100 + v1))), (2, .int v2), (3, .int v3)] [] σ) (σ : jx_M) (v1 : Nat) (v2 : Int32) (v3 : Int32) (h : g_X3_faultOf_27 t k27 σ v1 v2 v3 = some out) : jJ_X3_faultOf l G t sz out 27 [(0, .ref (G.2 25)), (1, .ref (G.2 (100 + v1))), (2, .int v2), (3, .int v3)] [] σ := by
  unfold g_X3_faultOf_27 at h
  refine jx_iload_n (pc := 27) (k0 := 3) rfl dX3_faultOf_27 ?_
  refine jx_iload_n (pc := 28) (k0 := 2) rfl dX3_faultOf_28 ?_
  refine jx_icmp_ge (pc := 29) (tgt := 56) dX3_faultOf_29 (by decide) (fun c1 => ?_) (fun c1 => ?_)
  · have h := jx_t c1 h
    exact jx_sub [0, 2] rfl (jb_X3_faultOf_56 l G t hG sz out σ v2 h)
  · have h := jx_f c1 h
    refine jx_iload_n (pc := 32) (k0 := 3) rfl dX3_faultOf_32 ?_
    refine jx_aload_n (pc := 33) (k0 := 1) rfl dX3_faultOf_33 ?_
    obtain ⟨g2, h⟩ := jx_gd_o h
    refine ll_len1 (pc := 34) (k := v1) (of_decide_eq_true g2).1 (of_decide_eq_true g2).2 rfl dX3_faultOf_34 ?_
    refine jx_icmp_ge (pc := 35) (tgt := 56) dX3_faultOf_35 (by decide) (fun c3 => ?_) (fun c3 => ?_)
    · have h := jx_t c3 h
      exact jx_sub [0, 2] rfl (jb_X3_faultOf_56 l G t hG sz out σ v2 h)
    · have h := jx_f c3 h
      refine jx_aload_n (pc := 38) (k0 := 0) rfl dX3_faultOf_38 ?_
      refine jx_aload_n (pc := 39) (k0 := 1) rfl dX3_faultOf_39 ?_
      refine jx_iload_n (pc := 40) (k0 := 3) rfl dX3_faultOf_40 ?_
      obtain ⟨g4, h⟩ := jx_gd_o h
      refine ll_l (pc := 41) (k := v1) (jx_in_o g4) rfl dX3_faultOf_41 ?_
      obtain ⟨q5, eq5, h⟩ := jx_bd_o h
      refine jx_callVi (pc := 42) [.int (σ v1 v3.toNatClampNeg)] (fun sz' => k_X3_takes l G t hG sz' σ (σ v1 v3.toNatClampNeg) q5 eq5) kv_X3_43 ll_jok ll_rcreader rfl rfl (Nat.le_of_ble_eq_true rfl) ⟨⟨rfl, rfl⟩, ⟨Nat.le_of_ble_eq_true rfl, Nat.le_of_ble_eq_true rfl⟩, Nat.zero_le _, Nat.zero_le _⟩ dX3_faultOf_42 ?_
      refine jx_if_ne (pc := 45) (tgt := 50) dX3_faultOf_45 (by decide) (fun c6 => ?_) (fun c6 => ?_)
      · have h := jx_f c6 h
        obtain ⟨x7, ex7, h⟩ := jx_lt_o h
        refine jx_iinc (pc := 50) (i := 3) (v := v3) rfl ex7 (n := 1) (by decide) (by decide) (lv' := [(3, .int x7), (0, .ref (G.2 25)), (1, .ref (G.2 (100 + v1))), (2, .int v2)]) rfl dX3_faultOf_50 ?_
        refine jx_goto (pc := 53) (tgt := 27) dX3_faultOf_53 (by decide) ?_
        exact jx_sub [1, 2, 3, 0] rfl (h27 q5.2 v1 v2 x7 h)
      · have h := jx_t c6 h
        refine jx_iload_n (pc := 48) (k0 := 3) rfl dX3_faultOf_48 ?_
        have h := Option.some.inj h
        subst h
        exact jx_iret (pc := 49) dX3_faultOf_49
def b_X3_faultOf_27 (t : jx_T)  : Nat → jx_M → Nat → Int32 → Int32 → Option (Int32 × jx_M)
  | 0, _, _, _, _ => none
  | n + 1, σ, v1, v2, v3 => g_X3_faultOf_27 t (b_X3_faultOf_27 t n) σ v1 v2 v3
theorem jb_X3_faultOf_27 (l : Launch) (G : jx_G) (t : jx_T) (hG : ll_ok G) (sz : Nat) (out : (Int32 × jx_M))  : ∀ (n : Nat) (σ : jx_M) (v1 : Nat) (v2 : Int32) (v3 : Int32), b_X3_faultOf_27 t n σ v1 v2 v3 = some out → jJ_X3_faultOf l G t sz out 27 [(0, .ref (G.2 25)), (1, .ref (G.2 (100 + v1))), (2, .int v2), (3, .int v3)] [] σ := by
  intro n
  induction n with
  | zero =>
    intro σ v1 v2 v3 h
    cases h
  | succ n ih =>
    intro σ v1 v2 v3 h
    exact jg_X3_faultOf_27 l G t hG sz out (b_X3_faultOf_27 t n) ih σ v1 v2 v3 h
def f_X3_faultOf (t : jx_T) (σ : jx_M) (a1 : Nat) (a2 : Int32) : Option (Int32 × jx_M) :=
  jx_lt (jx_mu σ 0 30 (0 : Int32)) (fun σ1 => jx_lt (jx_mu σ1 0 31 (0 : Int32)) (fun σ2 => jx_lt (jx_mu σ2 0 32 (0 : Int32)) (fun σ3 => jx_lt (jx_mu σ3 0 33 (0 : Int32)) (fun σ4 => jx_lt (jx_mu σ4 0 34 (0 : Int32)) (fun σ5 => (b_X3_faultOf_27 t jx_fuel σ5 a1 a2 (0 : Int32)))))))
set_option maxHeartbeats 4000000 in
set_option maxRecDepth 100000 in
theorem k_X3_faultOf (l : Launch) (G : jx_G) (t : jx_T) (hG : ll_ok G) (sz : Nat) (σ : jx_M) (a1 : Nat) (a2 : Int32) (out : (Int32 × jx_M)) (h : f_X3_faultOf t σ a1 a2 = some out) : Met l yX3_faultOf (Cond.code yX3_faultOf cX3_faultOf 4 (some .int) :: jx_ws) rm_X3_faultOf (jx_Pc (ll_env G t) (ll_dyn G t) (ll_rg G) sz σ [.ref (G.2 25), .ref (G.2 (100 + a1)), .int a2]) (jx_Qi (ll_dyn G t) out.2 out.1 (jx_A (ll_rg G) sz)) 0 0 (jx_A (ll_rg G) sz) := by
  unfold f_X3_faultOf at h
  refine jx_met (by decide) (Nat.le_of_ble_eq_true rfl) ?_
  refine jx_sub (lv' := [(0, .ref (G.2 25)), (1, .ref (G.2 (100 + a1))), (2, .int a2)]) [0, 1, 2] rfl ?_
  refine jx_aload_n (pc := 0) (k0 := 0) rfl dX3_faultOf_0 ?_
  refine jx_iconst (pc := 1) (v := (0 : Int32)) (by decide) dX3_faultOf_1 ?_
  obtain ⟨σ1, eσ1, h⟩ := jx_lt_o h
  refine ll_preader_clauses (pc := 2) hG fl_X3_27 eσ1 dX3_faultOf_2 ?_
  refine jx_aload_n (pc := 5) (k0 := 0) rfl dX3_faultOf_5 ?_
  refine jx_iconst (pc := 6) (v := (0 : Int32)) (by decide) dX3_faultOf_6 ?_
  obtain ⟨σ2, eσ2, h⟩ := jx_lt_o h
  refine ll_preader_codes (pc := 7) hG fl_X3_31 eσ2 dX3_faultOf_7 ?_
  refine jx_aload_n (pc := 10) (k0 := 0) rfl dX3_faultOf_10 ?_
  refine jx_iconst (pc := 11) (v := (0 : Int32)) (by decide) dX3_faultOf_11 ?_
  obtain ⟨σ3, eσ3, h⟩ := jx_lt_o h
  refine ll_preader_pended (pc := 12) hG fl_X3_34 eσ3 dX3_faultOf_12 ?_
  refine jx_aload_n (pc := 15) (k0 := 0) rfl dX3_faultOf_15 ?_
  refine jx_iconst (pc := 16) (v := (0 : Int32)) (by decide) dX3_faultOf_16 ?_
  obtain ⟨σ4, eσ4, h⟩ := jx_lt_o h
  refine ll_preader_open (pc := 17) hG fl_X3_37 eσ4 dX3_faultOf_17 ?_
  refine jx_aload_n (pc := 20) (k0 := 0) rfl dX3_faultOf_20 ?_
  refine jx_iconst (pc := 21) (v := (0 : Int32)) (by decide) dX3_faultOf_21 ?_
  obtain ⟨σ5, eσ5, h⟩ := jx_lt_o h
  refine ll_preader_due (pc := 22) hG fl_X3_40 eσ5 dX3_faultOf_22 ?_
  refine jx_iconst (pc := 25) (v := (0 : Int32)) (by decide) dX3_faultOf_25 ?_
  refine jx_istore_n (pc := 26) (i := 3) rfl rfl (by decide) (lv' := [(3, .int (0 : Int32)), (0, .ref (G.2 25)), (1, .ref (G.2 (100 + a1))), (2, .int a2)]) rfl dX3_faultOf_26 ?_
  exact jx_sub [1, 2, 3, 0] rfl (jb_X3_faultOf_27 l G t hG sz out jx_fuel σ5 a1 a2 (0 : Int32) h)
theorem dX5_vote_0 : decode cX5_vote 0 = .ok (.iload_n 1, 1) := by decide +kernel
theorem dX5_vote_1 : decode cX5_vote 1 = .ok (.iconst 0, 1) := by decide +kernel
theorem dX5_vote_2 : decode cX5_vote 2 = .ok (.iconst 2, 1) := by decide +kernel
theorem dX5_vote_3 : decode cX5_vote 3 = .ok (.invokestatic 48, 3) := by decide +kernel
theorem dX5_vote_6 : decode cX5_vote 6 = .ok (.ifCond .ne 5, 3) := by decide +kernel
theorem dX5_vote_9 : decode cX5_vote 9 = .ok (.iconst (-1), 1) := by decide +kernel
theorem dX5_vote_10 : decode cX5_vote 10 = .ok (.ireturn, 1) := by decide +kernel
theorem dX5_vote_11 : decode cX5_vote 11 = .ok (.aload_n 0, 1) := by decide +kernel
theorem dX5_vote_12 : decode cX5_vote 12 = .ok (.getfield 26, 3) := by decide +kernel
theorem dX5_vote_15 : decode cX5_vote 15 = .ok (.invokevirtual 135, 3) := by decide +kernel
theorem dX5_vote_18 : decode cX5_vote 18 = .ok (.iload_n 1, 1) := by decide +kernel
theorem dX5_vote_19 : decode cX5_vote 19 = .ok (.iconst 2, 1) := by decide +kernel
theorem dX5_vote_20 : decode cX5_vote 20 = .ok (.if_icmp .ne 20, 3) := by decide +kernel
theorem dX5_vote_23 : decode cX5_vote 23 = .ok (.aload_n 0, 1) := by decide +kernel
theorem dX5_vote_24 : decode cX5_vote 24 = .ok (.getfield 26, 3) := by decide +kernel
theorem dX5_vote_27 : decode cX5_vote 27 = .ok (.aload_n 0, 1) := by decide +kernel
theorem dX5_vote_28 : decode cX5_vote 28 = .ok (.getfield 12, 3) := by decide +kernel
theorem dX5_vote_31 : decode cX5_vote 31 = .ok (.invokevirtual 138, 3) := by decide +kernel
theorem dX5_vote_34 : decode cX5_vote 34 = .ok (.invokevirtual 142, 3) := by decide +kernel
theorem dX5_vote_37 : decode cX5_vote 37 = .ok (.goto 11, 3) := by decide +kernel
theorem dX5_vote_40 : decode cX5_vote 40 = .ok (.aload_n 0, 1) := by decide +kernel
theorem dX5_vote_41 : decode cX5_vote 41 = .ok (.getfield 26, 3) := by decide +kernel
theorem dX5_vote_44 : decode cX5_vote 44 = .ok (.iload_n 1, 1) := by decide +kernel
theorem dX5_vote_45 : decode cX5_vote 45 = .ok (.invokevirtual 145, 3) := by decide +kernel
theorem dX5_vote_48 : decode cX5_vote 48 = .ok (.ireturn, 1) := by decide +kernel
abbrev rm_X5_vote : Room := { frames := 5, cells := 0, slots := 0, locals := 116 }
abbrev jJ_X5_vote (l : Launch) (G : jx_G) (t : jx_T) (sz : Nat) (out : (Int32 × jx_M)) (pc : Nat) (lv : List (Nat × Value)) (st : List Value) (σ : jx_M) : Prop := jx_J l (ll_env G t) (ll_dyn G t) (ll_rg G) sz RX5 "vote" cX5_vote 2 (some .int) rm_X5_vote (fun below args s => MQ below (jx_Qi (ll_dyn G t) out.2 out.1 (jx_A (ll_rg G) sz)) args s 0 0 (jx_A (ll_rg G) sz)) 0 0 pc lv st σ
def f_X5_vote (t : jx_T) (σ : jx_M) (a1 : Int32) : Option (Int32 × jx_M) :=
  jx_bd (f_X5_within a1 (0 : Int32) (2 : Int32)) (fun q1 => if q1 = 0 then some ((-1 : Int32), σ) else jx_bd (f_X2_pass t σ) (fun q3 => if a1 = (2 : Int32) then jx_bd (f_X1_wishes t q3) (fun q6 => jx_bd (f_X2_mayor t q3 q6) (fun q7 => some (q7, q3))) else jx_bd (f_X2_votes t q3 a1) (fun q5 => some (q5, q3))))
set_option maxHeartbeats 4000000 in
set_option maxRecDepth 100000 in
theorem k_X5_vote (l : Launch) (G : jx_G) (t : jx_T) (hG : ll_ok G) (sz : Nat) (σ : jx_M) (a1 : Int32) (out : (Int32 × jx_M)) (h : f_X5_vote t σ a1 = some out) : Met l yX5_vote (Cond.code yX5_vote cX5_vote 2 (some .int) :: jx_ws) rm_X5_vote (jx_Pc (ll_env G t) (ll_dyn G t) (ll_rg G) sz σ [.ref (G.2 20), .int a1]) (jx_Qi (ll_dyn G t) out.2 out.1 (jx_A (ll_rg G) sz)) 0 0 (jx_A (ll_rg G) sz) := by
  unfold f_X5_vote at h
  refine jx_met (by decide) (Nat.le_of_ble_eq_true rfl) ?_
  refine jx_sub (lv' := [(0, .ref (G.2 20)), (1, .int a1)]) [0, 1] rfl ?_
  refine jx_iload_n (pc := 0) (k0 := 1) rfl dX5_vote_0 ?_
  refine jx_iconst (pc := 1) (v := (0 : Int32)) (by decide) dX5_vote_1 ?_
  refine jx_iconst (pc := 2) (v := (2 : Int32)) (by decide) dX5_vote_2 ?_
  obtain ⟨q1, eq1, h⟩ := jx_bd_o h
  refine jx_callSi (pc := 3) [.int a1, .int (0 : Int32), .int (2 : Int32)] (fun sz' => k_X5_within l G t hG sz' σ a1 (0 : Int32) (2 : Int32) q1 eq1) ks_X5_48 ll_jok rfl rfl (Nat.le_of_ble_eq_true rfl) ⟨⟨rfl, rfl⟩, ⟨Nat.le_of_ble_eq_true rfl, Nat.le_of_ble_eq_true rfl⟩, Nat.zero_le _, Nat.zero_le _⟩ dX5_vote_3 ?_
  refine jx_if_ne (pc := 6) (tgt := 11) dX5_vote_6 (by decide) (fun c2 => ?_) (fun c2 => ?_)
  · have h := jx_f c2 h
    refine jx_aload_n (pc := 11) (k0 := 0) rfl dX5_vote_11 ?_
    refine ll_glamp_night (pc := 12) fl_X5_26 dX5_vote_12 ?_
    obtain ⟨q3, eq3, h⟩ := jx_bd_o h
    refine jx_callVv (pc := 15) [] (fun sz' => k_X2_pass l G t hG sz' σ q3 eq3) kv_X5_135 ll_jok ll_rcnight rfl rfl (Nat.le_of_ble_eq_true rfl) ⟨⟨rfl, rfl⟩, ⟨Nat.le_of_ble_eq_true rfl, Nat.le_of_ble_eq_true rfl⟩, Nat.zero_le _, Nat.zero_le _⟩ dX5_vote_15 ?_
    refine jx_iload_n (pc := 18) (k0 := 1) rfl dX5_vote_18 ?_
    refine jx_iconst (pc := 19) (v := (2 : Int32)) (by decide) dX5_vote_19 ?_
    refine jx_icmp_ne (pc := 20) (tgt := 40) dX5_vote_20 (by decide) (fun c4 => ?_) (fun c4 => ?_)
    · have h := jx_f c4 h
      refine jx_aload_n (pc := 40) (k0 := 0) rfl dX5_vote_40 ?_
      refine ll_glamp_night (pc := 41) fl_X5_26 dX5_vote_41 ?_
      refine jx_iload_n (pc := 44) (k0 := 1) rfl dX5_vote_44 ?_
      obtain ⟨q5, eq5, h⟩ := jx_bd_o h
      refine jx_callVi (pc := 45) [.int a1] (fun sz' => k_X2_votes l G t hG sz' q3 a1 q5 eq5) kv_X5_145 ll_jok ll_rcnight rfl rfl (Nat.le_of_ble_eq_true rfl) ⟨⟨rfl, rfl⟩, ⟨Nat.le_of_ble_eq_true rfl, Nat.le_of_ble_eq_true rfl⟩, Nat.zero_le _, Nat.zero_le _⟩ dX5_vote_45 ?_
      have h := Option.some.inj h
      subst h
      exact jx_iret (pc := 48) dX5_vote_48
    · have h := jx_t c4 h
      refine jx_aload_n (pc := 23) (k0 := 0) rfl dX5_vote_23 ?_
      refine ll_glamp_night (pc := 24) fl_X5_26 dX5_vote_24 ?_
      refine jx_aload_n (pc := 27) (k0 := 0) rfl dX5_vote_27 ?_
      refine ll_glamp_now (pc := 28) fl_X5_12 dX5_vote_28 ?_
      obtain ⟨q6, eq6, h⟩ := jx_bd_o h
      refine jx_callVi (pc := 31) [] (fun sz' => k_X1_wishes l G t hG sz' q3 q6 eq6) kv_X5_138 ll_jok ll_rcnow rfl rfl (Nat.le_of_ble_eq_true rfl) ⟨⟨rfl, rfl⟩, ⟨Nat.le_of_ble_eq_true rfl, Nat.le_of_ble_eq_true rfl⟩, Nat.zero_le _, Nat.zero_le _⟩ dX5_vote_31 ?_
      obtain ⟨q7, eq7, h⟩ := jx_bd_o h
      refine jx_callVi (pc := 34) [.int q6] (fun sz' => k_X2_mayor l G t hG sz' q3 q6 q7 eq7) kv_X5_142 ll_jok ll_rcnight rfl rfl (Nat.le_of_ble_eq_true rfl) ⟨⟨rfl, rfl⟩, ⟨Nat.le_of_ble_eq_true rfl, Nat.le_of_ble_eq_true rfl⟩, Nat.zero_le _, Nat.zero_le _⟩ dX5_vote_34 ?_
      refine jx_goto (pc := 37) (tgt := 48) dX5_vote_37 (by decide) ?_
      have h := Option.some.inj h
      subst h
      exact jx_iret (pc := 48) dX5_vote_48
  · have h := jx_t c2 h
    refine jx_iconst (pc := 9) (v := (-1 : Int32)) (by decide) dX5_vote_9 ?_
    have h := Option.some.inj h
    subst h
    exact jx_iret (pc := 10) dX5_vote_10
theorem dX5_lies_0 : decode cX5_lies 0 = .ok (.aload_n 0, 1) := by decide +kernel
theorem dX5_lies_1 : decode cX5_lies 1 = .ok (.getfield 12, 3) := by decide +kernel
theorem dX5_lies_4 : decode cX5_lies 4 = .ok (.iload_n 1, 1) := by decide +kernel
theorem dX5_lies_5 : decode cX5_lies 5 = .ok (.invokevirtual 119, 3) := by decide +kernel
theorem dX5_lies_8 : decode cX5_lies 8 = .ok (.ifCond .eq 12, 3) := by decide +kernel
theorem dX5_lies_11 : decode cX5_lies 11 = .ok (.iload_n 2, 1) := by decide +kernel
theorem dX5_lies_12 : decode cX5_lies 12 = .ok (.iconst 0, 1) := by decide +kernel
theorem dX5_lies_13 : decode cX5_lies 13 = .ok (.iconst 1, 1) := by decide +kernel
theorem dX5_lies_14 : decode cX5_lies 14 = .ok (.invokestatic 48, 3) := by decide +kernel
theorem dX5_lies_17 : decode cX5_lies 17 = .ok (.ifCond .ne 5, 3) := by decide +kernel
theorem dX5_lies_20 : decode cX5_lies 20 = .ok (.iconst (-1), 1) := by decide +kernel
theorem dX5_lies_21 : decode cX5_lies 21 = .ok (.ireturn, 1) := by decide +kernel
theorem dX5_lies_22 : decode cX5_lies 22 = .ok (.aload_n 0, 1) := by decide +kernel
theorem dX5_lies_23 : decode cX5_lies 23 = .ok (.getfield 26, 3) := by decide +kernel
theorem dX5_lies_26 : decode cX5_lies 26 = .ok (.invokevirtual 135, 3) := by decide +kernel
theorem dX5_lies_29 : decode cX5_lies 29 = .ok (.iload_n 2, 1) := by decide +kernel
theorem dX5_lies_30 : decode cX5_lies 30 = .ok (.ifCond .ne 13, 3) := by decide +kernel
theorem dX5_lies_33 : decode cX5_lies 33 = .ok (.aload_n 0, 1) := by decide +kernel
theorem dX5_lies_34 : decode cX5_lies 34 = .ok (.getfield 26, 3) := by decide +kernel
theorem dX5_lies_37 : decode cX5_lies 37 = .ok (.getfield 148, 3) := by decide +kernel
theorem dX5_lies_40 : decode cX5_lies 40 = .ok (.iload_n 1, 1) := by decide +kernel
theorem dX5_lies_41 : decode cX5_lies 41 = .ok (.iaload, 1) := by decide +kernel
theorem dX5_lies_42 : decode cX5_lies 42 = .ok (.ireturn, 1) := by decide +kernel
theorem dX5_lies_43 : decode cX5_lies 43 = .ok (.aload_n 0, 1) := by decide +kernel
theorem dX5_lies_44 : decode cX5_lies 44 = .ok (.getfield 26, 3) := by decide +kernel
theorem dX5_lies_47 : decode cX5_lies 47 = .ok (.getfield 151, 3) := by decide +kernel
theorem dX5_lies_50 : decode cX5_lies 50 = .ok (.iload_n 1, 1) := by decide +kernel
theorem dX5_lies_51 : decode cX5_lies 51 = .ok (.iaload, 1) := by decide +kernel
theorem dX5_lies_52 : decode cX5_lies 52 = .ok (.ifCond .le 7, 3) := by decide +kernel
theorem dX5_lies_55 : decode cX5_lies 55 = .ok (.iconst 1, 1) := by decide +kernel
theorem dX5_lies_56 : decode cX5_lies 56 = .ok (.goto 4, 3) := by decide +kernel
theorem dX5_lies_59 : decode cX5_lies 59 = .ok (.iconst 0, 1) := by decide +kernel
theorem dX5_lies_60 : decode cX5_lies 60 = .ok (.ireturn, 1) := by decide +kernel
abbrev rm_X5_lies : Room := { frames := 5, cells := 0, slots := 0, locals := 116 }
abbrev jJ_X5_lies (l : Launch) (G : jx_G) (t : jx_T) (sz : Nat) (out : (Int32 × jx_M)) (pc : Nat) (lv : List (Nat × Value)) (st : List Value) (σ : jx_M) : Prop := jx_J l (ll_env G t) (ll_dyn G t) (ll_rg G) sz RX5 "lies" cX5_lies 3 (some .int) rm_X5_lies (fun below args s => MQ below (jx_Qi (ll_dyn G t) out.2 out.1 (jx_A (ll_rg G) sz)) args s 0 0 (jx_A (ll_rg G) sz)) 0 0 pc lv st σ
def f_X5_lies (t : jx_T) (σ : jx_M) (a1 : Int32) (a2 : Int32) : Option (Int32 × jx_M) :=
  jx_bd (f_X1_hasVoter t σ a1) (fun q1 => if q1 = 0 then some ((-1 : Int32), σ) else jx_bd (f_X5_within a2 (0 : Int32) (1 : Int32)) (fun q3 => if q3 = 0 then some ((-1 : Int32), σ) else jx_bd (f_X2_pass t σ) (fun q5 => if a2 = 0 then jx_gd (jx_in a1 6) (some ((q5 58 a1.toNatClampNeg), q5)) else jx_gd (jx_in a1 6) (if (q5 59 a1.toNatClampNeg) ≤ 0 then some ((0 : Int32), q5) else some ((1 : Int32), q5)))))
set_option maxHeartbeats 4000000 in
set_option maxRecDepth 100000 in
theorem k_X5_lies (l : Launch) (G : jx_G) (t : jx_T) (hG : ll_ok G) (sz : Nat) (σ : jx_M) (a1 : Int32) (a2 : Int32) (out : (Int32 × jx_M)) (h : f_X5_lies t σ a1 a2 = some out) : Met l yX5_lies (Cond.code yX5_lies cX5_lies 3 (some .int) :: jx_ws) rm_X5_lies (jx_Pc (ll_env G t) (ll_dyn G t) (ll_rg G) sz σ [.ref (G.2 20), .int a1, .int a2]) (jx_Qi (ll_dyn G t) out.2 out.1 (jx_A (ll_rg G) sz)) 0 0 (jx_A (ll_rg G) sz) := by
  unfold f_X5_lies at h
  refine jx_met (by decide) (Nat.le_of_ble_eq_true rfl) ?_
  refine jx_sub (lv' := [(0, .ref (G.2 20)), (1, .int a1), (2, .int a2)]) [0, 1, 2] rfl ?_
  refine jx_aload_n (pc := 0) (k0 := 0) rfl dX5_lies_0 ?_
  refine ll_glamp_now (pc := 1) fl_X5_12 dX5_lies_1 ?_
  refine jx_iload_n (pc := 4) (k0 := 1) rfl dX5_lies_4 ?_
  obtain ⟨q1, eq1, h⟩ := jx_bd_o h
  refine jx_callVi (pc := 5) [.int a1] (fun sz' => k_X1_hasVoter l G t hG sz' σ a1 q1 eq1) kv_X5_119 ll_jok ll_rcnow rfl rfl (Nat.le_of_ble_eq_true rfl) ⟨⟨rfl, rfl⟩, ⟨Nat.le_of_ble_eq_true rfl, Nat.le_of_ble_eq_true rfl⟩, Nat.zero_le _, Nat.zero_le _⟩ dX5_lies_5 ?_
  refine jx_if_eq (pc := 8) (tgt := 20) dX5_lies_8 (by decide) (fun c2 => ?_) (fun c2 => ?_)
  · have h := jx_t c2 h
    refine jx_iconst (pc := 20) (v := (-1 : Int32)) (by decide) dX5_lies_20 ?_
    have h := Option.some.inj h
    subst h
    exact jx_iret (pc := 21) dX5_lies_21
  · have h := jx_f c2 h
    refine jx_iload_n (pc := 11) (k0 := 2) rfl dX5_lies_11 ?_
    refine jx_iconst (pc := 12) (v := (0 : Int32)) (by decide) dX5_lies_12 ?_
    refine jx_iconst (pc := 13) (v := (1 : Int32)) (by decide) dX5_lies_13 ?_
    obtain ⟨q3, eq3, h⟩ := jx_bd_o h
    refine jx_callSi (pc := 14) [.int a2, .int (0 : Int32), .int (1 : Int32)] (fun sz' => k_X5_within l G t hG sz' σ a2 (0 : Int32) (1 : Int32) q3 eq3) ks_X5_48 ll_jok rfl rfl (Nat.le_of_ble_eq_true rfl) ⟨⟨rfl, rfl⟩, ⟨Nat.le_of_ble_eq_true rfl, Nat.le_of_ble_eq_true rfl⟩, Nat.zero_le _, Nat.zero_le _⟩ dX5_lies_14 ?_
    refine jx_if_ne (pc := 17) (tgt := 22) dX5_lies_17 (by decide) (fun c4 => ?_) (fun c4 => ?_)
    · have h := jx_f c4 h
      refine jx_aload_n (pc := 22) (k0 := 0) rfl dX5_lies_22 ?_
      refine ll_glamp_night (pc := 23) fl_X5_26 dX5_lies_23 ?_
      obtain ⟨q5, eq5, h⟩ := jx_bd_o h
      refine jx_callVv (pc := 26) [] (fun sz' => k_X2_pass l G t hG sz' σ q5 eq5) kv_X5_135 ll_jok ll_rcnight rfl rfl (Nat.le_of_ble_eq_true rfl) ⟨⟨rfl, rfl⟩, ⟨Nat.le_of_ble_eq_true rfl, Nat.le_of_ble_eq_true rfl⟩, Nat.zero_le _, Nat.zero_le _⟩ dX5_lies_26 ?_
      refine jx_iload_n (pc := 29) (k0 := 2) rfl dX5_lies_29 ?_
      refine jx_if_ne (pc := 30) (tgt := 43) dX5_lies_30 (by decide) (fun c6 => ?_) (fun c6 => ?_)
      · have h := jx_f c6 h
        refine jx_aload_n (pc := 43) (k0 := 0) rfl dX5_lies_43 ?_
        refine ll_glamp_night (pc := 44) fl_X5_26 dX5_lies_44 ?_
        refine ll_gnight_worth (pc := 47) fl_X5_151 dX5_lies_47 ?_
        refine jx_iload_n (pc := 50) (k0 := 1) rfl dX5_lies_50 ?_
        obtain ⟨g7, h⟩ := jx_gd_o h
        refine ll_l (pc := 51) (k := 59) (jx_in_o g7) rfl dX5_lies_51 ?_
        refine jx_if_le (pc := 52) (tgt := 59) dX5_lies_52 (by decide) (fun c8 => ?_) (fun c8 => ?_)
        · have h := jx_t c8 h
          refine jx_iconst (pc := 59) (v := (0 : Int32)) (by decide) dX5_lies_59 ?_
          have h := Option.some.inj h
          subst h
          exact jx_iret (pc := 60) dX5_lies_60
        · have h := jx_f c8 h
          refine jx_iconst (pc := 55) (v := (1 : Int32)) (by decide) dX5_lies_55 ?_
          refine jx_goto (pc := 56) (tgt := 60) dX5_lies_56 (by decide) ?_
          have h := Option.some.inj h
          subst h
          exact jx_iret (pc := 60) dX5_lies_60
      · have h := jx_t c6 h
        refine jx_aload_n (pc := 33) (k0 := 0) rfl dX5_lies_33 ?_
        refine ll_glamp_night (pc := 34) fl_X5_26 dX5_lies_34 ?_
        refine ll_gnight_lie (pc := 37) fl_X5_148 dX5_lies_37 ?_
        refine jx_iload_n (pc := 40) (k0 := 1) rfl dX5_lies_40 ?_
        obtain ⟨g9, h⟩ := jx_gd_o h
        refine ll_l (pc := 41) (k := 58) (jx_in_o g9) rfl dX5_lies_41 ?_
        have h := Option.some.inj h
        subst h
        exact jx_iret (pc := 42) dX5_lies_42
    · have h := jx_t c4 h
      refine jx_iconst (pc := 20) (v := (-1 : Int32)) (by decide) dX5_lies_20 ?_
      have h := Option.some.inj h
      subst h
      exact jx_iret (pc := 21) dX5_lies_21
theorem dX5_ward_0 : decode cX5_ward 0 = .ok (.iload_n 1, 1) := by decide +kernel
theorem dX5_ward_1 : decode cX5_ward 1 = .ok (.iconst 0, 1) := by decide +kernel
theorem dX5_ward_2 : decode cX5_ward 2 = .ok (.iconst 2, 1) := by decide +kernel
theorem dX5_ward_3 : decode cX5_ward 3 = .ok (.invokestatic 48, 3) := by decide +kernel
theorem dX5_ward_6 : decode cX5_ward 6 = .ok (.ifCond .ne 5, 3) := by decide +kernel
theorem dX5_ward_9 : decode cX5_ward 9 = .ok (.iconst (-1), 1) := by decide +kernel
theorem dX5_ward_10 : decode cX5_ward 10 = .ok (.ireturn, 1) := by decide +kernel
theorem dX5_ward_11 : decode cX5_ward 11 = .ok (.aload_n 0, 1) := by decide +kernel
theorem dX5_ward_12 : decode cX5_ward 12 = .ok (.getfield 26, 3) := by decide +kernel
theorem dX5_ward_15 : decode cX5_ward 15 = .ok (.invokevirtual 135, 3) := by decide +kernel
theorem dX5_ward_18 : decode cX5_ward 18 = .ok (.aload_n 0, 1) := by decide +kernel
theorem dX5_ward_19 : decode cX5_ward 19 = .ok (.getfield 26, 3) := by decide +kernel
theorem dX5_ward_22 : decode cX5_ward 22 = .ok (.iload_n 1, 1) := by decide +kernel
theorem dX5_ward_23 : decode cX5_ward 23 = .ok (.invokevirtual 154, 3) := by decide +kernel
theorem dX5_ward_26 : decode cX5_ward 26 = .ok (.ireturn, 1) := by decide +kernel
abbrev rm_X5_ward : Room := { frames := 5, cells := 0, slots := 0, locals := 116 }
abbrev jJ_X5_ward (l : Launch) (G : jx_G) (t : jx_T) (sz : Nat) (out : (Int32 × jx_M)) (pc : Nat) (lv : List (Nat × Value)) (st : List Value) (σ : jx_M) : Prop := jx_J l (ll_env G t) (ll_dyn G t) (ll_rg G) sz RX5 "ward" cX5_ward 2 (some .int) rm_X5_ward (fun below args s => MQ below (jx_Qi (ll_dyn G t) out.2 out.1 (jx_A (ll_rg G) sz)) args s 0 0 (jx_A (ll_rg G) sz)) 0 0 pc lv st σ
def f_X5_ward (t : jx_T) (σ : jx_M) (a1 : Int32) : Option (Int32 × jx_M) :=
  jx_bd (f_X5_within a1 (0 : Int32) (2 : Int32)) (fun q1 => if q1 = 0 then some ((-1 : Int32), σ) else jx_bd (f_X2_pass t σ) (fun q3 => jx_bd (f_X2_winner t q3 a1) (fun q4 => some (q4, q3))))
set_option maxHeartbeats 4000000 in
set_option maxRecDepth 100000 in
theorem k_X5_ward (l : Launch) (G : jx_G) (t : jx_T) (hG : ll_ok G) (sz : Nat) (σ : jx_M) (a1 : Int32) (out : (Int32 × jx_M)) (h : f_X5_ward t σ a1 = some out) : Met l yX5_ward (Cond.code yX5_ward cX5_ward 2 (some .int) :: jx_ws) rm_X5_ward (jx_Pc (ll_env G t) (ll_dyn G t) (ll_rg G) sz σ [.ref (G.2 20), .int a1]) (jx_Qi (ll_dyn G t) out.2 out.1 (jx_A (ll_rg G) sz)) 0 0 (jx_A (ll_rg G) sz) := by
  unfold f_X5_ward at h
  refine jx_met (by decide) (Nat.le_of_ble_eq_true rfl) ?_
  refine jx_sub (lv' := [(0, .ref (G.2 20)), (1, .int a1)]) [0, 1] rfl ?_
  refine jx_iload_n (pc := 0) (k0 := 1) rfl dX5_ward_0 ?_
  refine jx_iconst (pc := 1) (v := (0 : Int32)) (by decide) dX5_ward_1 ?_
  refine jx_iconst (pc := 2) (v := (2 : Int32)) (by decide) dX5_ward_2 ?_
  obtain ⟨q1, eq1, h⟩ := jx_bd_o h
  refine jx_callSi (pc := 3) [.int a1, .int (0 : Int32), .int (2 : Int32)] (fun sz' => k_X5_within l G t hG sz' σ a1 (0 : Int32) (2 : Int32) q1 eq1) ks_X5_48 ll_jok rfl rfl (Nat.le_of_ble_eq_true rfl) ⟨⟨rfl, rfl⟩, ⟨Nat.le_of_ble_eq_true rfl, Nat.le_of_ble_eq_true rfl⟩, Nat.zero_le _, Nat.zero_le _⟩ dX5_ward_3 ?_
  refine jx_if_ne (pc := 6) (tgt := 11) dX5_ward_6 (by decide) (fun c2 => ?_) (fun c2 => ?_)
  · have h := jx_f c2 h
    refine jx_aload_n (pc := 11) (k0 := 0) rfl dX5_ward_11 ?_
    refine ll_glamp_night (pc := 12) fl_X5_26 dX5_ward_12 ?_
    obtain ⟨q3, eq3, h⟩ := jx_bd_o h
    refine jx_callVv (pc := 15) [] (fun sz' => k_X2_pass l G t hG sz' σ q3 eq3) kv_X5_135 ll_jok ll_rcnight rfl rfl (Nat.le_of_ble_eq_true rfl) ⟨⟨rfl, rfl⟩, ⟨Nat.le_of_ble_eq_true rfl, Nat.le_of_ble_eq_true rfl⟩, Nat.zero_le _, Nat.zero_le _⟩ dX5_ward_15 ?_
    refine jx_aload_n (pc := 18) (k0 := 0) rfl dX5_ward_18 ?_
    refine ll_glamp_night (pc := 19) fl_X5_26 dX5_ward_19 ?_
    refine jx_iload_n (pc := 22) (k0 := 1) rfl dX5_ward_22 ?_
    obtain ⟨q4, eq4, h⟩ := jx_bd_o h
    refine jx_callVi (pc := 23) [.int a1] (fun sz' => k_X2_winner l G t hG sz' q3 a1 q4 eq4) kv_X5_154 ll_jok ll_rcnight rfl rfl (Nat.le_of_ble_eq_true rfl) ⟨⟨rfl, rfl⟩, ⟨Nat.le_of_ble_eq_true rfl, Nat.le_of_ble_eq_true rfl⟩, Nat.zero_le _, Nat.zero_le _⟩ dX5_ward_23 ?_
    have h := Option.some.inj h
    subst h
    exact jx_iret (pc := 26) dX5_ward_26
  · have h := jx_t c2 h
    refine jx_iconst (pc := 9) (v := (-1 : Int32)) (by decide) dX5_ward_9 ?_
    have h := Option.some.inj h
    subst h
    exact jx_iret (pc := 10) dX5_ward_10
theorem dX5_from_0 : decode cX5_from 0 = .ok (.aload_n 0, 1) := by decide +kernel
theorem dX5_from_1 : decode cX5_from 1 = .ok (.getfield 12, 3) := by decide +kernel
theorem dX5_from_4 : decode cX5_from 4 = .ok (.iload_n 1, 1) := by decide +kernel
theorem dX5_from_5 : decode cX5_from 5 = .ok (.invokevirtual 85, 3) := by decide +kernel
theorem dX5_from_8 : decode cX5_from 8 = .ok (.ifCond .eq 12, 3) := by decide +kernel
theorem dX5_from_11 : decode cX5_from 11 = .ok (.iload_n 3, 1) := by decide +kernel
theorem dX5_from_12 : decode cX5_from 12 = .ok (.iconst 0, 1) := by decide +kernel
theorem dX5_from_13 : decode cX5_from 13 = .ok (.iconst 1, 1) := by decide +kernel
theorem dX5_from_14 : decode cX5_from 14 = .ok (.invokestatic 48, 3) := by decide +kernel
theorem dX5_from_17 : decode cX5_from 17 = .ok (.ifCond .ne 5, 3) := by decide +kernel
theorem dX5_from_20 : decode cX5_from 20 = .ok (.iconst (-1), 1) := by decide +kernel
theorem dX5_from_21 : decode cX5_from 21 = .ok (.ireturn, 1) := by decide +kernel
theorem dX5_from_22 : decode cX5_from 22 = .ok (.iload_n 2, 1) := by decide +kernel
theorem dX5_from_23 : decode cX5_from 23 = .ok (.iconst 0, 1) := by decide +kernel
theorem dX5_from_24 : decode cX5_from 24 = .ok (.bipush 12, 2) := by decide +kernel
theorem dX5_from_26 : decode cX5_from 26 = .ok (.invokestatic 48, 3) := by decide +kernel
theorem dX5_from_29 : decode cX5_from 29 = .ok (.ifCond .ne 6, 3) := by decide +kernel
theorem dX5_from_32 : decode cX5_from 32 = .ok (.bipush (-2), 2) := by decide +kernel
theorem dX5_from_34 : decode cX5_from 34 = .ok (.ireturn, 1) := by decide +kernel
theorem dX5_from_35 : decode cX5_from 35 = .ok (.aload_n 0, 1) := by decide +kernel
theorem dX5_from_36 : decode cX5_from 36 = .ok (.getfield 26, 3) := by decide +kernel
theorem dX5_from_39 : decode cX5_from 39 = .ok (.iload_n 1, 1) := by decide +kernel
theorem dX5_from_40 : decode cX5_from 40 = .ok (.iload_n 2, 1) := by decide +kernel
theorem dX5_from_41 : decode cX5_from 41 = .ok (.invokevirtual 161, 3) := by decide +kernel
theorem dX5_from_44 : decode cX5_from 44 = .ok (.istore 4, 2) := by decide +kernel
theorem dX5_from_46 : decode cX5_from 46 = .ok (.iload_n 3, 1) := by decide +kernel
theorem dX5_from_47 : decode cX5_from 47 = .ok (.ifCond .ne 8, 3) := by decide +kernel
theorem dX5_from_50 : decode cX5_from 50 = .ok (.iload 4, 2) := by decide +kernel
theorem dX5_from_52 : decode cX5_from 52 = .ok (.goto 8, 3) := by decide +kernel
theorem dX5_from_55 : decode cX5_from 55 = .ok (.iload 4, 2) := by decide +kernel
theorem dX5_from_57 : decode cX5_from 57 = .ok (.invokestatic 164, 3) := by decide +kernel
theorem dX5_from_60 : decode cX5_from 60 = .ok (.ireturn, 1) := by decide +kernel
abbrev rm_X5_from : Room := { frames := 5, cells := 0, slots := 0, locals := 120 }
abbrev jJ_X5_from (l : Launch) (G : jx_G) (t : jx_T) (sz : Nat) (out : (Int32 × jx_M)) (pc : Nat) (lv : List (Nat × Value)) (st : List Value) (σ : jx_M) : Prop := jx_J l (ll_env G t) (ll_dyn G t) (ll_rg G) sz RX5 "from" cX5_from 5 (some .int) rm_X5_from (fun below args s => MQ below (jx_Qi (ll_dyn G t) out.2 out.1 (jx_A (ll_rg G) sz)) args s 0 0 (jx_A (ll_rg G) sz)) 0 0 pc lv st σ
def f_X5_from (t : jx_T) (σ : jx_M) (a1 : Int32) (a2 : Int32) (a3 : Int32) : Option (Int32 × jx_M) :=
  jx_bd (f_X1_hasPlace t σ a1) (fun q1 => if q1 = 0 then some ((-1 : Int32), σ) else jx_bd (f_X5_within a3 (0 : Int32) (1 : Int32)) (fun q3 => if q3 = 0 then some ((-1 : Int32), σ) else jx_bd (f_X5_within a2 (0 : Int32) (12 : Int32)) (fun q5 => if q5 = 0 then some ((-2 : Int32), σ) else jx_bd (f_X2_startsTo t σ a1 a2) (fun q7 => if a3 = 0 then some (q7.1, q7.2) else jx_bd (f_X5_leastOf q7.1) (fun q9 => some (q9, q7.2))))))
set_option maxHeartbeats 4000000 in
set_option maxRecDepth 100000 in
theorem k_X5_from (l : Launch) (G : jx_G) (t : jx_T) (hG : ll_ok G) (sz : Nat) (σ : jx_M) (a1 : Int32) (a2 : Int32) (a3 : Int32) (out : (Int32 × jx_M)) (h : f_X5_from t σ a1 a2 a3 = some out) : Met l yX5_from (Cond.code yX5_from cX5_from 5 (some .int) :: jx_ws) rm_X5_from (jx_Pc (ll_env G t) (ll_dyn G t) (ll_rg G) sz σ [.ref (G.2 20), .int a1, .int a2, .int a3]) (jx_Qi (ll_dyn G t) out.2 out.1 (jx_A (ll_rg G) sz)) 0 0 (jx_A (ll_rg G) sz) := by
  unfold f_X5_from at h
  refine jx_met (by decide) (Nat.le_of_ble_eq_true rfl) ?_
  refine jx_sub (lv' := [(0, .ref (G.2 20)), (1, .int a1), (2, .int a2), (3, .int a3)]) [0, 1, 2, 3] rfl ?_
  refine jx_aload_n (pc := 0) (k0 := 0) rfl dX5_from_0 ?_
  refine ll_glamp_now (pc := 1) fl_X5_12 dX5_from_1 ?_
  refine jx_iload_n (pc := 4) (k0 := 1) rfl dX5_from_4 ?_
  obtain ⟨q1, eq1, h⟩ := jx_bd_o h
  refine jx_callVi (pc := 5) [.int a1] (fun sz' => k_X1_hasPlace l G t hG sz' σ a1 q1 eq1) kv_X5_85 ll_jok ll_rcnow rfl rfl (Nat.le_of_ble_eq_true rfl) ⟨⟨rfl, rfl⟩, ⟨Nat.le_of_ble_eq_true rfl, Nat.le_of_ble_eq_true rfl⟩, Nat.zero_le _, Nat.zero_le _⟩ dX5_from_5 ?_
  refine jx_if_eq (pc := 8) (tgt := 20) dX5_from_8 (by decide) (fun c2 => ?_) (fun c2 => ?_)
  · have h := jx_t c2 h
    refine jx_iconst (pc := 20) (v := (-1 : Int32)) (by decide) dX5_from_20 ?_
    have h := Option.some.inj h
    subst h
    exact jx_iret (pc := 21) dX5_from_21
  · have h := jx_f c2 h
    refine jx_iload_n (pc := 11) (k0 := 3) rfl dX5_from_11 ?_
    refine jx_iconst (pc := 12) (v := (0 : Int32)) (by decide) dX5_from_12 ?_
    refine jx_iconst (pc := 13) (v := (1 : Int32)) (by decide) dX5_from_13 ?_
    obtain ⟨q3, eq3, h⟩ := jx_bd_o h
    refine jx_callSi (pc := 14) [.int a3, .int (0 : Int32), .int (1 : Int32)] (fun sz' => k_X5_within l G t hG sz' σ a3 (0 : Int32) (1 : Int32) q3 eq3) ks_X5_48 ll_jok rfl rfl (Nat.le_of_ble_eq_true rfl) ⟨⟨rfl, rfl⟩, ⟨Nat.le_of_ble_eq_true rfl, Nat.le_of_ble_eq_true rfl⟩, Nat.zero_le _, Nat.zero_le _⟩ dX5_from_14 ?_
    refine jx_if_ne (pc := 17) (tgt := 22) dX5_from_17 (by decide) (fun c4 => ?_) (fun c4 => ?_)
    · have h := jx_f c4 h
      refine jx_iload_n (pc := 22) (k0 := 2) rfl dX5_from_22 ?_
      refine jx_iconst (pc := 23) (v := (0 : Int32)) (by decide) dX5_from_23 ?_
      refine jx_bipush (pc := 24) (v := (12 : Int32)) (by decide) dX5_from_24 ?_
      obtain ⟨q5, eq5, h⟩ := jx_bd_o h
      refine jx_callSi (pc := 26) [.int a2, .int (0 : Int32), .int (12 : Int32)] (fun sz' => k_X5_within l G t hG sz' σ a2 (0 : Int32) (12 : Int32) q5 eq5) ks_X5_48 ll_jok rfl rfl (Nat.le_of_ble_eq_true rfl) ⟨⟨rfl, rfl⟩, ⟨Nat.le_of_ble_eq_true rfl, Nat.le_of_ble_eq_true rfl⟩, Nat.zero_le _, Nat.zero_le _⟩ dX5_from_26 ?_
      refine jx_if_ne (pc := 29) (tgt := 35) dX5_from_29 (by decide) (fun c6 => ?_) (fun c6 => ?_)
      · have h := jx_f c6 h
        refine jx_aload_n (pc := 35) (k0 := 0) rfl dX5_from_35 ?_
        refine ll_glamp_night (pc := 36) fl_X5_26 dX5_from_36 ?_
        refine jx_iload_n (pc := 39) (k0 := 1) rfl dX5_from_39 ?_
        refine jx_iload_n (pc := 40) (k0 := 2) rfl dX5_from_40 ?_
        obtain ⟨q7, eq7, h⟩ := jx_bd_o h
        refine jx_callVi (pc := 41) [.int a1, .int a2] (fun sz' => k_X2_startsTo l G t hG sz' σ a1 a2 q7 eq7) kv_X5_161 ll_jok ll_rcnight rfl rfl (Nat.le_of_ble_eq_true rfl) ⟨⟨rfl, rfl⟩, ⟨Nat.le_of_ble_eq_true rfl, Nat.le_of_ble_eq_true rfl⟩, Nat.zero_le _, Nat.zero_le _⟩ dX5_from_41 ?_
        refine jx_istore (pc := 44) (i := 4) rfl (by decide) (lv' := [(4, .int q7.1), (0, .ref (G.2 20)), (1, .int a1), (2, .int a2), (3, .int a3)]) rfl dX5_from_44 ?_
        refine jx_iload_n (pc := 46) (k0 := 3) rfl dX5_from_46 ?_
        refine jx_if_ne (pc := 47) (tgt := 55) dX5_from_47 (by decide) (fun c8 => ?_) (fun c8 => ?_)
        · have h := jx_f c8 h
          refine jx_iload (pc := 55) (i := 4) rfl dX5_from_55 ?_
          obtain ⟨q9, eq9, h⟩ := jx_bd_o h
          refine jx_callSi (pc := 57) [.int q7.1] (fun sz' => k_X5_leastOf l G t hG sz' q7.2 q7.1 q9 eq9) ks_X5_164 ll_jok rfl rfl (Nat.le_of_ble_eq_true rfl) ⟨⟨rfl, rfl⟩, ⟨Nat.le_of_ble_eq_true rfl, Nat.le_of_ble_eq_true rfl⟩, Nat.zero_le _, Nat.zero_le _⟩ dX5_from_57 ?_
          have h := Option.some.inj h
          subst h
          exact jx_iret (pc := 60) dX5_from_60
        · have h := jx_t c8 h
          refine jx_iload (pc := 50) (i := 4) rfl dX5_from_50 ?_
          refine jx_goto (pc := 52) (tgt := 60) dX5_from_52 (by decide) ?_
          have h := Option.some.inj h
          subst h
          exact jx_iret (pc := 60) dX5_from_60
      · have h := jx_t c6 h
        refine jx_bipush (pc := 32) (v := (-2 : Int32)) (by decide) dX5_from_32 ?_
        have h := Option.some.inj h
        subst h
        exact jx_iret (pc := 34) dX5_from_34
    · have h := jx_t c4 h
      refine jx_iconst (pc := 20) (v := (-1 : Int32)) (by decide) dX5_from_20 ?_
      have h := Option.some.inj h
      subst h
      exact jx_iret (pc := 21) dX5_from_21
