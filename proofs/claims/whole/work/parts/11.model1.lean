/-! the reference's methods: a function on the memory each, and its contract -/
theorem dX6_in_0 : decode cX6_in 0 = .ok (.iload_n 0, 1) := by decide +kernel
theorem dX6_in_1 : decode cX6_in 1 = .ok (.iload_n 1, 1) := by decide +kernel
theorem dX6_in_2 : decode cX6_in 2 = .ok (.if_icmp .lt 12, 3) := by decide +kernel
theorem dX6_in_5 : decode cX6_in 5 = .ok (.iload_n 0, 1) := by decide +kernel
theorem dX6_in_6 : decode cX6_in 6 = .ok (.iload_n 2, 1) := by decide +kernel
theorem dX6_in_7 : decode cX6_in 7 = .ok (.if_icmp .gt 7, 3) := by decide +kernel
theorem dX6_in_10 : decode cX6_in 10 = .ok (.iconst 1, 1) := by decide +kernel
theorem dX6_in_11 : decode cX6_in 11 = .ok (.goto 4, 3) := by decide +kernel
theorem dX6_in_14 : decode cX6_in 14 = .ok (.iconst 0, 1) := by decide +kernel
theorem dX6_in_15 : decode cX6_in 15 = .ok (.ireturn, 1) := by decide +kernel
abbrev rm_X6_in : Room := { frames := 0, cells := 0, slots := 0, locals := 0 }
abbrev jJ_X6_in (l : Launch) (G : jx_G) (sz : Nat) (σ0 : jx_M) (out : Int32) (pc : Nat) (lv : List (Nat × Value)) (st : List Value) (σ : jx_M) : Prop := jx_J l (mm_env G) (mm_dyn G) (mm_rg G) sz RX6 "in" cX6_in 3 (some .boolean) rm_X6_in (fun below args s => MQ below (jx_Qi (mm_dyn G) σ0 out (jx_A (mm_rg G) sz)) args s 0 0 (jx_A (mm_rg G) sz)) 0 0 pc lv st σ
def f_X6_in (a0 : Int32) (a1 : Int32) (a2 : Int32) : Option Int32 :=
  if a0 < a1 then some (0 : Int32) else if a2 < a0 then some (0 : Int32) else some (1 : Int32)
set_option maxHeartbeats 4000000 in
set_option maxRecDepth 100000 in
theorem k_X6_in (l : Launch) (G : jx_G) (hG : mm_ok G) (sz : Nat) (σ : jx_M) (a0 : Int32) (a1 : Int32) (a2 : Int32) (out : Int32) (h : f_X6_in a0 a1 a2 = some out) : Met l yX6_in (Cond.code yX6_in cX6_in 3 (some .boolean) :: jx_ws) rm_X6_in (jx_Pc (mm_env G) (mm_dyn G) (mm_rg G) sz σ [.int a0, .int a1, .int a2]) (jx_Qi (mm_dyn G) σ out (jx_A (mm_rg G) sz)) 0 0 (jx_A (mm_rg G) sz) := by
  unfold f_X6_in at h
  refine jx_met (by decide) (Nat.le_of_ble_eq_true rfl) ?_
  refine jx_sub (lv' := [(0, .int a0), (1, .int a1), (2, .int a2)]) [0, 1, 2] rfl ?_
  refine jx_iload_n (pc := 0) (k0 := 0) rfl dX6_in_0 ?_
  refine jx_iload_n (pc := 1) (k0 := 1) rfl dX6_in_1 ?_
  refine jx_icmp_lt (pc := 2) (tgt := 14) dX6_in_2 (by decide) (fun c1 => ?_) (fun c1 => ?_)
  · have h := jx_t c1 h
    refine jx_iconst (pc := 14) (v := (0 : Int32)) (by decide) dX6_in_14 ?_
    have h := Option.some.inj h
    subst h
    exact jx_zret (pc := 15) (Or.inl rfl) dX6_in_15
  · have h := jx_f c1 h
    refine jx_iload_n (pc := 5) (k0 := 0) rfl dX6_in_5 ?_
    refine jx_iload_n (pc := 6) (k0 := 2) rfl dX6_in_6 ?_
    refine jx_icmp_gt (pc := 7) (tgt := 14) dX6_in_7 (by decide) (fun c2 => ?_) (fun c2 => ?_)
    · have h := jx_t c2 h
      refine jx_iconst (pc := 14) (v := (0 : Int32)) (by decide) dX6_in_14 ?_
      have h := Option.some.inj h
      subst h
      exact jx_zret (pc := 15) (Or.inl rfl) dX6_in_15
    · have h := jx_f c2 h
      refine jx_iconst (pc := 10) (v := (1 : Int32)) (by decide) dX6_in_10 ?_
      refine jx_goto (pc := 11) (tgt := 15) dX6_in_11 (by decide) ?_
      have h := Option.some.inj h
      subst h
      exact jx_zret (pc := 15) (Or.inr rfl) dX6_in_15
theorem dX6_asAtFirst_0 : decode cX6_asAtFirst 0 = .ok (.aload_n 0, 1) := by decide +kernel
theorem dX6_asAtFirst_1 : decode cX6_asAtFirst 1 = .ok (.getfield 9, 3) := by decide +kernel
theorem dX6_asAtFirst_4 : decode cX6_asAtFirst 4 = .ok (.bipush 6, 2) := by decide +kernel
theorem dX6_asAtFirst_6 : decode cX6_asAtFirst 6 = .ok (.iload_n 1, 1) := by decide +kernel
theorem dX6_asAtFirst_7 : decode cX6_asAtFirst 7 = .ok (.iastore, 1) := by decide +kernel
theorem dX6_asAtFirst_8 : decode cX6_asAtFirst 8 = .ok (.iconst 0, 1) := by decide +kernel
theorem dX6_asAtFirst_9 : decode cX6_asAtFirst 9 = .ok (.istore_n 2, 1) := by decide +kernel
theorem dX6_asAtFirst_10 : decode cX6_asAtFirst 10 = .ok (.iload_n 2, 1) := by decide +kernel
theorem dX6_asAtFirst_11 : decode cX6_asAtFirst 11 = .ok (.bipush 7, 2) := by decide +kernel
theorem dX6_asAtFirst_13 : decode cX6_asAtFirst 13 = .ok (.if_icmp .ge 52, 3) := by decide +kernel
theorem dX6_asAtFirst_16 : decode cX6_asAtFirst 16 = .ok (.aload_n 0, 1) := by decide +kernel
theorem dX6_asAtFirst_17 : decode cX6_asAtFirst 17 = .ok (.getfield 9, 3) := by decide +kernel
theorem dX6_asAtFirst_20 : decode cX6_asAtFirst 20 = .ok (.bipush 10, 2) := by decide +kernel
theorem dX6_asAtFirst_22 : decode cX6_asAtFirst 22 = .ok (.iload_n 2, 1) := by decide +kernel
theorem dX6_asAtFirst_23 : decode cX6_asAtFirst 23 = .ok (.iadd, 1) := by decide +kernel
theorem dX6_asAtFirst_24 : decode cX6_asAtFirst 24 = .ok (.iload_n 2, 1) := by decide +kernel
theorem dX6_asAtFirst_25 : decode cX6_asAtFirst 25 = .ok (.iload_n 1, 1) := by decide +kernel
theorem dX6_asAtFirst_26 : decode cX6_asAtFirst 26 = .ok (.iconst 1, 1) := by decide +kernel
theorem dX6_asAtFirst_27 : decode cX6_asAtFirst 27 = .ok (.isub, 1) := by decide +kernel
theorem dX6_asAtFirst_28 : decode cX6_asAtFirst 28 = .ok (.if_icmp .ge 9, 3) := by decide +kernel
theorem dX6_asAtFirst_31 : decode cX6_asAtFirst 31 = .ok (.iload_n 2, 1) := by decide +kernel
theorem dX6_asAtFirst_32 : decode cX6_asAtFirst 32 = .ok (.iconst 1, 1) := by decide +kernel
theorem dX6_asAtFirst_33 : decode cX6_asAtFirst 33 = .ok (.iadd, 1) := by decide +kernel
theorem dX6_asAtFirst_34 : decode cX6_asAtFirst 34 = .ok (.goto 4, 3) := by decide +kernel
theorem dX6_asAtFirst_37 : decode cX6_asAtFirst 37 = .ok (.iload_n 2, 1) := by decide +kernel
theorem dX6_asAtFirst_38 : decode cX6_asAtFirst 38 = .ok (.iastore, 1) := by decide +kernel
theorem dX6_asAtFirst_39 : decode cX6_asAtFirst 39 = .ok (.aload_n 0, 1) := by decide +kernel
theorem dX6_asAtFirst_40 : decode cX6_asAtFirst 40 = .ok (.getfield 9, 3) := by decide +kernel
theorem dX6_asAtFirst_43 : decode cX6_asAtFirst 43 = .ok (.bipush 17, 2) := by decide +kernel
theorem dX6_asAtFirst_45 : decode cX6_asAtFirst 45 = .ok (.iload_n 2, 1) := by decide +kernel
theorem dX6_asAtFirst_46 : decode cX6_asAtFirst 46 = .ok (.iadd, 1) := by decide +kernel
theorem dX6_asAtFirst_47 : decode cX6_asAtFirst 47 = .ok (.iconst (-1), 1) := by decide +kernel
theorem dX6_asAtFirst_48 : decode cX6_asAtFirst 48 = .ok (.iastore, 1) := by decide +kernel
theorem dX6_asAtFirst_49 : decode cX6_asAtFirst 49 = .ok (.aload_n 0, 1) := by decide +kernel
theorem dX6_asAtFirst_50 : decode cX6_asAtFirst 50 = .ok (.getfield 9, 3) := by decide +kernel
theorem dX6_asAtFirst_53 : decode cX6_asAtFirst 53 = .ok (.bipush 24, 2) := by decide +kernel
theorem dX6_asAtFirst_55 : decode cX6_asAtFirst 55 = .ok (.iload_n 2, 1) := by decide +kernel
theorem dX6_asAtFirst_56 : decode cX6_asAtFirst 56 = .ok (.iadd, 1) := by decide +kernel
theorem dX6_asAtFirst_57 : decode cX6_asAtFirst 57 = .ok (.iconst 0, 1) := by decide +kernel
theorem dX6_asAtFirst_58 : decode cX6_asAtFirst 58 = .ok (.iastore, 1) := by decide +kernel
theorem dX6_asAtFirst_59 : decode cX6_asAtFirst 59 = .ok (.iinc 2 1, 3) := by decide +kernel
theorem dX6_asAtFirst_62 : decode cX6_asAtFirst 62 = .ok (.goto (-52), 3) := by decide +kernel
theorem dX6_asAtFirst_65 : decode cX6_asAtFirst 65 = .ok (.return_, 1) := by decide +kernel
abbrev rm_X6_asAtFirst : Room := { frames := 0, cells := 0, slots := 0, locals := 0 }
abbrev jJ_X6_asAtFirst (l : Launch) (G : jx_G) (sz : Nat) (out : jx_M) (pc : Nat) (lv : List (Nat × Value)) (st : List Value) (σ : jx_M) : Prop := jx_J l (mm_env G) (mm_dyn G) (mm_rg G) sz RX6 "asAtFirst" cX6_asAtFirst 3 none rm_X6_asAtFirst (fun below args s => MQ below (jx_Qv (mm_dyn G) out (jx_A (mm_rg G) sz)) args s 0 0 (jx_A (mm_rg G) sz)) 0 0 pc lv st σ
def b_X6_asAtFirst_38 (k10 : jx_M → Int32 → Int32 → Option jx_M) (σ : jx_M) (v1 : Int32) (v2 : Int32) (s0 : Int32) (s1 : Int32) : Option jx_M :=
  jx_gd (jx_in s1 920) (jx_lt (jx_mu σ 1 s1.toNatClampNeg s0) (fun σ2 => jx_gd (jx_in ((17 : Int32) + v2) 920) (jx_lt (jx_mu σ2 1 ((17 : Int32) + v2).toNatClampNeg (-1 : Int32)) (fun σ4 => jx_gd (jx_in ((24 : Int32) + v2) 920) (jx_lt (jx_mu σ4 1 ((24 : Int32) + v2).toNatClampNeg (0 : Int32)) (fun σ6 => jx_lt (v2 + (1 : Int32)) (fun x7 => (k10 σ6 v1 x7))))))))
set_option maxHeartbeats 4000000 in
set_option maxRecDepth 100000 in
theorem jb_X6_asAtFirst_38 (l : Launch) (G : jx_G) (hG : mm_ok G) (sz : Nat) (out : jx_M) (k10 : jx_M → Int32 → Int32 → Option jx_M) (h10 : ∀ (σ : jx_M) (v1 : Int32) (v2 : Int32), k10 σ v1 v2 = some out → jJ_X6_asAtFirst l G sz out 10 [(0, .ref (G.2 10)), (1, .int v1), (2, .int v2)] [] σ) (σ : jx_M) (v1 : Int32) (v2 : Int32) (s0 : Int32) (s1 : Int32) (h : b_X6_asAtFirst_38 k10 σ v1 v2 s0 s1 = some out) : jJ_X6_asAtFirst l G sz out 38 [(0, .ref (G.2 10)), (1, .int v1), (2, .int v2)] [.int s0, .int s1, .ref (G.2 101)] σ := by
  unfold b_X6_asAtFirst_38 at h
  obtain ⟨g1, h⟩ := jx_gd_o h
  obtain ⟨σ2, eσ2, h⟩ := jx_lt_o h
  refine mm_s_s (pc := 38) hG (jx_in_o g1) rfl eσ2 dX6_asAtFirst_38 ?_
  refine jx_aload_n (pc := 39) (k0 := 0) rfl dX6_asAtFirst_39 ?_
  refine mm_g_s (pc := 40) fl_X6_9 dX6_asAtFirst_40 ?_
  refine jx_bipush (pc := 43) (v := (17 : Int32)) (by decide) dX6_asAtFirst_43 ?_
  refine jx_iload_n (pc := 45) (k0 := 2) rfl dX6_asAtFirst_45 ?_
  refine jx_iadd (pc := 46) dX6_asAtFirst_46 ?_
  refine jx_iconst (pc := 47) (v := (-1 : Int32)) (by decide) dX6_asAtFirst_47 ?_
  obtain ⟨g3, h⟩ := jx_gd_o h
  obtain ⟨σ4, eσ4, h⟩ := jx_lt_o h
  refine mm_s_s (pc := 48) hG (jx_in_o g3) rfl eσ4 dX6_asAtFirst_48 ?_
  refine jx_aload_n (pc := 49) (k0 := 0) rfl dX6_asAtFirst_49 ?_
  refine mm_g_s (pc := 50) fl_X6_9 dX6_asAtFirst_50 ?_
  refine jx_bipush (pc := 53) (v := (24 : Int32)) (by decide) dX6_asAtFirst_53 ?_
  refine jx_iload_n (pc := 55) (k0 := 2) rfl dX6_asAtFirst_55 ?_
  refine jx_iadd (pc := 56) dX6_asAtFirst_56 ?_
  refine jx_iconst (pc := 57) (v := (0 : Int32)) (by decide) dX6_asAtFirst_57 ?_
  obtain ⟨g5, h⟩ := jx_gd_o h
  obtain ⟨σ6, eσ6, h⟩ := jx_lt_o h
  refine mm_s_s (pc := 58) hG (jx_in_o g5) rfl eσ6 dX6_asAtFirst_58 ?_
  obtain ⟨x7, ex7, h⟩ := jx_lt_o h
  refine jx_iinc (pc := 59) (i := 2) (v := v2) rfl ex7 (n := 1) (by decide) (by decide) (lv' := [(2, .int x7), (0, .ref (G.2 10)), (1, .int v1)]) rfl dX6_asAtFirst_59 ?_
  refine jx_goto (pc := 62) (tgt := 10) dX6_asAtFirst_62 (by decide) ?_
  exact jx_sub [1, 2, 0] rfl (h10 σ6 v1 x7 h)
def g_X6_asAtFirst_10 (k10 : jx_M → Int32 → Int32 → Option jx_M) (σ : jx_M) (v1 : Int32) (v2 : Int32) : Option jx_M :=
  if (7 : Int32) ≤ v2 then some σ else if (v1 - (1 : Int32)) ≤ v2 then (b_X6_asAtFirst_38 k10 σ v1 v2 v2 ((10 : Int32) + v2)) else (b_X6_asAtFirst_38 k10 σ v1 v2 (v2 + (1 : Int32)) ((10 : Int32) + v2))
set_option maxHeartbeats 4000000 in
set_option maxRecDepth 100000 in
theorem jg_X6_asAtFirst_10 (l : Launch) (G : jx_G) (hG : mm_ok G) (sz : Nat) (out : jx_M) (k10 : jx_M → Int32 → Int32 → Option jx_M) (h10 : ∀ (σ : jx_M) (v1 : Int32) (v2 : Int32), k10 σ v1 v2 = some out → jJ_X6_asAtFirst l G sz out 10 [(0, .ref (G.2 10)), (1, .int v1), (2, .int v2)] [] σ) (σ : jx_M) (v1 : Int32) (v2 : Int32) (h : g_X6_asAtFirst_10 k10 σ v1 v2 = some out) : jJ_X6_asAtFirst l G sz out 10 [(0, .ref (G.2 10)), (1, .int v1), (2, .int v2)] [] σ := by
  unfold g_X6_asAtFirst_10 at h
  refine jx_iload_n (pc := 10) (k0 := 2) rfl dX6_asAtFirst_10 ?_
  refine jx_bipush (pc := 11) (v := (7 : Int32)) (by decide) dX6_asAtFirst_11 ?_
  refine jx_icmp_ge (pc := 13) (tgt := 65) dX6_asAtFirst_13 (by decide) (fun c1 => ?_) (fun c1 => ?_)
  · have h := jx_t c1 h
    have h := Option.some.inj h
    subst h
    exact jx_vret (pc := 65) dX6_asAtFirst_65
  · have h := jx_f c1 h
    refine jx_aload_n (pc := 16) (k0 := 0) rfl dX6_asAtFirst_16 ?_
    refine mm_g_s (pc := 17) fl_X6_9 dX6_asAtFirst_17 ?_
    refine jx_bipush (pc := 20) (v := (10 : Int32)) (by decide) dX6_asAtFirst_20 ?_
    refine jx_iload_n (pc := 22) (k0 := 2) rfl dX6_asAtFirst_22 ?_
    refine jx_iadd (pc := 23) dX6_asAtFirst_23 ?_
    refine jx_iload_n (pc := 24) (k0 := 2) rfl dX6_asAtFirst_24 ?_
    refine jx_iload_n (pc := 25) (k0 := 1) rfl dX6_asAtFirst_25 ?_
    refine jx_iconst (pc := 26) (v := (1 : Int32)) (by decide) dX6_asAtFirst_26 ?_
    refine jx_isub (pc := 27) dX6_asAtFirst_27 ?_
    refine jx_icmp_ge (pc := 28) (tgt := 37) dX6_asAtFirst_28 (by decide) (fun c2 => ?_) (fun c2 => ?_)
    · have h := jx_t c2 h
      refine jx_iload_n (pc := 37) (k0 := 2) rfl dX6_asAtFirst_37 ?_
      exact jx_sub [0, 1, 2] rfl (jb_X6_asAtFirst_38 l G hG sz out k10 h10 σ v1 v2 v2 ((10 : Int32) + v2) h)
    · have h := jx_f c2 h
      refine jx_iload_n (pc := 31) (k0 := 2) rfl dX6_asAtFirst_31 ?_
      refine jx_iconst (pc := 32) (v := (1 : Int32)) (by decide) dX6_asAtFirst_32 ?_
      refine jx_iadd (pc := 33) dX6_asAtFirst_33 ?_
      refine jx_goto (pc := 34) (tgt := 38) dX6_asAtFirst_34 (by decide) ?_
      exact jx_sub [0, 1, 2] rfl (jb_X6_asAtFirst_38 l G hG sz out k10 h10 σ v1 v2 (v2 + (1 : Int32)) ((10 : Int32) + v2) h)
def b_X6_asAtFirst_10  : Nat → jx_M → Int32 → Int32 → Option jx_M
  | 0, _, _, _ => none
  | n + 1, σ, v1, v2 => g_X6_asAtFirst_10 (b_X6_asAtFirst_10 n) σ v1 v2
theorem jb_X6_asAtFirst_10 (l : Launch) (G : jx_G) (hG : mm_ok G) (sz : Nat) (out : jx_M)  : ∀ (n : Nat) (σ : jx_M) (v1 : Int32) (v2 : Int32), b_X6_asAtFirst_10 n σ v1 v2 = some out → jJ_X6_asAtFirst l G sz out 10 [(0, .ref (G.2 10)), (1, .int v1), (2, .int v2)] [] σ := by
  intro n
  induction n with
  | zero =>
    intro σ v1 v2 h
    cases h
  | succ n ih =>
    intro σ v1 v2 h
    exact jg_X6_asAtFirst_10 l G hG sz out (b_X6_asAtFirst_10 n) ih σ v1 v2 h
def f_X6_asAtFirst (σ : jx_M) (a1 : Int32) : Option jx_M :=
  jx_lt (jx_mu σ 1 6 a1) (fun σ1 => (b_X6_asAtFirst_10 jx_fuel σ1 a1 (0 : Int32)))
set_option maxHeartbeats 4000000 in
set_option maxRecDepth 100000 in
theorem k_X6_asAtFirst (l : Launch) (G : jx_G) (hG : mm_ok G) (sz : Nat) (σ : jx_M) (a1 : Int32) (out : jx_M) (h : f_X6_asAtFirst σ a1 = some out) : Met l yX6_asAtFirst (Cond.code yX6_asAtFirst cX6_asAtFirst 3 none :: jx_ws) rm_X6_asAtFirst (jx_Pc (mm_env G) (mm_dyn G) (mm_rg G) sz σ [.ref (G.2 10), .int a1]) (jx_Qv (mm_dyn G) out (jx_A (mm_rg G) sz)) 0 0 (jx_A (mm_rg G) sz) := by
  unfold f_X6_asAtFirst at h
  refine jx_met (by decide) (Nat.le_of_ble_eq_true rfl) ?_
  refine jx_sub (lv' := [(0, .ref (G.2 10)), (1, .int a1)]) [0, 1] rfl ?_
  refine jx_aload_n (pc := 0) (k0 := 0) rfl dX6_asAtFirst_0 ?_
  refine mm_g_s (pc := 1) fl_X6_9 dX6_asAtFirst_1 ?_
  refine jx_bipush (pc := 4) (v := (6 : Int32)) (by decide) dX6_asAtFirst_4 ?_
  refine jx_iload_n (pc := 6) (k0 := 1) rfl dX6_asAtFirst_6 ?_
  obtain ⟨σ1, eσ1, h⟩ := jx_lt_o h
  refine mm_s_s (pc := 7) hG (jx_in_o (by decide)) (by decide) eσ1 dX6_asAtFirst_7 ?_
  refine jx_iconst (pc := 8) (v := (0 : Int32)) (by decide) dX6_asAtFirst_8 ?_
  refine jx_istore_n (pc := 9) (i := 2) rfl rfl (by decide) (lv' := [(2, .int (0 : Int32)), (0, .ref (G.2 10)), (1, .int a1)]) rfl dX6_asAtFirst_9 ?_
  exact jx_sub [1, 2, 0] rfl (jb_X6_asAtFirst_10 l G hG sz out jx_fuel σ1 a1 (0 : Int32) h)
theorem dX6_here_0 : decode cX6_here 0 = .ok (.aload_n 0, 1) := by decide +kernel
theorem dX6_here_1 : decode cX6_here 1 = .ok (.getfield 52, 3) := by decide +kernel
theorem dX6_here_4 : decode cX6_here 4 = .ok (.aload_n 0, 1) := by decide +kernel
theorem dX6_here_5 : decode cX6_here 5 = .ok (.getfield 55, 3) := by decide +kernel
theorem dX6_here_8 : decode cX6_here 8 = .ok (.if_icmp .ge 18, 3) := by decide +kernel
theorem dX6_here_11 : decode cX6_here 11 = .ok (.aload_n 0, 1) := by decide +kernel
theorem dX6_here_12 : decode cX6_here 12 = .ok (.getfield 9, 3) := by decide +kernel
theorem dX6_here_15 : decode cX6_here 15 = .ok (.bipush 115, 2) := by decide +kernel
theorem dX6_here_17 : decode cX6_here 17 = .ok (.aload_n 0, 1) := by decide +kernel
theorem dX6_here_18 : decode cX6_here 18 = .ok (.getfield 52, 3) := by decide +kernel
theorem dX6_here_21 : decode cX6_here 21 = .ok (.iadd, 1) := by decide +kernel
theorem dX6_here_22 : decode cX6_here 22 = .ok (.iaload, 1) := by decide +kernel
theorem dX6_here_23 : decode cX6_here 23 = .ok (.goto 4, 3) := by decide +kernel
theorem dX6_here_26 : decode cX6_here 26 = .ok (.iconst (-1), 1) := by decide +kernel
theorem dX6_here_27 : decode cX6_here 27 = .ok (.ireturn, 1) := by decide +kernel
abbrev rm_X6_here : Room := { frames := 0, cells := 0, slots := 0, locals := 0 }
abbrev jJ_X6_here (l : Launch) (G : jx_G) (sz : Nat) (σ0 : jx_M) (out : Int32) (pc : Nat) (lv : List (Nat × Value)) (st : List Value) (σ : jx_M) : Prop := jx_J l (mm_env G) (mm_dyn G) (mm_rg G) sz RX6 "here" cX6_here 1 (some .int) rm_X6_here (fun below args s => MQ below (jx_Qi (mm_dyn G) σ0 out (jx_A (mm_rg G) sz)) args s 0 0 (jx_A (mm_rg G) sz)) 0 0 pc lv st σ
def f_X6_here (σ : jx_M)  : Option Int32 :=
  if (σ 0 6) ≤ (σ 0 5) then some (-1 : Int32) else jx_gd (jx_in ((115 : Int32) + (σ 0 5)) 920) (some (σ 1 ((115 : Int32) + (σ 0 5)).toNatClampNeg))
set_option maxHeartbeats 4000000 in
set_option maxRecDepth 100000 in
theorem k_X6_here (l : Launch) (G : jx_G) (hG : mm_ok G) (sz : Nat) (σ : jx_M)  (out : Int32) (h : f_X6_here σ = some out) : Met l yX6_here (Cond.code yX6_here cX6_here 1 (some .int) :: jx_ws) rm_X6_here (jx_Pc (mm_env G) (mm_dyn G) (mm_rg G) sz σ [.ref (G.2 10)]) (jx_Qi (mm_dyn G) σ out (jx_A (mm_rg G) sz)) 0 0 (jx_A (mm_rg G) sz) := by
  unfold f_X6_here at h
  refine jx_met (by decide) (Nat.le_of_ble_eq_true rfl) ?_
  refine jx_sub (lv' := [(0, .ref (G.2 10))]) [0] rfl ?_
  refine jx_aload_n (pc := 0) (k0 := 0) rfl dX6_here_0 ?_
  refine mm_g_spot (pc := 1) fl_X6_52 dX6_here_1 ?_
  refine jx_aload_n (pc := 4) (k0 := 0) rfl dX6_here_4 ?_
  refine mm_g_end (pc := 5) fl_X6_55 dX6_here_5 ?_
  refine jx_icmp_ge (pc := 8) (tgt := 26) dX6_here_8 (by decide) (fun c1 => ?_) (fun c1 => ?_)
  · have h := jx_t c1 h
    refine jx_iconst (pc := 26) (v := (-1 : Int32)) (by decide) dX6_here_26 ?_
    have h := Option.some.inj h
    subst h
    exact jx_iret (pc := 27) dX6_here_27
  · have h := jx_f c1 h
    refine jx_aload_n (pc := 11) (k0 := 0) rfl dX6_here_11 ?_
    refine mm_g_s (pc := 12) fl_X6_9 dX6_here_12 ?_
    refine jx_bipush (pc := 15) (v := (115 : Int32)) (by decide) dX6_here_15 ?_
    refine jx_aload_n (pc := 17) (k0 := 0) rfl dX6_here_17 ?_
    refine mm_g_spot (pc := 18) fl_X6_52 dX6_here_18 ?_
    refine jx_iadd (pc := 21) dX6_here_21 ?_
    obtain ⟨g2, h⟩ := jx_gd_o h
    refine mm_l_s (pc := 22) (jx_in_o g2) rfl dX6_here_22 ?_
    refine jx_goto (pc := 23) (tgt := 27) dX6_here_23 (by decide) ?_
    have h := Option.some.inj h
    subst h
    exact jx_iret (pc := 27) dX6_here_27
theorem dX6_emits_0 : decode cX6_emits 0 = .ok (.aload_n 0, 1) := by decide +kernel
theorem dX6_emits_1 : decode cX6_emits 1 = .ok (.getfield 58, 3) := by decide +kernel
theorem dX6_emits_4 : decode cX6_emits 4 = .ok (.ifCond .ne 52, 3) := by decide +kernel
theorem dX6_emits_7 : decode cX6_emits 7 = .ok (.aload_n 0, 1) := by decide +kernel
theorem dX6_emits_8 : decode cX6_emits 8 = .ok (.getfield 9, 3) := by decide +kernel
theorem dX6_emits_11 : decode cX6_emits 11 = .ok (.sipush 220, 3) := by decide +kernel
theorem dX6_emits_14 : decode cX6_emits 14 = .ok (.sipush 140, 3) := by decide +kernel
theorem dX6_emits_17 : decode cX6_emits 17 = .ok (.aload_n 0, 1) := by decide +kernel
theorem dX6_emits_18 : decode cX6_emits 18 = .ok (.getfield 78, 3) := by decide +kernel
theorem dX6_emits_21 : decode cX6_emits 21 = .ok (.imul, 1) := by decide +kernel
theorem dX6_emits_22 : decode cX6_emits 22 = .ok (.iadd, 1) := by decide +kernel
theorem dX6_emits_23 : decode cX6_emits 23 = .ok (.aload_n 0, 1) := by decide +kernel
theorem dX6_emits_24 : decode cX6_emits 24 = .ok (.getfield 9, 3) := by decide +kernel
theorem dX6_emits_27 : decode cX6_emits 27 = .ok (.sipush 215, 3) := by decide +kernel
theorem dX6_emits_30 : decode cX6_emits 30 = .ok (.aload_n 0, 1) := by decide +kernel
theorem dX6_emits_31 : decode cX6_emits 31 = .ok (.getfield 78, 3) := by decide +kernel
theorem dX6_emits_34 : decode cX6_emits 34 = .ok (.iadd, 1) := by decide +kernel
theorem dX6_emits_35 : decode cX6_emits 35 = .ok (.iaload, 1) := by decide +kernel
theorem dX6_emits_36 : decode cX6_emits 36 = .ok (.iadd, 1) := by decide +kernel
theorem dX6_emits_37 : decode cX6_emits 37 = .ok (.iload_n 1, 1) := by decide +kernel
theorem dX6_emits_38 : decode cX6_emits 38 = .ok (.iastore, 1) := by decide +kernel
theorem dX6_emits_39 : decode cX6_emits 39 = .ok (.aload_n 0, 1) := by decide +kernel
theorem dX6_emits_40 : decode cX6_emits 40 = .ok (.getfield 9, 3) := by decide +kernel
theorem dX6_emits_43 : decode cX6_emits 43 = .ok (.sipush 215, 3) := by decide +kernel
theorem dX6_emits_46 : decode cX6_emits 46 = .ok (.aload_n 0, 1) := by decide +kernel
theorem dX6_emits_47 : decode cX6_emits 47 = .ok (.getfield 78, 3) := by decide +kernel
theorem dX6_emits_50 : decode cX6_emits 50 = .ok (.iadd, 1) := by decide +kernel
theorem dX6_emits_51 : decode cX6_emits 51 = .ok (.dup2, 1) := by decide +kernel
theorem dX6_emits_52 : decode cX6_emits 52 = .ok (.iaload, 1) := by decide +kernel
theorem dX6_emits_53 : decode cX6_emits 53 = .ok (.iconst 1, 1) := by decide +kernel
theorem dX6_emits_54 : decode cX6_emits 54 = .ok (.iadd, 1) := by decide +kernel
theorem dX6_emits_55 : decode cX6_emits 55 = .ok (.iastore, 1) := by decide +kernel
theorem dX6_emits_56 : decode cX6_emits 56 = .ok (.return_, 1) := by decide +kernel
abbrev rm_X6_emits : Room := { frames := 0, cells := 0, slots := 0, locals := 0 }
abbrev jJ_X6_emits (l : Launch) (G : jx_G) (sz : Nat) (out : jx_M) (pc : Nat) (lv : List (Nat × Value)) (st : List Value) (σ : jx_M) : Prop := jx_J l (mm_env G) (mm_dyn G) (mm_rg G) sz RX6 "emits" cX6_emits 2 none rm_X6_emits (fun below args s => MQ below (jx_Qv (mm_dyn G) out (jx_A (mm_rg G) sz)) args s 0 0 (jx_A (mm_rg G) sz)) 0 0 pc lv st σ
def f_X6_emits (σ : jx_M) (a1 : Int32) : Option jx_M :=
  if (σ 0 7) = 0 then jx_gd (jx_in ((215 : Int32) + (σ 0 4)) 920) (jx_gd (jx_in (((220 : Int32) + ((140 : Int32) * (σ 0 4))) + (σ 1 ((215 : Int32) + (σ 0 4)).toNatClampNeg)) 920) (jx_lt (jx_mu σ 1 (((220 : Int32) + ((140 : Int32) * (σ 0 4))) + (σ 1 ((215 : Int32) + (σ 0 4)).toNatClampNeg)).toNatClampNeg a1) (fun σ4 => jx_gd (jx_in ((215 : Int32) + (σ4 0 4)) 920) (jx_gd (jx_in ((215 : Int32) + (σ4 0 4)) 920) (jx_lt (jx_mu σ4 1 ((215 : Int32) + (σ4 0 4)).toNatClampNeg ((σ4 1 ((215 : Int32) + (σ4 0 4)).toNatClampNeg) + (1 : Int32))) (fun σ7 => some σ7)))))) else some σ
set_option maxHeartbeats 4000000 in
set_option maxRecDepth 100000 in
theorem k_X6_emits (l : Launch) (G : jx_G) (hG : mm_ok G) (sz : Nat) (σ : jx_M) (a1 : Int32) (out : jx_M) (h : f_X6_emits σ a1 = some out) : Met l yX6_emits (Cond.code yX6_emits cX6_emits 2 none :: jx_ws) rm_X6_emits (jx_Pc (mm_env G) (mm_dyn G) (mm_rg G) sz σ [.ref (G.2 10), .int a1]) (jx_Qv (mm_dyn G) out (jx_A (mm_rg G) sz)) 0 0 (jx_A (mm_rg G) sz) := by
  unfold f_X6_emits at h
  refine jx_met (by decide) (Nat.le_of_ble_eq_true rfl) ?_
  refine jx_sub (lv' := [(0, .ref (G.2 10)), (1, .int a1)]) [0, 1] rfl ?_
  refine jx_aload_n (pc := 0) (k0 := 0) rfl dX6_emits_0 ?_
  refine mm_g_isWrong (pc := 1) fl_X6_58 dX6_emits_1 ?_
  refine jx_if_ne (pc := 4) (tgt := 56) dX6_emits_4 (by decide) (fun c1 => ?_) (fun c1 => ?_)
  · have h := jx_f c1 h
    have h := Option.some.inj h
    subst h
    exact jx_vret (pc := 56) dX6_emits_56
  · have h := jx_t c1 h
    refine jx_aload_n (pc := 7) (k0 := 0) rfl dX6_emits_7 ?_
    refine mm_g_s (pc := 8) fl_X6_9 dX6_emits_8 ?_
    refine jx_sipush (pc := 11) (v := (220 : Int32)) (by decide) dX6_emits_11 ?_
    refine jx_sipush (pc := 14) (v := (140 : Int32)) (by decide) dX6_emits_14 ?_
    refine jx_aload_n (pc := 17) (k0 := 0) rfl dX6_emits_17 ?_
    refine mm_g_act (pc := 18) fl_X6_78 dX6_emits_18 ?_
    refine jx_imul (pc := 21) dX6_emits_21 ?_
    refine jx_iadd (pc := 22) dX6_emits_22 ?_
    refine jx_aload_n (pc := 23) (k0 := 0) rfl dX6_emits_23 ?_
    refine mm_g_s (pc := 24) fl_X6_9 dX6_emits_24 ?_
    refine jx_sipush (pc := 27) (v := (215 : Int32)) (by decide) dX6_emits_27 ?_
    refine jx_aload_n (pc := 30) (k0 := 0) rfl dX6_emits_30 ?_
    refine mm_g_act (pc := 31) fl_X6_78 dX6_emits_31 ?_
    refine jx_iadd (pc := 34) dX6_emits_34 ?_
    obtain ⟨g2, h⟩ := jx_gd_o h
    refine mm_l_s (pc := 35) (jx_in_o g2) rfl dX6_emits_35 ?_
    refine jx_iadd (pc := 36) dX6_emits_36 ?_
    refine jx_iload_n (pc := 37) (k0 := 1) rfl dX6_emits_37 ?_
    obtain ⟨g3, h⟩ := jx_gd_o h
    obtain ⟨σ4, eσ4, h⟩ := jx_lt_o h
    refine mm_s_s (pc := 38) hG (jx_in_o g3) rfl eσ4 dX6_emits_38 ?_
    refine jx_aload_n (pc := 39) (k0 := 0) rfl dX6_emits_39 ?_
    refine mm_g_s (pc := 40) fl_X6_9 dX6_emits_40 ?_
    refine jx_sipush (pc := 43) (v := (215 : Int32)) (by decide) dX6_emits_43 ?_
    refine jx_aload_n (pc := 46) (k0 := 0) rfl dX6_emits_46 ?_
    refine mm_g_act (pc := 47) fl_X6_78 dX6_emits_47 ?_
    refine jx_iadd (pc := 50) dX6_emits_50 ?_
    refine jx_dup2 (pc := 51) rfl rfl dX6_emits_51 ?_
    obtain ⟨g5, h⟩ := jx_gd_o h
    refine mm_l_s (pc := 52) (jx_in_o g5) rfl dX6_emits_52 ?_
    refine jx_iconst (pc := 53) (v := (1 : Int32)) (by decide) dX6_emits_53 ?_
    refine jx_iadd (pc := 54) dX6_emits_54 ?_
    obtain ⟨g6, h⟩ := jx_gd_o h
    obtain ⟨σ7, eσ7, h⟩ := jx_lt_o h
    refine mm_s_s (pc := 55) hG (jx_in_o g6) rfl eσ7 dX6_emits_55 ?_
    have h := Option.some.inj h
    subst h
    exact jx_vret (pc := 56) dX6_emits_56
theorem dX6_looks_0 : decode cX6_looks 0 = .ok (.aload_n 0, 1) := by decide +kernel
theorem dX6_looks_1 : decode cX6_looks 1 = .ok (.getfield 18, 3) := by decide +kernel
theorem dX6_looks_4 : decode cX6_looks 4 = .ok (.iconst 0, 1) := by decide +kernel
theorem dX6_looks_5 : decode cX6_looks 5 = .ok (.iload_n 1, 1) := by decide +kernel
theorem dX6_looks_6 : decode cX6_looks 6 = .ok (.iastore, 1) := by decide +kernel
theorem dX6_looks_7 : decode cX6_looks 7 = .ok (.aload_n 0, 1) := by decide +kernel
theorem dX6_looks_8 : decode cX6_looks 8 = .ok (.getfield 18, 3) := by decide +kernel
theorem dX6_looks_11 : decode cX6_looks 11 = .ok (.iconst 1, 1) := by decide +kernel
theorem dX6_looks_12 : decode cX6_looks 12 = .ok (.aload_n 0, 1) := by decide +kernel
theorem dX6_looks_13 : decode cX6_looks 13 = .ok (.getfield 9, 3) := by decide +kernel
theorem dX6_looks_16 : decode cX6_looks 16 = .ok (.bipush 10, 2) := by decide +kernel
theorem dX6_looks_18 : decode cX6_looks 18 = .ok (.iload_n 1, 1) := by decide +kernel
theorem dX6_looks_19 : decode cX6_looks 19 = .ok (.iadd, 1) := by decide +kernel
theorem dX6_looks_20 : decode cX6_looks 20 = .ok (.iaload, 1) := by decide +kernel
theorem dX6_looks_21 : decode cX6_looks 21 = .ok (.iastore, 1) := by decide +kernel
theorem dX6_looks_22 : decode cX6_looks 22 = .ok (.aload_n 0, 1) := by decide +kernel
theorem dX6_looks_23 : decode cX6_looks 23 = .ok (.getfield 18, 3) := by decide +kernel
theorem dX6_looks_26 : decode cX6_looks 26 = .ok (.iconst 2, 1) := by decide +kernel
theorem dX6_looks_27 : decode cX6_looks 27 = .ok (.iload_n 2, 1) := by decide +kernel
theorem dX6_looks_28 : decode cX6_looks 28 = .ok (.bipush 12, 2) := by decide +kernel
theorem dX6_looks_30 : decode cX6_looks 30 = .ok (.irem, 1) := by decide +kernel
theorem dX6_looks_31 : decode cX6_looks 31 = .ok (.iastore, 1) := by decide +kernel
theorem dX6_looks_32 : decode cX6_looks 32 = .ok (.aload_n 0, 1) := by decide +kernel
theorem dX6_looks_33 : decode cX6_looks 33 = .ok (.getfield 18, 3) := by decide +kernel
theorem dX6_looks_36 : decode cX6_looks 36 = .ok (.iconst 3, 1) := by decide +kernel
theorem dX6_looks_37 : decode cX6_looks 37 = .ok (.aload_n 0, 1) := by decide +kernel
theorem dX6_looks_38 : decode cX6_looks 38 = .ok (.getfield 9, 3) := by decide +kernel
theorem dX6_looks_41 : decode cX6_looks 41 = .ok (.bipush 24, 2) := by decide +kernel
theorem dX6_looks_43 : decode cX6_looks 43 = .ok (.iload_n 1, 1) := by decide +kernel
theorem dX6_looks_44 : decode cX6_looks 44 = .ok (.iadd, 1) := by decide +kernel
theorem dX6_looks_45 : decode cX6_looks 45 = .ok (.iaload, 1) := by decide +kernel
theorem dX6_looks_46 : decode cX6_looks 46 = .ok (.iastore, 1) := by decide +kernel
theorem dX6_looks_47 : decode cX6_looks 47 = .ok (.aload_n 0, 1) := by decide +kernel
theorem dX6_looks_48 : decode cX6_looks 48 = .ok (.iconst 0, 1) := by decide +kernel
theorem dX6_looks_49 : decode cX6_looks 49 = .ok (.putfield 129, 3) := by decide +kernel
theorem dX6_looks_52 : decode cX6_looks 52 = .ok (.aload_n 0, 1) := by decide +kernel
theorem dX6_looks_53 : decode cX6_looks 53 = .ok (.iconst 0, 1) := by decide +kernel
theorem dX6_looks_54 : decode cX6_looks 54 = .ok (.putfield 132, 3) := by decide +kernel
theorem dX6_looks_57 : decode cX6_looks 57 = .ok (.aload_n 0, 1) := by decide +kernel
theorem dX6_looks_58 : decode cX6_looks 58 = .ok (.iconst 0, 1) := by decide +kernel
theorem dX6_looks_59 : decode cX6_looks 59 = .ok (.putfield 135, 3) := by decide +kernel
theorem dX6_looks_62 : decode cX6_looks 62 = .ok (.aload_n 0, 1) := by decide +kernel
theorem dX6_looks_63 : decode cX6_looks 63 = .ok (.iconst 1, 1) := by decide +kernel
theorem dX6_looks_64 : decode cX6_looks 64 = .ok (.putfield 138, 3) := by decide +kernel
theorem dX6_looks_67 : decode cX6_looks 67 = .ok (.aload_n 0, 1) := by decide +kernel
theorem dX6_looks_68 : decode cX6_looks 68 = .ok (.getfield 9, 3) := by decide +kernel
theorem dX6_looks_71 : decode cX6_looks 71 = .ok (.iconst 5, 1) := by decide +kernel
theorem dX6_looks_72 : decode cX6_looks 72 = .ok (.iaload, 1) := by decide +kernel
theorem dX6_looks_73 : decode cX6_looks 73 = .ok (.iconst (-1), 1) := by decide +kernel
theorem dX6_looks_74 : decode cX6_looks 74 = .ok (.if_icmp .ne 7, 3) := by decide +kernel
theorem dX6_looks_77 : decode cX6_looks 77 = .ok (.iconst 0, 1) := by decide +kernel
theorem dX6_looks_78 : decode cX6_looks 78 = .ok (.goto 18, 3) := by decide +kernel
theorem dX6_looks_81 : decode cX6_looks 81 = .ok (.aload_n 0, 1) := by decide +kernel
theorem dX6_looks_82 : decode cX6_looks 82 = .ok (.getfield 9, 3) := by decide +kernel
theorem dX6_looks_85 : decode cX6_looks 85 = .ok (.sipush 215, 3) := by decide +kernel
theorem dX6_looks_88 : decode cX6_looks 88 = .ok (.aload_n 0, 1) := by decide +kernel
theorem dX6_looks_89 : decode cX6_looks 89 = .ok (.getfield 9, 3) := by decide +kernel
theorem dX6_looks_92 : decode cX6_looks 92 = .ok (.iconst 5, 1) := by decide +kernel
theorem dX6_looks_93 : decode cX6_looks 93 = .ok (.iaload, 1) := by decide +kernel
theorem dX6_looks_94 : decode cX6_looks 94 = .ok (.iadd, 1) := by decide +kernel
theorem dX6_looks_95 : decode cX6_looks 95 = .ok (.iaload, 1) := by decide +kernel
theorem dX6_looks_96 : decode cX6_looks 96 = .ok (.istore_n 3, 1) := by decide +kernel
theorem dX6_looks_97 : decode cX6_looks 97 = .ok (.sipush 220, 3) := by decide +kernel
theorem dX6_looks_100 : decode cX6_looks 100 = .ok (.sipush 140, 3) := by decide +kernel
theorem dX6_looks_103 : decode cX6_looks 103 = .ok (.aload_n 0, 1) := by decide +kernel
theorem dX6_looks_104 : decode cX6_looks 104 = .ok (.getfield 9, 3) := by decide +kernel
theorem dX6_looks_107 : decode cX6_looks 107 = .ok (.iconst 5, 1) := by decide +kernel
theorem dX6_looks_108 : decode cX6_looks 108 = .ok (.iaload, 1) := by decide +kernel
theorem dX6_looks_109 : decode cX6_looks 109 = .ok (.imul, 1) := by decide +kernel
theorem dX6_looks_110 : decode cX6_looks 110 = .ok (.iadd, 1) := by decide +kernel
theorem dX6_looks_111 : decode cX6_looks 111 = .ok (.istore 4, 2) := by decide +kernel
theorem dX6_looks_113 : decode cX6_looks 113 = .ok (.iconst 0, 1) := by decide +kernel
theorem dX6_looks_114 : decode cX6_looks 114 = .ok (.istore 5, 2) := by decide +kernel
theorem dX6_looks_116 : decode cX6_looks 116 = .ok (.iload 4, 2) := by decide +kernel
theorem dX6_looks_118 : decode cX6_looks 118 = .ok (.istore 6, 2) := by decide +kernel
theorem dX6_looks_120 : decode cX6_looks 120 = .ok (.iload 6, 2) := by decide +kernel
theorem dX6_looks_122 : decode cX6_looks 122 = .ok (.iload 4, 2) := by decide +kernel
theorem dX6_looks_124 : decode cX6_looks 124 = .ok (.iload_n 3, 1) := by decide +kernel
theorem dX6_looks_125 : decode cX6_looks 125 = .ok (.iadd, 1) := by decide +kernel
theorem dX6_looks_126 : decode cX6_looks 126 = .ok (.if_icmp .ge 377, 3) := by decide +kernel
theorem dX6_looks_129 : decode cX6_looks 129 = .ok (.aload_n 0, 1) := by decide +kernel
theorem dX6_looks_130 : decode cX6_looks 130 = .ok (.getfield 9, 3) := by decide +kernel
theorem dX6_looks_133 : decode cX6_looks 133 = .ok (.iload 6, 2) := by decide +kernel
theorem dX6_looks_135 : decode cX6_looks 135 = .ok (.iaload, 1) := by decide +kernel
theorem dX6_looks_136 : decode cX6_looks 136 = .ok (.istore 7, 2) := by decide +kernel
theorem dX6_looks_138 : decode cX6_looks 138 = .ok (.iload 7, 2) := by decide +kernel
theorem dX6_looks_140 : decode cX6_looks 140 = .ok (.ifCond .lt 97, 3) := by decide +kernel
theorem dX6_looks_143 : decode cX6_looks 143 = .ok (.aload_n 0, 1) := by decide +kernel
theorem dX6_looks_144 : decode cX6_looks 144 = .ok (.getfield 18, 3) := by decide +kernel
theorem dX6_looks_147 : decode cX6_looks 147 = .ok (.iload 7, 2) := by decide +kernel
theorem dX6_looks_149 : decode cX6_looks 149 = .ok (.bipush 8, 2) := by decide +kernel
theorem dX6_looks_151 : decode cX6_looks 151 = .ok (.irem, 1) := by decide +kernel
theorem dX6_looks_152 : decode cX6_looks 152 = .ok (.iaload, 1) := by decide +kernel
theorem dX6_looks_153 : decode cX6_looks 153 = .ok (.istore 8, 2) := by decide +kernel
theorem dX6_looks_155 : decode cX6_looks 155 = .ok (.iload 7, 2) := by decide +kernel
theorem dX6_looks_157 : decode cX6_looks 157 = .ok (.bipush 8, 2) := by decide +kernel
theorem dX6_looks_159 : decode cX6_looks 159 = .ok (.idiv, 1) := by decide +kernel
theorem dX6_looks_160 : decode cX6_looks 160 = .ok (.iconst 4, 1) := by decide +kernel
theorem dX6_looks_161 : decode cX6_looks 161 = .ok (.irem, 1) := by decide +kernel
theorem dX6_looks_162 : decode cX6_looks 162 = .ok (.istore 9, 2) := by decide +kernel
theorem dX6_looks_164 : decode cX6_looks 164 = .ok (.iload 7, 2) := by decide +kernel
theorem dX6_looks_166 : decode cX6_looks 166 = .ok (.bipush 32, 2) := by decide +kernel
theorem dX6_looks_168 : decode cX6_looks 168 = .ok (.idiv, 1) := by decide +kernel
theorem dX6_looks_169 : decode cX6_looks 169 = .ok (.istore 10, 2) := by decide +kernel
theorem dX6_looks_171 : decode cX6_looks 171 = .ok (.aload_n 0, 1) := by decide +kernel
theorem dX6_looks_172 : decode cX6_looks 172 = .ok (.getfield 21, 3) := by decide +kernel
theorem dX6_looks_175 : decode cX6_looks 175 = .ok (.iload 5, 2) := by decide +kernel
theorem dX6_looks_177 : decode cX6_looks 177 = .ok (.iload 9, 2) := by decide +kernel
theorem dX6_looks_179 : decode cX6_looks 179 = .ok (.ifCond .ne 18, 3) := by decide +kernel
theorem dX6_looks_182 : decode cX6_looks 182 = .ok (.iload 8, 2) := by decide +kernel
theorem dX6_looks_184 : decode cX6_looks 184 = .ok (.iload 10, 2) := by decide +kernel
theorem dX6_looks_186 : decode cX6_looks 186 = .ok (.if_icmp .ge 7, 3) := by decide +kernel
theorem dX6_looks_189 : decode cX6_looks 189 = .ok (.iconst 1, 1) := by decide +kernel
theorem dX6_looks_190 : decode cX6_looks 190 = .ok (.goto 40, 3) := by decide +kernel
theorem dX6_looks_193 : decode cX6_looks 193 = .ok (.iconst 0, 1) := by decide +kernel
theorem dX6_looks_194 : decode cX6_looks 194 = .ok (.goto 36, 3) := by decide +kernel
theorem dX6_looks_197 : decode cX6_looks 197 = .ok (.iload 9, 2) := by decide +kernel
theorem dX6_looks_199 : decode cX6_looks 199 = .ok (.iconst 1, 1) := by decide +kernel
theorem dX6_looks_200 : decode cX6_looks 200 = .ok (.if_icmp .ne 18, 3) := by decide +kernel
theorem dX6_looks_203 : decode cX6_looks 203 = .ok (.iload 8, 2) := by decide +kernel
theorem dX6_looks_205 : decode cX6_looks 205 = .ok (.iload 10, 2) := by decide +kernel
theorem dX6_looks_207 : decode cX6_looks 207 = .ok (.if_icmp .ne 7, 3) := by decide +kernel
theorem dX6_looks_210 : decode cX6_looks 210 = .ok (.iconst 1, 1) := by decide +kernel
theorem dX6_looks_211 : decode cX6_looks 211 = .ok (.goto 19, 3) := by decide +kernel
theorem dX6_looks_214 : decode cX6_looks 214 = .ok (.iconst 0, 1) := by decide +kernel
theorem dX6_looks_215 : decode cX6_looks 215 = .ok (.goto 15, 3) := by decide +kernel
theorem dX6_looks_218 : decode cX6_looks 218 = .ok (.iload 8, 2) := by decide +kernel
theorem dX6_looks_220 : decode cX6_looks 220 = .ok (.iload 10, 2) := by decide +kernel
theorem dX6_looks_222 : decode cX6_looks 222 = .ok (.if_icmp .le 7, 3) := by decide +kernel
theorem dX6_looks_225 : decode cX6_looks 225 = .ok (.iconst 1, 1) := by decide +kernel
theorem dX6_looks_226 : decode cX6_looks 226 = .ok (.goto 4, 3) := by decide +kernel
theorem dX6_looks_229 : decode cX6_looks 229 = .ok (.iconst 0, 1) := by decide +kernel
theorem dX6_looks_230 : decode cX6_looks 230 = .ok (.bastore, 1) := by decide +kernel
theorem dX6_looks_231 : decode cX6_looks 231 = .ok (.iinc 5 1, 3) := by decide +kernel
theorem dX6_looks_234 : decode cX6_looks 234 = .ok (.goto 263, 3) := by decide +kernel
theorem dX6_looks_237 : decode cX6_looks 237 = .ok (.iload 7, 2) := by decide +kernel
theorem dX6_looks_239 : decode cX6_looks 239 = .ok (.iconst (-1), 1) := by decide +kernel
theorem dX6_looks_240 : decode cX6_looks 240 = .ok (.if_icmp .ne 32, 3) := by decide +kernel
theorem dX6_looks_243 : decode cX6_looks 243 = .ok (.aload_n 0, 1) := by decide +kernel
theorem dX6_looks_244 : decode cX6_looks 244 = .ok (.getfield 21, 3) := by decide +kernel
theorem dX6_looks_247 : decode cX6_looks 247 = .ok (.iload 5, 2) := by decide +kernel
theorem dX6_looks_249 : decode cX6_looks 249 = .ok (.iconst 1, 1) := by decide +kernel
theorem dX6_looks_250 : decode cX6_looks 250 = .ok (.isub, 1) := by decide +kernel
theorem dX6_looks_251 : decode cX6_looks 251 = .ok (.aload_n 0, 1) := by decide +kernel
theorem dX6_looks_252 : decode cX6_looks 252 = .ok (.getfield 21, 3) := by decide +kernel
theorem dX6_looks_255 : decode cX6_looks 255 = .ok (.iload 5, 2) := by decide +kernel
theorem dX6_looks_257 : decode cX6_looks 257 = .ok (.iconst 1, 1) := by decide +kernel
theorem dX6_looks_258 : decode cX6_looks 258 = .ok (.isub, 1) := by decide +kernel
theorem dX6_looks_259 : decode cX6_looks 259 = .ok (.baload, 1) := by decide +kernel
theorem dX6_looks_260 : decode cX6_looks 260 = .ok (.ifCond .ne 7, 3) := by decide +kernel
theorem dX6_looks_263 : decode cX6_looks 263 = .ok (.iconst 1, 1) := by decide +kernel
theorem dX6_looks_264 : decode cX6_looks 264 = .ok (.goto 4, 3) := by decide +kernel
theorem dX6_looks_267 : decode cX6_looks 267 = .ok (.iconst 0, 1) := by decide +kernel
theorem dX6_looks_268 : decode cX6_looks 268 = .ok (.bastore, 1) := by decide +kernel
theorem dX6_looks_269 : decode cX6_looks 269 = .ok (.goto 228, 3) := by decide +kernel
theorem dX6_looks_272 : decode cX6_looks 272 = .ok (.iload 7, 2) := by decide +kernel
theorem dX6_looks_274 : decode cX6_looks 274 = .ok (.bipush (-10), 2) := by decide +kernel
theorem dX6_looks_276 : decode cX6_looks 276 = .ok (.if_icmp .le 82, 3) := by decide +kernel
theorem dX6_looks_279 : decode cX6_looks 279 = .ok (.iinc 5 (-1), 3) := by decide +kernel
theorem dX6_looks_282 : decode cX6_looks 282 = .ok (.aload_n 0, 1) := by decide +kernel
theorem dX6_looks_283 : decode cX6_looks 283 = .ok (.getfield 21, 3) := by decide +kernel
theorem dX6_looks_286 : decode cX6_looks 286 = .ok (.iload 5, 2) := by decide +kernel
theorem dX6_looks_288 : decode cX6_looks 288 = .ok (.iconst 1, 1) := by decide +kernel
theorem dX6_looks_289 : decode cX6_looks 289 = .ok (.isub, 1) := by decide +kernel
theorem dX6_looks_290 : decode cX6_looks 290 = .ok (.iload 7, 2) := by decide +kernel
theorem dX6_looks_292 : decode cX6_looks 292 = .ok (.bipush (-2), 2) := by decide +kernel
theorem dX6_looks_294 : decode cX6_looks 294 = .ok (.if_icmp .ne 33, 3) := by decide +kernel
theorem dX6_looks_297 : decode cX6_looks 297 = .ok (.aload_n 0, 1) := by decide +kernel
theorem dX6_looks_298 : decode cX6_looks 298 = .ok (.getfield 21, 3) := by decide +kernel
theorem dX6_looks_301 : decode cX6_looks 301 = .ok (.iload 5, 2) := by decide +kernel
theorem dX6_looks_303 : decode cX6_looks 303 = .ok (.iconst 1, 1) := by decide +kernel
theorem dX6_looks_304 : decode cX6_looks 304 = .ok (.isub, 1) := by decide +kernel
theorem dX6_looks_305 : decode cX6_looks 305 = .ok (.baload, 1) := by decide +kernel
theorem dX6_looks_306 : decode cX6_looks 306 = .ok (.ifCond .eq 17, 3) := by decide +kernel
theorem dX6_looks_309 : decode cX6_looks 309 = .ok (.aload_n 0, 1) := by decide +kernel
theorem dX6_looks_310 : decode cX6_looks 310 = .ok (.getfield 21, 3) := by decide +kernel
theorem dX6_looks_313 : decode cX6_looks 313 = .ok (.iload 5, 2) := by decide +kernel
theorem dX6_looks_315 : decode cX6_looks 315 = .ok (.baload, 1) := by decide +kernel
theorem dX6_looks_316 : decode cX6_looks 316 = .ok (.ifCond .eq 7, 3) := by decide +kernel
theorem dX6_looks_319 : decode cX6_looks 319 = .ok (.iconst 1, 1) := by decide +kernel
theorem dX6_looks_320 : decode cX6_looks 320 = .ok (.goto 34, 3) := by decide +kernel
theorem dX6_looks_323 : decode cX6_looks 323 = .ok (.iconst 0, 1) := by decide +kernel
theorem dX6_looks_324 : decode cX6_looks 324 = .ok (.goto 30, 3) := by decide +kernel
theorem dX6_looks_327 : decode cX6_looks 327 = .ok (.aload_n 0, 1) := by decide +kernel
theorem dX6_looks_328 : decode cX6_looks 328 = .ok (.getfield 21, 3) := by decide +kernel
theorem dX6_looks_331 : decode cX6_looks 331 = .ok (.iload 5, 2) := by decide +kernel
theorem dX6_looks_333 : decode cX6_looks 333 = .ok (.iconst 1, 1) := by decide +kernel
theorem dX6_looks_334 : decode cX6_looks 334 = .ok (.isub, 1) := by decide +kernel
theorem dX6_looks_335 : decode cX6_looks 335 = .ok (.baload, 1) := by decide +kernel
theorem dX6_looks_336 : decode cX6_looks 336 = .ok (.ifCond .ne 13, 3) := by decide +kernel
theorem dX6_looks_339 : decode cX6_looks 339 = .ok (.aload_n 0, 1) := by decide +kernel
theorem dX6_looks_340 : decode cX6_looks 340 = .ok (.getfield 21, 3) := by decide +kernel
theorem dX6_looks_343 : decode cX6_looks 343 = .ok (.iload 5, 2) := by decide +kernel
theorem dX6_looks_345 : decode cX6_looks 345 = .ok (.baload, 1) := by decide +kernel
theorem dX6_looks_346 : decode cX6_looks 346 = .ok (.ifCond .eq 7, 3) := by decide +kernel
theorem dX6_looks_349 : decode cX6_looks 349 = .ok (.iconst 1, 1) := by decide +kernel
theorem dX6_looks_350 : decode cX6_looks 350 = .ok (.goto 4, 3) := by decide +kernel
theorem dX6_looks_353 : decode cX6_looks 353 = .ok (.iconst 0, 1) := by decide +kernel
theorem dX6_looks_354 : decode cX6_looks 354 = .ok (.bastore, 1) := by decide +kernel
theorem dX6_looks_355 : decode cX6_looks 355 = .ok (.goto 142, 3) := by decide +kernel
theorem dX6_looks_358 : decode cX6_looks 358 = .ok (.iconst 0, 1) := by decide +kernel
theorem dX6_looks_359 : decode cX6_looks 359 = .ok (.istore 5, 2) := by decide +kernel
theorem dX6_looks_361 : decode cX6_looks 361 = .ok (.aload_n 0, 1) := by decide +kernel
theorem dX6_looks_362 : decode cX6_looks 362 = .ok (.getfield 21, 3) := by decide +kernel
theorem dX6_looks_365 : decode cX6_looks 365 = .ok (.iconst 0, 1) := by decide +kernel
theorem dX6_looks_366 : decode cX6_looks 366 = .ok (.baload, 1) := by decide +kernel
theorem dX6_looks_367 : decode cX6_looks 367 = .ok (.istore 8, 2) := by decide +kernel
theorem dX6_looks_369 : decode cX6_looks 369 = .ok (.aload_n 0, 1) := by decide +kernel
theorem dX6_looks_370 : decode cX6_looks 370 = .ok (.aload_n 0, 1) := by decide +kernel
theorem dX6_looks_371 : decode cX6_looks 371 = .ok (.getfield 129, 3) := by decide +kernel
theorem dX6_looks_374 : decode cX6_looks 374 = .ok (.ifCond .ne 15, 3) := by decide +kernel
theorem dX6_looks_377 : decode cX6_looks 377 = .ok (.iload 8, 2) := by decide +kernel
theorem dX6_looks_379 : decode cX6_looks 379 = .ok (.ifCond .eq 14, 3) := by decide +kernel
theorem dX6_looks_382 : decode cX6_looks 382 = .ok (.iload 7, 2) := by decide +kernel
theorem dX6_looks_384 : decode cX6_looks 384 = .ok (.bipush (-10), 2) := by decide +kernel
theorem dX6_looks_386 : decode cX6_looks 386 = .ok (.if_icmp .ne 7, 3) := by decide +kernel
theorem dX6_looks_389 : decode cX6_looks 389 = .ok (.iconst 1, 1) := by decide +kernel
theorem dX6_looks_390 : decode cX6_looks 390 = .ok (.goto 4, 3) := by decide +kernel
theorem dX6_looks_393 : decode cX6_looks 393 = .ok (.iconst 0, 1) := by decide +kernel
theorem dX6_looks_394 : decode cX6_looks 394 = .ok (.putfield 129, 3) := by decide +kernel
theorem dX6_looks_397 : decode cX6_looks 397 = .ok (.aload_n 0, 1) := by decide +kernel
theorem dX6_looks_398 : decode cX6_looks 398 = .ok (.aload_n 0, 1) := by decide +kernel
theorem dX6_looks_399 : decode cX6_looks 399 = .ok (.getfield 132, 3) := by decide +kernel
theorem dX6_looks_402 : decode cX6_looks 402 = .ok (.ifCond .ne 15, 3) := by decide +kernel
theorem dX6_looks_405 : decode cX6_looks 405 = .ok (.iload 8, 2) := by decide +kernel
theorem dX6_looks_407 : decode cX6_looks 407 = .ok (.ifCond .eq 14, 3) := by decide +kernel
theorem dX6_looks_410 : decode cX6_looks 410 = .ok (.iload 7, 2) := by decide +kernel
theorem dX6_looks_412 : decode cX6_looks 412 = .ok (.bipush (-20), 2) := by decide +kernel
theorem dX6_looks_414 : decode cX6_looks 414 = .ok (.if_icmp .ne 7, 3) := by decide +kernel
theorem dX6_looks_417 : decode cX6_looks 417 = .ok (.iconst 1, 1) := by decide +kernel
theorem dX6_looks_418 : decode cX6_looks 418 = .ok (.goto 4, 3) := by decide +kernel
theorem dX6_looks_421 : decode cX6_looks 421 = .ok (.iconst 0, 1) := by decide +kernel
theorem dX6_looks_422 : decode cX6_looks 422 = .ok (.putfield 132, 3) := by decide +kernel
theorem dX6_looks_425 : decode cX6_looks 425 = .ok (.aload_n 0, 1) := by decide +kernel
theorem dX6_looks_426 : decode cX6_looks 426 = .ok (.dup, 1) := by decide +kernel
theorem dX6_looks_427 : decode cX6_looks 427 = .ok (.getfield 135, 3) := by decide +kernel
theorem dX6_looks_430 : decode cX6_looks 430 = .ok (.iload 8, 2) := by decide +kernel
theorem dX6_looks_432 : decode cX6_looks 432 = .ok (.ifCond .eq 28, 3) := by decide +kernel
theorem dX6_looks_435 : decode cX6_looks 435 = .ok (.iload 7, 2) := by decide +kernel
theorem dX6_looks_437 : decode cX6_looks 437 = .ok (.sipush (-200), 3) := by decide +kernel
theorem dX6_looks_440 : decode cX6_looks 440 = .ok (.if_icmp .gt 20, 3) := by decide +kernel
theorem dX6_looks_443 : decode cX6_looks 443 = .ok (.iload 7, 2) := by decide +kernel
theorem dX6_looks_445 : decode cX6_looks 445 = .ok (.sipush (-400), 3) := by decide +kernel
theorem dX6_looks_448 : decode cX6_looks 448 = .ok (.if_icmp .le 12, 3) := by decide +kernel
theorem dX6_looks_451 : decode cX6_looks 451 = .ok (.sipush (-200), 3) := by decide +kernel
theorem dX6_looks_454 : decode cX6_looks 454 = .ok (.iload 7, 2) := by decide +kernel
theorem dX6_looks_456 : decode cX6_looks 456 = .ok (.isub, 1) := by decide +kernel
theorem dX6_looks_457 : decode cX6_looks 457 = .ok (.goto 4, 3) := by decide +kernel
theorem dX6_looks_460 : decode cX6_looks 460 = .ok (.iconst 0, 1) := by decide +kernel
theorem dX6_looks_461 : decode cX6_looks 461 = .ok (.iadd, 1) := by decide +kernel
theorem dX6_looks_462 : decode cX6_looks 462 = .ok (.putfield 135, 3) := by decide +kernel
theorem dX6_looks_465 : decode cX6_looks 465 = .ok (.aload_n 0, 1) := by decide +kernel
theorem dX6_looks_466 : decode cX6_looks 466 = .ok (.dup, 1) := by decide +kernel
theorem dX6_looks_467 : decode cX6_looks 467 = .ok (.getfield 138, 3) := by decide +kernel
theorem dX6_looks_470 : decode cX6_looks 470 = .ok (.iload 8, 2) := by decide +kernel
theorem dX6_looks_472 : decode cX6_looks 472 = .ok (.ifCond .eq 20, 3) := by decide +kernel
theorem dX6_looks_475 : decode cX6_looks 475 = .ok (.iload 7, 2) := by decide +kernel
theorem dX6_looks_477 : decode cX6_looks 477 = .ok (.sipush (-400), 3) := by decide +kernel
theorem dX6_looks_480 : decode cX6_looks 480 = .ok (.if_icmp .gt 12, 3) := by decide +kernel
theorem dX6_looks_483 : decode cX6_looks 483 = .ok (.sipush (-400), 3) := by decide +kernel
theorem dX6_looks_486 : decode cX6_looks 486 = .ok (.iload 7, 2) := by decide +kernel
theorem dX6_looks_488 : decode cX6_looks 488 = .ok (.isub, 1) := by decide +kernel
theorem dX6_looks_489 : decode cX6_looks 489 = .ok (.goto 4, 3) := by decide +kernel
theorem dX6_looks_492 : decode cX6_looks 492 = .ok (.iconst 0, 1) := by decide +kernel
theorem dX6_looks_493 : decode cX6_looks 493 = .ok (.iadd, 1) := by decide +kernel
theorem dX6_looks_494 : decode cX6_looks 494 = .ok (.putfield 138, 3) := by decide +kernel
theorem dX6_looks_497 : decode cX6_looks 497 = .ok (.iinc 6 1, 3) := by decide +kernel
theorem dX6_looks_500 : decode cX6_looks 500 = .ok (.goto (-380), 3) := by decide +kernel
theorem dX6_looks_503 : decode cX6_looks 503 = .ok (.return_, 1) := by decide +kernel
abbrev rm_X6_looks : Room := { frames := 0, cells := 0, slots := 0, locals := 0 }
abbrev jJ_X6_looks (l : Launch) (G : jx_G) (sz : Nat) (out : jx_M) (pc : Nat) (lv : List (Nat × Value)) (st : List Value) (σ : jx_M) : Prop := jx_J l (mm_env G) (mm_dyn G) (mm_rg G) sz RX6 "looks" cX6_looks 11 none rm_X6_looks (fun below args s => MQ below (jx_Qv (mm_dyn G) out (jx_A (mm_rg G) sz)) args s 0 0 (jx_A (mm_rg G) sz)) 0 0 pc lv st σ
def b_X6_looks_497 (k120 : jx_M → Int32 → Int32 → Int32 → Int32 → Option jx_M) (σ : jx_M) (v3 : Int32) (v4 : Int32) (v5 : Int32) (v6 : Int32) : Option jx_M :=
  jx_lt (v6 + (1 : Int32)) (fun x1 => (k120 σ v3 v4 v5 x1))
set_option maxHeartbeats 4000000 in
set_option maxRecDepth 100000 in
theorem jb_X6_looks_497 (l : Launch) (G : jx_G) (hG : mm_ok G) (sz : Nat) (out : jx_M) (k120 : jx_M → Int32 → Int32 → Int32 → Int32 → Option jx_M) (h120 : ∀ (σ : jx_M) (v3 : Int32) (v4 : Int32) (v5 : Int32) (v6 : Int32), k120 σ v3 v4 v5 v6 = some out → jJ_X6_looks l G sz out 120 [(0, .ref (G.2 10)), (3, .int v3), (4, .int v4), (5, .int v5), (6, .int v6)] [] σ) (σ : jx_M) (v3 : Int32) (v4 : Int32) (v5 : Int32) (v6 : Int32) (h : b_X6_looks_497 k120 σ v3 v4 v5 v6 = some out) : jJ_X6_looks l G sz out 497 [(0, .ref (G.2 10)), (3, .int v3), (4, .int v4), (5, .int v5), (6, .int v6)] [] σ := by
  unfold b_X6_looks_497 at h
  obtain ⟨x1, ex1, h⟩ := jx_lt_o h
  refine jx_iinc (pc := 497) (i := 6) (v := v6) rfl ex1 (n := 1) (by decide) (by decide) (lv' := [(6, .int x1), (0, .ref (G.2 10)), (3, .int v3), (4, .int v4), (5, .int v5)]) rfl dX6_looks_497 ?_
  refine jx_goto (pc := 500) (tgt := 120) dX6_looks_500 (by decide) ?_
  exact jx_sub [1, 2, 3, 4, 0] rfl (h120 σ v3 v4 v5 x1 h)
def b_X6_looks_230 (k120 : jx_M → Int32 → Int32 → Int32 → Int32 → Option jx_M) (σ : jx_M) (v3 : Int32) (v4 : Int32) (v5 : Int32) (v6 : Int32) (s0 : Int32) (s1 : Int32) : Option jx_M :=
  jx_gd (decide (s0 = 0 ∨ s0 = 1)) (jx_gd (jx_in s1 64) (jx_lt (jx_mu σ 4 s1.toNatClampNeg s0) (fun σ3 => jx_lt (v5 + (1 : Int32)) (fun x4 => (b_X6_looks_497 k120 σ3 v3 v4 x4 v6)))))
set_option maxHeartbeats 4000000 in
set_option maxRecDepth 100000 in
theorem jb_X6_looks_230 (l : Launch) (G : jx_G) (hG : mm_ok G) (sz : Nat) (out : jx_M) (k120 : jx_M → Int32 → Int32 → Int32 → Int32 → Option jx_M) (h120 : ∀ (σ : jx_M) (v3 : Int32) (v4 : Int32) (v5 : Int32) (v6 : Int32), k120 σ v3 v4 v5 v6 = some out → jJ_X6_looks l G sz out 120 [(0, .ref (G.2 10)), (3, .int v3), (4, .int v4), (5, .int v5), (6, .int v6)] [] σ) (σ : jx_M) (v3 : Int32) (v4 : Int32) (v5 : Int32) (v6 : Int32) (s0 : Int32) (s1 : Int32) (h : b_X6_looks_230 k120 σ v3 v4 v5 v6 s0 s1 = some out) : jJ_X6_looks l G sz out 230 [(0, .ref (G.2 10)), (3, .int v3), (4, .int v4), (5, .int v5), (6, .int v6)] [.int s0, .int s1, .ref (G.2 104)] σ := by
  unfold b_X6_looks_230 at h
  obtain ⟨g1, h⟩ := jx_gd_o h
  obtain ⟨g2, h⟩ := jx_gd_o h
  obtain ⟨σ3, eσ3, h⟩ := jx_lt_o h
  refine mm_s_truths (pc := 230) hG (of_decide_eq_true g1) (jx_in_o g2) rfl eσ3 dX6_looks_230 ?_
  obtain ⟨x4, ex4, h⟩ := jx_lt_o h
  refine jx_iinc (pc := 231) (i := 5) (v := v5) rfl ex4 (n := 1) (by decide) (by decide) (lv' := [(5, .int x4), (0, .ref (G.2 10)), (3, .int v3), (4, .int v4), (6, .int v6)]) rfl dX6_looks_231 ?_
  refine jx_goto (pc := 234) (tgt := 497) dX6_looks_234 (by decide) ?_
  exact jx_sub [1, 2, 3, 0, 4] rfl (jb_X6_looks_497 l G hG sz out k120 h120 σ3 v3 v4 x4 v6 h)
def b_X6_looks_268 (k120 : jx_M → Int32 → Int32 → Int32 → Int32 → Option jx_M) (σ : jx_M) (v3 : Int32) (v4 : Int32) (v5 : Int32) (v6 : Int32) (s0 : Int32) (s1 : Int32) : Option jx_M :=
  jx_gd (decide (s0 = 0 ∨ s0 = 1)) (jx_gd (jx_in s1 64) (jx_lt (jx_mu σ 4 s1.toNatClampNeg s0) (fun σ3 => (b_X6_looks_497 k120 σ3 v3 v4 v5 v6))))
set_option maxHeartbeats 4000000 in
set_option maxRecDepth 100000 in
theorem jb_X6_looks_268 (l : Launch) (G : jx_G) (hG : mm_ok G) (sz : Nat) (out : jx_M) (k120 : jx_M → Int32 → Int32 → Int32 → Int32 → Option jx_M) (h120 : ∀ (σ : jx_M) (v3 : Int32) (v4 : Int32) (v5 : Int32) (v6 : Int32), k120 σ v3 v4 v5 v6 = some out → jJ_X6_looks l G sz out 120 [(0, .ref (G.2 10)), (3, .int v3), (4, .int v4), (5, .int v5), (6, .int v6)] [] σ) (σ : jx_M) (v3 : Int32) (v4 : Int32) (v5 : Int32) (v6 : Int32) (s0 : Int32) (s1 : Int32) (h : b_X6_looks_268 k120 σ v3 v4 v5 v6 s0 s1 = some out) : jJ_X6_looks l G sz out 268 [(0, .ref (G.2 10)), (3, .int v3), (4, .int v4), (5, .int v5), (6, .int v6)] [.int s0, .int s1, .ref (G.2 104)] σ := by
  unfold b_X6_looks_268 at h
  obtain ⟨g1, h⟩ := jx_gd_o h
  obtain ⟨g2, h⟩ := jx_gd_o h
  obtain ⟨σ3, eσ3, h⟩ := jx_lt_o h
  refine mm_s_truths (pc := 268) hG (of_decide_eq_true g1) (jx_in_o g2) rfl eσ3 dX6_looks_268 ?_
  refine jx_goto (pc := 269) (tgt := 497) dX6_looks_269 (by decide) ?_
  exact jx_sub [0, 1, 2, 3, 4] rfl (jb_X6_looks_497 l G hG sz out k120 h120 σ3 v3 v4 v5 v6 h)
def b_X6_looks_354 (k120 : jx_M → Int32 → Int32 → Int32 → Int32 → Option jx_M) (σ : jx_M) (v3 : Int32) (v4 : Int32) (v5 : Int32) (v6 : Int32) (s0 : Int32) (s1 : Int32) : Option jx_M :=
  jx_gd (decide (s0 = 0 ∨ s0 = 1)) (jx_gd (jx_in s1 64) (jx_lt (jx_mu σ 4 s1.toNatClampNeg s0) (fun σ3 => (b_X6_looks_497 k120 σ3 v3 v4 v5 v6))))
set_option maxHeartbeats 4000000 in
set_option maxRecDepth 100000 in
theorem jb_X6_looks_354 (l : Launch) (G : jx_G) (hG : mm_ok G) (sz : Nat) (out : jx_M) (k120 : jx_M → Int32 → Int32 → Int32 → Int32 → Option jx_M) (h120 : ∀ (σ : jx_M) (v3 : Int32) (v4 : Int32) (v5 : Int32) (v6 : Int32), k120 σ v3 v4 v5 v6 = some out → jJ_X6_looks l G sz out 120 [(0, .ref (G.2 10)), (3, .int v3), (4, .int v4), (5, .int v5), (6, .int v6)] [] σ) (σ : jx_M) (v3 : Int32) (v4 : Int32) (v5 : Int32) (v6 : Int32) (s0 : Int32) (s1 : Int32) (h : b_X6_looks_354 k120 σ v3 v4 v5 v6 s0 s1 = some out) : jJ_X6_looks l G sz out 354 [(0, .ref (G.2 10)), (3, .int v3), (4, .int v4), (5, .int v5), (6, .int v6)] [.int s0, .int s1, .ref (G.2 104)] σ := by
  unfold b_X6_looks_354 at h
  obtain ⟨g1, h⟩ := jx_gd_o h
  obtain ⟨g2, h⟩ := jx_gd_o h
  obtain ⟨σ3, eσ3, h⟩ := jx_lt_o h
  refine mm_s_truths (pc := 354) hG (of_decide_eq_true g1) (jx_in_o g2) rfl eσ3 dX6_looks_354 ?_
  refine jx_goto (pc := 355) (tgt := 497) dX6_looks_355 (by decide) ?_
  exact jx_sub [0, 1, 2, 3, 4] rfl (jb_X6_looks_497 l G hG sz out k120 h120 σ3 v3 v4 v5 v6 h)
def b_X6_looks_323 (k120 : jx_M → Int32 → Int32 → Int32 → Int32 → Option jx_M) (σ : jx_M) (v3 : Int32) (v4 : Int32) (v5 : Int32) (v6 : Int32) (s0 : Int32) : Option jx_M :=
  (b_X6_looks_354 k120 σ v3 v4 v5 v6 (0 : Int32) s0)
set_option maxHeartbeats 4000000 in
set_option maxRecDepth 100000 in
theorem jb_X6_looks_323 (l : Launch) (G : jx_G) (hG : mm_ok G) (sz : Nat) (out : jx_M) (k120 : jx_M → Int32 → Int32 → Int32 → Int32 → Option jx_M) (h120 : ∀ (σ : jx_M) (v3 : Int32) (v4 : Int32) (v5 : Int32) (v6 : Int32), k120 σ v3 v4 v5 v6 = some out → jJ_X6_looks l G sz out 120 [(0, .ref (G.2 10)), (3, .int v3), (4, .int v4), (5, .int v5), (6, .int v6)] [] σ) (σ : jx_M) (v3 : Int32) (v4 : Int32) (v5 : Int32) (v6 : Int32) (s0 : Int32) (h : b_X6_looks_323 k120 σ v3 v4 v5 v6 s0 = some out) : jJ_X6_looks l G sz out 323 [(0, .ref (G.2 10)), (3, .int v3), (4, .int v4), (5, .int v5), (6, .int v6)] [.int s0, .ref (G.2 104)] σ := by
  unfold b_X6_looks_323 at h
  refine jx_iconst (pc := 323) (v := (0 : Int32)) (by decide) dX6_looks_323 ?_
  refine jx_goto (pc := 324) (tgt := 354) dX6_looks_324 (by decide) ?_
  exact jx_sub [0, 1, 2, 3, 4] rfl (jb_X6_looks_354 l G hG sz out k120 h120 σ v3 v4 v5 v6 (0 : Int32) s0 h)
def b_X6_looks_349 (k120 : jx_M → Int32 → Int32 → Int32 → Int32 → Option jx_M) (σ : jx_M) (v3 : Int32) (v4 : Int32) (v5 : Int32) (v6 : Int32) (s0 : Int32) : Option jx_M :=
  (b_X6_looks_354 k120 σ v3 v4 v5 v6 (1 : Int32) s0)
set_option maxHeartbeats 4000000 in
set_option maxRecDepth 100000 in
theorem jb_X6_looks_349 (l : Launch) (G : jx_G) (hG : mm_ok G) (sz : Nat) (out : jx_M) (k120 : jx_M → Int32 → Int32 → Int32 → Int32 → Option jx_M) (h120 : ∀ (σ : jx_M) (v3 : Int32) (v4 : Int32) (v5 : Int32) (v6 : Int32), k120 σ v3 v4 v5 v6 = some out → jJ_X6_looks l G sz out 120 [(0, .ref (G.2 10)), (3, .int v3), (4, .int v4), (5, .int v5), (6, .int v6)] [] σ) (σ : jx_M) (v3 : Int32) (v4 : Int32) (v5 : Int32) (v6 : Int32) (s0 : Int32) (h : b_X6_looks_349 k120 σ v3 v4 v5 v6 s0 = some out) : jJ_X6_looks l G sz out 349 [(0, .ref (G.2 10)), (3, .int v3), (4, .int v4), (5, .int v5), (6, .int v6)] [.int s0, .ref (G.2 104)] σ := by
  unfold b_X6_looks_349 at h
  refine jx_iconst (pc := 349) (v := (1 : Int32)) (by decide) dX6_looks_349 ?_
  refine jx_goto (pc := 350) (tgt := 354) dX6_looks_350 (by decide) ?_
  exact jx_sub [0, 1, 2, 3, 4] rfl (jb_X6_looks_354 l G hG sz out k120 h120 σ v3 v4 v5 v6 (1 : Int32) s0 h)
def b_X6_looks_493 (k120 : jx_M → Int32 → Int32 → Int32 → Int32 → Option jx_M) (σ : jx_M) (v3 : Int32) (v4 : Int32) (v5 : Int32) (v6 : Int32) (s0 : Int32) (s1 : Int32) : Option jx_M :=
  jx_lt (jx_mu σ 0 14 (s1 + s0)) (fun σ1 => (b_X6_looks_497 k120 σ1 v3 v4 v5 v6))
set_option maxHeartbeats 4000000 in
set_option maxRecDepth 100000 in
theorem jb_X6_looks_493 (l : Launch) (G : jx_G) (hG : mm_ok G) (sz : Nat) (out : jx_M) (k120 : jx_M → Int32 → Int32 → Int32 → Int32 → Option jx_M) (h120 : ∀ (σ : jx_M) (v3 : Int32) (v4 : Int32) (v5 : Int32) (v6 : Int32), k120 σ v3 v4 v5 v6 = some out → jJ_X6_looks l G sz out 120 [(0, .ref (G.2 10)), (3, .int v3), (4, .int v4), (5, .int v5), (6, .int v6)] [] σ) (σ : jx_M) (v3 : Int32) (v4 : Int32) (v5 : Int32) (v6 : Int32) (s0 : Int32) (s1 : Int32) (h : b_X6_looks_493 k120 σ v3 v4 v5 v6 s0 s1 = some out) : jJ_X6_looks l G sz out 493 [(0, .ref (G.2 10)), (3, .int v3), (4, .int v4), (5, .int v5), (6, .int v6)] [.int s0, .int s1, .ref (G.2 10)] σ := by
  unfold b_X6_looks_493 at h
  refine jx_iadd (pc := 493) dX6_looks_493 ?_
  obtain ⟨σ1, eσ1, h⟩ := jx_lt_o h
  refine mm_p_weighed (pc := 494) hG fl_X6_138 eσ1 dX6_looks_494 ?_
  exact jx_sub [0, 1, 2, 3, 4] rfl (jb_X6_looks_497 l G hG sz out k120 h120 σ1 v3 v4 v5 v6 h)
def b_X6_looks_492 (k120 : jx_M → Int32 → Int32 → Int32 → Int32 → Option jx_M) (σ : jx_M) (v3 : Int32) (v4 : Int32) (v5 : Int32) (v6 : Int32) (s0 : Int32) : Option jx_M :=
  (b_X6_looks_493 k120 σ v3 v4 v5 v6 (0 : Int32) s0)
set_option maxHeartbeats 4000000 in
set_option maxRecDepth 100000 in
theorem jb_X6_looks_492 (l : Launch) (G : jx_G) (hG : mm_ok G) (sz : Nat) (out : jx_M) (k120 : jx_M → Int32 → Int32 → Int32 → Int32 → Option jx_M) (h120 : ∀ (σ : jx_M) (v3 : Int32) (v4 : Int32) (v5 : Int32) (v6 : Int32), k120 σ v3 v4 v5 v6 = some out → jJ_X6_looks l G sz out 120 [(0, .ref (G.2 10)), (3, .int v3), (4, .int v4), (5, .int v5), (6, .int v6)] [] σ) (σ : jx_M) (v3 : Int32) (v4 : Int32) (v5 : Int32) (v6 : Int32) (s0 : Int32) (h : b_X6_looks_492 k120 σ v3 v4 v5 v6 s0 = some out) : jJ_X6_looks l G sz out 492 [(0, .ref (G.2 10)), (3, .int v3), (4, .int v4), (5, .int v5), (6, .int v6)] [.int s0, .ref (G.2 10)] σ := by
  unfold b_X6_looks_492 at h
  refine jx_iconst (pc := 492) (v := (0 : Int32)) (by decide) dX6_looks_492 ?_
  exact jx_sub [0, 1, 2, 3, 4] rfl (jb_X6_looks_493 l G hG sz out k120 h120 σ v3 v4 v5 v6 (0 : Int32) s0 h)
def b_X6_looks_461 (k120 : jx_M → Int32 → Int32 → Int32 → Int32 → Option jx_M) (σ : jx_M) (v3 : Int32) (v4 : Int32) (v5 : Int32) (v6 : Int32) (v7 : Int32) (v8 : Int32) (s0 : Int32) (s1 : Int32) : Option jx_M :=
  jx_lt (jx_mu σ 0 13 (s1 + s0)) (fun σ1 => if v8 = 0 then (b_X6_looks_492 k120 σ1 v3 v4 v5 v6 (σ1 0 14)) else if (-400 : Int32) < v7 then (b_X6_looks_492 k120 σ1 v3 v4 v5 v6 (σ1 0 14)) else (b_X6_looks_493 k120 σ1 v3 v4 v5 v6 ((-400 : Int32) - v7) (σ1 0 14)))
set_option maxHeartbeats 4000000 in
set_option maxRecDepth 100000 in
theorem jb_X6_looks_461 (l : Launch) (G : jx_G) (hG : mm_ok G) (sz : Nat) (out : jx_M) (k120 : jx_M → Int32 → Int32 → Int32 → Int32 → Option jx_M) (h120 : ∀ (σ : jx_M) (v3 : Int32) (v4 : Int32) (v5 : Int32) (v6 : Int32), k120 σ v3 v4 v5 v6 = some out → jJ_X6_looks l G sz out 120 [(0, .ref (G.2 10)), (3, .int v3), (4, .int v4), (5, .int v5), (6, .int v6)] [] σ) (σ : jx_M) (v3 : Int32) (v4 : Int32) (v5 : Int32) (v6 : Int32) (v7 : Int32) (v8 : Int32) (s0 : Int32) (s1 : Int32) (h : b_X6_looks_461 k120 σ v3 v4 v5 v6 v7 v8 s0 s1 = some out) : jJ_X6_looks l G sz out 461 [(0, .ref (G.2 10)), (3, .int v3), (4, .int v4), (5, .int v5), (6, .int v6), (7, .int v7), (8, .int v8)] [.int s0, .int s1, .ref (G.2 10)] σ := by
  unfold b_X6_looks_461 at h
  refine jx_iadd (pc := 461) dX6_looks_461 ?_
  obtain ⟨σ1, eσ1, h⟩ := jx_lt_o h
  refine mm_p_oiled (pc := 462) hG fl_X6_135 eσ1 dX6_looks_462 ?_
  refine jx_aload_n (pc := 465) (k0 := 0) rfl dX6_looks_465 ?_
  refine jx_dup (pc := 466) rfl dX6_looks_466 ?_
  refine mm_g_weighed (pc := 467) fl_X6_138 dX6_looks_467 ?_
  refine jx_iload (pc := 470) (i := 8) rfl dX6_looks_470 ?_
  refine jx_if_eq (pc := 472) (tgt := 492) dX6_looks_472 (by decide) (fun c2 => ?_) (fun c2 => ?_)
  · have h := jx_t c2 h
    exact jx_sub [0, 1, 2, 3, 4] rfl (jb_X6_looks_492 l G hG sz out k120 h120 σ1 v3 v4 v5 v6 (σ1 0 14) h)
  · have h := jx_f c2 h
    refine jx_iload (pc := 475) (i := 7) rfl dX6_looks_475 ?_
    refine jx_sipush (pc := 477) (v := (-400 : Int32)) (by decide) dX6_looks_477 ?_
    refine jx_icmp_gt (pc := 480) (tgt := 492) dX6_looks_480 (by decide) (fun c3 => ?_) (fun c3 => ?_)
    · have h := jx_t c3 h
      exact jx_sub [0, 1, 2, 3, 4] rfl (jb_X6_looks_492 l G hG sz out k120 h120 σ1 v3 v4 v5 v6 (σ1 0 14) h)
    · have h := jx_f c3 h
      refine jx_sipush (pc := 483) (v := (-400 : Int32)) (by decide) dX6_looks_483 ?_
      refine jx_iload (pc := 486) (i := 7) rfl dX6_looks_486 ?_
      refine jx_isub (pc := 488) dX6_looks_488 ?_
      refine jx_goto (pc := 489) (tgt := 493) dX6_looks_489 (by decide) ?_
      exact jx_sub [0, 1, 2, 3, 4] rfl (jb_X6_looks_493 l G hG sz out k120 h120 σ1 v3 v4 v5 v6 ((-400 : Int32) - v7) (σ1 0 14) h)
def b_X6_looks_460 (k120 : jx_M → Int32 → Int32 → Int32 → Int32 → Option jx_M) (σ : jx_M) (v3 : Int32) (v4 : Int32) (v5 : Int32) (v6 : Int32) (v7 : Int32) (v8 : Int32) (s0 : Int32) : Option jx_M :=
  (b_X6_looks_461 k120 σ v3 v4 v5 v6 v7 v8 (0 : Int32) s0)
set_option maxHeartbeats 4000000 in
set_option maxRecDepth 100000 in
theorem jb_X6_looks_460 (l : Launch) (G : jx_G) (hG : mm_ok G) (sz : Nat) (out : jx_M) (k120 : jx_M → Int32 → Int32 → Int32 → Int32 → Option jx_M) (h120 : ∀ (σ : jx_M) (v3 : Int32) (v4 : Int32) (v5 : Int32) (v6 : Int32), k120 σ v3 v4 v5 v6 = some out → jJ_X6_looks l G sz out 120 [(0, .ref (G.2 10)), (3, .int v3), (4, .int v4), (5, .int v5), (6, .int v6)] [] σ) (σ : jx_M) (v3 : Int32) (v4 : Int32) (v5 : Int32) (v6 : Int32) (v7 : Int32) (v8 : Int32) (s0 : Int32) (h : b_X6_looks_460 k120 σ v3 v4 v5 v6 v7 v8 s0 = some out) : jJ_X6_looks l G sz out 460 [(0, .ref (G.2 10)), (3, .int v3), (4, .int v4), (5, .int v5), (6, .int v6), (7, .int v7), (8, .int v8)] [.int s0, .ref (G.2 10)] σ := by
  unfold b_X6_looks_460 at h
  refine jx_iconst (pc := 460) (v := (0 : Int32)) (by decide) dX6_looks_460 ?_
  exact jx_sub [0, 1, 2, 3, 4, 5, 6] rfl (jb_X6_looks_461 l G hG sz out k120 h120 σ v3 v4 v5 v6 v7 v8 (0 : Int32) s0 h)
def b_X6_looks_422 (k120 : jx_M → Int32 → Int32 → Int32 → Int32 → Option jx_M) (σ : jx_M) (v3 : Int32) (v4 : Int32) (v5 : Int32) (v6 : Int32) (v7 : Int32) (v8 : Int32) (s0 : Int32) : Option jx_M :=
  jx_gd (decide (s0 = 0 ∨ s0 = 1)) (jx_lt (jx_mu σ 0 12 s0) (fun σ2 => if v8 = 0 then (b_X6_looks_460 k120 σ2 v3 v4 v5 v6 v7 v8 (σ2 0 13)) else if (-200 : Int32) < v7 then (b_X6_looks_460 k120 σ2 v3 v4 v5 v6 v7 v8 (σ2 0 13)) else if v7 ≤ (-400 : Int32) then (b_X6_looks_460 k120 σ2 v3 v4 v5 v6 v7 v8 (σ2 0 13)) else (b_X6_looks_461 k120 σ2 v3 v4 v5 v6 v7 v8 ((-200 : Int32) - v7) (σ2 0 13))))
set_option maxHeartbeats 4000000 in
set_option maxRecDepth 100000 in
theorem jb_X6_looks_422 (l : Launch) (G : jx_G) (hG : mm_ok G) (sz : Nat) (out : jx_M) (k120 : jx_M → Int32 → Int32 → Int32 → Int32 → Option jx_M) (h120 : ∀ (σ : jx_M) (v3 : Int32) (v4 : Int32) (v5 : Int32) (v6 : Int32), k120 σ v3 v4 v5 v6 = some out → jJ_X6_looks l G sz out 120 [(0, .ref (G.2 10)), (3, .int v3), (4, .int v4), (5, .int v5), (6, .int v6)] [] σ) (σ : jx_M) (v3 : Int32) (v4 : Int32) (v5 : Int32) (v6 : Int32) (v7 : Int32) (v8 : Int32) (s0 : Int32) (h : b_X6_looks_422 k120 σ v3 v4 v5 v6 v7 v8 s0 = some out) : jJ_X6_looks l G sz out 422 [(0, .ref (G.2 10)), (3, .int v3), (4, .int v4), (5, .int v5), (6, .int v6), (7, .int v7), (8, .int v8)] [.int s0, .ref (G.2 10)] σ := by
  unfold b_X6_looks_422 at h
  obtain ⟨g1, h⟩ := jx_gd_o h
  obtain ⟨σ2, eσ2, h⟩ := jx_lt_o h
  refine mm_p_isHeld (pc := 422) hG (of_decide_eq_true g1) fl_X6_132 eσ2 dX6_looks_422 ?_
  refine jx_aload_n (pc := 425) (k0 := 0) rfl dX6_looks_425 ?_
  refine jx_dup (pc := 426) rfl dX6_looks_426 ?_
  refine mm_g_oiled (pc := 427) fl_X6_135 dX6_looks_427 ?_
  refine jx_iload (pc := 430) (i := 8) rfl dX6_looks_430 ?_
  refine jx_if_eq (pc := 432) (tgt := 460) dX6_looks_432 (by decide) (fun c3 => ?_) (fun c3 => ?_)
  · have h := jx_t c3 h
    exact jx_sub [0, 1, 2, 3, 4, 5, 6] rfl (jb_X6_looks_460 l G hG sz out k120 h120 σ2 v3 v4 v5 v6 v7 v8 (σ2 0 13) h)
  · have h := jx_f c3 h
    refine jx_iload (pc := 435) (i := 7) rfl dX6_looks_435 ?_
    refine jx_sipush (pc := 437) (v := (-200 : Int32)) (by decide) dX6_looks_437 ?_
    refine jx_icmp_gt (pc := 440) (tgt := 460) dX6_looks_440 (by decide) (fun c4 => ?_) (fun c4 => ?_)
    · have h := jx_t c4 h
      exact jx_sub [0, 1, 2, 3, 4, 5, 6] rfl (jb_X6_looks_460 l G hG sz out k120 h120 σ2 v3 v4 v5 v6 v7 v8 (σ2 0 13) h)
    · have h := jx_f c4 h
      refine jx_iload (pc := 443) (i := 7) rfl dX6_looks_443 ?_
      refine jx_sipush (pc := 445) (v := (-400 : Int32)) (by decide) dX6_looks_445 ?_
      refine jx_icmp_le (pc := 448) (tgt := 460) dX6_looks_448 (by decide) (fun c5 => ?_) (fun c5 => ?_)
      · have h := jx_t c5 h
        exact jx_sub [0, 1, 2, 3, 4, 5, 6] rfl (jb_X6_looks_460 l G hG sz out k120 h120 σ2 v3 v4 v5 v6 v7 v8 (σ2 0 13) h)
      · have h := jx_f c5 h
        refine jx_sipush (pc := 451) (v := (-200 : Int32)) (by decide) dX6_looks_451 ?_
        refine jx_iload (pc := 454) (i := 7) rfl dX6_looks_454 ?_
        refine jx_isub (pc := 456) dX6_looks_456 ?_
        refine jx_goto (pc := 457) (tgt := 461) dX6_looks_457 (by decide) ?_
        exact jx_sub [0, 1, 2, 3, 4, 5, 6] rfl (jb_X6_looks_461 l G hG sz out k120 h120 σ2 v3 v4 v5 v6 v7 v8 ((-200 : Int32) - v7) (σ2 0 13) h)
def b_X6_looks_417 (k120 : jx_M → Int32 → Int32 → Int32 → Int32 → Option jx_M) (σ : jx_M) (v3 : Int32) (v4 : Int32) (v5 : Int32) (v6 : Int32) (v7 : Int32) (v8 : Int32) : Option jx_M :=
  (b_X6_looks_422 k120 σ v3 v4 v5 v6 v7 v8 (1 : Int32))
set_option maxHeartbeats 4000000 in
set_option maxRecDepth 100000 in
theorem jb_X6_looks_417 (l : Launch) (G : jx_G) (hG : mm_ok G) (sz : Nat) (out : jx_M) (k120 : jx_M → Int32 → Int32 → Int32 → Int32 → Option jx_M) (h120 : ∀ (σ : jx_M) (v3 : Int32) (v4 : Int32) (v5 : Int32) (v6 : Int32), k120 σ v3 v4 v5 v6 = some out → jJ_X6_looks l G sz out 120 [(0, .ref (G.2 10)), (3, .int v3), (4, .int v4), (5, .int v5), (6, .int v6)] [] σ) (σ : jx_M) (v3 : Int32) (v4 : Int32) (v5 : Int32) (v6 : Int32) (v7 : Int32) (v8 : Int32) (h : b_X6_looks_417 k120 σ v3 v4 v5 v6 v7 v8 = some out) : jJ_X6_looks l G sz out 417 [(0, .ref (G.2 10)), (3, .int v3), (4, .int v4), (5, .int v5), (6, .int v6), (7, .int v7), (8, .int v8)] [.ref (G.2 10)] σ := by
  unfold b_X6_looks_417 at h
  refine jx_iconst (pc := 417) (v := (1 : Int32)) (by decide) dX6_looks_417 ?_
  refine jx_goto (pc := 418) (tgt := 422) dX6_looks_418 (by decide) ?_
  exact jx_sub [0, 1, 2, 3, 4, 5, 6] rfl (jb_X6_looks_422 l G hG sz out k120 h120 σ v3 v4 v5 v6 v7 v8 (1 : Int32) h)
def b_X6_looks_421 (k120 : jx_M → Int32 → Int32 → Int32 → Int32 → Option jx_M) (σ : jx_M) (v3 : Int32) (v4 : Int32) (v5 : Int32) (v6 : Int32) (v7 : Int32) (v8 : Int32) : Option jx_M :=
  (b_X6_looks_422 k120 σ v3 v4 v5 v6 v7 v8 (0 : Int32))
set_option maxHeartbeats 4000000 in
set_option maxRecDepth 100000 in
theorem jb_X6_looks_421 (l : Launch) (G : jx_G) (hG : mm_ok G) (sz : Nat) (out : jx_M) (k120 : jx_M → Int32 → Int32 → Int32 → Int32 → Option jx_M) (h120 : ∀ (σ : jx_M) (v3 : Int32) (v4 : Int32) (v5 : Int32) (v6 : Int32), k120 σ v3 v4 v5 v6 = some out → jJ_X6_looks l G sz out 120 [(0, .ref (G.2 10)), (3, .int v3), (4, .int v4), (5, .int v5), (6, .int v6)] [] σ) (σ : jx_M) (v3 : Int32) (v4 : Int32) (v5 : Int32) (v6 : Int32) (v7 : Int32) (v8 : Int32) (h : b_X6_looks_421 k120 σ v3 v4 v5 v6 v7 v8 = some out) : jJ_X6_looks l G sz out 421 [(0, .ref (G.2 10)), (3, .int v3), (4, .int v4), (5, .int v5), (6, .int v6), (7, .int v7), (8, .int v8)] [.ref (G.2 10)] σ := by
  unfold b_X6_looks_421 at h
  refine jx_iconst (pc := 421) (v := (0 : Int32)) (by decide) dX6_looks_421 ?_
  exact jx_sub [0, 1, 2, 3, 4, 5, 6] rfl (jb_X6_looks_422 l G hG sz out k120 h120 σ v3 v4 v5 v6 v7 v8 (0 : Int32) h)
def b_X6_looks_394 (k120 : jx_M → Int32 → Int32 → Int32 → Int32 → Option jx_M) (σ : jx_M) (v3 : Int32) (v4 : Int32) (v5 : Int32) (v6 : Int32) (v7 : Int32) (v8 : Int32) (s0 : Int32) : Option jx_M :=
  jx_gd (decide (s0 = 0 ∨ s0 = 1)) (jx_lt (jx_mu σ 0 11 s0) (fun σ2 => if (σ2 0 12) = 0 then if v8 = 0 then (b_X6_looks_421 k120 σ2 v3 v4 v5 v6 v7 v8) else if v7 = (-20 : Int32) then (b_X6_looks_417 k120 σ2 v3 v4 v5 v6 v7 v8) else (b_X6_looks_421 k120 σ2 v3 v4 v5 v6 v7 v8) else (b_X6_looks_417 k120 σ2 v3 v4 v5 v6 v7 v8)))
set_option maxHeartbeats 4000000 in
set_option maxRecDepth 100000 in
theorem jb_X6_looks_394 (l : Launch) (G : jx_G) (hG : mm_ok G) (sz : Nat) (out : jx_M) (k120 : jx_M → Int32 → Int32 → Int32 → Int32 → Option jx_M) (h120 : ∀ (σ : jx_M) (v3 : Int32) (v4 : Int32) (v5 : Int32) (v6 : Int32), k120 σ v3 v4 v5 v6 = some out → jJ_X6_looks l G sz out 120 [(0, .ref (G.2 10)), (3, .int v3), (4, .int v4), (5, .int v5), (6, .int v6)] [] σ) (σ : jx_M) (v3 : Int32) (v4 : Int32) (v5 : Int32) (v6 : Int32) (v7 : Int32) (v8 : Int32) (s0 : Int32) (h : b_X6_looks_394 k120 σ v3 v4 v5 v6 v7 v8 s0 = some out) : jJ_X6_looks l G sz out 394 [(0, .ref (G.2 10)), (3, .int v3), (4, .int v4), (5, .int v5), (6, .int v6), (7, .int v7), (8, .int v8)] [.int s0, .ref (G.2 10)] σ := by
  unfold b_X6_looks_394 at h
  obtain ⟨g1, h⟩ := jx_gd_o h
  obtain ⟨σ2, eσ2, h⟩ := jx_lt_o h
  refine mm_p_isSide (pc := 394) hG (of_decide_eq_true g1) fl_X6_129 eσ2 dX6_looks_394 ?_
  refine jx_aload_n (pc := 397) (k0 := 0) rfl dX6_looks_397 ?_
  refine jx_aload_n (pc := 398) (k0 := 0) rfl dX6_looks_398 ?_
  refine mm_g_isHeld (pc := 399) fl_X6_132 dX6_looks_399 ?_
  refine jx_if_ne (pc := 402) (tgt := 417) dX6_looks_402 (by decide) (fun c3 => ?_) (fun c3 => ?_)
  · have h := jx_f c3 h
    exact jx_sub [0, 1, 2, 3, 4, 5, 6] rfl (jb_X6_looks_417 l G hG sz out k120 h120 σ2 v3 v4 v5 v6 v7 v8 h)
  · have h := jx_t c3 h
    refine jx_iload (pc := 405) (i := 8) rfl dX6_looks_405 ?_
    refine jx_if_eq (pc := 407) (tgt := 421) dX6_looks_407 (by decide) (fun c4 => ?_) (fun c4 => ?_)
    · have h := jx_t c4 h
      exact jx_sub [0, 1, 2, 3, 4, 5, 6] rfl (jb_X6_looks_421 l G hG sz out k120 h120 σ2 v3 v4 v5 v6 v7 v8 h)
    · have h := jx_f c4 h
      refine jx_iload (pc := 410) (i := 7) rfl dX6_looks_410 ?_
      refine jx_bipush (pc := 412) (v := (-20 : Int32)) (by decide) dX6_looks_412 ?_
      refine jx_icmp_ne (pc := 414) (tgt := 421) dX6_looks_414 (by decide) (fun c5 => ?_) (fun c5 => ?_)
      · have h := jx_f c5 h
        exact jx_sub [0, 1, 2, 3, 4, 5, 6] rfl (jb_X6_looks_421 l G hG sz out k120 h120 σ2 v3 v4 v5 v6 v7 v8 h)
      · have h := jx_t c5 h
        exact jx_sub [0, 1, 2, 3, 4, 5, 6] rfl (jb_X6_looks_417 l G hG sz out k120 h120 σ2 v3 v4 v5 v6 v7 v8 h)
def b_X6_looks_389 (k120 : jx_M → Int32 → Int32 → Int32 → Int32 → Option jx_M) (σ : jx_M) (v3 : Int32) (v4 : Int32) (v5 : Int32) (v6 : Int32) (v7 : Int32) (v8 : Int32) : Option jx_M :=
  (b_X6_looks_394 k120 σ v3 v4 v5 v6 v7 v8 (1 : Int32))
set_option maxHeartbeats 4000000 in
set_option maxRecDepth 100000 in
theorem jb_X6_looks_389 (l : Launch) (G : jx_G) (hG : mm_ok G) (sz : Nat) (out : jx_M) (k120 : jx_M → Int32 → Int32 → Int32 → Int32 → Option jx_M) (h120 : ∀ (σ : jx_M) (v3 : Int32) (v4 : Int32) (v5 : Int32) (v6 : Int32), k120 σ v3 v4 v5 v6 = some out → jJ_X6_looks l G sz out 120 [(0, .ref (G.2 10)), (3, .int v3), (4, .int v4), (5, .int v5), (6, .int v6)] [] σ) (σ : jx_M) (v3 : Int32) (v4 : Int32) (v5 : Int32) (v6 : Int32) (v7 : Int32) (v8 : Int32) (h : b_X6_looks_389 k120 σ v3 v4 v5 v6 v7 v8 = some out) : jJ_X6_looks l G sz out 389 [(0, .ref (G.2 10)), (3, .int v3), (4, .int v4), (5, .int v5), (6, .int v6), (7, .int v7), (8, .int v8)] [.ref (G.2 10)] σ := by
  unfold b_X6_looks_389 at h
  refine jx_iconst (pc := 389) (v := (1 : Int32)) (by decide) dX6_looks_389 ?_
  refine jx_goto (pc := 390) (tgt := 394) dX6_looks_390 (by decide) ?_
  exact jx_sub [0, 1, 2, 3, 4, 5, 6] rfl (jb_X6_looks_394 l G hG sz out k120 h120 σ v3 v4 v5 v6 v7 v8 (1 : Int32) h)
def b_X6_looks_393 (k120 : jx_M → Int32 → Int32 → Int32 → Int32 → Option jx_M) (σ : jx_M) (v3 : Int32) (v4 : Int32) (v5 : Int32) (v6 : Int32) (v7 : Int32) (v8 : Int32) : Option jx_M :=
  (b_X6_looks_394 k120 σ v3 v4 v5 v6 v7 v8 (0 : Int32))
set_option maxHeartbeats 4000000 in
set_option maxRecDepth 100000 in
theorem jb_X6_looks_393 (l : Launch) (G : jx_G) (hG : mm_ok G) (sz : Nat) (out : jx_M) (k120 : jx_M → Int32 → Int32 → Int32 → Int32 → Option jx_M) (h120 : ∀ (σ : jx_M) (v3 : Int32) (v4 : Int32) (v5 : Int32) (v6 : Int32), k120 σ v3 v4 v5 v6 = some out → jJ_X6_looks l G sz out 120 [(0, .ref (G.2 10)), (3, .int v3), (4, .int v4), (5, .int v5), (6, .int v6)] [] σ) (σ : jx_M) (v3 : Int32) (v4 : Int32) (v5 : Int32) (v6 : Int32) (v7 : Int32) (v8 : Int32) (h : b_X6_looks_393 k120 σ v3 v4 v5 v6 v7 v8 = some out) : jJ_X6_looks l G sz out 393 [(0, .ref (G.2 10)), (3, .int v3), (4, .int v4), (5, .int v5), (6, .int v6), (7, .int v7), (8, .int v8)] [.ref (G.2 10)] σ := by
  unfold b_X6_looks_393 at h
  refine jx_iconst (pc := 393) (v := (0 : Int32)) (by decide) dX6_looks_393 ?_
  exact jx_sub [0, 1, 2, 3, 4, 5, 6] rfl (jb_X6_looks_394 l G hG sz out k120 h120 σ v3 v4 v5 v6 v7 v8 (0 : Int32) h)
def g_X6_looks_120 (k120 : jx_M → Int32 → Int32 → Int32 → Int32 → Option jx_M) (σ : jx_M) (v3 : Int32) (v4 : Int32) (v5 : Int32) (v6 : Int32) : Option jx_M :=
  if (v4 + v3) ≤ v6 then some σ else jx_gd (jx_in v6 920) (jx_lt ((σ 1 v6.toNatClampNeg)) (fun x3 => if x3 < 0 then if x3 = (-1 : Int32) then jx_gd (jx_in (v5 - (1 : Int32)) 64) (if (σ 4 (v5 - (1 : Int32)).toNatClampNeg) = 0 then (b_X6_looks_268 k120 σ v3 v4 v5 v6 (1 : Int32) (v5 - (1 : Int32))) else (b_X6_looks_268 k120 σ v3 v4 v5 v6 (0 : Int32) (v5 - (1 : Int32)))) else if x3 ≤ (-10 : Int32) then jx_lt ((σ 4 0)) (fun x7 => if (σ 0 11) = 0 then if x7 = 0 then (b_X6_looks_393 k120 σ v3 v4 (0 : Int32) v6 x3 x7) else if x3 = (-10 : Int32) then (b_X6_looks_389 k120 σ v3 v4 (0 : Int32) v6 x3 x7) else (b_X6_looks_393 k120 σ v3 v4 (0 : Int32) v6 x3 x7) else (b_X6_looks_389 k120 σ v3 v4 (0 : Int32) v6 x3 x7)) else jx_lt (v5 + (-1 : Int32)) (fun x11 => if x3 = (-2 : Int32) then jx_gd (jx_in (x11 - (1 : Int32)) 64) (if (σ 4 (x11 - (1 : Int32)).toNatClampNeg) = 0 then (b_X6_looks_323 k120 σ v3 v4 x11 v6 (x11 - (1 : Int32))) else jx_gd (jx_in x11 64) (if (σ 4 x11.toNatClampNeg) = 0 then (b_X6_looks_323 k120 σ v3 v4 x11 v6 (x11 - (1 : Int32))) else (b_X6_looks_354 k120 σ v3 v4 x11 v6 (1 : Int32) (x11 - (1 : Int32))))) else jx_gd (jx_in (x11 - (1 : Int32)) 64) (if (σ 4 (x11 - (1 : Int32)).toNatClampNeg) = 0 then jx_gd (jx_in x11 64) (if (σ 4 x11.toNatClampNeg) = 0 then (b_X6_looks_354 k120 σ v3 v4 x11 v6 (0 : Int32) (x11 - (1 : Int32))) else (b_X6_looks_349 k120 σ v3 v4 x11 v6 (x11 - (1 : Int32)))) else (b_X6_looks_349 k120 σ v3 v4 x11 v6 (x11 - (1 : Int32))))) else jx_gd (jx_in (x3 - x3 / (8 : Int32) * (8 : Int32)) 4) (jx_lt ((σ 3 (x3 - x3 / (8 : Int32) * (8 : Int32)).toNatClampNeg)) (fun x24 => jx_lt (((x3 / (8 : Int32)) - (x3 / (8 : Int32)) / (4 : Int32) * (4 : Int32))) (fun x25 => jx_lt ((x3 / (32 : Int32))) (fun x26 => if x25 = 0 then if x26 ≤ x24 then (b_X6_looks_230 k120 σ v3 v4 v5 v6 (0 : Int32) v5) else (b_X6_looks_230 k120 σ v3 v4 v5 v6 (1 : Int32) v5) else if x25 = (1 : Int32) then if x24 = x26 then (b_X6_looks_230 k120 σ v3 v4 v5 v6 (1 : Int32) v5) else (b_X6_looks_230 k120 σ v3 v4 v5 v6 (0 : Int32) v5) else if x24 ≤ x26 then (b_X6_looks_230 k120 σ v3 v4 v5 v6 (0 : Int32) v5) else (b_X6_looks_230 k120 σ v3 v4 v5 v6 (1 : Int32) v5)))))))
set_option maxHeartbeats 4000000 in
set_option maxRecDepth 100000 in
theorem jg_X6_looks_120 (l : Launch) (G : jx_G) (hG : mm_ok G) (sz : Nat) (out : jx_M) (k120 : jx_M → Int32 → Int32 → Int32 → Int32 → Option jx_M) (h120 : ∀ (σ : jx_M) (v3 : Int32) (v4 : Int32) (v5 : Int32) (v6 : Int32), k120 σ v3 v4 v5 v6 = some out → jJ_X6_looks l G sz out 120 [(0, .ref (G.2 10)), (3, .int v3), (4, .int v4), (5, .int v5), (6, .int v6)] [] σ) (σ : jx_M) (v3 : Int32) (v4 : Int32) (v5 : Int32) (v6 : Int32) (h : g_X6_looks_120 k120 σ v3 v4 v5 v6 = some out) : jJ_X6_looks l G sz out 120 [(0, .ref (G.2 10)), (3, .int v3), (4, .int v4), (5, .int v5), (6, .int v6)] [] σ := by
  unfold g_X6_looks_120 at h
  refine jx_iload (pc := 120) (i := 6) rfl dX6_looks_120 ?_
  refine jx_iload (pc := 122) (i := 4) rfl dX6_looks_122 ?_
  refine jx_iload_n (pc := 124) (k0 := 3) rfl dX6_looks_124 ?_
  refine jx_iadd (pc := 125) dX6_looks_125 ?_
  refine jx_icmp_ge (pc := 126) (tgt := 503) dX6_looks_126 (by decide) (fun c1 => ?_) (fun c1 => ?_)
  · have h := jx_t c1 h
    have h := Option.some.inj h
    subst h
    exact jx_vret (pc := 503) dX6_looks_503
  · have h := jx_f c1 h
    refine jx_aload_n (pc := 129) (k0 := 0) rfl dX6_looks_129 ?_
    refine mm_g_s (pc := 130) fl_X6_9 dX6_looks_130 ?_
    refine jx_iload (pc := 133) (i := 6) rfl dX6_looks_133 ?_
    obtain ⟨g2, h⟩ := jx_gd_o h
    refine mm_l_s (pc := 135) (jx_in_o g2) rfl dX6_looks_135 ?_
    obtain ⟨x3, ex3, h⟩ := jx_lt_o h
    refine jx_istore (pc := 136) (i := 7) ex3 (by decide) (lv' := [(7, .int x3), (0, .ref (G.2 10)), (3, .int v3), (4, .int v4), (5, .int v5), (6, .int v6)]) rfl dX6_looks_136 ?_
    refine jx_iload (pc := 138) (i := 7) rfl dX6_looks_138 ?_
    refine jx_if_lt (pc := 140) (tgt := 237) dX6_looks_140 (by decide) (fun c4 => ?_) (fun c4 => ?_)
    · have h := jx_t c4 h
      refine jx_iload (pc := 237) (i := 7) rfl dX6_looks_237 ?_
      refine jx_iconst (pc := 239) (v := (-1 : Int32)) (by decide) dX6_looks_239 ?_
      refine jx_icmp_ne (pc := 240) (tgt := 272) dX6_looks_240 (by decide) (fun c5 => ?_) (fun c5 => ?_)
      · have h := jx_f c5 h
        refine jx_iload (pc := 272) (i := 7) rfl dX6_looks_272 ?_
        refine jx_bipush (pc := 274) (v := (-10 : Int32)) (by decide) dX6_looks_274 ?_
        refine jx_icmp_le (pc := 276) (tgt := 358) dX6_looks_276 (by decide) (fun c6 => ?_) (fun c6 => ?_)
        · have h := jx_t c6 h
          refine jx_iconst (pc := 358) (v := (0 : Int32)) (by decide) dX6_looks_358 ?_
          refine jx_istore (pc := 359) (i := 5) rfl (by decide) (lv' := [(5, .int (0 : Int32)), (7, .int x3), (0, .ref (G.2 10)), (3, .int v3), (4, .int v4), (6, .int v6)]) rfl dX6_looks_359 ?_
          refine jx_aload_n (pc := 361) (k0 := 0) rfl dX6_looks_361 ?_
          refine mm_g_truths (pc := 362) fl_X6_21 dX6_looks_362 ?_
          refine jx_iconst (pc := 365) (v := (0 : Int32)) (by decide) dX6_looks_365 ?_
          refine mm_l_truths (pc := 366) (j := 0) (jx_in_o (by decide)) (by decide) dX6_looks_366 ?_
          obtain ⟨x7, ex7, h⟩ := jx_lt_o h
          refine jx_istore (pc := 367) (i := 8) ex7 (by decide) (lv' := [(8, .int x7), (5, .int (0 : Int32)), (7, .int x3), (0, .ref (G.2 10)), (3, .int v3), (4, .int v4), (6, .int v6)]) rfl dX6_looks_367 ?_
          refine jx_aload_n (pc := 369) (k0 := 0) rfl dX6_looks_369 ?_
          refine jx_aload_n (pc := 370) (k0 := 0) rfl dX6_looks_370 ?_
          refine mm_g_isSide (pc := 371) fl_X6_129 dX6_looks_371 ?_
          refine jx_if_ne (pc := 374) (tgt := 389) dX6_looks_374 (by decide) (fun c8 => ?_) (fun c8 => ?_)
          · have h := jx_f c8 h
            exact jx_sub [3, 4, 5, 1, 6, 2, 0] rfl (jb_X6_looks_389 l G hG sz out k120 h120 σ v3 v4 (0 : Int32) v6 x3 x7 h)
          · have h := jx_t c8 h
            refine jx_iload (pc := 377) (i := 8) rfl dX6_looks_377 ?_
            refine jx_if_eq (pc := 379) (tgt := 393) dX6_looks_379 (by decide) (fun c9 => ?_) (fun c9 => ?_)
            · have h := jx_t c9 h
              exact jx_sub [3, 4, 5, 1, 6, 2, 0] rfl (jb_X6_looks_393 l G hG sz out k120 h120 σ v3 v4 (0 : Int32) v6 x3 x7 h)
            · have h := jx_f c9 h
              refine jx_iload (pc := 382) (i := 7) rfl dX6_looks_382 ?_
              refine jx_bipush (pc := 384) (v := (-10 : Int32)) (by decide) dX6_looks_384 ?_
              refine jx_icmp_ne (pc := 386) (tgt := 393) dX6_looks_386 (by decide) (fun c10 => ?_) (fun c10 => ?_)
              · have h := jx_f c10 h
                exact jx_sub [3, 4, 5, 1, 6, 2, 0] rfl (jb_X6_looks_393 l G hG sz out k120 h120 σ v3 v4 (0 : Int32) v6 x3 x7 h)
              · have h := jx_t c10 h
                exact jx_sub [3, 4, 5, 1, 6, 2, 0] rfl (jb_X6_looks_389 l G hG sz out k120 h120 σ v3 v4 (0 : Int32) v6 x3 x7 h)
        · have h := jx_f c6 h
          obtain ⟨x11, ex11, h⟩ := jx_lt_o h
          refine jx_iinc (pc := 279) (i := 5) (v := v5) rfl ex11 (n := -1) (by decide) (by decide) (lv' := [(5, .int x11), (7, .int x3), (0, .ref (G.2 10)), (3, .int v3), (4, .int v4), (6, .int v6)]) rfl dX6_looks_279 ?_
          refine jx_aload_n (pc := 282) (k0 := 0) rfl dX6_looks_282 ?_
          refine mm_g_truths (pc := 283) fl_X6_21 dX6_looks_283 ?_
          refine jx_iload (pc := 286) (i := 5) rfl dX6_looks_286 ?_
          refine jx_iconst (pc := 288) (v := (1 : Int32)) (by decide) dX6_looks_288 ?_
          refine jx_isub (pc := 289) dX6_looks_289 ?_
          refine jx_iload (pc := 290) (i := 7) rfl dX6_looks_290 ?_
          refine jx_bipush (pc := 292) (v := (-2 : Int32)) (by decide) dX6_looks_292 ?_
          refine jx_icmp_ne (pc := 294) (tgt := 327) dX6_looks_294 (by decide) (fun c12 => ?_) (fun c12 => ?_)
          · have h := jx_f c12 h
            refine jx_aload_n (pc := 327) (k0 := 0) rfl dX6_looks_327 ?_
            refine mm_g_truths (pc := 328) fl_X6_21 dX6_looks_328 ?_
            refine jx_iload (pc := 331) (i := 5) rfl dX6_looks_331 ?_
            refine jx_iconst (pc := 333) (v := (1 : Int32)) (by decide) dX6_looks_333 ?_
            refine jx_isub (pc := 334) dX6_looks_334 ?_
            obtain ⟨g13, h⟩ := jx_gd_o h
            refine mm_l_truths (pc := 335) (jx_in_o g13) rfl dX6_looks_335 ?_
            refine jx_if_ne (pc := 336) (tgt := 349) dX6_looks_336 (by decide) (fun c14 => ?_) (fun c14 => ?_)
            · have h := jx_f c14 h
              exact jx_sub [2, 3, 4, 0, 5] rfl (jb_X6_looks_349 l G hG sz out k120 h120 σ v3 v4 x11 v6 (x11 - (1 : Int32)) h)
            · have h := jx_t c14 h
              refine jx_aload_n (pc := 339) (k0 := 0) rfl dX6_looks_339 ?_
              refine mm_g_truths (pc := 340) fl_X6_21 dX6_looks_340 ?_
              refine jx_iload (pc := 343) (i := 5) rfl dX6_looks_343 ?_
              obtain ⟨g15, h⟩ := jx_gd_o h
              refine mm_l_truths (pc := 345) (jx_in_o g15) rfl dX6_looks_345 ?_
              refine jx_if_eq (pc := 346) (tgt := 353) dX6_looks_346 (by decide) (fun c16 => ?_) (fun c16 => ?_)
              · have h := jx_t c16 h
                refine jx_iconst (pc := 353) (v := (0 : Int32)) (by decide) dX6_looks_353 ?_
                exact jx_sub [2, 3, 4, 0, 5] rfl (jb_X6_looks_354 l G hG sz out k120 h120 σ v3 v4 x11 v6 (0 : Int32) (x11 - (1 : Int32)) h)
              · have h := jx_f c16 h
                exact jx_sub [2, 3, 4, 0, 5] rfl (jb_X6_looks_349 l G hG sz out k120 h120 σ v3 v4 x11 v6 (x11 - (1 : Int32)) h)
          · have h := jx_t c12 h
            refine jx_aload_n (pc := 297) (k0 := 0) rfl dX6_looks_297 ?_
            refine mm_g_truths (pc := 298) fl_X6_21 dX6_looks_298 ?_
            refine jx_iload (pc := 301) (i := 5) rfl dX6_looks_301 ?_
            refine jx_iconst (pc := 303) (v := (1 : Int32)) (by decide) dX6_looks_303 ?_
            refine jx_isub (pc := 304) dX6_looks_304 ?_
            obtain ⟨g17, h⟩ := jx_gd_o h
            refine mm_l_truths (pc := 305) (jx_in_o g17) rfl dX6_looks_305 ?_
            refine jx_if_eq (pc := 306) (tgt := 323) dX6_looks_306 (by decide) (fun c18 => ?_) (fun c18 => ?_)
            · have h := jx_t c18 h
              exact jx_sub [2, 3, 4, 0, 5] rfl (jb_X6_looks_323 l G hG sz out k120 h120 σ v3 v4 x11 v6 (x11 - (1 : Int32)) h)
            · have h := jx_f c18 h
              refine jx_aload_n (pc := 309) (k0 := 0) rfl dX6_looks_309 ?_
              refine mm_g_truths (pc := 310) fl_X6_21 dX6_looks_310 ?_
              refine jx_iload (pc := 313) (i := 5) rfl dX6_looks_313 ?_
              obtain ⟨g19, h⟩ := jx_gd_o h
              refine mm_l_truths (pc := 315) (jx_in_o g19) rfl dX6_looks_315 ?_
              refine jx_if_eq (pc := 316) (tgt := 323) dX6_looks_316 (by decide) (fun c20 => ?_) (fun c20 => ?_)
              · have h := jx_t c20 h
                exact jx_sub [2, 3, 4, 0, 5] rfl (jb_X6_looks_323 l G hG sz out k120 h120 σ v3 v4 x11 v6 (x11 - (1 : Int32)) h)
              · have h := jx_f c20 h
                refine jx_iconst (pc := 319) (v := (1 : Int32)) (by decide) dX6_looks_319 ?_
                refine jx_goto (pc := 320) (tgt := 354) dX6_looks_320 (by decide) ?_
                exact jx_sub [2, 3, 4, 0, 5] rfl (jb_X6_looks_354 l G hG sz out k120 h120 σ v3 v4 x11 v6 (1 : Int32) (x11 - (1 : Int32)) h)
      · have h := jx_t c5 h
        refine jx_aload_n (pc := 243) (k0 := 0) rfl dX6_looks_243 ?_
        refine mm_g_truths (pc := 244) fl_X6_21 dX6_looks_244 ?_
        refine jx_iload (pc := 247) (i := 5) rfl dX6_looks_247 ?_
        refine jx_iconst (pc := 249) (v := (1 : Int32)) (by decide) dX6_looks_249 ?_
        refine jx_isub (pc := 250) dX6_looks_250 ?_
        refine jx_aload_n (pc := 251) (k0 := 0) rfl dX6_looks_251 ?_
        refine mm_g_truths (pc := 252) fl_X6_21 dX6_looks_252 ?_
        refine jx_iload (pc := 255) (i := 5) rfl dX6_looks_255 ?_
        refine jx_iconst (pc := 257) (v := (1 : Int32)) (by decide) dX6_looks_257 ?_
        refine jx_isub (pc := 258) dX6_looks_258 ?_
        obtain ⟨g21, h⟩ := jx_gd_o h
        refine mm_l_truths (pc := 259) (jx_in_o g21) rfl dX6_looks_259 ?_
        refine jx_if_ne (pc := 260) (tgt := 267) dX6_looks_260 (by decide) (fun c22 => ?_) (fun c22 => ?_)
        · have h := jx_f c22 h
          refine jx_iconst (pc := 267) (v := (0 : Int32)) (by decide) dX6_looks_267 ?_
          exact jx_sub [1, 2, 3, 4, 5] rfl (jb_X6_looks_268 l G hG sz out k120 h120 σ v3 v4 v5 v6 (0 : Int32) (v5 - (1 : Int32)) h)
        · have h := jx_t c22 h
          refine jx_iconst (pc := 263) (v := (1 : Int32)) (by decide) dX6_looks_263 ?_
          refine jx_goto (pc := 264) (tgt := 268) dX6_looks_264 (by decide) ?_
          exact jx_sub [1, 2, 3, 4, 5] rfl (jb_X6_looks_268 l G hG sz out k120 h120 σ v3 v4 v5 v6 (1 : Int32) (v5 - (1 : Int32)) h)
    · have h := jx_f c4 h
      refine jx_aload_n (pc := 143) (k0 := 0) rfl dX6_looks_143 ?_
      refine mm_g_by (pc := 144) fl_X6_18 dX6_looks_144 ?_
      refine jx_iload (pc := 147) (i := 7) rfl dX6_looks_147 ?_
      refine jx_bipush (pc := 149) (v := (8 : Int32)) (by decide) dX6_looks_149 ?_
      refine jx_irem (pc := 151) (by decide) dX6_looks_151 ?_
      obtain ⟨g23, h⟩ := jx_gd_o h
      refine mm_l_by (pc := 152) (jx_in_o g23) rfl dX6_looks_152 ?_
      obtain ⟨x24, ex24, h⟩ := jx_lt_o h
      refine jx_istore (pc := 153) (i := 8) ex24 (by decide) (lv' := [(8, .int x24), (7, .int x3), (0, .ref (G.2 10)), (3, .int v3), (4, .int v4), (5, .int v5), (6, .int v6)]) rfl dX6_looks_153 ?_
      refine jx_iload (pc := 155) (i := 7) rfl dX6_looks_155 ?_
      refine jx_bipush (pc := 157) (v := (8 : Int32)) (by decide) dX6_looks_157 ?_
      refine jx_idiv (pc := 159) (by decide) dX6_looks_159 ?_
      refine jx_iconst (pc := 160) (v := (4 : Int32)) (by decide) dX6_looks_160 ?_
      refine jx_irem (pc := 161) (by decide) dX6_looks_161 ?_
      obtain ⟨x25, ex25, h⟩ := jx_lt_o h
      refine jx_istore (pc := 162) (i := 9) ex25 (by decide) (lv' := [(9, .int x25), (8, .int x24), (7, .int x3), (0, .ref (G.2 10)), (3, .int v3), (4, .int v4), (5, .int v5), (6, .int v6)]) rfl dX6_looks_162 ?_
      refine jx_iload (pc := 164) (i := 7) rfl dX6_looks_164 ?_
      refine jx_bipush (pc := 166) (v := (32 : Int32)) (by decide) dX6_looks_166 ?_
      refine jx_idiv (pc := 168) (by decide) dX6_looks_168 ?_
      obtain ⟨x26, ex26, h⟩ := jx_lt_o h
      refine jx_istore (pc := 169) (i := 10) ex26 (by decide) (lv' := [(10, .int x26), (9, .int x25), (8, .int x24), (7, .int x3), (0, .ref (G.2 10)), (3, .int v3), (4, .int v4), (5, .int v5), (6, .int v6)]) rfl dX6_looks_169 ?_
      refine jx_aload_n (pc := 171) (k0 := 0) rfl dX6_looks_171 ?_
      refine mm_g_truths (pc := 172) fl_X6_21 dX6_looks_172 ?_
      refine jx_iload (pc := 175) (i := 5) rfl dX6_looks_175 ?_
      refine jx_iload (pc := 177) (i := 9) rfl dX6_looks_177 ?_
      refine jx_if_ne (pc := 179) (tgt := 197) dX6_looks_179 (by decide) (fun c27 => ?_) (fun c27 => ?_)
      · have h := jx_f c27 h
        refine jx_iload (pc := 197) (i := 9) rfl dX6_looks_197 ?_
        refine jx_iconst (pc := 199) (v := (1 : Int32)) (by decide) dX6_looks_199 ?_
        refine jx_icmp_ne (pc := 200) (tgt := 218) dX6_looks_200 (by decide) (fun c28 => ?_) (fun c28 => ?_)
        · have h := jx_f c28 h
          refine jx_iload (pc := 218) (i := 8) rfl dX6_looks_218 ?_
          refine jx_iload (pc := 220) (i := 10) rfl dX6_looks_220 ?_
          refine jx_icmp_le (pc := 222) (tgt := 229) dX6_looks_222 (by decide) (fun c29 => ?_) (fun c29 => ?_)
          · have h := jx_t c29 h
            refine jx_iconst (pc := 229) (v := (0 : Int32)) (by decide) dX6_looks_229 ?_
            exact jx_sub [4, 5, 6, 7, 8] rfl (jb_X6_looks_230 l G hG sz out k120 h120 σ v3 v4 v5 v6 (0 : Int32) v5 h)
          · have h := jx_f c29 h
            refine jx_iconst (pc := 225) (v := (1 : Int32)) (by decide) dX6_looks_225 ?_
            refine jx_goto (pc := 226) (tgt := 230) dX6_looks_226 (by decide) ?_
            exact jx_sub [4, 5, 6, 7, 8] rfl (jb_X6_looks_230 l G hG sz out k120 h120 σ v3 v4 v5 v6 (1 : Int32) v5 h)
        · have h := jx_t c28 h
          refine jx_iload (pc := 203) (i := 8) rfl dX6_looks_203 ?_
          refine jx_iload (pc := 205) (i := 10) rfl dX6_looks_205 ?_
          refine jx_icmp_ne (pc := 207) (tgt := 214) dX6_looks_207 (by decide) (fun c30 => ?_) (fun c30 => ?_)
          · have h := jx_f c30 h
            refine jx_iconst (pc := 214) (v := (0 : Int32)) (by decide) dX6_looks_214 ?_
            refine jx_goto (pc := 215) (tgt := 230) dX6_looks_215 (by decide) ?_
            exact jx_sub [4, 5, 6, 7, 8] rfl (jb_X6_looks_230 l G hG sz out k120 h120 σ v3 v4 v5 v6 (0 : Int32) v5 h)
          · have h := jx_t c30 h
            refine jx_iconst (pc := 210) (v := (1 : Int32)) (by decide) dX6_looks_210 ?_
            refine jx_goto (pc := 211) (tgt := 230) dX6_looks_211 (by decide) ?_
            exact jx_sub [4, 5, 6, 7, 8] rfl (jb_X6_looks_230 l G hG sz out k120 h120 σ v3 v4 v5 v6 (1 : Int32) v5 h)
      · have h := jx_t c27 h
        refine jx_iload (pc := 182) (i := 8) rfl dX6_looks_182 ?_
        refine jx_iload (pc := 184) (i := 10) rfl dX6_looks_184 ?_
        refine jx_icmp_ge (pc := 186) (tgt := 193) dX6_looks_186 (by decide) (fun c31 => ?_) (fun c31 => ?_)
        · have h := jx_t c31 h
          refine jx_iconst (pc := 193) (v := (0 : Int32)) (by decide) dX6_looks_193 ?_
          refine jx_goto (pc := 194) (tgt := 230) dX6_looks_194 (by decide) ?_
          exact jx_sub [4, 5, 6, 7, 8] rfl (jb_X6_looks_230 l G hG sz out k120 h120 σ v3 v4 v5 v6 (0 : Int32) v5 h)
        · have h := jx_f c31 h
          refine jx_iconst (pc := 189) (v := (1 : Int32)) (by decide) dX6_looks_189 ?_
          refine jx_goto (pc := 190) (tgt := 230) dX6_looks_190 (by decide) ?_
          exact jx_sub [4, 5, 6, 7, 8] rfl (jb_X6_looks_230 l G hG sz out k120 h120 σ v3 v4 v5 v6 (1 : Int32) v5 h)
def b_X6_looks_120  : Nat → jx_M → Int32 → Int32 → Int32 → Int32 → Option jx_M
  | 0, _, _, _, _, _ => none
  | n + 1, σ, v3, v4, v5, v6 => g_X6_looks_120 (b_X6_looks_120 n) σ v3 v4 v5 v6
theorem jb_X6_looks_120 (l : Launch) (G : jx_G) (hG : mm_ok G) (sz : Nat) (out : jx_M)  : ∀ (n : Nat) (σ : jx_M) (v3 : Int32) (v4 : Int32) (v5 : Int32) (v6 : Int32), b_X6_looks_120 n σ v3 v4 v5 v6 = some out → jJ_X6_looks l G sz out 120 [(0, .ref (G.2 10)), (3, .int v3), (4, .int v4), (5, .int v5), (6, .int v6)] [] σ := by
  intro n
  induction n with
  | zero =>
    intro σ v3 v4 v5 v6 h
    cases h
  | succ n ih =>
    intro σ v3 v4 v5 v6 h
    exact jg_X6_looks_120 l G hG sz out (b_X6_looks_120 n) ih σ v3 v4 v5 v6 h
def b_X6_looks_96  (σ : jx_M) (s0 : Int32) : Option jx_M :=
  jx_lt (((220 : Int32) + ((140 : Int32) * (σ 1 5)))) (fun x1 => (b_X6_looks_120 jx_fuel σ s0 x1 (0 : Int32) x1))
set_option maxHeartbeats 4000000 in
set_option maxRecDepth 100000 in
theorem jb_X6_looks_96 (l : Launch) (G : jx_G) (hG : mm_ok G) (sz : Nat) (out : jx_M)  (σ : jx_M) (s0 : Int32) (h : b_X6_looks_96 σ s0 = some out) : jJ_X6_looks l G sz out 96 [(0, .ref (G.2 10))] [.int s0] σ := by
  unfold b_X6_looks_96 at h
  refine jx_istore_n (pc := 96) (i := 3) rfl rfl (by decide) (lv' := [(3, .int s0), (0, .ref (G.2 10))]) rfl dX6_looks_96 ?_
  refine jx_sipush (pc := 97) (v := (220 : Int32)) (by decide) dX6_looks_97 ?_
  refine jx_sipush (pc := 100) (v := (140 : Int32)) (by decide) dX6_looks_100 ?_
  refine jx_aload_n (pc := 103) (k0 := 0) rfl dX6_looks_103 ?_
  refine mm_g_s (pc := 104) fl_X6_9 dX6_looks_104 ?_
  refine jx_iconst (pc := 107) (v := (5 : Int32)) (by decide) dX6_looks_107 ?_
  refine mm_l_s (pc := 108) (j := 5) (jx_in_o (by decide)) (by decide) dX6_looks_108 ?_
  refine jx_imul (pc := 109) dX6_looks_109 ?_
  refine jx_iadd (pc := 110) dX6_looks_110 ?_
  obtain ⟨x1, ex1, h⟩ := jx_lt_o h
  refine jx_istore (pc := 111) (i := 4) ex1 (by decide) (lv' := [(4, .int x1), (3, .int s0), (0, .ref (G.2 10))]) rfl dX6_looks_111 ?_
  refine jx_iconst (pc := 113) (v := (0 : Int32)) (by decide) dX6_looks_113 ?_
  refine jx_istore (pc := 114) (i := 5) rfl (by decide) (lv' := [(5, .int (0 : Int32)), (4, .int x1), (3, .int s0), (0, .ref (G.2 10))]) rfl dX6_looks_114 ?_
  refine jx_iload (pc := 116) (i := 4) rfl dX6_looks_116 ?_
  refine jx_istore (pc := 118) (i := 6) rfl (by decide) (lv' := [(6, .int x1), (5, .int (0 : Int32)), (4, .int x1), (3, .int s0), (0, .ref (G.2 10))]) rfl dX6_looks_118 ?_
  exact jx_sub [4, 3, 2, 1, 0] rfl (jb_X6_looks_120 l G hG sz out jx_fuel σ s0 x1 (0 : Int32) x1 h)
def f_X6_looks (σ : jx_M) (a1 : Int32) (a2 : Int32) : Option jx_M :=
  jx_lt (jx_mu σ 3 0 a1) (fun σ1 => jx_gd (jx_in ((10 : Int32) + a1) 920) (jx_lt (jx_mu σ1 3 1 (σ1 1 ((10 : Int32) + a1).toNatClampNeg)) (fun σ3 => jx_lt (jx_mu σ3 3 2 (a2 - a2 / (12 : Int32) * (12 : Int32))) (fun σ4 => jx_gd (jx_in ((24 : Int32) + a1) 920) (jx_lt (jx_mu σ4 3 3 (σ4 1 ((24 : Int32) + a1).toNatClampNeg)) (fun σ6 => jx_lt (jx_mu σ6 0 11 (0 : Int32)) (fun σ7 => jx_lt (jx_mu σ7 0 12 (0 : Int32)) (fun σ8 => jx_lt (jx_mu σ8 0 13 (0 : Int32)) (fun σ9 => jx_lt (jx_mu σ9 0 14 (1 : Int32)) (fun σ10 => if (σ10 1 5) = (-1 : Int32) then (b_X6_looks_96 σ10 (0 : Int32)) else jx_gd (jx_in ((215 : Int32) + (σ10 1 5)) 920) ((b_X6_looks_96 σ10 (σ10 1 ((215 : Int32) + (σ10 1 5)).toNatClampNeg)))))))))))))
set_option maxHeartbeats 4000000 in
set_option maxRecDepth 100000 in
theorem k_X6_looks (l : Launch) (G : jx_G) (hG : mm_ok G) (sz : Nat) (σ : jx_M) (a1 : Int32) (a2 : Int32) (out : jx_M) (h : f_X6_looks σ a1 a2 = some out) : Met l yX6_looks (Cond.code yX6_looks cX6_looks 11 none :: jx_ws) rm_X6_looks (jx_Pc (mm_env G) (mm_dyn G) (mm_rg G) sz σ [.ref (G.2 10), .int a1, .int a2]) (jx_Qv (mm_dyn G) out (jx_A (mm_rg G) sz)) 0 0 (jx_A (mm_rg G) sz) := by
  unfold f_X6_looks at h
  refine jx_met (by decide) (Nat.le_of_ble_eq_true rfl) ?_
  refine jx_sub (lv' := [(0, .ref (G.2 10)), (1, .int a1), (2, .int a2)]) [0, 1, 2] rfl ?_
  refine jx_aload_n (pc := 0) (k0 := 0) rfl dX6_looks_0 ?_
  refine mm_g_by (pc := 1) fl_X6_18 dX6_looks_1 ?_
  refine jx_iconst (pc := 4) (v := (0 : Int32)) (by decide) dX6_looks_4 ?_
  refine jx_iload_n (pc := 5) (k0 := 1) rfl dX6_looks_5 ?_
  obtain ⟨σ1, eσ1, h⟩ := jx_lt_o h
  refine mm_s_by (pc := 6) hG (jx_in_o (by decide)) (by decide) eσ1 dX6_looks_6 ?_
  refine jx_aload_n (pc := 7) (k0 := 0) rfl dX6_looks_7 ?_
  refine mm_g_by (pc := 8) fl_X6_18 dX6_looks_8 ?_
  refine jx_iconst (pc := 11) (v := (1 : Int32)) (by decide) dX6_looks_11 ?_
  refine jx_aload_n (pc := 12) (k0 := 0) rfl dX6_looks_12 ?_
  refine mm_g_s (pc := 13) fl_X6_9 dX6_looks_13 ?_
  refine jx_bipush (pc := 16) (v := (10 : Int32)) (by decide) dX6_looks_16 ?_
  refine jx_iload_n (pc := 18) (k0 := 1) rfl dX6_looks_18 ?_
  refine jx_iadd (pc := 19) dX6_looks_19 ?_
  obtain ⟨g2, h⟩ := jx_gd_o h
  refine mm_l_s (pc := 20) (jx_in_o g2) rfl dX6_looks_20 ?_
  obtain ⟨σ3, eσ3, h⟩ := jx_lt_o h
  refine mm_s_by (pc := 21) hG (jx_in_o (by decide)) (by decide) eσ3 dX6_looks_21 ?_
  refine jx_aload_n (pc := 22) (k0 := 0) rfl dX6_looks_22 ?_
  refine mm_g_by (pc := 23) fl_X6_18 dX6_looks_23 ?_
  refine jx_iconst (pc := 26) (v := (2 : Int32)) (by decide) dX6_looks_26 ?_
  refine jx_iload_n (pc := 27) (k0 := 2) rfl dX6_looks_27 ?_
  refine jx_bipush (pc := 28) (v := (12 : Int32)) (by decide) dX6_looks_28 ?_
  refine jx_irem (pc := 30) (by decide) dX6_looks_30 ?_
  obtain ⟨σ4, eσ4, h⟩ := jx_lt_o h
  refine mm_s_by (pc := 31) hG (jx_in_o (by decide)) (by decide) eσ4 dX6_looks_31 ?_
  refine jx_aload_n (pc := 32) (k0 := 0) rfl dX6_looks_32 ?_
  refine mm_g_by (pc := 33) fl_X6_18 dX6_looks_33 ?_
  refine jx_iconst (pc := 36) (v := (3 : Int32)) (by decide) dX6_looks_36 ?_
  refine jx_aload_n (pc := 37) (k0 := 0) rfl dX6_looks_37 ?_
  refine mm_g_s (pc := 38) fl_X6_9 dX6_looks_38 ?_
  refine jx_bipush (pc := 41) (v := (24 : Int32)) (by decide) dX6_looks_41 ?_
  refine jx_iload_n (pc := 43) (k0 := 1) rfl dX6_looks_43 ?_
  refine jx_iadd (pc := 44) dX6_looks_44 ?_
  obtain ⟨g5, h⟩ := jx_gd_o h
  refine mm_l_s (pc := 45) (jx_in_o g5) rfl dX6_looks_45 ?_
  obtain ⟨σ6, eσ6, h⟩ := jx_lt_o h
  refine mm_s_by (pc := 46) hG (jx_in_o (by decide)) (by decide) eσ6 dX6_looks_46 ?_
  refine jx_aload_n (pc := 47) (k0 := 0) rfl dX6_looks_47 ?_
  refine jx_iconst (pc := 48) (v := (0 : Int32)) (by decide) dX6_looks_48 ?_
  obtain ⟨σ7, eσ7, h⟩ := jx_lt_o h
  refine mm_p_isSide (pc := 49) hG (by decide) fl_X6_129 eσ7 dX6_looks_49 ?_
  refine jx_aload_n (pc := 52) (k0 := 0) rfl dX6_looks_52 ?_
  refine jx_iconst (pc := 53) (v := (0 : Int32)) (by decide) dX6_looks_53 ?_
  obtain ⟨σ8, eσ8, h⟩ := jx_lt_o h
  refine mm_p_isHeld (pc := 54) hG (by decide) fl_X6_132 eσ8 dX6_looks_54 ?_
  refine jx_aload_n (pc := 57) (k0 := 0) rfl dX6_looks_57 ?_
  refine jx_iconst (pc := 58) (v := (0 : Int32)) (by decide) dX6_looks_58 ?_
  obtain ⟨σ9, eσ9, h⟩ := jx_lt_o h
  refine mm_p_oiled (pc := 59) hG fl_X6_135 eσ9 dX6_looks_59 ?_
  refine jx_aload_n (pc := 62) (k0 := 0) rfl dX6_looks_62 ?_
  refine jx_iconst (pc := 63) (v := (1 : Int32)) (by decide) dX6_looks_63 ?_
  obtain ⟨σ10, eσ10, h⟩ := jx_lt_o h
  refine mm_p_weighed (pc := 64) hG fl_X6_138 eσ10 dX6_looks_64 ?_
  refine jx_aload_n (pc := 67) (k0 := 0) rfl dX6_looks_67 ?_
  refine mm_g_s (pc := 68) fl_X6_9 dX6_looks_68 ?_
  refine jx_iconst (pc := 71) (v := (5 : Int32)) (by decide) dX6_looks_71 ?_
  refine mm_l_s (pc := 72) (j := 5) (jx_in_o (by decide)) (by decide) dX6_looks_72 ?_
  refine jx_iconst (pc := 73) (v := (-1 : Int32)) (by decide) dX6_looks_73 ?_
  refine jx_icmp_ne (pc := 74) (tgt := 81) dX6_looks_74 (by decide) (fun c11 => ?_) (fun c11 => ?_)
  · have h := jx_f c11 h
    refine jx_aload_n (pc := 81) (k0 := 0) rfl dX6_looks_81 ?_
    refine mm_g_s (pc := 82) fl_X6_9 dX6_looks_82 ?_
    refine jx_sipush (pc := 85) (v := (215 : Int32)) (by decide) dX6_looks_85 ?_
    refine jx_aload_n (pc := 88) (k0 := 0) rfl dX6_looks_88 ?_
    refine mm_g_s (pc := 89) fl_X6_9 dX6_looks_89 ?_
    refine jx_iconst (pc := 92) (v := (5 : Int32)) (by decide) dX6_looks_92 ?_
    refine mm_l_s (pc := 93) (j := 5) (jx_in_o (by decide)) (by decide) dX6_looks_93 ?_
    refine jx_iadd (pc := 94) dX6_looks_94 ?_
    obtain ⟨g12, h⟩ := jx_gd_o h
    refine mm_l_s (pc := 95) (jx_in_o g12) rfl dX6_looks_95 ?_
    exact jx_sub [0] rfl (jb_X6_looks_96 l G hG sz out σ10 (σ10 1 ((215 : Int32) + (σ10 1 5)).toNatClampNeg) h)
  · have h := jx_t c11 h
    refine jx_iconst (pc := 77) (v := (0 : Int32)) (by decide) dX6_looks_77 ?_
    refine jx_goto (pc := 78) (tgt := 96) dX6_looks_78 (by decide) ?_
    exact jx_sub [0] rfl (jb_X6_looks_96 l G hG sz out σ10 (0 : Int32) h)
theorem dX6_upperOf_0 : decode cX6_upperOf 0 = .ok (.iconst 0, 1) := by decide +kernel
theorem dX6_upperOf_1 : decode cX6_upperOf 1 = .ok (.istore_n 2, 1) := by decide +kernel
theorem dX6_upperOf_2 : decode cX6_upperOf 2 = .ok (.iload_n 2, 1) := by decide +kernel
theorem dX6_upperOf_3 : decode cX6_upperOf 3 = .ok (.aload_n 0, 1) := by decide +kernel
theorem dX6_upperOf_4 : decode cX6_upperOf 4 = .ok (.getfield 9, 3) := by decide +kernel
theorem dX6_upperOf_7 : decode cX6_upperOf 7 = .ok (.bipush 6, 2) := by decide +kernel
theorem dX6_upperOf_9 : decode cX6_upperOf 9 = .ok (.iaload, 1) := by decide +kernel
theorem dX6_upperOf_10 : decode cX6_upperOf 10 = .ok (.if_icmp .ge 29, 3) := by decide +kernel
theorem dX6_upperOf_13 : decode cX6_upperOf 13 = .ok (.iload_n 2, 1) := by decide +kernel
theorem dX6_upperOf_14 : decode cX6_upperOf 14 = .ok (.iload_n 1, 1) := by decide +kernel
theorem dX6_upperOf_15 : decode cX6_upperOf 15 = .ok (.if_icmp .eq 18, 3) := by decide +kernel
theorem dX6_upperOf_18 : decode cX6_upperOf 18 = .ok (.aload_n 0, 1) := by decide +kernel
theorem dX6_upperOf_19 : decode cX6_upperOf 19 = .ok (.getfield 9, 3) := by decide +kernel
theorem dX6_upperOf_22 : decode cX6_upperOf 22 = .ok (.bipush 10, 2) := by decide +kernel
theorem dX6_upperOf_24 : decode cX6_upperOf 24 = .ok (.iload_n 2, 1) := by decide +kernel
theorem dX6_upperOf_25 : decode cX6_upperOf 25 = .ok (.iadd, 1) := by decide +kernel
theorem dX6_upperOf_26 : decode cX6_upperOf 26 = .ok (.iaload, 1) := by decide +kernel
theorem dX6_upperOf_27 : decode cX6_upperOf 27 = .ok (.iload_n 1, 1) := by decide +kernel
theorem dX6_upperOf_28 : decode cX6_upperOf 28 = .ok (.if_icmp .ne 5, 3) := by decide +kernel
theorem dX6_upperOf_31 : decode cX6_upperOf 31 = .ok (.iload_n 2, 1) := by decide +kernel
theorem dX6_upperOf_32 : decode cX6_upperOf 32 = .ok (.ireturn, 1) := by decide +kernel
theorem dX6_upperOf_33 : decode cX6_upperOf 33 = .ok (.iinc 2 1, 3) := by decide +kernel
theorem dX6_upperOf_36 : decode cX6_upperOf 36 = .ok (.goto (-34), 3) := by decide +kernel
theorem dX6_upperOf_39 : decode cX6_upperOf 39 = .ok (.iload_n 1, 1) := by decide +kernel
theorem dX6_upperOf_40 : decode cX6_upperOf 40 = .ok (.ireturn, 1) := by decide +kernel
abbrev rm_X6_upperOf : Room := { frames := 0, cells := 0, slots := 0, locals := 0 }
abbrev jJ_X6_upperOf (l : Launch) (G : jx_G) (sz : Nat) (σ0 : jx_M) (out : Int32) (pc : Nat) (lv : List (Nat × Value)) (st : List Value) (σ : jx_M) : Prop := jx_J l (mm_env G) (mm_dyn G) (mm_rg G) sz RX6 "upperOf" cX6_upperOf 3 (some .int) rm_X6_upperOf (fun below args s => MQ below (jx_Qi (mm_dyn G) σ0 out (jx_A (mm_rg G) sz)) args s 0 0 (jx_A (mm_rg G) sz)) 0 0 pc lv st σ
def b_X6_upperOf_33 (k2 : jx_M → Int32 → Int32 → Option Int32) (σ : jx_M) (v1 : Int32) (v2 : Int32) : Option Int32 :=
  jx_lt (v2 + (1 : Int32)) (fun x1 => (k2 σ v1 x1))
set_option maxHeartbeats 4000000 in
set_option maxRecDepth 100000 in
theorem jb_X6_upperOf_33 (l : Launch) (G : jx_G) (hG : mm_ok G) (sz : Nat) (σ0 : jx_M) (out : Int32) (k2 : jx_M → Int32 → Int32 → Option Int32) (h2 : ∀ (σ : jx_M) (v1 : Int32) (v2 : Int32), σ = σ0 → k2 σ v1 v2 = some out → jJ_X6_upperOf l G sz σ0 out 2 [(0, .ref (G.2 10)), (1, .int v1), (2, .int v2)] [] σ) (σ : jx_M) (v1 : Int32) (v2 : Int32) (e0 : σ = σ0) (h : b_X6_upperOf_33 k2 σ v1 v2 = some out) : jJ_X6_upperOf l G sz σ0 out 33 [(0, .ref (G.2 10)), (1, .int v1), (2, .int v2)] [] σ := by
  unfold b_X6_upperOf_33 at h
  obtain ⟨x1, ex1, h⟩ := jx_lt_o h
  refine jx_iinc (pc := 33) (i := 2) (v := v2) rfl ex1 (n := 1) (by decide) (by decide) (lv' := [(2, .int x1), (0, .ref (G.2 10)), (1, .int v1)]) rfl dX6_upperOf_33 ?_
  refine jx_goto (pc := 36) (tgt := 2) dX6_upperOf_36 (by decide) ?_
  exact jx_sub [1, 2, 0] rfl (h2 σ v1 x1 e0 h)
def g_X6_upperOf_2 (k2 : jx_M → Int32 → Int32 → Option Int32) (σ : jx_M) (v1 : Int32) (v2 : Int32) : Option Int32 :=
  if (σ 1 6) ≤ v2 then some v1 else if v2 = v1 then (b_X6_upperOf_33 k2 σ v1 v2) else jx_gd (jx_in ((10 : Int32) + v2) 920) (if (σ 1 ((10 : Int32) + v2).toNatClampNeg) = v1 then some v2 else (b_X6_upperOf_33 k2 σ v1 v2))
set_option maxHeartbeats 4000000 in
set_option maxRecDepth 100000 in
theorem jg_X6_upperOf_2 (l : Launch) (G : jx_G) (hG : mm_ok G) (sz : Nat) (σ0 : jx_M) (out : Int32) (k2 : jx_M → Int32 → Int32 → Option Int32) (h2 : ∀ (σ : jx_M) (v1 : Int32) (v2 : Int32), σ = σ0 → k2 σ v1 v2 = some out → jJ_X6_upperOf l G sz σ0 out 2 [(0, .ref (G.2 10)), (1, .int v1), (2, .int v2)] [] σ) (σ : jx_M) (v1 : Int32) (v2 : Int32) (e0 : σ = σ0) (h : g_X6_upperOf_2 k2 σ v1 v2 = some out) : jJ_X6_upperOf l G sz σ0 out 2 [(0, .ref (G.2 10)), (1, .int v1), (2, .int v2)] [] σ := by
  unfold g_X6_upperOf_2 at h
  refine jx_iload_n (pc := 2) (k0 := 2) rfl dX6_upperOf_2 ?_
  refine jx_aload_n (pc := 3) (k0 := 0) rfl dX6_upperOf_3 ?_
  refine mm_g_s (pc := 4) fl_X6_9 dX6_upperOf_4 ?_
  refine jx_bipush (pc := 7) (v := (6 : Int32)) (by decide) dX6_upperOf_7 ?_
  refine mm_l_s (pc := 9) (j := 6) (jx_in_o (by decide)) (by decide) dX6_upperOf_9 ?_
  refine jx_icmp_ge (pc := 10) (tgt := 39) dX6_upperOf_10 (by decide) (fun c1 => ?_) (fun c1 => ?_)
  · have h := jx_t c1 h
    refine jx_iload_n (pc := 39) (k0 := 1) rfl dX6_upperOf_39 ?_
    subst e0
    have h := Option.some.inj h
    subst h
    exact jx_iret (pc := 40) dX6_upperOf_40
  · have h := jx_f c1 h
    refine jx_iload_n (pc := 13) (k0 := 2) rfl dX6_upperOf_13 ?_
    refine jx_iload_n (pc := 14) (k0 := 1) rfl dX6_upperOf_14 ?_
    refine jx_icmp_eq (pc := 15) (tgt := 33) dX6_upperOf_15 (by decide) (fun c2 => ?_) (fun c2 => ?_)
    · have h := jx_t c2 h
      exact jx_sub [0, 1, 2] rfl (jb_X6_upperOf_33 l G hG sz σ0 out k2 h2 σ v1 v2 e0 h)
    · have h := jx_f c2 h
      refine jx_aload_n (pc := 18) (k0 := 0) rfl dX6_upperOf_18 ?_
      refine mm_g_s (pc := 19) fl_X6_9 dX6_upperOf_19 ?_
      refine jx_bipush (pc := 22) (v := (10 : Int32)) (by decide) dX6_upperOf_22 ?_
      refine jx_iload_n (pc := 24) (k0 := 2) rfl dX6_upperOf_24 ?_
      refine jx_iadd (pc := 25) dX6_upperOf_25 ?_
      obtain ⟨g3, h⟩ := jx_gd_o h
      refine mm_l_s (pc := 26) (jx_in_o g3) rfl dX6_upperOf_26 ?_
      refine jx_iload_n (pc := 27) (k0 := 1) rfl dX6_upperOf_27 ?_
      refine jx_icmp_ne (pc := 28) (tgt := 33) dX6_upperOf_28 (by decide) (fun c4 => ?_) (fun c4 => ?_)
      · have h := jx_f c4 h
        exact jx_sub [0, 1, 2] rfl (jb_X6_upperOf_33 l G hG sz σ0 out k2 h2 σ v1 v2 e0 h)
      · have h := jx_t c4 h
        refine jx_iload_n (pc := 31) (k0 := 2) rfl dX6_upperOf_31 ?_
        subst e0
        have h := Option.some.inj h
        subst h
        exact jx_iret (pc := 32) dX6_upperOf_32
def b_X6_upperOf_2  : Nat → jx_M → Int32 → Int32 → Option Int32
  | 0, _, _, _ => none
  | n + 1, σ, v1, v2 => g_X6_upperOf_2 (b_X6_upperOf_2 n) σ v1 v2
theorem jb_X6_upperOf_2 (l : Launch) (G : jx_G) (hG : mm_ok G) (sz : Nat) (σ0 : jx_M) (out : Int32)  : ∀ (n : Nat) (σ : jx_M) (v1 : Int32) (v2 : Int32), σ = σ0 → b_X6_upperOf_2 n σ v1 v2 = some out → jJ_X6_upperOf l G sz σ0 out 2 [(0, .ref (G.2 10)), (1, .int v1), (2, .int v2)] [] σ := by
  intro n
  induction n with
  | zero =>
    intro σ v1 v2 e0 h
    cases h
  | succ n ih =>
    intro σ v1 v2 e0 h
    exact jg_X6_upperOf_2 l G hG sz σ0 out (b_X6_upperOf_2 n) ih σ v1 v2 e0 h
def f_X6_upperOf (σ : jx_M) (a1 : Int32) : Option Int32 :=
  (b_X6_upperOf_2 jx_fuel σ a1 (0 : Int32))
set_option maxHeartbeats 4000000 in
set_option maxRecDepth 100000 in
theorem k_X6_upperOf (l : Launch) (G : jx_G) (hG : mm_ok G) (sz : Nat) (σ : jx_M) (a1 : Int32) (out : Int32) (h : f_X6_upperOf σ a1 = some out) : Met l yX6_upperOf (Cond.code yX6_upperOf cX6_upperOf 3 (some .int) :: jx_ws) rm_X6_upperOf (jx_Pc (mm_env G) (mm_dyn G) (mm_rg G) sz σ [.ref (G.2 10), .int a1]) (jx_Qi (mm_dyn G) σ out (jx_A (mm_rg G) sz)) 0 0 (jx_A (mm_rg G) sz) := by
  unfold f_X6_upperOf at h
  refine jx_met (by decide) (Nat.le_of_ble_eq_true rfl) ?_
  refine jx_sub (lv' := [(0, .ref (G.2 10)), (1, .int a1)]) [0, 1] rfl ?_
  refine jx_iconst (pc := 0) (v := (0 : Int32)) (by decide) dX6_upperOf_0 ?_
  refine jx_istore_n (pc := 1) (i := 2) rfl rfl (by decide) (lv' := [(2, .int (0 : Int32)), (0, .ref (G.2 10)), (1, .int a1)]) rfl dX6_upperOf_1 ?_
  exact jx_sub [1, 2, 0] rfl (jb_X6_upperOf_2 l G hG sz σ out jx_fuel σ a1 (0 : Int32) rfl h)
theorem dX6_crowded_0 : decode cX6_crowded 0 = .ok (.iconst 0, 1) := by decide +kernel
theorem dX6_crowded_1 : decode cX6_crowded 1 = .ok (.istore_n 1, 1) := by decide +kernel
theorem dX6_crowded_2 : decode cX6_crowded 2 = .ok (.iconst (-1), 1) := by decide +kernel
theorem dX6_crowded_3 : decode cX6_crowded 3 = .ok (.istore_n 2, 1) := by decide +kernel
theorem dX6_crowded_4 : decode cX6_crowded 4 = .ok (.iconst 0, 1) := by decide +kernel
theorem dX6_crowded_5 : decode cX6_crowded 5 = .ok (.istore_n 3, 1) := by decide +kernel
theorem dX6_crowded_6 : decode cX6_crowded 6 = .ok (.iload_n 3, 1) := by decide +kernel
theorem dX6_crowded_7 : decode cX6_crowded 7 = .ok (.aload_n 0, 1) := by decide +kernel
theorem dX6_crowded_8 : decode cX6_crowded 8 = .ok (.getfield 9, 3) := by decide +kernel
theorem dX6_crowded_11 : decode cX6_crowded 11 = .ok (.bipush 6, 2) := by decide +kernel
theorem dX6_crowded_13 : decode cX6_crowded 13 = .ok (.iaload, 1) := by decide +kernel
theorem dX6_crowded_14 : decode cX6_crowded 14 = .ok (.if_icmp .ge 81, 3) := by decide +kernel
theorem dX6_crowded_17 : decode cX6_crowded 17 = .ok (.iconst 0, 1) := by decide +kernel
theorem dX6_crowded_18 : decode cX6_crowded 18 = .ok (.istore 4, 2) := by decide +kernel
theorem dX6_crowded_20 : decode cX6_crowded 20 = .ok (.iconst 0, 1) := by decide +kernel
theorem dX6_crowded_21 : decode cX6_crowded 21 = .ok (.istore 5, 2) := by decide +kernel
theorem dX6_crowded_23 : decode cX6_crowded 23 = .ok (.iload 5, 2) := by decide +kernel
theorem dX6_crowded_25 : decode cX6_crowded 25 = .ok (.aload_n 0, 1) := by decide +kernel
theorem dX6_crowded_26 : decode cX6_crowded 26 = .ok (.getfield 9, 3) := by decide +kernel
theorem dX6_crowded_29 : decode cX6_crowded 29 = .ok (.iconst 0, 1) := by decide +kernel
theorem dX6_crowded_30 : decode cX6_crowded 30 = .ok (.iaload, 1) := by decide +kernel
theorem dX6_crowded_31 : decode cX6_crowded 31 = .ok (.if_icmp .ge 33, 3) := by decide +kernel
theorem dX6_crowded_34 : decode cX6_crowded 34 = .ok (.iload 4, 2) := by decide +kernel
theorem dX6_crowded_36 : decode cX6_crowded 36 = .ok (.aload_n 0, 1) := by decide +kernel
theorem dX6_crowded_37 : decode cX6_crowded 37 = .ok (.getfield 9, 3) := by decide +kernel
theorem dX6_crowded_40 : decode cX6_crowded 40 = .ok (.bipush 43, 2) := by decide +kernel
theorem dX6_crowded_42 : decode cX6_crowded 42 = .ok (.iload 5, 2) := by decide +kernel
theorem dX6_crowded_44 : decode cX6_crowded 44 = .ok (.iadd, 1) := by decide +kernel
theorem dX6_crowded_45 : decode cX6_crowded 45 = .ok (.iaload, 1) := by decide +kernel
theorem dX6_crowded_46 : decode cX6_crowded 46 = .ok (.iload_n 3, 1) := by decide +kernel
theorem dX6_crowded_47 : decode cX6_crowded 47 = .ok (.if_icmp .ne 7, 3) := by decide +kernel
theorem dX6_crowded_50 : decode cX6_crowded 50 = .ok (.iconst 1, 1) := by decide +kernel
theorem dX6_crowded_51 : decode cX6_crowded 51 = .ok (.goto 4, 3) := by decide +kernel
theorem dX6_crowded_54 : decode cX6_crowded 54 = .ok (.iconst 0, 1) := by decide +kernel
theorem dX6_crowded_55 : decode cX6_crowded 55 = .ok (.iadd, 1) := by decide +kernel
theorem dX6_crowded_56 : decode cX6_crowded 56 = .ok (.istore 4, 2) := by decide +kernel
theorem dX6_crowded_58 : decode cX6_crowded 58 = .ok (.iinc 5 1, 3) := by decide +kernel
theorem dX6_crowded_61 : decode cX6_crowded 61 = .ok (.goto (-38), 3) := by decide +kernel
theorem dX6_crowded_64 : decode cX6_crowded 64 = .ok (.iload 4, 2) := by decide +kernel
theorem dX6_crowded_66 : decode cX6_crowded 66 = .ok (.iload_n 2, 1) := by decide +kernel
theorem dX6_crowded_67 : decode cX6_crowded 67 = .ok (.if_icmp .le 7, 3) := by decide +kernel
theorem dX6_crowded_70 : decode cX6_crowded 70 = .ok (.iload_n 3, 1) := by decide +kernel
theorem dX6_crowded_71 : decode cX6_crowded 71 = .ok (.goto 4, 3) := by decide +kernel
theorem dX6_crowded_74 : decode cX6_crowded 74 = .ok (.iload_n 1, 1) := by decide +kernel
theorem dX6_crowded_75 : decode cX6_crowded 75 = .ok (.istore_n 1, 1) := by decide +kernel
theorem dX6_crowded_76 : decode cX6_crowded 76 = .ok (.iload 4, 2) := by decide +kernel
theorem dX6_crowded_78 : decode cX6_crowded 78 = .ok (.iload_n 2, 1) := by decide +kernel
theorem dX6_crowded_79 : decode cX6_crowded 79 = .ok (.if_icmp .le 8, 3) := by decide +kernel
theorem dX6_crowded_82 : decode cX6_crowded 82 = .ok (.iload 4, 2) := by decide +kernel
theorem dX6_crowded_84 : decode cX6_crowded 84 = .ok (.goto 4, 3) := by decide +kernel
theorem dX6_crowded_87 : decode cX6_crowded 87 = .ok (.iload_n 2, 1) := by decide +kernel
theorem dX6_crowded_88 : decode cX6_crowded 88 = .ok (.istore_n 2, 1) := by decide +kernel
theorem dX6_crowded_89 : decode cX6_crowded 89 = .ok (.iinc 3 1, 3) := by decide +kernel
theorem dX6_crowded_92 : decode cX6_crowded 92 = .ok (.goto (-86), 3) := by decide +kernel
theorem dX6_crowded_95 : decode cX6_crowded 95 = .ok (.iload_n 1, 1) := by decide +kernel
theorem dX6_crowded_96 : decode cX6_crowded 96 = .ok (.ireturn, 1) := by decide +kernel
abbrev rm_X6_crowded : Room := { frames := 0, cells := 0, slots := 0, locals := 0 }
abbrev jJ_X6_crowded (l : Launch) (G : jx_G) (sz : Nat) (σ0 : jx_M) (out : Int32) (pc : Nat) (lv : List (Nat × Value)) (st : List Value) (σ : jx_M) : Prop := jx_J l (mm_env G) (mm_dyn G) (mm_rg G) sz RX6 "crowded" cX6_crowded 6 (some .int) rm_X6_crowded (fun below args s => MQ below (jx_Qi (mm_dyn G) σ0 out (jx_A (mm_rg G) sz)) args s 0 0 (jx_A (mm_rg G) sz)) 0 0 pc lv st σ
def b_X6_crowded_55 (k6 : jx_M → Int32 → Int32 → Int32 → Option Int32) (k23 : jx_M → Int32 → Int32 → Int32 → Int32 → Int32 → Option Int32) (σ : jx_M) (v1 : Int32) (v2 : Int32) (v3 : Int32) (v5 : Int32) (s0 : Int32) (s1 : Int32) : Option Int32 :=
  jx_lt ((s1 + s0)) (fun x1 => jx_lt (v5 + (1 : Int32)) (fun x2 => (k23 σ v1 v2 v3 x1 x2)))
set_option maxHeartbeats 4000000 in
set_option maxRecDepth 100000 in
theorem jb_X6_crowded_55 (l : Launch) (G : jx_G) (hG : mm_ok G) (sz : Nat) (σ0 : jx_M) (out : Int32) (k6 : jx_M → Int32 → Int32 → Int32 → Option Int32) (h6 : ∀ (σ : jx_M) (v1 : Int32) (v2 : Int32) (v3 : Int32), σ = σ0 → k6 σ v1 v2 v3 = some out → jJ_X6_crowded l G sz σ0 out 6 [(0, .ref (G.2 10)), (1, .int v1), (2, .int v2), (3, .int v3)] [] σ) (k23 : jx_M → Int32 → Int32 → Int32 → Int32 → Int32 → Option Int32) (h23 : ∀ (σ : jx_M) (v1 : Int32) (v2 : Int32) (v3 : Int32) (v4 : Int32) (v5 : Int32), σ = σ0 → k23 σ v1 v2 v3 v4 v5 = some out → jJ_X6_crowded l G sz σ0 out 23 [(0, .ref (G.2 10)), (1, .int v1), (2, .int v2), (3, .int v3), (4, .int v4), (5, .int v5)] [] σ) (σ : jx_M) (v1 : Int32) (v2 : Int32) (v3 : Int32) (v5 : Int32) (s0 : Int32) (s1 : Int32) (e0 : σ = σ0) (h : b_X6_crowded_55 k6 k23 σ v1 v2 v3 v5 s0 s1 = some out) : jJ_X6_crowded l G sz σ0 out 55 [(0, .ref (G.2 10)), (1, .int v1), (2, .int v2), (3, .int v3), (5, .int v5)] [.int s0, .int s1] σ := by
  unfold b_X6_crowded_55 at h
  refine jx_iadd (pc := 55) dX6_crowded_55 ?_
  obtain ⟨x1, ex1, h⟩ := jx_lt_o h
  refine jx_istore (pc := 56) (i := 4) ex1 (by decide) (lv' := [(4, .int x1), (0, .ref (G.2 10)), (1, .int v1), (2, .int v2), (3, .int v3), (5, .int v5)]) rfl dX6_crowded_56 ?_
  obtain ⟨x2, ex2, h⟩ := jx_lt_o h
  refine jx_iinc (pc := 58) (i := 5) (v := v5) rfl ex2 (n := 1) (by decide) (by decide) (lv' := [(5, .int x2), (4, .int x1), (0, .ref (G.2 10)), (1, .int v1), (2, .int v2), (3, .int v3)]) rfl dX6_crowded_58 ?_
  refine jx_goto (pc := 61) (tgt := 23) dX6_crowded_61 (by decide) ?_
  exact jx_sub [2, 3, 4, 5, 1, 0] rfl (h23 σ v1 v2 v3 x1 x2 e0 h)
def b_X6_crowded_88 (k6 : jx_M → Int32 → Int32 → Int32 → Option Int32) (σ : jx_M) (v1 : Int32) (v3 : Int32) (s0 : Int32) : Option Int32 :=
  jx_lt (v3 + (1 : Int32)) (fun x1 => (k6 σ v1 s0 x1))
set_option maxHeartbeats 4000000 in
set_option maxRecDepth 100000 in
theorem jb_X6_crowded_88 (l : Launch) (G : jx_G) (hG : mm_ok G) (sz : Nat) (σ0 : jx_M) (out : Int32) (k6 : jx_M → Int32 → Int32 → Int32 → Option Int32) (h6 : ∀ (σ : jx_M) (v1 : Int32) (v2 : Int32) (v3 : Int32), σ = σ0 → k6 σ v1 v2 v3 = some out → jJ_X6_crowded l G sz σ0 out 6 [(0, .ref (G.2 10)), (1, .int v1), (2, .int v2), (3, .int v3)] [] σ) (σ : jx_M) (v1 : Int32) (v3 : Int32) (s0 : Int32) (e0 : σ = σ0) (h : b_X6_crowded_88 k6 σ v1 v3 s0 = some out) : jJ_X6_crowded l G sz σ0 out 88 [(0, .ref (G.2 10)), (1, .int v1), (3, .int v3)] [.int s0] σ := by
  unfold b_X6_crowded_88 at h
  refine jx_istore_n (pc := 88) (i := 2) rfl rfl (by decide) (lv' := [(2, .int s0), (0, .ref (G.2 10)), (1, .int v1), (3, .int v3)]) rfl dX6_crowded_88 ?_
  obtain ⟨x1, ex1, h⟩ := jx_lt_o h
  refine jx_iinc (pc := 89) (i := 3) (v := v3) rfl ex1 (n := 1) (by decide) (by decide) (lv' := [(3, .int x1), (2, .int s0), (0, .ref (G.2 10)), (1, .int v1)]) rfl dX6_crowded_89 ?_
  refine jx_goto (pc := 92) (tgt := 6) dX6_crowded_92 (by decide) ?_
  exact jx_sub [2, 3, 1, 0] rfl (h6 σ v1 s0 x1 e0 h)
def b_X6_crowded_75 (k6 : jx_M → Int32 → Int32 → Int32 → Option Int32) (σ : jx_M) (v2 : Int32) (v3 : Int32) (v4 : Int32) (s0 : Int32) : Option Int32 :=
  if v4 ≤ v2 then (b_X6_crowded_88 k6 σ s0 v3 v2) else (b_X6_crowded_88 k6 σ s0 v3 v4)
set_option maxHeartbeats 4000000 in
set_option maxRecDepth 100000 in
theorem jb_X6_crowded_75 (l : Launch) (G : jx_G) (hG : mm_ok G) (sz : Nat) (σ0 : jx_M) (out : Int32) (k6 : jx_M → Int32 → Int32 → Int32 → Option Int32) (h6 : ∀ (σ : jx_M) (v1 : Int32) (v2 : Int32) (v3 : Int32), σ = σ0 → k6 σ v1 v2 v3 = some out → jJ_X6_crowded l G sz σ0 out 6 [(0, .ref (G.2 10)), (1, .int v1), (2, .int v2), (3, .int v3)] [] σ) (σ : jx_M) (v2 : Int32) (v3 : Int32) (v4 : Int32) (s0 : Int32) (e0 : σ = σ0) (h : b_X6_crowded_75 k6 σ v2 v3 v4 s0 = some out) : jJ_X6_crowded l G sz σ0 out 75 [(0, .ref (G.2 10)), (2, .int v2), (3, .int v3), (4, .int v4)] [.int s0] σ := by
  unfold b_X6_crowded_75 at h
  refine jx_istore_n (pc := 75) (i := 1) rfl rfl (by decide) (lv' := [(1, .int s0), (0, .ref (G.2 10)), (2, .int v2), (3, .int v3), (4, .int v4)]) rfl dX6_crowded_75 ?_
  refine jx_iload (pc := 76) (i := 4) rfl dX6_crowded_76 ?_
  refine jx_iload_n (pc := 78) (k0 := 2) rfl dX6_crowded_78 ?_
  refine jx_icmp_le (pc := 79) (tgt := 87) dX6_crowded_79 (by decide) (fun c1 => ?_) (fun c1 => ?_)
  · have h := jx_t c1 h
    refine jx_iload_n (pc := 87) (k0 := 2) rfl dX6_crowded_87 ?_
    exact jx_sub [1, 0, 3] rfl (jb_X6_crowded_88 l G hG sz σ0 out k6 h6 σ s0 v3 v2 e0 h)
  · have h := jx_f c1 h
    refine jx_iload (pc := 82) (i := 4) rfl dX6_crowded_82 ?_
    refine jx_goto (pc := 84) (tgt := 88) dX6_crowded_84 (by decide) ?_
    exact jx_sub [1, 0, 3] rfl (jb_X6_crowded_88 l G hG sz σ0 out k6 h6 σ s0 v3 v4 e0 h)
def g_X6_crowded_23 (k6 : jx_M → Int32 → Int32 → Int32 → Option Int32) (k23 : jx_M → Int32 → Int32 → Int32 → Int32 → Int32 → Option Int32) (σ : jx_M) (v1 : Int32) (v2 : Int32) (v3 : Int32) (v4 : Int32) (v5 : Int32) : Option Int32 :=
  if (σ 1 0) ≤ v5 then if v4 ≤ v2 then (b_X6_crowded_75 k6 σ v2 v3 v4 v1) else (b_X6_crowded_75 k6 σ v2 v3 v4 v3) else jx_gd (jx_in ((43 : Int32) + v5) 920) (if (σ 1 ((43 : Int32) + v5).toNatClampNeg) = v3 then (b_X6_crowded_55 k6 k23 σ v1 v2 v3 v5 (1 : Int32) v4) else (b_X6_crowded_55 k6 k23 σ v1 v2 v3 v5 (0 : Int32) v4))
set_option maxHeartbeats 4000000 in
set_option maxRecDepth 100000 in
theorem jg_X6_crowded_23 (l : Launch) (G : jx_G) (hG : mm_ok G) (sz : Nat) (σ0 : jx_M) (out : Int32) (k6 : jx_M → Int32 → Int32 → Int32 → Option Int32) (h6 : ∀ (σ : jx_M) (v1 : Int32) (v2 : Int32) (v3 : Int32), σ = σ0 → k6 σ v1 v2 v3 = some out → jJ_X6_crowded l G sz σ0 out 6 [(0, .ref (G.2 10)), (1, .int v1), (2, .int v2), (3, .int v3)] [] σ) (k23 : jx_M → Int32 → Int32 → Int32 → Int32 → Int32 → Option Int32) (h23 : ∀ (σ : jx_M) (v1 : Int32) (v2 : Int32) (v3 : Int32) (v4 : Int32) (v5 : Int32), σ = σ0 → k23 σ v1 v2 v3 v4 v5 = some out → jJ_X6_crowded l G sz σ0 out 23 [(0, .ref (G.2 10)), (1, .int v1), (2, .int v2), (3, .int v3), (4, .int v4), (5, .int v5)] [] σ) (σ : jx_M) (v1 : Int32) (v2 : Int32) (v3 : Int32) (v4 : Int32) (v5 : Int32) (e0 : σ = σ0) (h : g_X6_crowded_23 k6 k23 σ v1 v2 v3 v4 v5 = some out) : jJ_X6_crowded l G sz σ0 out 23 [(0, .ref (G.2 10)), (1, .int v1), (2, .int v2), (3, .int v3), (4, .int v4), (5, .int v5)] [] σ := by
  unfold g_X6_crowded_23 at h
  refine jx_iload (pc := 23) (i := 5) rfl dX6_crowded_23 ?_
  refine jx_aload_n (pc := 25) (k0 := 0) rfl dX6_crowded_25 ?_
  refine mm_g_s (pc := 26) fl_X6_9 dX6_crowded_26 ?_
  refine jx_iconst (pc := 29) (v := (0 : Int32)) (by decide) dX6_crowded_29 ?_
  refine mm_l_s (pc := 30) (j := 0) (jx_in_o (by decide)) (by decide) dX6_crowded_30 ?_
  refine jx_icmp_ge (pc := 31) (tgt := 64) dX6_crowded_31 (by decide) (fun c1 => ?_) (fun c1 => ?_)
  · have h := jx_t c1 h
    refine jx_iload (pc := 64) (i := 4) rfl dX6_crowded_64 ?_
    refine jx_iload_n (pc := 66) (k0 := 2) rfl dX6_crowded_66 ?_
    refine jx_icmp_le (pc := 67) (tgt := 74) dX6_crowded_67 (by decide) (fun c2 => ?_) (fun c2 => ?_)
    · have h := jx_t c2 h
      refine jx_iload_n (pc := 74) (k0 := 1) rfl dX6_crowded_74 ?_
      exact jx_sub [0, 2, 3, 4] rfl (jb_X6_crowded_75 l G hG sz σ0 out k6 h6 σ v2 v3 v4 v1 e0 h)
    · have h := jx_f c2 h
      refine jx_iload_n (pc := 70) (k0 := 3) rfl dX6_crowded_70 ?_
      refine jx_goto (pc := 71) (tgt := 75) dX6_crowded_71 (by decide) ?_
      exact jx_sub [0, 2, 3, 4] rfl (jb_X6_crowded_75 l G hG sz σ0 out k6 h6 σ v2 v3 v4 v3 e0 h)
  · have h := jx_f c1 h
    refine jx_iload (pc := 34) (i := 4) rfl dX6_crowded_34 ?_
    refine jx_aload_n (pc := 36) (k0 := 0) rfl dX6_crowded_36 ?_
    refine mm_g_s (pc := 37) fl_X6_9 dX6_crowded_37 ?_
    refine jx_bipush (pc := 40) (v := (43 : Int32)) (by decide) dX6_crowded_40 ?_
    refine jx_iload (pc := 42) (i := 5) rfl dX6_crowded_42 ?_
    refine jx_iadd (pc := 44) dX6_crowded_44 ?_
    obtain ⟨g3, h⟩ := jx_gd_o h
    refine mm_l_s (pc := 45) (jx_in_o g3) rfl dX6_crowded_45 ?_
    refine jx_iload_n (pc := 46) (k0 := 3) rfl dX6_crowded_46 ?_
    refine jx_icmp_ne (pc := 47) (tgt := 54) dX6_crowded_47 (by decide) (fun c4 => ?_) (fun c4 => ?_)
    · have h := jx_f c4 h
      refine jx_iconst (pc := 54) (v := (0 : Int32)) (by decide) dX6_crowded_54 ?_
      exact jx_sub [0, 1, 2, 3, 5] rfl (jb_X6_crowded_55 l G hG sz σ0 out k6 h6 k23 h23 σ v1 v2 v3 v5 (0 : Int32) v4 e0 h)
    · have h := jx_t c4 h
      refine jx_iconst (pc := 50) (v := (1 : Int32)) (by decide) dX6_crowded_50 ?_
      refine jx_goto (pc := 51) (tgt := 55) dX6_crowded_51 (by decide) ?_
      exact jx_sub [0, 1, 2, 3, 5] rfl (jb_X6_crowded_55 l G hG sz σ0 out k6 h6 k23 h23 σ v1 v2 v3 v5 (1 : Int32) v4 e0 h)
def b_X6_crowded_23 (k6 : jx_M → Int32 → Int32 → Int32 → Option Int32) : Nat → jx_M → Int32 → Int32 → Int32 → Int32 → Int32 → Option Int32
  | 0, _, _, _, _, _, _ => none
  | n + 1, σ, v1, v2, v3, v4, v5 => g_X6_crowded_23 k6 (b_X6_crowded_23 k6 n) σ v1 v2 v3 v4 v5
theorem jb_X6_crowded_23 (l : Launch) (G : jx_G) (hG : mm_ok G) (sz : Nat) (σ0 : jx_M) (out : Int32) (k6 : jx_M → Int32 → Int32 → Int32 → Option Int32) (h6 : ∀ (σ : jx_M) (v1 : Int32) (v2 : Int32) (v3 : Int32), σ = σ0 → k6 σ v1 v2 v3 = some out → jJ_X6_crowded l G sz σ0 out 6 [(0, .ref (G.2 10)), (1, .int v1), (2, .int v2), (3, .int v3)] [] σ) : ∀ (n : Nat) (σ : jx_M) (v1 : Int32) (v2 : Int32) (v3 : Int32) (v4 : Int32) (v5 : Int32), σ = σ0 → b_X6_crowded_23 k6 n σ v1 v2 v3 v4 v5 = some out → jJ_X6_crowded l G sz σ0 out 23 [(0, .ref (G.2 10)), (1, .int v1), (2, .int v2), (3, .int v3), (4, .int v4), (5, .int v5)] [] σ := by
  intro n
  induction n with
  | zero =>
    intro σ v1 v2 v3 v4 v5 e0 h
    cases h
  | succ n ih =>
    intro σ v1 v2 v3 v4 v5 e0 h
    exact jg_X6_crowded_23 l G hG sz σ0 out k6 h6 (b_X6_crowded_23 k6 n) ih σ v1 v2 v3 v4 v5 e0 h
def g_X6_crowded_6 (k6 : jx_M → Int32 → Int32 → Int32 → Option Int32) (σ : jx_M) (v1 : Int32) (v2 : Int32) (v3 : Int32) : Option Int32 :=
  if (σ 1 6) ≤ v3 then some v1 else (b_X6_crowded_23 k6 jx_fuel σ v1 v2 v3 (0 : Int32) (0 : Int32))
set_option maxHeartbeats 4000000 in
set_option maxRecDepth 100000 in
theorem jg_X6_crowded_6 (l : Launch) (G : jx_G) (hG : mm_ok G) (sz : Nat) (σ0 : jx_M) (out : Int32) (k6 : jx_M → Int32 → Int32 → Int32 → Option Int32) (h6 : ∀ (σ : jx_M) (v1 : Int32) (v2 : Int32) (v3 : Int32), σ = σ0 → k6 σ v1 v2 v3 = some out → jJ_X6_crowded l G sz σ0 out 6 [(0, .ref (G.2 10)), (1, .int v1), (2, .int v2), (3, .int v3)] [] σ) (σ : jx_M) (v1 : Int32) (v2 : Int32) (v3 : Int32) (e0 : σ = σ0) (h : g_X6_crowded_6 k6 σ v1 v2 v3 = some out) : jJ_X6_crowded l G sz σ0 out 6 [(0, .ref (G.2 10)), (1, .int v1), (2, .int v2), (3, .int v3)] [] σ := by
  unfold g_X6_crowded_6 at h
  refine jx_iload_n (pc := 6) (k0 := 3) rfl dX6_crowded_6 ?_
  refine jx_aload_n (pc := 7) (k0 := 0) rfl dX6_crowded_7 ?_
  refine mm_g_s (pc := 8) fl_X6_9 dX6_crowded_8 ?_
  refine jx_bipush (pc := 11) (v := (6 : Int32)) (by decide) dX6_crowded_11 ?_
  refine mm_l_s (pc := 13) (j := 6) (jx_in_o (by decide)) (by decide) dX6_crowded_13 ?_
  refine jx_icmp_ge (pc := 14) (tgt := 95) dX6_crowded_14 (by decide) (fun c1 => ?_) (fun c1 => ?_)
  · have h := jx_t c1 h
    refine jx_iload_n (pc := 95) (k0 := 1) rfl dX6_crowded_95 ?_
    subst e0
    have h := Option.some.inj h
    subst h
    exact jx_iret (pc := 96) dX6_crowded_96
  · have h := jx_f c1 h
    refine jx_iconst (pc := 17) (v := (0 : Int32)) (by decide) dX6_crowded_17 ?_
    refine jx_istore (pc := 18) (i := 4) rfl (by decide) (lv' := [(4, .int (0 : Int32)), (0, .ref (G.2 10)), (1, .int v1), (2, .int v2), (3, .int v3)]) rfl dX6_crowded_18 ?_
    refine jx_iconst (pc := 20) (v := (0 : Int32)) (by decide) dX6_crowded_20 ?_
    refine jx_istore (pc := 21) (i := 5) rfl (by decide) (lv' := [(5, .int (0 : Int32)), (4, .int (0 : Int32)), (0, .ref (G.2 10)), (1, .int v1), (2, .int v2), (3, .int v3)]) rfl dX6_crowded_21 ?_
    exact jx_sub [2, 3, 4, 5, 1, 0] rfl (jb_X6_crowded_23 l G hG sz σ0 out k6 h6 jx_fuel σ v1 v2 v3 (0 : Int32) (0 : Int32) e0 h)
def b_X6_crowded_6  : Nat → jx_M → Int32 → Int32 → Int32 → Option Int32
  | 0, _, _, _, _ => none
  | n + 1, σ, v1, v2, v3 => g_X6_crowded_6 (b_X6_crowded_6 n) σ v1 v2 v3
theorem jb_X6_crowded_6 (l : Launch) (G : jx_G) (hG : mm_ok G) (sz : Nat) (σ0 : jx_M) (out : Int32)  : ∀ (n : Nat) (σ : jx_M) (v1 : Int32) (v2 : Int32) (v3 : Int32), σ = σ0 → b_X6_crowded_6 n σ v1 v2 v3 = some out → jJ_X6_crowded l G sz σ0 out 6 [(0, .ref (G.2 10)), (1, .int v1), (2, .int v2), (3, .int v3)] [] σ := by
  intro n
  induction n with
  | zero =>
    intro σ v1 v2 v3 e0 h
    cases h
  | succ n ih =>
    intro σ v1 v2 v3 e0 h
    exact jg_X6_crowded_6 l G hG sz σ0 out (b_X6_crowded_6 n) ih σ v1 v2 v3 e0 h
def f_X6_crowded (σ : jx_M)  : Option Int32 :=
  (b_X6_crowded_6 jx_fuel σ (0 : Int32) (-1 : Int32) (0 : Int32))
set_option maxHeartbeats 4000000 in
set_option maxRecDepth 100000 in
theorem k_X6_crowded (l : Launch) (G : jx_G) (hG : mm_ok G) (sz : Nat) (σ : jx_M)  (out : Int32) (h : f_X6_crowded σ = some out) : Met l yX6_crowded (Cond.code yX6_crowded cX6_crowded 6 (some .int) :: jx_ws) rm_X6_crowded (jx_Pc (mm_env G) (mm_dyn G) (mm_rg G) sz σ [.ref (G.2 10)]) (jx_Qi (mm_dyn G) σ out (jx_A (mm_rg G) sz)) 0 0 (jx_A (mm_rg G) sz) := by
  unfold f_X6_crowded at h
  refine jx_met (by decide) (Nat.le_of_ble_eq_true rfl) ?_
  refine jx_sub (lv' := [(0, .ref (G.2 10))]) [0] rfl ?_
  refine jx_iconst (pc := 0) (v := (0 : Int32)) (by decide) dX6_crowded_0 ?_
  refine jx_istore_n (pc := 1) (i := 1) rfl rfl (by decide) (lv' := [(1, .int (0 : Int32)), (0, .ref (G.2 10))]) rfl dX6_crowded_1 ?_
  refine jx_iconst (pc := 2) (v := (-1 : Int32)) (by decide) dX6_crowded_2 ?_
  refine jx_istore_n (pc := 3) (i := 2) rfl rfl (by decide) (lv' := [(2, .int (-1 : Int32)), (1, .int (0 : Int32)), (0, .ref (G.2 10))]) rfl dX6_crowded_3 ?_
  refine jx_iconst (pc := 4) (v := (0 : Int32)) (by decide) dX6_crowded_4 ?_
  refine jx_istore_n (pc := 5) (i := 3) rfl rfl (by decide) (lv' := [(3, .int (0 : Int32)), (2, .int (-1 : Int32)), (1, .int (0 : Int32)), (0, .ref (G.2 10))]) rfl dX6_crowded_5 ?_
  exact jx_sub [3, 2, 1, 0] rfl (jb_X6_crowded_6 l G hG sz σ out jx_fuel σ (0 : Int32) (-1 : Int32) (0 : Int32) rfl h)
