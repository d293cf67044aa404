/-! the reference's methods: a function on the memory each, and its contract -/
theorem dX6_in_0 : decode cX6_in 0 = .ok (.iload_n 0, 1) := by decide +kernel
theorem dX6_in_1 : decode cX6_in 1 = .ok (.iload_n 1, 1) := by decide +kernel
theorem dX6_in_2 : decode cX6_in 2 = .ok (.if_icmp .lt 12, 3) := by decide +kernel
theorem dX6_in_5 : decode cX6_in 5 = .ok (.iload_n 0, 1) := by decide +kernel
theorem dX6_in_6 : decode cX6_in 6 = .ok (.iload_n 2, 1) := by decide +kernel
theorem dX6_in_7 : decode cX6_in 7 = .ok (.if_icmp .gt 7, 3) := by decide +kernel
theorem dX6_in_10 : decode cX6_in 10 = .ok (.iconst 1, 1) := by decide +kernel
theorem dX6_in_11 : decode cX6_in 11 = .ok (.goto 4, 3) := by decide +kernel
theorem dX6_in_14 : decode cX6_in 14 = .ok (.iconst 0, 1) := by decide +kernel
theorem dX6_in_15 : decode cX6_in 15 = .ok (.ireturn, 1) := by decide +kernel
abbrev rm_X6_in : Room := { frames := 0, cells := 0, slots := 0, locals := 0 }
abbrev jJ_X6_in (l : Launch) (G : jx_G) (sz : Nat) (σ0 : jx_M) (out : Int32) (pc : Nat) (lv : List (Nat × Value)) (st : List Value) (σ : jx_M) : Prop := jx_J l (mm_env G) (mm_dyn G) (mm_rg G) sz RX6 "in" cX6_in 3 (some .boolean) rm_X6_in (fun below args s => MQ below (jx_Qi (mm_dyn G) σ0 out (jx_A (mm_rg G) sz)) args s 0 0 (jx_A (mm_rg G) sz)) 0 0 pc lv st σ
def f_X6_in (a0 : Int32) (a1 : Int32) (a2 : Int32) : Option Int32 :=
  if a0 < a1 then some (0 : Int32) else if a2 < a0 then some (0 : Int32) else some (1 : Int32)
set_option maxHeartbeats 4000000 in
set_option maxRecDepth 100000 in
theorem k_X6_in (l : Launch) (G : jx_G) (hG : mm_ok G) (sz : Nat) (σ : jx_M) (a0 : Int32) (a1 : Int32) (a2 : Int32) (out : Int32) (h : f_X6_in a0 a1 a2 = some out) : Met l yX6_in (Cond.code yX6_in cX6_in 3 (some .boolean) :: jx_ws) rm_X6_in (jx_Pc (mm_env G) (mm_dyn G) (mm_rg G) sz σ [.int a0, .int a1, .int a2]) (jx_Qi (mm_dyn G) σ out (jx_A (mm_rg G) sz)) 0 0 (jx_A (mm_rg G) sz) := by
  unfold f_X6_in at h
  refine jx_met (by decide) (Nat.le_of_ble_eq_true rfl) ?_
  refine jx_sub (lv' := [(0, .int a0), (1, .int a1), (2, .int a2)]) [0, 1, 2] rfl ?_
  refine jx_iload_n (pc := 0) rfl dX6_in_0 ?_
  refine jx_iload_n (pc := 1) rfl dX6_in_1 ?_
  refine jx_icmp_lt (pc := 2) (tgt := 14) dX6_in_2 (by decide) (fun c1 => ?_) (fun c1 => ?_)
  · have h := jx_t c1 h
    refine jx_iconst (pc := 14) (v := (0 : Int32)) (by decide) dX6_in_14 ?_
    cases h
    exact jx_zret (pc := 15) (by decide) dX6_in_15
  · have h := jx_f c1 h
    refine jx_iload_n (pc := 5) rfl dX6_in_5 ?_
    refine jx_iload_n (pc := 6) rfl dX6_in_6 ?_
    refine jx_icmp_gt (pc := 7) (tgt := 14) dX6_in_7 (by decide) (fun c2 => ?_) (fun c2 => ?_)
    · have h := jx_t c2 h
      refine jx_iconst (pc := 14) (v := (0 : Int32)) (by decide) dX6_in_14 ?_
      cases h
      exact jx_zret (pc := 15) (by decide) dX6_in_15
    · have h := jx_f c2 h
      refine jx_iconst (pc := 10) (v := (1 : Int32)) (by decide) dX6_in_10 ?_
      refine jx_goto (pc := 11) (tgt := 15) dX6_in_11 (by decide) ?_
      cases h
      exact jx_zret (pc := 15) (by decide) dX6_in_15
theorem dX6_asAtFirst_0 : decode cX6_asAtFirst 0 = .ok (.aload_n 0, 1) := by decide +kernel
theorem dX6_asAtFirst_1 : decode cX6_asAtFirst 1 = .ok (.getfield 9, 3) := by decide +kernel
theorem dX6_asAtFirst_4 : decode cX6_asAtFirst 4 = .ok (.bipush 6, 2) := by decide +kernel
theorem dX6_asAtFirst_6 : decode cX6_asAtFirst 6 = .ok (.iload_n 1, 1) := by decide +kernel
theorem dX6_asAtFirst_7 : decode cX6_asAtFirst 7 = .ok (.iastore, 1) := by decide +kernel
theorem dX6_asAtFirst_8 : decode cX6_asAtFirst 8 = .ok (.iconst 0, 1) := by decide +kernel
theorem dX6_asAtFirst_9 : decode cX6_asAtFirst 9 = .ok (.istore_n 2, 1) := by decide +kernel
theorem dX6_asAtFirst_10 : decode cX6_asAtFirst 10 = .ok (.iload_n 2, 1) := by decide +kernel
theorem dX6_asAtFirst_11 : decode cX6_asAtFirst 11 = .ok (.bipush 7, 2) := by decide +kernel
theorem dX6_asAtFirst_13 : decode cX6_asAtFirst 13 = .ok (.if_icmp .ge 52, 3) := by decide +kernel
theorem dX6_asAtFirst_16 : decode cX6_asAtFirst 16 = .ok (.aload_n 0, 1) := by decide +kernel
theorem dX6_asAtFirst_17 : decode cX6_asAtFirst 17 = .ok (.getfield 9, 3) := by decide +kernel
theorem dX6_asAtFirst_20 : decode cX6_asAtFirst 20 = .ok (.bipush 10, 2) := by decide +kernel
theorem dX6_asAtFirst_22 : decode cX6_asAtFirst 22 = .ok (.iload_n 2, 1) := by decide +kernel
theorem dX6_asAtFirst_23 : decode cX6_asAtFirst 23 = .ok (.iadd, 1) := by decide +kernel
theorem dX6_asAtFirst_24 : decode cX6_asAtFirst 24 = .ok (.iload_n 2, 1) := by decide +kernel
theorem dX6_asAtFirst_25 : decode cX6_asAtFirst 25 = .ok (.iload_n 1, 1) := by decide +kernel
theorem dX6_asAtFirst_26 : decode cX6_asAtFirst 26 = .ok (.iconst 1, 1) := by decide +kernel
theorem dX6_asAtFirst_27 : decode cX6_asAtFirst 27 = .ok (.isub, 1) := by decide +kernel
theorem dX6_asAtFirst_28 : decode cX6_asAtFirst 28 = .ok (.if_icmp .ge 9, 3) := by decide +kernel
theorem dX6_asAtFirst_31 : decode cX6_asAtFirst 31 = .ok (.iload_n 2, 1) := by decide +kernel
theorem dX6_asAtFirst_32 : decode cX6_asAtFirst 32 = .ok (.iconst 1, 1) := by decide +kernel
theorem dX6_asAtFirst_33 : decode cX6_asAtFirst 33 = .ok (.iadd, 1) := by decide +kernel
theorem dX6_asAtFirst_34 : decode cX6_asAtFirst 34 = .ok (.goto 4, 3) := by decide +kernel
theorem dX6_asAtFirst_37 : decode cX6_asAtFirst 37 = .ok (.iload_n 2, 1) := by decide +kernel
theorem dX6_asAtFirst_38 : decode cX6_asAtFirst 38 = .ok (.iastore, 1) := by decide +kernel
theorem dX6_asAtFirst_39 : decode cX6_asAtFirst 39 = .ok (.aload_n 0, 1) := by decide +kernel
theorem dX6_asAtFirst_40 : decode cX6_asAtFirst 40 = .ok (.getfield 9, 3) := by decide +kernel
theorem dX6_asAtFirst_43 : decode cX6_asAtFirst 43 = .ok (.bipush 17, 2) := by decide +kernel
theorem dX6_asAtFirst_45 : decode cX6_asAtFirst 45 = .ok (.iload_n 2, 1) := by decide +kernel
theorem dX6_asAtFirst_46 : decode cX6_asAtFirst 46 = .ok (.iadd, 1) := by decide +kernel
theorem dX6_asAtFirst_47 : decode cX6_asAtFirst 47 = .ok (.iconst (-1), 1) := by decide +kernel
theorem dX6_asAtFirst_48 : decode cX6_asAtFirst 48 = .ok (.iastore, 1) := by decide +kernel
theorem dX6_asAtFirst_49 : decode cX6_asAtFirst 49 = .ok (.aload_n 0, 1) := by decide +kernel
theorem dX6_asAtFirst_50 : decode cX6_asAtFirst 50 = .ok (.getfield 9, 3) := by decide +kernel
theorem dX6_asAtFirst_53 : decode cX6_asAtFirst 53 = .ok (.bipush 24, 2) := by decide +kernel
theorem dX6_asAtFirst_55 : decode cX6_asAtFirst 55 = .ok (.iload_n 2, 1) := by decide +kernel
theorem dX6_asAtFirst_56 : decode cX6_asAtFirst 56 = .ok (.iadd, 1) := by decide +kernel
theorem dX6_asAtFirst_57 : decode cX6_asAtFirst 57 = .ok (.iconst 0, 1) := by decide +kernel
theorem dX6_asAtFirst_58 : decode cX6_asAtFirst 58 = .ok (.iastore, 1) := by decide +kernel
theorem dX6_asAtFirst_59 : decode cX6_asAtFirst 59 = .ok (.iinc 2 1, 3) := by decide +kernel
theorem dX6_asAtFirst_62 : decode cX6_asAtFirst 62 = .ok (.goto (-52), 3) := by decide +kernel
theorem dX6_asAtFirst_65 : decode cX6_asAtFirst 65 = .ok (.return_, 1) := by decide +kernel
abbrev rm_X6_asAtFirst : Room := { frames := 0, cells := 0, slots := 0, locals := 0 }
abbrev jJ_X6_asAtFirst (l : Launch) (G : jx_G) (sz : Nat) (out : jx_M) (pc : Nat) (lv : List (Nat × Value)) (st : List Value) (σ : jx_M) : Prop := jx_J l (mm_env G) (mm_dyn G) (mm_rg G) sz RX6 "asAtFirst" cX6_asAtFirst 3 none rm_X6_asAtFirst (fun below args s => MQ below (jx_Qv (mm_dyn G) out (jx_A (mm_rg G) sz)) args s 0 0 (jx_A (mm_rg G) sz)) 0 0 pc lv st σ
def b_X6_asAtFirst_38 (k10 : jx_M → Int32 → Int32 → Option jx_M) (σ : jx_M) (v1 : Int32) (v2 : Int32) (s0 : Int32) (s1 : Int32) : Option jx_M :=
  jx_gd (jx_in s1 920) (jx_lt (jx_mu σ 1 s1.toNatClampNeg s0) (fun σ2 => jx_gd (jx_in ((17 : Int32) + v2) 920) (jx_lt (jx_mu σ2 1 ((17 : Int32) + v2).toNatClampNeg (-1 : Int32)) (fun σ4 => jx_gd (jx_in ((24 : Int32) + v2) 920) (jx_lt (jx_mu σ4 1 ((24 : Int32) + v2).toNatClampNeg (0 : Int32)) (fun σ6 => jx_lt (v2 + (1 : Int32)) (fun x7 => (k10 σ6 v1 x7))))))))
set_option maxHeartbeats 4000000 in
set_option maxRecDepth 100000 in
theorem jb_X6_asAtFirst_38 (l : Launch) (G : jx_G) (hG : mm_ok G) (sz : Nat) (out : jx_M) (k10 : jx_M → Int32 → Int32 → Option jx_M) (h10 : ∀ (σ : jx_M) (v1 : Int32) (v2 : Int32), k10 σ v1 v2 = some out → jJ_X6_asAtFirst l G sz out 10 [(0, .ref (G.2 10)), (1, .int v1), (2, .int v2)] [] σ) (σ : jx_M) (v1 : Int32) (v2 : Int32) (s0 : Int32) (s1 : Int32) (h : b_X6_asAtFirst_38 k10 σ v1 v2 s0 s1 = some out) : jJ_X6_asAtFirst l G sz out 38 [(0, .ref (G.2 10)), (1, .int v1), (2, .int v2)] [.int s0, .int s1, .ref (G.2 101)] σ := by
  unfold b_X6_asAtFirst_38 at h
  obtain ⟨g1, h⟩ := jx_gd_o h
  obtain ⟨σ2, eσ2, h⟩ := jx_lt_o h
  refine mm_s_s (pc := 38) hG (jx_in_o g1) rfl eσ2 dX6_asAtFirst_38 ?_
  refine jx_aload_n (pc := 39) rfl dX6_asAtFirst_39 ?_
  refine mm_g_s (pc := 40) fl_X6_9 dX6_asAtFirst_40 ?_
  refine jx_bipush (pc := 43) (v := (17 : Int32)) (by decide) dX6_asAtFirst_43 ?_
  refine jx_iload_n (pc := 45) rfl dX6_asAtFirst_45 ?_
  refine jx_iadd (pc := 46) dX6_asAtFirst_46 ?_
  refine jx_iconst (pc := 47) (v := (-1 : Int32)) (by decide) dX6_asAtFirst_47 ?_
  obtain ⟨g3, h⟩ := jx_gd_o h
  obtain ⟨σ4, eσ4, h⟩ := jx_lt_o h
  refine mm_s_s (pc := 48) hG (jx_in_o g3) rfl eσ4 dX6_asAtFirst_48 ?_
  refine jx_aload_n (pc := 49) rfl dX6_asAtFirst_49 ?_
  refine mm_g_s (pc := 50) fl_X6_9 dX6_asAtFirst_50 ?_
  refine jx_bipush (pc := 53) (v := (24 : Int32)) (by decide) dX6_asAtFirst_53 ?_
  refine jx_iload_n (pc := 55) rfl dX6_asAtFirst_55 ?_
  refine jx_iadd (pc := 56) dX6_asAtFirst_56 ?_
  refine jx_iconst (pc := 57) (v := (0 : Int32)) (by decide) dX6_asAtFirst_57 ?_
  obtain ⟨g5, h⟩ := jx_gd_o h
  obtain ⟨σ6, eσ6, h⟩ := jx_lt_o h
  refine mm_s_s (pc := 58) hG (jx_in_o g5) rfl eσ6 dX6_asAtFirst_58 ?_
  obtain ⟨x7, ex7, h⟩ := jx_lt_o h
  refine jx_iinc (pc := 59) (v := v2) rfl ex7 (by decide) (lv' := [(2, .int x7), (0, .ref (G.2 10)), (1, .int v1)]) rfl dX6_asAtFirst_59 ?_
  refine jx_goto (pc := 62) (tgt := 10) dX6_asAtFirst_62 (by decide) ?_
  exact jx_sub [1, 2, 0] rfl (h10 σ6 v1 x7 h)
def g_X6_asAtFirst_10 (k10 : jx_M → Int32 → Int32 → Option jx_M) (σ : jx_M) (v1 : Int32) (v2 : Int32) : Option jx_M :=
  if (7 : Int32) ≤ v2 then some σ else if (v1 - (1 : Int32)) ≤ v2 then (b_X6_asAtFirst_38 k10 σ v1 v2 v2 ((10 : Int32) + v2)) else (b_X6_asAtFirst_38 k10 σ v1 v2 (v2 + (1 : Int32)) ((10 : Int32) + v2))
set_option maxHeartbeats 4000000 in
set_option maxRecDepth 100000 in
theorem jg_X6_asAtFirst_10 (l : Launch) (G : jx_G) (hG : mm_ok G) (sz : Nat) (out : jx_M) (k10 : jx_M → Int32 → Int32 → Option jx_M) (h10 : ∀ (σ : jx_M) (v1 : Int32) (v2 : Int32), k10 σ v1 v2 = some out → jJ_X6_asAtFirst l G sz out 10 [(0, .ref (G.2 10)), (1, .int v1), (2, .int v2)] [] σ) (σ : jx_M) (v1 : Int32) (v2 : Int32) (h : g_X6_asAtFirst_10 k10 σ v1 v2 = some out) : jJ_X6_asAtFirst l G sz out 10 [(0, .ref (G.2 10)), (1, .int v1), (2, .int v2)] [] σ := by
  unfold g_X6_asAtFirst_10 at h
  refine jx_iload_n (pc := 10) rfl dX6_asAtFirst_10 ?_
  refine jx_bipush (pc := 11) (v := (7 : Int32)) (by decide) dX6_asAtFirst_11 ?_
  refine jx_icmp_ge (pc := 13) (tgt := 65) dX6_asAtFirst_13 (by decide) (fun c1 => ?_) (fun c1 => ?_)
  · have h := jx_t c1 h
    cases h
    exact jx_vret (pc := 65) dX6_asAtFirst_65
  · have h := jx_f c1 h
    refine jx_aload_n (pc := 16) rfl dX6_asAtFirst_16 ?_
    refine mm_g_s (pc := 17) fl_X6_9 dX6_asAtFirst_17 ?_
    refine jx_bipush (pc := 20) (v := (10 : Int32)) (by decide) dX6_asAtFirst_20 ?_
    refine jx_iload_n (pc := 22) rfl dX6_asAtFirst_22 ?_
    refine jx_iadd (pc := 23) dX6_asAtFirst_23 ?_
    refine jx_iload_n (pc := 24) rfl dX6_asAtFirst_24 ?_
    refine jx_iload_n (pc := 25) rfl dX6_asAtFirst_25 ?_
    refine jx_iconst (pc := 26) (v := (1 : Int32)) (by decide) dX6_asAtFirst_26 ?_
    refine jx_isub (pc := 27) dX6_asAtFirst_27 ?_
    refine jx_icmp_ge (pc := 28) (tgt := 37) dX6_asAtFirst_28 (by decide) (fun c2 => ?_) (fun c2 => ?_)
    · have h := jx_t c2 h
      refine jx_iload_n (pc := 37) rfl dX6_asAtFirst_37 ?_
      exact jx_sub [0, 1, 2] rfl (jb_X6_asAtFirst_38 l G hG sz out k10 h10 σ v1 v2 v2 ((10 : Int32) + v2) h)
    · have h := jx_f c2 h
      refine jx_iload_n (pc := 31) rfl dX6_asAtFirst_31 ?_
      refine jx_iconst (pc := 32) (v := (1 : Int32)) (by decide) dX6_asAtFirst_32 ?_
      refine jx_iadd (pc := 33) dX6_asAtFirst_33 ?_
      refine jx_goto (pc := 34) (tgt := 38) dX6_asAtFirst_34 (by decide) ?_
      exact jx_sub [0, 1, 2] rfl (jb_X6_asAtFirst_38 l G hG sz out k10 h10 σ v1 v2 (v2 + (1 : Int32)) ((10 : Int32) + v2) h)
def b_X6_asAtFirst_10  : Nat → jx_M → Int32 → Int32 → Option jx_M
  | 0, _, _, _ => none
  | n + 1, σ, v1, v2 => g_X6_asAtFirst_10 (b_X6_asAtFirst_10 n) σ v1 v2
theorem jb_X6_asAtFirst_10 (l : Launch) (G : jx_G) (hG : mm_ok G) (sz : Nat) (out : jx_M)  : ∀ (n : Nat) (σ : jx_M) (v1 : Int32) (v2 : Int32), b_X6_asAtFirst_10 n σ v1 v2 = some out → jJ_X6_asAtFirst l G sz out 10 [(0, .ref (G.2 10)), (1, .int v1), (2, .int v2)] [] σ := by
  intro n
  induction n with
  | zero =>
    intro σ v1 v2 h
    cases h
  | succ n ih =>
    intro σ v1 v2 h
    exact jg_X6_asAtFirst_10 l G hG sz out (b_X6_asAtFirst_10 n) ih σ v1 v2 h
def f_X6_asAtFirst (σ : jx_M) (a1 : Int32) : Option jx_M :=
  jx_lt (jx_mu σ 1 6 a1) (fun σ1 => (b_X6_asAtFirst_10 jx_fuel σ1 a1 (0 : Int32)))
set_option maxHeartbeats 4000000 in
set_option maxRecDepth 100000 in
theorem k_X6_asAtFirst (l : Launch) (G : jx_G) (hG : mm_ok G) (sz : Nat) (σ : jx_M) (a1 : Int32) (out : jx_M) (h : f_X6_asAtFirst σ a1 = some out) : Met l yX6_asAtFirst (Cond.code yX6_asAtFirst cX6_asAtFirst 3 none :: jx_ws) rm_X6_asAtFirst (jx_Pc (mm_env G) (mm_dyn G) (mm_rg G) sz σ [.ref (G.2 10), .int a1]) (jx_Qv (mm_dyn G) out (jx_A (mm_rg G) sz)) 0 0 (jx_A (mm_rg G) sz) := by
  unfold f_X6_asAtFirst at h
  refine jx_met (by decide) (Nat.le_of_ble_eq_true rfl) ?_
  refine jx_sub (lv' := [(0, .ref (G.2 10)), (1, .int a1)]) [0, 1] rfl ?_
  refine jx_aload_n (pc := 0) rfl dX6_asAtFirst_0 ?_
  refine mm_g_s (pc := 1) fl_X6_9 dX6_asAtFirst_1 ?_
  refine jx_bipush (pc := 4) (v := (6 : Int32)) (by decide) dX6_asAtFirst_4 ?_
  refine jx_iload_n (pc := 6) rfl dX6_asAtFirst_6 ?_
  obtain ⟨σ1, eσ1, h⟩ := jx_lt_o h
  refine mm_s_s (pc := 7) hG (jx_in_o (by decide)) (by decide) eσ1 dX6_asAtFirst_7 ?_
  refine jx_iconst (pc := 8) (v := (0 : Int32)) (by decide) dX6_asAtFirst_8 ?_
  refine jx_istore_n (pc := 9) (i := 2) rfl rfl (by decide) (lv' := [(2, .int (0 : Int32)), (0, .ref (G.2 10)), (1, .int a1)]) rfl dX6_asAtFirst_9 ?_
  exact jx_sub [1, 2, 0] rfl (jb_X6_asAtFirst_10 l G hG sz out jx_fuel σ1 a1 (0 : Int32) h)
theorem dX6_here_0 : decode cX6_here 0 = .ok (.aload_n 0, 1) := by decide +kernel
theorem dX6_here_1 : decode cX6_here 1 = .ok (.getfield 52, 3) := by decide +kernel
theorem dX6_here_4 : decode cX6_here 4 = .ok (.aload_n 0, 1) := by decide +kernel
theorem dX6_here_5 : decode cX6_here 5 = .ok (.getfield 55, 3) := by decide +kernel
theorem dX6_here_8 : decode cX6_here 8 = .ok (.if_icmp .ge 18, 3) := by decide +kernel
theorem dX6_here_11 : decode cX6_here 11 = .ok (.aload_n 0, 1) := by decide +kernel
theorem dX6_here_12 : decode cX6_here 12 = .ok (.getfield 9, 3) := by decide +kernel
theorem dX6_here_15 : decode cX6_here 15 = .ok (.bipush 115, 2) := by decide +kernel
theorem dX6_here_17 : decode cX6_here 17 = .ok (.aload_n 0, 1) := by decide +kernel
theorem dX6_here_18 : decode cX6_here 18 = .ok (.getfield 52, 3) := by decide +kernel
theorem dX6_here_21 : decode cX6_here 21 = .ok (.iadd, 1) := by decide +kernel
theorem dX6_here_22 : decode cX6_here 22 = .ok (.iaload, 1) := by decide +kernel
theorem dX6_here_23 : decode cX6_here 23 = .ok (.goto 4, 3) := by decide +kernel
theorem dX6_here_26 : decode cX6_here 26 = .ok (.iconst (-1), 1) := by decide +kernel
theorem dX6_here_27 : decode cX6_here 27 = .ok (.ireturn, 1) := by decide +kernel
abbrev rm_X6_here : Room := { frames := 0, cells := 0, slots := 0, locals := 0 }
abbrev jJ_X6_here (l : Launch) (G : jx_G) (sz : Nat) (σ0 : jx_M) (out : Int32) (pc : Nat) (lv : List (Nat × Value)) (st : List Value) (σ : jx_M) : Prop := jx_J l (mm_env G) (mm_dyn G) (mm_rg G) sz RX6 "here" cX6_here 1 (some .int) rm_X6_here (fun below args s => MQ below (jx_Qi (mm_dyn G) σ0 out (jx_A (mm_rg G) sz)) args s 0 0 (jx_A (mm_rg G) sz)) 0 0 pc lv st σ
def f_X6_here (σ : jx_M)  : Option Int32 :=
  if (σ 0 6) ≤ (σ 0 5) then some (-1 : Int32) else jx_gd (jx_in ((115 : Int32) + (σ 0 5)) 920) (some (σ 1 ((115 : Int32) + (σ 0 5)).toNatClampNeg))
set_option maxHeartbeats 4000000 in
set_option maxRecDepth 100000 in
theorem k_X6_here (l : Launch) (G : jx_G) (hG : mm_ok G) (sz : Nat) (σ : jx_M)  (out : Int32) (h : f_X6_here σ = some out) : Met l yX6_here (Cond.code yX6_here cX6_here 1 (some .int) :: jx_ws) rm_X6_here (jx_Pc (mm_env G) (mm_dyn G) (mm_rg G) sz σ [.ref (G.2 10)]) (jx_Qi (mm_dyn G) σ out (jx_A (mm_rg G) sz)) 0 0 (jx_A (mm_rg G) sz) := by
  unfold f_X6_here at h
  refine jx_met (by decide) (Nat.le_of_ble_eq_true rfl) ?_
  refine jx_sub (lv' := [(0, .ref (G.2 10))]) [0] rfl ?_
  refine jx_aload_n (pc := 0) rfl dX6_here_0 ?_
  refine mm_g_spot (pc := 1) fl_X6_52 dX6_here_1 ?_
  refine jx_aload_n (pc := 4) rfl dX6_here_4 ?_
  refine mm_g_end (pc := 5) fl_X6_55 dX6_here_5 ?_
  refine jx_icmp_ge (pc := 8) (tgt := 26) dX6_here_8 (by decide) (fun c1 => ?_) (fun c1 => ?_)
  · have h := jx_t c1 h
    refine jx_iconst (pc := 26) (v := (-1 : Int32)) (by decide) dX6_here_26 ?_
    cases h
    exact jx_iret (pc := 27) dX6_here_27
  · have h := jx_f c1 h
    refine jx_aload_n (pc := 11) rfl dX6_here_11 ?_
    refine mm_g_s (pc := 12) fl_X6_9 dX6_here_12 ?_
    refine jx_bipush (pc := 15) (v := (115 : Int32)) (by decide) dX6_here_15 ?_
    refine jx_aload_n (pc := 17) rfl dX6_here_17 ?_
    refine mm_g_spot (pc := 18) fl_X6_52 dX6_here_18 ?_
    refine jx_iadd (pc := 21) dX6_here_21 ?_
    obtain ⟨g2, h⟩ := jx_gd_o h
    refine mm_l_s (pc := 22) (jx_in_o g2) rfl dX6_here_22 ?_
    refine jx_goto (pc := 23) (tgt := 27) dX6_here_23 (by decide) ?_
    cases h
    exact jx_iret (pc := 27) dX6_here_27
theorem dX6_crowded_0 : decode cX6_crowded 0 = .ok (.iconst 0, 1) := by decide +kernel
theorem dX6_crowded_1 : decode cX6_crowded 1 = .ok (.istore_n 1, 1) := by decide +kernel
theorem dX6_crowded_2 : decode cX6_crowded 2 = .ok (.iconst (-1), 1) := by decide +kernel
theorem dX6_crowded_3 : decode cX6_crowded 3 = .ok (.istore_n 2, 1) := by decide +kernel
theorem dX6_crowded_4 : decode cX6_crowded 4 = .ok (.iconst 0, 1) := by decide +kernel
theorem dX6_crowded_5 : decode cX6_crowded 5 = .ok (.istore_n 3, 1) := by decide +kernel
theorem dX6_crowded_6 : decode cX6_crowded 6 = .ok (.iload_n 3, 1) := by decide +kernel
theorem dX6_crowded_7 : decode cX6_crowded 7 = .ok (.aload_n 0, 1) := by decide +kernel
theorem dX6_crowded_8 : decode cX6_crowded 8 = .ok (.getfield 9, 3) := by decide +kernel
theorem dX6_crowded_11 : decode cX6_crowded 11 = .ok (.bipush 6, 2) := by decide +kernel
theorem dX6_crowded_13 : decode cX6_crowded 13 = .ok (.iaload, 1) := by decide +kernel
theorem dX6_crowded_14 : decode cX6_crowded 14 = .ok (.if_icmp .ge 81, 3) := by decide +kernel
theorem dX6_crowded_17 : decode cX6_crowded 17 = .ok (.iconst 0, 1) := by decide +kernel
theorem dX6_crowded_18 : decode cX6_crowded 18 = .ok (.istore 4, 2) := by decide +kernel
theorem dX6_crowded_20 : decode cX6_crowded 20 = .ok (.iconst 0, 1) := by decide +kernel
theorem dX6_crowded_21 : decode cX6_crowded 21 = .ok (.istore 5, 2) := by decide +kernel
theorem dX6_crowded_23 : decode cX6_crowded 23 = .ok (.iload 5, 2) := by decide +kernel
theorem dX6_crowded_25 : decode cX6_crowded 25 = .ok (.aload_n 0, 1) := by decide +kernel
theorem dX6_crowded_26 : decode cX6_crowded 26 = .ok (.getfield 9, 3) := by decide +kernel
theorem dX6_crowded_29 : decode cX6_crowded 29 = .ok (.iconst 0, 1) := by decide +kernel
theorem dX6_crowded_30 : decode cX6_crowded 30 = .ok (.iaload, 1) := by decide +kernel
theorem dX6_crowded_31 : decode cX6_crowded 31 = .ok (.if_icmp .ge 33, 3) := by decide +kernel
theorem dX6_crowded_34 : decode cX6_crowded 34 = .ok (.iload 4, 2) := by decide +kernel
theorem dX6_crowded_36 : decode cX6_crowded 36 = .ok (.aload_n 0, 1) := by decide +kernel
theorem dX6_crowded_37 : decode cX6_crowded 37 = .ok (.getfield 9, 3) := by decide +kernel
theorem dX6_crowded_40 : decode cX6_crowded 40 = .ok (.bipush 43, 2) := by decide +kernel
theorem dX6_crowded_42 : decode cX6_crowded 42 = .ok (.iload 5, 2) := by decide +kernel
theorem dX6_crowded_44 : decode cX6_crowded 44 = .ok (.iadd, 1) := by decide +kernel
theorem dX6_crowded_45 : decode cX6_crowded 45 = .ok (.iaload, 1) := by decide +kernel
theorem dX6_crowded_46 : decode cX6_crowded 46 = .ok (.iload_n 3, 1) := by decide +kernel
theorem dX6_crowded_47 : decode cX6_crowded 47 = .ok (.if_icmp .ne 7, 3) := by decide +kernel
theorem dX6_crowded_50 : decode cX6_crowded 50 = .ok (.iconst 1, 1) := by decide +kernel
theorem dX6_crowded_51 : decode cX6_crowded 51 = .ok (.goto 4, 3) := by decide +kernel
theorem dX6_crowded_54 : decode cX6_crowded 54 = .ok (.iconst 0, 1) := by decide +kernel
theorem dX6_crowded_55 : decode cX6_crowded 55 = .ok (.iadd, 1) := by decide +kernel
theorem dX6_crowded_56 : decode cX6_crowded 56 = .ok (.istore 4, 2) := by decide +kernel
theorem dX6_crowded_58 : decode cX6_crowded 58 = .ok (.iinc 5 1, 3) := by decide +kernel
theorem dX6_crowded_61 : decode cX6_crowded 61 = .ok (.goto (-38), 3) := by decide +kernel
theorem dX6_crowded_64 : decode cX6_crowded 64 = .ok (.iload 4, 2) := by decide +kernel
theorem dX6_crowded_66 : decode cX6_crowded 66 = .ok (.iload_n 2, 1) := by decide +kernel
theorem dX6_crowded_67 : decode cX6_crowded 67 = .ok (.if_icmp .le 7, 3) := by decide +kernel
theorem dX6_crowded_70 : decode cX6_crowded 70 = .ok (.iload_n 3, 1) := by decide +kernel
theorem dX6_crowded_71 : decode cX6_crowded 71 = .ok (.goto 4, 3) := by decide +kernel
theorem dX6_crowded_74 : decode cX6_crowded 74 = .ok (.iload_n 1, 1) := by decide +kernel
theorem dX6_crowded_75 : decode cX6_crowded 75 = .ok (.istore_n 1, 1) := by decide +kernel
theorem dX6_crowded_76 : decode cX6_crowded 76 = .ok (.iload 4, 2) := by decide +kernel
theorem dX6_crowded_78 : decode cX6_crowded 78 = .ok (.iload_n 2, 1) := by decide +kernel
theorem dX6_crowded_79 : decode cX6_crowded 79 = .ok (.if_icmp .le 8, 3) := by decide +kernel
theorem dX6_crowded_82 : decode cX6_crowded 82 = .ok (.iload 4, 2) := by decide +kernel
theorem dX6_crowded_84 : decode cX6_crowded 84 = .ok (.goto 4, 3) := by decide +kernel
theorem dX6_crowded_87 : decode cX6_crowded 87 = .ok (.iload_n 2, 1) := by decide +kernel
theorem dX6_crowded_88 : decode cX6_crowded 88 = .ok (.istore_n 2, 1) := by decide +kernel
theorem dX6_crowded_89 : decode cX6_crowded 89 = .ok (.iinc 3 1, 3) := by decide +kernel
theorem dX6_crowded_92 : decode cX6_crowded 92 = .ok (.goto (-86), 3) := by decide +kernel
theorem dX6_crowded_95 : decode cX6_crowded 95 = .ok (.iload_n 1, 1) := by decide +kernel
theorem dX6_crowded_96 : decode cX6_crowded 96 = .ok (.ireturn, 1) := by decide +kernel
abbrev rm_X6_crowded : Room := { frames := 0, cells := 0, slots := 0, locals := 0 }
abbrev jJ_X6_crowded (l : Launch) (G : jx_G) (sz : Nat) (σ0 : jx_M) (out : Int32) (pc : Nat) (lv : List (Nat × Value)) (st : List Value) (σ : jx_M) : Prop := jx_J l (mm_env G) (mm_dyn G) (mm_rg G) sz RX6 "crowded" cX6_crowded 6 (some .int) rm_X6_crowded (fun below args s => MQ below (jx_Qi (mm_dyn G) σ0 out (jx_A (mm_rg G) sz)) args s 0 0 (jx_A (mm_rg G) sz)) 0 0 pc lv st σ
def b_X6_crowded_55 (k6 : jx_M → Int32 → Int32 → Int32 → Option Int32) (k23 : jx_M → Int32 → Int32 → Int32 → Int32 → Int32 → Option Int32) (σ : jx_M) (v1 : Int32) (v2 : Int32) (v3 : Int32) (v5 : Int32) (s0 : Int32) (s1 : Int32) : Option Int32 :=
  jx_lt ((s1 + s0)) (fun x1 => jx_lt (v5 + (1 : Int32)) (fun x2 => (k23 σ v1 v2 v3 x1 x2)))
set_option maxHeartbeats 4000000 in
set_option maxRecDepth 100000 in
theorem jb_X6_crowded_55 (l : Launch) (G : jx_G) (hG : mm_ok G) (sz : Nat) (σ0 : jx_M) (out : Int32) (k6 : jx_M → Int32 → Int32 → Int32 → Option Int32) (h6 : ∀ (σ : jx_M) (v1 : Int32) (v2 : Int32) (v3 : Int32), σ = σ0 → k6 σ v1 v2 v3 = some out → jJ_X6_crowded l G sz σ0 out 6 [(0, .ref (G.2 10)), (1, .int v1), (2, .int v2), (3, .int v3)] [] σ) (k23 : jx_M → Int32 → Int32 → Int32 → Int32 → Int32 → Option Int32) (h23 : ∀ (σ : jx_M) (v1 : Int32) (v2 : Int32) (v3 : Int32) (v4 : Int32) (v5 : Int32), σ = σ0 → k23 σ v1 v2 v3 v4 v5 = some out → jJ_X6_crowded l G sz σ0 out 23 [(0, .ref (G.2 10)), (1, .int v1), (2, .int v2), (3, .int v3), (4, .int v4), (5, .int v5)] [] σ) (σ : jx_M) (v1 : Int32) (v2 : Int32) (v3 : Int32) (v5 : Int32) (s0 : Int32) (s1 : Int32) (e0 : σ = σ0) (h : b_X6_crowded_55 k6 k23 σ v1 v2 v3 v5 s0 s1 = some out) : jJ_X6_crowded l G sz σ0 out 55 [(0, .ref (G.2 10)), (1, .int v1), (2, .int v2), (3, .int v3), (5, .int v5)] [.int s0, .int s1] σ := by
  unfold b_X6_crowded_55 at h
  refine jx_iadd (pc := 55) dX6_crowded_55 ?_
  obtain ⟨x1, ex1, h⟩ := jx_lt_o h
  refine jx_istore (pc := 56) (i := 4) ex1 (by decide) (lv' := [(4, .int x1), (0, .ref (G.2 10)), (1, .int v1), (2, .int v2), (3, .int v3), (5, .int v5)]) rfl dX6_crowded_56 ?_
  obtain ⟨x2, ex2, h⟩ := jx_lt_o h
  refine jx_iinc (pc := 58) (v := v5) rfl ex2 (by decide) (lv' := [(5, .int x2), (4, .int x1), (0, .ref (G.2 10)), (1, .int v1), (2, .int v2), (3, .int v3)]) rfl dX6_crowded_58 ?_
  refine jx_goto (pc := 61) (tgt := 23) dX6_crowded_61 (by decide) ?_
  exact jx_sub [2, 3, 4, 5, 1, 0] rfl (h23 σ v1 v2 v3 x1 x2 e0 h)
def b_X6_crowded_88 (k6 : jx_M → Int32 → Int32 → Int32 → Option Int32) (σ : jx_M) (v1 : Int32) (v3 : Int32) (s0 : Int32) : Option Int32 :=
  jx_lt (v3 + (1 : Int32)) (fun x1 => (k6 σ v1 s0 x1))
set_option maxHeartbeats 4000000 in
set_option maxRecDepth 100000 in
theorem jb_X6_crowded_88 (l : Launch) (G : jx_G) (hG : mm_ok G) (sz : Nat) (σ0 : jx_M) (out : Int32) (k6 : jx_M → Int32 → Int32 → Int32 → Option Int32) (h6 : ∀ (σ : jx_M) (v1 : Int32) (v2 : Int32) (v3 : Int32), σ = σ0 → k6 σ v1 v2 v3 = some out → jJ_X6_crowded l G sz σ0 out 6 [(0, .ref (G.2 10)), (1, .int v1), (2, .int v2), (3, .int v3)] [] σ) (σ : jx_M) (v1 : Int32) (v3 : Int32) (s0 : Int32) (e0 : σ = σ0) (h : b_X6_crowded_88 k6 σ v1 v3 s0 = some out) : jJ_X6_crowded l G sz σ0 out 88 [(0, .ref (G.2 10)), (1, .int v1), (3, .int v3)] [.int s0] σ := by
  unfold b_X6_crowded_88 at h
  refine jx_istore_n (pc := 88) (i := 2) rfl rfl (by decide) (lv' := [(2, .int s0), (0, .ref (G.2 10)), (1, .int v1), (3, .int v3)]) rfl dX6_crowded_88 ?_
  obtain ⟨x1, ex1, h⟩ := jx_lt_o h
  refine jx_iinc (pc := 89) (v := v3) rfl ex1 (by decide) (lv' := [(3, .int x1), (2, .int s0), (0, .ref (G.2 10)), (1, .int v1)]) rfl dX6_crowded_89 ?_
  refine jx_goto (pc := 92) (tgt := 6) dX6_crowded_92 (by decide) ?_
  exact jx_sub [2, 3, 1, 0] rfl (h6 σ v1 s0 x1 e0 h)
def b_X6_crowded_75 (k6 : jx_M → Int32 → Int32 → Int32 → Option Int32) (σ : jx_M) (v2 : Int32) (v3 : Int32) (v4 : Int32) (s0 : Int32) : Option Int32 :=
  if v4 ≤ v2 then (b_X6_crowded_88 k6 σ s0 v3 v2) else (b_X6_crowded_88 k6 σ s0 v3 v4)
set_option maxHeartbeats 4000000 in
set_option maxRecDepth 100000 in
theorem jb_X6_crowded_75 (l : Launch) (G : jx_G) (hG : mm_ok G) (sz : Nat) (σ0 : jx_M) (out : Int32) (k6 : jx_M → Int32 → Int32 → Int32 → Option Int32) (h6 : ∀ (σ : jx_M) (v1 : Int32) (v2 : Int32) (v3 : Int32), σ = σ0 → k6 σ v1 v2 v3 = some out → jJ_X6_crowded l G sz σ0 out 6 [(0, .ref (G.2 10)), (1, .int v1), (2, .int v2), (3, .int v3)] [] σ) (σ : jx_M) (v2 : Int32) (v3 : Int32) (v4 : Int32) (s0 : Int32) (e0 : σ = σ0) (h : b_X6_crowded_75 k6 σ v2 v3 v4 s0 = some out) : jJ_X6_crowded l G sz σ0 out 75 [(0, .ref (G.2 10)), (2, .int v2), (3, .int v3), (4, .int v4)] [.int s0] σ := by
  unfold b_X6_crowded_75 at h
  refine jx_istore_n (pc := 75) (i := 1) rfl rfl (by decide) (lv' := [(1, .int s0), (0, .ref (G.2 10)), (2, .int v2), (3, .int v3), (4, .int v4)]) rfl dX6_crowded_75 ?_
  refine jx_iload (pc := 76) rfl dX6_crowded_76 ?_
  refine jx_iload_n (pc := 78) rfl dX6_crowded_78 ?_
  refine jx_icmp_le (pc := 79) (tgt := 87) dX6_crowded_79 (by decide) (fun c1 => ?_) (fun c1 => ?_)
  · have h := jx_t c1 h
    refine jx_iload_n (pc := 87) rfl dX6_crowded_87 ?_
    exact jx_sub [1, 0, 3] rfl (jb_X6_crowded_88 l G hG sz σ0 out k6 h6 σ s0 v3 v2 e0 h)
  · have h := jx_f c1 h
    refine jx_iload (pc := 82) rfl dX6_crowded_82 ?_
    refine jx_goto (pc := 84) (tgt := 88) dX6_crowded_84 (by decide) ?_
    exact jx_sub [1, 0, 3] rfl (jb_X6_crowded_88 l G hG sz σ0 out k6 h6 σ s0 v3 v4 e0 h)
def g_X6_crowded_23 (k6 : jx_M → Int32 → Int32 → Int32 → Option Int32) (k23 : jx_M → Int32 → Int32 → Int32 → Int32 → Int32 → Option Int32) (σ : jx_M) (v1 : Int32) (v2 : Int32) (v3 : Int32) (v4 : Int32) (v5 : Int32) : Option Int32 :=
  if (σ 1 0) ≤ v5 then if v4 ≤ v2 then (b_X6_crowded_75 k6 σ v2 v3 v4 v1) else (b_X6_crowded_75 k6 σ v2 v3 v4 v3) else jx_gd (jx_in ((43 : Int32) + v5) 920) (if (σ 1 ((43 : Int32) + v5).toNatClampNeg) = v3 then (b_X6_crowded_55 k6 k23 σ v1 v2 v3 v5 (1 : Int32) v4) else (b_X6_crowded_55 k6 k23 σ v1 v2 v3 v5 (0 : Int32) v4))
set_option maxHeartbeats 4000000 in
set_option maxRecDepth 100000 in
theorem jg_X6_crowded_23 (l : Launch) (G : jx_G) (hG : mm_ok G) (sz : Nat) (σ0 : jx_M) (out : Int32) (k6 : jx_M → Int32 → Int32 → Int32 → Option Int32) (h6 : ∀ (σ : jx_M) (v1 : Int32) (v2 : Int32) (v3 : Int32), σ = σ0 → k6 σ v1 v2 v3 = some out → jJ_X6_crowded l G sz σ0 out 6 [(0, .ref (G.2 10)), (1, .int v1), (2, .int v2), (3, .int v3)] [] σ) (k23 : jx_M → Int32 → Int32 → Int32 → Int32 → Int32 → Option Int32) (h23 : ∀ (σ : jx_M) (v1 : Int32) (v2 : Int32) (v3 : Int32) (v4 : Int32) (v5 : Int32), σ = σ0 → k23 σ v1 v2 v3 v4 v5 = some out → jJ_X6_crowded l G sz σ0 out 23 [(0, .ref (G.2 10)), (1, .int v1), (2, .int v2), (3, .int v3), (4, .int v4), (5, .int v5)] [] σ) (σ : jx_M) (v1 : Int32) (v2 : Int32) (v3 : Int32) (v4 : Int32) (v5 : Int32) (e0 : σ = σ0) (h : g_X6_crowded_23 k6 k23 σ v1 v2 v3 v4 v5 = some out) : jJ_X6_crowded l G sz σ0 out 23 [(0, .ref (G.2 10)), (1, .int v1), (2, .int v2), (3, .int v3), (4, .int v4), (5, .int v5)] [] σ := by
  unfold g_X6_crowded_23 at h
  refine jx_iload (pc := 23) rfl dX6_crowded_23 ?_
  refine jx_aload_n (pc := 25) rfl dX6_crowded_25 ?_
  refine mm_g_s (pc := 26) fl_X6_9 dX6_crowded_26 ?_
  refine jx_iconst (pc := 29) (v := (0 : Int32)) (by decide) dX6_crowded_29 ?_
  refine mm_l_s (pc := 30) (j := 0) (jx_in_o (by decide)) (by decide) dX6_crowded_30 ?_
  refine jx_icmp_ge (pc := 31) (tgt := 64) dX6_crowded_31 (by decide) (fun c1 => ?_) (fun c1 => ?_)
  · have h := jx_t c1 h
    refine jx_iload (pc := 64) rfl dX6_crowded_64 ?_
    refine jx_iload_n (pc := 66) rfl dX6_crowded_66 ?_
    refine jx_icmp_le (pc := 67) (tgt := 74) dX6_crowded_67 (by decide) (fun c2 => ?_) (fun c2 => ?_)
    · have h := jx_t c2 h
      refine jx_iload_n (pc := 74) rfl dX6_crowded_74 ?_
      exact jx_sub [0, 2, 3, 4] rfl (jb_X6_crowded_75 l G hG sz σ0 out k6 h6 σ v2 v3 v4 v1 e0 h)
    · have h := jx_f c2 h
      refine jx_iload_n (pc := 70) rfl dX6_crowded_70 ?_
      refine jx_goto (pc := 71) (tgt := 75) dX6_crowded_71 (by decide) ?_
      exact jx_sub [0, 2, 3, 4] rfl (jb_X6_crowded_75 l G hG sz σ0 out k6 h6 σ v2 v3 v4 v3 e0 h)
  · have h := jx_f c1 h
    refine jx_iload (pc := 34) rfl dX6_crowded_34 ?_
    refine jx_aload_n (pc := 36) rfl dX6_crowded_36 ?_
    refine mm_g_s (pc := 37) fl_X6_9 dX6_crowded_37 ?_
    refine jx_bipush (pc := 40) (v := (43 : Int32)) (by decide) dX6_crowded_40 ?_
    refine jx_iload (pc := 42) rfl dX6_crowded_42 ?_
    refine jx_iadd (pc := 44) dX6_crowded_44 ?_
    obtain ⟨g3, h⟩ := jx_gd_o h
    refine mm_l_s (pc := 45) (jx_in_o g3) rfl dX6_crowded_45 ?_
    refine jx_iload_n (pc := 46) rfl dX6_crowded_46 ?_
    refine jx_icmp_ne (pc := 47) (tgt := 54) dX6_crowded_47 (by decide) (fun c4 => ?_) (fun c4 => ?_)
    · have h := jx_f c4 h
      refine jx_iconst (pc := 54) (v := (0 : Int32)) (by decide) dX6_crowded_54 ?_
      exact jx_sub [0, 1, 2, 3, 5] rfl (jb_X6_crowded_55 l G hG sz σ0 out k6 h6 k23 h23 σ v1 v2 v3 v5 (0 : Int32) v4 e0 h)
    · have h := jx_t c4 h
      refine jx_iconst (pc := 50) (v := (1 : Int32)) (by decide) dX6_crowded_50 ?_
      refine jx_goto (pc := 51) (tgt := 55) dX6_crowded_51 (by decide) ?_
      exact jx_sub [0, 1, 2, 3, 5] rfl (jb_X6_crowded_55 l G hG sz σ0 out k6 h6 k23 h23 σ v1 v2 v3 v5 (1 : Int32) v4 e0 h)
def b_X6_crowded_23 (k6 : jx_M → Int32 → Int32 → Int32 → Option Int32) : Nat → jx_M → Int32 → Int32 → Int32 → Int32 → Int32 → Option Int32
  | 0, _, _, _, _, _, _ => none
  | n + 1, σ, v1, v2, v3, v4, v5 => g_X6_crowded_23 k6 (b_X6_crowded_23 k6 n) σ v1 v2 v3 v4 v5
theorem jb_X6_crowded_23 (l : Launch) (G : jx_G) (hG : mm_ok G) (sz : Nat) (σ0 : jx_M) (out : Int32) (k6 : jx_M → Int32 → Int32 → Int32 → Option Int32) (h6 : ∀ (σ : jx_M) (v1 : Int32) (v2 : Int32) (v3 : Int32), σ = σ0 → k6 σ v1 v2 v3 = some out → jJ_X6_crowded l G sz σ0 out 6 [(0, .ref (G.2 10)), (1, .int v1), (2, .int v2), (3, .int v3)] [] σ) : ∀ (n : Nat) (σ : jx_M) (v1 : Int32) (v2 : Int32) (v3 : Int32) (v4 : Int32) (v5 : Int32), σ = σ0 → b_X6_crowded_23 k6 n σ v1 v2 v3 v4 v5 = some out → jJ_X6_crowded l G sz σ0 out 23 [(0, .ref (G.2 10)), (1, .int v1), (2, .int v2), (3, .int v3), (4, .int v4), (5, .int v5)] [] σ := by
  intro n
  induction n with
  | zero =>
    intro σ v1 v2 v3 v4 v5 e0 h
    cases h
  | succ n ih =>
    intro σ v1 v2 v3 v4 v5 e0 h
    exact jg_X6_crowded_23 l G hG sz σ0 out k6 h6 (b_X6_crowded_23 k6 n) ih σ v1 v2 v3 v4 v5 e0 h
def g_X6_crowded_6 (k6 : jx_M → Int32 → Int32 → Int32 → Option Int32) (σ : jx_M) (v1 : Int32) (v2 : Int32) (v3 : Int32) : Option Int32 :=
  if (σ 1 6) ≤ v3 then some v1 else (b_X6_crowded_23 k6 jx_fuel σ v1 v2 v3 (0 : Int32) (0 : Int32))
set_option maxHeartbeats 4000000 in
set_option maxRecDepth 100000 in
theorem jg_X6_crowded_6 (l : Launch) (G : jx_G) (hG : mm_ok G) (sz : Nat) (σ0 : jx_M) (out : Int32) (k6 : jx_M → Int32 → Int32 → Int32 → Option Int32) (h6 : ∀ (σ : jx_M) (v1 : Int32) (v2 : Int32) (v3 : Int32), σ = σ0 → k6 σ v1 v2 v3 = some out → jJ_X6_crowded l G sz σ0 out 6 [(0, .ref (G.2 10)), (1, .int v1), (2, .int v2), (3, .int v3)] [] σ) (σ : jx_M) (v1 : Int32) (v2 : Int32) (v3 : Int32) (e0 : σ = σ0) (h : g_X6_crowded_6 k6 σ v1 v2 v3 = some out) : jJ_X6_crowded l G sz σ0 out 6 [(0, .ref (G.2 10)), (1, .int v1), (2, .int v2), (3, .int v3)] [] σ := by
  unfold g_X6_crowded_6 at h
  refine jx_iload_n (pc := 6) rfl dX6_crowded_6 ?_
  refine jx_aload_n (pc := 7) rfl dX6_crowded_7 ?_
  refine mm_g_s (pc := 8) fl_X6_9 dX6_crowded_8 ?_
  refine jx_bipush (pc := 11) (v := (6 : Int32)) (by decide) dX6_crowded_11 ?_
  refine mm_l_s (pc := 13) (j := 6) (jx_in_o (by decide)) (by decide) dX6_crowded_13 ?_
  refine jx_icmp_ge (pc := 14) (tgt := 95) dX6_crowded_14 (by decide) (fun c1 => ?_) (fun c1 => ?_)
  · have h := jx_t c1 h
    refine jx_iload_n (pc := 95) rfl dX6_crowded_95 ?_
    subst e0
    cases h
    exact jx_iret (pc := 96) dX6_crowded_96
  · have h := jx_f c1 h
    refine jx_iconst (pc := 17) (v := (0 : Int32)) (by decide) dX6_crowded_17 ?_
    refine jx_istore (pc := 18) (i := 4) rfl (by decide) (lv' := [(4, .int (0 : Int32)), (0, .ref (G.2 10)), (1, .int v1), (2, .int v2), (3, .int v3)]) rfl dX6_crowded_18 ?_
    refine jx_iconst (pc := 20) (v := (0 : Int32)) (by decide) dX6_crowded_20 ?_
    refine jx_istore (pc := 21) (i := 5) rfl (by decide) (lv' := [(5, .int (0 : Int32)), (4, .int (0 : Int32)), (0, .ref (G.2 10)), (1, .int v1), (2, .int v2), (3, .int v3)]) rfl dX6_crowded_21 ?_
    exact jx_sub [2, 3, 4, 5, 1, 0] rfl (jb_X6_crowded_23 l G hG sz σ0 out k6 h6 jx_fuel σ v1 v2 v3 (0 : Int32) (0 : Int32) e0 h)
def b_X6_crowded_6  : Nat → jx_M → Int32 → Int32 → Int32 → Option Int32
  | 0, _, _, _, _ => none
  | n + 1, σ, v1, v2, v3 => g_X6_crowded_6 (b_X6_crowded_6 n) σ v1 v2 v3
theorem jb_X6_crowded_6 (l : Launch) (G : jx_G) (hG : mm_ok G) (sz : Nat) (σ0 : jx_M) (out : Int32)  : ∀ (n : Nat) (σ : jx_M) (v1 : Int32) (v2 : Int32) (v3 : Int32), σ = σ0 → b_X6_crowded_6 n σ v1 v2 v3 = some out → jJ_X6_crowded l G sz σ0 out 6 [(0, .ref (G.2 10)), (1, .int v1), (2, .int v2), (3, .int v3)] [] σ := by
  intro n
  induction n with
  | zero =>
    intro σ v1 v2 v3 e0 h
    cases h
  | succ n ih =>
    intro σ v1 v2 v3 e0 h
    exact jg_X6_crowded_6 l G hG sz σ0 out (b_X6_crowded_6 n) ih σ v1 v2 v3 e0 h
def f_X6_crowded (σ : jx_M)  : Option Int32 :=
  (b_X6_crowded_6 jx_fuel σ (0 : Int32) (-1 : Int32) (0 : Int32))
set_option maxHeartbeats 4000000 in
set_option maxRecDepth 100000 in
theorem k_X6_crowded (l : Launch) (G : jx_G) (hG : mm_ok G) (sz : Nat) (σ : jx_M)  (out : Int32) (h : f_X6_crowded σ = some out) : Met l yX6_crowded (Cond.code yX6_crowded cX6_crowded 6 (some .int) :: jx_ws) rm_X6_crowded (jx_Pc (mm_env G) (mm_dyn G) (mm_rg G) sz σ [.ref (G.2 10)]) (jx_Qi (mm_dyn G) σ out (jx_A (mm_rg G) sz)) 0 0 (jx_A (mm_rg G) sz) := by
  unfold f_X6_crowded at h
  refine jx_met (by decide) (Nat.le_of_ble_eq_true rfl) ?_
  refine jx_sub (lv' := [(0, .ref (G.2 10))]) [0] rfl ?_
  refine jx_iconst (pc := 0) (v := (0 : Int32)) (by decide) dX6_crowded_0 ?_
  refine jx_istore_n (pc := 1) (i := 1) rfl rfl (by decide) (lv' := [(1, .int (0 : Int32)), (0, .ref (G.2 10))]) rfl dX6_crowded_1 ?_
  refine jx_iconst (pc := 2) (v := (-1 : Int32)) (by decide) dX6_crowded_2 ?_
  refine jx_istore_n (pc := 3) (i := 2) rfl rfl (by decide) (lv' := [(2, .int (-1 : Int32)), (1, .int (0 : Int32)), (0, .ref (G.2 10))]) rfl dX6_crowded_3 ?_
  refine jx_iconst (pc := 4) (v := (0 : Int32)) (by decide) dX6_crowded_4 ?_
  refine jx_istore_n (pc := 5) (i := 3) rfl rfl (by decide) (lv' := [(3, .int (0 : Int32)), (2, .int (-1 : Int32)), (1, .int (0 : Int32)), (0, .ref (G.2 10))]) rfl dX6_crowded_5 ?_
  exact jx_sub [3, 2, 1, 0] rfl (jb_X6_crowded_6 l G hG sz σ out jx_fuel σ (0 : Int32) (-1 : Int32) (0 : Int32) rfl h)
theorem dX6_greater_0 : decode cX6_greater 0 = .ok (.iload_n 0, 1) := by decide +kernel
theorem dX6_greater_1 : decode cX6_greater 1 = .ok (.iload_n 1, 1) := by decide +kernel
theorem dX6_greater_2 : decode cX6_greater 2 = .ok (.if_icmp .ne 8, 3) := by decide +kernel
theorem dX6_greater_5 : decode cX6_greater 5 = .ok (.bipush (-5), 2) := by decide +kernel
theorem dX6_greater_7 : decode cX6_greater 7 = .ok (.goto 13, 3) := by decide +kernel
theorem dX6_greater_10 : decode cX6_greater 10 = .ok (.iload_n 0, 1) := by decide +kernel
theorem dX6_greater_11 : decode cX6_greater 11 = .ok (.iload_n 1, 1) := by decide +kernel
theorem dX6_greater_12 : decode cX6_greater 12 = .ok (.if_icmp .le 7, 3) := by decide +kernel
theorem dX6_greater_15 : decode cX6_greater 15 = .ok (.iconst 0, 1) := by decide +kernel
theorem dX6_greater_16 : decode cX6_greater 16 = .ok (.goto 4, 3) := by decide +kernel
theorem dX6_greater_19 : decode cX6_greater 19 = .ok (.iconst 1, 1) := by decide +kernel
theorem dX6_greater_20 : decode cX6_greater 20 = .ok (.ireturn, 1) := by decide +kernel
abbrev rm_X6_greater : Room := { frames := 0, cells := 0, slots := 0, locals := 0 }
abbrev jJ_X6_greater (l : Launch) (G : jx_G) (sz : Nat) (σ0 : jx_M) (out : Int32) (pc : Nat) (lv : List (Nat × Value)) (st : List Value) (σ : jx_M) : Prop := jx_J l (mm_env G) (mm_dyn G) (mm_rg G) sz RX6 "greater" cX6_greater 2 (some .int) rm_X6_greater (fun below args s => MQ below (jx_Qi (mm_dyn G) σ0 out (jx_A (mm_rg G) sz)) args s 0 0 (jx_A (mm_rg G) sz)) 0 0 pc lv st σ
def f_X6_greater (a0 : Int32) (a1 : Int32) : Option Int32 :=
  if a0 = a1 then some (-5 : Int32) else if a0 ≤ a1 then some (1 : Int32) else some (0 : Int32)
set_option maxHeartbeats 4000000 in
set_option maxRecDepth 100000 in
theorem k_X6_greater (l : Launch) (G : jx_G) (hG : mm_ok G) (sz : Nat) (σ : jx_M) (a0 : Int32) (a1 : Int32) (out : Int32) (h : f_X6_greater a0 a1 = some out) : Met l yX6_greater (Cond.code yX6_greater cX6_greater 2 (some .int) :: jx_ws) rm_X6_greater (jx_Pc (mm_env G) (mm_dyn G) (mm_rg G) sz σ [.int a0, .int a1]) (jx_Qi (mm_dyn G) σ out (jx_A (mm_rg G) sz)) 0 0 (jx_A (mm_rg G) sz) := by
  unfold f_X6_greater at h
  refine jx_met (by decide) (Nat.le_of_ble_eq_true rfl) ?_
  refine jx_sub (lv' := [(0, .int a0), (1, .int a1)]) [0, 1] rfl ?_
  refine jx_iload_n (pc := 0) rfl dX6_greater_0 ?_
  refine jx_iload_n (pc := 1) rfl dX6_greater_1 ?_
  refine jx_icmp_ne (pc := 2) (tgt := 10) dX6_greater_2 (by decide) (fun c1 => ?_) (fun c1 => ?_)
  · have h := jx_f c1 h
    refine jx_iload_n (pc := 10) rfl dX6_greater_10 ?_
    refine jx_iload_n (pc := 11) rfl dX6_greater_11 ?_
    refine jx_icmp_le (pc := 12) (tgt := 19) dX6_greater_12 (by decide) (fun c2 => ?_) (fun c2 => ?_)
    · have h := jx_t c2 h
      refine jx_iconst (pc := 19) (v := (1 : Int32)) (by decide) dX6_greater_19 ?_
      cases h
      exact jx_iret (pc := 20) dX6_greater_20
    · have h := jx_f c2 h
      refine jx_iconst (pc := 15) (v := (0 : Int32)) (by decide) dX6_greater_15 ?_
      refine jx_goto (pc := 16) (tgt := 20) dX6_greater_16 (by decide) ?_
      cases h
      exact jx_iret (pc := 20) dX6_greater_20
  · have h := jx_t c1 h
    refine jx_bipush (pc := 5) (v := (-5 : Int32)) (by decide) dX6_greater_5 ?_
    refine jx_goto (pc := 7) (tgt := 20) dX6_greater_7 (by decide) ?_
    cases h
    exact jx_iret (pc := 20) dX6_greater_20
theorem dX6_isPlace_0 : decode cX6_isPlace 0 = .ok (.iload_n 1, 1) := by decide +kernel
theorem dX6_isPlace_1 : decode cX6_isPlace 1 = .ok (.iconst 0, 1) := by decide +kernel
theorem dX6_isPlace_2 : decode cX6_isPlace 2 = .ok (.aload_n 0, 1) := by decide +kernel
theorem dX6_isPlace_3 : decode cX6_isPlace 3 = .ok (.getfield 9, 3) := by decide +kernel
theorem dX6_isPlace_6 : decode cX6_isPlace 6 = .ok (.bipush 6, 2) := by decide +kernel
theorem dX6_isPlace_8 : decode cX6_isPlace 8 = .ok (.iaload, 1) := by decide +kernel
theorem dX6_isPlace_9 : decode cX6_isPlace 9 = .ok (.iconst 1, 1) := by decide +kernel
theorem dX6_isPlace_10 : decode cX6_isPlace 10 = .ok (.isub, 1) := by decide +kernel
theorem dX6_isPlace_11 : decode cX6_isPlace 11 = .ok (.invokestatic 48, 3) := by decide +kernel
theorem dX6_isPlace_14 : decode cX6_isPlace 14 = .ok (.ireturn, 1) := by decide +kernel
abbrev rm_X6_isPlace : Room := { frames := 1, cells := 0, slots := 0, locals := 22 }
abbrev jJ_X6_isPlace (l : Launch) (G : jx_G) (sz : Nat) (σ0 : jx_M) (out : Int32) (pc : Nat) (lv : List (Nat × Value)) (st : List Value) (σ : jx_M) : Prop := jx_J l (mm_env G) (mm_dyn G) (mm_rg G) sz RX6 "isPlace" cX6_isPlace 2 (some .boolean) rm_X6_isPlace (fun below args s => MQ below (jx_Qi (mm_dyn G) σ0 out (jx_A (mm_rg G) sz)) args s 0 0 (jx_A (mm_rg G) sz)) 0 0 pc lv st σ
def f_X6_isPlace (σ : jx_M) (a1 : Int32) : Option Int32 :=
  jx_bd (f_X6_in a1 (0 : Int32) ((σ 1 6) - (1 : Int32))) (fun q1 => jx_gd (decide (q1 = 0 ∨ q1 = 1)) (some q1))
set_option maxHeartbeats 4000000 in
set_option maxRecDepth 100000 in
theorem k_X6_isPlace (l : Launch) (G : jx_G) (hG : mm_ok G) (sz : Nat) (σ : jx_M) (a1 : Int32) (out : Int32) (h : f_X6_isPlace σ a1 = some out) : Met l yX6_isPlace (Cond.code yX6_isPlace cX6_isPlace 2 (some .boolean) :: jx_ws) rm_X6_isPlace (jx_Pc (mm_env G) (mm_dyn G) (mm_rg G) sz σ [.ref (G.2 10), .int a1]) (jx_Qi (mm_dyn G) σ out (jx_A (mm_rg G) sz)) 0 0 (jx_A (mm_rg G) sz) := by
  unfold f_X6_isPlace at h
  refine jx_met (by decide) (Nat.le_of_ble_eq_true rfl) ?_
  refine jx_sub (lv' := [(0, .ref (G.2 10)), (1, .int a1)]) [0, 1] rfl ?_
  refine jx_iload_n (pc := 0) rfl dX6_isPlace_0 ?_
  refine jx_iconst (pc := 1) (v := (0 : Int32)) (by decide) dX6_isPlace_1 ?_
  refine jx_aload_n (pc := 2) rfl dX6_isPlace_2 ?_
  refine mm_g_s (pc := 3) fl_X6_9 dX6_isPlace_3 ?_
  refine jx_bipush (pc := 6) (v := (6 : Int32)) (by decide) dX6_isPlace_6 ?_
  refine mm_l_s (pc := 8) (j := 6) (jx_in_o (by decide)) (by decide) dX6_isPlace_8 ?_
  refine jx_iconst (pc := 9) (v := (1 : Int32)) (by decide) dX6_isPlace_9 ?_
  refine jx_isub (pc := 10) dX6_isPlace_10 ?_
  obtain ⟨q1, eq1, h⟩ := jx_bd_o h
  refine jx_callSi (pc := 11) [.int a1, .int (0 : Int32), .int ((σ 1 6) - (1 : Int32))] (fun sz' => k_X6_in l G hG sz' σ a1 (0 : Int32) ((σ 1 6) - (1 : Int32)) q1 eq1) ks_X6_48 mm_jok rfl rfl (Nat.le_of_ble_eq_true rfl) ⟨⟨rfl, rfl⟩, ⟨Nat.le_of_ble_eq_true rfl, Nat.le_of_ble_eq_true rfl⟩, Nat.zero_le _, Nat.zero_le _⟩ dX6_isPlace_11 ?_
  obtain ⟨g2, h⟩ := jx_gd_o h
  cases h
  exact jx_zret (pc := 14) (of_decide_eq_true g2) dX6_isPlace_14
theorem dX6_feed_0 : decode cX6_feed 0 = .ok (.iload_n 1, 1) := by decide +kernel
theorem dX6_feed_1 : decode cX6_feed 1 = .ok (.iconst 0, 1) := by decide +kernel
theorem dX6_feed_2 : decode cX6_feed 2 = .ok (.bipush 127, 2) := by decide +kernel
theorem dX6_feed_4 : decode cX6_feed 4 = .ok (.invokestatic 48, 3) := by decide +kernel
theorem dX6_feed_7 : decode cX6_feed 7 = .ok (.ifCond .ne 6, 3) := by decide +kernel
theorem dX6_feed_10 : decode cX6_feed 10 = .ok (.bipush (-2), 2) := by decide +kernel
theorem dX6_feed_12 : decode cX6_feed 12 = .ok (.ireturn, 1) := by decide +kernel
theorem dX6_feed_13 : decode cX6_feed 13 = .ok (.aload_n 0, 1) := by decide +kernel
theorem dX6_feed_14 : decode cX6_feed 14 = .ok (.getfield 9, 3) := by decide +kernel
theorem dX6_feed_17 : decode cX6_feed 17 = .ok (.iconst 4, 1) := by decide +kernel
theorem dX6_feed_18 : decode cX6_feed 18 = .ok (.iaload, 1) := by decide +kernel
theorem dX6_feed_19 : decode cX6_feed 19 = .ok (.bipush 100, 2) := by decide +kernel
theorem dX6_feed_21 : decode cX6_feed 21 = .ok (.if_icmp .ne 6, 3) := by decide +kernel
theorem dX6_feed_24 : decode cX6_feed 24 = .ok (.bipush (-4), 2) := by decide +kernel
theorem dX6_feed_26 : decode cX6_feed 26 = .ok (.ireturn, 1) := by decide +kernel
theorem dX6_feed_27 : decode cX6_feed 27 = .ok (.aload_n 0, 1) := by decide +kernel
theorem dX6_feed_28 : decode cX6_feed 28 = .ok (.getfield 9, 3) := by decide +kernel
theorem dX6_feed_31 : decode cX6_feed 31 = .ok (.bipush 115, 2) := by decide +kernel
theorem dX6_feed_33 : decode cX6_feed 33 = .ok (.aload_n 0, 1) := by decide +kernel
theorem dX6_feed_34 : decode cX6_feed 34 = .ok (.getfield 9, 3) := by decide +kernel
theorem dX6_feed_37 : decode cX6_feed 37 = .ok (.iconst 4, 1) := by decide +kernel
theorem dX6_feed_38 : decode cX6_feed 38 = .ok (.iaload, 1) := by decide +kernel
theorem dX6_feed_39 : decode cX6_feed 39 = .ok (.iadd, 1) := by decide +kernel
theorem dX6_feed_40 : decode cX6_feed 40 = .ok (.iload_n 1, 1) := by decide +kernel
theorem dX6_feed_41 : decode cX6_feed 41 = .ok (.iastore, 1) := by decide +kernel
theorem dX6_feed_42 : decode cX6_feed 42 = .ok (.aload_n 0, 1) := by decide +kernel
theorem dX6_feed_43 : decode cX6_feed 43 = .ok (.getfield 9, 3) := by decide +kernel
theorem dX6_feed_46 : decode cX6_feed 46 = .ok (.iconst 4, 1) := by decide +kernel
theorem dX6_feed_47 : decode cX6_feed 47 = .ok (.dup2, 1) := by decide +kernel
theorem dX6_feed_48 : decode cX6_feed 48 = .ok (.iaload, 1) := by decide +kernel
theorem dX6_feed_49 : decode cX6_feed 49 = .ok (.iconst 1, 1) := by decide +kernel
theorem dX6_feed_50 : decode cX6_feed 50 = .ok (.iadd, 1) := by decide +kernel
theorem dX6_feed_51 : decode cX6_feed 51 = .ok (.iastore, 1) := by decide +kernel
theorem dX6_feed_52 : decode cX6_feed 52 = .ok (.aload_n 0, 1) := by decide +kernel
theorem dX6_feed_53 : decode cX6_feed 53 = .ok (.getfield 9, 3) := by decide +kernel
theorem dX6_feed_56 : decode cX6_feed 56 = .ok (.iconst 4, 1) := by decide +kernel
theorem dX6_feed_57 : decode cX6_feed 57 = .ok (.iaload, 1) := by decide +kernel
theorem dX6_feed_58 : decode cX6_feed 58 = .ok (.ireturn, 1) := by decide +kernel
abbrev rm_X6_feed : Room := { frames := 1, cells := 0, slots := 0, locals := 22 }
abbrev jJ_X6_feed (l : Launch) (G : jx_G) (sz : Nat) (out : (Int32 × jx_M)) (pc : Nat) (lv : List (Nat × Value)) (st : List Value) (σ : jx_M) : Prop := jx_J l (mm_env G) (mm_dyn G) (mm_rg G) sz RX6 "feed" cX6_feed 2 (some .int) rm_X6_feed (fun below args s => MQ below (jx_Qi (mm_dyn G) out.2 out.1 (jx_A (mm_rg G) sz)) args s 0 0 (jx_A (mm_rg G) sz)) 0 0 pc lv st σ
def f_X6_feed (σ : jx_M) (a1 : Int32) : Option (Int32 × jx_M) :=
  jx_bd (f_X6_in a1 (0 : Int32) (127 : Int32)) (fun q1 => if q1 = 0 then some ((-2 : Int32), σ) else if (σ 1 4) = (100 : Int32) then some ((-4 : Int32), σ) else jx_gd (jx_in ((115 : Int32) + (σ 1 4)) 920) (jx_lt (jx_mu σ 1 ((115 : Int32) + (σ 1 4)).toNatClampNeg a1) (fun σ5 => jx_lt (jx_mu σ5 1 4 ((σ5 1 4) + (1 : Int32))) (fun σ6 => some ((σ6 1 4), σ6)))))
set_option maxHeartbeats 4000000 in
set_option maxRecDepth 100000 in
theorem k_X6_feed (l : Launch) (G : jx_G) (hG : mm_ok G) (sz : Nat) (σ : jx_M) (a1 : Int32) (out : (Int32 × jx_M)) (h : f_X6_feed σ a1 = some out) : Met l yX6_feed (Cond.code yX6_feed cX6_feed 2 (some .int) :: jx_ws) rm_X6_feed (jx_Pc (mm_env G) (mm_dyn G) (mm_rg G) sz σ [.ref (G.2 10), .int a1]) (jx_Qi (mm_dyn G) out.2 out.1 (jx_A (mm_rg G) sz)) 0 0 (jx_A (mm_rg G) sz) := by
  unfold f_X6_feed at h
  refine jx_met (by decide) (Nat.le_of_ble_eq_true rfl) ?_
  refine jx_sub (lv' := [(0, .ref (G.2 10)), (1, .int a1)]) [0, 1] rfl ?_
  refine jx_iload_n (pc := 0) rfl dX6_feed_0 ?_
  refine jx_iconst (pc := 1) (v := (0 : Int32)) (by decide) dX6_feed_1 ?_
  refine jx_bipush (pc := 2) (v := (127 : Int32)) (by decide) dX6_feed_2 ?_
  obtain ⟨q1, eq1, h⟩ := jx_bd_o h
  refine jx_callSi (pc := 4) [.int a1, .int (0 : Int32), .int (127 : Int32)] (fun sz' => k_X6_in l G hG sz' σ a1 (0 : Int32) (127 : Int32) q1 eq1) ks_X6_48 mm_jok rfl rfl (Nat.le_of_ble_eq_true rfl) ⟨⟨rfl, rfl⟩, ⟨Nat.le_of_ble_eq_true rfl, Nat.le_of_ble_eq_true rfl⟩, Nat.zero_le _, Nat.zero_le _⟩ dX6_feed_4 ?_
  refine jx_if_ne (pc := 7) (tgt := 13) dX6_feed_7 (by decide) (fun c2 => ?_) (fun c2 => ?_)
  · have h := jx_f c2 h
    refine jx_aload_n (pc := 13) rfl dX6_feed_13 ?_
    refine mm_g_s (pc := 14) fl_X6_9 dX6_feed_14 ?_
    refine jx_iconst (pc := 17) (v := (4 : Int32)) (by decide) dX6_feed_17 ?_
    refine mm_l_s (pc := 18) (j := 4) (jx_in_o (by decide)) (by decide) dX6_feed_18 ?_
    refine jx_bipush (pc := 19) (v := (100 : Int32)) (by decide) dX6_feed_19 ?_
    refine jx_icmp_ne (pc := 21) (tgt := 27) dX6_feed_21 (by decide) (fun c3 => ?_) (fun c3 => ?_)
    · have h := jx_f c3 h
      refine jx_aload_n (pc := 27) rfl dX6_feed_27 ?_
      refine mm_g_s (pc := 28) fl_X6_9 dX6_feed_28 ?_
      refine jx_bipush (pc := 31) (v := (115 : Int32)) (by decide) dX6_feed_31 ?_
      refine jx_aload_n (pc := 33) rfl dX6_feed_33 ?_
      refine mm_g_s (pc := 34) fl_X6_9 dX6_feed_34 ?_
      refine jx_iconst (pc := 37) (v := (4 : Int32)) (by decide) dX6_feed_37 ?_
      refine mm_l_s (pc := 38) (j := 4) (jx_in_o (by decide)) (by decide) dX6_feed_38 ?_
      refine jx_iadd (pc := 39) dX6_feed_39 ?_
      refine jx_iload_n (pc := 40) rfl dX6_feed_40 ?_
      obtain ⟨g4, h⟩ := jx_gd_o h
      obtain ⟨σ5, eσ5, h⟩ := jx_lt_o h
      refine mm_s_s (pc := 41) hG (jx_in_o g4) rfl eσ5 dX6_feed_41 ?_
      refine jx_aload_n (pc := 42) rfl dX6_feed_42 ?_
      refine mm_g_s (pc := 43) fl_X6_9 dX6_feed_43 ?_
      refine jx_iconst (pc := 46) (v := (4 : Int32)) (by decide) dX6_feed_46 ?_
      refine jx_dup2 (pc := 47) rfl rfl dX6_feed_47 ?_
      refine mm_l_s (pc := 48) (j := 4) (jx_in_o (by decide)) (by decide) dX6_feed_48 ?_
      refine jx_iconst (pc := 49) (v := (1 : Int32)) (by decide) dX6_feed_49 ?_
      refine jx_iadd (pc := 50) dX6_feed_50 ?_
      obtain ⟨σ6, eσ6, h⟩ := jx_lt_o h
      refine mm_s_s (pc := 51) hG (jx_in_o (by decide)) (by decide) eσ6 dX6_feed_51 ?_
      refine jx_aload_n (pc := 52) rfl dX6_feed_52 ?_
      refine mm_g_s (pc := 53) fl_X6_9 dX6_feed_53 ?_
      refine jx_iconst (pc := 56) (v := (4 : Int32)) (by decide) dX6_feed_56 ?_
      refine mm_l_s (pc := 57) (j := 4) (jx_in_o (by decide)) (by decide) dX6_feed_57 ?_
      cases h
      exact jx_iret (pc := 58) dX6_feed_58
    · have h := jx_t c3 h
      refine jx_bipush (pc := 24) (v := (-4 : Int32)) (by decide) dX6_feed_24 ?_
      cases h
      exact jx_iret (pc := 26) dX6_feed_26
  · have h := jx_t c2 h
    refine jx_bipush (pc := 10) (v := (-2 : Int32)) (by decide) dX6_feed_10 ?_
    cases h
    exact jx_iret (pc := 12) dX6_feed_12
theorem dX6_must_0 : decode cX6_must 0 = .ok (.aload_n 0, 1) := by decide +kernel
theorem dX6_must_1 : decode cX6_must 1 = .ok (.aload_n 0, 1) := by decide +kernel
theorem dX6_must_2 : decode cX6_must 2 = .ok (.getfield 58, 3) := by decide +kernel
theorem dX6_must_5 : decode cX6_must 5 = .ok (.ifCond .ne 11, 3) := by decide +kernel
theorem dX6_must_8 : decode cX6_must 8 = .ok (.aload_n 0, 1) := by decide +kernel
theorem dX6_must_9 : decode cX6_must 9 = .ok (.invokevirtual 62, 3) := by decide +kernel
theorem dX6_must_12 : decode cX6_must 12 = .ok (.iload_n 1, 1) := by decide +kernel
theorem dX6_must_13 : decode cX6_must 13 = .ok (.if_icmp .eq 7, 3) := by decide +kernel
theorem dX6_must_16 : decode cX6_must 16 = .ok (.iconst 1, 1) := by decide +kernel
theorem dX6_must_17 : decode cX6_must 17 = .ok (.goto 4, 3) := by decide +kernel
theorem dX6_must_20 : decode cX6_must 20 = .ok (.iconst 0, 1) := by decide +kernel
theorem dX6_must_21 : decode cX6_must 21 = .ok (.putfield 58, 3) := by decide +kernel
theorem dX6_must_24 : decode cX6_must 24 = .ok (.aload_n 0, 1) := by decide +kernel
theorem dX6_must_25 : decode cX6_must 25 = .ok (.dup, 1) := by decide +kernel
theorem dX6_must_26 : decode cX6_must 26 = .ok (.getfield 52, 3) := by decide +kernel
theorem dX6_must_29 : decode cX6_must 29 = .ok (.aload_n 0, 1) := by decide +kernel
theorem dX6_must_30 : decode cX6_must 30 = .ok (.getfield 58, 3) := by decide +kernel
theorem dX6_must_33 : decode cX6_must 33 = .ok (.ifCond .eq 7, 3) := by decide +kernel
theorem dX6_must_36 : decode cX6_must 36 = .ok (.iconst 0, 1) := by decide +kernel
theorem dX6_must_37 : decode cX6_must 37 = .ok (.goto 4, 3) := by decide +kernel
theorem dX6_must_40 : decode cX6_must 40 = .ok (.iconst 1, 1) := by decide +kernel
theorem dX6_must_41 : decode cX6_must 41 = .ok (.iadd, 1) := by decide +kernel
theorem dX6_must_42 : decode cX6_must 42 = .ok (.putfield 52, 3) := by decide +kernel
theorem dX6_must_45 : decode cX6_must 45 = .ok (.return_, 1) := by decide +kernel
abbrev rm_X6_must : Room := { frames := 1, cells := 0, slots := 0, locals := 20 }
abbrev jJ_X6_must (l : Launch) (G : jx_G) (sz : Nat) (out : jx_M) (pc : Nat) (lv : List (Nat × Value)) (st : List Value) (σ : jx_M) : Prop := jx_J l (mm_env G) (mm_dyn G) (mm_rg G) sz RX6 "must" cX6_must 2 none rm_X6_must (fun below args s => MQ below (jx_Qv (mm_dyn G) out (jx_A (mm_rg G) sz)) args s 0 0 (jx_A (mm_rg G) sz)) 0 0 pc lv st σ
def b_X6_must_41  (σ : jx_M) (s0 : Int32) (s1 : Int32) : Option jx_M :=
  jx_lt (jx_mu σ 0 5 (s1 + s0)) (fun σ1 => some σ1)
set_option maxHeartbeats 4000000 in
set_option maxRecDepth 100000 in
theorem jb_X6_must_41 (l : Launch) (G : jx_G) (hG : mm_ok G) (sz : Nat) (out : jx_M)  (σ : jx_M) (s0 : Int32) (s1 : Int32) (h : b_X6_must_41 σ s0 s1 = some out) : jJ_X6_must l G sz out 41 [] [.int s0, .int s1, .ref (G.2 10)] σ := by
  unfold b_X6_must_41 at h
  refine jx_iadd (pc := 41) dX6_must_41 ?_
  obtain ⟨σ1, eσ1, h⟩ := jx_lt_o h
  refine mm_p_spot (pc := 42) hG fl_X6_52 eσ1 dX6_must_42 ?_
  cases h
  exact jx_vret (pc := 45) dX6_must_45
def b_X6_must_21  (σ : jx_M) (s0 : Int32) : Option jx_M :=
  jx_gd (decide (s0 = 0 ∨ s0 = 1)) (jx_lt (jx_mu σ 0 7 s0) (fun σ2 => if (σ2 0 7) = 0 then (b_X6_must_41 σ2 (1 : Int32) (σ2 0 5)) else (b_X6_must_41 σ2 (0 : Int32) (σ2 0 5))))
set_option maxHeartbeats 4000000 in
set_option maxRecDepth 100000 in
theorem jb_X6_must_21 (l : Launch) (G : jx_G) (hG : mm_ok G) (sz : Nat) (out : jx_M)  (σ : jx_M) (s0 : Int32) (h : b_X6_must_21 σ s0 = some out) : jJ_X6_must l G sz out 21 [(0, .ref (G.2 10))] [.int s0, .ref (G.2 10)] σ := by
  unfold b_X6_must_21 at h
  obtain ⟨g1, h⟩ := jx_gd_o h
  obtain ⟨σ2, eσ2, h⟩ := jx_lt_o h
  refine mm_p_isWrong (pc := 21) hG (of_decide_eq_true g1) fl_X6_58 eσ2 dX6_must_21 ?_
  refine jx_aload_n (pc := 24) rfl dX6_must_24 ?_
  refine jx_dup (pc := 25) rfl dX6_must_25 ?_
  refine mm_g_spot (pc := 26) fl_X6_52 dX6_must_26 ?_
  refine jx_aload_n (pc := 29) rfl dX6_must_29 ?_
  refine mm_g_isWrong (pc := 30) fl_X6_58 dX6_must_30 ?_
  refine jx_if_eq (pc := 33) (tgt := 40) dX6_must_33 (by decide) (fun c3 => ?_) (fun c3 => ?_)
  · have h := jx_t c3 h
    refine jx_iconst (pc := 40) (v := (1 : Int32)) (by decide) dX6_must_40 ?_
    exact jx_sub [] rfl (jb_X6_must_41 l G hG sz out σ2 (1 : Int32) (σ2 0 5) h)
  · have h := jx_f c3 h
    refine jx_iconst (pc := 36) (v := (0 : Int32)) (by decide) dX6_must_36 ?_
    refine jx_goto (pc := 37) (tgt := 41) dX6_must_37 (by decide) ?_
    exact jx_sub [] rfl (jb_X6_must_41 l G hG sz out σ2 (0 : Int32) (σ2 0 5) h)
def b_X6_must_16  (σ : jx_M)  : Option jx_M :=
  (b_X6_must_21 σ (1 : Int32))
set_option maxHeartbeats 4000000 in
set_option maxRecDepth 100000 in
theorem jb_X6_must_16 (l : Launch) (G : jx_G) (hG : mm_ok G) (sz : Nat) (out : jx_M)  (σ : jx_M)  (h : b_X6_must_16 σ = some out) : jJ_X6_must l G sz out 16 [(0, .ref (G.2 10))] [.ref (G.2 10)] σ := by
  unfold b_X6_must_16 at h
  refine jx_iconst (pc := 16) (v := (1 : Int32)) (by decide) dX6_must_16 ?_
  refine jx_goto (pc := 17) (tgt := 21) dX6_must_17 (by decide) ?_
  exact jx_sub [0] rfl (jb_X6_must_21 l G hG sz out σ (1 : Int32) h)
def f_X6_must (σ : jx_M) (a1 : Int32) : Option jx_M :=
  if (σ 0 7) = 0 then jx_bd (f_X6_here σ) (fun q2 => if q2 = a1 then (b_X6_must_21 σ (0 : Int32)) else (b_X6_must_16 σ)) else (b_X6_must_16 σ)
set_option maxHeartbeats 4000000 in
set_option maxRecDepth 100000 in
theorem k_X6_must (l : Launch) (G : jx_G) (hG : mm_ok G) (sz : Nat) (σ : jx_M) (a1 : Int32) (out : jx_M) (h : f_X6_must σ a1 = some out) : Met l yX6_must (Cond.code yX6_must cX6_must 2 none :: jx_ws) rm_X6_must (jx_Pc (mm_env G) (mm_dyn G) (mm_rg G) sz σ [.ref (G.2 10), .int a1]) (jx_Qv (mm_dyn G) out (jx_A (mm_rg G) sz)) 0 0 (jx_A (mm_rg G) sz) := by
  unfold f_X6_must at h
  refine jx_met (by decide) (Nat.le_of_ble_eq_true rfl) ?_
  refine jx_sub (lv' := [(0, .ref (G.2 10)), (1, .int a1)]) [0, 1] rfl ?_
  refine jx_aload_n (pc := 0) rfl dX6_must_0 ?_
  refine jx_aload_n (pc := 1) rfl dX6_must_1 ?_
  refine mm_g_isWrong (pc := 2) fl_X6_58 dX6_must_2 ?_
  refine jx_if_ne (pc := 5) (tgt := 16) dX6_must_5 (by decide) (fun c1 => ?_) (fun c1 => ?_)
  · have h := jx_f c1 h
    exact jx_sub [0] rfl (jb_X6_must_16 l G hG sz out σ h)
  · have h := jx_t c1 h
    refine jx_aload_n (pc := 8) rfl dX6_must_8 ?_
    obtain ⟨q2, eq2, h⟩ := jx_bd_o h
    refine jx_callVi (pc := 9) [] (fun sz' => k_X6_here l G hG sz' σ q2 eq2) kv_X6_62 mm_jok mm_rc rfl rfl (Nat.le_of_ble_eq_true rfl) ⟨⟨rfl, rfl⟩, ⟨Nat.le_of_ble_eq_true rfl, Nat.le_of_ble_eq_true rfl⟩, Nat.zero_le _, Nat.zero_le _⟩ dX6_must_9 ?_
    refine jx_iload_n (pc := 12) rfl dX6_must_12 ?_
    refine jx_icmp_eq (pc := 13) (tgt := 20) dX6_must_13 (by decide) (fun c3 => ?_) (fun c3 => ?_)
    · have h := jx_t c3 h
      refine jx_iconst (pc := 20) (v := (0 : Int32)) (by decide) dX6_must_20 ?_
      exact jx_sub [0] rfl (jb_X6_must_21 l G hG sz out σ (0 : Int32) h)
    · have h := jx_f c3 h
      exact jx_sub [0] rfl (jb_X6_must_16 l G hG sz out σ h)
