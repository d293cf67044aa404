/-! the reference's methods: a function on the memory each, and its contract -/
theorem dX6_delayOf_0 : decode cX6_delayOf 0 = .ok (.aload_n 0, 1) := by decide +kernel
theorem dX6_delayOf_1 : decode cX6_delayOf 1 = .ok (.getfield 9, 3) := by decide +kernel
theorem dX6_delayOf_4 : decode cX6_delayOf 4 = .ok (.bipush 31, 2) := by decide +kernel
theorem dX6_delayOf_6 : decode cX6_delayOf 6 = .ok (.iload_n 1, 1) := by decide +kernel
theorem dX6_delayOf_7 : decode cX6_delayOf 7 = .ok (.iadd, 1) := by decide +kernel
theorem dX6_delayOf_8 : decode cX6_delayOf 8 = .ok (.iaload, 1) := by decide +kernel
theorem dX6_delayOf_9 : decode cX6_delayOf 9 = .ok (.iconst 2, 1) := by decide +kernel
theorem dX6_delayOf_10 : decode cX6_delayOf 10 = .ok (.if_icmp .eq 16, 3) := by decide +kernel
theorem dX6_delayOf_13 : decode cX6_delayOf 13 = .ok (.aload_n 0, 1) := by decide +kernel
theorem dX6_delayOf_14 : decode cX6_delayOf 14 = .ok (.getfield 9, 3) := by decide +kernel
theorem dX6_delayOf_17 : decode cX6_delayOf 17 = .ok (.bipush 31, 2) := by decide +kernel
theorem dX6_delayOf_19 : decode cX6_delayOf 19 = .ok (.iload_n 1, 1) := by decide +kernel
theorem dX6_delayOf_20 : decode cX6_delayOf 20 = .ok (.iadd, 1) := by decide +kernel
theorem dX6_delayOf_21 : decode cX6_delayOf 21 = .ok (.iaload, 1) := by decide +kernel
theorem dX6_delayOf_22 : decode cX6_delayOf 22 = .ok (.iconst 5, 1) := by decide +kernel
theorem dX6_delayOf_23 : decode cX6_delayOf 23 = .ok (.if_icmp .ne 7, 3) := by decide +kernel
theorem dX6_delayOf_26 : decode cX6_delayOf 26 = .ok (.iconst 0, 1) := by decide +kernel
theorem dX6_delayOf_27 : decode cX6_delayOf 27 = .ok (.goto 14, 3) := by decide +kernel
theorem dX6_delayOf_30 : decode cX6_delayOf 30 = .ok (.aload_n 0, 1) := by decide +kernel
theorem dX6_delayOf_31 : decode cX6_delayOf 31 = .ok (.getfield 9, 3) := by decide +kernel
theorem dX6_delayOf_34 : decode cX6_delayOf 34 = .ok (.bipush 37, 2) := by decide +kernel
theorem dX6_delayOf_36 : decode cX6_delayOf 36 = .ok (.iload_n 1, 1) := by decide +kernel
theorem dX6_delayOf_37 : decode cX6_delayOf 37 = .ok (.iadd, 1) := by decide +kernel
theorem dX6_delayOf_38 : decode cX6_delayOf 38 = .ok (.iaload, 1) := by decide +kernel
theorem dX6_delayOf_39 : decode cX6_delayOf 39 = .ok (.iconst 3, 1) := by decide +kernel
theorem dX6_delayOf_40 : decode cX6_delayOf 40 = .ok (.irem, 1) := by decide +kernel
theorem dX6_delayOf_41 : decode cX6_delayOf 41 = .ok (.ireturn, 1) := by decide +kernel
abbrev rm_X6_delayOf : Room := { frames := 0, cells := 0, slots := 0, locals := 0 }
abbrev jJ_X6_delayOf (l : Launch) (G : jx_G) (sz : Nat) (σ0 : jx_M) (out : Int32) (pc : Nat) (lv : List (Nat × Value)) (st : List Value) (σ : jx_M) : Prop := jx_J l (mm_env G) (mm_dyn G) (mm_rg G) sz RX6 "delayOf" cX6_delayOf 2 (some .int) rm_X6_delayOf (fun below args s => MQ below (jx_Qi (mm_dyn G) σ0 out (jx_A (mm_rg G) sz)) args s 0 0 (jx_A (mm_rg G) sz)) 0 0 pc lv st σ
def f_X6_delayOf (σ : jx_M) (a1 : Int32) : Option Int32 :=
  jx_gd (jx_in ((31 : Int32) + a1) 920) (if (σ 1 ((31 : Int32) + a1).toNatClampNeg) = (2 : Int32) then some (0 : Int32) else jx_gd (jx_in ((31 : Int32) + a1) 920) (if (σ 1 ((31 : Int32) + a1).toNatClampNeg) = (5 : Int32) then some (0 : Int32) else jx_gd (jx_in ((37 : Int32) + a1) 920) (some ((σ 1 ((37 : Int32) + a1).toNatClampNeg) - (σ 1 ((37 : Int32) + a1).toNatClampNeg) / (3 : Int32) * (3 : Int32)))))
set_option maxHeartbeats 4000000 in
set_option maxRecDepth 100000 in
theorem k_X6_delayOf (l : Launch) (G : jx_G) (hG : mm_ok G) (sz : Nat) (σ : jx_M) (a1 : Int32) (out : Int32) (h : f_X6_delayOf σ a1 = some out) : Met l yX6_delayOf (Cond.code yX6_delayOf cX6_delayOf 2 (some .int) :: jx_ws) rm_X6_delayOf (jx_Pc (mm_env G) (mm_dyn G) (mm_rg G) sz σ [.ref (G.2 10), .int a1]) (jx_Qi (mm_dyn G) σ out (jx_A (mm_rg G) sz)) 0 0 (jx_A (mm_rg G) sz) := by
  unfold f_X6_delayOf at h
  refine jx_met (by decide) (Nat.le_of_ble_eq_true rfl) ?_
  refine jx_sub (lv' := [(0, .ref (G.2 10)), (1, .int a1)]) [0, 1] rfl ?_
  refine jx_aload_n (pc := 0) (k0 := 0) rfl dX6_delayOf_0 ?_
  refine mm_g_s (pc := 1) fl_X6_9 dX6_delayOf_1 ?_
  refine jx_bipush (pc := 4) (v := (31 : Int32)) (by decide) dX6_delayOf_4 ?_
  refine jx_iload_n (pc := 6) (k0 := 1) rfl dX6_delayOf_6 ?_
  refine jx_iadd (pc := 7) dX6_delayOf_7 ?_
  obtain ⟨g1, h⟩ := jx_gd_o h
  refine mm_l_s (pc := 8) (jx_in_o g1) rfl dX6_delayOf_8 ?_
  refine jx_iconst (pc := 9) (v := (2 : Int32)) (by decide) dX6_delayOf_9 ?_
  refine jx_icmp_eq (pc := 10) (tgt := 26) dX6_delayOf_10 (by decide) (fun c2 => ?_) (fun c2 => ?_)
  · have h := jx_t c2 h
    refine jx_iconst (pc := 26) (v := (0 : Int32)) (by decide) dX6_delayOf_26 ?_
    refine jx_goto (pc := 27) (tgt := 41) dX6_delayOf_27 (by decide) ?_
    have h := Option.some.inj h
    subst h
    exact jx_iret (pc := 41) dX6_delayOf_41
  · have h := jx_f c2 h
    refine jx_aload_n (pc := 13) (k0 := 0) rfl dX6_delayOf_13 ?_
    refine mm_g_s (pc := 14) fl_X6_9 dX6_delayOf_14 ?_
    refine jx_bipush (pc := 17) (v := (31 : Int32)) (by decide) dX6_delayOf_17 ?_
    refine jx_iload_n (pc := 19) (k0 := 1) rfl dX6_delayOf_19 ?_
    refine jx_iadd (pc := 20) dX6_delayOf_20 ?_
    obtain ⟨g3, h⟩ := jx_gd_o h
    refine mm_l_s (pc := 21) (jx_in_o g3) rfl dX6_delayOf_21 ?_
    refine jx_iconst (pc := 22) (v := (5 : Int32)) (by decide) dX6_delayOf_22 ?_
    refine jx_icmp_ne (pc := 23) (tgt := 30) dX6_delayOf_23 (by decide) (fun c4 => ?_) (fun c4 => ?_)
    · have h := jx_f c4 h
      refine jx_aload_n (pc := 30) (k0 := 0) rfl dX6_delayOf_30 ?_
      refine mm_g_s (pc := 31) fl_X6_9 dX6_delayOf_31 ?_
      refine jx_bipush (pc := 34) (v := (37 : Int32)) (by decide) dX6_delayOf_34 ?_
      refine jx_iload_n (pc := 36) (k0 := 1) rfl dX6_delayOf_36 ?_
      refine jx_iadd (pc := 37) dX6_delayOf_37 ?_
      obtain ⟨g5, h⟩ := jx_gd_o h
      refine mm_l_s (pc := 38) (jx_in_o g5) rfl dX6_delayOf_38 ?_
      refine jx_iconst (pc := 39) (v := (3 : Int32)) (by decide) dX6_delayOf_39 ?_
      refine jx_irem (pc := 40) (by decide) dX6_delayOf_40 ?_
      have h := Option.some.inj h
      subst h
      exact jx_iret (pc := 41) dX6_delayOf_41
    · have h := jx_t c4 h
      refine jx_iconst (pc := 26) (v := (0 : Int32)) (by decide) dX6_delayOf_26 ?_
      refine jx_goto (pc := 27) (tgt := 41) dX6_delayOf_27 (by decide) ?_
      have h := Option.some.inj h
      subst h
      exact jx_iret (pc := 41) dX6_delayOf_41
theorem dX6_votesFor_0 : decode cX6_votesFor 0 = .ok (.iconst 0, 1) := by decide +kernel
theorem dX6_votesFor_1 : decode cX6_votesFor 1 = .ok (.istore_n 2, 1) := by decide +kernel
theorem dX6_votesFor_2 : decode cX6_votesFor 2 = .ok (.iconst 0, 1) := by decide +kernel
theorem dX6_votesFor_3 : decode cX6_votesFor 3 = .ok (.istore_n 3, 1) := by decide +kernel
theorem dX6_votesFor_4 : decode cX6_votesFor 4 = .ok (.iload_n 3, 1) := by decide +kernel
theorem dX6_votesFor_5 : decode cX6_votesFor 5 = .ok (.aload_n 0, 1) := by decide +kernel
theorem dX6_votesFor_6 : decode cX6_votesFor 6 = .ok (.getfield 9, 3) := by decide +kernel
theorem dX6_votesFor_9 : decode cX6_votesFor 9 = .ok (.iconst 0, 1) := by decide +kernel
theorem dX6_votesFor_10 : decode cX6_votesFor 10 = .ok (.iaload, 1) := by decide +kernel
theorem dX6_votesFor_11 : decode cX6_votesFor 11 = .ok (.if_icmp .ge 49, 3) := by decide +kernel
theorem dX6_votesFor_14 : decode cX6_votesFor 14 = .ok (.iload_n 2, 1) := by decide +kernel
theorem dX6_votesFor_15 : decode cX6_votesFor 15 = .ok (.aload_n 0, 1) := by decide +kernel
theorem dX6_votesFor_16 : decode cX6_votesFor 16 = .ok (.getfield 34, 3) := by decide +kernel
theorem dX6_votesFor_19 : decode cX6_votesFor 19 = .ok (.iload_n 3, 1) := by decide +kernel
theorem dX6_votesFor_20 : decode cX6_votesFor 20 = .ok (.baload, 1) := by decide +kernel
theorem dX6_votesFor_21 : decode cX6_votesFor 21 = .ok (.ifCond .eq 30, 3) := by decide +kernel
theorem dX6_votesFor_24 : decode cX6_votesFor 24 = .ok (.aload_n 0, 1) := by decide +kernel
theorem dX6_votesFor_25 : decode cX6_votesFor 25 = .ok (.getfield 9, 3) := by decide +kernel
theorem dX6_votesFor_28 : decode cX6_votesFor 28 = .ok (.bipush 49, 2) := by decide +kernel
theorem dX6_votesFor_30 : decode cX6_votesFor 30 = .ok (.iload_n 3, 1) := by decide +kernel
theorem dX6_votesFor_31 : decode cX6_votesFor 31 = .ok (.iadd, 1) := by decide +kernel
theorem dX6_votesFor_32 : decode cX6_votesFor 32 = .ok (.iaload, 1) := by decide +kernel
theorem dX6_votesFor_33 : decode cX6_votesFor 33 = .ok (.iload_n 1, 1) := by decide +kernel
theorem dX6_votesFor_34 : decode cX6_votesFor 34 = .ok (.if_icmp .ne 17, 3) := by decide +kernel
theorem dX6_votesFor_37 : decode cX6_votesFor 37 = .ok (.aload_n 0, 1) := by decide +kernel
theorem dX6_votesFor_38 : decode cX6_votesFor 38 = .ok (.getfield 28, 3) := by decide +kernel
theorem dX6_votesFor_41 : decode cX6_votesFor 41 = .ok (.aload_n 0, 1) := by decide +kernel
theorem dX6_votesFor_42 : decode cX6_votesFor 42 = .ok (.getfield 31, 3) := by decide +kernel
theorem dX6_votesFor_45 : decode cX6_votesFor 45 = .ok (.iload_n 3, 1) := by decide +kernel
theorem dX6_votesFor_46 : decode cX6_votesFor 46 = .ok (.iaload, 1) := by decide +kernel
theorem dX6_votesFor_47 : decode cX6_votesFor 47 = .ok (.iaload, 1) := by decide +kernel
theorem dX6_votesFor_48 : decode cX6_votesFor 48 = .ok (.goto 4, 3) := by decide +kernel
theorem dX6_votesFor_51 : decode cX6_votesFor 51 = .ok (.iconst 0, 1) := by decide +kernel
theorem dX6_votesFor_52 : decode cX6_votesFor 52 = .ok (.iadd, 1) := by decide +kernel
theorem dX6_votesFor_53 : decode cX6_votesFor 53 = .ok (.istore_n 2, 1) := by decide +kernel
theorem dX6_votesFor_54 : decode cX6_votesFor 54 = .ok (.iinc 3 1, 3) := by decide +kernel
theorem dX6_votesFor_57 : decode cX6_votesFor 57 = .ok (.goto (-53), 3) := by decide +kernel
theorem dX6_votesFor_60 : decode cX6_votesFor 60 = .ok (.iload_n 2, 1) := by decide +kernel
theorem dX6_votesFor_61 : decode cX6_votesFor 61 = .ok (.ireturn, 1) := by decide +kernel
abbrev rm_X6_votesFor : Room := { frames := 0, cells := 0, slots := 0, locals := 0 }
abbrev jJ_X6_votesFor (l : Launch) (G : jx_G) (sz : Nat) (σ0 : jx_M) (out : Int32) (pc : Nat) (lv : List (Nat × Value)) (st : List Value) (σ : jx_M) : Prop := jx_J l (mm_env G) (mm_dyn G) (mm_rg G) sz RX6 "votesFor" cX6_votesFor 4 (some .int) rm_X6_votesFor (fun below args s => MQ below (jx_Qi (mm_dyn G) σ0 out (jx_A (mm_rg G) sz)) args s 0 0 (jx_A (mm_rg G) sz)) 0 0 pc lv st σ
def b_X6_votesFor_52 (k4 : jx_M → Int32 → Int32 → Int32 → Option Int32) (σ : jx_M) (v1 : Int32) (v3 : Int32) (s0 : Int32) (s1 : Int32) : Option Int32 :=
  jx_lt ((s1 + s0)) (fun x1 => jx_lt (v3 + (1 : Int32)) (fun x2 => (k4 σ v1 x1 x2)))
set_option maxHeartbeats 4000000 in
set_option maxRecDepth 100000 in
theorem jb_X6_votesFor_52 (l : Launch) (G : jx_G) (hG : mm_ok G) (sz : Nat) (σ0 : jx_M) (out : Int32) (k4 : jx_M → Int32 → Int32 → Int32 → Option Int32) (h4 : ∀ (σ : jx_M) (v1 : Int32) (v2 : Int32) (v3 : Int32), σ = σ0 → k4 σ v1 v2 v3 = some out → jJ_X6_votesFor l G sz σ0 out 4 [(0, .ref (G.2 10)), (1, .int v1), (2, .int v2), (3, .int v3)] [] σ) (σ : jx_M) (v1 : Int32) (v3 : Int32) (s0 : Int32) (s1 : Int32) (e0 : σ = σ0) (h : b_X6_votesFor_52 k4 σ v1 v3 s0 s1 = some out) : jJ_X6_votesFor l G sz σ0 out 52 [(0, .ref (G.2 10)), (1, .int v1), (3, .int v3)] [.int s0, .int s1] σ := by
  unfold b_X6_votesFor_52 at h
  refine jx_iadd (pc := 52) dX6_votesFor_52 ?_
  obtain ⟨x1, ex1, h⟩ := jx_lt_o h
  refine jx_istore_n (pc := 53) (i := 2) rfl ex1 (by decide) (lv' := [(2, .int x1), (0, .ref (G.2 10)), (1, .int v1), (3, .int v3)]) rfl dX6_votesFor_53 ?_
  obtain ⟨x2, ex2, h⟩ := jx_lt_o h
  refine jx_iinc (pc := 54) (i := 3) (v := v3) rfl ex2 (n := 1) (by decide) (by decide) (lv' := [(3, .int x2), (2, .int x1), (0, .ref (G.2 10)), (1, .int v1)]) rfl dX6_votesFor_54 ?_
  refine jx_goto (pc := 57) (tgt := 4) dX6_votesFor_57 (by decide) ?_
  exact jx_sub [2, 3, 1, 0] rfl (h4 σ v1 x1 x2 e0 h)
def b_X6_votesFor_51 (k4 : jx_M → Int32 → Int32 → Int32 → Option Int32) (σ : jx_M) (v1 : Int32) (v3 : Int32) (s0 : Int32) : Option Int32 :=
  (b_X6_votesFor_52 k4 σ v1 v3 (0 : Int32) s0)
set_option maxHeartbeats 4000000 in
set_option maxRecDepth 100000 in
theorem jb_X6_votesFor_51 (l : Launch) (G : jx_G) (hG : mm_ok G) (sz : Nat) (σ0 : jx_M) (out : Int32) (k4 : jx_M → Int32 → Int32 → Int32 → Option Int32) (h4 : ∀ (σ : jx_M) (v1 : Int32) (v2 : Int32) (v3 : Int32), σ = σ0 → k4 σ v1 v2 v3 = some out → jJ_X6_votesFor l G sz σ0 out 4 [(0, .ref (G.2 10)), (1, .int v1), (2, .int v2), (3, .int v3)] [] σ) (σ : jx_M) (v1 : Int32) (v3 : Int32) (s0 : Int32) (e0 : σ = σ0) (h : b_X6_votesFor_51 k4 σ v1 v3 s0 = some out) : jJ_X6_votesFor l G sz σ0 out 51 [(0, .ref (G.2 10)), (1, .int v1), (3, .int v3)] [.int s0] σ := by
  unfold b_X6_votesFor_51 at h
  refine jx_iconst (pc := 51) (v := (0 : Int32)) (by decide) dX6_votesFor_51 ?_
  exact jx_sub [0, 1, 2] rfl (jb_X6_votesFor_52 l G hG sz σ0 out k4 h4 σ v1 v3 (0 : Int32) s0 e0 h)
def g_X6_votesFor_4 (k4 : jx_M → Int32 → Int32 → Int32 → Option Int32) (σ : jx_M) (v1 : Int32) (v2 : Int32) (v3 : Int32) : Option Int32 :=
  if (σ 1 0) ≤ v3 then some v2 else jx_gd (jx_in v3 6) (if (σ 8 v3.toNatClampNeg) = 0 then (b_X6_votesFor_51 k4 σ v1 v3 v2) else jx_gd (jx_in ((49 : Int32) + v3) 920) (if (σ 1 ((49 : Int32) + v3).toNatClampNeg) = v1 then jx_gd (jx_in v3 6) (jx_gd (jx_in (σ 7 v3.toNatClampNeg) 7) ((b_X6_votesFor_52 k4 σ v1 v3 (σ 6 (σ 7 v3.toNatClampNeg).toNatClampNeg) v2))) else (b_X6_votesFor_51 k4 σ v1 v3 v2)))
set_option maxHeartbeats 4000000 in
set_option maxRecDepth 100000 in
theorem jg_X6_votesFor_4 (l : Launch) (G : jx_G) (hG : mm_ok G) (sz : Nat) (σ0 : jx_M) (out : Int32) (k4 : jx_M → Int32 → Int32 → Int32 → Option Int32) (h4 : ∀ (σ : jx_M) (v1 : Int32) (v2 : Int32) (v3 : Int32), σ = σ0 → k4 σ v1 v2 v3 = some out → jJ_X6_votesFor l G sz σ0 out 4 [(0, .ref (G.2 10)), (1, .int v1), (2, .int v2), (3, .int v3)] [] σ) (σ : jx_M) (v1 : Int32) (v2 : Int32) (v3 : Int32) (e0 : σ = σ0) (h : g_X6_votesFor_4 k4 σ v1 v2 v3 = some out) : jJ_X6_votesFor l G sz σ0 out 4 [(0, .ref (G.2 10)), (1, .int v1), (2, .int v2), (3, .int v3)] [] σ := by
  unfold g_X6_votesFor_4 at h
  refine jx_iload_n (pc := 4) (k0 := 3) rfl dX6_votesFor_4 ?_
  refine jx_aload_n (pc := 5) (k0 := 0) rfl dX6_votesFor_5 ?_
  refine mm_g_s (pc := 6) fl_X6_9 dX6_votesFor_6 ?_
  refine jx_iconst (pc := 9) (v := (0 : Int32)) (by decide) dX6_votesFor_9 ?_
  refine mm_l_s (pc := 10) (j := 0) (jx_in_o (by decide)) (by decide) dX6_votesFor_10 ?_
  refine jx_icmp_ge (pc := 11) (tgt := 60) dX6_votesFor_11 (by decide) (fun c1 => ?_) (fun c1 => ?_)
  · have h := jx_t c1 h
    refine jx_iload_n (pc := 60) (k0 := 2) rfl dX6_votesFor_60 ?_
    subst e0
    have h := Option.some.inj h
    subst h
    exact jx_iret (pc := 61) dX6_votesFor_61
  · have h := jx_f c1 h
    refine jx_iload_n (pc := 14) (k0 := 2) rfl dX6_votesFor_14 ?_
    refine jx_aload_n (pc := 15) (k0 := 0) rfl dX6_votesFor_15 ?_
    refine mm_g_counts (pc := 16) fl_X6_34 dX6_votesFor_16 ?_
    refine jx_iload_n (pc := 19) (k0 := 3) rfl dX6_votesFor_19 ?_
    obtain ⟨g2, h⟩ := jx_gd_o h
    refine mm_l_counts (pc := 20) (jx_in_o g2) rfl dX6_votesFor_20 ?_
    refine jx_if_eq (pc := 21) (tgt := 51) dX6_votesFor_21 (by decide) (fun c3 => ?_) (fun c3 => ?_)
    · have h := jx_t c3 h
      exact jx_sub [0, 1, 3] rfl (jb_X6_votesFor_51 l G hG sz σ0 out k4 h4 σ v1 v3 v2 e0 h)
    · have h := jx_f c3 h
      refine jx_aload_n (pc := 24) (k0 := 0) rfl dX6_votesFor_24 ?_
      refine mm_g_s (pc := 25) fl_X6_9 dX6_votesFor_25 ?_
      refine jx_bipush (pc := 28) (v := (49 : Int32)) (by decide) dX6_votesFor_28 ?_
      refine jx_iload_n (pc := 30) (k0 := 3) rfl dX6_votesFor_30 ?_
      refine jx_iadd (pc := 31) dX6_votesFor_31 ?_
      obtain ⟨g4, h⟩ := jx_gd_o h
      refine mm_l_s (pc := 32) (jx_in_o g4) rfl dX6_votesFor_32 ?_
      refine jx_iload_n (pc := 33) (k0 := 1) rfl dX6_votesFor_33 ?_
      refine jx_icmp_ne (pc := 34) (tgt := 51) dX6_votesFor_34 (by decide) (fun c5 => ?_) (fun c5 => ?_)
      · have h := jx_f c5 h
        exact jx_sub [0, 1, 3] rfl (jb_X6_votesFor_51 l G hG sz σ0 out k4 h4 σ v1 v3 v2 e0 h)
      · have h := jx_t c5 h
        refine jx_aload_n (pc := 37) (k0 := 0) rfl dX6_votesFor_37 ?_
        refine mm_g_weights (pc := 38) fl_X6_28 dX6_votesFor_38 ?_
        refine jx_aload_n (pc := 41) (k0 := 0) rfl dX6_votesFor_41 ?_
        refine mm_g_lying (pc := 42) fl_X6_31 dX6_votesFor_42 ?_
        refine jx_iload_n (pc := 45) (k0 := 3) rfl dX6_votesFor_45 ?_
        obtain ⟨g6, h⟩ := jx_gd_o h
        refine mm_l_lying (pc := 46) (jx_in_o g6) rfl dX6_votesFor_46 ?_
        obtain ⟨g7, h⟩ := jx_gd_o h
        refine mm_l_weights (pc := 47) (jx_in_o g7) rfl dX6_votesFor_47 ?_
        refine jx_goto (pc := 48) (tgt := 52) dX6_votesFor_48 (by decide) ?_
        exact jx_sub [0, 1, 3] rfl (jb_X6_votesFor_52 l G hG sz σ0 out k4 h4 σ v1 v3 (σ 6 (σ 7 v3.toNatClampNeg).toNatClampNeg) v2 e0 h)
def b_X6_votesFor_4  : Nat → jx_M → Int32 → Int32 → Int32 → Option Int32
  | 0, _, _, _, _ => none
  | n + 1, σ, v1, v2, v3 => g_X6_votesFor_4 (b_X6_votesFor_4 n) σ v1 v2 v3
theorem jb_X6_votesFor_4 (l : Launch) (G : jx_G) (hG : mm_ok G) (sz : Nat) (σ0 : jx_M) (out : Int32)  : ∀ (n : Nat) (σ : jx_M) (v1 : Int32) (v2 : Int32) (v3 : Int32), σ = σ0 → b_X6_votesFor_4 n σ v1 v2 v3 = some out → jJ_X6_votesFor l G sz σ0 out 4 [(0, .ref (G.2 10)), (1, .int v1), (2, .int v2), (3, .int v3)] [] σ := by
  intro n
  induction n with
  | zero =>
    intro σ v1 v2 v3 e0 h
    cases h
  | succ n ih =>
    intro σ v1 v2 v3 e0 h
    exact jg_X6_votesFor_4 l G hG sz σ0 out (b_X6_votesFor_4 n) ih σ v1 v2 v3 e0 h
def f_X6_votesFor (σ : jx_M) (a1 : Int32) : Option Int32 :=
  (b_X6_votesFor_4 jx_fuel σ a1 (0 : Int32) (0 : Int32))
set_option maxHeartbeats 4000000 in
set_option maxRecDepth 100000 in
theorem k_X6_votesFor (l : Launch) (G : jx_G) (hG : mm_ok G) (sz : Nat) (σ : jx_M) (a1 : Int32) (out : Int32) (h : f_X6_votesFor σ a1 = some out) : Met l yX6_votesFor (Cond.code yX6_votesFor cX6_votesFor 4 (some .int) :: jx_ws) rm_X6_votesFor (jx_Pc (mm_env G) (mm_dyn G) (mm_rg G) sz σ [.ref (G.2 10), .int a1]) (jx_Qi (mm_dyn G) σ out (jx_A (mm_rg G) sz)) 0 0 (jx_A (mm_rg G) sz) := by
  unfold f_X6_votesFor at h
  refine jx_met (by decide) (Nat.le_of_ble_eq_true rfl) ?_
  refine jx_sub (lv' := [(0, .ref (G.2 10)), (1, .int a1)]) [0, 1] rfl ?_
  refine jx_iconst (pc := 0) (v := (0 : Int32)) (by decide) dX6_votesFor_0 ?_
  refine jx_istore_n (pc := 1) (i := 2) rfl rfl (by decide) (lv' := [(2, .int (0 : Int32)), (0, .ref (G.2 10)), (1, .int a1)]) rfl dX6_votesFor_1 ?_
  refine jx_iconst (pc := 2) (v := (0 : Int32)) (by decide) dX6_votesFor_2 ?_
  refine jx_istore_n (pc := 3) (i := 3) rfl rfl (by decide) (lv' := [(3, .int (0 : Int32)), (2, .int (0 : Int32)), (0, .ref (G.2 10)), (1, .int a1)]) rfl dX6_votesFor_3 ?_
  exact jx_sub [2, 3, 1, 0] rfl (jb_X6_votesFor_4 l G hG sz σ out jx_fuel σ a1 (0 : Int32) (0 : Int32) rfl h)
theorem dX6_greater_0 : decode cX6_greater 0 = .ok (.iload_n 0, 1) := by decide +kernel
theorem dX6_greater_1 : decode cX6_greater 1 = .ok (.iload_n 1, 1) := by decide +kernel
theorem dX6_greater_2 : decode cX6_greater 2 = .ok (.if_icmp .ne 8, 3) := by decide +kernel
theorem dX6_greater_5 : decode cX6_greater 5 = .ok (.bipush (-5), 2) := by decide +kernel
theorem dX6_greater_7 : decode cX6_greater 7 = .ok (.goto 13, 3) := by decide +kernel
theorem dX6_greater_10 : decode cX6_greater 10 = .ok (.iload_n 0, 1) := by decide +kernel
theorem dX6_greater_11 : decode cX6_greater 11 = .ok (.iload_n 1, 1) := by decide +kernel
theorem dX6_greater_12 : decode cX6_greater 12 = .ok (.if_icmp .le 7, 3) := by decide +kernel
theorem dX6_greater_15 : decode cX6_greater 15 = .ok (.iconst 0, 1) := by decide +kernel
theorem dX6_greater_16 : decode cX6_greater 16 = .ok (.goto 4, 3) := by decide +kernel
theorem dX6_greater_19 : decode cX6_greater 19 = .ok (.iconst 1, 1) := by decide +kernel
theorem dX6_greater_20 : decode cX6_greater 20 = .ok (.ireturn, 1) := by decide +kernel
abbrev rm_X6_greater : Room := { frames := 0, cells := 0, slots := 0, locals := 0 }
abbrev jJ_X6_greater (l : Launch) (G : jx_G) (sz : Nat) (σ0 : jx_M) (out : Int32) (pc : Nat) (lv : List (Nat × Value)) (st : List Value) (σ : jx_M) : Prop := jx_J l (mm_env G) (mm_dyn G) (mm_rg G) sz RX6 "greater" cX6_greater 2 (some .int) rm_X6_greater (fun below args s => MQ below (jx_Qi (mm_dyn G) σ0 out (jx_A (mm_rg G) sz)) args s 0 0 (jx_A (mm_rg G) sz)) 0 0 pc lv st σ
def f_X6_greater (a0 : Int32) (a1 : Int32) : Option Int32 :=
  if a0 = a1 then some (-5 : Int32) else if a0 ≤ a1 then some (1 : Int32) else some (0 : Int32)
set_option maxHeartbeats 4000000 in
set_option maxRecDepth 100000 in
theorem k_X6_greater (l : Launch) (G : jx_G) (hG : mm_ok G) (sz : Nat) (σ : jx_M) (a0 : Int32) (a1 : Int32) (out : Int32) (h : f_X6_greater a0 a1 = some out) : Met l yX6_greater (Cond.code yX6_greater cX6_greater 2 (some .int) :: jx_ws) rm_X6_greater (jx_Pc (mm_env G) (mm_dyn G) (mm_rg G) sz σ [.int a0, .int a1]) (jx_Qi (mm_dyn G) σ out (jx_A (mm_rg G) sz)) 0 0 (jx_A (mm_rg G) sz) := by
  unfold f_X6_greater at h
  refine jx_met (by decide) (Nat.le_of_ble_eq_true rfl) ?_
  refine jx_sub (lv' := [(0, .int a0), (1, .int a1)]) [0, 1] rfl ?_
  refine jx_iload_n (pc := 0) (k0 := 0) rfl dX6_greater_0 ?_
  refine jx_iload_n (pc := 1) (k0 := 1) rfl dX6_greater_1 ?_
  refine jx_icmp_ne (pc := 2) (tgt := 10) dX6_greater_2 (by decide) (fun c1 => ?_) (fun c1 => ?_)
  · have h := jx_f c1 h
    refine jx_iload_n (pc := 10) (k0 := 0) rfl dX6_greater_10 ?_
    refine jx_iload_n (pc := 11) (k0 := 1) rfl dX6_greater_11 ?_
    refine jx_icmp_le (pc := 12) (tgt := 19) dX6_greater_12 (by decide) (fun c2 => ?_) (fun c2 => ?_)
    · have h := jx_t c2 h
      refine jx_iconst (pc := 19) (v := (1 : Int32)) (by decide) dX6_greater_19 ?_
      have h := Option.some.inj h
      subst h
      exact jx_iret (pc := 20) dX6_greater_20
    · have h := jx_f c2 h
      refine jx_iconst (pc := 15) (v := (0 : Int32)) (by decide) dX6_greater_15 ?_
      refine jx_goto (pc := 16) (tgt := 20) dX6_greater_16 (by decide) ?_
      have h := Option.some.inj h
      subst h
      exact jx_iret (pc := 20) dX6_greater_20
  · have h := jx_t c1 h
    refine jx_bipush (pc := 5) (v := (-5 : Int32)) (by decide) dX6_greater_5 ?_
    refine jx_goto (pc := 7) (tgt := 20) dX6_greater_7 (by decide) ?_
    have h := Option.some.inj h
    subst h
    exact jx_iret (pc := 20) dX6_greater_20
theorem dX6_driftOf_0 : decode cX6_driftOf 0 = .ok (.iload_n 1, 1) := by decide +kernel
theorem dX6_driftOf_1 : decode cX6_driftOf 1 = .ok (.istore_n 3, 1) := by decide +kernel
theorem dX6_driftOf_2 : decode cX6_driftOf 2 = .ok (.iconst 0, 1) := by decide +kernel
theorem dX6_driftOf_3 : decode cX6_driftOf 3 = .ok (.istore 4, 2) := by decide +kernel
theorem dX6_driftOf_5 : decode cX6_driftOf 5 = .ok (.iload 4, 2) := by decide +kernel
theorem dX6_driftOf_7 : decode cX6_driftOf 7 = .ok (.iload_n 2, 1) := by decide +kernel
theorem dX6_driftOf_8 : decode cX6_driftOf 8 = .ok (.if_icmp .ge 22, 3) := by decide +kernel
theorem dX6_driftOf_11 : decode cX6_driftOf 11 = .ok (.aload_n 0, 1) := by decide +kernel
theorem dX6_driftOf_12 : decode cX6_driftOf 12 = .ok (.getfield 25, 3) := by decide +kernel
theorem dX6_driftOf_15 : decode cX6_driftOf 15 = .ok (.bipush 7, 2) := by decide +kernel
theorem dX6_driftOf_17 : decode cX6_driftOf 17 = .ok (.iload 4, 2) := by decide +kernel
theorem dX6_driftOf_19 : decode cX6_driftOf 19 = .ok (.imul, 1) := by decide +kernel
theorem dX6_driftOf_20 : decode cX6_driftOf 20 = .ok (.iload_n 3, 1) := by decide +kernel
theorem dX6_driftOf_21 : decode cX6_driftOf 21 = .ok (.iadd, 1) := by decide +kernel
theorem dX6_driftOf_22 : decode cX6_driftOf 22 = .ok (.iaload, 1) := by decide +kernel
theorem dX6_driftOf_23 : decode cX6_driftOf 23 = .ok (.istore_n 3, 1) := by decide +kernel
theorem dX6_driftOf_24 : decode cX6_driftOf 24 = .ok (.iinc 4 1, 3) := by decide +kernel
theorem dX6_driftOf_27 : decode cX6_driftOf 27 = .ok (.goto (-22), 3) := by decide +kernel
theorem dX6_driftOf_30 : decode cX6_driftOf 30 = .ok (.iload_n 3, 1) := by decide +kernel
theorem dX6_driftOf_31 : decode cX6_driftOf 31 = .ok (.ireturn, 1) := by decide +kernel
abbrev rm_X6_driftOf : Room := { frames := 0, cells := 0, slots := 0, locals := 0 }
abbrev jJ_X6_driftOf (l : Launch) (G : jx_G) (sz : Nat) (σ0 : jx_M) (out : Int32) (pc : Nat) (lv : List (Nat × Value)) (st : List Value) (σ : jx_M) : Prop := jx_J l (mm_env G) (mm_dyn G) (mm_rg G) sz RX6 "driftOf" cX6_driftOf 5 (some .int) rm_X6_driftOf (fun below args s => MQ below (jx_Qi (mm_dyn G) σ0 out (jx_A (mm_rg G) sz)) args s 0 0 (jx_A (mm_rg G) sz)) 0 0 pc lv st σ
def g_X6_driftOf_5 (k5 : jx_M → Int32 → Int32 → Int32 → Option Int32) (σ : jx_M) (v2 : Int32) (v3 : Int32) (v4 : Int32) : Option Int32 :=
  if v2 ≤ v4 then some v3 else jx_gd (jx_in (((7 : Int32) * v4) + v3) 84) (jx_lt ((σ 5 (((7 : Int32) * v4) + v3).toNatClampNeg)) (fun x3 => jx_lt (v4 + (1 : Int32)) (fun x4 => (k5 σ v2 x3 x4))))
set_option maxHeartbeats 4000000 in
set_option maxRecDepth 100000 in
theorem jg_X6_driftOf_5 (l : Launch) (G : jx_G) (hG : mm_ok G) (sz : Nat) (σ0 : jx_M) (out : Int32) (k5 : jx_M → Int32 → Int32 → Int32 → Option Int32) (h5 : ∀ (σ : jx_M) (v2 : Int32) (v3 : Int32) (v4 : Int32), σ = σ0 → k5 σ v2 v3 v4 = some out → jJ_X6_driftOf l G sz σ0 out 5 [(0, .ref (G.2 10)), (2, .int v2), (3, .int v3), (4, .int v4)] [] σ) (σ : jx_M) (v2 : Int32) (v3 : Int32) (v4 : Int32) (e0 : σ = σ0) (h : g_X6_driftOf_5 k5 σ v2 v3 v4 = some out) : jJ_X6_driftOf l G sz σ0 out 5 [(0, .ref (G.2 10)), (2, .int v2), (3, .int v3), (4, .int v4)] [] σ := by
  unfold g_X6_driftOf_5 at h
  refine jx_iload (pc := 5) (i := 4) rfl dX6_driftOf_5 ?_
  refine jx_iload_n (pc := 7) (k0 := 2) rfl dX6_driftOf_7 ?_
  refine jx_icmp_ge (pc := 8) (tgt := 30) dX6_driftOf_8 (by decide) (fun c1 => ?_) (fun c1 => ?_)
  · have h := jx_t c1 h
    refine jx_iload_n (pc := 30) (k0 := 3) rfl dX6_driftOf_30 ?_
    subst e0
    have h := Option.some.inj h
    subst h
    exact jx_iret (pc := 31) dX6_driftOf_31
  · have h := jx_f c1 h
    refine jx_aload_n (pc := 11) (k0 := 0) rfl dX6_driftOf_11 ?_
    refine mm_g_going (pc := 12) fl_X6_25 dX6_driftOf_12 ?_
    refine jx_bipush (pc := 15) (v := (7 : Int32)) (by decide) dX6_driftOf_15 ?_
    refine jx_iload (pc := 17) (i := 4) rfl dX6_driftOf_17 ?_
    refine jx_imul (pc := 19) dX6_driftOf_19 ?_
    refine jx_iload_n (pc := 20) (k0 := 3) rfl dX6_driftOf_20 ?_
    refine jx_iadd (pc := 21) dX6_driftOf_21 ?_
    obtain ⟨g2, h⟩ := jx_gd_o h
    refine mm_l_going (pc := 22) (jx_in_o g2) rfl dX6_driftOf_22 ?_
    obtain ⟨x3, ex3, h⟩ := jx_lt_o h
    refine jx_istore_n (pc := 23) (i := 3) rfl ex3 (by decide) (lv' := [(3, .int x3), (0, .ref (G.2 10)), (2, .int v2), (4, .int v4)]) rfl dX6_driftOf_23 ?_
    obtain ⟨x4, ex4, h⟩ := jx_lt_o h
    refine jx_iinc (pc := 24) (i := 4) (v := v4) rfl ex4 (n := 1) (by decide) (by decide) (lv' := [(4, .int x4), (3, .int x3), (0, .ref (G.2 10)), (2, .int v2)]) rfl dX6_driftOf_24 ?_
    refine jx_goto (pc := 27) (tgt := 5) dX6_driftOf_27 (by decide) ?_
    exact jx_sub [2, 3, 1, 0] rfl (h5 σ v2 x3 x4 e0 h)
def b_X6_driftOf_5  : Nat → jx_M → Int32 → Int32 → Int32 → Option Int32
  | 0, _, _, _, _ => none
  | n + 1, σ, v2, v3, v4 => g_X6_driftOf_5 (b_X6_driftOf_5 n) σ v2 v3 v4
theorem jb_X6_driftOf_5 (l : Launch) (G : jx_G) (hG : mm_ok G) (sz : Nat) (σ0 : jx_M) (out : Int32)  : ∀ (n : Nat) (σ : jx_M) (v2 : Int32) (v3 : Int32) (v4 : Int32), σ = σ0 → b_X6_driftOf_5 n σ v2 v3 v4 = some out → jJ_X6_driftOf l G sz σ0 out 5 [(0, .ref (G.2 10)), (2, .int v2), (3, .int v3), (4, .int v4)] [] σ := by
  intro n
  induction n with
  | zero =>
    intro σ v2 v3 v4 e0 h
    cases h
  | succ n ih =>
    intro σ v2 v3 v4 e0 h
    exact jg_X6_driftOf_5 l G hG sz σ0 out (b_X6_driftOf_5 n) ih σ v2 v3 v4 e0 h
def f_X6_driftOf (σ : jx_M) (a1 : Int32) (a2 : Int32) : Option Int32 :=
  (b_X6_driftOf_5 jx_fuel σ a2 a1 (0 : Int32))
set_option maxHeartbeats 4000000 in
set_option maxRecDepth 100000 in
theorem k_X6_driftOf (l : Launch) (G : jx_G) (hG : mm_ok G) (sz : Nat) (σ : jx_M) (a1 : Int32) (a2 : Int32) (out : Int32) (h : f_X6_driftOf σ a1 a2 = some out) : Met l yX6_driftOf (Cond.code yX6_driftOf cX6_driftOf 5 (some .int) :: jx_ws) rm_X6_driftOf (jx_Pc (mm_env G) (mm_dyn G) (mm_rg G) sz σ [.ref (G.2 10), .int a1, .int a2]) (jx_Qi (mm_dyn G) σ out (jx_A (mm_rg G) sz)) 0 0 (jx_A (mm_rg G) sz) := by
  unfold f_X6_driftOf at h
  refine jx_met (by decide) (Nat.le_of_ble_eq_true rfl) ?_
  refine jx_sub (lv' := [(0, .ref (G.2 10)), (1, .int a1), (2, .int a2)]) [0, 1, 2] rfl ?_
  refine jx_iload_n (pc := 0) (k0 := 1) rfl dX6_driftOf_0 ?_
  refine jx_istore_n (pc := 1) (i := 3) rfl rfl (by decide) (lv' := [(3, .int a1), (0, .ref (G.2 10)), (1, .int a1), (2, .int a2)]) rfl dX6_driftOf_1 ?_
  refine jx_iconst (pc := 2) (v := (0 : Int32)) (by decide) dX6_driftOf_2 ?_
  refine jx_istore (pc := 3) (i := 4) rfl (by decide) (lv' := [(4, .int (0 : Int32)), (3, .int a1), (0, .ref (G.2 10)), (1, .int a1), (2, .int a2)]) rfl dX6_driftOf_3 ?_
  exact jx_sub [2, 4, 1, 0] rfl (jb_X6_driftOf_5 l G hG sz σ out jx_fuel σ a2 a1 (0 : Int32) rfl h)
theorem dX6_turnsWishes_0 : decode cX6_turnsWishes 0 = .ok (.iconst 0, 1) := by decide +kernel
theorem dX6_turnsWishes_1 : decode cX6_turnsWishes 1 = .ok (.istore_n 2, 1) := by decide +kernel
theorem dX6_turnsWishes_2 : decode cX6_turnsWishes 2 = .ok (.iload_n 2, 1) := by decide +kernel
theorem dX6_turnsWishes_3 : decode cX6_turnsWishes 3 = .ok (.aload_n 0, 1) := by decide +kernel
theorem dX6_turnsWishes_4 : decode cX6_turnsWishes 4 = .ok (.getfield 9, 3) := by decide +kernel
theorem dX6_turnsWishes_7 : decode cX6_turnsWishes 7 = .ok (.iconst 0, 1) := by decide +kernel
theorem dX6_turnsWishes_8 : decode cX6_turnsWishes 8 = .ok (.iaload, 1) := by decide +kernel
theorem dX6_turnsWishes_9 : decode cX6_turnsWishes 9 = .ok (.if_icmp .ge 26, 3) := by decide +kernel
theorem dX6_turnsWishes_12 : decode cX6_turnsWishes 12 = .ok (.aload_n 0, 1) := by decide +kernel
theorem dX6_turnsWishes_13 : decode cX6_turnsWishes 13 = .ok (.getfield 9, 3) := by decide +kernel
theorem dX6_turnsWishes_16 : decode cX6_turnsWishes 16 = .ok (.bipush 49, 2) := by decide +kernel
theorem dX6_turnsWishes_18 : decode cX6_turnsWishes 18 = .ok (.iload_n 2, 1) := by decide +kernel
theorem dX6_turnsWishes_19 : decode cX6_turnsWishes 19 = .ok (.iadd, 1) := by decide +kernel
theorem dX6_turnsWishes_20 : decode cX6_turnsWishes 20 = .ok (.dup2, 1) := by decide +kernel
theorem dX6_turnsWishes_21 : decode cX6_turnsWishes 21 = .ok (.iaload, 1) := by decide +kernel
theorem dX6_turnsWishes_22 : decode cX6_turnsWishes 22 = .ok (.iload_n 1, 1) := by decide +kernel
theorem dX6_turnsWishes_23 : decode cX6_turnsWishes 23 = .ok (.iload_n 2, 1) := by decide +kernel
theorem dX6_turnsWishes_24 : decode cX6_turnsWishes 24 = .ok (.ishr, 1) := by decide +kernel
theorem dX6_turnsWishes_25 : decode cX6_turnsWishes 25 = .ok (.iconst 1, 1) := by decide +kernel
theorem dX6_turnsWishes_26 : decode cX6_turnsWishes 26 = .ok (.iand, 1) := by decide +kernel
theorem dX6_turnsWishes_27 : decode cX6_turnsWishes 27 = .ok (.ixor, 1) := by decide +kernel
theorem dX6_turnsWishes_28 : decode cX6_turnsWishes 28 = .ok (.iastore, 1) := by decide +kernel
theorem dX6_turnsWishes_29 : decode cX6_turnsWishes 29 = .ok (.iinc 2 1, 3) := by decide +kernel
theorem dX6_turnsWishes_32 : decode cX6_turnsWishes 32 = .ok (.goto (-30), 3) := by decide +kernel
theorem dX6_turnsWishes_35 : decode cX6_turnsWishes 35 = .ok (.return_, 1) := by decide +kernel
abbrev rm_X6_turnsWishes : Room := { frames := 0, cells := 0, slots := 0, locals := 0 }
abbrev jJ_X6_turnsWishes (l : Launch) (G : jx_G) (sz : Nat) (out : jx_M) (pc : Nat) (lv : List (Nat × Value)) (st : List Value) (σ : jx_M) : Prop := jx_J l (mm_env G) (mm_dyn G) (mm_rg G) sz RX6 "turnsWishes" cX6_turnsWishes 3 none rm_X6_turnsWishes (fun below args s => MQ below (jx_Qv (mm_dyn G) out (jx_A (mm_rg G) sz)) args s 0 0 (jx_A (mm_rg G) sz)) 0 0 pc lv st σ
def g_X6_turnsWishes_2 (k2 : jx_M → Int32 → Int32 → Option jx_M) (σ : jx_M) (v1 : Int32) (v2 : Int32) : Option jx_M :=
  if (σ 1 0) ≤ v2 then some σ else jx_gd (jx_in ((49 : Int32) + v2) 920) (jx_gd (jx_in ((49 : Int32) + v2) 920) (jx_lt (jx_mu σ 1 ((49 : Int32) + v2).toNatClampNeg ((σ 1 ((49 : Int32) + v2).toNatClampNeg) ^^^ ((v1 >>> (v2 &&& 31)) &&& (1 : Int32)))) (fun σ4 => jx_lt (v2 + (1 : Int32)) (fun x5 => (k2 σ4 v1 x5)))))
set_option maxHeartbeats 4000000 in
set_option maxRecDepth 100000 in
theorem jg_X6_turnsWishes_2 (l : Launch) (G : jx_G) (hG : mm_ok G) (sz : Nat) (out : jx_M) (k2 : jx_M → Int32 → Int32 → Option jx_M) (h2 : ∀ (σ : jx_M) (v1 : Int32) (v2 : Int32), k2 σ v1 v2 = some out → jJ_X6_turnsWishes l G sz out 2 [(0, .ref (G.2 10)), (1, .int v1), (2, .int v2)] [] σ) (σ : jx_M) (v1 : Int32) (v2 : Int32) (h : g_X6_turnsWishes_2 k2 σ v1 v2 = some out) : jJ_X6_turnsWishes l G sz out 2 [(0, .ref (G.2 10)), (1, .int v1), (2, .int v2)] [] σ := by
  unfold g_X6_turnsWishes_2 at h
  refine jx_iload_n (pc := 2) (k0 := 2) rfl dX6_turnsWishes_2 ?_
  refine jx_aload_n (pc := 3) (k0 := 0) rfl dX6_turnsWishes_3 ?_
  refine mm_g_s (pc := 4) fl_X6_9 dX6_turnsWishes_4 ?_
  refine jx_iconst (pc := 7) (v := (0 : Int32)) (by decide) dX6_turnsWishes_7 ?_
  refine mm_l_s (pc := 8) (j := 0) (jx_in_o (by decide)) (by decide) dX6_turnsWishes_8 ?_
  refine jx_icmp_ge (pc := 9) (tgt := 35) dX6_turnsWishes_9 (by decide) (fun c1 => ?_) (fun c1 => ?_)
  · have h := jx_t c1 h
    have h := Option.some.inj h
    subst h
    exact jx_vret (pc := 35) dX6_turnsWishes_35
  · have h := jx_f c1 h
    refine jx_aload_n (pc := 12) (k0 := 0) rfl dX6_turnsWishes_12 ?_
    refine mm_g_s (pc := 13) fl_X6_9 dX6_turnsWishes_13 ?_
    refine jx_bipush (pc := 16) (v := (49 : Int32)) (by decide) dX6_turnsWishes_16 ?_
    refine jx_iload_n (pc := 18) (k0 := 2) rfl dX6_turnsWishes_18 ?_
    refine jx_iadd (pc := 19) dX6_turnsWishes_19 ?_
    refine jx_dup2 (pc := 20) rfl rfl dX6_turnsWishes_20 ?_
    obtain ⟨g2, h⟩ := jx_gd_o h
    refine mm_l_s (pc := 21) (jx_in_o g2) rfl dX6_turnsWishes_21 ?_
    refine jx_iload_n (pc := 22) (k0 := 1) rfl dX6_turnsWishes_22 ?_
    refine jx_iload_n (pc := 23) (k0 := 2) rfl dX6_turnsWishes_23 ?_
    refine jx_ishr (pc := 24) dX6_turnsWishes_24 ?_
    refine jx_iconst (pc := 25) (v := (1 : Int32)) (by decide) dX6_turnsWishes_25 ?_
    refine jx_iand (pc := 26) dX6_turnsWishes_26 ?_
    refine jx_ixor (pc := 27) dX6_turnsWishes_27 ?_
    obtain ⟨g3, h⟩ := jx_gd_o h
    obtain ⟨σ4, eσ4, h⟩ := jx_lt_o h
    refine mm_s_s (pc := 28) hG (jx_in_o g3) rfl eσ4 dX6_turnsWishes_28 ?_
    obtain ⟨x5, ex5, h⟩ := jx_lt_o h
    refine jx_iinc (pc := 29) (i := 2) (v := v2) rfl ex5 (n := 1) (by decide) (by decide) (lv' := [(2, .int x5), (0, .ref (G.2 10)), (1, .int v1)]) rfl dX6_turnsWishes_29 ?_
    refine jx_goto (pc := 32) (tgt := 2) dX6_turnsWishes_32 (by decide) ?_
    exact jx_sub [1, 2, 0] rfl (h2 σ4 v1 x5 h)
def b_X6_turnsWishes_2  : Nat → jx_M → Int32 → Int32 → Option jx_M
  | 0, _, _, _ => none
  | n + 1, σ, v1, v2 => g_X6_turnsWishes_2 (b_X6_turnsWishes_2 n) σ v1 v2
theorem jb_X6_turnsWishes_2 (l : Launch) (G : jx_G) (hG : mm_ok G) (sz : Nat) (out : jx_M)  : ∀ (n : Nat) (σ : jx_M) (v1 : Int32) (v2 : Int32), b_X6_turnsWishes_2 n σ v1 v2 = some out → jJ_X6_turnsWishes l G sz out 2 [(0, .ref (G.2 10)), (1, .int v1), (2, .int v2)] [] σ := by
  intro n
  induction n with
  | zero =>
    intro σ v1 v2 h
    cases h
  | succ n ih =>
    intro σ v1 v2 h
    exact jg_X6_turnsWishes_2 l G hG sz out (b_X6_turnsWishes_2 n) ih σ v1 v2 h
def f_X6_turnsWishes (σ : jx_M) (a1 : Int32) : Option jx_M :=
  (b_X6_turnsWishes_2 jx_fuel σ a1 (0 : Int32))
set_option maxHeartbeats 4000000 in
set_option maxRecDepth 100000 in
theorem k_X6_turnsWishes (l : Launch) (G : jx_G) (hG : mm_ok G) (sz : Nat) (σ : jx_M) (a1 : Int32) (out : jx_M) (h : f_X6_turnsWishes σ a1 = some out) : Met l yX6_turnsWishes (Cond.code yX6_turnsWishes cX6_turnsWishes 3 none :: jx_ws) rm_X6_turnsWishes (jx_Pc (mm_env G) (mm_dyn G) (mm_rg G) sz σ [.ref (G.2 10), .int a1]) (jx_Qv (mm_dyn G) out (jx_A (mm_rg G) sz)) 0 0 (jx_A (mm_rg G) sz) := by
  unfold f_X6_turnsWishes at h
  refine jx_met (by decide) (Nat.le_of_ble_eq_true rfl) ?_
  refine jx_sub (lv' := [(0, .ref (G.2 10)), (1, .int a1)]) [0, 1] rfl ?_
  refine jx_iconst (pc := 0) (v := (0 : Int32)) (by decide) dX6_turnsWishes_0 ?_
  refine jx_istore_n (pc := 1) (i := 2) rfl rfl (by decide) (lv' := [(2, .int (0 : Int32)), (0, .ref (G.2 10)), (1, .int a1)]) rfl dX6_turnsWishes_1 ?_
  exact jx_sub [1, 2, 0] rfl (jb_X6_turnsWishes_2 l G hG sz out jx_fuel σ a1 (0 : Int32) h)
theorem dX6_count1_0 : decode cX6_count1 0 = .ok (.iconst 0, 1) := by decide +kernel
theorem dX6_count1_1 : decode cX6_count1 1 = .ok (.istore_n 1, 1) := by decide +kernel
theorem dX6_count1_2 : decode cX6_count1 2 = .ok (.iconst 0, 1) := by decide +kernel
theorem dX6_count1_3 : decode cX6_count1 3 = .ok (.istore_n 2, 1) := by decide +kernel
theorem dX6_count1_4 : decode cX6_count1 4 = .ok (.iload_n 2, 1) := by decide +kernel
theorem dX6_count1_5 : decode cX6_count1 5 = .ok (.bipush 7, 2) := by decide +kernel
theorem dX6_count1_7 : decode cX6_count1 7 = .ok (.if_icmp .ge 17, 3) := by decide +kernel
theorem dX6_count1_10 : decode cX6_count1 10 = .ok (.iload_n 1, 1) := by decide +kernel
theorem dX6_count1_11 : decode cX6_count1 11 = .ok (.iload_n 0, 1) := by decide +kernel
theorem dX6_count1_12 : decode cX6_count1 12 = .ok (.iload_n 2, 1) := by decide +kernel
theorem dX6_count1_13 : decode cX6_count1 13 = .ok (.ishr, 1) := by decide +kernel
theorem dX6_count1_14 : decode cX6_count1 14 = .ok (.iconst 1, 1) := by decide +kernel
theorem dX6_count1_15 : decode cX6_count1 15 = .ok (.iand, 1) := by decide +kernel
theorem dX6_count1_16 : decode cX6_count1 16 = .ok (.iadd, 1) := by decide +kernel
theorem dX6_count1_17 : decode cX6_count1 17 = .ok (.istore_n 1, 1) := by decide +kernel
theorem dX6_count1_18 : decode cX6_count1 18 = .ok (.iinc 2 1, 3) := by decide +kernel
theorem dX6_count1_21 : decode cX6_count1 21 = .ok (.goto (-17), 3) := by decide +kernel
theorem dX6_count1_24 : decode cX6_count1 24 = .ok (.iload_n 1, 1) := by decide +kernel
theorem dX6_count1_25 : decode cX6_count1 25 = .ok (.ireturn, 1) := by decide +kernel
abbrev rm_X6_count1 : Room := { frames := 0, cells := 0, slots := 0, locals := 0 }
abbrev jJ_X6_count1 (l : Launch) (G : jx_G) (sz : Nat) (σ0 : jx_M) (out : Int32) (pc : Nat) (lv : List (Nat × Value)) (st : List Value) (σ : jx_M) : Prop := jx_J l (mm_env G) (mm_dyn G) (mm_rg G) sz RX6 "count1" cX6_count1 3 (some .int) rm_X6_count1 (fun below args s => MQ below (jx_Qi (mm_dyn G) σ0 out (jx_A (mm_rg G) sz)) args s 0 0 (jx_A (mm_rg G) sz)) 0 0 pc lv st σ
def g_X6_count1_4 (k4 : Int32 → Int32 → Int32 → Option Int32) (v0 : Int32) (v1 : Int32) (v2 : Int32) : Option Int32 :=
  if (7 : Int32) ≤ v2 then some v1 else jx_lt ((v1 + ((v0 >>> (v2 &&& 31)) &&& (1 : Int32)))) (fun x2 => jx_lt (v2 + (1 : Int32)) (fun x3 => (k4 v0 x2 x3)))
set_option maxHeartbeats 4000000 in
set_option maxRecDepth 100000 in
theorem jg_X6_count1_4 (l : Launch) (G : jx_G) (hG : mm_ok G) (sz : Nat) (σ0 : jx_M) (out : Int32) (k4 : Int32 → Int32 → Int32 → Option Int32) (h4 : ∀ (σ : jx_M) (v0 : Int32) (v1 : Int32) (v2 : Int32), σ = σ0 → k4 v0 v1 v2 = some out → jJ_X6_count1 l G sz σ0 out 4 [(0, .int v0), (1, .int v1), (2, .int v2)] [] σ) (σ : jx_M) (v0 : Int32) (v1 : Int32) (v2 : Int32) (e0 : σ = σ0) (h : g_X6_count1_4 k4 v0 v1 v2 = some out) : jJ_X6_count1 l G sz σ0 out 4 [(0, .int v0), (1, .int v1), (2, .int v2)] [] σ := by
  unfold g_X6_count1_4 at h
  refine jx_iload_n (pc := 4) (k0 := 2) rfl dX6_count1_4 ?_
  refine jx_bipush (pc := 5) (v := (7 : Int32)) (by decide) dX6_count1_5 ?_
  refine jx_icmp_ge (pc := 7) (tgt := 24) dX6_count1_7 (by decide) (fun c1 => ?_) (fun c1 => ?_)
  · have h := jx_t c1 h
    refine jx_iload_n (pc := 24) (k0 := 1) rfl dX6_count1_24 ?_
    subst e0
    have h := Option.some.inj h
    subst h
    exact jx_iret (pc := 25) dX6_count1_25
  · have h := jx_f c1 h
    refine jx_iload_n (pc := 10) (k0 := 1) rfl dX6_count1_10 ?_
    refine jx_iload_n (pc := 11) (k0 := 0) rfl dX6_count1_11 ?_
    refine jx_iload_n (pc := 12) (k0 := 2) rfl dX6_count1_12 ?_
    refine jx_ishr (pc := 13) dX6_count1_13 ?_
    refine jx_iconst (pc := 14) (v := (1 : Int32)) (by decide) dX6_count1_14 ?_
    refine jx_iand (pc := 15) dX6_count1_15 ?_
    refine jx_iadd (pc := 16) dX6_count1_16 ?_
    obtain ⟨x2, ex2, h⟩ := jx_lt_o h
    refine jx_istore_n (pc := 17) (i := 1) rfl ex2 (by decide) (lv' := [(1, .int x2), (0, .int v0), (2, .int v2)]) rfl dX6_count1_17 ?_
    obtain ⟨x3, ex3, h⟩ := jx_lt_o h
    refine jx_iinc (pc := 18) (i := 2) (v := v2) rfl ex3 (n := 1) (by decide) (by decide) (lv' := [(2, .int x3), (1, .int x2), (0, .int v0)]) rfl dX6_count1_18 ?_
    refine jx_goto (pc := 21) (tgt := 4) dX6_count1_21 (by decide) ?_
    exact jx_sub [2, 1, 0] rfl (h4 σ v0 x2 x3 e0 h)
def b_X6_count1_4  : Nat → Int32 → Int32 → Int32 → Option Int32
  | 0, _, _, _ => none
  | n + 1, v0, v1, v2 => g_X6_count1_4 (b_X6_count1_4 n) v0 v1 v2
theorem jb_X6_count1_4 (l : Launch) (G : jx_G) (hG : mm_ok G) (sz : Nat) (σ0 : jx_M) (out : Int32)  : ∀ (n : Nat) (σ : jx_M) (v0 : Int32) (v1 : Int32) (v2 : Int32), σ = σ0 → b_X6_count1_4 n v0 v1 v2 = some out → jJ_X6_count1 l G sz σ0 out 4 [(0, .int v0), (1, .int v1), (2, .int v2)] [] σ := by
  intro n
  induction n with
  | zero =>
    intro σ v0 v1 v2 e0 h
    cases h
  | succ n ih =>
    intro σ v0 v1 v2 e0 h
    exact jg_X6_count1_4 l G hG sz σ0 out (b_X6_count1_4 n) ih σ v0 v1 v2 e0 h
def f_X6_count1 (a0 : Int32) : Option Int32 :=
  (b_X6_count1_4 jx_fuel a0 (0 : Int32) (0 : Int32))
set_option maxHeartbeats 4000000 in
set_option maxRecDepth 100000 in
theorem k_X6_count1 (l : Launch) (G : jx_G) (hG : mm_ok G) (sz : Nat) (σ : jx_M) (a0 : Int32) (out : Int32) (h : f_X6_count1 a0 = some out) : Met l yX6_count1 (Cond.code yX6_count1 cX6_count1 3 (some .int) :: jx_ws) rm_X6_count1 (jx_Pc (mm_env G) (mm_dyn G) (mm_rg G) sz σ [.int a0]) (jx_Qi (mm_dyn G) σ out (jx_A (mm_rg G) sz)) 0 0 (jx_A (mm_rg G) sz) := by
  unfold f_X6_count1 at h
  refine jx_met (by decide) (Nat.le_of_ble_eq_true rfl) ?_
  refine jx_sub (lv' := [(0, .int a0)]) [0] rfl ?_
  refine jx_iconst (pc := 0) (v := (0 : Int32)) (by decide) dX6_count1_0 ?_
  refine jx_istore_n (pc := 1) (i := 1) rfl rfl (by decide) (lv' := [(1, .int (0 : Int32)), (0, .int a0)]) rfl dX6_count1_1 ?_
  refine jx_iconst (pc := 2) (v := (0 : Int32)) (by decide) dX6_count1_2 ?_
  refine jx_istore_n (pc := 3) (i := 2) rfl rfl (by decide) (lv' := [(2, .int (0 : Int32)), (1, .int (0 : Int32)), (0, .int a0)]) rfl dX6_count1_3 ?_
  exact jx_sub [2, 1, 0] rfl (jb_X6_count1_4 l G hG sz σ out jx_fuel σ a0 (0 : Int32) (0 : Int32) rfl h)
theorem dX6_lowest_0 : decode cX6_lowest 0 = .ok (.lload_n 0, 1) := by decide +kernel
theorem dX6_lowest_1 : decode cX6_lowest 1 = .ok (.lstore 5, 2) := by decide +kernel
theorem dX6_lowest_3 : decode cX6_lowest 3 = .ok (.lload_n 2, 1) := by decide +kernel
theorem dX6_lowest_4 : decode cX6_lowest 4 = .ok (.lstore 7, 2) := by decide +kernel
theorem dX6_lowest_6 : decode cX6_lowest 6 = .ok (.lload 7, 2) := by decide +kernel
theorem dX6_lowest_8 : decode cX6_lowest 8 = .ok (.lconst 0, 1) := by decide +kernel
theorem dX6_lowest_9 : decode cX6_lowest 9 = .ok (.lcmp, 1) := by decide +kernel
theorem dX6_lowest_10 : decode cX6_lowest 10 = .ok (.ifCond .eq 21, 3) := by decide +kernel
theorem dX6_lowest_13 : decode cX6_lowest 13 = .ok (.lload 5, 2) := by decide +kernel
theorem dX6_lowest_15 : decode cX6_lowest 15 = .ok (.lload 7, 2) := by decide +kernel
theorem dX6_lowest_17 : decode cX6_lowest 17 = .ok (.lrem, 1) := by decide +kernel
theorem dX6_lowest_18 : decode cX6_lowest 18 = .ok (.lstore 9, 2) := by decide +kernel
theorem dX6_lowest_20 : decode cX6_lowest 20 = .ok (.lload 7, 2) := by decide +kernel
theorem dX6_lowest_22 : decode cX6_lowest 22 = .ok (.lstore 5, 2) := by decide +kernel
theorem dX6_lowest_24 : decode cX6_lowest 24 = .ok (.lload 9, 2) := by decide +kernel
theorem dX6_lowest_26 : decode cX6_lowest 26 = .ok (.lstore 7, 2) := by decide +kernel
theorem dX6_lowest_28 : decode cX6_lowest 28 = .ok (.goto (-22), 3) := by decide +kernel
theorem dX6_lowest_31 : decode cX6_lowest 31 = .ok (.iload 4, 2) := by decide +kernel
theorem dX6_lowest_33 : decode cX6_lowest 33 = .ok (.ifCond .ne 7, 3) := by decide +kernel
theorem dX6_lowest_36 : decode cX6_lowest 36 = .ok (.lload_n 0, 1) := by decide +kernel
theorem dX6_lowest_37 : decode cX6_lowest 37 = .ok (.goto 4, 3) := by decide +kernel
theorem dX6_lowest_40 : decode cX6_lowest 40 = .ok (.lload_n 2, 1) := by decide +kernel
theorem dX6_lowest_41 : decode cX6_lowest 41 = .ok (.lload 5, 2) := by decide +kernel
theorem dX6_lowest_43 : decode cX6_lowest 43 = .ok (.ldiv, 1) := by decide +kernel
theorem dX6_lowest_44 : decode cX6_lowest 44 = .ok (.lreturn, 1) := by decide +kernel
abbrev rm_X6_lowest : Room := { frames := 0, cells := 0, slots := 0, locals := 0 }
abbrev jJ_X6_lowest (l : Launch) (G : jx_G) (sz : Nat) (σ0 : jx_M) (out : Int64) (pc : Nat) (lv : List (Nat × Value)) (st : List Value) (σ : jx_M) : Prop := jx_J l (mm_env G) (mm_dyn G) (mm_rg G) sz RX6 "lowest" cX6_lowest 11 (some .long) rm_X6_lowest (fun below args s => MQ below (jx_Ql (mm_dyn G) σ0 out (jx_A (mm_rg G) sz)) args s 0 0 (jx_A (mm_rg G) sz)) 0 0 pc lv st σ
def g_X6_lowest_6 (k6 : Int64 → Int64 → Int32 → Int64 → Int64 → Option Int64) (v0 : Int64) (v2 : Int64) (v4 : Int32) (v5 : Int64) (v7 : Int64) : Option Int64 :=
  if (lg_cmp v7 (0 : Int64)) = 0 then if v4 = 0 then jx_gd (decide (¬ v5 = 0)) (some (v0 / v5)) else jx_gd (decide (¬ v5 = 0)) (some (v2 / v5)) else jx_gd (decide (¬ v7 = 0)) (jx_lt ((v5 - v5 / v7 * v7)) (fun x6 => (k6 v0 v2 v4 v7 x6)))
set_option maxHeartbeats 4000000 in
set_option maxRecDepth 100000 in
theorem jg_X6_lowest_6 (l : Launch) (G : jx_G) (hG : mm_ok G) (sz : Nat) (σ0 : jx_M) (out : Int64) (k6 : Int64 → Int64 → Int32 → Int64 → Int64 → Option Int64) (h6 : ∀ (σ : jx_M) (v0 : Int64) (v2 : Int64) (v4 : Int32) (v5 : Int64) (v7 : Int64), σ = σ0 → k6 v0 v2 v4 v5 v7 = some out → jJ_X6_lowest l G sz σ0 out 6 [(0, .long v0), (2, .long v2), (4, .int v4), (5, .long v5), (7, .long v7)] [] σ) (σ : jx_M) (v0 : Int64) (v2 : Int64) (v4 : Int32) (v5 : Int64) (v7 : Int64) (e0 : σ = σ0) (h : g_X6_lowest_6 k6 v0 v2 v4 v5 v7 = some out) : jJ_X6_lowest l G sz σ0 out 6 [(0, .long v0), (2, .long v2), (4, .int v4), (5, .long v5), (7, .long v7)] [] σ := by
  unfold g_X6_lowest_6 at h
  refine jx_lload (pc := 6) (i := 7) rfl dX6_lowest_6 ?_
  refine jx_lconst (pc := 8) (v := (0 : Int64)) (by decide) dX6_lowest_8 ?_
  refine jx_lcmp (pc := 9) dX6_lowest_9 ?_
  refine jx_if_eq (pc := 10) (tgt := 31) dX6_lowest_10 (by decide) (fun c1 => ?_) (fun c1 => ?_)
  · have h := jx_t c1 h
    refine jx_iload (pc := 31) (i := 4) rfl dX6_lowest_31 ?_
    refine jx_if_ne (pc := 33) (tgt := 40) dX6_lowest_33 (by decide) (fun c2 => ?_) (fun c2 => ?_)
    · have h := jx_f c2 h
      refine jx_lload_n (pc := 40) (k0 := 2) rfl dX6_lowest_40 ?_
      refine jx_lload (pc := 41) (i := 5) rfl dX6_lowest_41 ?_
      obtain ⟨g3, h⟩ := jx_gd_o h
      refine jx_ldiv (pc := 43) (of_decide_eq_true g3) dX6_lowest_43 ?_
      subst e0
      have h := Option.some.inj h
      subst h
      exact jx_lret (pc := 44) dX6_lowest_44
    · have h := jx_t c2 h
      refine jx_lload_n (pc := 36) (k0 := 0) rfl dX6_lowest_36 ?_
      refine jx_goto (pc := 37) (tgt := 41) dX6_lowest_37 (by decide) ?_
      refine jx_lload (pc := 41) (i := 5) rfl dX6_lowest_41 ?_
      obtain ⟨g4, h⟩ := jx_gd_o h
      refine jx_ldiv (pc := 43) (of_decide_eq_true g4) dX6_lowest_43 ?_
      subst e0
      have h := Option.some.inj h
      subst h
      exact jx_lret (pc := 44) dX6_lowest_44
  · have h := jx_f c1 h
    refine jx_lload (pc := 13) (i := 5) rfl dX6_lowest_13 ?_
    refine jx_lload (pc := 15) (i := 7) rfl dX6_lowest_15 ?_
    obtain ⟨g5, h⟩ := jx_gd_o h
    refine jx_lrem (pc := 17) (of_decide_eq_true g5) dX6_lowest_17 ?_
    obtain ⟨x6, ex6, h⟩ := jx_lt_o h
    refine jx_lstore (pc := 18) (i := 9) ex6 (by decide) (lv' := [(9, .long x6), (0, .long v0), (2, .long v2), (4, .int v4), (5, .long v5), (7, .long v7)]) rfl dX6_lowest_18 ?_
    refine jx_lload (pc := 20) (i := 7) rfl dX6_lowest_20 ?_
    refine jx_lstore (pc := 22) (i := 5) rfl (by decide) (lv' := [(5, .long v7), (9, .long x6), (0, .long v0), (2, .long v2), (4, .int v4), (7, .long v7)]) rfl dX6_lowest_22 ?_
    refine jx_lload (pc := 24) (i := 9) rfl dX6_lowest_24 ?_
    refine jx_lstore (pc := 26) (i := 7) rfl (by decide) (lv' := [(7, .long x6), (5, .long v7), (9, .long x6), (0, .long v0), (2, .long v2), (4, .int v4)]) rfl dX6_lowest_26 ?_
    refine jx_goto (pc := 28) (tgt := 6) dX6_lowest_28 (by decide) ?_
    exact jx_sub [3, 4, 5, 1, 0] rfl (h6 σ v0 v2 v4 v7 x6 e0 h)
def b_X6_lowest_6  : Nat → Int64 → Int64 → Int32 → Int64 → Int64 → Option Int64
  | 0, _, _, _, _, _ => none
  | n + 1, v0, v2, v4, v5, v7 => g_X6_lowest_6 (b_X6_lowest_6 n) v0 v2 v4 v5 v7
theorem jb_X6_lowest_6 (l : Launch) (G : jx_G) (hG : mm_ok G) (sz : Nat) (σ0 : jx_M) (out : Int64)  : ∀ (n : Nat) (σ : jx_M) (v0 : Int64) (v2 : Int64) (v4 : Int32) (v5 : Int64) (v7 : Int64), σ = σ0 → b_X6_lowest_6 n v0 v2 v4 v5 v7 = some out → jJ_X6_lowest l G sz σ0 out 6 [(0, .long v0), (2, .long v2), (4, .int v4), (5, .long v5), (7, .long v7)] [] σ := by
  intro n
  induction n with
  | zero =>
    intro σ v0 v2 v4 v5 v7 e0 h
    cases h
  | succ n ih =>
    intro σ v0 v2 v4 v5 v7 e0 h
    exact jg_X6_lowest_6 l G hG sz σ0 out (b_X6_lowest_6 n) ih σ v0 v2 v4 v5 v7 e0 h
def f_X6_lowest (a0 : Int64) (a2 : Int64) (a4 : Int32) : Option Int64 :=
  (b_X6_lowest_6 jx_fuel a0 a2 a4 a0 a2)
set_option maxHeartbeats 4000000 in
set_option maxRecDepth 100000 in
theorem k_X6_lowest (l : Launch) (G : jx_G) (hG : mm_ok G) (sz : Nat) (σ : jx_M) (a0 : Int64) (a2 : Int64) (a4 : Int32) (out : Int64) (h : f_X6_lowest a0 a2 a4 = some out) : Met l yX6_lowest (Cond.code yX6_lowest cX6_lowest 11 (some .long) :: jx_ws) rm_X6_lowest (jx_Pc (mm_env G) (mm_dyn G) (mm_rg G) sz σ [.long a0, .long a2, .int a4]) (jx_Ql (mm_dyn G) σ out (jx_A (mm_rg G) sz)) 0 0 (jx_A (mm_rg G) sz) := by
  unfold f_X6_lowest at h
  refine jx_met (by decide) (Nat.le_of_ble_eq_true rfl) ?_
  refine jx_sub (lv' := [(0, .long a0), (2, .long a2), (4, .int a4)]) [0, 1, 2] rfl ?_
  refine jx_lload_n (pc := 0) (k0 := 0) rfl dX6_lowest_0 ?_
  refine jx_lstore (pc := 1) (i := 5) rfl (by decide) (lv' := [(5, .long a0), (0, .long a0), (2, .long a2), (4, .int a4)]) rfl dX6_lowest_1 ?_
  refine jx_lload_n (pc := 3) (k0 := 2) rfl dX6_lowest_3 ?_
  refine jx_lstore (pc := 4) (i := 7) rfl (by decide) (lv' := [(7, .long a2), (5, .long a0), (0, .long a0), (2, .long a2), (4, .int a4)]) rfl dX6_lowest_4 ?_
  exact jx_sub [2, 3, 4, 1, 0] rfl (jb_X6_lowest_6 l G hG sz σ out jx_fuel σ a0 a2 a4 a0 a2 rfl h)
theorem dX6_lampsAt_0 : decode cX6_lampsAt 0 = .ok (.iconst 0, 1) := by decide +kernel
theorem dX6_lampsAt_1 : decode cX6_lampsAt 1 = .ok (.istore_n 2, 1) := by decide +kernel
theorem dX6_lampsAt_2 : decode cX6_lampsAt 2 = .ok (.iconst 0, 1) := by decide +kernel
theorem dX6_lampsAt_3 : decode cX6_lampsAt 3 = .ok (.istore_n 3, 1) := by decide +kernel
theorem dX6_lampsAt_4 : decode cX6_lampsAt 4 = .ok (.iload_n 3, 1) := by decide +kernel
theorem dX6_lampsAt_5 : decode cX6_lampsAt 5 = .ok (.aload_n 0, 1) := by decide +kernel
theorem dX6_lampsAt_6 : decode cX6_lampsAt 6 = .ok (.getfield 9, 3) := by decide +kernel
theorem dX6_lampsAt_9 : decode cX6_lampsAt 9 = .ok (.iconst 0, 1) := by decide +kernel
theorem dX6_lampsAt_10 : decode cX6_lampsAt 10 = .ok (.iaload, 1) := by decide +kernel
theorem dX6_lampsAt_11 : decode cX6_lampsAt 11 = .ok (.if_icmp .ge 27, 3) := by decide +kernel
theorem dX6_lampsAt_14 : decode cX6_lampsAt 14 = .ok (.iload_n 2, 1) := by decide +kernel
theorem dX6_lampsAt_15 : decode cX6_lampsAt 15 = .ok (.aload_n 0, 1) := by decide +kernel
theorem dX6_lampsAt_16 : decode cX6_lampsAt 16 = .ok (.getfield 31, 3) := by decide +kernel
theorem dX6_lampsAt_19 : decode cX6_lampsAt 19 = .ok (.iload_n 3, 1) := by decide +kernel
theorem dX6_lampsAt_20 : decode cX6_lampsAt 20 = .ok (.iaload, 1) := by decide +kernel
theorem dX6_lampsAt_21 : decode cX6_lampsAt 21 = .ok (.iload_n 1, 1) := by decide +kernel
theorem dX6_lampsAt_22 : decode cX6_lampsAt 22 = .ok (.if_icmp .ne 7, 3) := by decide +kernel
theorem dX6_lampsAt_25 : decode cX6_lampsAt 25 = .ok (.iconst 1, 1) := by decide +kernel
theorem dX6_lampsAt_26 : decode cX6_lampsAt 26 = .ok (.goto 4, 3) := by decide +kernel
theorem dX6_lampsAt_29 : decode cX6_lampsAt 29 = .ok (.iconst 0, 1) := by decide +kernel
theorem dX6_lampsAt_30 : decode cX6_lampsAt 30 = .ok (.iadd, 1) := by decide +kernel
theorem dX6_lampsAt_31 : decode cX6_lampsAt 31 = .ok (.istore_n 2, 1) := by decide +kernel
theorem dX6_lampsAt_32 : decode cX6_lampsAt 32 = .ok (.iinc 3 1, 3) := by decide +kernel
theorem dX6_lampsAt_35 : decode cX6_lampsAt 35 = .ok (.goto (-31), 3) := by decide +kernel
theorem dX6_lampsAt_38 : decode cX6_lampsAt 38 = .ok (.iload_n 2, 1) := by decide +kernel
theorem dX6_lampsAt_39 : decode cX6_lampsAt 39 = .ok (.ireturn, 1) := by decide +kernel
abbrev rm_X6_lampsAt : Room := { frames := 0, cells := 0, slots := 0, locals := 0 }
abbrev jJ_X6_lampsAt (l : Launch) (G : jx_G) (sz : Nat) (σ0 : jx_M) (out : Int32) (pc : Nat) (lv : List (Nat × Value)) (st : List Value) (σ : jx_M) : Prop := jx_J l (mm_env G) (mm_dyn G) (mm_rg G) sz RX6 "lampsAt" cX6_lampsAt 4 (some .int) rm_X6_lampsAt (fun below args s => MQ below (jx_Qi (mm_dyn G) σ0 out (jx_A (mm_rg G) sz)) args s 0 0 (jx_A (mm_rg G) sz)) 0 0 pc lv st σ
def b_X6_lampsAt_30 (k4 : jx_M → Int32 → Int32 → Int32 → Option Int32) (σ : jx_M) (v1 : Int32) (v3 : Int32) (s0 : Int32) (s1 : Int32) : Option Int32 :=
  jx_lt ((s1 + s0)) (fun x1 => jx_lt (v3 + (1 : Int32)) (fun x2 => (k4 σ v1 x1 x2)))
set_option maxHeartbeats 4000000 in
set_option maxRecDepth 100000 in
theorem jb_X6_lampsAt_30 (l : Launch) (G : jx_G) (hG : mm_ok G) (sz : Nat) (σ0 : jx_M) (out : Int32) (k4 : jx_M → Int32 → Int32 → Int32 → Option Int32) (h4 : ∀ (σ : jx_M) (v1 : Int32) (v2 : Int32) (v3 : Int32), σ = σ0 → k4 σ v1 v2 v3 = some out → jJ_X6_lampsAt l G sz σ0 out 4 [(0, .ref (G.2 10)), (1, .int v1), (2, .int v2), (3, .int v3)] [] σ) (σ : jx_M) (v1 : Int32) (v3 : Int32) (s0 : Int32) (s1 : Int32) (e0 : σ = σ0) (h : b_X6_lampsAt_30 k4 σ v1 v3 s0 s1 = some out) : jJ_X6_lampsAt l G sz σ0 out 30 [(0, .ref (G.2 10)), (1, .int v1), (3, .int v3)] [.int s0, .int s1] σ := by
  unfold b_X6_lampsAt_30 at h
  refine jx_iadd (pc := 30) dX6_lampsAt_30 ?_
  obtain ⟨x1, ex1, h⟩ := jx_lt_o h
  refine jx_istore_n (pc := 31) (i := 2) rfl ex1 (by decide) (lv' := [(2, .int x1), (0, .ref (G.2 10)), (1, .int v1), (3, .int v3)]) rfl dX6_lampsAt_31 ?_
  obtain ⟨x2, ex2, h⟩ := jx_lt_o h
  refine jx_iinc (pc := 32) (i := 3) (v := v3) rfl ex2 (n := 1) (by decide) (by decide) (lv' := [(3, .int x2), (2, .int x1), (0, .ref (G.2 10)), (1, .int v1)]) rfl dX6_lampsAt_32 ?_
  refine jx_goto (pc := 35) (tgt := 4) dX6_lampsAt_35 (by decide) ?_
  exact jx_sub [2, 3, 1, 0] rfl (h4 σ v1 x1 x2 e0 h)
def g_X6_lampsAt_4 (k4 : jx_M → Int32 → Int32 → Int32 → Option Int32) (σ : jx_M) (v1 : Int32) (v2 : Int32) (v3 : Int32) : Option Int32 :=
  if (σ 1 0) ≤ v3 then some v2 else jx_gd (jx_in v3 6) (if (σ 7 v3.toNatClampNeg) = v1 then (b_X6_lampsAt_30 k4 σ v1 v3 (1 : Int32) v2) else (b_X6_lampsAt_30 k4 σ v1 v3 (0 : Int32) v2))
set_option maxHeartbeats 4000000 in
set_option maxRecDepth 100000 in
theorem jg_X6_lampsAt_4 (l : Launch) (G : jx_G) (hG : mm_ok G) (sz : Nat) (σ0 : jx_M) (out : Int32) (k4 : jx_M → Int32 → Int32 → Int32 → Option Int32) (h4 : ∀ (σ : jx_M) (v1 : Int32) (v2 : Int32) (v3 : Int32), σ = σ0 → k4 σ v1 v2 v3 = some out → jJ_X6_lampsAt l G sz σ0 out 4 [(0, .ref (G.2 10)), (1, .int v1), (2, .int v2), (3, .int v3)] [] σ) (σ : jx_M) (v1 : Int32) (v2 : Int32) (v3 : Int32) (e0 : σ = σ0) (h : g_X6_lampsAt_4 k4 σ v1 v2 v3 = some out) : jJ_X6_lampsAt l G sz σ0 out 4 [(0, .ref (G.2 10)), (1, .int v1), (2, .int v2), (3, .int v3)] [] σ := by
  unfold g_X6_lampsAt_4 at h
  refine jx_iload_n (pc := 4) (k0 := 3) rfl dX6_lampsAt_4 ?_
  refine jx_aload_n (pc := 5) (k0 := 0) rfl dX6_lampsAt_5 ?_
  refine mm_g_s (pc := 6) fl_X6_9 dX6_lampsAt_6 ?_
  refine jx_iconst (pc := 9) (v := (0 : Int32)) (by decide) dX6_lampsAt_9 ?_
  refine mm_l_s (pc := 10) (j := 0) (jx_in_o (by decide)) (by decide) dX6_lampsAt_10 ?_
  refine jx_icmp_ge (pc := 11) (tgt := 38) dX6_lampsAt_11 (by decide) (fun c1 => ?_) (fun c1 => ?_)
  · have h := jx_t c1 h
    refine jx_iload_n (pc := 38) (k0 := 2) rfl dX6_lampsAt_38 ?_
    subst e0
    have h := Option.some.inj h
    subst h
    exact jx_iret (pc := 39) dX6_lampsAt_39
  · have h := jx_f c1 h
    refine jx_iload_n (pc := 14) (k0 := 2) rfl dX6_lampsAt_14 ?_
    refine jx_aload_n (pc := 15) (k0 := 0) rfl dX6_lampsAt_15 ?_
    refine mm_g_lying (pc := 16) fl_X6_31 dX6_lampsAt_16 ?_
    refine jx_iload_n (pc := 19) (k0 := 3) rfl dX6_lampsAt_19 ?_
    obtain ⟨g2, h⟩ := jx_gd_o h
    refine mm_l_lying (pc := 20) (jx_in_o g2) rfl dX6_lampsAt_20 ?_
    refine jx_iload_n (pc := 21) (k0 := 1) rfl dX6_lampsAt_21 ?_
    refine jx_icmp_ne (pc := 22) (tgt := 29) dX6_lampsAt_22 (by decide) (fun c3 => ?_) (fun c3 => ?_)
    · have h := jx_f c3 h
      refine jx_iconst (pc := 29) (v := (0 : Int32)) (by decide) dX6_lampsAt_29 ?_
      exact jx_sub [0, 1, 3] rfl (jb_X6_lampsAt_30 l G hG sz σ0 out k4 h4 σ v1 v3 (0 : Int32) v2 e0 h)
    · have h := jx_t c3 h
      refine jx_iconst (pc := 25) (v := (1 : Int32)) (by decide) dX6_lampsAt_25 ?_
      refine jx_goto (pc := 26) (tgt := 30) dX6_lampsAt_26 (by decide) ?_
      exact jx_sub [0, 1, 3] rfl (jb_X6_lampsAt_30 l G hG sz σ0 out k4 h4 σ v1 v3 (1 : Int32) v2 e0 h)
def b_X6_lampsAt_4  : Nat → jx_M → Int32 → Int32 → Int32 → Option Int32
  | 0, _, _, _, _ => none
  | n + 1, σ, v1, v2, v3 => g_X6_lampsAt_4 (b_X6_lampsAt_4 n) σ v1 v2 v3
theorem jb_X6_lampsAt_4 (l : Launch) (G : jx_G) (hG : mm_ok G) (sz : Nat) (σ0 : jx_M) (out : Int32)  : ∀ (n : Nat) (σ : jx_M) (v1 : Int32) (v2 : Int32) (v3 : Int32), σ = σ0 → b_X6_lampsAt_4 n σ v1 v2 v3 = some out → jJ_X6_lampsAt l G sz σ0 out 4 [(0, .ref (G.2 10)), (1, .int v1), (2, .int v2), (3, .int v3)] [] σ := by
  intro n
  induction n with
  | zero =>
    intro σ v1 v2 v3 e0 h
    cases h
  | succ n ih =>
    intro σ v1 v2 v3 e0 h
    exact jg_X6_lampsAt_4 l G hG sz σ0 out (b_X6_lampsAt_4 n) ih σ v1 v2 v3 e0 h
def f_X6_lampsAt (σ : jx_M) (a1 : Int32) : Option Int32 :=
  (b_X6_lampsAt_4 jx_fuel σ a1 (0 : Int32) (0 : Int32))
set_option maxHeartbeats 4000000 in
set_option maxRecDepth 100000 in
theorem k_X6_lampsAt (l : Launch) (G : jx_G) (hG : mm_ok G) (sz : Nat) (σ : jx_M) (a1 : Int32) (out : Int32) (h : f_X6_lampsAt σ a1 = some out) : Met l yX6_lampsAt (Cond.code yX6_lampsAt cX6_lampsAt 4 (some .int) :: jx_ws) rm_X6_lampsAt (jx_Pc (mm_env G) (mm_dyn G) (mm_rg G) sz σ [.ref (G.2 10), .int a1]) (jx_Qi (mm_dyn G) σ out (jx_A (mm_rg G) sz)) 0 0 (jx_A (mm_rg G) sz) := by
  unfold f_X6_lampsAt at h
  refine jx_met (by decide) (Nat.le_of_ble_eq_true rfl) ?_
  refine jx_sub (lv' := [(0, .ref (G.2 10)), (1, .int a1)]) [0, 1] rfl ?_
  refine jx_iconst (pc := 0) (v := (0 : Int32)) (by decide) dX6_lampsAt_0 ?_
  refine jx_istore_n (pc := 1) (i := 2) rfl rfl (by decide) (lv' := [(2, .int (0 : Int32)), (0, .ref (G.2 10)), (1, .int a1)]) rfl dX6_lampsAt_1 ?_
  refine jx_iconst (pc := 2) (v := (0 : Int32)) (by decide) dX6_lampsAt_2 ?_
  refine jx_istore_n (pc := 3) (i := 3) rfl rfl (by decide) (lv' := [(3, .int (0 : Int32)), (2, .int (0 : Int32)), (0, .ref (G.2 10)), (1, .int a1)]) rfl dX6_lampsAt_3 ?_
  exact jx_sub [2, 3, 1, 0] rfl (jb_X6_lampsAt_4 l G hG sz σ out jx_fuel σ a1 (0 : Int32) (0 : Int32) rfl h)
theorem dX6_ranBody_0 : decode cX6_ranBody 0 = .ok (.aload_n 0, 1) := by decide +kernel
theorem dX6_ranBody_1 : decode cX6_ranBody 1 = .ok (.getfield 227, 3) := by decide +kernel
theorem dX6_ranBody_4 : decode cX6_ranBody 4 = .ok (.bipush 20, 2) := by decide +kernel
theorem dX6_ranBody_6 : decode cX6_ranBody 6 = .ok (.if_icmp .ge 13, 3) := by decide +kernel
theorem dX6_ranBody_9 : decode cX6_ranBody 9 = .ok (.aload_n 0, 1) := by decide +kernel
theorem dX6_ranBody_10 : decode cX6_ranBody 10 = .ok (.getfield 37, 3) := by decide +kernel
theorem dX6_ranBody_13 : decode cX6_ranBody 13 = .ok (.aload_n 0, 1) := by decide +kernel
theorem dX6_ranBody_14 : decode cX6_ranBody 14 = .ok (.getfield 227, 3) := by decide +kernel
theorem dX6_ranBody_17 : decode cX6_ranBody 17 = .ok (.iload_n 1, 1) := by decide +kernel
theorem dX6_ranBody_18 : decode cX6_ranBody 18 = .ok (.iastore, 1) := by decide +kernel
theorem dX6_ranBody_19 : decode cX6_ranBody 19 = .ok (.aload_n 0, 1) := by decide +kernel
theorem dX6_ranBody_20 : decode cX6_ranBody 20 = .ok (.dup, 1) := by decide +kernel
theorem dX6_ranBody_21 : decode cX6_ranBody 21 = .ok (.getfield 227, 3) := by decide +kernel
theorem dX6_ranBody_24 : decode cX6_ranBody 24 = .ok (.iconst 1, 1) := by decide +kernel
theorem dX6_ranBody_25 : decode cX6_ranBody 25 = .ok (.iadd, 1) := by decide +kernel
theorem dX6_ranBody_26 : decode cX6_ranBody 26 = .ok (.putfield 227, 3) := by decide +kernel
theorem dX6_ranBody_29 : decode cX6_ranBody 29 = .ok (.return_, 1) := by decide +kernel
abbrev rm_X6_ranBody : Room := { frames := 0, cells := 0, slots := 0, locals := 0 }
abbrev jJ_X6_ranBody (l : Launch) (G : jx_G) (sz : Nat) (out : jx_M) (pc : Nat) (lv : List (Nat × Value)) (st : List Value) (σ : jx_M) : Prop := jx_J l (mm_env G) (mm_dyn G) (mm_rg G) sz RX6 "ranBody" cX6_ranBody 2 none rm_X6_ranBody (fun below args s => MQ below (jx_Qv (mm_dyn G) out (jx_A (mm_rg G) sz)) args s 0 0 (jx_A (mm_rg G) sz)) 0 0 pc lv st σ
def b_X6_ranBody_19  (σ : jx_M)  : Option jx_M :=
  jx_lt (jx_mu σ 0 22 ((σ 0 22) + (1 : Int32))) (fun σ1 => some σ1)
set_option maxHeartbeats 4000000 in
set_option maxRecDepth 100000 in
theorem jb_X6_ranBody_19 (l : Launch) (G : jx_G) (hG : mm_ok G) (sz : Nat) (out : jx_M)  (σ : jx_M)  (h : b_X6_ranBody_19 σ = some out) : jJ_X6_ranBody l G sz out 19 [(0, .ref (G.2 10))] [] σ := by
  unfold b_X6_ranBody_19 at h
  refine jx_aload_n (pc := 19) (k0 := 0) rfl dX6_ranBody_19 ?_
  refine jx_dup (pc := 20) rfl dX6_ranBody_20 ?_
  refine mm_g_ran (pc := 21) fl_X6_227 dX6_ranBody_21 ?_
  refine jx_iconst (pc := 24) (v := (1 : Int32)) (by decide) dX6_ranBody_24 ?_
  refine jx_iadd (pc := 25) dX6_ranBody_25 ?_
  obtain ⟨σ1, eσ1, h⟩ := jx_lt_o h
  refine mm_p_ran (pc := 26) hG fl_X6_227 eσ1 dX6_ranBody_26 ?_
  have h := Option.some.inj h
  subst h
  exact jx_vret (pc := 29) dX6_ranBody_29
def f_X6_ranBody (σ : jx_M) (a1 : Int32) : Option jx_M :=
  if (20 : Int32) ≤ (σ 0 22) then (b_X6_ranBody_19 σ) else jx_gd (jx_in (σ 0 22) 20) (jx_lt (jx_mu σ 9 (σ 0 22).toNatClampNeg a1) (fun σ3 => (b_X6_ranBody_19 σ3)))
set_option maxHeartbeats 4000000 in
set_option maxRecDepth 100000 in
theorem k_X6_ranBody (l : Launch) (G : jx_G) (hG : mm_ok G) (sz : Nat) (σ : jx_M) (a1 : Int32) (out : jx_M) (h : f_X6_ranBody σ a1 = some out) : Met l yX6_ranBody (Cond.code yX6_ranBody cX6_ranBody 2 none :: jx_ws) rm_X6_ranBody (jx_Pc (mm_env G) (mm_dyn G) (mm_rg G) sz σ [.ref (G.2 10), .int a1]) (jx_Qv (mm_dyn G) out (jx_A (mm_rg G) sz)) 0 0 (jx_A (mm_rg G) sz) := by
  unfold f_X6_ranBody at h
  refine jx_met (by decide) (Nat.le_of_ble_eq_true rfl) ?_
  refine jx_sub (lv' := [(0, .ref (G.2 10)), (1, .int a1)]) [0, 1] rfl ?_
  refine jx_aload_n (pc := 0) (k0 := 0) rfl dX6_ranBody_0 ?_
  refine mm_g_ran (pc := 1) fl_X6_227 dX6_ranBody_1 ?_
  refine jx_bipush (pc := 4) (v := (20 : Int32)) (by decide) dX6_ranBody_4 ?_
  refine jx_icmp_ge (pc := 6) (tgt := 19) dX6_ranBody_6 (by decide) (fun c1 => ?_) (fun c1 => ?_)
  · have h := jx_t c1 h
    exact jx_sub [0] rfl (jb_X6_ranBody_19 l G hG sz out σ h)
  · have h := jx_f c1 h
    refine jx_aload_n (pc := 9) (k0 := 0) rfl dX6_ranBody_9 ?_
    refine mm_g_bodies (pc := 10) fl_X6_37 dX6_ranBody_10 ?_
    refine jx_aload_n (pc := 13) (k0 := 0) rfl dX6_ranBody_13 ?_
    refine mm_g_ran (pc := 14) fl_X6_227 dX6_ranBody_14 ?_
    refine jx_iload_n (pc := 17) (k0 := 1) rfl dX6_ranBody_17 ?_
    obtain ⟨g2, h⟩ := jx_gd_o h
    obtain ⟨σ3, eσ3, h⟩ := jx_lt_o h
    refine mm_s_bodies (pc := 18) hG (jx_in_o g2) rfl eσ3 dX6_ranBody_18 ?_
    exact jx_sub [0] rfl (jb_X6_ranBody_19 l G hG sz out σ3 h)
theorem dX6_isUnder_0 : decode cX6_isUnder 0 = .ok (.iload_n 1, 1) := by decide +kernel
theorem dX6_isUnder_1 : decode cX6_isUnder 1 = .ok (.ifCond .eq 24, 3) := by decide +kernel
theorem dX6_isUnder_4 : decode cX6_isUnder 4 = .ok (.iload_n 1, 1) := by decide +kernel
theorem dX6_isUnder_5 : decode cX6_isUnder 5 = .ok (.iload_n 0, 1) := by decide +kernel
theorem dX6_isUnder_6 : decode cX6_isUnder 6 = .ok (.if_icmp .eq 19, 3) := by decide +kernel
theorem dX6_isUnder_9 : decode cX6_isUnder 9 = .ok (.iload_n 1, 1) := by decide +kernel
theorem dX6_isUnder_10 : decode cX6_isUnder 10 = .ok (.ifCond .le 19, 3) := by decide +kernel
theorem dX6_isUnder_13 : decode cX6_isUnder 13 = .ok (.iload_n 1, 1) := by decide +kernel
theorem dX6_isUnder_14 : decode cX6_isUnder 14 = .ok (.iconst 4, 1) := by decide +kernel
theorem dX6_isUnder_15 : decode cX6_isUnder 15 = .ok (.if_icmp .ge 14, 3) := by decide +kernel
theorem dX6_isUnder_18 : decode cX6_isUnder 18 = .ok (.iload_n 0, 1) := by decide +kernel
theorem dX6_isUnder_19 : decode cX6_isUnder 19 = .ok (.iload_n 1, 1) := by decide +kernel
theorem dX6_isUnder_20 : decode cX6_isUnder 20 = .ok (.iconst 3, 1) := by decide +kernel
theorem dX6_isUnder_21 : decode cX6_isUnder 21 = .ok (.iadd, 1) := by decide +kernel
theorem dX6_isUnder_22 : decode cX6_isUnder 22 = .ok (.if_icmp .ne 7, 3) := by decide +kernel
theorem dX6_isUnder_25 : decode cX6_isUnder 25 = .ok (.iconst 1, 1) := by decide +kernel
theorem dX6_isUnder_26 : decode cX6_isUnder 26 = .ok (.goto 4, 3) := by decide +kernel
theorem dX6_isUnder_29 : decode cX6_isUnder 29 = .ok (.iconst 0, 1) := by decide +kernel
theorem dX6_isUnder_30 : decode cX6_isUnder 30 = .ok (.ireturn, 1) := by decide +kernel
abbrev rm_X6_isUnder : Room := { frames := 0, cells := 0, slots := 0, locals := 0 }
abbrev jJ_X6_isUnder (l : Launch) (G : jx_G) (sz : Nat) (σ0 : jx_M) (out : Int32) (pc : Nat) (lv : List (Nat × Value)) (st : List Value) (σ : jx_M) : Prop := jx_J l (mm_env G) (mm_dyn G) (mm_rg G) sz RX6 "isUnder" cX6_isUnder 2 (some .boolean) rm_X6_isUnder (fun below args s => MQ below (jx_Qi (mm_dyn G) σ0 out (jx_A (mm_rg G) sz)) args s 0 0 (jx_A (mm_rg G) sz)) 0 0 pc lv st σ
def f_X6_isUnder (a0 : Int32) (a1 : Int32) : Option Int32 :=
  if a1 = 0 then some (1 : Int32) else if a1 = a0 then some (1 : Int32) else if a1 ≤ 0 then some (0 : Int32) else if (4 : Int32) ≤ a1 then some (0 : Int32) else if a0 = (a1 + (3 : Int32)) then some (1 : Int32) else some (0 : Int32)
set_option maxHeartbeats 4000000 in
set_option maxRecDepth 100000 in
theorem k_X6_isUnder (l : Launch) (G : jx_G) (hG : mm_ok G) (sz : Nat) (σ : jx_M) (a0 : Int32) (a1 : Int32) (out : Int32) (h : f_X6_isUnder a0 a1 = some out) : Met l yX6_isUnder (Cond.code yX6_isUnder cX6_isUnder 2 (some .boolean) :: jx_ws) rm_X6_isUnder (jx_Pc (mm_env G) (mm_dyn G) (mm_rg G) sz σ [.int a0, .int a1]) (jx_Qi (mm_dyn G) σ out (jx_A (mm_rg G) sz)) 0 0 (jx_A (mm_rg G) sz) := by
  unfold f_X6_isUnder at h
  refine jx_met (by decide) (Nat.le_of_ble_eq_true rfl) ?_
  refine jx_sub (lv' := [(0, .int a0), (1, .int a1)]) [0, 1] rfl ?_
  refine jx_iload_n (pc := 0) (k0 := 1) rfl dX6_isUnder_0 ?_
  refine jx_if_eq (pc := 1) (tgt := 25) dX6_isUnder_1 (by decide) (fun c1 => ?_) (fun c1 => ?_)
  · have h := jx_t c1 h
    refine jx_iconst (pc := 25) (v := (1 : Int32)) (by decide) dX6_isUnder_25 ?_
    refine jx_goto (pc := 26) (tgt := 30) dX6_isUnder_26 (by decide) ?_
    have h := Option.some.inj h
    subst h
    exact jx_zret (pc := 30) (Or.inr rfl) dX6_isUnder_30
  · have h := jx_f c1 h
    refine jx_iload_n (pc := 4) (k0 := 1) rfl dX6_isUnder_4 ?_
    refine jx_iload_n (pc := 5) (k0 := 0) rfl dX6_isUnder_5 ?_
    refine jx_icmp_eq (pc := 6) (tgt := 25) dX6_isUnder_6 (by decide) (fun c2 => ?_) (fun c2 => ?_)
    · have h := jx_t c2 h
      refine jx_iconst (pc := 25) (v := (1 : Int32)) (by decide) dX6_isUnder_25 ?_
      refine jx_goto (pc := 26) (tgt := 30) dX6_isUnder_26 (by decide) ?_
      have h := Option.some.inj h
      subst h
      exact jx_zret (pc := 30) (Or.inr rfl) dX6_isUnder_30
    · have h := jx_f c2 h
      refine jx_iload_n (pc := 9) (k0 := 1) rfl dX6_isUnder_9 ?_
      refine jx_if_le (pc := 10) (tgt := 29) dX6_isUnder_10 (by decide) (fun c3 => ?_) (fun c3 => ?_)
      · have h := jx_t c3 h
        refine jx_iconst (pc := 29) (v := (0 : Int32)) (by decide) dX6_isUnder_29 ?_
        have h := Option.some.inj h
        subst h
        exact jx_zret (pc := 30) (Or.inl rfl) dX6_isUnder_30
      · have h := jx_f c3 h
        refine jx_iload_n (pc := 13) (k0 := 1) rfl dX6_isUnder_13 ?_
        refine jx_iconst (pc := 14) (v := (4 : Int32)) (by decide) dX6_isUnder_14 ?_
        refine jx_icmp_ge (pc := 15) (tgt := 29) dX6_isUnder_15 (by decide) (fun c4 => ?_) (fun c4 => ?_)
        · have h := jx_t c4 h
          refine jx_iconst (pc := 29) (v := (0 : Int32)) (by decide) dX6_isUnder_29 ?_
          have h := Option.some.inj h
          subst h
          exact jx_zret (pc := 30) (Or.inl rfl) dX6_isUnder_30
        · have h := jx_f c4 h
          refine jx_iload_n (pc := 18) (k0 := 0) rfl dX6_isUnder_18 ?_
          refine jx_iload_n (pc := 19) (k0 := 1) rfl dX6_isUnder_19 ?_
          refine jx_iconst (pc := 20) (v := (3 : Int32)) (by decide) dX6_isUnder_20 ?_
          refine jx_iadd (pc := 21) dX6_isUnder_21 ?_
          refine jx_icmp_ne (pc := 22) (tgt := 29) dX6_isUnder_22 (by decide) (fun c5 => ?_) (fun c5 => ?_)
          · have h := jx_f c5 h
            refine jx_iconst (pc := 29) (v := (0 : Int32)) (by decide) dX6_isUnder_29 ?_
            have h := Option.some.inj h
            subst h
            exact jx_zret (pc := 30) (Or.inl rfl) dX6_isUnder_30
          · have h := jx_t c5 h
            refine jx_iconst (pc := 25) (v := (1 : Int32)) (by decide) dX6_isUnder_25 ?_
            refine jx_goto (pc := 26) (tgt := 30) dX6_isUnder_26 (by decide) ?_
            have h := Option.some.inj h
            subst h
            exact jx_zret (pc := 30) (Or.inr rfl) dX6_isUnder_30
theorem dX6_image_0 : decode cX6_image 0 = .ok (.iconst 0, 1) := by decide +kernel
theorem dX6_image_1 : decode cX6_image 1 = .ok (.istore_n 1, 1) := by decide +kernel
theorem dX6_image_2 : decode cX6_image 2 = .ok (.iload_n 1, 1) := by decide +kernel
theorem dX6_image_3 : decode cX6_image 3 = .ok (.sipush 920, 3) := by decide +kernel
theorem dX6_image_6 : decode cX6_image 6 = .ok (.if_icmp .ge 21, 3) := by decide +kernel
theorem dX6_image_9 : decode cX6_image 9 = .ok (.aload_n 0, 1) := by decide +kernel
theorem dX6_image_10 : decode cX6_image 10 = .ok (.getfield 15, 3) := by decide +kernel
theorem dX6_image_13 : decode cX6_image 13 = .ok (.iload_n 1, 1) := by decide +kernel
theorem dX6_image_14 : decode cX6_image 14 = .ok (.aload_n 0, 1) := by decide +kernel
theorem dX6_image_15 : decode cX6_image 15 = .ok (.getfield 9, 3) := by decide +kernel
theorem dX6_image_18 : decode cX6_image 18 = .ok (.iload_n 1, 1) := by decide +kernel
theorem dX6_image_19 : decode cX6_image 19 = .ok (.iaload, 1) := by decide +kernel
theorem dX6_image_20 : decode cX6_image 20 = .ok (.iastore, 1) := by decide +kernel
theorem dX6_image_21 : decode cX6_image 21 = .ok (.iinc 1 1, 3) := by decide +kernel
theorem dX6_image_24 : decode cX6_image 24 = .ok (.goto (-22), 3) := by decide +kernel
theorem dX6_image_27 : decode cX6_image 27 = .ok (.aload_n 0, 1) := by decide +kernel
theorem dX6_image_28 : decode cX6_image 28 = .ok (.iconst 1, 1) := by decide +kernel
theorem dX6_image_29 : decode cX6_image 29 = .ok (.putfield 264, 3) := by decide +kernel
theorem dX6_image_32 : decode cX6_image 32 = .ok (.aload_n 0, 1) := by decide +kernel
theorem dX6_image_33 : decode cX6_image 33 = .ok (.getfield 9, 3) := by decide +kernel
theorem dX6_image_36 : decode cX6_image 36 = .ok (.iconst 0, 1) := by decide +kernel
theorem dX6_image_37 : decode cX6_image 37 = .ok (.iaload, 1) := by decide +kernel
theorem dX6_image_38 : decode cX6_image 38 = .ok (.ireturn, 1) := by decide +kernel
abbrev rm_X6_image : Room := { frames := 0, cells := 0, slots := 0, locals := 0 }
abbrev jJ_X6_image (l : Launch) (G : jx_G) (sz : Nat) (out : (Int32 × jx_M)) (pc : Nat) (lv : List (Nat × Value)) (st : List Value) (σ : jx_M) : Prop := jx_J l (mm_env G) (mm_dyn G) (mm_rg G) sz RX6 "image" cX6_image 2 (some .int) rm_X6_image (fun below args s => MQ below (jx_Qi (mm_dyn G) out.2 out.1 (jx_A (mm_rg G) sz)) args s 0 0 (jx_A (mm_rg G) sz)) 0 0 pc lv st σ
def g_X6_image_2 (k2 : jx_M → Int32 → Option (Int32 × jx_M)) (σ : jx_M) (v1 : Int32) : Option (Int32 × jx_M) :=
  if (920 : Int32) ≤ v1 then jx_lt (jx_mu σ 0 3 (1 : Int32)) (fun σ2 => some ((σ2 1 0), σ2)) else jx_gd (jx_in v1 920) (jx_gd (jx_in v1 920) (jx_lt (jx_mu σ 2 v1.toNatClampNeg (σ 1 v1.toNatClampNeg)) (fun σ5 => jx_lt (v1 + (1 : Int32)) (fun x6 => (k2 σ5 x6)))))
set_option maxHeartbeats 4000000 in
set_option maxRecDepth 100000 in
theorem jg_X6_image_2 (l : Launch) (G : jx_G) (hG : mm_ok G) (sz : Nat) (out : (Int32 × jx_M)) (k2 : jx_M → Int32 → Option (Int32 × jx_M)) (h2 : ∀ (σ : jx_M) (v1 : Int32), k2 σ v1 = some out → jJ_X6_image l G sz out 2 [(0, .ref (G.2 10)), (1, .int v1)] [] σ) (σ : jx_M) (v1 : Int32) (h : g_X6_image_2 k2 σ v1 = some out) : jJ_X6_image l G sz out 2 [(0, .ref (G.2 10)), (1, .int v1)] [] σ := by
  unfold g_X6_image_2 at h
  refine jx_iload_n (pc := 2) (k0 := 1) rfl dX6_image_2 ?_
  refine jx_sipush (pc := 3) (v := (920 : Int32)) (by decide) dX6_image_3 ?_
  refine jx_icmp_ge (pc := 6) (tgt := 27) dX6_image_6 (by decide) (fun c1 => ?_) (fun c1 => ?_)
  · have h := jx_t c1 h
    refine jx_aload_n (pc := 27) (k0 := 0) rfl dX6_image_27 ?_
    refine jx_iconst (pc := 28) (v := (1 : Int32)) (by decide) dX6_image_28 ?_
    obtain ⟨σ2, eσ2, h⟩ := jx_lt_o h
    refine mm_p_hasImage (pc := 29) hG (by decide) fl_X6_264 eσ2 dX6_image_29 ?_
    refine jx_aload_n (pc := 32) (k0 := 0) rfl dX6_image_32 ?_
    refine mm_g_s (pc := 33) fl_X6_9 dX6_image_33 ?_
    refine jx_iconst (pc := 36) (v := (0 : Int32)) (by decide) dX6_image_36 ?_
    refine mm_l_s (pc := 37) (j := 0) (jx_in_o (by decide)) (by decide) dX6_image_37 ?_
    have h := Option.some.inj h
    subst h
    exact jx_iret (pc := 38) dX6_image_38
  · have h := jx_f c1 h
    refine jx_aload_n (pc := 9) (k0 := 0) rfl dX6_image_9 ?_
    refine mm_g_image (pc := 10) fl_X6_15 dX6_image_10 ?_
    refine jx_iload_n (pc := 13) (k0 := 1) rfl dX6_image_13 ?_
    refine jx_aload_n (pc := 14) (k0 := 0) rfl dX6_image_14 ?_
    refine mm_g_s (pc := 15) fl_X6_9 dX6_image_15 ?_
    refine jx_iload_n (pc := 18) (k0 := 1) rfl dX6_image_18 ?_
    obtain ⟨g3, h⟩ := jx_gd_o h
    refine mm_l_s (pc := 19) (jx_in_o g3) rfl dX6_image_19 ?_
    obtain ⟨g4, h⟩ := jx_gd_o h
    obtain ⟨σ5, eσ5, h⟩ := jx_lt_o h
    refine mm_s_image (pc := 20) hG (jx_in_o g4) rfl eσ5 dX6_image_20 ?_
    obtain ⟨x6, ex6, h⟩ := jx_lt_o h
    refine jx_iinc (pc := 21) (i := 1) (v := v1) rfl ex6 (n := 1) (by decide) (by decide) (lv' := [(1, .int x6), (0, .ref (G.2 10))]) rfl dX6_image_21 ?_
    refine jx_goto (pc := 24) (tgt := 2) dX6_image_24 (by decide) ?_
    exact jx_sub [1, 0] rfl (h2 σ5 x6 h)
def b_X6_image_2  : Nat → jx_M → Int32 → Option (Int32 × jx_M)
  | 0, _, _ => none
  | n + 1, σ, v1 => g_X6_image_2 (b_X6_image_2 n) σ v1
theorem jb_X6_image_2 (l : Launch) (G : jx_G) (hG : mm_ok G) (sz : Nat) (out : (Int32 × jx_M))  : ∀ (n : Nat) (σ : jx_M) (v1 : Int32), b_X6_image_2 n σ v1 = some out → jJ_X6_image l G sz out 2 [(0, .ref (G.2 10)), (1, .int v1)] [] σ := by
  intro n
  induction n with
  | zero =>
    intro σ v1 h
    cases h
  | succ n ih =>
    intro σ v1 h
    exact jg_X6_image_2 l G hG sz out (b_X6_image_2 n) ih σ v1 h
def f_X6_image (σ : jx_M)  : Option (Int32 × jx_M) :=
  (b_X6_image_2 jx_fuel σ (0 : Int32))
set_option maxHeartbeats 4000000 in
set_option maxRecDepth 100000 in
theorem k_X6_image (l : Launch) (G : jx_G) (hG : mm_ok G) (sz : Nat) (σ : jx_M)  (out : (Int32 × jx_M)) (h : f_X6_image σ = some out) : Met l yX6_image (Cond.code yX6_image cX6_image 2 (some .int) :: jx_ws) rm_X6_image (jx_Pc (mm_env G) (mm_dyn G) (mm_rg G) sz σ [.ref (G.2 10)]) (jx_Qi (mm_dyn G) out.2 out.1 (jx_A (mm_rg G) sz)) 0 0 (jx_A (mm_rg G) sz) := by
  unfold f_X6_image at h
  refine jx_met (by decide) (Nat.le_of_ble_eq_true rfl) ?_
  refine jx_sub (lv' := [(0, .ref (G.2 10))]) [0] rfl ?_
  refine jx_iconst (pc := 0) (v := (0 : Int32)) (by decide) dX6_image_0 ?_
  refine jx_istore_n (pc := 1) (i := 1) rfl rfl (by decide) (lv' := [(1, .int (0 : Int32)), (0, .ref (G.2 10))]) rfl dX6_image_1 ?_
  exact jx_sub [1, 0] rfl (jb_X6_image_2 l G hG sz out jx_fuel σ (0 : Int32) h)
theorem dX6_undo_0 : decode cX6_undo 0 = .ok (.aload_n 0, 1) := by decide +kernel
theorem dX6_undo_1 : decode cX6_undo 1 = .ok (.getfield 264, 3) := by decide +kernel
theorem dX6_undo_4 : decode cX6_undo 4 = .ok (.ifCond .ne 6, 3) := by decide +kernel
theorem dX6_undo_7 : decode cX6_undo 7 = .ok (.bipush (-3), 2) := by decide +kernel
theorem dX6_undo_9 : decode cX6_undo 9 = .ok (.ireturn, 1) := by decide +kernel
theorem dX6_undo_10 : decode cX6_undo 10 = .ok (.iconst 0, 1) := by decide +kernel
theorem dX6_undo_11 : decode cX6_undo 11 = .ok (.istore_n 1, 1) := by decide +kernel
theorem dX6_undo_12 : decode cX6_undo 12 = .ok (.iload_n 1, 1) := by decide +kernel
theorem dX6_undo_13 : decode cX6_undo 13 = .ok (.sipush 920, 3) := by decide +kernel
theorem dX6_undo_16 : decode cX6_undo 16 = .ok (.if_icmp .ge 21, 3) := by decide +kernel
theorem dX6_undo_19 : decode cX6_undo 19 = .ok (.aload_n 0, 1) := by decide +kernel
theorem dX6_undo_20 : decode cX6_undo 20 = .ok (.getfield 9, 3) := by decide +kernel
theorem dX6_undo_23 : decode cX6_undo 23 = .ok (.iload_n 1, 1) := by decide +kernel
theorem dX6_undo_24 : decode cX6_undo 24 = .ok (.aload_n 0, 1) := by decide +kernel
theorem dX6_undo_25 : decode cX6_undo 25 = .ok (.getfield 15, 3) := by decide +kernel
theorem dX6_undo_28 : decode cX6_undo 28 = .ok (.iload_n 1, 1) := by decide +kernel
theorem dX6_undo_29 : decode cX6_undo 29 = .ok (.iaload, 1) := by decide +kernel
theorem dX6_undo_30 : decode cX6_undo 30 = .ok (.iastore, 1) := by decide +kernel
theorem dX6_undo_31 : decode cX6_undo 31 = .ok (.iinc 1 1, 3) := by decide +kernel
theorem dX6_undo_34 : decode cX6_undo 34 = .ok (.goto (-22), 3) := by decide +kernel
theorem dX6_undo_37 : decode cX6_undo 37 = .ok (.aload_n 0, 1) := by decide +kernel
theorem dX6_undo_38 : decode cX6_undo 38 = .ok (.getfield 9, 3) := by decide +kernel
theorem dX6_undo_41 : decode cX6_undo 41 = .ok (.iconst 0, 1) := by decide +kernel
theorem dX6_undo_42 : decode cX6_undo 42 = .ok (.iaload, 1) := by decide +kernel
theorem dX6_undo_43 : decode cX6_undo 43 = .ok (.ireturn, 1) := by decide +kernel
abbrev rm_X6_undo : Room := { frames := 0, cells := 0, slots := 0, locals := 0 }
abbrev jJ_X6_undo (l : Launch) (G : jx_G) (sz : Nat) (out : (Int32 × jx_M)) (pc : Nat) (lv : List (Nat × Value)) (st : List Value) (σ : jx_M) : Prop := jx_J l (mm_env G) (mm_dyn G) (mm_rg G) sz RX6 "undo" cX6_undo 2 (some .int) rm_X6_undo (fun below args s => MQ below (jx_Qi (mm_dyn G) out.2 out.1 (jx_A (mm_rg G) sz)) args s 0 0 (jx_A (mm_rg G) sz)) 0 0 pc lv st σ
def g_X6_undo_12 (k12 : jx_M → Int32 → Option (Int32 × jx_M)) (σ : jx_M) (v1 : Int32) : Option (Int32 × jx_M) :=
  if (920 : Int32) ≤ v1 then some ((σ 1 0), σ) else jx_gd (jx_in v1 920) (jx_gd (jx_in v1 920) (jx_lt (jx_mu σ 1 v1.toNatClampNeg (σ 2 v1.toNatClampNeg)) (fun σ4 => jx_lt (v1 + (1 : Int32)) (fun x5 => (k12 σ4 x5)))))
set_option maxHeartbeats 4000000 in
set_option maxRecDepth 100000 in
theorem jg_X6_undo_12 (l : Launch) (G : jx_G) (hG : mm_ok G) (sz : Nat) (out : (Int32 × jx_M)) (k12 : jx_M → Int32 → Option (Int32 × jx_M)) (h12 : ∀ (σ : jx_M) (v1 : Int32), k12 σ v1 = some out → jJ_X6_undo l G sz out 12 [(0, .ref (G.2 10)), (1, .int v1)] [] σ) (σ : jx_M) (v1 : Int32) (h : g_X6_undo_12 k12 σ v1 = some out) : jJ_X6_undo l G sz out 12 [(0, .ref (G.2 10)), (1, .int v1)] [] σ := by
  unfold g_X6_undo_12 at h
  refine jx_iload_n (pc := 12) (k0 := 1) rfl dX6_undo_12 ?_
  refine jx_sipush (pc := 13) (v := (920 : Int32)) (by decide) dX6_undo_13 ?_
  refine jx_icmp_ge (pc := 16) (tgt := 37) dX6_undo_16 (by decide) (fun c1 => ?_) (fun c1 => ?_)
  · have h := jx_t c1 h
    refine jx_aload_n (pc := 37) (k0 := 0) rfl dX6_undo_37 ?_
    refine mm_g_s (pc := 38) fl_X6_9 dX6_undo_38 ?_
    refine jx_iconst (pc := 41) (v := (0 : Int32)) (by decide) dX6_undo_41 ?_
    refine mm_l_s (pc := 42) (j := 0) (jx_in_o (by decide)) (by decide) dX6_undo_42 ?_
    have h := Option.some.inj h
    subst h
    exact jx_iret (pc := 43) dX6_undo_43
  · have h := jx_f c1 h
    refine jx_aload_n (pc := 19) (k0 := 0) rfl dX6_undo_19 ?_
    refine mm_g_s (pc := 20) fl_X6_9 dX6_undo_20 ?_
    refine jx_iload_n (pc := 23) (k0 := 1) rfl dX6_undo_23 ?_
    refine jx_aload_n (pc := 24) (k0 := 0) rfl dX6_undo_24 ?_
    refine mm_g_image (pc := 25) fl_X6_15 dX6_undo_25 ?_
    refine jx_iload_n (pc := 28) (k0 := 1) rfl dX6_undo_28 ?_
    obtain ⟨g2, h⟩ := jx_gd_o h
    refine mm_l_image (pc := 29) (jx_in_o g2) rfl dX6_undo_29 ?_
    obtain ⟨g3, h⟩ := jx_gd_o h
    obtain ⟨σ4, eσ4, h⟩ := jx_lt_o h
    refine mm_s_s (pc := 30) hG (jx_in_o g3) rfl eσ4 dX6_undo_30 ?_
    obtain ⟨x5, ex5, h⟩ := jx_lt_o h
    refine jx_iinc (pc := 31) (i := 1) (v := v1) rfl ex5 (n := 1) (by decide) (by decide) (lv' := [(1, .int x5), (0, .ref (G.2 10))]) rfl dX6_undo_31 ?_
    refine jx_goto (pc := 34) (tgt := 12) dX6_undo_34 (by decide) ?_
    exact jx_sub [1, 0] rfl (h12 σ4 x5 h)
def b_X6_undo_12  : Nat → jx_M → Int32 → Option (Int32 × jx_M)
  | 0, _, _ => none
  | n + 1, σ, v1 => g_X6_undo_12 (b_X6_undo_12 n) σ v1
theorem jb_X6_undo_12 (l : Launch) (G : jx_G) (hG : mm_ok G) (sz : Nat) (out : (Int32 × jx_M))  : ∀ (n : Nat) (σ : jx_M) (v1 : Int32), b_X6_undo_12 n σ v1 = some out → jJ_X6_undo l G sz out 12 [(0, .ref (G.2 10)), (1, .int v1)] [] σ := by
  intro n
  induction n with
  | zero =>
    intro σ v1 h
    cases h
  | succ n ih =>
    intro σ v1 h
    exact jg_X6_undo_12 l G hG sz out (b_X6_undo_12 n) ih σ v1 h
def f_X6_undo (σ : jx_M)  : Option (Int32 × jx_M) :=
  if (σ 0 3) = 0 then some ((-3 : Int32), σ) else (b_X6_undo_12 jx_fuel σ (0 : Int32))
set_option maxHeartbeats 4000000 in
set_option maxRecDepth 100000 in
theorem k_X6_undo (l : Launch) (G : jx_G) (hG : mm_ok G) (sz : Nat) (σ : jx_M)  (out : (Int32 × jx_M)) (h : f_X6_undo σ = some out) : Met l yX6_undo (Cond.code yX6_undo cX6_undo 2 (some .int) :: jx_ws) rm_X6_undo (jx_Pc (mm_env G) (mm_dyn G) (mm_rg G) sz σ [.ref (G.2 10)]) (jx_Qi (mm_dyn G) out.2 out.1 (jx_A (mm_rg G) sz)) 0 0 (jx_A (mm_rg G) sz) := by
  unfold f_X6_undo at h
  refine jx_met (by decide) (Nat.le_of_ble_eq_true rfl) ?_
  refine jx_sub (lv' := [(0, .ref (G.2 10))]) [0] rfl ?_
  refine jx_aload_n (pc := 0) (k0 := 0) rfl dX6_undo_0 ?_
  refine mm_g_hasImage (pc := 1) fl_X6_264 dX6_undo_1 ?_
  refine jx_if_ne (pc := 4) (tgt := 10) dX6_undo_4 (by decide) (fun c1 => ?_) (fun c1 => ?_)
  · have h := jx_f c1 h
    refine jx_iconst (pc := 10) (v := (0 : Int32)) (by decide) dX6_undo_10 ?_
    refine jx_istore_n (pc := 11) (i := 1) rfl rfl (by decide) (lv' := [(1, .int (0 : Int32)), (0, .ref (G.2 10))]) rfl dX6_undo_11 ?_
    exact jx_sub [1, 0] rfl (jb_X6_undo_12 l G hG sz out jx_fuel σ (0 : Int32) h)
  · have h := jx_t c1 h
    refine jx_bipush (pc := 7) (v := (-3 : Int32)) (by decide) dX6_undo_7 ?_
    have h := Option.some.inj h
    subst h
    exact jx_iret (pc := 9) dX6_undo_9
theorem dX6_isPlace_0 : decode cX6_isPlace 0 = .ok (.iload_n 1, 1) := by decide +kernel
theorem dX6_isPlace_1 : decode cX6_isPlace 1 = .ok (.iconst 0, 1) := by decide +kernel
theorem dX6_isPlace_2 : decode cX6_isPlace 2 = .ok (.aload_n 0, 1) := by decide +kernel
theorem dX6_isPlace_3 : decode cX6_isPlace 3 = .ok (.getfield 9, 3) := by decide +kernel
theorem dX6_isPlace_6 : decode cX6_isPlace 6 = .ok (.bipush 6, 2) := by decide +kernel
theorem dX6_isPlace_8 : decode cX6_isPlace 8 = .ok (.iaload, 1) := by decide +kernel
theorem dX6_isPlace_9 : decode cX6_isPlace 9 = .ok (.iconst 1, 1) := by decide +kernel
theorem dX6_isPlace_10 : decode cX6_isPlace 10 = .ok (.isub, 1) := by decide +kernel
theorem dX6_isPlace_11 : decode cX6_isPlace 11 = .ok (.invokestatic 48, 3) := by decide +kernel
theorem dX6_isPlace_14 : decode cX6_isPlace 14 = .ok (.ireturn, 1) := by decide +kernel
abbrev rm_X6_isPlace : Room := { frames := 1, cells := 0, slots := 0, locals := 22 }
abbrev jJ_X6_isPlace (l : Launch) (G : jx_G) (sz : Nat) (σ0 : jx_M) (out : Int32) (pc : Nat) (lv : List (Nat × Value)) (st : List Value) (σ : jx_M) : Prop := jx_J l (mm_env G) (mm_dyn G) (mm_rg G) sz RX6 "isPlace" cX6_isPlace 2 (some .boolean) rm_X6_isPlace (fun below args s => MQ below (jx_Qi (mm_dyn G) σ0 out (jx_A (mm_rg G) sz)) args s 0 0 (jx_A (mm_rg G) sz)) 0 0 pc lv st σ
def f_X6_isPlace (σ : jx_M) (a1 : Int32) : Option Int32 :=
  jx_bd (f_X6_in a1 (0 : Int32) ((σ 1 6) - (1 : Int32))) (fun q1 => jx_gd (decide (q1 = 0 ∨ q1 = 1)) (some q1))
set_option maxHeartbeats 4000000 in
set_option maxRecDepth 100000 in
theorem k_X6_isPlace (l : Launch) (G : jx_G) (hG : mm_ok G) (sz : Nat) (σ : jx_M) (a1 : Int32) (out : Int32) (h : f_X6_isPlace σ a1 = some out) : Met l yX6_isPlace (Cond.code yX6_isPlace cX6_isPlace 2 (some .boolean) :: jx_ws) rm_X6_isPlace (jx_Pc (mm_env G) (mm_dyn G) (mm_rg G) sz σ [.ref (G.2 10), .int a1]) (jx_Qi (mm_dyn G) σ out (jx_A (mm_rg G) sz)) 0 0 (jx_A (mm_rg G) sz) := by
  unfold f_X6_isPlace at h
  refine jx_met (by decide) (Nat.le_of_ble_eq_true rfl) ?_
  refine jx_sub (lv' := [(0, .ref (G.2 10)), (1, .int a1)]) [0, 1] rfl ?_
  refine jx_iload_n (pc := 0) (k0 := 1) rfl dX6_isPlace_0 ?_
  refine jx_iconst (pc := 1) (v := (0 : Int32)) (by decide) dX6_isPlace_1 ?_
  refine jx_aload_n (pc := 2) (k0 := 0) rfl dX6_isPlace_2 ?_
  refine mm_g_s (pc := 3) fl_X6_9 dX6_isPlace_3 ?_
  refine jx_bipush (pc := 6) (v := (6 : Int32)) (by decide) dX6_isPlace_6 ?_
  refine mm_l_s (pc := 8) (j := 6) (jx_in_o (by decide)) (by decide) dX6_isPlace_8 ?_
  refine jx_iconst (pc := 9) (v := (1 : Int32)) (by decide) dX6_isPlace_9 ?_
  refine jx_isub (pc := 10) dX6_isPlace_10 ?_
  obtain ⟨q1, eq1, h⟩ := jx_bd_o h
  refine jx_callSi (pc := 11) [.int a1, .int (0 : Int32), .int ((σ 1 6) - (1 : Int32))] (fun sz' => k_X6_in l G hG sz' σ a1 (0 : Int32) ((σ 1 6) - (1 : Int32)) q1 eq1) ks_X6_48 mm_jok rfl rfl (Nat.le_of_ble_eq_true rfl) ⟨⟨rfl, rfl⟩, ⟨Nat.le_of_ble_eq_true rfl, Nat.le_of_ble_eq_true rfl⟩, Nat.zero_le _, Nat.zero_le _⟩ dX6_isPlace_11 ?_
  obtain ⟨g2, h⟩ := jx_gd_o h
  have h := Option.some.inj h
  subst h
  exact jx_zret (pc := 14) (of_decide_eq_true g2) dX6_isPlace_14
theorem dX6_isVoter_0 : decode cX6_isVoter 0 = .ok (.iload_n 1, 1) := by decide +kernel
theorem dX6_isVoter_1 : decode cX6_isVoter 1 = .ok (.iconst 0, 1) := by decide +kernel
theorem dX6_isVoter_2 : decode cX6_isVoter 2 = .ok (.aload_n 0, 1) := by decide +kernel
theorem dX6_isVoter_3 : decode cX6_isVoter 3 = .ok (.getfield 9, 3) := by decide +kernel
theorem dX6_isVoter_6 : decode cX6_isVoter 6 = .ok (.iconst 0, 1) := by decide +kernel
theorem dX6_isVoter_7 : decode cX6_isVoter 7 = .ok (.iaload, 1) := by decide +kernel
theorem dX6_isVoter_8 : decode cX6_isVoter 8 = .ok (.iconst 1, 1) := by decide +kernel
theorem dX6_isVoter_9 : decode cX6_isVoter 9 = .ok (.isub, 1) := by decide +kernel
theorem dX6_isVoter_10 : decode cX6_isVoter 10 = .ok (.invokestatic 48, 3) := by decide +kernel
theorem dX6_isVoter_13 : decode cX6_isVoter 13 = .ok (.ireturn, 1) := by decide +kernel
abbrev rm_X6_isVoter : Room := { frames := 1, cells := 0, slots := 0, locals := 22 }
abbrev jJ_X6_isVoter (l : Launch) (G : jx_G) (sz : Nat) (σ0 : jx_M) (out : Int32) (pc : Nat) (lv : List (Nat × Value)) (st : List Value) (σ : jx_M) : Prop := jx_J l (mm_env G) (mm_dyn G) (mm_rg G) sz RX6 "isVoter" cX6_isVoter 2 (some .boolean) rm_X6_isVoter (fun below args s => MQ below (jx_Qi (mm_dyn G) σ0 out (jx_A (mm_rg G) sz)) args s 0 0 (jx_A (mm_rg G) sz)) 0 0 pc lv st σ
def f_X6_isVoter (σ : jx_M) (a1 : Int32) : Option Int32 :=
  jx_bd (f_X6_in a1 (0 : Int32) ((σ 1 0) - (1 : Int32))) (fun q1 => jx_gd (decide (q1 = 0 ∨ q1 = 1)) (some q1))
set_option maxHeartbeats 4000000 in
set_option maxRecDepth 100000 in
theorem k_X6_isVoter (l : Launch) (G : jx_G) (hG : mm_ok G) (sz : Nat) (σ : jx_M) (a1 : Int32) (out : Int32) (h : f_X6_isVoter σ a1 = some out) : Met l yX6_isVoter (Cond.code yX6_isVoter cX6_isVoter 2 (some .boolean) :: jx_ws) rm_X6_isVoter (jx_Pc (mm_env G) (mm_dyn G) (mm_rg G) sz σ [.ref (G.2 10), .int a1]) (jx_Qi (mm_dyn G) σ out (jx_A (mm_rg G) sz)) 0 0 (jx_A (mm_rg G) sz) := by
  unfold f_X6_isVoter at h
  refine jx_met (by decide) (Nat.le_of_ble_eq_true rfl) ?_
  refine jx_sub (lv' := [(0, .ref (G.2 10)), (1, .int a1)]) [0, 1] rfl ?_
  refine jx_iload_n (pc := 0) (k0 := 1) rfl dX6_isVoter_0 ?_
  refine jx_iconst (pc := 1) (v := (0 : Int32)) (by decide) dX6_isVoter_1 ?_
  refine jx_aload_n (pc := 2) (k0 := 0) rfl dX6_isVoter_2 ?_
  refine mm_g_s (pc := 3) fl_X6_9 dX6_isVoter_3 ?_
  refine jx_iconst (pc := 6) (v := (0 : Int32)) (by decide) dX6_isVoter_6 ?_
  refine mm_l_s (pc := 7) (j := 0) (jx_in_o (by decide)) (by decide) dX6_isVoter_7 ?_
  refine jx_iconst (pc := 8) (v := (1 : Int32)) (by decide) dX6_isVoter_8 ?_
  refine jx_isub (pc := 9) dX6_isVoter_9 ?_
  obtain ⟨q1, eq1, h⟩ := jx_bd_o h
  refine jx_callSi (pc := 10) [.int a1, .int (0 : Int32), .int ((σ 1 0) - (1 : Int32))] (fun sz' => k_X6_in l G hG sz' σ a1 (0 : Int32) ((σ 1 0) - (1 : Int32)) q1 eq1) ks_X6_48 mm_jok rfl rfl (Nat.le_of_ble_eq_true rfl) ⟨⟨rfl, rfl⟩, ⟨Nat.le_of_ble_eq_true rfl, Nat.le_of_ble_eq_true rfl⟩, Nat.zero_le _, Nat.zero_le _⟩ dX6_isVoter_10 ?_
  obtain ⟨g2, h⟩ := jx_gd_o h
  have h := Option.some.inj h
  subst h
  exact jx_zret (pc := 13) (of_decide_eq_true g2) dX6_isVoter_13
theorem dX6_feed_0 : decode cX6_feed 0 = .ok (.iload_n 1, 1) := by decide +kernel
theorem dX6_feed_1 : decode cX6_feed 1 = .ok (.iconst 0, 1) := by decide +kernel
theorem dX6_feed_2 : decode cX6_feed 2 = .ok (.bipush 127, 2) := by decide +kernel
theorem dX6_feed_4 : decode cX6_feed 4 = .ok (.invokestatic 48, 3) := by decide +kernel
theorem dX6_feed_7 : decode cX6_feed 7 = .ok (.ifCond .ne 6, 3) := by decide +kernel
theorem dX6_feed_10 : decode cX6_feed 10 = .ok (.bipush (-2), 2) := by decide +kernel
theorem dX6_feed_12 : decode cX6_feed 12 = .ok (.ireturn, 1) := by decide +kernel
theorem dX6_feed_13 : decode cX6_feed 13 = .ok (.aload_n 0, 1) := by decide +kernel
theorem dX6_feed_14 : decode cX6_feed 14 = .ok (.getfield 9, 3) := by decide +kernel
theorem dX6_feed_17 : decode cX6_feed 17 = .ok (.iconst 4, 1) := by decide +kernel
theorem dX6_feed_18 : decode cX6_feed 18 = .ok (.iaload, 1) := by decide +kernel
theorem dX6_feed_19 : decode cX6_feed 19 = .ok (.bipush 100, 2) := by decide +kernel
theorem dX6_feed_21 : decode cX6_feed 21 = .ok (.if_icmp .ne 6, 3) := by decide +kernel
theorem dX6_feed_24 : decode cX6_feed 24 = .ok (.bipush (-4), 2) := by decide +kernel
theorem dX6_feed_26 : decode cX6_feed 26 = .ok (.ireturn, 1) := by decide +kernel
theorem dX6_feed_27 : decode cX6_feed 27 = .ok (.aload_n 0, 1) := by decide +kernel
theorem dX6_feed_28 : decode cX6_feed 28 = .ok (.getfield 9, 3) := by decide +kernel
theorem dX6_feed_31 : decode cX6_feed 31 = .ok (.bipush 115, 2) := by decide +kernel
theorem dX6_feed_33 : decode cX6_feed 33 = .ok (.aload_n 0, 1) := by decide +kernel
theorem dX6_feed_34 : decode cX6_feed 34 = .ok (.getfield 9, 3) := by decide +kernel
theorem dX6_feed_37 : decode cX6_feed 37 = .ok (.iconst 4, 1) := by decide +kernel
theorem dX6_feed_38 : decode cX6_feed 38 = .ok (.iaload, 1) := by decide +kernel
theorem dX6_feed_39 : decode cX6_feed 39 = .ok (.iadd, 1) := by decide +kernel
theorem dX6_feed_40 : decode cX6_feed 40 = .ok (.iload_n 1, 1) := by decide +kernel
theorem dX6_feed_41 : decode cX6_feed 41 = .ok (.iastore, 1) := by decide +kernel
theorem dX6_feed_42 : decode cX6_feed 42 = .ok (.aload_n 0, 1) := by decide +kernel
theorem dX6_feed_43 : decode cX6_feed 43 = .ok (.getfield 9, 3) := by decide +kernel
theorem dX6_feed_46 : decode cX6_feed 46 = .ok (.iconst 4, 1) := by decide +kernel
theorem dX6_feed_47 : decode cX6_feed 47 = .ok (.dup2, 1) := by decide +kernel
theorem dX6_feed_48 : decode cX6_feed 48 = .ok (.iaload, 1) := by decide +kernel
theorem dX6_feed_49 : decode cX6_feed 49 = .ok (.iconst 1, 1) := by decide +kernel
theorem dX6_feed_50 : decode cX6_feed 50 = .ok (.iadd, 1) := by decide +kernel
theorem dX6_feed_51 : decode cX6_feed 51 = .ok (.iastore, 1) := by decide +kernel
theorem dX6_feed_52 : decode cX6_feed 52 = .ok (.aload_n 0, 1) := by decide +kernel
theorem dX6_feed_53 : decode cX6_feed 53 = .ok (.getfield 9, 3) := by decide +kernel
theorem dX6_feed_56 : decode cX6_feed 56 = .ok (.iconst 4, 1) := by decide +kernel
theorem dX6_feed_57 : decode cX6_feed 57 = .ok (.iaload, 1) := by decide +kernel
theorem dX6_feed_58 : decode cX6_feed 58 = .ok (.ireturn, 1) := by decide +kernel
abbrev rm_X6_feed : Room := { frames := 1, cells := 0, slots := 0, locals := 22 }
abbrev jJ_X6_feed (l : Launch) (G : jx_G) (sz : Nat) (out : (Int32 × jx_M)) (pc : Nat) (lv : List (Nat × Value)) (st : List Value) (σ : jx_M) : Prop := jx_J l (mm_env G) (mm_dyn G) (mm_rg G) sz RX6 "feed" cX6_feed 2 (some .int) rm_X6_feed (fun below args s => MQ below (jx_Qi (mm_dyn G) out.2 out.1 (jx_A (mm_rg G) sz)) args s 0 0 (jx_A (mm_rg G) sz)) 0 0 pc lv st σ
def f_X6_feed (σ : jx_M) (a1 : Int32) : Option (Int32 × jx_M) :=
  jx_bd (f_X6_in a1 (0 : Int32) (127 : Int32)) (fun q1 => if q1 = 0 then some ((-2 : Int32), σ) else if (σ 1 4) = (100 : Int32) then some ((-4 : Int32), σ) else jx_gd (jx_in ((115 : Int32) + (σ 1 4)) 920) (jx_lt (jx_mu σ 1 ((115 : Int32) + (σ 1 4)).toNatClampNeg a1) (fun σ5 => jx_lt (jx_mu σ5 1 4 ((σ5 1 4) + (1 : Int32))) (fun σ6 => some ((σ6 1 4), σ6)))))
set_option maxHeartbeats 4000000 in
set_option maxRecDepth 100000 in
theorem k_X6_feed (l : Launch) (G : jx_G) (hG : mm_ok G) (sz : Nat) (σ : jx_M) (a1 : Int32) (out : (Int32 × jx_M)) (h : f_X6_feed σ a1 = some out) : Met l yX6_feed (Cond.code yX6_feed cX6_feed 2 (some .int) :: jx_ws) rm_X6_feed (jx_Pc (mm_env G) (mm_dyn G) (mm_rg G) sz σ [.ref (G.2 10), .int a1]) (jx_Qi (mm_dyn G) out.2 out.1 (jx_A (mm_rg G) sz)) 0 0 (jx_A (mm_rg G) sz) := by
  unfold f_X6_feed at h
  refine jx_met (by decide) (Nat.le_of_ble_eq_true rfl) ?_
  refine jx_sub (lv' := [(0, .ref (G.2 10)), (1, .int a1)]) [0, 1] rfl ?_
  refine jx_iload_n (pc := 0) (k0 := 1) rfl dX6_feed_0 ?_
  refine jx_iconst (pc := 1) (v := (0 : Int32)) (by decide) dX6_feed_1 ?_
  refine jx_bipush (pc := 2) (v := (127 : Int32)) (by decide) dX6_feed_2 ?_
  obtain ⟨q1, eq1, h⟩ := jx_bd_o h
  refine jx_callSi (pc := 4) [.int a1, .int (0 : Int32), .int (127 : Int32)] (fun sz' => k_X6_in l G hG sz' σ a1 (0 : Int32) (127 : Int32) q1 eq1) ks_X6_48 mm_jok rfl rfl (Nat.le_of_ble_eq_true rfl) ⟨⟨rfl, rfl⟩, ⟨Nat.le_of_ble_eq_true rfl, Nat.le_of_ble_eq_true rfl⟩, Nat.zero_le _, Nat.zero_le _⟩ dX6_feed_4 ?_
  refine jx_if_ne (pc := 7) (tgt := 13) dX6_feed_7 (by decide) (fun c2 => ?_) (fun c2 => ?_)
  · have h := jx_f c2 h
    refine jx_aload_n (pc := 13) (k0 := 0) rfl dX6_feed_13 ?_
    refine mm_g_s (pc := 14) fl_X6_9 dX6_feed_14 ?_
    refine jx_iconst (pc := 17) (v := (4 : Int32)) (by decide) dX6_feed_17 ?_
    refine mm_l_s (pc := 18) (j := 4) (jx_in_o (by decide)) (by decide) dX6_feed_18 ?_
    refine jx_bipush (pc := 19) (v := (100 : Int32)) (by decide) dX6_feed_19 ?_
    refine jx_icmp_ne (pc := 21) (tgt := 27) dX6_feed_21 (by decide) (fun c3 => ?_) (fun c3 => ?_)
    · have h := jx_f c3 h
      refine jx_aload_n (pc := 27) (k0 := 0) rfl dX6_feed_27 ?_
      refine mm_g_s (pc := 28) fl_X6_9 dX6_feed_28 ?_
      refine jx_bipush (pc := 31) (v := (115 : Int32)) (by decide) dX6_feed_31 ?_
      refine jx_aload_n (pc := 33) (k0 := 0) rfl dX6_feed_33 ?_
      refine mm_g_s (pc := 34) fl_X6_9 dX6_feed_34 ?_
      refine jx_iconst (pc := 37) (v := (4 : Int32)) (by decide) dX6_feed_37 ?_
      refine mm_l_s (pc := 38) (j := 4) (jx_in_o (by decide)) (by decide) dX6_feed_38 ?_
      refine jx_iadd (pc := 39) dX6_feed_39 ?_
      refine jx_iload_n (pc := 40) (k0 := 1) rfl dX6_feed_40 ?_
      obtain ⟨g4, h⟩ := jx_gd_o h
      obtain ⟨σ5, eσ5, h⟩ := jx_lt_o h
      refine mm_s_s (pc := 41) hG (jx_in_o g4) rfl eσ5 dX6_feed_41 ?_
      refine jx_aload_n (pc := 42) (k0 := 0) rfl dX6_feed_42 ?_
      refine mm_g_s (pc := 43) fl_X6_9 dX6_feed_43 ?_
      refine jx_iconst (pc := 46) (v := (4 : Int32)) (by decide) dX6_feed_46 ?_
      refine jx_dup2 (pc := 47) rfl rfl dX6_feed_47 ?_
      refine mm_l_s (pc := 48) (j := 4) (jx_in_o (by decide)) (by decide) dX6_feed_48 ?_
      refine jx_iconst (pc := 49) (v := (1 : Int32)) (by decide) dX6_feed_49 ?_
      refine jx_iadd (pc := 50) dX6_feed_50 ?_
      obtain ⟨σ6, eσ6, h⟩ := jx_lt_o h
      refine mm_s_s (pc := 51) hG (jx_in_o (by decide)) (by decide) eσ6 dX6_feed_51 ?_
      refine jx_aload_n (pc := 52) (k0 := 0) rfl dX6_feed_52 ?_
      refine mm_g_s (pc := 53) fl_X6_9 dX6_feed_53 ?_
      refine jx_iconst (pc := 56) (v := (4 : Int32)) (by decide) dX6_feed_56 ?_
      refine mm_l_s (pc := 57) (j := 4) (jx_in_o (by decide)) (by decide) dX6_feed_57 ?_
      have h := Option.some.inj h
      subst h
      exact jx_iret (pc := 58) dX6_feed_58
    · have h := jx_t c3 h
      refine jx_bipush (pc := 24) (v := (-4 : Int32)) (by decide) dX6_feed_24 ?_
      have h := Option.some.inj h
      subst h
      exact jx_iret (pc := 26) dX6_feed_26
  · have h := jx_t c2 h
    refine jx_bipush (pc := 10) (v := (-2 : Int32)) (by decide) dX6_feed_10 ?_
    have h := Option.some.inj h
    subst h
    exact jx_iret (pc := 12) dX6_feed_12
theorem dX6_must_0 : decode cX6_must 0 = .ok (.aload_n 0, 1) := by decide +kernel
theorem dX6_must_1 : decode cX6_must 1 = .ok (.aload_n 0, 1) := by decide +kernel
theorem dX6_must_2 : decode cX6_must 2 = .ok (.getfield 58, 3) := by decide +kernel
theorem dX6_must_5 : decode cX6_must 5 = .ok (.ifCond .ne 11, 3) := by decide +kernel
theorem dX6_must_8 : decode cX6_must 8 = .ok (.aload_n 0, 1) := by decide +kernel
theorem dX6_must_9 : decode cX6_must 9 = .ok (.invokevirtual 62, 3) := by decide +kernel
theorem dX6_must_12 : decode cX6_must 12 = .ok (.iload_n 1, 1) := by decide +kernel
theorem dX6_must_13 : decode cX6_must 13 = .ok (.if_icmp .eq 7, 3) := by decide +kernel
theorem dX6_must_16 : decode cX6_must 16 = .ok (.iconst 1, 1) := by decide +kernel
theorem dX6_must_17 : decode cX6_must 17 = .ok (.goto 4, 3) := by decide +kernel
theorem dX6_must_20 : decode cX6_must 20 = .ok (.iconst 0, 1) := by decide +kernel
theorem dX6_must_21 : decode cX6_must 21 = .ok (.putfield 58, 3) := by decide +kernel
theorem dX6_must_24 : decode cX6_must 24 = .ok (.aload_n 0, 1) := by decide +kernel
theorem dX6_must_25 : decode cX6_must 25 = .ok (.dup, 1) := by decide +kernel
theorem dX6_must_26 : decode cX6_must 26 = .ok (.getfield 52, 3) := by decide +kernel
theorem dX6_must_29 : decode cX6_must 29 = .ok (.aload_n 0, 1) := by decide +kernel
theorem dX6_must_30 : decode cX6_must 30 = .ok (.getfield 58, 3) := by decide +kernel
theorem dX6_must_33 : decode cX6_must 33 = .ok (.ifCond .eq 7, 3) := by decide +kernel
theorem dX6_must_36 : decode cX6_must 36 = .ok (.iconst 0, 1) := by decide +kernel
theorem dX6_must_37 : decode cX6_must 37 = .ok (.goto 4, 3) := by decide +kernel
theorem dX6_must_40 : decode cX6_must 40 = .ok (.iconst 1, 1) := by decide +kernel
theorem dX6_must_41 : decode cX6_must 41 = .ok (.iadd, 1) := by decide +kernel
theorem dX6_must_42 : decode cX6_must 42 = .ok (.putfield 52, 3) := by decide +kernel
theorem dX6_must_45 : decode cX6_must 45 = .ok (.return_, 1) := by decide +kernel
abbrev rm_X6_must : Room := { frames := 1, cells := 0, slots := 0, locals := 20 }
abbrev jJ_X6_must (l : Launch) (G : jx_G) (sz : Nat) (out : jx_M) (pc : Nat) (lv : List (Nat × Value)) (st : List Value) (σ : jx_M) : Prop := jx_J l (mm_env G) (mm_dyn G) (mm_rg G) sz RX6 "must" cX6_must 2 none rm_X6_must (fun below args s => MQ below (jx_Qv (mm_dyn G) out (jx_A (mm_rg G) sz)) args s 0 0 (jx_A (mm_rg G) sz)) 0 0 pc lv st σ
def b_X6_must_41  (σ : jx_M) (s0 : Int32) (s1 : Int32) : Option jx_M :=
  jx_lt (jx_mu σ 0 5 (s1 + s0)) (fun σ1 => some σ1)
set_option maxHeartbeats 4000000 in
set_option maxRecDepth 100000 in
theorem jb_X6_must_41 (l : Launch) (G : jx_G) (hG : mm_ok G) (sz : Nat) (out : jx_M)  (σ : jx_M) (s0 : Int32) (s1 : Int32) (h : b_X6_must_41 σ s0 s1 = some out) : jJ_X6_must l G sz out 41 [] [.int s0, .int s1, .ref (G.2 10)] σ := by
  unfold b_X6_must_41 at h
  refine jx_iadd (pc := 41) dX6_must_41 ?_
  obtain ⟨σ1, eσ1, h⟩ := jx_lt_o h
  refine mm_p_spot (pc := 42) hG fl_X6_52 eσ1 dX6_must_42 ?_
  have h := Option.some.inj h
  subst h
  exact jx_vret (pc := 45) dX6_must_45
def b_X6_must_21  (σ : jx_M) (s0 : Int32) : Option jx_M :=
  jx_gd (decide (s0 = 0 ∨ s0 = 1)) (jx_lt (jx_mu σ 0 7 s0) (fun σ2 => if (σ2 0 7) = 0 then (b_X6_must_41 σ2 (1 : Int32) (σ2 0 5)) else (b_X6_must_41 σ2 (0 : Int32) (σ2 0 5))))
set_option maxHeartbeats 4000000 in
set_option maxRecDepth 100000 in
theorem jb_X6_must_21 (l : Launch) (G : jx_G) (hG : mm_ok G) (sz : Nat) (out : jx_M)  (σ : jx_M) (s0 : Int32) (h : b_X6_must_21 σ s0 = some out) : jJ_X6_must l G sz out 21 [(0, .ref (G.2 10))] [.int s0, .ref (G.2 10)] σ := by
  unfold b_X6_must_21 at h
  obtain ⟨g1, h⟩ := jx_gd_o h
  obtain ⟨σ2, eσ2, h⟩ := jx_lt_o h
  refine mm_p_isWrong (pc := 21) hG (of_decide_eq_true g1) fl_X6_58 eσ2 dX6_must_21 ?_
  refine jx_aload_n (pc := 24) (k0 := 0) rfl dX6_must_24 ?_
  refine jx_dup (pc := 25) rfl dX6_must_25 ?_
  refine mm_g_spot (pc := 26) fl_X6_52 dX6_must_26 ?_
  refine jx_aload_n (pc := 29) (k0 := 0) rfl dX6_must_29 ?_
  refine mm_g_isWrong (pc := 30) fl_X6_58 dX6_must_30 ?_
  refine jx_if_eq (pc := 33) (tgt := 40) dX6_must_33 (by decide) (fun c3 => ?_) (fun c3 => ?_)
  · have h := jx_t c3 h
    refine jx_iconst (pc := 40) (v := (1 : Int32)) (by decide) dX6_must_40 ?_
    exact jx_sub [] rfl (jb_X6_must_41 l G hG sz out σ2 (1 : Int32) (σ2 0 5) h)
  · have h := jx_f c3 h
    refine jx_iconst (pc := 36) (v := (0 : Int32)) (by decide) dX6_must_36 ?_
    refine jx_goto (pc := 37) (tgt := 41) dX6_must_37 (by decide) ?_
    exact jx_sub [] rfl (jb_X6_must_41 l G hG sz out σ2 (0 : Int32) (σ2 0 5) h)
def b_X6_must_16  (σ : jx_M)  : Option jx_M :=
  (b_X6_must_21 σ (1 : Int32))
set_option maxHeartbeats 4000000 in
set_option maxRecDepth 100000 in
theorem jb_X6_must_16 (l : Launch) (G : jx_G) (hG : mm_ok G) (sz : Nat) (out : jx_M)  (σ : jx_M)  (h : b_X6_must_16 σ = some out) : jJ_X6_must l G sz out 16 [(0, .ref (G.2 10))] [.ref (G.2 10)] σ := by
  unfold b_X6_must_16 at h
  refine jx_iconst (pc := 16) (v := (1 : Int32)) (by decide) dX6_must_16 ?_
  refine jx_goto (pc := 17) (tgt := 21) dX6_must_17 (by decide) ?_
  exact jx_sub [0] rfl (jb_X6_must_21 l G hG sz out σ (1 : Int32) h)
def f_X6_must (σ : jx_M) (a1 : Int32) : Option jx_M :=
  if (σ 0 7) = 0 then jx_bd (f_X6_here σ) (fun q2 => if q2 = a1 then (b_X6_must_21 σ (0 : Int32)) else (b_X6_must_16 σ)) else (b_X6_must_16 σ)
set_option maxHeartbeats 4000000 in
set_option maxRecDepth 100000 in
theorem k_X6_must (l : Launch) (G : jx_G) (hG : mm_ok G) (sz : Nat) (σ : jx_M) (a1 : Int32) (out : jx_M) (h : f_X6_must σ a1 = some out) : Met l yX6_must (Cond.code yX6_must cX6_must 2 none :: jx_ws) rm_X6_must (jx_Pc (mm_env G) (mm_dyn G) (mm_rg G) sz σ [.ref (G.2 10), .int a1]) (jx_Qv (mm_dyn G) out (jx_A (mm_rg G) sz)) 0 0 (jx_A (mm_rg G) sz) := by
  unfold f_X6_must at h
  refine jx_met (by decide) (Nat.le_of_ble_eq_true rfl) ?_
  refine jx_sub (lv' := [(0, .ref (G.2 10)), (1, .int a1)]) [0, 1] rfl ?_
  refine jx_aload_n (pc := 0) (k0 := 0) rfl dX6_must_0 ?_
  refine jx_aload_n (pc := 1) (k0 := 0) rfl dX6_must_1 ?_
  refine mm_g_isWrong (pc := 2) fl_X6_58 dX6_must_2 ?_
  refine jx_if_ne (pc := 5) (tgt := 16) dX6_must_5 (by decide) (fun c1 => ?_) (fun c1 => ?_)
  · have h := jx_f c1 h
    exact jx_sub [0] rfl (jb_X6_must_16 l G hG sz out σ h)
  · have h := jx_t c1 h
    refine jx_aload_n (pc := 8) (k0 := 0) rfl dX6_must_8 ?_
    obtain ⟨q2, eq2, h⟩ := jx_bd_o h
    refine jx_callVi (pc := 9) [] (fun sz' => k_X6_here l G hG sz' σ q2 eq2) kv_X6_62 mm_jok mm_rc rfl rfl (Nat.le_of_ble_eq_true rfl) ⟨⟨rfl, rfl⟩, ⟨Nat.le_of_ble_eq_true rfl, Nat.le_of_ble_eq_true rfl⟩, Nat.zero_le _, Nat.zero_le _⟩ dX6_must_9 ?_
    refine jx_iload_n (pc := 12) (k0 := 1) rfl dX6_must_12 ?_
    refine jx_icmp_eq (pc := 13) (tgt := 20) dX6_must_13 (by decide) (fun c3 => ?_) (fun c3 => ?_)
    · have h := jx_t c3 h
      refine jx_iconst (pc := 20) (v := (0 : Int32)) (by decide) dX6_must_20 ?_
      exact jx_sub [0] rfl (jb_X6_must_21 l G hG sz out σ (0 : Int32) h)
    · have h := jx_f c3 h
      exact jx_sub [0] rfl (jb_X6_must_16 l G hG sz out σ h)
theorem dX6_figures_0 : decode cX6_figures 0 = .ok (.aload_n 0, 1) := by decide +kernel
theorem dX6_figures_1 : decode cX6_figures 1 = .ok (.aload_n 0, 1) := by decide +kernel
theorem dX6_figures_2 : decode cX6_figures 2 = .ok (.getfield 58, 3) := by decide +kernel
theorem dX6_figures_5 : decode cX6_figures 5 = .ok (.ifCond .ne 17, 3) := by decide +kernel
theorem dX6_figures_8 : decode cX6_figures 8 = .ok (.aload_n 0, 1) := by decide +kernel
theorem dX6_figures_9 : decode cX6_figures 9 = .ok (.invokevirtual 62, 3) := by decide +kernel
theorem dX6_figures_12 : decode cX6_figures 12 = .ok (.bipush 48, 2) := by decide +kernel
theorem dX6_figures_14 : decode cX6_figures 14 = .ok (.bipush 57, 2) := by decide +kernel
theorem dX6_figures_16 : decode cX6_figures 16 = .ok (.invokestatic 48, 3) := by decide +kernel
theorem dX6_figures_19 : decode cX6_figures 19 = .ok (.ifCond .ne 7, 3) := by decide +kernel
theorem dX6_figures_22 : decode cX6_figures 22 = .ok (.iconst 1, 1) := by decide +kernel
theorem dX6_figures_23 : decode cX6_figures 23 = .ok (.goto 4, 3) := by decide +kernel
theorem dX6_figures_26 : decode cX6_figures 26 = .ok (.iconst 0, 1) := by decide +kernel
theorem dX6_figures_27 : decode cX6_figures 27 = .ok (.putfield 58, 3) := by decide +kernel
theorem dX6_figures_30 : decode cX6_figures 30 = .ok (.iconst 0, 1) := by decide +kernel
theorem dX6_figures_31 : decode cX6_figures 31 = .ok (.istore_n 1, 1) := by decide +kernel
theorem dX6_figures_32 : decode cX6_figures 32 = .ok (.iconst 0, 1) := by decide +kernel
theorem dX6_figures_33 : decode cX6_figures 33 = .ok (.istore_n 2, 1) := by decide +kernel
theorem dX6_figures_34 : decode cX6_figures 34 = .ok (.iload_n 2, 1) := by decide +kernel
theorem dX6_figures_35 : decode cX6_figures 35 = .ok (.iconst 2, 1) := by decide +kernel
theorem dX6_figures_36 : decode cX6_figures 36 = .ok (.if_icmp .ge 61, 3) := by decide +kernel
theorem dX6_figures_39 : decode cX6_figures 39 = .ok (.aload_n 0, 1) := by decide +kernel
theorem dX6_figures_40 : decode cX6_figures 40 = .ok (.getfield 58, 3) := by decide +kernel
theorem dX6_figures_43 : decode cX6_figures 43 = .ok (.ifCond .ne 54, 3) := by decide +kernel
theorem dX6_figures_46 : decode cX6_figures 46 = .ok (.aload_n 0, 1) := by decide +kernel
theorem dX6_figures_47 : decode cX6_figures 47 = .ok (.invokevirtual 62, 3) := by decide +kernel
theorem dX6_figures_50 : decode cX6_figures 50 = .ok (.bipush 48, 2) := by decide +kernel
theorem dX6_figures_52 : decode cX6_figures 52 = .ok (.bipush 57, 2) := by decide +kernel
theorem dX6_figures_54 : decode cX6_figures 54 = .ok (.invokestatic 48, 3) := by decide +kernel
theorem dX6_figures_57 : decode cX6_figures 57 = .ok (.ifCond .eq 40, 3) := by decide +kernel
theorem dX6_figures_60 : decode cX6_figures 60 = .ok (.iload_n 2, 1) := by decide +kernel
theorem dX6_figures_61 : decode cX6_figures 61 = .ok (.ifCond .eq 7, 3) := by decide +kernel
theorem dX6_figures_64 : decode cX6_figures 64 = .ok (.iload_n 1, 1) := by decide +kernel
theorem dX6_figures_65 : decode cX6_figures 65 = .ok (.ifCond .le 32, 3) := by decide +kernel
theorem dX6_figures_68 : decode cX6_figures 68 = .ok (.bipush 10, 2) := by decide +kernel
theorem dX6_figures_70 : decode cX6_figures 70 = .ok (.iload_n 1, 1) := by decide +kernel
theorem dX6_figures_71 : decode cX6_figures 71 = .ok (.imul, 1) := by decide +kernel
theorem dX6_figures_72 : decode cX6_figures 72 = .ok (.aload_n 0, 1) := by decide +kernel
theorem dX6_figures_73 : decode cX6_figures 73 = .ok (.invokevirtual 62, 3) := by decide +kernel
theorem dX6_figures_76 : decode cX6_figures 76 = .ok (.iadd, 1) := by decide +kernel
theorem dX6_figures_77 : decode cX6_figures 77 = .ok (.bipush 48, 2) := by decide +kernel
theorem dX6_figures_79 : decode cX6_figures 79 = .ok (.isub, 1) := by decide +kernel
theorem dX6_figures_80 : decode cX6_figures 80 = .ok (.istore_n 1, 1) := by decide +kernel
theorem dX6_figures_81 : decode cX6_figures 81 = .ok (.aload_n 0, 1) := by decide +kernel
theorem dX6_figures_82 : decode cX6_figures 82 = .ok (.dup, 1) := by decide +kernel
theorem dX6_figures_83 : decode cX6_figures 83 = .ok (.getfield 52, 3) := by decide +kernel
theorem dX6_figures_86 : decode cX6_figures 86 = .ok (.iconst 1, 1) := by decide +kernel
theorem dX6_figures_87 : decode cX6_figures 87 = .ok (.iadd, 1) := by decide +kernel
theorem dX6_figures_88 : decode cX6_figures 88 = .ok (.putfield 52, 3) := by decide +kernel
theorem dX6_figures_91 : decode cX6_figures 91 = .ok (.iinc 2 1, 3) := by decide +kernel
theorem dX6_figures_94 : decode cX6_figures 94 = .ok (.goto (-60), 3) := by decide +kernel
theorem dX6_figures_97 : decode cX6_figures 97 = .ok (.iload_n 1, 1) := by decide +kernel
theorem dX6_figures_98 : decode cX6_figures 98 = .ok (.ireturn, 1) := by decide +kernel
abbrev rm_X6_figures : Room := { frames := 1, cells := 0, slots := 0, locals := 22 }
abbrev jJ_X6_figures (l : Launch) (G : jx_G) (sz : Nat) (out : (Int32 × jx_M)) (pc : Nat) (lv : List (Nat × Value)) (st : List Value) (σ : jx_M) : Prop := jx_J l (mm_env G) (mm_dyn G) (mm_rg G) sz RX6 "figures" cX6_figures 3 (some .int) rm_X6_figures (fun below args s => MQ below (jx_Qi (mm_dyn G) out.2 out.1 (jx_A (mm_rg G) sz)) args s 0 0 (jx_A (mm_rg G) sz)) 0 0 pc lv st σ
def b_X6_figures_68 (k34 : jx_M → Int32 → Int32 → Option (Int32 × jx_M)) (σ : jx_M) (v1 : Int32) (v2 : Int32) : Option (Int32 × jx_M) :=
  jx_bd (f_X6_here σ) (fun q1 => jx_lt (((((10 : Int32) * v1) + q1) - (48 : Int32))) (fun x2 => jx_lt (jx_mu σ 0 5 ((σ 0 5) + (1 : Int32))) (fun σ3 => jx_lt (v2 + (1 : Int32)) (fun x4 => (k34 σ3 x2 x4)))))
set_option maxHeartbeats 4000000 in
set_option maxRecDepth 100000 in
theorem jb_X6_figures_68 (l : Launch) (G : jx_G) (hG : mm_ok G) (sz : Nat) (out : (Int32 × jx_M)) (k34 : jx_M → Int32 → Int32 → Option (Int32 × jx_M)) (h34 : ∀ (σ : jx_M) (v1 : Int32) (v2 : Int32), k34 σ v1 v2 = some out → jJ_X6_figures l G sz out 34 [(0, .ref (G.2 10)), (1, .int v1), (2, .int v2)] [] σ) (σ : jx_M) (v1 : Int32) (v2 : Int32) (h : b_X6_figures_68 k34 σ v1 v2 = some out) : jJ_X6_figures l G sz out 68 [(0, .ref (G.2 10)), (1, .int v1), (2, .int v2)] [] σ := by
  unfold b_X6_figures_68 at h
  refine jx_bipush (pc := 68) (v := (10 : Int32)) (by decide) dX6_figures_68 ?_
  refine jx_iload_n (pc := 70) (k0 := 1) rfl dX6_figures_70 ?_
  refine jx_imul (pc := 71) dX6_figures_71 ?_
  refine jx_aload_n (pc := 72) (k0 := 0) rfl dX6_figures_72 ?_
  obtain ⟨q1, eq1, h⟩ := jx_bd_o h
  refine jx_callVi (pc := 73) [] (fun sz' => k_X6_here l G hG sz' σ q1 eq1) kv_X6_62 mm_jok mm_rc rfl rfl (Nat.le_of_ble_eq_true rfl) ⟨⟨rfl, rfl⟩, ⟨Nat.le_of_ble_eq_true rfl, Nat.le_of_ble_eq_true rfl⟩, Nat.zero_le _, Nat.zero_le _⟩ dX6_figures_73 ?_
  refine jx_iadd (pc := 76) dX6_figures_76 ?_
  refine jx_bipush (pc := 77) (v := (48 : Int32)) (by decide) dX6_figures_77 ?_
  refine jx_isub (pc := 79) dX6_figures_79 ?_
  obtain ⟨x2, ex2, h⟩ := jx_lt_o h
  refine jx_istore_n (pc := 80) (i := 1) rfl ex2 (by decide) (lv' := [(1, .int x2), (0, .ref (G.2 10)), (2, .int v2)]) rfl dX6_figures_80 ?_
  refine jx_aload_n (pc := 81) (k0 := 0) rfl dX6_figures_81 ?_
  refine jx_dup (pc := 82) rfl dX6_figures_82 ?_
  refine mm_g_spot (pc := 83) fl_X6_52 dX6_figures_83 ?_
  refine jx_iconst (pc := 86) (v := (1 : Int32)) (by decide) dX6_figures_86 ?_
  refine jx_iadd (pc := 87) dX6_figures_87 ?_
  obtain ⟨σ3, eσ3, h⟩ := jx_lt_o h
  refine mm_p_spot (pc := 88) hG fl_X6_52 eσ3 dX6_figures_88 ?_
  obtain ⟨x4, ex4, h⟩ := jx_lt_o h
  refine jx_iinc (pc := 91) (i := 2) (v := v2) rfl ex4 (n := 1) (by decide) (by decide) (lv' := [(2, .int x4), (1, .int x2), (0, .ref (G.2 10))]) rfl dX6_figures_91 ?_
  refine jx_goto (pc := 94) (tgt := 34) dX6_figures_94 (by decide) ?_
  exact jx_sub [2, 1, 0] rfl (h34 σ3 x2 x4 h)
def g_X6_figures_34 (k34 : jx_M → Int32 → Int32 → Option (Int32 × jx_M)) (σ : jx_M) (v1 : Int32) (v2 : Int32) : Option (Int32 × jx_M) :=
  if (2 : Int32) ≤ v2 then some (v1, σ) else if (σ 0 7) = 0 then jx_bd (f_X6_here σ) (fun q3 => jx_bd (f_X6_in q3 (48 : Int32) (57 : Int32)) (fun q4 => if q4 = 0 then some (v1, σ) else if v2 = 0 then (b_X6_figures_68 k34 σ v1 v2) else if v1 ≤ 0 then some (v1, σ) else (b_X6_figures_68 k34 σ v1 v2))) else some (v1, σ)
set_option maxHeartbeats 4000000 in
set_option maxRecDepth 100000 in
theorem jg_X6_figures_34 (l : Launch) (G : jx_G) (hG : mm_ok G) (sz : Nat) (out : (Int32 × jx_M)) (k34 : jx_M → Int32 → Int32 → Option (Int32 × jx_M)) (h34 : ∀ (σ : jx_M) (v1 : Int32) (v2 : Int32), k34 σ v1 v2 = some out → jJ_X6_figures l G sz out 34 [(0, .ref (G.2 10)), (1, .int v1), (2, .int v2)] [] σ) (σ : jx_M) (v1 : Int32) (v2 : Int32) (h : g_X6_figures_34 k34 σ v1 v2 = some out) : jJ_X6_figures l G sz out 34 [(0, .ref (G.2 10)), (1, .int v1), (2, .int v2)] [] σ := by
  unfold g_X6_figures_34 at h
  refine jx_iload_n (pc := 34) (k0 := 2) rfl dX6_figures_34 ?_
  refine jx_iconst (pc := 35) (v := (2 : Int32)) (by decide) dX6_figures_35 ?_
  refine jx_icmp_ge (pc := 36) (tgt := 97) dX6_figures_36 (by decide) (fun c1 => ?_) (fun c1 => ?_)
  · have h := jx_t c1 h
    refine jx_iload_n (pc := 97) (k0 := 1) rfl dX6_figures_97 ?_
    have h := Option.some.inj h
    subst h
    exact jx_iret (pc := 98) dX6_figures_98
  · have h := jx_f c1 h
    refine jx_aload_n (pc := 39) (k0 := 0) rfl dX6_figures_39 ?_
    refine mm_g_isWrong (pc := 40) fl_X6_58 dX6_figures_40 ?_
    refine jx_if_ne (pc := 43) (tgt := 97) dX6_figures_43 (by decide) (fun c2 => ?_) (fun c2 => ?_)
    · have h := jx_f c2 h
      refine jx_iload_n (pc := 97) (k0 := 1) rfl dX6_figures_97 ?_
      have h := Option.some.inj h
      subst h
      exact jx_iret (pc := 98) dX6_figures_98
    · have h := jx_t c2 h
      refine jx_aload_n (pc := 46) (k0 := 0) rfl dX6_figures_46 ?_
      obtain ⟨q3, eq3, h⟩ := jx_bd_o h
      refine jx_callVi (pc := 47) [] (fun sz' => k_X6_here l G hG sz' σ q3 eq3) kv_X6_62 mm_jok mm_rc rfl rfl (Nat.le_of_ble_eq_true rfl) ⟨⟨rfl, rfl⟩, ⟨Nat.le_of_ble_eq_true rfl, Nat.le_of_ble_eq_true rfl⟩, Nat.zero_le _, Nat.zero_le _⟩ dX6_figures_47 ?_
      refine jx_bipush (pc := 50) (v := (48 : Int32)) (by decide) dX6_figures_50 ?_
      refine jx_bipush (pc := 52) (v := (57 : Int32)) (by decide) dX6_figures_52 ?_
      obtain ⟨q4, eq4, h⟩ := jx_bd_o h
      refine jx_callSi (pc := 54) [.int q3, .int (48 : Int32), .int (57 : Int32)] (fun sz' => k_X6_in l G hG sz' σ q3 (48 : Int32) (57 : Int32) q4 eq4) ks_X6_48 mm_jok rfl rfl (Nat.le_of_ble_eq_true rfl) ⟨⟨rfl, rfl⟩, ⟨Nat.le_of_ble_eq_true rfl, Nat.le_of_ble_eq_true rfl⟩, Nat.zero_le _, Nat.zero_le _⟩ dX6_figures_54 ?_
      refine jx_if_eq (pc := 57) (tgt := 97) dX6_figures_57 (by decide) (fun c5 => ?_) (fun c5 => ?_)
      · have h := jx_t c5 h
        refine jx_iload_n (pc := 97) (k0 := 1) rfl dX6_figures_97 ?_
        have h := Option.some.inj h
        subst h
        exact jx_iret (pc := 98) dX6_figures_98
      · have h := jx_f c5 h
        refine jx_iload_n (pc := 60) (k0 := 2) rfl dX6_figures_60 ?_
        refine jx_if_eq (pc := 61) (tgt := 68) dX6_figures_61 (by decide) (fun c6 => ?_) (fun c6 => ?_)
        · have h := jx_t c6 h
          exact jx_sub [0, 1, 2] rfl (jb_X6_figures_68 l G hG sz out k34 h34 σ v1 v2 h)
        · have h := jx_f c6 h
          refine jx_iload_n (pc := 64) (k0 := 1) rfl dX6_figures_64 ?_
          refine jx_if_le (pc := 65) (tgt := 97) dX6_figures_65 (by decide) (fun c7 => ?_) (fun c7 => ?_)
          · have h := jx_t c7 h
            refine jx_iload_n (pc := 97) (k0 := 1) rfl dX6_figures_97 ?_
            have h := Option.some.inj h
            subst h
            exact jx_iret (pc := 98) dX6_figures_98
          · have h := jx_f c7 h
            exact jx_sub [0, 1, 2] rfl (jb_X6_figures_68 l G hG sz out k34 h34 σ v1 v2 h)
def b_X6_figures_34  : Nat → jx_M → Int32 → Int32 → Option (Int32 × jx_M)
  | 0, _, _, _ => none
  | n + 1, σ, v1, v2 => g_X6_figures_34 (b_X6_figures_34 n) σ v1 v2
theorem jb_X6_figures_34 (l : Launch) (G : jx_G) (hG : mm_ok G) (sz : Nat) (out : (Int32 × jx_M))  : ∀ (n : Nat) (σ : jx_M) (v1 : Int32) (v2 : Int32), b_X6_figures_34 n σ v1 v2 = some out → jJ_X6_figures l G sz out 34 [(0, .ref (G.2 10)), (1, .int v1), (2, .int v2)] [] σ := by
  intro n
  induction n with
  | zero =>
    intro σ v1 v2 h
    cases h
  | succ n ih =>
    intro σ v1 v2 h
    exact jg_X6_figures_34 l G hG sz out (b_X6_figures_34 n) ih σ v1 v2 h
def b_X6_figures_27  (σ : jx_M) (s0 : Int32) : Option (Int32 × jx_M) :=
  jx_gd (decide (s0 = 0 ∨ s0 = 1)) (jx_lt (jx_mu σ 0 7 s0) (fun σ2 => (b_X6_figures_34 jx_fuel σ2 (0 : Int32) (0 : Int32))))
set_option maxHeartbeats 4000000 in
set_option maxRecDepth 100000 in
theorem jb_X6_figures_27 (l : Launch) (G : jx_G) (hG : mm_ok G) (sz : Nat) (out : (Int32 × jx_M))  (σ : jx_M) (s0 : Int32) (h : b_X6_figures_27 σ s0 = some out) : jJ_X6_figures l G sz out 27 [(0, .ref (G.2 10))] [.int s0, .ref (G.2 10)] σ := by
  unfold b_X6_figures_27 at h
  obtain ⟨g1, h⟩ := jx_gd_o h
  obtain ⟨σ2, eσ2, h⟩ := jx_lt_o h
  refine mm_p_isWrong (pc := 27) hG (of_decide_eq_true g1) fl_X6_58 eσ2 dX6_figures_27 ?_
  refine jx_iconst (pc := 30) (v := (0 : Int32)) (by decide) dX6_figures_30 ?_
  refine jx_istore_n (pc := 31) (i := 1) rfl rfl (by decide) (lv' := [(1, .int (0 : Int32)), (0, .ref (G.2 10))]) rfl dX6_figures_31 ?_
  refine jx_iconst (pc := 32) (v := (0 : Int32)) (by decide) dX6_figures_32 ?_
  refine jx_istore_n (pc := 33) (i := 2) rfl rfl (by decide) (lv' := [(2, .int (0 : Int32)), (1, .int (0 : Int32)), (0, .ref (G.2 10))]) rfl dX6_figures_33 ?_
  exact jx_sub [2, 1, 0] rfl (jb_X6_figures_34 l G hG sz out jx_fuel σ2 (0 : Int32) (0 : Int32) h)
def b_X6_figures_22  (σ : jx_M)  : Option (Int32 × jx_M) :=
  (b_X6_figures_27 σ (1 : Int32))
set_option maxHeartbeats 4000000 in
set_option maxRecDepth 100000 in
theorem jb_X6_figures_22 (l : Launch) (G : jx_G) (hG : mm_ok G) (sz : Nat) (out : (Int32 × jx_M))  (σ : jx_M)  (h : b_X6_figures_22 σ = some out) : jJ_X6_figures l G sz out 22 [(0, .ref (G.2 10))] [.ref (G.2 10)] σ := by
  unfold b_X6_figures_22 at h
  refine jx_iconst (pc := 22) (v := (1 : Int32)) (by decide) dX6_figures_22 ?_
  refine jx_goto (pc := 23) (tgt := 27) dX6_figures_23 (by decide) ?_
  exact jx_sub [0] rfl (jb_X6_figures_27 l G hG sz out σ (1 : Int32) h)
def f_X6_figures (σ : jx_M)  : Option (Int32 × jx_M) :=
  if (σ 0 7) = 0 then jx_bd (f_X6_here σ) (fun q2 => jx_bd (f_X6_in q2 (48 : Int32) (57 : Int32)) (fun q3 => if q3 = 0 then (b_X6_figures_22 σ) else (b_X6_figures_27 σ (0 : Int32)))) else (b_X6_figures_22 σ)
set_option maxHeartbeats 4000000 in
set_option maxRecDepth 100000 in
theorem k_X6_figures (l : Launch) (G : jx_G) (hG : mm_ok G) (sz : Nat) (σ : jx_M)  (out : (Int32 × jx_M)) (h : f_X6_figures σ = some out) : Met l yX6_figures (Cond.code yX6_figures cX6_figures 3 (some .int) :: jx_ws) rm_X6_figures (jx_Pc (mm_env G) (mm_dyn G) (mm_rg G) sz σ [.ref (G.2 10)]) (jx_Qi (mm_dyn G) out.2 out.1 (jx_A (mm_rg G) sz)) 0 0 (jx_A (mm_rg G) sz) := by
  unfold f_X6_figures at h
  refine jx_met (by decide) (Nat.le_of_ble_eq_true rfl) ?_
  refine jx_sub (lv' := [(0, .ref (G.2 10))]) [0] rfl ?_
  refine jx_aload_n (pc := 0) (k0 := 0) rfl dX6_figures_0 ?_
  refine jx_aload_n (pc := 1) (k0 := 0) rfl dX6_figures_1 ?_
  refine mm_g_isWrong (pc := 2) fl_X6_58 dX6_figures_2 ?_
  refine jx_if_ne (pc := 5) (tgt := 22) dX6_figures_5 (by decide) (fun c1 => ?_) (fun c1 => ?_)
  · have h := jx_f c1 h
    exact jx_sub [0] rfl (jb_X6_figures_22 l G hG sz out σ h)
  · have h := jx_t c1 h
    refine jx_aload_n (pc := 8) (k0 := 0) rfl dX6_figures_8 ?_
    obtain ⟨q2, eq2, h⟩ := jx_bd_o h
    refine jx_callVi (pc := 9) [] (fun sz' => k_X6_here l G hG sz' σ q2 eq2) kv_X6_62 mm_jok mm_rc rfl rfl (Nat.le_of_ble_eq_true rfl) ⟨⟨rfl, rfl⟩, ⟨Nat.le_of_ble_eq_true rfl, Nat.le_of_ble_eq_true rfl⟩, Nat.zero_le _, Nat.zero_le _⟩ dX6_figures_9 ?_
    refine jx_bipush (pc := 12) (v := (48 : Int32)) (by decide) dX6_figures_12 ?_
    refine jx_bipush (pc := 14) (v := (57 : Int32)) (by decide) dX6_figures_14 ?_
    obtain ⟨q3, eq3, h⟩ := jx_bd_o h
    refine jx_callSi (pc := 16) [.int q2, .int (48 : Int32), .int (57 : Int32)] (fun sz' => k_X6_in l G hG sz' σ q2 (48 : Int32) (57 : Int32) q3 eq3) ks_X6_48 mm_jok rfl rfl (Nat.le_of_ble_eq_true rfl) ⟨⟨rfl, rfl⟩, ⟨Nat.le_of_ble_eq_true rfl, Nat.le_of_ble_eq_true rfl⟩, Nat.zero_le _, Nat.zero_le _⟩ dX6_figures_16 ?_
    refine jx_if_ne (pc := 19) (tgt := 26) dX6_figures_19 (by decide) (fun c4 => ?_) (fun c4 => ?_)
    · have h := jx_f c4 h
      refine jx_iconst (pc := 26) (v := (0 : Int32)) (by decide) dX6_figures_26 ?_
      exact jx_sub [0] rfl (jb_X6_figures_27 l G hG sz out σ (0 : Int32) h)
    · have h := jx_t c4 h
      exact jx_sub [0] rfl (jb_X6_figures_22 l G hG sz out σ h)
theorem dX6_among_0 : decode cX6_among 0 = .ok (.iconst 0, 1) := by decide +kernel
theorem dX6_among_1 : decode cX6_among 1 = .ok (.istore_n 2, 1) := by decide +kernel
theorem dX6_among_2 : decode cX6_among 2 = .ok (.iload_n 2, 1) := by decide +kernel
theorem dX6_among_3 : decode cX6_among 3 = .ok (.aload_n 1, 1) := by decide +kernel
theorem dX6_among_4 : decode cX6_among 4 = .ok (.invokevirtual 66, 3) := by decide +kernel
theorem dX6_among_7 : decode cX6_among 7 = .ok (.if_icmp .ge 33, 3) := by decide +kernel
theorem dX6_among_10 : decode cX6_among 10 = .ok (.aload_n 0, 1) := by decide +kernel
theorem dX6_among_11 : decode cX6_among 11 = .ok (.invokevirtual 62, 3) := by decide +kernel
theorem dX6_among_14 : decode cX6_among 14 = .ok (.aload_n 1, 1) := by decide +kernel
theorem dX6_among_15 : decode cX6_among 15 = .ok (.iload_n 2, 1) := by decide +kernel
theorem dX6_among_16 : decode cX6_among 16 = .ok (.invokevirtual 71, 3) := by decide +kernel
theorem dX6_among_19 : decode cX6_among 19 = .ok (.if_icmp .ne 15, 3) := by decide +kernel
theorem dX6_among_22 : decode cX6_among 22 = .ok (.aload_n 0, 1) := by decide +kernel
theorem dX6_among_23 : decode cX6_among 23 = .ok (.dup, 1) := by decide +kernel
theorem dX6_among_24 : decode cX6_among 24 = .ok (.getfield 52, 3) := by decide +kernel
theorem dX6_among_27 : decode cX6_among 27 = .ok (.iconst 1, 1) := by decide +kernel
theorem dX6_among_28 : decode cX6_among 28 = .ok (.iadd, 1) := by decide +kernel
theorem dX6_among_29 : decode cX6_among 29 = .ok (.putfield 52, 3) := by decide +kernel
theorem dX6_among_32 : decode cX6_among 32 = .ok (.iload_n 2, 1) := by decide +kernel
theorem dX6_among_33 : decode cX6_among 33 = .ok (.ireturn, 1) := by decide +kernel
theorem dX6_among_34 : decode cX6_among 34 = .ok (.iinc 2 1, 3) := by decide +kernel
theorem dX6_among_37 : decode cX6_among 37 = .ok (.goto (-35), 3) := by decide +kernel
theorem dX6_among_40 : decode cX6_among 40 = .ok (.iconst (-1), 1) := by decide +kernel
theorem dX6_among_41 : decode cX6_among 41 = .ok (.ireturn, 1) := by decide +kernel
abbrev rm_X6_among : Room := { frames := 4, cells := 0, slots := 0, locals := 85 }
abbrev jJ_X6_among (l : Launch) (G : jx_G) (sz : Nat) (out : (Int32 × jx_M)) (pc : Nat) (lv : List (Nat × Value)) (st : List Value) (σ : jx_M) : Prop := jx_J l (mm_env G) (mm_dyn G) (mm_rg G) sz RX6 "among" cX6_among 3 (some .int) rm_X6_among (fun below args s => MQ below (jx_Qi (mm_dyn G) out.2 out.1 (jx_A (mm_rg G) sz)) args s 0 0 (jx_A (mm_rg G) sz)) 0 0 pc lv st σ
def g_X6_among_2 (k2 : jx_M → Nat → Int32 → Option (Int32 × jx_M)) (σ : jx_M) (v1 : Nat) (v2 : Int32) : Option (Int32 × jx_M) :=
  jx_bd (f_J0_length_8abf5 v1) (fun q1 => jx_gd (decide (v1 < 7)) (if q1 ≤ v2 then some ((-1 : Int32), σ) else jx_bd (f_X6_here σ) (fun q4 => jx_bd (f_J0_charAt_5068e v1 v2) (fun q5 => jx_gd (decide (v1 < 7)) (if q4 = q5 then jx_lt (jx_mu σ 0 5 ((σ 0 5) + (1 : Int32))) (fun σ9 => some (v2, σ9)) else jx_lt (v2 + (1 : Int32)) (fun x8 => (k2 σ v1 x8)))))))
set_option maxHeartbeats 4000000 in
set_option maxRecDepth 100000 in
theorem jg_X6_among_2 (l : Launch) (G : jx_G) (hG : mm_ok G) (sz : Nat) (out : (Int32 × jx_M)) (k2 : jx_M → Nat → Int32 → Option (Int32 × jx_M)) (h2 : ∀ (σ : jx_M) (v1 : Nat) (v2 : Int32), k2 σ v1 v2 = some out → jJ_X6_among l G sz out 2 [(0, .ref (G.2 10)), (1, .ref (G.2 (1000 + v1))), (2, .int v2)] [] σ) (σ : jx_M) (v1 : Nat) (v2 : Int32) (h : g_X6_among_2 k2 σ v1 v2 = some out) : jJ_X6_among l G sz out 2 [(0, .ref (G.2 10)), (1, .ref (G.2 (1000 + v1))), (2, .int v2)] [] σ := by
  unfold g_X6_among_2 at h
  refine jx_iload_n (pc := 2) (k0 := 2) rfl dX6_among_2 ?_
  refine jx_aload_n (pc := 3) (k0 := 1) rfl dX6_among_3 ?_
  obtain ⟨q1, eq1, h⟩ := jx_bd_o h
  obtain ⟨g2, h⟩ := jx_gd_o h
  refine jx_callVi (pc := 4) [] (fun sz' => k_J0_length_8abf5 l (mm_env G) (mm_dyn G) (mm_rg G) G mm_jok mm_hex sz' σ v1 q1 eq1) kv_X6_66 mm_jok (st_rc mm_hex (i := v1) (of_decide_eq_true g2)) rfl rfl (Nat.le_of_ble_eq_true rfl) ⟨⟨rfl, rfl⟩, ⟨Nat.le_of_ble_eq_true rfl, Nat.le_of_ble_eq_true rfl⟩, Nat.zero_le _, Nat.zero_le _⟩ dX6_among_4 ?_
  refine jx_icmp_ge (pc := 7) (tgt := 40) dX6_among_7 (by decide) (fun c3 => ?_) (fun c3 => ?_)
  · have h := jx_t c3 h
    refine jx_iconst (pc := 40) (v := (-1 : Int32)) (by decide) dX6_among_40 ?_
    have h := Option.some.inj h
    subst h
    exact jx_iret (pc := 41) dX6_among_41
  · have h := jx_f c3 h
    refine jx_aload_n (pc := 10) (k0 := 0) rfl dX6_among_10 ?_
    obtain ⟨q4, eq4, h⟩ := jx_bd_o h
    refine jx_callVi (pc := 11) [] (fun sz' => k_X6_here l G hG sz' σ q4 eq4) kv_X6_62 mm_jok mm_rc rfl rfl (Nat.le_of_ble_eq_true rfl) ⟨⟨rfl, rfl⟩, ⟨Nat.le_of_ble_eq_true rfl, Nat.le_of_ble_eq_true rfl⟩, Nat.zero_le _, Nat.zero_le _⟩ dX6_among_11 ?_
    refine jx_aload_n (pc := 14) (k0 := 1) rfl dX6_among_14 ?_
    refine jx_iload_n (pc := 15) (k0 := 2) rfl dX6_among_15 ?_
    obtain ⟨q5, eq5, h⟩ := jx_bd_o h
    obtain ⟨g6, h⟩ := jx_gd_o h
    refine jx_callVi (pc := 16) [.int v2] (fun sz' => k_J0_charAt_5068e l (mm_env G) (mm_dyn G) (mm_rg G) G mm_jok mm_hex sz' σ v1 v2 q5 eq5) kv_X6_71 mm_jok (st_rc mm_hex (i := v1) (of_decide_eq_true g6)) rfl rfl (Nat.le_of_ble_eq_true rfl) ⟨⟨rfl, rfl⟩, ⟨Nat.le_of_ble_eq_true rfl, Nat.le_of_ble_eq_true rfl⟩, Nat.zero_le _, Nat.zero_le _⟩ dX6_among_16 ?_
    refine jx_icmp_ne (pc := 19) (tgt := 34) dX6_among_19 (by decide) (fun c7 => ?_) (fun c7 => ?_)
    · have h := jx_f c7 h
      obtain ⟨x8, ex8, h⟩ := jx_lt_o h
      refine jx_iinc (pc := 34) (i := 2) (v := v2) rfl ex8 (n := 1) (by decide) (by decide) (lv' := [(2, .int x8), (0, .ref (G.2 10)), (1, .ref (G.2 (1000 + v1)))]) rfl dX6_among_34 ?_
      refine jx_goto (pc := 37) (tgt := 2) dX6_among_37 (by decide) ?_
      exact jx_sub [1, 2, 0] rfl (h2 σ v1 x8 h)
    · have h := jx_t c7 h
      refine jx_aload_n (pc := 22) (k0 := 0) rfl dX6_among_22 ?_
      refine jx_dup (pc := 23) rfl dX6_among_23 ?_
      refine mm_g_spot (pc := 24) fl_X6_52 dX6_among_24 ?_
      refine jx_iconst (pc := 27) (v := (1 : Int32)) (by decide) dX6_among_27 ?_
      refine jx_iadd (pc := 28) dX6_among_28 ?_
      obtain ⟨σ9, eσ9, h⟩ := jx_lt_o h
      refine mm_p_spot (pc := 29) hG fl_X6_52 eσ9 dX6_among_29 ?_
      refine jx_iload_n (pc := 32) (k0 := 2) rfl dX6_among_32 ?_
      have h := Option.some.inj h
      subst h
      exact jx_iret (pc := 33) dX6_among_33
def b_X6_among_2  : Nat → jx_M → Nat → Int32 → Option (Int32 × jx_M)
  | 0, _, _, _ => none
  | n + 1, σ, v1, v2 => g_X6_among_2 (b_X6_among_2 n) σ v1 v2
theorem jb_X6_among_2 (l : Launch) (G : jx_G) (hG : mm_ok G) (sz : Nat) (out : (Int32 × jx_M))  : ∀ (n : Nat) (σ : jx_M) (v1 : Nat) (v2 : Int32), b_X6_among_2 n σ v1 v2 = some out → jJ_X6_among l G sz out 2 [(0, .ref (G.2 10)), (1, .ref (G.2 (1000 + v1))), (2, .int v2)] [] σ := by
  intro n
  induction n with
  | zero =>
    intro σ v1 v2 h
    cases h
  | succ n ih =>
    intro σ v1 v2 h
    exact jg_X6_among_2 l G hG sz out (b_X6_among_2 n) ih σ v1 v2 h
def f_X6_among (σ : jx_M) (a1 : Nat) : Option (Int32 × jx_M) :=
  (b_X6_among_2 jx_fuel σ a1 (0 : Int32))
set_option maxHeartbeats 4000000 in
set_option maxRecDepth 100000 in
theorem k_X6_among (l : Launch) (G : jx_G) (hG : mm_ok G) (sz : Nat) (σ : jx_M) (a1 : Nat) (out : (Int32 × jx_M)) (h : f_X6_among σ a1 = some out) : Met l yX6_among (Cond.code yX6_among cX6_among 3 (some .int) :: jx_ws) rm_X6_among (jx_Pc (mm_env G) (mm_dyn G) (mm_rg G) sz σ [.ref (G.2 10), .ref (G.2 (1000 + a1))]) (jx_Qi (mm_dyn G) out.2 out.1 (jx_A (mm_rg G) sz)) 0 0 (jx_A (mm_rg G) sz) := by
  unfold f_X6_among at h
  refine jx_met (by decide) (Nat.le_of_ble_eq_true rfl) ?_
  refine jx_sub (lv' := [(0, .ref (G.2 10)), (1, .ref (G.2 (1000 + a1)))]) [0, 1] rfl ?_
  refine jx_iconst (pc := 0) (v := (0 : Int32)) (by decide) dX6_among_0 ?_
  refine jx_istore_n (pc := 1) (i := 2) rfl rfl (by decide) (lv' := [(2, .int (0 : Int32)), (0, .ref (G.2 10)), (1, .ref (G.2 (1000 + a1)))]) rfl dX6_among_1 ?_
  exact jx_sub [1, 2, 0] rfl (jb_X6_among_2 l G hG sz out jx_fuel σ a1 (0 : Int32) h)
theorem dX6_every_0 : decode cX6_every 0 = .ok (.aload_n 0, 1) := by decide +kernel
theorem dX6_every_1 : decode cX6_every 1 = .ok (.invokevirtual 84, 3) := by decide +kernel
theorem dX6_every_4 : decode cX6_every 4 = .ok (.aload_n 0, 1) := by decide +kernel
theorem dX6_every_5 : decode cX6_every 5 = .ok (.getfield 58, 3) := by decide +kernel
theorem dX6_every_8 : decode cX6_every 8 = .ok (.ifCond .ne 35, 3) := by decide +kernel
theorem dX6_every_11 : decode cX6_every 11 = .ok (.aload_n 0, 1) := by decide +kernel
theorem dX6_every_12 : decode cX6_every 12 = .ok (.invokevirtual 62, 3) := by decide +kernel
theorem dX6_every_15 : decode cX6_every 15 = .ok (.bipush 38, 2) := by decide +kernel
theorem dX6_every_17 : decode cX6_every 17 = .ok (.if_icmp .ne 26, 3) := by decide +kernel
theorem dX6_every_20 : decode cX6_every 20 = .ok (.aload_n 0, 1) := by decide +kernel
theorem dX6_every_21 : decode cX6_every 21 = .ok (.dup, 1) := by decide +kernel
theorem dX6_every_22 : decode cX6_every 22 = .ok (.getfield 52, 3) := by decide +kernel
theorem dX6_every_25 : decode cX6_every 25 = .ok (.iconst 1, 1) := by decide +kernel
theorem dX6_every_26 : decode cX6_every 26 = .ok (.iadd, 1) := by decide +kernel
theorem dX6_every_27 : decode cX6_every 27 = .ok (.putfield 52, 3) := by decide +kernel
theorem dX6_every_30 : decode cX6_every 30 = .ok (.aload_n 0, 1) := by decide +kernel
theorem dX6_every_31 : decode cX6_every 31 = .ok (.invokevirtual 84, 3) := by decide +kernel
theorem dX6_every_34 : decode cX6_every 34 = .ok (.aload_n 0, 1) := by decide +kernel
theorem dX6_every_35 : decode cX6_every 35 = .ok (.bipush (-2), 2) := by decide +kernel
theorem dX6_every_37 : decode cX6_every 37 = .ok (.invokevirtual 87, 3) := by decide +kernel
theorem dX6_every_40 : decode cX6_every 40 = .ok (.goto (-36), 3) := by decide +kernel
theorem dX6_every_43 : decode cX6_every 43 = .ok (.return_, 1) := by decide +kernel
abbrev rm_X6_every (fr lo : Nat) : Room := { frames := fr + 1, cells := 0, slots := 0, locals := lo + 24 }
abbrev jJ_X6_every (l : Launch) (G : jx_G) (fr lo : Nat) (sz : Nat) (out : jx_M) (pc : Nat) (lv : List (Nat × Value)) (st : List Value) (σ : jx_M) : Prop := jx_J l (mm_env G) (mm_dyn G) (mm_rg G) sz RX6 "every" cX6_every 1 none (rm_X6_every fr lo) (fun below args s => MQ below (jx_Qv (mm_dyn G) out (jx_A (mm_rg G) sz)) args s 0 0 (jx_A (mm_rg G) sz)) 0 0 pc lv st σ
def g_X6_every_4 (F : jx_M → Option jx_M) (k4 : jx_M → Option jx_M) (σ : jx_M)  : Option jx_M :=
  if (σ 0 7) = 0 then jx_bd (f_X6_here σ) (fun q2 => if q2 = (38 : Int32) then jx_lt (jx_mu σ 0 5 ((σ 0 5) + (1 : Int32))) (fun σ4 => jx_bd (F σ4) (fun q5 => jx_bd (f_X6_emits q5 (-2 : Int32)) (fun q6 => (k4 q6)))) else some σ) else some σ
set_option maxHeartbeats 4000000 in
set_option maxRecDepth 100000 in
theorem jg_X6_every_4 (l : Launch) (G : jx_G) (hG : mm_ok G) (F : jx_M → Option jx_M) (fr lo : Nat) (hF : ∀ (sz : Nat) (σ : jx_M)  (out : jx_M) (_ : F σ = some out), Met l yX6_factor (Cond.code yX6_factor cX6_factor 5 none :: jx_ws) { frames := fr, cells := 0, slots := 0, locals := lo } (jx_Pc (mm_env G) (mm_dyn G) (mm_rg G) sz σ [.ref (G.2 10)]) (jx_Qv (mm_dyn G) out (jx_A (mm_rg G) sz)) 0 0 (jx_A (mm_rg G) sz)) (sz : Nat) (out : jx_M) (k4 : jx_M → Option jx_M) (h4 : ∀ (σ : jx_M) , k4 σ = some out → jJ_X6_every l G fr lo sz out 4 [(0, .ref (G.2 10))] [] σ) (σ : jx_M)  (h : g_X6_every_4 F k4 σ = some out) : jJ_X6_every l G fr lo sz out 4 [(0, .ref (G.2 10))] [] σ := by
  unfold g_X6_every_4 at h
  refine jx_aload_n (pc := 4) (k0 := 0) rfl dX6_every_4 ?_
  refine mm_g_isWrong (pc := 5) fl_X6_58 dX6_every_5 ?_
  refine jx_if_ne (pc := 8) (tgt := 43) dX6_every_8 (by decide) (fun c1 => ?_) (fun c1 => ?_)
  · have h := jx_f c1 h
    have h := Option.some.inj h
    subst h
    exact jx_vret (pc := 43) dX6_every_43
  · have h := jx_t c1 h
    refine jx_aload_n (pc := 11) (k0 := 0) rfl dX6_every_11 ?_
    obtain ⟨q2, eq2, h⟩ := jx_bd_o h
    refine jx_callVi (pc := 12) [] (fun sz' => k_X6_here l G hG sz' σ q2 eq2) kv_X6_62 mm_jok mm_rc rfl rfl (Nat.le_of_ble_eq_true rfl) ⟨⟨rfl, rfl⟩, ⟨(by show 0 + 1 ≤ fr + 1; omega), (by show 8 + (1 + 11) + 0 ≤ lo + 24; omega)⟩, Nat.zero_le _, Nat.zero_le _⟩ dX6_every_12 ?_
    refine jx_bipush (pc := 15) (v := (38 : Int32)) (by decide) dX6_every_15 ?_
    refine jx_icmp_ne (pc := 17) (tgt := 43) dX6_every_17 (by decide) (fun c3 => ?_) (fun c3 => ?_)
    · have h := jx_f c3 h
      have h := Option.some.inj h
      subst h
      exact jx_vret (pc := 43) dX6_every_43
    · have h := jx_t c3 h
      refine jx_aload_n (pc := 20) (k0 := 0) rfl dX6_every_20 ?_
      refine jx_dup (pc := 21) rfl dX6_every_21 ?_
      refine mm_g_spot (pc := 22) fl_X6_52 dX6_every_22 ?_
      refine jx_iconst (pc := 25) (v := (1 : Int32)) (by decide) dX6_every_25 ?_
      refine jx_iadd (pc := 26) dX6_every_26 ?_
      obtain ⟨σ4, eσ4, h⟩ := jx_lt_o h
      refine mm_p_spot (pc := 27) hG fl_X6_52 eσ4 dX6_every_27 ?_
      refine jx_aload_n (pc := 30) (k0 := 0) rfl dX6_every_30 ?_
      obtain ⟨q5, eq5, h⟩ := jx_bd_o h
      refine jx_callVv (pc := 31) [] (fun sz' => hF sz' σ4 q5 eq5) kv_X6_84 mm_jok mm_rc rfl rfl (Nat.le_of_ble_eq_true rfl) ⟨⟨rfl, rfl⟩, ⟨(by show fr + 1 ≤ fr + 1; omega), (by show 8 + (5 + 11) + lo ≤ lo + 24; omega)⟩, Nat.zero_le _, Nat.zero_le _⟩ dX6_every_31 ?_
      refine jx_aload_n (pc := 34) (k0 := 0) rfl dX6_every_34 ?_
      refine jx_bipush (pc := 35) (v := (-2 : Int32)) (by decide) dX6_every_35 ?_
      obtain ⟨q6, eq6, h⟩ := jx_bd_o h
      refine jx_callVv (pc := 37) [.int (-2 : Int32)] (fun sz' => k_X6_emits l G hG sz' q5 (-2 : Int32) q6 eq6) kv_X6_87 mm_jok mm_rc rfl rfl (Nat.le_of_ble_eq_true rfl) ⟨⟨rfl, rfl⟩, ⟨(by show 0 + 1 ≤ fr + 1; omega), (by show 8 + (2 + 11) + 0 ≤ lo + 24; omega)⟩, Nat.zero_le _, Nat.zero_le _⟩ dX6_every_37 ?_
      refine jx_goto (pc := 40) (tgt := 4) dX6_every_40 (by decide) ?_
      exact jx_sub [0] rfl (h4 q6 h)
def b_X6_every_4 (F : jx_M → Option jx_M)  : Nat → jx_M → Option jx_M
  | 0, _ => none
  | n + 1, σ => g_X6_every_4 F (b_X6_every_4 F n) σ
theorem jb_X6_every_4 (l : Launch) (G : jx_G) (hG : mm_ok G) (F : jx_M → Option jx_M) (fr lo : Nat) (hF : ∀ (sz : Nat) (σ : jx_M)  (out : jx_M) (_ : F σ = some out), Met l yX6_factor (Cond.code yX6_factor cX6_factor 5 none :: jx_ws) { frames := fr, cells := 0, slots := 0, locals := lo } (jx_Pc (mm_env G) (mm_dyn G) (mm_rg G) sz σ [.ref (G.2 10)]) (jx_Qv (mm_dyn G) out (jx_A (mm_rg G) sz)) 0 0 (jx_A (mm_rg G) sz)) (sz : Nat) (out : jx_M)  : ∀ (n : Nat) (σ : jx_M) , b_X6_every_4 F n σ = some out → jJ_X6_every l G fr lo sz out 4 [(0, .ref (G.2 10))] [] σ := by
  intro n
  induction n with
  | zero =>
    intro σ h
    cases h
  | succ n ih =>
    intro σ h
    exact jg_X6_every_4 l G hG F fr lo hF sz out (b_X6_every_4 F n) ih σ  h
def f_X6_every (F : jx_M → Option jx_M) (σ : jx_M)  : Option jx_M :=
  jx_bd (F σ) (fun q1 => (b_X6_every_4 F jx_fuel q1))
set_option maxHeartbeats 4000000 in
set_option maxRecDepth 100000 in
theorem k_X6_every (l : Launch) (G : jx_G) (hG : mm_ok G) (F : jx_M → Option jx_M) (fr lo : Nat) (hF : ∀ (sz : Nat) (σ : jx_M)  (out : jx_M) (_ : F σ = some out), Met l yX6_factor (Cond.code yX6_factor cX6_factor 5 none :: jx_ws) { frames := fr, cells := 0, slots := 0, locals := lo } (jx_Pc (mm_env G) (mm_dyn G) (mm_rg G) sz σ [.ref (G.2 10)]) (jx_Qv (mm_dyn G) out (jx_A (mm_rg G) sz)) 0 0 (jx_A (mm_rg G) sz)) (sz : Nat) (σ : jx_M)  (out : jx_M) (h : f_X6_every F σ = some out) : Met l yX6_every (Cond.code yX6_every cX6_every 1 none :: jx_ws) (rm_X6_every fr lo) (jx_Pc (mm_env G) (mm_dyn G) (mm_rg G) sz σ [.ref (G.2 10)]) (jx_Qv (mm_dyn G) out (jx_A (mm_rg G) sz)) 0 0 (jx_A (mm_rg G) sz) := by
  unfold f_X6_every at h
  refine jx_met (by decide) (Nat.le_of_ble_eq_true rfl) ?_
  refine jx_sub (lv' := [(0, .ref (G.2 10))]) [0] rfl ?_
  refine jx_aload_n (pc := 0) (k0 := 0) rfl dX6_every_0 ?_
  obtain ⟨q1, eq1, h⟩ := jx_bd_o h
  refine jx_callVv (pc := 1) [] (fun sz' => hF sz' σ q1 eq1) kv_X6_84 mm_jok mm_rc rfl rfl (Nat.le_of_ble_eq_true rfl) ⟨⟨rfl, rfl⟩, ⟨(by show fr + 1 ≤ fr + 1; omega), (by show 8 + (5 + 11) + lo ≤ lo + 24; omega)⟩, Nat.zero_le _, Nat.zero_le _⟩ dX6_every_1 ?_
  exact jx_sub [0] rfl (jb_X6_every_4 l G hG F fr lo hF sz out jx_fuel q1 h)
