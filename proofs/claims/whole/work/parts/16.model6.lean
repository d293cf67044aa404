/-! the reference's methods: a function on the memory each, and its contract -/
theorem dX6_ward_0 : decode cX6_ward 0 = .ok (.iload_n 1, 1) := by decide +kernel
theorem dX6_ward_1 : decode cX6_ward 1 = .ok (.iconst 0, 1) := by decide +kernel
theorem dX6_ward_2 : decode cX6_ward 2 = .ok (.iconst 2, 1) := by decide +kernel
theorem dX6_ward_3 : decode cX6_ward 3 = .ok (.invokestatic 48, 3) := by decide +kernel
theorem dX6_ward_6 : decode cX6_ward 6 = .ok (.ifCond .ne 5, 3) := by decide +kernel
theorem dX6_ward_9 : decode cX6_ward 9 = .ok (.iconst (-1), 1) := by decide +kernel
theorem dX6_ward_10 : decode cX6_ward 10 = .ok (.ireturn, 1) := by decide +kernel
theorem dX6_ward_11 : decode cX6_ward 11 = .ok (.aload_n 0, 1) := by decide +kernel
theorem dX6_ward_12 : decode cX6_ward 12 = .ok (.invokevirtual 185, 3) := by decide +kernel
theorem dX6_ward_15 : decode cX6_ward 15 = .ok (.aload_n 0, 1) := by decide +kernel
theorem dX6_ward_16 : decode cX6_ward 16 = .ok (.invokevirtual 188, 3) := by decide +kernel
theorem dX6_ward_19 : decode cX6_ward 19 = .ok (.iconst 0, 1) := by decide +kernel
theorem dX6_ward_20 : decode cX6_ward 20 = .ok (.istore_n 2, 1) := by decide +kernel
theorem dX6_ward_21 : decode cX6_ward 21 = .ok (.iconst 0, 1) := by decide +kernel
theorem dX6_ward_22 : decode cX6_ward 22 = .ok (.istore_n 3, 1) := by decide +kernel
theorem dX6_ward_23 : decode cX6_ward 23 = .ok (.iconst 0, 1) := by decide +kernel
theorem dX6_ward_24 : decode cX6_ward 24 = .ok (.istore 4, 2) := by decide +kernel
theorem dX6_ward_26 : decode cX6_ward 26 = .ok (.iload 4, 2) := by decide +kernel
theorem dX6_ward_28 : decode cX6_ward 28 = .ok (.aload_n 0, 1) := by decide +kernel
theorem dX6_ward_29 : decode cX6_ward 29 = .ok (.getfield 9, 3) := by decide +kernel
theorem dX6_ward_32 : decode cX6_ward 32 = .ok (.iconst 0, 1) := by decide +kernel
theorem dX6_ward_33 : decode cX6_ward 33 = .ok (.iaload, 1) := by decide +kernel
theorem dX6_ward_34 : decode cX6_ward 34 = .ok (.if_icmp .ge 101, 3) := by decide +kernel
theorem dX6_ward_37 : decode cX6_ward 37 = .ok (.aload_n 0, 1) := by decide +kernel
theorem dX6_ward_38 : decode cX6_ward 38 = .ok (.getfield 34, 3) := by decide +kernel
theorem dX6_ward_41 : decode cX6_ward 41 = .ok (.iload 4, 2) := by decide +kernel
theorem dX6_ward_43 : decode cX6_ward 43 = .ok (.baload, 1) := by decide +kernel
theorem dX6_ward_44 : decode cX6_ward 44 = .ok (.ifCond .eq 37, 3) := by decide +kernel
theorem dX6_ward_47 : decode cX6_ward 47 = .ok (.aload_n 0, 1) := by decide +kernel
theorem dX6_ward_48 : decode cX6_ward 48 = .ok (.getfield 9, 3) := by decide +kernel
theorem dX6_ward_51 : decode cX6_ward 51 = .ok (.bipush 24, 2) := by decide +kernel
theorem dX6_ward_53 : decode cX6_ward 53 = .ok (.aload_n 0, 1) := by decide +kernel
theorem dX6_ward_54 : decode cX6_ward 54 = .ok (.getfield 31, 3) := by decide +kernel
theorem dX6_ward_57 : decode cX6_ward 57 = .ok (.iload 4, 2) := by decide +kernel
theorem dX6_ward_59 : decode cX6_ward 59 = .ok (.iaload, 1) := by decide +kernel
theorem dX6_ward_60 : decode cX6_ward 60 = .ok (.iadd, 1) := by decide +kernel
theorem dX6_ward_61 : decode cX6_ward 61 = .ok (.iaload, 1) := by decide +kernel
theorem dX6_ward_62 : decode cX6_ward 62 = .ok (.iload_n 1, 1) := by decide +kernel
theorem dX6_ward_63 : decode cX6_ward 63 = .ok (.if_icmp .ne 18, 3) := by decide +kernel
theorem dX6_ward_66 : decode cX6_ward 66 = .ok (.aload_n 0, 1) := by decide +kernel
theorem dX6_ward_67 : decode cX6_ward 67 = .ok (.getfield 28, 3) := by decide +kernel
theorem dX6_ward_70 : decode cX6_ward 70 = .ok (.aload_n 0, 1) := by decide +kernel
theorem dX6_ward_71 : decode cX6_ward 71 = .ok (.getfield 31, 3) := by decide +kernel
theorem dX6_ward_74 : decode cX6_ward 74 = .ok (.iload 4, 2) := by decide +kernel
theorem dX6_ward_76 : decode cX6_ward 76 = .ok (.iaload, 1) := by decide +kernel
theorem dX6_ward_77 : decode cX6_ward 77 = .ok (.iaload, 1) := by decide +kernel
theorem dX6_ward_78 : decode cX6_ward 78 = .ok (.goto 4, 3) := by decide +kernel
theorem dX6_ward_81 : decode cX6_ward 81 = .ok (.iconst 0, 1) := by decide +kernel
theorem dX6_ward_82 : decode cX6_ward 82 = .ok (.istore 5, 2) := by decide +kernel
theorem dX6_ward_84 : decode cX6_ward 84 = .ok (.iload_n 2, 1) := by decide +kernel
theorem dX6_ward_85 : decode cX6_ward 85 = .ok (.aload_n 0, 1) := by decide +kernel
theorem dX6_ward_86 : decode cX6_ward 86 = .ok (.getfield 9, 3) := by decide +kernel
theorem dX6_ward_89 : decode cX6_ward 89 = .ok (.bipush 49, 2) := by decide +kernel
theorem dX6_ward_91 : decode cX6_ward 91 = .ok (.iload 4, 2) := by decide +kernel
theorem dX6_ward_93 : decode cX6_ward 93 = .ok (.iadd, 1) := by decide +kernel
theorem dX6_ward_94 : decode cX6_ward 94 = .ok (.iaload, 1) := by decide +kernel
theorem dX6_ward_95 : decode cX6_ward 95 = .ok (.ifCond .ne 8, 3) := by decide +kernel
theorem dX6_ward_98 : decode cX6_ward 98 = .ok (.iload 5, 2) := by decide +kernel
theorem dX6_ward_100 : decode cX6_ward 100 = .ok (.goto 4, 3) := by decide +kernel
theorem dX6_ward_103 : decode cX6_ward 103 = .ok (.iconst 0, 1) := by decide +kernel
theorem dX6_ward_104 : decode cX6_ward 104 = .ok (.iadd, 1) := by decide +kernel
theorem dX6_ward_105 : decode cX6_ward 105 = .ok (.istore_n 2, 1) := by decide +kernel
theorem dX6_ward_106 : decode cX6_ward 106 = .ok (.iload_n 3, 1) := by decide +kernel
theorem dX6_ward_107 : decode cX6_ward 107 = .ok (.aload_n 0, 1) := by decide +kernel
theorem dX6_ward_108 : decode cX6_ward 108 = .ok (.getfield 9, 3) := by decide +kernel
theorem dX6_ward_111 : decode cX6_ward 111 = .ok (.bipush 49, 2) := by decide +kernel
theorem dX6_ward_113 : decode cX6_ward 113 = .ok (.iload 4, 2) := by decide +kernel
theorem dX6_ward_115 : decode cX6_ward 115 = .ok (.iadd, 1) := by decide +kernel
theorem dX6_ward_116 : decode cX6_ward 116 = .ok (.iaload, 1) := by decide +kernel
theorem dX6_ward_117 : decode cX6_ward 117 = .ok (.iconst 1, 1) := by decide +kernel
theorem dX6_ward_118 : decode cX6_ward 118 = .ok (.if_icmp .ne 8, 3) := by decide +kernel
theorem dX6_ward_121 : decode cX6_ward 121 = .ok (.iload 5, 2) := by decide +kernel
theorem dX6_ward_123 : decode cX6_ward 123 = .ok (.goto 4, 3) := by decide +kernel
theorem dX6_ward_126 : decode cX6_ward 126 = .ok (.iconst 0, 1) := by decide +kernel
theorem dX6_ward_127 : decode cX6_ward 127 = .ok (.iadd, 1) := by decide +kernel
theorem dX6_ward_128 : decode cX6_ward 128 = .ok (.istore_n 3, 1) := by decide +kernel
theorem dX6_ward_129 : decode cX6_ward 129 = .ok (.iinc 4 1, 3) := by decide +kernel
theorem dX6_ward_132 : decode cX6_ward 132 = .ok (.goto (-106), 3) := by decide +kernel
theorem dX6_ward_135 : decode cX6_ward 135 = .ok (.iload_n 2, 1) := by decide +kernel
theorem dX6_ward_136 : decode cX6_ward 136 = .ok (.iload_n 3, 1) := by decide +kernel
theorem dX6_ward_137 : decode cX6_ward 137 = .ok (.invokestatic 182, 3) := by decide +kernel
theorem dX6_ward_140 : decode cX6_ward 140 = .ok (.ireturn, 1) := by decide +kernel
abbrev rm_X6_ward : Room := { frames := 5, cells := 0, slots := 0, locals := 123 }
abbrev jJ_X6_ward (l : Launch) (G : jx_G) (sz : Nat) (out : (Int32 × jx_M)) (pc : Nat) (lv : List (Nat × Value)) (st : List Value) (σ : jx_M) : Prop := jx_J l (mm_env G) (mm_dyn G) (mm_rg G) sz RX6 "ward" cX6_ward 6 (some .int) rm_X6_ward (fun below args s => MQ below (jx_Qi (mm_dyn G) out.2 out.1 (jx_A (mm_rg G) sz)) args s 0 0 (jx_A (mm_rg G) sz)) 0 0 pc lv st σ
def b_X6_ward_127 (k26 : jx_M → Int32 → Int32 → Int32 → Int32 → Option (Int32 × jx_M)) (σ : jx_M) (v1 : Int32) (v2 : Int32) (v4 : Int32) (s0 : Int32) (s1 : Int32) : Option (Int32 × jx_M) :=
  jx_lt ((s1 + s0)) (fun x1 => jx_lt (v4 + (1 : Int32)) (fun x2 => (k26 σ v1 v2 x1 x2)))
set_option maxHeartbeats 4000000 in
set_option maxRecDepth 100000 in
theorem jb_X6_ward_127 (l : Launch) (G : jx_G) (hG : mm_ok G) (sz : Nat) (out : (Int32 × jx_M)) (k26 : jx_M → Int32 → Int32 → Int32 → Int32 → Option (Int32 × jx_M)) (h26 : ∀ (σ : jx_M) (v1 : Int32) (v2 : Int32) (v3 : Int32) (v4 : Int32), k26 σ v1 v2 v3 v4 = some out → jJ_X6_ward l G sz out 26 [(0, .ref (G.2 10)), (1, .int v1), (2, .int v2), (3, .int v3), (4, .int v4)] [] σ) (σ : jx_M) (v1 : Int32) (v2 : Int32) (v4 : Int32) (s0 : Int32) (s1 : Int32) (h : b_X6_ward_127 k26 σ v1 v2 v4 s0 s1 = some out) : jJ_X6_ward l G sz out 127 [(0, .ref (G.2 10)), (1, .int v1), (2, .int v2), (4, .int v4)] [.int s0, .int s1] σ := by
  unfold b_X6_ward_127 at h
  refine jx_iadd (pc := 127) dX6_ward_127 ?_
  obtain ⟨x1, ex1, h⟩ := jx_lt_o h
  refine jx_istore_n (pc := 128) (i := 3) rfl ex1 (by decide) (lv' := [(3, .int x1), (0, .ref (G.2 10)), (1, .int v1), (2, .int v2), (4, .int v4)]) rfl dX6_ward_128 ?_
  obtain ⟨x2, ex2, h⟩ := jx_lt_o h
  refine jx_iinc (pc := 129) (i := 4) (v := v4) rfl ex2 (n := 1) (by decide) (by decide) (lv' := [(4, .int x2), (3, .int x1), (0, .ref (G.2 10)), (1, .int v1), (2, .int v2)]) rfl dX6_ward_129 ?_
  refine jx_goto (pc := 132) (tgt := 26) dX6_ward_132 (by decide) ?_
  exact jx_sub [2, 3, 4, 1, 0] rfl (h26 σ v1 v2 x1 x2 h)
def b_X6_ward_104 (k26 : jx_M → Int32 → Int32 → Int32 → Int32 → Option (Int32 × jx_M)) (σ : jx_M) (v1 : Int32) (v3 : Int32) (v4 : Int32) (v5 : Int32) (s0 : Int32) (s1 : Int32) : Option (Int32 × jx_M) :=
  jx_lt ((s1 + s0)) (fun x1 => jx_gd (jx_in ((49 : Int32) + v4) 920) (if (σ 1 ((49 : Int32) + v4).toNatClampNeg) = (1 : Int32) then (b_X6_ward_127 k26 σ v1 x1 v4 v5 v3) else (b_X6_ward_127 k26 σ v1 x1 v4 (0 : Int32) v3)))
set_option maxHeartbeats 4000000 in
set_option maxRecDepth 100000 in
theorem jb_X6_ward_104 (l : Launch) (G : jx_G) (hG : mm_ok G) (sz : Nat) (out : (Int32 × jx_M)) (k26 : jx_M → Int32 → Int32 → Int32 → Int32 → Option (Int32 × jx_M)) (h26 : ∀ (σ : jx_M) (v1 : Int32) (v2 : Int32) (v3 : Int32) (v4 : Int32), k26 σ v1 v2 v3 v4 = some out → jJ_X6_ward l G sz out 26 [(0, .ref (G.2 10)), (1, .int v1), (2, .int v2), (3, .int v3), (4, .int v4)] [] σ) (σ : jx_M) (v1 : Int32) (v3 : Int32) (v4 : Int32) (v5 : Int32) (s0 : Int32) (s1 : Int32) (h : b_X6_ward_104 k26 σ v1 v3 v4 v5 s0 s1 = some out) : jJ_X6_ward l G sz out 104 [(0, .ref (G.2 10)), (1, .int v1), (3, .int v3), (4, .int v4), (5, .int v5)] [.int s0, .int s1] σ := by
  unfold b_X6_ward_104 at h
  refine jx_iadd (pc := 104) dX6_ward_104 ?_
  obtain ⟨x1, ex1, h⟩ := jx_lt_o h
  refine jx_istore_n (pc := 105) (i := 2) rfl ex1 (by decide) (lv' := [(2, .int x1), (0, .ref (G.2 10)), (1, .int v1), (3, .int v3), (4, .int v4), (5, .int v5)]) rfl dX6_ward_105 ?_
  refine jx_iload_n (pc := 106) (k0 := 3) rfl dX6_ward_106 ?_
  refine jx_aload_n (pc := 107) (k0 := 0) rfl dX6_ward_107 ?_
  refine mm_g_s (pc := 108) fl_X6_9 dX6_ward_108 ?_
  refine jx_bipush (pc := 111) (v := (49 : Int32)) (by decide) dX6_ward_111 ?_
  refine jx_iload (pc := 113) (i := 4) rfl dX6_ward_113 ?_
  refine jx_iadd (pc := 115) dX6_ward_115 ?_
  obtain ⟨g2, h⟩ := jx_gd_o h
  refine mm_l_s (pc := 116) (jx_in_o g2) rfl dX6_ward_116 ?_
  refine jx_iconst (pc := 117) (v := (1 : Int32)) (by decide) dX6_ward_117 ?_
  refine jx_icmp_ne (pc := 118) (tgt := 126) dX6_ward_118 (by decide) (fun c3 => ?_) (fun c3 => ?_)
  · have h := jx_f c3 h
    refine jx_iconst (pc := 126) (v := (0 : Int32)) (by decide) dX6_ward_126 ?_
    exact jx_sub [1, 2, 0, 4] rfl (jb_X6_ward_127 l G hG sz out k26 h26 σ v1 x1 v4 (0 : Int32) v3 h)
  · have h := jx_t c3 h
    refine jx_iload (pc := 121) (i := 5) rfl dX6_ward_121 ?_
    refine jx_goto (pc := 123) (tgt := 127) dX6_ward_123 (by decide) ?_
    exact jx_sub [1, 2, 0, 4] rfl (jb_X6_ward_127 l G hG sz out k26 h26 σ v1 x1 v4 v5 v3 h)
def b_X6_ward_82 (k26 : jx_M → Int32 → Int32 → Int32 → Int32 → Option (Int32 × jx_M)) (σ : jx_M) (v1 : Int32) (v2 : Int32) (v3 : Int32) (v4 : Int32) (s0 : Int32) : Option (Int32 × jx_M) :=
  jx_gd (jx_in ((49 : Int32) + v4) 920) (if (σ 1 ((49 : Int32) + v4).toNatClampNeg) = 0 then (b_X6_ward_104 k26 σ v1 v3 v4 s0 s0 v2) else (b_X6_ward_104 k26 σ v1 v3 v4 s0 (0 : Int32) v2))
set_option maxHeartbeats 4000000 in
set_option maxRecDepth 100000 in
theorem jb_X6_ward_82 (l : Launch) (G : jx_G) (hG : mm_ok G) (sz : Nat) (out : (Int32 × jx_M)) (k26 : jx_M → Int32 → Int32 → Int32 → Int32 → Option (Int32 × jx_M)) (h26 : ∀ (σ : jx_M) (v1 : Int32) (v2 : Int32) (v3 : Int32) (v4 : Int32), k26 σ v1 v2 v3 v4 = some out → jJ_X6_ward l G sz out 26 [(0, .ref (G.2 10)), (1, .int v1), (2, .int v2), (3, .int v3), (4, .int v4)] [] σ) (σ : jx_M) (v1 : Int32) (v2 : Int32) (v3 : Int32) (v4 : Int32) (s0 : Int32) (h : b_X6_ward_82 k26 σ v1 v2 v3 v4 s0 = some out) : jJ_X6_ward l G sz out 82 [(0, .ref (G.2 10)), (1, .int v1), (2, .int v2), (3, .int v3), (4, .int v4)] [.int s0] σ := by
  unfold b_X6_ward_82 at h
  refine jx_istore (pc := 82) (i := 5) rfl (by decide) (lv' := [(5, .int s0), (0, .ref (G.2 10)), (1, .int v1), (2, .int v2), (3, .int v3), (4, .int v4)]) rfl dX6_ward_82 ?_
  refine jx_iload_n (pc := 84) (k0 := 2) rfl dX6_ward_84 ?_
  refine jx_aload_n (pc := 85) (k0 := 0) rfl dX6_ward_85 ?_
  refine mm_g_s (pc := 86) fl_X6_9 dX6_ward_86 ?_
  refine jx_bipush (pc := 89) (v := (49 : Int32)) (by decide) dX6_ward_89 ?_
  refine jx_iload (pc := 91) (i := 4) rfl dX6_ward_91 ?_
  refine jx_iadd (pc := 93) dX6_ward_93 ?_
  obtain ⟨g1, h⟩ := jx_gd_o h
  refine mm_l_s (pc := 94) (jx_in_o g1) rfl dX6_ward_94 ?_
  refine jx_if_ne (pc := 95) (tgt := 103) dX6_ward_95 (by decide) (fun c2 => ?_) (fun c2 => ?_)
  · have h := jx_f c2 h
    refine jx_iconst (pc := 103) (v := (0 : Int32)) (by decide) dX6_ward_103 ?_
    exact jx_sub [1, 2, 4, 5, 0] rfl (jb_X6_ward_104 l G hG sz out k26 h26 σ v1 v3 v4 s0 (0 : Int32) v2 h)
  · have h := jx_t c2 h
    refine jx_iload (pc := 98) (i := 5) rfl dX6_ward_98 ?_
    refine jx_goto (pc := 100) (tgt := 104) dX6_ward_100 (by decide) ?_
    exact jx_sub [1, 2, 4, 5, 0] rfl (jb_X6_ward_104 l G hG sz out k26 h26 σ v1 v3 v4 s0 s0 v2 h)
def b_X6_ward_81 (k26 : jx_M → Int32 → Int32 → Int32 → Int32 → Option (Int32 × jx_M)) (σ : jx_M) (v1 : Int32) (v2 : Int32) (v3 : Int32) (v4 : Int32) : Option (Int32 × jx_M) :=
  (b_X6_ward_82 k26 σ v1 v2 v3 v4 (0 : Int32))
set_option maxHeartbeats 4000000 in
set_option maxRecDepth 100000 in
theorem jb_X6_ward_81 (l : Launch) (G : jx_G) (hG : mm_ok G) (sz : Nat) (out : (Int32 × jx_M)) (k26 : jx_M → Int32 → Int32 → Int32 → Int32 → Option (Int32 × jx_M)) (h26 : ∀ (σ : jx_M) (v1 : Int32) (v2 : Int32) (v3 : Int32) (v4 : Int32), k26 σ v1 v2 v3 v4 = some out → jJ_X6_ward l G sz out 26 [(0, .ref (G.2 10)), (1, .int v1), (2, .int v2), (3, .int v3), (4, .int v4)] [] σ) (σ : jx_M) (v1 : Int32) (v2 : Int32) (v3 : Int32) (v4 : Int32) (h : b_X6_ward_81 k26 σ v1 v2 v3 v4 = some out) : jJ_X6_ward l G sz out 81 [(0, .ref (G.2 10)), (1, .int v1), (2, .int v2), (3, .int v3), (4, .int v4)] [] σ := by
  unfold b_X6_ward_81 at h
  refine jx_iconst (pc := 81) (v := (0 : Int32)) (by decide) dX6_ward_81 ?_
  exact jx_sub [0, 1, 2, 3, 4] rfl (jb_X6_ward_82 l G hG sz out k26 h26 σ v1 v2 v3 v4 (0 : Int32) h)
def g_X6_ward_26 (k26 : jx_M → Int32 → Int32 → Int32 → Int32 → Option (Int32 × jx_M)) (σ : jx_M) (v1 : Int32) (v2 : Int32) (v3 : Int32) (v4 : Int32) : Option (Int32 × jx_M) :=
  if (σ 1 0) ≤ v4 then jx_bd (f_X6_greater v2 v3) (fun q2 => some (q2, σ)) else jx_gd (jx_in v4 6) (if (σ 8 v4.toNatClampNeg) = 0 then (b_X6_ward_81 k26 σ v1 v2 v3 v4) else jx_gd (jx_in v4 6) (jx_gd (jx_in ((24 : Int32) + (σ 7 v4.toNatClampNeg)) 920) (if (σ 1 ((24 : Int32) + (σ 7 v4.toNatClampNeg)).toNatClampNeg) = v1 then jx_gd (jx_in v4 6) (jx_gd (jx_in (σ 7 v4.toNatClampNeg) 7) ((b_X6_ward_82 k26 σ v1 v2 v3 v4 (σ 6 (σ 7 v4.toNatClampNeg).toNatClampNeg)))) else (b_X6_ward_81 k26 σ v1 v2 v3 v4))))
set_option maxHeartbeats 4000000 in
set_option maxRecDepth 100000 in
theorem jg_X6_ward_26 (l : Launch) (G : jx_G) (hG : mm_ok G) (sz : Nat) (out : (Int32 × jx_M)) (k26 : jx_M → Int32 → Int32 → Int32 → Int32 → Option (Int32 × jx_M)) (h26 : ∀ (σ : jx_M) (v1 : Int32) (v2 : Int32) (v3 : Int32) (v4 : Int32), k26 σ v1 v2 v3 v4 = some out → jJ_X6_ward l G sz out 26 [(0, .ref (G.2 10)), (1, .int v1), (2, .int v2), (3, .int v3), (4, .int v4)] [] σ) (σ : jx_M) (v1 : Int32) (v2 : Int32) (v3 : Int32) (v4 : Int32) (h : g_X6_ward_26 k26 σ v1 v2 v3 v4 = some out) : jJ_X6_ward l G sz out 26 [(0, .ref (G.2 10)), (1, .int v1), (2, .int v2), (3, .int v3), (4, .int v4)] [] σ := by
  unfold g_X6_ward_26 at h
  refine jx_iload (pc := 26) (i := 4) rfl dX6_ward_26 ?_
  refine jx_aload_n (pc := 28) (k0 := 0) rfl dX6_ward_28 ?_
  refine mm_g_s (pc := 29) fl_X6_9 dX6_ward_29 ?_
  refine jx_iconst (pc := 32) (v := (0 : Int32)) (by decide) dX6_ward_32 ?_
  refine mm_l_s (pc := 33) (j := 0) (jx_in_o (by decide)) (by decide) dX6_ward_33 ?_
  refine jx_icmp_ge (pc := 34) (tgt := 135) dX6_ward_34 (by decide) (fun c1 => ?_) (fun c1 => ?_)
  · have h := jx_t c1 h
    refine jx_iload_n (pc := 135) (k0 := 2) rfl dX6_ward_135 ?_
    refine jx_iload_n (pc := 136) (k0 := 3) rfl dX6_ward_136 ?_
    obtain ⟨q2, eq2, h⟩ := jx_bd_o h
    refine jx_callSi (pc := 137) [.int v2, .int v3] (fun sz' => k_X6_greater l G hG sz' σ v2 v3 q2 eq2) ks_X6_182 mm_jok rfl rfl (Nat.le_of_ble_eq_true rfl) ⟨⟨rfl, rfl⟩, ⟨Nat.le_of_ble_eq_true rfl, Nat.le_of_ble_eq_true rfl⟩, Nat.zero_le _, Nat.zero_le _⟩ dX6_ward_137 ?_
    have h := Option.some.inj h
    subst h
    exact jx_iret (pc := 140) dX6_ward_140
  · have h := jx_f c1 h
    refine jx_aload_n (pc := 37) (k0 := 0) rfl dX6_ward_37 ?_
    refine mm_g_counts (pc := 38) fl_X6_34 dX6_ward_38 ?_
    refine jx_iload (pc := 41) (i := 4) rfl dX6_ward_41 ?_
    obtain ⟨g3, h⟩ := jx_gd_o h
    refine mm_l_counts (pc := 43) (jx_in_o g3) rfl dX6_ward_43 ?_
    refine jx_if_eq (pc := 44) (tgt := 81) dX6_ward_44 (by decide) (fun c4 => ?_) (fun c4 => ?_)
    · have h := jx_t c4 h
      exact jx_sub [0, 1, 2, 3, 4] rfl (jb_X6_ward_81 l G hG sz out k26 h26 σ v1 v2 v3 v4 h)
    · have h := jx_f c4 h
      refine jx_aload_n (pc := 47) (k0 := 0) rfl dX6_ward_47 ?_
      refine mm_g_s (pc := 48) fl_X6_9 dX6_ward_48 ?_
      refine jx_bipush (pc := 51) (v := (24 : Int32)) (by decide) dX6_ward_51 ?_
      refine jx_aload_n (pc := 53) (k0 := 0) rfl dX6_ward_53 ?_
      refine mm_g_lying (pc := 54) fl_X6_31 dX6_ward_54 ?_
      refine jx_iload (pc := 57) (i := 4) rfl dX6_ward_57 ?_
      obtain ⟨g5, h⟩ := jx_gd_o h
      refine mm_l_lying (pc := 59) (jx_in_o g5) rfl dX6_ward_59 ?_
      refine jx_iadd (pc := 60) dX6_ward_60 ?_
      obtain ⟨g6, h⟩ := jx_gd_o h
      refine mm_l_s (pc := 61) (jx_in_o g6) rfl dX6_ward_61 ?_
      refine jx_iload_n (pc := 62) (k0 := 1) rfl dX6_ward_62 ?_
      refine jx_icmp_ne (pc := 63) (tgt := 81) dX6_ward_63 (by decide) (fun c7 => ?_) (fun c7 => ?_)
      · have h := jx_f c7 h
        exact jx_sub [0, 1, 2, 3, 4] rfl (jb_X6_ward_81 l G hG sz out k26 h26 σ v1 v2 v3 v4 h)
      · have h := jx_t c7 h
        refine jx_aload_n (pc := 66) (k0 := 0) rfl dX6_ward_66 ?_
        refine mm_g_weights (pc := 67) fl_X6_28 dX6_ward_67 ?_
        refine jx_aload_n (pc := 70) (k0 := 0) rfl dX6_ward_70 ?_
        refine mm_g_lying (pc := 71) fl_X6_31 dX6_ward_71 ?_
        refine jx_iload (pc := 74) (i := 4) rfl dX6_ward_74 ?_
        obtain ⟨g8, h⟩ := jx_gd_o h
        refine mm_l_lying (pc := 76) (jx_in_o g8) rfl dX6_ward_76 ?_
        obtain ⟨g9, h⟩ := jx_gd_o h
        refine mm_l_weights (pc := 77) (jx_in_o g9) rfl dX6_ward_77 ?_
        refine jx_goto (pc := 78) (tgt := 82) dX6_ward_78 (by decide) ?_
        exact jx_sub [0, 1, 2, 3, 4] rfl (jb_X6_ward_82 l G hG sz out k26 h26 σ v1 v2 v3 v4 (σ 6 (σ 7 v4.toNatClampNeg).toNatClampNeg) h)
def b_X6_ward_26  : Nat → jx_M → Int32 → Int32 → Int32 → Int32 → Option (Int32 × jx_M)
  | 0, _, _, _, _, _ => none
  | n + 1, σ, v1, v2, v3, v4 => g_X6_ward_26 (b_X6_ward_26 n) σ v1 v2 v3 v4
theorem jb_X6_ward_26 (l : Launch) (G : jx_G) (hG : mm_ok G) (sz : Nat) (out : (Int32 × jx_M))  : ∀ (n : Nat) (σ : jx_M) (v1 : Int32) (v2 : Int32) (v3 : Int32) (v4 : Int32), b_X6_ward_26 n σ v1 v2 v3 v4 = some out → jJ_X6_ward l G sz out 26 [(0, .ref (G.2 10)), (1, .int v1), (2, .int v2), (3, .int v3), (4, .int v4)] [] σ := by
  intro n
  induction n with
  | zero =>
    intro σ v1 v2 v3 v4 h
    cases h
  | succ n ih =>
    intro σ v1 v2 v3 v4 h
    exact jg_X6_ward_26 l G hG sz out (b_X6_ward_26 n) ih σ v1 v2 v3 v4 h
def f_X6_ward (σ : jx_M) (a1 : Int32) : Option (Int32 × jx_M) :=
  jx_bd (f_X6_in a1 (0 : Int32) (2 : Int32)) (fun q1 => if q1 = 0 then some ((-1 : Int32), σ) else jx_bd (f_X6_looksForNight σ) (fun q3 => jx_bd (f_X6_laysAll q3) (fun q4 => (b_X6_ward_26 jx_fuel q4 a1 (0 : Int32) (0 : Int32) (0 : Int32)))))
set_option maxHeartbeats 4000000 in
set_option maxRecDepth 100000 in
theorem k_X6_ward (l : Launch) (G : jx_G) (hG : mm_ok G) (sz : Nat) (σ : jx_M) (a1 : Int32) (out : (Int32 × jx_M)) (h : f_X6_ward σ a1 = some out) : Met l yX6_ward (Cond.code yX6_ward cX6_ward 6 (some .int) :: jx_ws) rm_X6_ward (jx_Pc (mm_env G) (mm_dyn G) (mm_rg G) sz σ [.ref (G.2 10), .int a1]) (jx_Qi (mm_dyn G) out.2 out.1 (jx_A (mm_rg G) sz)) 0 0 (jx_A (mm_rg G) sz) := by
  unfold f_X6_ward at h
  refine jx_met (by decide) (Nat.le_of_ble_eq_true rfl) ?_
  refine jx_sub (lv' := [(0, .ref (G.2 10)), (1, .int a1)]) [0, 1] rfl ?_
  refine jx_iload_n (pc := 0) (k0 := 1) rfl dX6_ward_0 ?_
  refine jx_iconst (pc := 1) (v := (0 : Int32)) (by decide) dX6_ward_1 ?_
  refine jx_iconst (pc := 2) (v := (2 : Int32)) (by decide) dX6_ward_2 ?_
  obtain ⟨q1, eq1, h⟩ := jx_bd_o h
  refine jx_callSi (pc := 3) [.int a1, .int (0 : Int32), .int (2 : Int32)] (fun sz' => k_X6_in l G hG sz' σ a1 (0 : Int32) (2 : Int32) q1 eq1) ks_X6_48 mm_jok rfl rfl (Nat.le_of_ble_eq_true rfl) ⟨⟨rfl, rfl⟩, ⟨Nat.le_of_ble_eq_true rfl, Nat.le_of_ble_eq_true rfl⟩, Nat.zero_le _, Nat.zero_le _⟩ dX6_ward_3 ?_
  refine jx_if_ne (pc := 6) (tgt := 11) dX6_ward_6 (by decide) (fun c2 => ?_) (fun c2 => ?_)
  · have h := jx_f c2 h
    refine jx_aload_n (pc := 11) (k0 := 0) rfl dX6_ward_11 ?_
    obtain ⟨q3, eq3, h⟩ := jx_bd_o h
    refine jx_callVv (pc := 12) [] (fun sz' => k_X6_looksForNight l G hG sz' σ q3 eq3) kv_X6_185 mm_jok mm_rc rfl rfl (Nat.le_of_ble_eq_true rfl) ⟨⟨rfl, rfl⟩, ⟨Nat.le_of_ble_eq_true rfl, Nat.le_of_ble_eq_true rfl⟩, Nat.zero_le _, Nat.zero_le _⟩ dX6_ward_12 ?_
    refine jx_aload_n (pc := 15) (k0 := 0) rfl dX6_ward_15 ?_
    obtain ⟨q4, eq4, h⟩ := jx_bd_o h
    refine jx_callVv (pc := 16) [] (fun sz' => k_X6_laysAll l G hG sz' q3 q4 eq4) kv_X6_188 mm_jok mm_rc rfl rfl (Nat.le_of_ble_eq_true rfl) ⟨⟨rfl, rfl⟩, ⟨Nat.le_of_ble_eq_true rfl, Nat.le_of_ble_eq_true rfl⟩, Nat.zero_le _, Nat.zero_le _⟩ dX6_ward_16 ?_
    refine jx_iconst (pc := 19) (v := (0 : Int32)) (by decide) dX6_ward_19 ?_
    refine jx_istore_n (pc := 20) (i := 2) rfl rfl (by decide) (lv' := [(2, .int (0 : Int32)), (0, .ref (G.2 10)), (1, .int a1)]) rfl dX6_ward_20 ?_
    refine jx_iconst (pc := 21) (v := (0 : Int32)) (by decide) dX6_ward_21 ?_
    refine jx_istore_n (pc := 22) (i := 3) rfl rfl (by decide) (lv' := [(3, .int (0 : Int32)), (2, .int (0 : Int32)), (0, .ref (G.2 10)), (1, .int a1)]) rfl dX6_ward_22 ?_
    refine jx_iconst (pc := 23) (v := (0 : Int32)) (by decide) dX6_ward_23 ?_
    refine jx_istore (pc := 24) (i := 4) rfl (by decide) (lv' := [(4, .int (0 : Int32)), (3, .int (0 : Int32)), (2, .int (0 : Int32)), (0, .ref (G.2 10)), (1, .int a1)]) rfl dX6_ward_24 ?_
    exact jx_sub [3, 4, 2, 1, 0] rfl (jb_X6_ward_26 l G hG sz out jx_fuel q4 a1 (0 : Int32) (0 : Int32) (0 : Int32) h)
  · have h := jx_t c2 h
    refine jx_iconst (pc := 9) (v := (-1 : Int32)) (by decide) dX6_ward_9 ?_
    have h := Option.some.inj h
    subst h
    exact jx_iret (pc := 10) dX6_ward_10
theorem dX6_turns_0 : decode cX6_turns 0 = .ok (.iload_n 1, 1) := by decide +kernel
theorem dX6_turns_1 : decode cX6_turns 1 = .ok (.iconst 0, 1) := by decide +kernel
theorem dX6_turns_2 : decode cX6_turns 2 = .ok (.iconst 1, 1) := by decide +kernel
theorem dX6_turns_3 : decode cX6_turns 3 = .ok (.invokestatic 48, 3) := by decide +kernel
theorem dX6_turns_6 : decode cX6_turns 6 = .ok (.ifCond .ne 5, 3) := by decide +kernel
theorem dX6_turns_9 : decode cX6_turns 9 = .ok (.iconst (-1), 1) := by decide +kernel
theorem dX6_turns_10 : decode cX6_turns 10 = .ok (.ireturn, 1) := by decide +kernel
theorem dX6_turns_11 : decode cX6_turns 11 = .ok (.aload_n 0, 1) := by decide +kernel
theorem dX6_turns_12 : decode cX6_turns 12 = .ok (.invokevirtual 185, 3) := by decide +kernel
theorem dX6_turns_15 : decode cX6_turns 15 = .ok (.aload_n 0, 1) := by decide +kernel
theorem dX6_turns_16 : decode cX6_turns 16 = .ok (.invokevirtual 188, 3) := by decide +kernel
theorem dX6_turns_19 : decode cX6_turns 19 = .ok (.aload_n 0, 1) := by decide +kernel
theorem dX6_turns_20 : decode cX6_turns 20 = .ok (.invokevirtual 191, 3) := by decide +kernel
theorem dX6_turns_23 : decode cX6_turns 23 = .ok (.istore_n 2, 1) := by decide +kernel
theorem dX6_turns_24 : decode cX6_turns 24 = .ok (.bipush (-5), 2) := by decide +kernel
theorem dX6_turns_26 : decode cX6_turns 26 = .ok (.istore_n 3, 1) := by decide +kernel
theorem dX6_turns_27 : decode cX6_turns 27 = .ok (.bipush 99, 2) := by decide +kernel
theorem dX6_turns_29 : decode cX6_turns 29 = .ok (.istore 4, 2) := by decide +kernel
theorem dX6_turns_31 : decode cX6_turns 31 = .ok (.iconst 0, 1) := by decide +kernel
theorem dX6_turns_32 : decode cX6_turns 32 = .ok (.istore 5, 2) := by decide +kernel
theorem dX6_turns_34 : decode cX6_turns 34 = .ok (.iload 5, 2) := by decide +kernel
theorem dX6_turns_36 : decode cX6_turns 36 = .ok (.iconst 1, 1) := by decide +kernel
theorem dX6_turns_37 : decode cX6_turns 37 = .ok (.aload_n 0, 1) := by decide +kernel
theorem dX6_turns_38 : decode cX6_turns 38 = .ok (.getfield 9, 3) := by decide +kernel
theorem dX6_turns_41 : decode cX6_turns 41 = .ok (.iconst 0, 1) := by decide +kernel
theorem dX6_turns_42 : decode cX6_turns 42 = .ok (.iaload, 1) := by decide +kernel
theorem dX6_turns_43 : decode cX6_turns 43 = .ok (.ishl, 1) := by decide +kernel
theorem dX6_turns_44 : decode cX6_turns 44 = .ok (.if_icmp .ge 76, 3) := by decide +kernel
theorem dX6_turns_47 : decode cX6_turns 47 = .ok (.aload_n 0, 1) := by decide +kernel
theorem dX6_turns_48 : decode cX6_turns 48 = .ok (.iload 5, 2) := by decide +kernel
theorem dX6_turns_50 : decode cX6_turns 50 = .ok (.invokevirtual 200, 3) := by decide +kernel
theorem dX6_turns_53 : decode cX6_turns 53 = .ok (.istore 6, 2) := by decide +kernel
theorem dX6_turns_55 : decode cX6_turns 55 = .ok (.iload 6, 2) := by decide +kernel
theorem dX6_turns_57 : decode cX6_turns 57 = .ok (.bipush (-5), 2) := by decide +kernel
theorem dX6_turns_59 : decode cX6_turns 59 = .ok (.if_icmp .eq 23, 3) := by decide +kernel
theorem dX6_turns_62 : decode cX6_turns 62 = .ok (.iload 6, 2) := by decide +kernel
theorem dX6_turns_64 : decode cX6_turns 64 = .ok (.iload_n 2, 1) := by decide +kernel
theorem dX6_turns_65 : decode cX6_turns 65 = .ok (.if_icmp .eq 17, 3) := by decide +kernel
theorem dX6_turns_68 : decode cX6_turns 68 = .ok (.iload 5, 2) := by decide +kernel
theorem dX6_turns_70 : decode cX6_turns 70 = .ok (.invokestatic 203, 3) := by decide +kernel
theorem dX6_turns_73 : decode cX6_turns 73 = .ok (.iload 4, 2) := by decide +kernel
theorem dX6_turns_75 : decode cX6_turns 75 = .ok (.if_icmp .ge 7, 3) := by decide +kernel
theorem dX6_turns_78 : decode cX6_turns 78 = .ok (.iconst 1, 1) := by decide +kernel
theorem dX6_turns_79 : decode cX6_turns 79 = .ok (.goto 4, 3) := by decide +kernel
theorem dX6_turns_82 : decode cX6_turns 82 = .ok (.iconst 0, 1) := by decide +kernel
theorem dX6_turns_83 : decode cX6_turns 83 = .ok (.istore 7, 2) := by decide +kernel
theorem dX6_turns_85 : decode cX6_turns 85 = .ok (.iload 7, 2) := by decide +kernel
theorem dX6_turns_87 : decode cX6_turns 87 = .ok (.ifCond .eq 8, 3) := by decide +kernel
theorem dX6_turns_90 : decode cX6_turns 90 = .ok (.iload 5, 2) := by decide +kernel
theorem dX6_turns_92 : decode cX6_turns 92 = .ok (.goto 4, 3) := by decide +kernel
theorem dX6_turns_95 : decode cX6_turns 95 = .ok (.iload_n 3, 1) := by decide +kernel
theorem dX6_turns_96 : decode cX6_turns 96 = .ok (.istore_n 3, 1) := by decide +kernel
theorem dX6_turns_97 : decode cX6_turns 97 = .ok (.iload 7, 2) := by decide +kernel
theorem dX6_turns_99 : decode cX6_turns 99 = .ok (.ifCond .eq 11, 3) := by decide +kernel
theorem dX6_turns_102 : decode cX6_turns 102 = .ok (.iload 5, 2) := by decide +kernel
theorem dX6_turns_104 : decode cX6_turns 104 = .ok (.invokestatic 203, 3) := by decide +kernel
theorem dX6_turns_107 : decode cX6_turns 107 = .ok (.goto 5, 3) := by decide +kernel
theorem dX6_turns_110 : decode cX6_turns 110 = .ok (.iload 4, 2) := by decide +kernel
theorem dX6_turns_112 : decode cX6_turns 112 = .ok (.istore 4, 2) := by decide +kernel
theorem dX6_turns_114 : decode cX6_turns 114 = .ok (.iinc 5 1, 3) := by decide +kernel
theorem dX6_turns_117 : decode cX6_turns 117 = .ok (.goto (-83), 3) := by decide +kernel
theorem dX6_turns_120 : decode cX6_turns 120 = .ok (.iload_n 3, 1) := by decide +kernel
theorem dX6_turns_121 : decode cX6_turns 121 = .ok (.bipush (-5), 2) := by decide +kernel
theorem dX6_turns_123 : decode cX6_turns 123 = .ok (.if_icmp .ne 8, 3) := by decide +kernel
theorem dX6_turns_126 : decode cX6_turns 126 = .ok (.bipush (-5), 2) := by decide +kernel
theorem dX6_turns_128 : decode cX6_turns 128 = .ok (.goto 13, 3) := by decide +kernel
theorem dX6_turns_131 : decode cX6_turns 131 = .ok (.iload_n 1, 1) := by decide +kernel
theorem dX6_turns_132 : decode cX6_turns 132 = .ok (.ifCond .ne 8, 3) := by decide +kernel
theorem dX6_turns_135 : decode cX6_turns 135 = .ok (.iload 4, 2) := by decide +kernel
theorem dX6_turns_137 : decode cX6_turns 137 = .ok (.goto 4, 3) := by decide +kernel
theorem dX6_turns_140 : decode cX6_turns 140 = .ok (.iload_n 3, 1) := by decide +kernel
theorem dX6_turns_141 : decode cX6_turns 141 = .ok (.ireturn, 1) := by decide +kernel
abbrev rm_X6_turns : Room := { frames := 5, cells := 0, slots := 0, locals := 123 }
abbrev jJ_X6_turns (l : Launch) (G : jx_G) (sz : Nat) (out : (Int32 × jx_M)) (pc : Nat) (lv : List (Nat × Value)) (st : List Value) (σ : jx_M) : Prop := jx_J l (mm_env G) (mm_dyn G) (mm_rg G) sz RX6 "turns" cX6_turns 8 (some .int) rm_X6_turns (fun below args s => MQ below (jx_Qi (mm_dyn G) out.2 out.1 (jx_A (mm_rg G) sz)) args s 0 0 (jx_A (mm_rg G) sz)) 0 0 pc lv st σ
def b_X6_turns_112 (k34 : jx_M → Int32 → Int32 → Int32 → Int32 → Int32 → Option (Int32 × jx_M)) (σ : jx_M) (v1 : Int32) (v2 : Int32) (v3 : Int32) (v5 : Int32) (s0 : Int32) : Option (Int32 × jx_M) :=
  jx_lt (v5 + (1 : Int32)) (fun x1 => (k34 σ v1 v2 v3 s0 x1))
set_option maxHeartbeats 4000000 in
set_option maxRecDepth 100000 in
theorem jb_X6_turns_112 (l : Launch) (G : jx_G) (hG : mm_ok G) (sz : Nat) (out : (Int32 × jx_M)) (k34 : jx_M → Int32 → Int32 → Int32 → Int32 → Int32 → Option (Int32 × jx_M)) (h34 : ∀ (σ : jx_M) (v1 : Int32) (v2 : Int32) (v3 : Int32) (v4 : Int32) (v5 : Int32), k34 σ v1 v2 v3 v4 v5 = some out → jJ_X6_turns l G sz out 34 [(0, .ref (G.2 10)), (1, .int v1), (2, .int v2), (3, .int v3), (4, .int v4), (5, .int v5)] [] σ) (σ : jx_M) (v1 : Int32) (v2 : Int32) (v3 : Int32) (v5 : Int32) (s0 : Int32) (h : b_X6_turns_112 k34 σ v1 v2 v3 v5 s0 = some out) : jJ_X6_turns l G sz out 112 [(0, .ref (G.2 10)), (1, .int v1), (2, .int v2), (3, .int v3), (5, .int v5)] [.int s0] σ := by
  unfold b_X6_turns_112 at h
  refine jx_istore (pc := 112) (i := 4) rfl (by decide) (lv' := [(4, .int s0), (0, .ref (G.2 10)), (1, .int v1), (2, .int v2), (3, .int v3), (5, .int v5)]) rfl dX6_turns_112 ?_
  obtain ⟨x1, ex1, h⟩ := jx_lt_o h
  refine jx_iinc (pc := 114) (i := 5) (v := v5) rfl ex1 (n := 1) (by decide) (by decide) (lv' := [(5, .int x1), (4, .int s0), (0, .ref (G.2 10)), (1, .int v1), (2, .int v2), (3, .int v3)]) rfl dX6_turns_114 ?_
  refine jx_goto (pc := 117) (tgt := 34) dX6_turns_117 (by decide) ?_
  exact jx_sub [2, 3, 4, 5, 1, 0] rfl (h34 σ v1 v2 v3 s0 x1 h)
def b_X6_turns_96 (k34 : jx_M → Int32 → Int32 → Int32 → Int32 → Int32 → Option (Int32 × jx_M)) (σ : jx_M) (v1 : Int32) (v2 : Int32) (v4 : Int32) (v5 : Int32) (v7 : Int32) (s0 : Int32) : Option (Int32 × jx_M) :=
  if v7 = 0 then (b_X6_turns_112 k34 σ v1 v2 s0 v5 v4) else jx_bd (f_X6_count1 v5) (fun q2 => (b_X6_turns_112 k34 σ v1 v2 s0 v5 q2))
set_option maxHeartbeats 4000000 in
set_option maxRecDepth 100000 in
theorem jb_X6_turns_96 (l : Launch) (G : jx_G) (hG : mm_ok G) (sz : Nat) (out : (Int32 × jx_M)) (k34 : jx_M → Int32 → Int32 → Int32 → Int32 → Int32 → Option (Int32 × jx_M)) (h34 : ∀ (σ : jx_M) (v1 : Int32) (v2 : Int32) (v3 : Int32) (v4 : Int32) (v5 : Int32), k34 σ v1 v2 v3 v4 v5 = some out → jJ_X6_turns l G sz out 34 [(0, .ref (G.2 10)), (1, .int v1), (2, .int v2), (3, .int v3), (4, .int v4), (5, .int v5)] [] σ) (σ : jx_M) (v1 : Int32) (v2 : Int32) (v4 : Int32) (v5 : Int32) (v7 : Int32) (s0 : Int32) (h : b_X6_turns_96 k34 σ v1 v2 v4 v5 v7 s0 = some out) : jJ_X6_turns l G sz out 96 [(0, .ref (G.2 10)), (1, .int v1), (2, .int v2), (4, .int v4), (5, .int v5), (7, .int v7)] [.int s0] σ := by
  unfold b_X6_turns_96 at h
  refine jx_istore_n (pc := 96) (i := 3) rfl rfl (by decide) (lv' := [(3, .int s0), (0, .ref (G.2 10)), (1, .int v1), (2, .int v2), (4, .int v4), (5, .int v5), (7, .int v7)]) rfl dX6_turns_96 ?_
  refine jx_iload (pc := 97) (i := 7) rfl dX6_turns_97 ?_
  refine jx_if_eq (pc := 99) (tgt := 110) dX6_turns_99 (by decide) (fun c1 => ?_) (fun c1 => ?_)
  · have h := jx_t c1 h
    refine jx_iload (pc := 110) (i := 4) rfl dX6_turns_110 ?_
    exact jx_sub [1, 2, 3, 0, 5] rfl (jb_X6_turns_112 l G hG sz out k34 h34 σ v1 v2 s0 v5 v4 h)
  · have h := jx_f c1 h
    refine jx_iload (pc := 102) (i := 5) rfl dX6_turns_102 ?_
    obtain ⟨q2, eq2, h⟩ := jx_bd_o h
    refine jx_callSi (pc := 104) [.int v5] (fun sz' => k_X6_count1 l G hG sz' σ v5 q2 eq2) ks_X6_203 mm_jok rfl rfl (Nat.le_of_ble_eq_true rfl) ⟨⟨rfl, rfl⟩, ⟨Nat.le_of_ble_eq_true rfl, Nat.le_of_ble_eq_true rfl⟩, Nat.zero_le _, Nat.zero_le _⟩ dX6_turns_104 ?_
    refine jx_goto (pc := 107) (tgt := 112) dX6_turns_107 (by decide) ?_
    exact jx_sub [1, 2, 3, 0, 5] rfl (jb_X6_turns_112 l G hG sz out k34 h34 σ v1 v2 s0 v5 q2 h)
def b_X6_turns_83 (k34 : jx_M → Int32 → Int32 → Int32 → Int32 → Int32 → Option (Int32 × jx_M)) (σ : jx_M) (v1 : Int32) (v2 : Int32) (v3 : Int32) (v4 : Int32) (v5 : Int32) (s0 : Int32) : Option (Int32 × jx_M) :=
  if s0 = 0 then (b_X6_turns_96 k34 σ v1 v2 v4 v5 s0 v3) else (b_X6_turns_96 k34 σ v1 v2 v4 v5 s0 v5)
set_option maxHeartbeats 4000000 in
set_option maxRecDepth 100000 in
theorem jb_X6_turns_83 (l : Launch) (G : jx_G) (hG : mm_ok G) (sz : Nat) (out : (Int32 × jx_M)) (k34 : jx_M → Int32 → Int32 → Int32 → Int32 → Int32 → Option (Int32 × jx_M)) (h34 : ∀ (σ : jx_M) (v1 : Int32) (v2 : Int32) (v3 : Int32) (v4 : Int32) (v5 : Int32), k34 σ v1 v2 v3 v4 v5 = some out → jJ_X6_turns l G sz out 34 [(0, .ref (G.2 10)), (1, .int v1), (2, .int v2), (3, .int v3), (4, .int v4), (5, .int v5)] [] σ) (σ : jx_M) (v1 : Int32) (v2 : Int32) (v3 : Int32) (v4 : Int32) (v5 : Int32) (s0 : Int32) (h : b_X6_turns_83 k34 σ v1 v2 v3 v4 v5 s0 = some out) : jJ_X6_turns l G sz out 83 [(0, .ref (G.2 10)), (1, .int v1), (2, .int v2), (3, .int v3), (4, .int v4), (5, .int v5)] [.int s0] σ := by
  unfold b_X6_turns_83 at h
  refine jx_istore (pc := 83) (i := 7) rfl (by decide) (lv' := [(7, .int s0), (0, .ref (G.2 10)), (1, .int v1), (2, .int v2), (3, .int v3), (4, .int v4), (5, .int v5)]) rfl dX6_turns_83 ?_
  refine jx_iload (pc := 85) (i := 7) rfl dX6_turns_85 ?_
  refine jx_if_eq (pc := 87) (tgt := 95) dX6_turns_87 (by decide) (fun c1 => ?_) (fun c1 => ?_)
  · have h := jx_t c1 h
    refine jx_iload_n (pc := 95) (k0 := 3) rfl dX6_turns_95 ?_
    exact jx_sub [1, 2, 3, 5, 6, 0] rfl (jb_X6_turns_96 l G hG sz out k34 h34 σ v1 v2 v4 v5 s0 v3 h)
  · have h := jx_f c1 h
    refine jx_iload (pc := 90) (i := 5) rfl dX6_turns_90 ?_
    refine jx_goto (pc := 92) (tgt := 96) dX6_turns_92 (by decide) ?_
    exact jx_sub [1, 2, 3, 5, 6, 0] rfl (jb_X6_turns_96 l G hG sz out k34 h34 σ v1 v2 v4 v5 s0 v5 h)
def b_X6_turns_82 (k34 : jx_M → Int32 → Int32 → Int32 → Int32 → Int32 → Option (Int32 × jx_M)) (σ : jx_M) (v1 : Int32) (v2 : Int32) (v3 : Int32) (v4 : Int32) (v5 : Int32) : Option (Int32 × jx_M) :=
  (b_X6_turns_83 k34 σ v1 v2 v3 v4 v5 (0 : Int32))
set_option maxHeartbeats 4000000 in
set_option maxRecDepth 100000 in
theorem jb_X6_turns_82 (l : Launch) (G : jx_G) (hG : mm_ok G) (sz : Nat) (out : (Int32 × jx_M)) (k34 : jx_M → Int32 → Int32 → Int32 → Int32 → Int32 → Option (Int32 × jx_M)) (h34 : ∀ (σ : jx_M) (v1 : Int32) (v2 : Int32) (v3 : Int32) (v4 : Int32) (v5 : Int32), k34 σ v1 v2 v3 v4 v5 = some out → jJ_X6_turns l G sz out 34 [(0, .ref (G.2 10)), (1, .int v1), (2, .int v2), (3, .int v3), (4, .int v4), (5, .int v5)] [] σ) (σ : jx_M) (v1 : Int32) (v2 : Int32) (v3 : Int32) (v4 : Int32) (v5 : Int32) (h : b_X6_turns_82 k34 σ v1 v2 v3 v4 v5 = some out) : jJ_X6_turns l G sz out 82 [(0, .ref (G.2 10)), (1, .int v1), (2, .int v2), (3, .int v3), (4, .int v4), (5, .int v5)] [] σ := by
  unfold b_X6_turns_82 at h
  refine jx_iconst (pc := 82) (v := (0 : Int32)) (by decide) dX6_turns_82 ?_
  exact jx_sub [0, 1, 2, 3, 4, 5] rfl (jb_X6_turns_83 l G hG sz out k34 h34 σ v1 v2 v3 v4 v5 (0 : Int32) h)
def g_X6_turns_34 (k34 : jx_M → Int32 → Int32 → Int32 → Int32 → Int32 → Option (Int32 × jx_M)) (σ : jx_M) (v1 : Int32) (v2 : Int32) (v3 : Int32) (v4 : Int32) (v5 : Int32) : Option (Int32 × jx_M) :=
  if ((1 : Int32) <<< ((σ 1 0) &&& 31)) ≤ v5 then if v3 = (-5 : Int32) then some ((-5 : Int32), σ) else if v1 = 0 then some (v4, σ) else some (v3, σ) else jx_bd (f_X6_mayorBy σ v5) (fun q4 => if q4.1 = (-5 : Int32) then (b_X6_turns_82 k34 q4.2 v1 v2 v3 v4 v5) else if q4.1 = v2 then (b_X6_turns_82 k34 q4.2 v1 v2 v3 v4 v5) else jx_bd (f_X6_count1 v5) (fun q7 => if v4 ≤ q7 then (b_X6_turns_82 k34 q4.2 v1 v2 v3 v4 v5) else (b_X6_turns_83 k34 q4.2 v1 v2 v3 v4 v5 (1 : Int32))))
set_option maxHeartbeats 4000000 in
set_option maxRecDepth 100000 in
theorem jg_X6_turns_34 (l : Launch) (G : jx_G) (hG : mm_ok G) (sz : Nat) (out : (Int32 × jx_M)) (k34 : jx_M → Int32 → Int32 → Int32 → Int32 → Int32 → Option (Int32 × jx_M)) (h34 : ∀ (σ : jx_M) (v1 : Int32) (v2 : Int32) (v3 : Int32) (v4 : Int32) (v5 : Int32), k34 σ v1 v2 v3 v4 v5 = some out → jJ_X6_turns l G sz out 34 [(0, .ref (G.2 10)), (1, .int v1), (2, .int v2), (3, .int v3), (4, .int v4), (5, .int v5)] [] σ) (σ : jx_M) (v1 : Int32) (v2 : Int32) (v3 : Int32) (v4 : Int32) (v5 : Int32) (h : g_X6_turns_34 k34 σ v1 v2 v3 v4 v5 = some out) : jJ_X6_turns l G sz out 34 [(0, .ref (G.2 10)), (1, .int v1), (2, .int v2), (3, .int v3), (4, .int v4), (5, .int v5)] [] σ := by
  unfold g_X6_turns_34 at h
  refine jx_iload (pc := 34) (i := 5) rfl dX6_turns_34 ?_
  refine jx_iconst (pc := 36) (v := (1 : Int32)) (by decide) dX6_turns_36 ?_
  refine jx_aload_n (pc := 37) (k0 := 0) rfl dX6_turns_37 ?_
  refine mm_g_s (pc := 38) fl_X6_9 dX6_turns_38 ?_
  refine jx_iconst (pc := 41) (v := (0 : Int32)) (by decide) dX6_turns_41 ?_
  refine mm_l_s (pc := 42) (j := 0) (jx_in_o (by decide)) (by decide) dX6_turns_42 ?_
  refine jx_ishl (pc := 43) dX6_turns_43 ?_
  refine jx_icmp_ge (pc := 44) (tgt := 120) dX6_turns_44 (by decide) (fun c1 => ?_) (fun c1 => ?_)
  · have h := jx_t c1 h
    refine jx_iload_n (pc := 120) (k0 := 3) rfl dX6_turns_120 ?_
    refine jx_bipush (pc := 121) (v := (-5 : Int32)) (by decide) dX6_turns_121 ?_
    refine jx_icmp_ne (pc := 123) (tgt := 131) dX6_turns_123 (by decide) (fun c2 => ?_) (fun c2 => ?_)
    · have h := jx_f c2 h
      refine jx_iload_n (pc := 131) (k0 := 1) rfl dX6_turns_131 ?_
      refine jx_if_ne (pc := 132) (tgt := 140) dX6_turns_132 (by decide) (fun c3 => ?_) (fun c3 => ?_)
      · have h := jx_f c3 h
        refine jx_iload_n (pc := 140) (k0 := 3) rfl dX6_turns_140 ?_
        have h := Option.some.inj h
        subst h
        exact jx_iret (pc := 141) dX6_turns_141
      · have h := jx_t c3 h
        refine jx_iload (pc := 135) (i := 4) rfl dX6_turns_135 ?_
        refine jx_goto (pc := 137) (tgt := 141) dX6_turns_137 (by decide) ?_
        have h := Option.some.inj h
        subst h
        exact jx_iret (pc := 141) dX6_turns_141
    · have h := jx_t c2 h
      refine jx_bipush (pc := 126) (v := (-5 : Int32)) (by decide) dX6_turns_126 ?_
      refine jx_goto (pc := 128) (tgt := 141) dX6_turns_128 (by decide) ?_
      have h := Option.some.inj h
      subst h
      exact jx_iret (pc := 141) dX6_turns_141
  · have h := jx_f c1 h
    refine jx_aload_n (pc := 47) (k0 := 0) rfl dX6_turns_47 ?_
    refine jx_iload (pc := 48) (i := 5) rfl dX6_turns_48 ?_
    obtain ⟨q4, eq4, h⟩ := jx_bd_o h
    refine jx_callVi (pc := 50) [.int v5] (fun sz' => k_X6_mayorBy l G hG sz' σ v5 q4 eq4) kv_X6_200 mm_jok mm_rc rfl rfl (Nat.le_of_ble_eq_true rfl) ⟨⟨rfl, rfl⟩, ⟨Nat.le_of_ble_eq_true rfl, Nat.le_of_ble_eq_true rfl⟩, Nat.zero_le _, Nat.zero_le _⟩ dX6_turns_50 ?_
    refine jx_istore (pc := 53) (i := 6) rfl (by decide) (lv' := [(6, .int q4.1), (0, .ref (G.2 10)), (1, .int v1), (2, .int v2), (3, .int v3), (4, .int v4), (5, .int v5)]) rfl dX6_turns_53 ?_
    refine jx_iload (pc := 55) (i := 6) rfl dX6_turns_55 ?_
    refine jx_bipush (pc := 57) (v := (-5 : Int32)) (by decide) dX6_turns_57 ?_
    refine jx_icmp_eq (pc := 59) (tgt := 82) dX6_turns_59 (by decide) (fun c5 => ?_) (fun c5 => ?_)
    · have h := jx_t c5 h
      exact jx_sub [1, 2, 3, 4, 5, 6] rfl (jb_X6_turns_82 l G hG sz out k34 h34 q4.2 v1 v2 v3 v4 v5 h)
    · have h := jx_f c5 h
      refine jx_iload (pc := 62) (i := 6) rfl dX6_turns_62 ?_
      refine jx_iload_n (pc := 64) (k0 := 2) rfl dX6_turns_64 ?_
      refine jx_icmp_eq (pc := 65) (tgt := 82) dX6_turns_65 (by decide) (fun c6 => ?_) (fun c6 => ?_)
      · have h := jx_t c6 h
        exact jx_sub [1, 2, 3, 4, 5, 6] rfl (jb_X6_turns_82 l G hG sz out k34 h34 q4.2 v1 v2 v3 v4 v5 h)
      · have h := jx_f c6 h
        refine jx_iload (pc := 68) (i := 5) rfl dX6_turns_68 ?_
        obtain ⟨q7, eq7, h⟩ := jx_bd_o h
        refine jx_callSi (pc := 70) [.int v5] (fun sz' => k_X6_count1 l G hG sz' q4.2 v5 q7 eq7) ks_X6_203 mm_jok rfl rfl (Nat.le_of_ble_eq_true rfl) ⟨⟨rfl, rfl⟩, ⟨Nat.le_of_ble_eq_true rfl, Nat.le_of_ble_eq_true rfl⟩, Nat.zero_le _, Nat.zero_le _⟩ dX6_turns_70 ?_
        refine jx_iload (pc := 73) (i := 4) rfl dX6_turns_73 ?_
        refine jx_icmp_ge (pc := 75) (tgt := 82) dX6_turns_75 (by decide) (fun c8 => ?_) (fun c8 => ?_)
        · have h := jx_t c8 h
          exact jx_sub [1, 2, 3, 4, 5, 6] rfl (jb_X6_turns_82 l G hG sz out k34 h34 q4.2 v1 v2 v3 v4 v5 h)
        · have h := jx_f c8 h
          refine jx_iconst (pc := 78) (v := (1 : Int32)) (by decide) dX6_turns_78 ?_
          refine jx_goto (pc := 79) (tgt := 83) dX6_turns_79 (by decide) ?_
          exact jx_sub [1, 2, 3, 4, 5, 6] rfl (jb_X6_turns_83 l G hG sz out k34 h34 q4.2 v1 v2 v3 v4 v5 (1 : Int32) h)
def b_X6_turns_34  : Nat → jx_M → Int32 → Int32 → Int32 → Int32 → Int32 → Option (Int32 × jx_M)
  | 0, _, _, _, _, _, _ => none
  | n + 1, σ, v1, v2, v3, v4, v5 => g_X6_turns_34 (b_X6_turns_34 n) σ v1 v2 v3 v4 v5
theorem jb_X6_turns_34 (l : Launch) (G : jx_G) (hG : mm_ok G) (sz : Nat) (out : (Int32 × jx_M))  : ∀ (n : Nat) (σ : jx_M) (v1 : Int32) (v2 : Int32) (v3 : Int32) (v4 : Int32) (v5 : Int32), b_X6_turns_34 n σ v1 v2 v3 v4 v5 = some out → jJ_X6_turns l G sz out 34 [(0, .ref (G.2 10)), (1, .int v1), (2, .int v2), (3, .int v3), (4, .int v4), (5, .int v5)] [] σ := by
  intro n
  induction n with
  | zero =>
    intro σ v1 v2 v3 v4 v5 h
    cases h
  | succ n ih =>
    intro σ v1 v2 v3 v4 v5 h
    exact jg_X6_turns_34 l G hG sz out (b_X6_turns_34 n) ih σ v1 v2 v3 v4 v5 h
def f_X6_turns (σ : jx_M) (a1 : Int32) : Option (Int32 × jx_M) :=
  jx_bd (f_X6_in a1 (0 : Int32) (1 : Int32)) (fun q1 => if q1 = 0 then some ((-1 : Int32), σ) else jx_bd (f_X6_looksForNight σ) (fun q3 => jx_bd (f_X6_laysAll q3) (fun q4 => jx_bd (f_X6_mayor q4) (fun q5 => (b_X6_turns_34 jx_fuel q4 a1 q5 (-5 : Int32) (99 : Int32) (0 : Int32))))))
set_option maxHeartbeats 4000000 in
set_option maxRecDepth 100000 in
theorem k_X6_turns (l : Launch) (G : jx_G) (hG : mm_ok G) (sz : Nat) (σ : jx_M) (a1 : Int32) (out : (Int32 × jx_M)) (h : f_X6_turns σ a1 = some out) : Met l yX6_turns (Cond.code yX6_turns cX6_turns 8 (some .int) :: jx_ws) rm_X6_turns (jx_Pc (mm_env G) (mm_dyn G) (mm_rg G) sz σ [.ref (G.2 10), .int a1]) (jx_Qi (mm_dyn G) out.2 out.1 (jx_A (mm_rg G) sz)) 0 0 (jx_A (mm_rg G) sz) := by
  unfold f_X6_turns at h
  refine jx_met (by decide) (Nat.le_of_ble_eq_true rfl) ?_
  refine jx_sub (lv' := [(0, .ref (G.2 10)), (1, .int a1)]) [0, 1] rfl ?_
  refine jx_iload_n (pc := 0) (k0 := 1) rfl dX6_turns_0 ?_
  refine jx_iconst (pc := 1) (v := (0 : Int32)) (by decide) dX6_turns_1 ?_
  refine jx_iconst (pc := 2) (v := (1 : Int32)) (by decide) dX6_turns_2 ?_
  obtain ⟨q1, eq1, h⟩ := jx_bd_o h
  refine jx_callSi (pc := 3) [.int a1, .int (0 : Int32), .int (1 : Int32)] (fun sz' => k_X6_in l G hG sz' σ a1 (0 : Int32) (1 : Int32) q1 eq1) ks_X6_48 mm_jok rfl rfl (Nat.le_of_ble_eq_true rfl) ⟨⟨rfl, rfl⟩, ⟨Nat.le_of_ble_eq_true rfl, Nat.le_of_ble_eq_true rfl⟩, Nat.zero_le _, Nat.zero_le _⟩ dX6_turns_3 ?_
  refine jx_if_ne (pc := 6) (tgt := 11) dX6_turns_6 (by decide) (fun c2 => ?_) (fun c2 => ?_)
  · have h := jx_f c2 h
    refine jx_aload_n (pc := 11) (k0 := 0) rfl dX6_turns_11 ?_
    obtain ⟨q3, eq3, h⟩ := jx_bd_o h
    refine jx_callVv (pc := 12) [] (fun sz' => k_X6_looksForNight l G hG sz' σ q3 eq3) kv_X6_185 mm_jok mm_rc rfl rfl (Nat.le_of_ble_eq_true rfl) ⟨⟨rfl, rfl⟩, ⟨Nat.le_of_ble_eq_true rfl, Nat.le_of_ble_eq_true rfl⟩, Nat.zero_le _, Nat.zero_le _⟩ dX6_turns_12 ?_
    refine jx_aload_n (pc := 15) (k0 := 0) rfl dX6_turns_15 ?_
    obtain ⟨q4, eq4, h⟩ := jx_bd_o h
    refine jx_callVv (pc := 16) [] (fun sz' => k_X6_laysAll l G hG sz' q3 q4 eq4) kv_X6_188 mm_jok mm_rc rfl rfl (Nat.le_of_ble_eq_true rfl) ⟨⟨rfl, rfl⟩, ⟨Nat.le_of_ble_eq_true rfl, Nat.le_of_ble_eq_true rfl⟩, Nat.zero_le _, Nat.zero_le _⟩ dX6_turns_16 ?_
    refine jx_aload_n (pc := 19) (k0 := 0) rfl dX6_turns_19 ?_
    obtain ⟨q5, eq5, h⟩ := jx_bd_o h
    refine jx_callVi (pc := 20) [] (fun sz' => k_X6_mayor l G hG sz' q4 q5 eq5) kv_X6_191 mm_jok mm_rc rfl rfl (Nat.le_of_ble_eq_true rfl) ⟨⟨rfl, rfl⟩, ⟨Nat.le_of_ble_eq_true rfl, Nat.le_of_ble_eq_true rfl⟩, Nat.zero_le _, Nat.zero_le _⟩ dX6_turns_20 ?_
    refine jx_istore_n (pc := 23) (i := 2) rfl rfl (by decide) (lv' := [(2, .int q5), (0, .ref (G.2 10)), (1, .int a1)]) rfl dX6_turns_23 ?_
    refine jx_bipush (pc := 24) (v := (-5 : Int32)) (by decide) dX6_turns_24 ?_
    refine jx_istore_n (pc := 26) (i := 3) rfl rfl (by decide) (lv' := [(3, .int (-5 : Int32)), (2, .int q5), (0, .ref (G.2 10)), (1, .int a1)]) rfl dX6_turns_26 ?_
    refine jx_bipush (pc := 27) (v := (99 : Int32)) (by decide) dX6_turns_27 ?_
    refine jx_istore (pc := 29) (i := 4) rfl (by decide) (lv' := [(4, .int (99 : Int32)), (3, .int (-5 : Int32)), (2, .int q5), (0, .ref (G.2 10)), (1, .int a1)]) rfl dX6_turns_29 ?_
    refine jx_iconst (pc := 31) (v := (0 : Int32)) (by decide) dX6_turns_31 ?_
    refine jx_istore (pc := 32) (i := 5) rfl (by decide) (lv' := [(5, .int (0 : Int32)), (4, .int (99 : Int32)), (3, .int (-5 : Int32)), (2, .int q5), (0, .ref (G.2 10)), (1, .int a1)]) rfl dX6_turns_32 ?_
    exact jx_sub [4, 5, 3, 2, 1, 0] rfl (jb_X6_turns_34 l G hG sz out jx_fuel q4 a1 q5 (-5 : Int32) (99 : Int32) (0 : Int32) h)
  · have h := jx_t c2 h
    refine jx_iconst (pc := 9) (v := (-1 : Int32)) (by decide) dX6_turns_9 ?_
    have h := Option.some.inj h
    subst h
    exact jx_iret (pc := 10) dX6_turns_10
theorem dX6_sways_0 : decode cX6_sways 0 = .ok (.aload_n 0, 1) := by decide +kernel
theorem dX6_sways_1 : decode cX6_sways 1 = .ok (.iload_n 1, 1) := by decide +kernel
theorem dX6_sways_2 : decode cX6_sways 2 = .ok (.invokevirtual 163, 3) := by decide +kernel
theorem dX6_sways_5 : decode cX6_sways 5 = .ok (.ifCond .eq 12, 3) := by decide +kernel
theorem dX6_sways_8 : decode cX6_sways 8 = .ok (.iload_n 2, 1) := by decide +kernel
theorem dX6_sways_9 : decode cX6_sways 9 = .ok (.iconst 0, 1) := by decide +kernel
theorem dX6_sways_10 : decode cX6_sways 10 = .ok (.iconst 1, 1) := by decide +kernel
theorem dX6_sways_11 : decode cX6_sways 11 = .ok (.invokestatic 48, 3) := by decide +kernel
theorem dX6_sways_14 : decode cX6_sways 14 = .ok (.ifCond .ne 7, 3) := by decide +kernel
theorem dX6_sways_17 : decode cX6_sways 17 = .ok (.ldc2_w 206, 3) := by decide +kernel
theorem dX6_sways_20 : decode cX6_sways 20 = .ok (.lreturn, 1) := by decide +kernel
theorem dX6_sways_21 : decode cX6_sways 21 = .ok (.aload_n 0, 1) := by decide +kernel
theorem dX6_sways_22 : decode cX6_sways 22 = .ok (.invokevirtual 185, 3) := by decide +kernel
theorem dX6_sways_25 : decode cX6_sways 25 = .ok (.aload_n 0, 1) := by decide +kernel
theorem dX6_sways_26 : decode cX6_sways 26 = .ok (.invokevirtual 188, 3) := by decide +kernel
theorem dX6_sways_29 : decode cX6_sways 29 = .ok (.lconst 0, 1) := by decide +kernel
theorem dX6_sways_30 : decode cX6_sways 30 = .ok (.lstore_n 3, 1) := by decide +kernel
theorem dX6_sways_31 : decode cX6_sways 31 = .ok (.iconst 0, 1) := by decide +kernel
theorem dX6_sways_32 : decode cX6_sways 32 = .ok (.istore 5, 2) := by decide +kernel
theorem dX6_sways_34 : decode cX6_sways 34 = .ok (.iload 5, 2) := by decide +kernel
theorem dX6_sways_36 : decode cX6_sways 36 = .ok (.iconst 1, 1) := by decide +kernel
theorem dX6_sways_37 : decode cX6_sways 37 = .ok (.aload_n 0, 1) := by decide +kernel
theorem dX6_sways_38 : decode cX6_sways 38 = .ok (.getfield 9, 3) := by decide +kernel
theorem dX6_sways_41 : decode cX6_sways 41 = .ok (.iconst 0, 1) := by decide +kernel
theorem dX6_sways_42 : decode cX6_sways 42 = .ok (.iaload, 1) := by decide +kernel
theorem dX6_sways_43 : decode cX6_sways 43 = .ok (.ishl, 1) := by decide +kernel
theorem dX6_sways_44 : decode cX6_sways 44 = .ok (.if_icmp .ge 36, 3) := by decide +kernel
theorem dX6_sways_47 : decode cX6_sways 47 = .ok (.lload_n 3, 1) := by decide +kernel
theorem dX6_sways_48 : decode cX6_sways 48 = .ok (.aload_n 0, 1) := by decide +kernel
theorem dX6_sways_49 : decode cX6_sways 49 = .ok (.iload 5, 2) := by decide +kernel
theorem dX6_sways_51 : decode cX6_sways 51 = .ok (.invokevirtual 200, 3) := by decide +kernel
theorem dX6_sways_54 : decode cX6_sways 54 = .ok (.aload_n 0, 1) := by decide +kernel
theorem dX6_sways_55 : decode cX6_sways 55 = .ok (.iload 5, 2) := by decide +kernel
theorem dX6_sways_57 : decode cX6_sways 57 = .ok (.iconst 1, 1) := by decide +kernel
theorem dX6_sways_58 : decode cX6_sways 58 = .ok (.iload_n 1, 1) := by decide +kernel
theorem dX6_sways_59 : decode cX6_sways 59 = .ok (.ishl, 1) := by decide +kernel
theorem dX6_sways_60 : decode cX6_sways 60 = .ok (.ixor, 1) := by decide +kernel
theorem dX6_sways_61 : decode cX6_sways 61 = .ok (.invokevirtual 200, 3) := by decide +kernel
theorem dX6_sways_64 : decode cX6_sways 64 = .ok (.if_icmp .eq 7, 3) := by decide +kernel
theorem dX6_sways_67 : decode cX6_sways 67 = .ok (.lconst 1, 1) := by decide +kernel
theorem dX6_sways_68 : decode cX6_sways 68 = .ok (.goto 4, 3) := by decide +kernel
theorem dX6_sways_71 : decode cX6_sways 71 = .ok (.lconst 0, 1) := by decide +kernel
theorem dX6_sways_72 : decode cX6_sways 72 = .ok (.ladd, 1) := by decide +kernel
theorem dX6_sways_73 : decode cX6_sways 73 = .ok (.lstore_n 3, 1) := by decide +kernel
theorem dX6_sways_74 : decode cX6_sways 74 = .ok (.iinc 5 1, 3) := by decide +kernel
theorem dX6_sways_77 : decode cX6_sways 77 = .ok (.goto (-43), 3) := by decide +kernel
theorem dX6_sways_80 : decode cX6_sways 80 = .ok (.lload_n 3, 1) := by decide +kernel
theorem dX6_sways_81 : decode cX6_sways 81 = .ok (.lconst 1, 1) := by decide +kernel
theorem dX6_sways_82 : decode cX6_sways 82 = .ok (.aload_n 0, 1) := by decide +kernel
theorem dX6_sways_83 : decode cX6_sways 83 = .ok (.getfield 9, 3) := by decide +kernel
theorem dX6_sways_86 : decode cX6_sways 86 = .ok (.iconst 0, 1) := by decide +kernel
theorem dX6_sways_87 : decode cX6_sways 87 = .ok (.iaload, 1) := by decide +kernel
theorem dX6_sways_88 : decode cX6_sways 88 = .ok (.lshl, 1) := by decide +kernel
theorem dX6_sways_89 : decode cX6_sways 89 = .ok (.iload_n 2, 1) := by decide +kernel
theorem dX6_sways_90 : decode cX6_sways 90 = .ok (.invokestatic 208, 3) := by decide +kernel
theorem dX6_sways_93 : decode cX6_sways 93 = .ok (.lreturn, 1) := by decide +kernel
abbrev rm_X6_sways : Room := { frames := 5, cells := 0, slots := 0, locals := 123 }
abbrev jJ_X6_sways (l : Launch) (G : jx_G) (sz : Nat) (out : (Int64 × jx_M)) (pc : Nat) (lv : List (Nat × Value)) (st : List Value) (σ : jx_M) : Prop := jx_J l (mm_env G) (mm_dyn G) (mm_rg G) sz RX6 "sways" cX6_sways 6 (some .long) rm_X6_sways (fun below args s => MQ below (jx_Ql (mm_dyn G) out.2 out.1 (jx_A (mm_rg G) sz)) args s 0 0 (jx_A (mm_rg G) sz)) 0 0 pc lv st σ
def b_X6_sways_72 (k34 : jx_M → Int32 → Int32 → Int64 → Int32 → Option (Int64 × jx_M)) (σ : jx_M) (v1 : Int32) (v2 : Int32) (v5 : Int32) (s0 : Int64) (s1 : Int64) : Option (Int64 × jx_M) :=
  jx_lt ((s1 + s0)) (fun x1 => jx_lt (v5 + (1 : Int32)) (fun x2 => (k34 σ v1 v2 x1 x2)))
set_option maxHeartbeats 4000000 in
set_option maxRecDepth 100000 in
theorem jb_X6_sways_72 (l : Launch) (G : jx_G) (hG : mm_ok G) (sz : Nat) (out : (Int64 × jx_M)) (k34 : jx_M → Int32 → Int32 → Int64 → Int32 → Option (Int64 × jx_M)) (h34 : ∀ (σ : jx_M) (v1 : Int32) (v2 : Int32) (v3 : Int64) (v5 : Int32), k34 σ v1 v2 v3 v5 = some out → jJ_X6_sways l G sz out 34 [(0, .ref (G.2 10)), (1, .int v1), (2, .int v2), (3, .long v3), (5, .int v5)] [] σ) (σ : jx_M) (v1 : Int32) (v2 : Int32) (v5 : Int32) (s0 : Int64) (s1 : Int64) (h : b_X6_sways_72 k34 σ v1 v2 v5 s0 s1 = some out) : jJ_X6_sways l G sz out 72 [(0, .ref (G.2 10)), (1, .int v1), (2, .int v2), (5, .int v5)] [.long s0, .long s1] σ := by
  unfold b_X6_sways_72 at h
  refine jx_ladd (pc := 72) dX6_sways_72 ?_
  obtain ⟨x1, ex1, h⟩ := jx_lt_o h
  refine jx_lstore_n (pc := 73) (i := 3) rfl ex1 (by decide) (lv' := [(3, .long x1), (0, .ref (G.2 10)), (1, .int v1), (2, .int v2), (5, .int v5)]) rfl dX6_sways_73 ?_
  obtain ⟨x2, ex2, h⟩ := jx_lt_o h
  refine jx_iinc (pc := 74) (i := 5) (v := v5) rfl ex2 (n := 1) (by decide) (by decide) (lv' := [(5, .int x2), (3, .long x1), (0, .ref (G.2 10)), (1, .int v1), (2, .int v2)]) rfl dX6_sways_74 ?_
  refine jx_goto (pc := 77) (tgt := 34) dX6_sways_77 (by decide) ?_
  exact jx_sub [2, 3, 4, 1, 0] rfl (h34 σ v1 v2 x1 x2 h)
def g_X6_sways_34 (k34 : jx_M → Int32 → Int32 → Int64 → Int32 → Option (Int64 × jx_M)) (σ : jx_M) (v1 : Int32) (v2 : Int32) (v3 : Int64) (v5 : Int32) : Option (Int64 × jx_M) :=
  if ((1 : Int32) <<< ((σ 1 0) &&& 31)) ≤ v5 then jx_bd (f_X6_lowest v3 ((1 : Int64) <<< ((σ 1 0).toInt64 &&& 63)) v2) (fun q2 => some (q2, σ)) else jx_bd (f_X6_mayorBy σ v5) (fun q3 => jx_bd (f_X6_mayorBy q3.2 (v5 ^^^ ((1 : Int32) <<< (v1 &&& 31)))) (fun q4 => if q3.1 = q4.1 then (b_X6_sways_72 k34 q4.2 v1 v2 v5 (0 : Int64) v3) else (b_X6_sways_72 k34 q4.2 v1 v2 v5 (1 : Int64) v3)))
set_option maxHeartbeats 4000000 in
set_option maxRecDepth 100000 in
theorem jg_X6_sways_34 (l : Launch) (G : jx_G) (hG : mm_ok G) (sz : Nat) (out : (Int64 × jx_M)) (k34 : jx_M → Int32 → Int32 → Int64 → Int32 → Option (Int64 × jx_M)) (h34 : ∀ (σ : jx_M) (v1 : Int32) (v2 : Int32) (v3 : Int64) (v5 : Int32), k34 σ v1 v2 v3 v5 = some out → jJ_X6_sways l G sz out 34 [(0, .ref (G.2 10)), (1, .int v1), (2, .int v2), (3, .long v3), (5, .int v5)] [] σ) (σ : jx_M) (v1 : Int32) (v2 : Int32) (v3 : Int64) (v5 : Int32) (h : g_X6_sways_34 k34 σ v1 v2 v3 v5 = some out) : jJ_X6_sways l G sz out 34 [(0, .ref (G.2 10)), (1, .int v1), (2, .int v2), (3, .long v3), (5, .int v5)] [] σ := by
  unfold g_X6_sways_34 at h
  refine jx_iload (pc := 34) (i := 5) rfl dX6_sways_34 ?_
  refine jx_iconst (pc := 36) (v := (1 : Int32)) (by decide) dX6_sways_36 ?_
  refine jx_aload_n (pc := 37) (k0 := 0) rfl dX6_sways_37 ?_
  refine mm_g_s (pc := 38) fl_X6_9 dX6_sways_38 ?_
  refine jx_iconst (pc := 41) (v := (0 : Int32)) (by decide) dX6_sways_41 ?_
  refine mm_l_s (pc := 42) (j := 0) (jx_in_o (by decide)) (by decide) dX6_sways_42 ?_
  refine jx_ishl (pc := 43) dX6_sways_43 ?_
  refine jx_icmp_ge (pc := 44) (tgt := 80) dX6_sways_44 (by decide) (fun c1 => ?_) (fun c1 => ?_)
  · have h := jx_t c1 h
    refine jx_lload_n (pc := 80) (k0 := 3) rfl dX6_sways_80 ?_
    refine jx_lconst (pc := 81) (v := (1 : Int64)) (by decide) dX6_sways_81 ?_
    refine jx_aload_n (pc := 82) (k0 := 0) rfl dX6_sways_82 ?_
    refine mm_g_s (pc := 83) fl_X6_9 dX6_sways_83 ?_
    refine jx_iconst (pc := 86) (v := (0 : Int32)) (by decide) dX6_sways_86 ?_
    refine mm_l_s (pc := 87) (j := 0) (jx_in_o (by decide)) (by decide) dX6_sways_87 ?_
    refine jx_lshl (pc := 88) dX6_sways_88 ?_
    refine jx_iload_n (pc := 89) (k0 := 2) rfl dX6_sways_89 ?_
    obtain ⟨q2, eq2, h⟩ := jx_bd_o h
    refine jx_callSl (pc := 90) [.long v3, .long ((1 : Int64) <<< ((σ 1 0).toInt64 &&& 63)), .int v2] (fun sz' => k_X6_lowest l G hG sz' σ v3 ((1 : Int64) <<< ((σ 1 0).toInt64 &&& 63)) v2 q2 eq2) ks_X6_208 mm_jok rfl rfl (Nat.le_of_ble_eq_true rfl) ⟨⟨rfl, rfl⟩, ⟨Nat.le_of_ble_eq_true rfl, Nat.le_of_ble_eq_true rfl⟩, Nat.zero_le _, Nat.zero_le _⟩ dX6_sways_90 ?_
    have h := Option.some.inj h
    subst h
    exact jx_lret (pc := 93) dX6_sways_93
  · have h := jx_f c1 h
    refine jx_lload_n (pc := 47) (k0 := 3) rfl dX6_sways_47 ?_
    refine jx_aload_n (pc := 48) (k0 := 0) rfl dX6_sways_48 ?_
    refine jx_iload (pc := 49) (i := 5) rfl dX6_sways_49 ?_
    obtain ⟨q3, eq3, h⟩ := jx_bd_o h
    refine jx_callVi (pc := 51) [.int v5] (fun sz' => k_X6_mayorBy l G hG sz' σ v5 q3 eq3) kv_X6_200 mm_jok mm_rc rfl rfl (Nat.le_of_ble_eq_true rfl) ⟨⟨rfl, rfl⟩, ⟨Nat.le_of_ble_eq_true rfl, Nat.le_of_ble_eq_true rfl⟩, Nat.zero_le _, Nat.zero_le _⟩ dX6_sways_51 ?_
    refine jx_aload_n (pc := 54) (k0 := 0) rfl dX6_sways_54 ?_
    refine jx_iload (pc := 55) (i := 5) rfl dX6_sways_55 ?_
    refine jx_iconst (pc := 57) (v := (1 : Int32)) (by decide) dX6_sways_57 ?_
    refine jx_iload_n (pc := 58) (k0 := 1) rfl dX6_sways_58 ?_
    refine jx_ishl (pc := 59) dX6_sways_59 ?_
    refine jx_ixor (pc := 60) dX6_sways_60 ?_
    obtain ⟨q4, eq4, h⟩ := jx_bd_o h
    refine jx_callVi (pc := 61) [.int (v5 ^^^ ((1 : Int32) <<< (v1 &&& 31)))] (fun sz' => k_X6_mayorBy l G hG sz' q3.2 (v5 ^^^ ((1 : Int32) <<< (v1 &&& 31))) q4 eq4) kv_X6_200 mm_jok mm_rc rfl rfl (Nat.le_of_ble_eq_true rfl) ⟨⟨rfl, rfl⟩, ⟨Nat.le_of_ble_eq_true rfl, Nat.le_of_ble_eq_true rfl⟩, Nat.zero_le _, Nat.zero_le _⟩ dX6_sways_61 ?_
    refine jx_icmp_eq (pc := 64) (tgt := 71) dX6_sways_64 (by decide) (fun c5 => ?_) (fun c5 => ?_)
    · have h := jx_t c5 h
      refine jx_lconst (pc := 71) (v := (0 : Int64)) (by decide) dX6_sways_71 ?_
      exact jx_sub [0, 1, 2, 4] rfl (jb_X6_sways_72 l G hG sz out k34 h34 q4.2 v1 v2 v5 (0 : Int64) v3 h)
    · have h := jx_f c5 h
      refine jx_lconst (pc := 67) (v := (1 : Int64)) (by decide) dX6_sways_67 ?_
      refine jx_goto (pc := 68) (tgt := 72) dX6_sways_68 (by decide) ?_
      exact jx_sub [0, 1, 2, 4] rfl (jb_X6_sways_72 l G hG sz out k34 h34 q4.2 v1 v2 v5 (1 : Int64) v3 h)
def b_X6_sways_34  : Nat → jx_M → Int32 → Int32 → Int64 → Int32 → Option (Int64 × jx_M)
  | 0, _, _, _, _, _ => none
  | n + 1, σ, v1, v2, v3, v5 => g_X6_sways_34 (b_X6_sways_34 n) σ v1 v2 v3 v5
theorem jb_X6_sways_34 (l : Launch) (G : jx_G) (hG : mm_ok G) (sz : Nat) (out : (Int64 × jx_M))  : ∀ (n : Nat) (σ : jx_M) (v1 : Int32) (v2 : Int32) (v3 : Int64) (v5 : Int32), b_X6_sways_34 n σ v1 v2 v3 v5 = some out → jJ_X6_sways l G sz out 34 [(0, .ref (G.2 10)), (1, .int v1), (2, .int v2), (3, .long v3), (5, .int v5)] [] σ := by
  intro n
  induction n with
  | zero =>
    intro σ v1 v2 v3 v5 h
    cases h
  | succ n ih =>
    intro σ v1 v2 v3 v5 h
    exact jg_X6_sways_34 l G hG sz out (b_X6_sways_34 n) ih σ v1 v2 v3 v5 h
def f_X6_sways (σ : jx_M) (a1 : Int32) (a2 : Int32) : Option (Int64 × jx_M) :=
  jx_bd (f_X6_isVoter σ a1) (fun q1 => if q1 = 0 then some ((-9223372036854775808 : Int64), σ) else jx_bd (f_X6_in a2 (0 : Int32) (1 : Int32)) (fun q3 => if q3 = 0 then some ((-9223372036854775808 : Int64), σ) else jx_bd (f_X6_looksForNight σ) (fun q5 => jx_bd (f_X6_laysAll q5) (fun q6 => (b_X6_sways_34 jx_fuel q6 a1 a2 (0 : Int64) (0 : Int32))))))
set_option maxHeartbeats 4000000 in
set_option maxRecDepth 100000 in
theorem k_X6_sways (l : Launch) (G : jx_G) (hG : mm_ok G) (sz : Nat) (σ : jx_M) (a1 : Int32) (a2 : Int32) (out : (Int64 × jx_M)) (h : f_X6_sways σ a1 a2 = some out) : Met l yX6_sways (Cond.code yX6_sways cX6_sways 6 (some .long) :: jx_ws) rm_X6_sways (jx_Pc (mm_env G) (mm_dyn G) (mm_rg G) sz σ [.ref (G.2 10), .int a1, .int a2]) (jx_Ql (mm_dyn G) out.2 out.1 (jx_A (mm_rg G) sz)) 0 0 (jx_A (mm_rg G) sz) := by
  unfold f_X6_sways at h
  refine jx_met (by decide) (Nat.le_of_ble_eq_true rfl) ?_
  refine jx_sub (lv' := [(0, .ref (G.2 10)), (1, .int a1), (2, .int a2)]) [0, 1, 2] rfl ?_
  refine jx_aload_n (pc := 0) (k0 := 0) rfl dX6_sways_0 ?_
  refine jx_iload_n (pc := 1) (k0 := 1) rfl dX6_sways_1 ?_
  obtain ⟨q1, eq1, h⟩ := jx_bd_o h
  refine jx_callVi (pc := 2) [.int a1] (fun sz' => k_X6_isVoter l G hG sz' σ a1 q1 eq1) kv_X6_163 mm_jok mm_rc rfl rfl (Nat.le_of_ble_eq_true rfl) ⟨⟨rfl, rfl⟩, ⟨Nat.le_of_ble_eq_true rfl, Nat.le_of_ble_eq_true rfl⟩, Nat.zero_le _, Nat.zero_le _⟩ dX6_sways_2 ?_
  refine jx_if_eq (pc := 5) (tgt := 17) dX6_sways_5 (by decide) (fun c2 => ?_) (fun c2 => ?_)
  · have h := jx_t c2 h
    refine jx_ldc2 (pc := 17) cn_X6_206 dX6_sways_17 ?_
    have h := Option.some.inj h
    subst h
    exact jx_lret (pc := 20) dX6_sways_20
  · have h := jx_f c2 h
    refine jx_iload_n (pc := 8) (k0 := 2) rfl dX6_sways_8 ?_
    refine jx_iconst (pc := 9) (v := (0 : Int32)) (by decide) dX6_sways_9 ?_
    refine jx_iconst (pc := 10) (v := (1 : Int32)) (by decide) dX6_sways_10 ?_
    obtain ⟨q3, eq3, h⟩ := jx_bd_o h
    refine jx_callSi (pc := 11) [.int a2, .int (0 : Int32), .int (1 : Int32)] (fun sz' => k_X6_in l G hG sz' σ a2 (0 : Int32) (1 : Int32) q3 eq3) ks_X6_48 mm_jok rfl rfl (Nat.le_of_ble_eq_true rfl) ⟨⟨rfl, rfl⟩, ⟨Nat.le_of_ble_eq_true rfl, Nat.le_of_ble_eq_true rfl⟩, Nat.zero_le _, Nat.zero_le _⟩ dX6_sways_11 ?_
    refine jx_if_ne (pc := 14) (tgt := 21) dX6_sways_14 (by decide) (fun c4 => ?_) (fun c4 => ?_)
    · have h := jx_f c4 h
      refine jx_aload_n (pc := 21) (k0 := 0) rfl dX6_sways_21 ?_
      obtain ⟨q5, eq5, h⟩ := jx_bd_o h
      refine jx_callVv (pc := 22) [] (fun sz' => k_X6_looksForNight l G hG sz' σ q5 eq5) kv_X6_185 mm_jok mm_rc rfl rfl (Nat.le_of_ble_eq_true rfl) ⟨⟨rfl, rfl⟩, ⟨Nat.le_of_ble_eq_true rfl, Nat.le_of_ble_eq_true rfl⟩, Nat.zero_le _, Nat.zero_le _⟩ dX6_sways_22 ?_
      refine jx_aload_n (pc := 25) (k0 := 0) rfl dX6_sways_25 ?_
      obtain ⟨q6, eq6, h⟩ := jx_bd_o h
      refine jx_callVv (pc := 26) [] (fun sz' => k_X6_laysAll l G hG sz' q5 q6 eq6) kv_X6_188 mm_jok mm_rc rfl rfl (Nat.le_of_ble_eq_true rfl) ⟨⟨rfl, rfl⟩, ⟨Nat.le_of_ble_eq_true rfl, Nat.le_of_ble_eq_true rfl⟩, Nat.zero_le _, Nat.zero_le _⟩ dX6_sways_26 ?_
      refine jx_lconst (pc := 29) (v := (0 : Int64)) (by decide) dX6_sways_29 ?_
      refine jx_lstore_n (pc := 30) (i := 3) rfl rfl (by decide) (lv' := [(3, .long (0 : Int64)), (0, .ref (G.2 10)), (1, .int a1), (2, .int a2)]) rfl dX6_sways_30 ?_
      refine jx_iconst (pc := 31) (v := (0 : Int32)) (by decide) dX6_sways_31 ?_
      refine jx_istore (pc := 32) (i := 5) rfl (by decide) (lv' := [(5, .int (0 : Int32)), (3, .long (0 : Int64)), (0, .ref (G.2 10)), (1, .int a1), (2, .int a2)]) rfl dX6_sways_32 ?_
      exact jx_sub [2, 3, 4, 1, 0] rfl (jb_X6_sways_34 l G hG sz out jx_fuel q6 a1 a2 (0 : Int64) (0 : Int32) h)
    · have h := jx_t c4 h
      refine jx_ldc2 (pc := 17) cn_X6_206 dX6_sways_17 ?_
      have h := Option.some.inj h
      subst h
      exact jx_lret (pc := 20) dX6_sways_20
theorem dX6_stick_0 : decode cX6_stick 0 = .ok (.iload_n 1, 1) := by decide +kernel
theorem dX6_stick_1 : decode cX6_stick 1 = .ok (.iconst 0, 1) := by decide +kernel
theorem dX6_stick_2 : decode cX6_stick 2 = .ok (.iconst 1, 1) := by decide +kernel
theorem dX6_stick_3 : decode cX6_stick 3 = .ok (.invokestatic 48, 3) := by decide +kernel
theorem dX6_stick_6 : decode cX6_stick 6 = .ok (.ifCond .ne 6, 3) := by decide +kernel
theorem dX6_stick_9 : decode cX6_stick 9 = .ok (.bipush (-2), 2) := by decide +kernel
theorem dX6_stick_11 : decode cX6_stick 11 = .ok (.ireturn, 1) := by decide +kernel
theorem dX6_stick_12 : decode cX6_stick 12 = .ok (.iconst 0, 1) := by decide +kernel
theorem dX6_stick_13 : decode cX6_stick 13 = .ok (.istore_n 2, 1) := by decide +kernel
theorem dX6_stick_14 : decode cX6_stick 14 = .ok (.iload_n 2, 1) := by decide +kernel
theorem dX6_stick_15 : decode cX6_stick 15 = .ok (.aload_n 0, 1) := by decide +kernel
theorem dX6_stick_16 : decode cX6_stick 16 = .ok (.getfield 9, 3) := by decide +kernel
theorem dX6_stick_19 : decode cX6_stick 19 = .ok (.bipush 6, 2) := by decide +kernel
theorem dX6_stick_21 : decode cX6_stick 21 = .ok (.iaload, 1) := by decide +kernel
theorem dX6_stick_22 : decode cX6_stick 22 = .ok (.if_icmp .ge 53, 3) := by decide +kernel
theorem dX6_stick_25 : decode cX6_stick 25 = .ok (.aload_n 0, 1) := by decide +kernel
theorem dX6_stick_26 : decode cX6_stick 26 = .ok (.invokevirtual 185, 3) := by decide +kernel
theorem dX6_stick_29 : decode cX6_stick 29 = .ok (.iconst 0, 1) := by decide +kernel
theorem dX6_stick_30 : decode cX6_stick 30 = .ok (.istore_n 3, 1) := by decide +kernel
theorem dX6_stick_31 : decode cX6_stick 31 = .ok (.iload_n 3, 1) := by decide +kernel
theorem dX6_stick_32 : decode cX6_stick 32 = .ok (.bipush 12, 2) := by decide +kernel
theorem dX6_stick_34 : decode cX6_stick 34 = .ok (.if_icmp .ge 21, 3) := by decide +kernel
theorem dX6_stick_37 : decode cX6_stick 37 = .ok (.aload_n 0, 1) := by decide +kernel
theorem dX6_stick_38 : decode cX6_stick 38 = .ok (.getfield 25, 3) := by decide +kernel
theorem dX6_stick_41 : decode cX6_stick 41 = .ok (.bipush 7, 2) := by decide +kernel
theorem dX6_stick_43 : decode cX6_stick 43 = .ok (.iload_n 3, 1) := by decide +kernel
theorem dX6_stick_44 : decode cX6_stick 44 = .ok (.imul, 1) := by decide +kernel
theorem dX6_stick_45 : decode cX6_stick 45 = .ok (.iload_n 2, 1) := by decide +kernel
theorem dX6_stick_46 : decode cX6_stick 46 = .ok (.iadd, 1) := by decide +kernel
theorem dX6_stick_47 : decode cX6_stick 47 = .ok (.iload_n 2, 1) := by decide +kernel
theorem dX6_stick_48 : decode cX6_stick 48 = .ok (.iastore, 1) := by decide +kernel
theorem dX6_stick_49 : decode cX6_stick 49 = .ok (.iinc 3 1, 3) := by decide +kernel
theorem dX6_stick_52 : decode cX6_stick 52 = .ok (.goto (-21), 3) := by decide +kernel
theorem dX6_stick_55 : decode cX6_stick 55 = .ok (.aload_n 0, 1) := by decide +kernel
theorem dX6_stick_56 : decode cX6_stick 56 = .ok (.invokevirtual 188, 3) := by decide +kernel
theorem dX6_stick_59 : decode cX6_stick 59 = .ok (.aload_n 0, 1) := by decide +kernel
theorem dX6_stick_60 : decode cX6_stick 60 = .ok (.invokevirtual 191, 3) := by decide +kernel
theorem dX6_stick_63 : decode cX6_stick 63 = .ok (.iload_n 1, 1) := by decide +kernel
theorem dX6_stick_64 : decode cX6_stick 64 = .ok (.if_icmp .ne 5, 3) := by decide +kernel
theorem dX6_stick_67 : decode cX6_stick 67 = .ok (.iload_n 2, 1) := by decide +kernel
theorem dX6_stick_68 : decode cX6_stick 68 = .ok (.ireturn, 1) := by decide +kernel
theorem dX6_stick_69 : decode cX6_stick 69 = .ok (.iinc 2 1, 3) := by decide +kernel
theorem dX6_stick_72 : decode cX6_stick 72 = .ok (.goto (-58), 3) := by decide +kernel
theorem dX6_stick_75 : decode cX6_stick 75 = .ok (.bipush (-5), 2) := by decide +kernel
theorem dX6_stick_77 : decode cX6_stick 77 = .ok (.ireturn, 1) := by decide +kernel
abbrev rm_X6_stick : Room := { frames := 5, cells := 0, slots := 0, locals := 123 }
abbrev jJ_X6_stick (l : Launch) (G : jx_G) (sz : Nat) (out : (Int32 × jx_M)) (pc : Nat) (lv : List (Nat × Value)) (st : List Value) (σ : jx_M) : Prop := jx_J l (mm_env G) (mm_dyn G) (mm_rg G) sz RX6 "stick" cX6_stick 4 (some .int) rm_X6_stick (fun below args s => MQ below (jx_Qi (mm_dyn G) out.2 out.1 (jx_A (mm_rg G) sz)) args s 0 0 (jx_A (mm_rg G) sz)) 0 0 pc lv st σ
def g_X6_stick_31 (k14 : jx_M → Int32 → Int32 → Option (Int32 × jx_M)) (k31 : jx_M → Int32 → Int32 → Int32 → Option (Int32 × jx_M)) (σ : jx_M) (v1 : Int32) (v2 : Int32) (v3 : Int32) : Option (Int32 × jx_M) :=
  if (12 : Int32) ≤ v3 then jx_bd (f_X6_laysAll σ) (fun q2 => jx_bd (f_X6_mayor q2) (fun q3 => if q3 = v1 then some (v2, q2) else jx_lt (v2 + (1 : Int32)) (fun x5 => (k14 q2 v1 x5)))) else jx_gd (jx_in (((7 : Int32) * v3) + v2) 84) (jx_lt (jx_mu σ 5 (((7 : Int32) * v3) + v2).toNatClampNeg v2) (fun σ7 => jx_lt (v3 + (1 : Int32)) (fun x8 => (k31 σ7 v1 v2 x8))))
set_option maxHeartbeats 4000000 in
set_option maxRecDepth 100000 in
theorem jg_X6_stick_31 (l : Launch) (G : jx_G) (hG : mm_ok G) (sz : Nat) (out : (Int32 × jx_M)) (k14 : jx_M → Int32 → Int32 → Option (Int32 × jx_M)) (h14 : ∀ (σ : jx_M) (v1 : Int32) (v2 : Int32), k14 σ v1 v2 = some out → jJ_X6_stick l G sz out 14 [(0, .ref (G.2 10)), (1, .int v1), (2, .int v2)] [] σ) (k31 : jx_M → Int32 → Int32 → Int32 → Option (Int32 × jx_M)) (h31 : ∀ (σ : jx_M) (v1 : Int32) (v2 : Int32) (v3 : Int32), k31 σ v1 v2 v3 = some out → jJ_X6_stick l G sz out 31 [(0, .ref (G.2 10)), (1, .int v1), (2, .int v2), (3, .int v3)] [] σ) (σ : jx_M) (v1 : Int32) (v2 : Int32) (v3 : Int32) (h : g_X6_stick_31 k14 k31 σ v1 v2 v3 = some out) : jJ_X6_stick l G sz out 31 [(0, .ref (G.2 10)), (1, .int v1), (2, .int v2), (3, .int v3)] [] σ := by
  unfold g_X6_stick_31 at h
  refine jx_iload_n (pc := 31) (k0 := 3) rfl dX6_stick_31 ?_
  refine jx_bipush (pc := 32) (v := (12 : Int32)) (by decide) dX6_stick_32 ?_
  refine jx_icmp_ge (pc := 34) (tgt := 55) dX6_stick_34 (by decide) (fun c1 => ?_) (fun c1 => ?_)
  · have h := jx_t c1 h
    refine jx_aload_n (pc := 55) (k0 := 0) rfl dX6_stick_55 ?_
    obtain ⟨q2, eq2, h⟩ := jx_bd_o h
    refine jx_callVv (pc := 56) [] (fun sz' => k_X6_laysAll l G hG sz' σ q2 eq2) kv_X6_188 mm_jok mm_rc rfl rfl (Nat.le_of_ble_eq_true rfl) ⟨⟨rfl, rfl⟩, ⟨Nat.le_of_ble_eq_true rfl, Nat.le_of_ble_eq_true rfl⟩, Nat.zero_le _, Nat.zero_le _⟩ dX6_stick_56 ?_
    refine jx_aload_n (pc := 59) (k0 := 0) rfl dX6_stick_59 ?_
    obtain ⟨q3, eq3, h⟩ := jx_bd_o h
    refine jx_callVi (pc := 60) [] (fun sz' => k_X6_mayor l G hG sz' q2 q3 eq3) kv_X6_191 mm_jok mm_rc rfl rfl (Nat.le_of_ble_eq_true rfl) ⟨⟨rfl, rfl⟩, ⟨Nat.le_of_ble_eq_true rfl, Nat.le_of_ble_eq_true rfl⟩, Nat.zero_le _, Nat.zero_le _⟩ dX6_stick_60 ?_
    refine jx_iload_n (pc := 63) (k0 := 1) rfl dX6_stick_63 ?_
    refine jx_icmp_ne (pc := 64) (tgt := 69) dX6_stick_64 (by decide) (fun c4 => ?_) (fun c4 => ?_)
    · have h := jx_f c4 h
      obtain ⟨x5, ex5, h⟩ := jx_lt_o h
      refine jx_iinc (pc := 69) (i := 2) (v := v2) rfl ex5 (n := 1) (by decide) (by decide) (lv' := [(2, .int x5), (0, .ref (G.2 10)), (1, .int v1), (3, .int v3)]) rfl dX6_stick_69 ?_
      refine jx_goto (pc := 72) (tgt := 14) dX6_stick_72 (by decide) ?_
      exact jx_sub [1, 2, 0] rfl (h14 q2 v1 x5 h)
    · have h := jx_t c4 h
      refine jx_iload_n (pc := 67) (k0 := 2) rfl dX6_stick_67 ?_
      have h := Option.some.inj h
      subst h
      exact jx_iret (pc := 68) dX6_stick_68
  · have h := jx_f c1 h
    refine jx_aload_n (pc := 37) (k0 := 0) rfl dX6_stick_37 ?_
    refine mm_g_going (pc := 38) fl_X6_25 dX6_stick_38 ?_
    refine jx_bipush (pc := 41) (v := (7 : Int32)) (by decide) dX6_stick_41 ?_
    refine jx_iload_n (pc := 43) (k0 := 3) rfl dX6_stick_43 ?_
    refine jx_imul (pc := 44) dX6_stick_44 ?_
    refine jx_iload_n (pc := 45) (k0 := 2) rfl dX6_stick_45 ?_
    refine jx_iadd (pc := 46) dX6_stick_46 ?_
    refine jx_iload_n (pc := 47) (k0 := 2) rfl dX6_stick_47 ?_
    obtain ⟨g6, h⟩ := jx_gd_o h
    obtain ⟨σ7, eσ7, h⟩ := jx_lt_o h
    refine mm_s_going (pc := 48) hG (jx_in_o g6) rfl eσ7 dX6_stick_48 ?_
    obtain ⟨x8, ex8, h⟩ := jx_lt_o h
    refine jx_iinc (pc := 49) (i := 3) (v := v3) rfl ex8 (n := 1) (by decide) (by decide) (lv' := [(3, .int x8), (0, .ref (G.2 10)), (1, .int v1), (2, .int v2)]) rfl dX6_stick_49 ?_
    refine jx_goto (pc := 52) (tgt := 31) dX6_stick_52 (by decide) ?_
    exact jx_sub [1, 2, 3, 0] rfl (h31 σ7 v1 v2 x8 h)
def b_X6_stick_31 (k14 : jx_M → Int32 → Int32 → Option (Int32 × jx_M)) : Nat → jx_M → Int32 → Int32 → Int32 → Option (Int32 × jx_M)
  | 0, _, _, _, _ => none
  | n + 1, σ, v1, v2, v3 => g_X6_stick_31 k14 (b_X6_stick_31 k14 n) σ v1 v2 v3
theorem jb_X6_stick_31 (l : Launch) (G : jx_G) (hG : mm_ok G) (sz : Nat) (out : (Int32 × jx_M)) (k14 : jx_M → Int32 → Int32 → Option (Int32 × jx_M)) (h14 : ∀ (σ : jx_M) (v1 : Int32) (v2 : Int32), k14 σ v1 v2 = some out → jJ_X6_stick l G sz out 14 [(0, .ref (G.2 10)), (1, .int v1), (2, .int v2)] [] σ) : ∀ (n : Nat) (σ : jx_M) (v1 : Int32) (v2 : Int32) (v3 : Int32), b_X6_stick_31 k14 n σ v1 v2 v3 = some out → jJ_X6_stick l G sz out 31 [(0, .ref (G.2 10)), (1, .int v1), (2, .int v2), (3, .int v3)] [] σ := by
  intro n
  induction n with
  | zero =>
    intro σ v1 v2 v3 h
    cases h
  | succ n ih =>
    intro σ v1 v2 v3 h
    exact jg_X6_stick_31 l G hG sz out k14 h14 (b_X6_stick_31 k14 n) ih σ v1 v2 v3 h
def g_X6_stick_14 (k14 : jx_M → Int32 → Int32 → Option (Int32 × jx_M)) (σ : jx_M) (v1 : Int32) (v2 : Int32) : Option (Int32 × jx_M) :=
  if (σ 1 6) ≤ v2 then some ((-5 : Int32), σ) else jx_bd (f_X6_looksForNight σ) (fun q2 => (b_X6_stick_31 k14 jx_fuel q2 v1 v2 (0 : Int32)))
set_option maxHeartbeats 4000000 in
set_option maxRecDepth 100000 in
theorem jg_X6_stick_14 (l : Launch) (G : jx_G) (hG : mm_ok G) (sz : Nat) (out : (Int32 × jx_M)) (k14 : jx_M → Int32 → Int32 → Option (Int32 × jx_M)) (h14 : ∀ (σ : jx_M) (v1 : Int32) (v2 : Int32), k14 σ v1 v2 = some out → jJ_X6_stick l G sz out 14 [(0, .ref (G.2 10)), (1, .int v1), (2, .int v2)] [] σ) (σ : jx_M) (v1 : Int32) (v2 : Int32) (h : g_X6_stick_14 k14 σ v1 v2 = some out) : jJ_X6_stick l G sz out 14 [(0, .ref (G.2 10)), (1, .int v1), (2, .int v2)] [] σ := by
  unfold g_X6_stick_14 at h
  refine jx_iload_n (pc := 14) (k0 := 2) rfl dX6_stick_14 ?_
  refine jx_aload_n (pc := 15) (k0 := 0) rfl dX6_stick_15 ?_
  refine mm_g_s (pc := 16) fl_X6_9 dX6_stick_16 ?_
  refine jx_bipush (pc := 19) (v := (6 : Int32)) (by decide) dX6_stick_19 ?_
  refine mm_l_s (pc := 21) (j := 6) (jx_in_o (by decide)) (by decide) dX6_stick_21 ?_
  refine jx_icmp_ge (pc := 22) (tgt := 75) dX6_stick_22 (by decide) (fun c1 => ?_) (fun c1 => ?_)
  · have h := jx_t c1 h
    refine jx_bipush (pc := 75) (v := (-5 : Int32)) (by decide) dX6_stick_75 ?_
    have h := Option.some.inj h
    subst h
    exact jx_iret (pc := 77) dX6_stick_77
  · have h := jx_f c1 h
    refine jx_aload_n (pc := 25) (k0 := 0) rfl dX6_stick_25 ?_
    obtain ⟨q2, eq2, h⟩ := jx_bd_o h
    refine jx_callVv (pc := 26) [] (fun sz' => k_X6_looksForNight l G hG sz' σ q2 eq2) kv_X6_185 mm_jok mm_rc rfl rfl (Nat.le_of_ble_eq_true rfl) ⟨⟨rfl, rfl⟩, ⟨Nat.le_of_ble_eq_true rfl, Nat.le_of_ble_eq_true rfl⟩, Nat.zero_le _, Nat.zero_le _⟩ dX6_stick_26 ?_
    refine jx_iconst (pc := 29) (v := (0 : Int32)) (by decide) dX6_stick_29 ?_
    refine jx_istore_n (pc := 30) (i := 3) rfl rfl (by decide) (lv' := [(3, .int (0 : Int32)), (0, .ref (G.2 10)), (1, .int v1), (2, .int v2)]) rfl dX6_stick_30 ?_
    exact jx_sub [1, 2, 3, 0] rfl (jb_X6_stick_31 l G hG sz out k14 h14 jx_fuel q2 v1 v2 (0 : Int32) h)
def b_X6_stick_14  : Nat → jx_M → Int32 → Int32 → Option (Int32 × jx_M)
  | 0, _, _, _ => none
  | n + 1, σ, v1, v2 => g_X6_stick_14 (b_X6_stick_14 n) σ v1 v2
theorem jb_X6_stick_14 (l : Launch) (G : jx_G) (hG : mm_ok G) (sz : Nat) (out : (Int32 × jx_M))  : ∀ (n : Nat) (σ : jx_M) (v1 : Int32) (v2 : Int32), b_X6_stick_14 n σ v1 v2 = some out → jJ_X6_stick l G sz out 14 [(0, .ref (G.2 10)), (1, .int v1), (2, .int v2)] [] σ := by
  intro n
  induction n with
  | zero =>
    intro σ v1 v2 h
    cases h
  | succ n ih =>
    intro σ v1 v2 h
    exact jg_X6_stick_14 l G hG sz out (b_X6_stick_14 n) ih σ v1 v2 h
def f_X6_stick (σ : jx_M) (a1 : Int32) : Option (Int32 × jx_M) :=
  jx_bd (f_X6_in a1 (0 : Int32) (1 : Int32)) (fun q1 => if q1 = 0 then some ((-2 : Int32), σ) else (b_X6_stick_14 jx_fuel σ a1 (0 : Int32)))
set_option maxHeartbeats 4000000 in
set_option maxRecDepth 100000 in
theorem k_X6_stick (l : Launch) (G : jx_G) (hG : mm_ok G) (sz : Nat) (σ : jx_M) (a1 : Int32) (out : (Int32 × jx_M)) (h : f_X6_stick σ a1 = some out) : Met l yX6_stick (Cond.code yX6_stick cX6_stick 4 (some .int) :: jx_ws) rm_X6_stick (jx_Pc (mm_env G) (mm_dyn G) (mm_rg G) sz σ [.ref (G.2 10), .int a1]) (jx_Qi (mm_dyn G) out.2 out.1 (jx_A (mm_rg G) sz)) 0 0 (jx_A (mm_rg G) sz) := by
  unfold f_X6_stick at h
  refine jx_met (by decide) (Nat.le_of_ble_eq_true rfl) ?_
  refine jx_sub (lv' := [(0, .ref (G.2 10)), (1, .int a1)]) [0, 1] rfl ?_
  refine jx_iload_n (pc := 0) (k0 := 1) rfl dX6_stick_0 ?_
  refine jx_iconst (pc := 1) (v := (0 : Int32)) (by decide) dX6_stick_1 ?_
  refine jx_iconst (pc := 2) (v := (1 : Int32)) (by decide) dX6_stick_2 ?_
  obtain ⟨q1, eq1, h⟩ := jx_bd_o h
  refine jx_callSi (pc := 3) [.int a1, .int (0 : Int32), .int (1 : Int32)] (fun sz' => k_X6_in l G hG sz' σ a1 (0 : Int32) (1 : Int32) q1 eq1) ks_X6_48 mm_jok rfl rfl (Nat.le_of_ble_eq_true rfl) ⟨⟨rfl, rfl⟩, ⟨Nat.le_of_ble_eq_true rfl, Nat.le_of_ble_eq_true rfl⟩, Nat.zero_le _, Nat.zero_le _⟩ dX6_stick_3 ?_
  refine jx_if_ne (pc := 6) (tgt := 12) dX6_stick_6 (by decide) (fun c2 => ?_) (fun c2 => ?_)
  · have h := jx_f c2 h
    refine jx_iconst (pc := 12) (v := (0 : Int32)) (by decide) dX6_stick_12 ?_
    refine jx_istore_n (pc := 13) (i := 2) rfl rfl (by decide) (lv' := [(2, .int (0 : Int32)), (0, .ref (G.2 10)), (1, .int a1)]) rfl dX6_stick_13 ?_
    exact jx_sub [1, 2, 0] rfl (jb_X6_stick_14 l G hG sz out jx_fuel σ a1 (0 : Int32) h)
  · have h := jx_t c2 h
    refine jx_bipush (pc := 9) (v := (-2 : Int32)) (by decide) dX6_stick_9 ?_
    have h := Option.some.inj h
    subst h
    exact jx_iret (pc := 11) dX6_stick_11
theorem dX6_set_0 : decode cX6_set 0 = .ok (.aload_n 0, 1) := by decide +kernel
theorem dX6_set_1 : decode cX6_set 1 = .ok (.iload_n 1, 1) := by decide +kernel
theorem dX6_set_2 : decode cX6_set 2 = .ok (.invokevirtual 163, 3) := by decide +kernel
theorem dX6_set_5 : decode cX6_set 5 = .ok (.ifCond .eq 12, 3) := by decide +kernel
theorem dX6_set_8 : decode cX6_set 8 = .ok (.iload_n 2, 1) := by decide +kernel
theorem dX6_set_9 : decode cX6_set 9 = .ok (.iconst 0, 1) := by decide +kernel
theorem dX6_set_10 : decode cX6_set 10 = .ok (.iconst 1, 1) := by decide +kernel
theorem dX6_set_11 : decode cX6_set 11 = .ok (.invokestatic 48, 3) := by decide +kernel
theorem dX6_set_14 : decode cX6_set 14 = .ok (.ifCond .ne 7, 3) := by decide +kernel
theorem dX6_set_17 : decode cX6_set 17 = .ok (.sipush (-1001), 3) := by decide +kernel
theorem dX6_set_20 : decode cX6_set 20 = .ok (.ireturn, 1) := by decide +kernel
theorem dX6_set_21 : decode cX6_set 21 = .ok (.aload_n 0, 1) := by decide +kernel
theorem dX6_set_22 : decode cX6_set 22 = .ok (.invokevirtual 185, 3) := by decide +kernel
theorem dX6_set_25 : decode cX6_set 25 = .ok (.aload_n 0, 1) := by decide +kernel
theorem dX6_set_26 : decode cX6_set 26 = .ok (.invokevirtual 188, 3) := by decide +kernel
theorem dX6_set_29 : decode cX6_set 29 = .ok (.aload_n 0, 1) := by decide +kernel
theorem dX6_set_30 : decode cX6_set 30 = .ok (.iload_n 1, 1) := by decide +kernel
theorem dX6_set_31 : decode cX6_set 31 = .ok (.invokevirtual 221, 3) := by decide +kernel
theorem dX6_set_34 : decode cX6_set 34 = .ok (.iload_n 2, 1) := by decide +kernel
theorem dX6_set_35 : decode cX6_set 35 = .ok (.ifCond .ne 10, 3) := by decide +kernel
theorem dX6_set_38 : decode cX6_set 38 = .ok (.aload_n 0, 1) := by decide +kernel
theorem dX6_set_39 : decode cX6_set 39 = .ok (.getfield 212, 3) := by decide +kernel
theorem dX6_set_42 : decode cX6_set 42 = .ok (.goto 7, 3) := by decide +kernel
theorem dX6_set_45 : decode cX6_set 45 = .ok (.aload_n 0, 1) := by decide +kernel
theorem dX6_set_46 : decode cX6_set 46 = .ok (.getfield 218, 3) := by decide +kernel
theorem dX6_set_49 : decode cX6_set 49 = .ok (.ireturn, 1) := by decide +kernel
abbrev rm_X6_set : Room := { frames := 5, cells := 0, slots := 0, locals := 126 }
abbrev jJ_X6_set (l : Launch) (G : jx_G) (sz : Nat) (out : (Int32 × jx_M)) (pc : Nat) (lv : List (Nat × Value)) (st : List Value) (σ : jx_M) : Prop := jx_J l (mm_env G) (mm_dyn G) (mm_rg G) sz RX6 "set" cX6_set 3 (some .int) rm_X6_set (fun below args s => MQ below (jx_Qi (mm_dyn G) out.2 out.1 (jx_A (mm_rg G) sz)) args s 0 0 (jx_A (mm_rg G) sz)) 0 0 pc lv st σ
def f_X6_set (σ : jx_M) (a1 : Int32) (a2 : Int32) : Option (Int32 × jx_M) :=
  jx_bd (f_X6_isVoter σ a1) (fun q1 => if q1 = 0 then some ((-1001 : Int32), σ) else jx_bd (f_X6_in a2 (0 : Int32) (1 : Int32)) (fun q3 => if q3 = 0 then some ((-1001 : Int32), σ) else jx_bd (f_X6_looksForNight σ) (fun q5 => jx_bd (f_X6_laysAll q5) (fun q6 => jx_bd (f_X6_looksForBest q6 a1) (fun q7 => if a2 = 0 then some ((q7 0 19), q7) else some ((q7 0 20), q7))))))
set_option maxHeartbeats 4000000 in
set_option maxRecDepth 100000 in
theorem k_X6_set (l : Launch) (G : jx_G) (hG : mm_ok G) (sz : Nat) (σ : jx_M) (a1 : Int32) (a2 : Int32) (out : (Int32 × jx_M)) (h : f_X6_set σ a1 a2 = some out) : Met l yX6_set (Cond.code yX6_set cX6_set 3 (some .int) :: jx_ws) rm_X6_set (jx_Pc (mm_env G) (mm_dyn G) (mm_rg G) sz σ [.ref (G.2 10), .int a1, .int a2]) (jx_Qi (mm_dyn G) out.2 out.1 (jx_A (mm_rg G) sz)) 0 0 (jx_A (mm_rg G) sz) := by
  unfold f_X6_set at h
  refine jx_met (by decide) (Nat.le_of_ble_eq_true rfl) ?_
  refine jx_sub (lv' := [(0, .ref (G.2 10)), (1, .int a1), (2, .int a2)]) [0, 1, 2] rfl ?_
  refine jx_aload_n (pc := 0) (k0 := 0) rfl dX6_set_0 ?_
  refine jx_iload_n (pc := 1) (k0 := 1) rfl dX6_set_1 ?_
  obtain ⟨q1, eq1, h⟩ := jx_bd_o h
  refine jx_callVi (pc := 2) [.int a1] (fun sz' => k_X6_isVoter l G hG sz' σ a1 q1 eq1) kv_X6_163 mm_jok mm_rc rfl rfl (Nat.le_of_ble_eq_true rfl) ⟨⟨rfl, rfl⟩, ⟨Nat.le_of_ble_eq_true rfl, Nat.le_of_ble_eq_true rfl⟩, Nat.zero_le _, Nat.zero_le _⟩ dX6_set_2 ?_
  refine jx_if_eq (pc := 5) (tgt := 17) dX6_set_5 (by decide) (fun c2 => ?_) (fun c2 => ?_)
  · have h := jx_t c2 h
    refine jx_sipush (pc := 17) (v := (-1001 : Int32)) (by decide) dX6_set_17 ?_
    have h := Option.some.inj h
    subst h
    exact jx_iret (pc := 20) dX6_set_20
  · have h := jx_f c2 h
    refine jx_iload_n (pc := 8) (k0 := 2) rfl dX6_set_8 ?_
    refine jx_iconst (pc := 9) (v := (0 : Int32)) (by decide) dX6_set_9 ?_
    refine jx_iconst (pc := 10) (v := (1 : Int32)) (by decide) dX6_set_10 ?_
    obtain ⟨q3, eq3, h⟩ := jx_bd_o h
    refine jx_callSi (pc := 11) [.int a2, .int (0 : Int32), .int (1 : Int32)] (fun sz' => k_X6_in l G hG sz' σ a2 (0 : Int32) (1 : Int32) q3 eq3) ks_X6_48 mm_jok rfl rfl (Nat.le_of_ble_eq_true rfl) ⟨⟨rfl, rfl⟩, ⟨Nat.le_of_ble_eq_true rfl, Nat.le_of_ble_eq_true rfl⟩, Nat.zero_le _, Nat.zero_le _⟩ dX6_set_11 ?_
    refine jx_if_ne (pc := 14) (tgt := 21) dX6_set_14 (by decide) (fun c4 => ?_) (fun c4 => ?_)
    · have h := jx_f c4 h
      refine jx_aload_n (pc := 21) (k0 := 0) rfl dX6_set_21 ?_
      obtain ⟨q5, eq5, h⟩ := jx_bd_o h
      refine jx_callVv (pc := 22) [] (fun sz' => k_X6_looksForNight l G hG sz' σ q5 eq5) kv_X6_185 mm_jok mm_rc rfl rfl (Nat.le_of_ble_eq_true rfl) ⟨⟨rfl, rfl⟩, ⟨Nat.le_of_ble_eq_true rfl, Nat.le_of_ble_eq_true rfl⟩, Nat.zero_le _, Nat.zero_le _⟩ dX6_set_22 ?_
      refine jx_aload_n (pc := 25) (k0 := 0) rfl dX6_set_25 ?_
      obtain ⟨q6, eq6, h⟩ := jx_bd_o h
      refine jx_callVv (pc := 26) [] (fun sz' => k_X6_laysAll l G hG sz' q5 q6 eq6) kv_X6_188 mm_jok mm_rc rfl rfl (Nat.le_of_ble_eq_true rfl) ⟨⟨rfl, rfl⟩, ⟨Nat.le_of_ble_eq_true rfl, Nat.le_of_ble_eq_true rfl⟩, Nat.zero_le _, Nat.zero_le _⟩ dX6_set_26 ?_
      refine jx_aload_n (pc := 29) (k0 := 0) rfl dX6_set_29 ?_
      refine jx_iload_n (pc := 30) (k0 := 1) rfl dX6_set_30 ?_
      obtain ⟨q7, eq7, h⟩ := jx_bd_o h
      refine jx_callVv (pc := 31) [.int a1] (fun sz' => k_X6_looksForBest l G hG sz' q6 a1 q7 eq7) kv_X6_221 mm_jok mm_rc rfl rfl (Nat.le_of_ble_eq_true rfl) ⟨⟨rfl, rfl⟩, ⟨Nat.le_of_ble_eq_true rfl, Nat.le_of_ble_eq_true rfl⟩, Nat.zero_le _, Nat.zero_le _⟩ dX6_set_31 ?_
      refine jx_iload_n (pc := 34) (k0 := 2) rfl dX6_set_34 ?_
      refine jx_if_ne (pc := 35) (tgt := 45) dX6_set_35 (by decide) (fun c8 => ?_) (fun c8 => ?_)
      · have h := jx_f c8 h
        refine jx_aload_n (pc := 45) (k0 := 0) rfl dX6_set_45 ?_
        refine mm_g_bestMore (pc := 46) fl_X6_218 dX6_set_46 ?_
        have h := Option.some.inj h
        subst h
        exact jx_iret (pc := 49) dX6_set_49
      · have h := jx_t c8 h
        refine jx_aload_n (pc := 38) (k0 := 0) rfl dX6_set_38 ?_
        refine mm_g_bestPlace (pc := 39) fl_X6_212 dX6_set_39 ?_
        refine jx_goto (pc := 42) (tgt := 49) dX6_set_42 (by decide) ?_
        have h := Option.some.inj h
        subst h
        exact jx_iret (pc := 49) dX6_set_49
    · have h := jx_t c4 h
      refine jx_sipush (pc := 17) (v := (-1001 : Int32)) (by decide) dX6_set_17 ?_
      have h := Option.some.inj h
      subst h
      exact jx_iret (pc := 20) dX6_set_20
theorem dX6_game_0 : decode cX6_game 0 = .ok (.aload_n 0, 1) := by decide +kernel
theorem dX6_game_1 : decode cX6_game 1 = .ok (.iload_n 1, 1) := by decide +kernel
theorem dX6_game_2 : decode cX6_game 2 = .ok (.invokevirtual 163, 3) := by decide +kernel
theorem dX6_game_5 : decode cX6_game 5 = .ok (.ifCond .eq 20, 3) := by decide +kernel
theorem dX6_game_8 : decode cX6_game 8 = .ok (.aload_n 0, 1) := by decide +kernel
theorem dX6_game_9 : decode cX6_game 9 = .ok (.iload_n 2, 1) := by decide +kernel
theorem dX6_game_10 : decode cX6_game 10 = .ok (.invokevirtual 163, 3) := by decide +kernel
theorem dX6_game_13 : decode cX6_game 13 = .ok (.ifCond .eq 12, 3) := by decide +kernel
theorem dX6_game_16 : decode cX6_game 16 = .ok (.iload_n 3, 1) := by decide +kernel
theorem dX6_game_17 : decode cX6_game 17 = .ok (.iconst 0, 1) := by decide +kernel
theorem dX6_game_18 : decode cX6_game 18 = .ok (.iconst 1, 1) := by decide +kernel
theorem dX6_game_19 : decode cX6_game 19 = .ok (.invokestatic 48, 3) := by decide +kernel
theorem dX6_game_22 : decode cX6_game 22 = .ok (.ifCond .ne 7, 3) := by decide +kernel
theorem dX6_game_25 : decode cX6_game 25 = .ok (.sipush (-1001), 3) := by decide +kernel
theorem dX6_game_28 : decode cX6_game 28 = .ok (.ireturn, 1) := by decide +kernel
theorem dX6_game_29 : decode cX6_game 29 = .ok (.iload_n 1, 1) := by decide +kernel
theorem dX6_game_30 : decode cX6_game 30 = .ok (.iload_n 2, 1) := by decide +kernel
theorem dX6_game_31 : decode cX6_game 31 = .ok (.if_icmp .ne 7, 3) := by decide +kernel
theorem dX6_game_34 : decode cX6_game 34 = .ok (.sipush (-1002), 3) := by decide +kernel
theorem dX6_game_37 : decode cX6_game 37 = .ok (.ireturn, 1) := by decide +kernel
theorem dX6_game_38 : decode cX6_game 38 = .ok (.aload_n 0, 1) := by decide +kernel
theorem dX6_game_39 : decode cX6_game 39 = .ok (.invokevirtual 185, 3) := by decide +kernel
theorem dX6_game_42 : decode cX6_game 42 = .ok (.aload_n 0, 1) := by decide +kernel
theorem dX6_game_43 : decode cX6_game 43 = .ok (.invokevirtual 188, 3) := by decide +kernel
theorem dX6_game_46 : decode cX6_game 46 = .ok (.iconst (-1), 1) := by decide +kernel
theorem dX6_game_47 : decode cX6_game 47 = .ok (.istore 4, 2) := by decide +kernel
theorem dX6_game_49 : decode cX6_game 49 = .ok (.iconst 0, 1) := by decide +kernel
theorem dX6_game_50 : decode cX6_game 50 = .ok (.istore 5, 2) := by decide +kernel
theorem dX6_game_52 : decode cX6_game 52 = .ok (.iconst 0, 1) := by decide +kernel
theorem dX6_game_53 : decode cX6_game 53 = .ok (.istore 6, 2) := by decide +kernel
theorem dX6_game_55 : decode cX6_game 55 = .ok (.iload 6, 2) := by decide +kernel
theorem dX6_game_57 : decode cX6_game 57 = .ok (.aload_n 0, 1) := by decide +kernel
theorem dX6_game_58 : decode cX6_game 58 = .ok (.getfield 9, 3) := by decide +kernel
theorem dX6_game_61 : decode cX6_game 61 = .ok (.bipush 6, 2) := by decide +kernel
theorem dX6_game_63 : decode cX6_game 63 = .ok (.iaload, 1) := by decide +kernel
theorem dX6_game_64 : decode cX6_game 64 = .ok (.if_icmp .ge 76, 3) := by decide +kernel
theorem dX6_game_67 : decode cX6_game 67 = .ok (.aload_n 0, 1) := by decide +kernel
theorem dX6_game_68 : decode cX6_game 68 = .ok (.iload_n 1, 1) := by decide +kernel
theorem dX6_game_69 : decode cX6_game 69 = .ok (.iload 6, 2) := by decide +kernel
theorem dX6_game_71 : decode cX6_game 71 = .ok (.invokevirtual 176, 3) := by decide +kernel
theorem dX6_game_74 : decode cX6_game 74 = .ok (.aload_n 0, 1) := by decide +kernel
theorem dX6_game_75 : decode cX6_game 75 = .ok (.iload_n 2, 1) := by decide +kernel
theorem dX6_game_76 : decode cX6_game 76 = .ok (.invokevirtual 221, 3) := by decide +kernel
theorem dX6_game_79 : decode cX6_game 79 = .ok (.aload_n 0, 1) := by decide +kernel
theorem dX6_game_80 : decode cX6_game 80 = .ok (.iload_n 1, 1) := by decide +kernel
theorem dX6_game_81 : decode cX6_game 81 = .ok (.invokevirtual 215, 3) := by decide +kernel
theorem dX6_game_84 : decode cX6_game 84 = .ok (.istore 7, 2) := by decide +kernel
theorem dX6_game_86 : decode cX6_game 86 = .ok (.iload 4, 2) := by decide +kernel
theorem dX6_game_88 : decode cX6_game 88 = .ok (.iconst (-1), 1) := by decide +kernel
theorem dX6_game_89 : decode cX6_game 89 = .ok (.if_icmp .eq 10, 3) := by decide +kernel
theorem dX6_game_92 : decode cX6_game 92 = .ok (.iload 7, 2) := by decide +kernel
theorem dX6_game_94 : decode cX6_game 94 = .ok (.iload 5, 2) := by decide +kernel
theorem dX6_game_96 : decode cX6_game 96 = .ok (.if_icmp .le 7, 3) := by decide +kernel
theorem dX6_game_99 : decode cX6_game 99 = .ok (.iconst 1, 1) := by decide +kernel
theorem dX6_game_100 : decode cX6_game 100 = .ok (.goto 4, 3) := by decide +kernel
theorem dX6_game_103 : decode cX6_game 103 = .ok (.iconst 0, 1) := by decide +kernel
theorem dX6_game_104 : decode cX6_game 104 = .ok (.istore 8, 2) := by decide +kernel
theorem dX6_game_106 : decode cX6_game 106 = .ok (.iload 8, 2) := by decide +kernel
theorem dX6_game_108 : decode cX6_game 108 = .ok (.ifCond .eq 8, 3) := by decide +kernel
theorem dX6_game_111 : decode cX6_game 111 = .ok (.iload 6, 2) := by decide +kernel
theorem dX6_game_113 : decode cX6_game 113 = .ok (.goto 5, 3) := by decide +kernel
theorem dX6_game_116 : decode cX6_game 116 = .ok (.iload 4, 2) := by decide +kernel
theorem dX6_game_118 : decode cX6_game 118 = .ok (.istore 4, 2) := by decide +kernel
theorem dX6_game_120 : decode cX6_game 120 = .ok (.iload 8, 2) := by decide +kernel
theorem dX6_game_122 : decode cX6_game 122 = .ok (.ifCond .eq 8, 3) := by decide +kernel
theorem dX6_game_125 : decode cX6_game 125 = .ok (.iload 7, 2) := by decide +kernel
theorem dX6_game_127 : decode cX6_game 127 = .ok (.goto 5, 3) := by decide +kernel
theorem dX6_game_130 : decode cX6_game 130 = .ok (.iload 5, 2) := by decide +kernel
theorem dX6_game_132 : decode cX6_game 132 = .ok (.istore 5, 2) := by decide +kernel
theorem dX6_game_134 : decode cX6_game 134 = .ok (.iinc 6 1, 3) := by decide +kernel
theorem dX6_game_137 : decode cX6_game 137 = .ok (.goto (-82), 3) := by decide +kernel
theorem dX6_game_140 : decode cX6_game 140 = .ok (.iload_n 3, 1) := by decide +kernel
theorem dX6_game_141 : decode cX6_game 141 = .ok (.ifCond .ne 8, 3) := by decide +kernel
theorem dX6_game_144 : decode cX6_game 144 = .ok (.iload 4, 2) := by decide +kernel
theorem dX6_game_146 : decode cX6_game 146 = .ok (.goto 5, 3) := by decide +kernel
theorem dX6_game_149 : decode cX6_game 149 = .ok (.iload 5, 2) := by decide +kernel
theorem dX6_game_151 : decode cX6_game 151 = .ok (.ireturn, 1) := by decide +kernel
abbrev rm_X6_game : Room := { frames := 5, cells := 0, slots := 0, locals := 126 }
abbrev jJ_X6_game (l : Launch) (G : jx_G) (sz : Nat) (out : (Int32 × jx_M)) (pc : Nat) (lv : List (Nat × Value)) (st : List Value) (σ : jx_M) : Prop := jx_J l (mm_env G) (mm_dyn G) (mm_rg G) sz RX6 "game" cX6_game 9 (some .int) rm_X6_game (fun below args s => MQ below (jx_Qi (mm_dyn G) out.2 out.1 (jx_A (mm_rg G) sz)) args s 0 0 (jx_A (mm_rg G) sz)) 0 0 pc lv st σ
def b_X6_game_132 (k55 : jx_M → Int32 → Int32 → Int32 → Int32 → Int32 → Int32 → Option (Int32 × jx_M)) (σ : jx_M) (v1 : Int32) (v2 : Int32) (v3 : Int32) (v4 : Int32) (v6 : Int32) (s0 : Int32) : Option (Int32 × jx_M) :=
  jx_lt (v6 + (1 : Int32)) (fun x1 => (k55 σ v1 v2 v3 v4 s0 x1))
set_option maxHeartbeats 4000000 in
set_option maxRecDepth 100000 in
theorem jb_X6_game_132 (l : Launch) (G : jx_G) (hG : mm_ok G) (sz : Nat) (out : (Int32 × jx_M)) (k55 : jx_M → Int32 → Int32 → Int32 → Int32 → Int32 → Int32 → Option (Int32 × jx_M)) (h55 : ∀ (σ : jx_M) (v1 : Int32) (v2 : Int32) (v3 : Int32) (v4 : Int32) (v5 : Int32) (v6 : Int32), k55 σ v1 v2 v3 v4 v5 v6 = some out → jJ_X6_game l G sz out 55 [(0, .ref (G.2 10)), (1, .int v1), (2, .int v2), (3, .int v3), (4, .int v4), (5, .int v5), (6, .int v6)] [] σ) (σ : jx_M) (v1 : Int32) (v2 : Int32) (v3 : Int32) (v4 : Int32) (v6 : Int32) (s0 : Int32) (h : b_X6_game_132 k55 σ v1 v2 v3 v4 v6 s0 = some out) : jJ_X6_game l G sz out 132 [(0, .ref (G.2 10)), (1, .int v1), (2, .int v2), (3, .int v3), (4, .int v4), (6, .int v6)] [.int s0] σ := by
  unfold b_X6_game_132 at h
  refine jx_istore (pc := 132) (i := 5) rfl (by decide) (lv' := [(5, .int s0), (0, .ref (G.2 10)), (1, .int v1), (2, .int v2), (3, .int v3), (4, .int v4), (6, .int v6)]) rfl dX6_game_132 ?_
  obtain ⟨x1, ex1, h⟩ := jx_lt_o h
  refine jx_iinc (pc := 134) (i := 6) (v := v6) rfl ex1 (n := 1) (by decide) (by decide) (lv' := [(6, .int x1), (5, .int s0), (0, .ref (G.2 10)), (1, .int v1), (2, .int v2), (3, .int v3), (4, .int v4)]) rfl dX6_game_134 ?_
  refine jx_goto (pc := 137) (tgt := 55) dX6_game_137 (by decide) ?_
  exact jx_sub [2, 3, 4, 5, 6, 1, 0] rfl (h55 σ v1 v2 v3 v4 s0 x1 h)
def b_X6_game_118 (k55 : jx_M → Int32 → Int32 → Int32 → Int32 → Int32 → Int32 → Option (Int32 × jx_M)) (σ : jx_M) (v1 : Int32) (v2 : Int32) (v3 : Int32) (v5 : Int32) (v6 : Int32) (v7 : Int32) (v8 : Int32) (s0 : Int32) : Option (Int32 × jx_M) :=
  if v8 = 0 then (b_X6_game_132 k55 σ v1 v2 v3 s0 v6 v5) else (b_X6_game_132 k55 σ v1 v2 v3 s0 v6 v7)
set_option maxHeartbeats 4000000 in
set_option maxRecDepth 100000 in
theorem jb_X6_game_118 (l : Launch) (G : jx_G) (hG : mm_ok G) (sz : Nat) (out : (Int32 × jx_M)) (k55 : jx_M → Int32 → Int32 → Int32 → Int32 → Int32 → Int32 → Option (Int32 × jx_M)) (h55 : ∀ (σ : jx_M) (v1 : Int32) (v2 : Int32) (v3 : Int32) (v4 : Int32) (v5 : Int32) (v6 : Int32), k55 σ v1 v2 v3 v4 v5 v6 = some out → jJ_X6_game l G sz out 55 [(0, .ref (G.2 10)), (1, .int v1), (2, .int v2), (3, .int v3), (4, .int v4), (5, .int v5), (6, .int v6)] [] σ) (σ : jx_M) (v1 : Int32) (v2 : Int32) (v3 : Int32) (v5 : Int32) (v6 : Int32) (v7 : Int32) (v8 : Int32) (s0 : Int32) (h : b_X6_game_118 k55 σ v1 v2 v3 v5 v6 v7 v8 s0 = some out) : jJ_X6_game l G sz out 118 [(0, .ref (G.2 10)), (1, .int v1), (2, .int v2), (3, .int v3), (5, .int v5), (6, .int v6), (7, .int v7), (8, .int v8)] [.int s0] σ := by
  unfold b_X6_game_118 at h
  refine jx_istore (pc := 118) (i := 4) rfl (by decide) (lv' := [(4, .int s0), (0, .ref (G.2 10)), (1, .int v1), (2, .int v2), (3, .int v3), (5, .int v5), (6, .int v6), (7, .int v7), (8, .int v8)]) rfl dX6_game_118 ?_
  refine jx_iload (pc := 120) (i := 8) rfl dX6_game_120 ?_
  refine jx_if_eq (pc := 122) (tgt := 130) dX6_game_122 (by decide) (fun c1 => ?_) (fun c1 => ?_)
  · have h := jx_t c1 h
    refine jx_iload (pc := 130) (i := 5) rfl dX6_game_130 ?_
    exact jx_sub [1, 2, 3, 4, 0, 6] rfl (jb_X6_game_132 l G hG sz out k55 h55 σ v1 v2 v3 s0 v6 v5 h)
  · have h := jx_f c1 h
    refine jx_iload (pc := 125) (i := 7) rfl dX6_game_125 ?_
    refine jx_goto (pc := 127) (tgt := 132) dX6_game_127 (by decide) ?_
    exact jx_sub [1, 2, 3, 4, 0, 6] rfl (jb_X6_game_132 l G hG sz out k55 h55 σ v1 v2 v3 s0 v6 v7 h)
def b_X6_game_104 (k55 : jx_M → Int32 → Int32 → Int32 → Int32 → Int32 → Int32 → Option (Int32 × jx_M)) (σ : jx_M) (v1 : Int32) (v2 : Int32) (v3 : Int32) (v4 : Int32) (v5 : Int32) (v6 : Int32) (v7 : Int32) (s0 : Int32) : Option (Int32 × jx_M) :=
  if s0 = 0 then (b_X6_game_118 k55 σ v1 v2 v3 v5 v6 v7 s0 v4) else (b_X6_game_118 k55 σ v1 v2 v3 v5 v6 v7 s0 v6)
set_option maxHeartbeats 4000000 in
set_option maxRecDepth 100000 in
theorem jb_X6_game_104 (l : Launch) (G : jx_G) (hG : mm_ok G) (sz : Nat) (out : (Int32 × jx_M)) (k55 : jx_M → Int32 → Int32 → Int32 → Int32 → Int32 → Int32 → Option (Int32 × jx_M)) (h55 : ∀ (σ : jx_M) (v1 : Int32) (v2 : Int32) (v3 : Int32) (v4 : Int32) (v5 : Int32) (v6 : Int32), k55 σ v1 v2 v3 v4 v5 v6 = some out → jJ_X6_game l G sz out 55 [(0, .ref (G.2 10)), (1, .int v1), (2, .int v2), (3, .int v3), (4, .int v4), (5, .int v5), (6, .int v6)] [] σ) (σ : jx_M) (v1 : Int32) (v2 : Int32) (v3 : Int32) (v4 : Int32) (v5 : Int32) (v6 : Int32) (v7 : Int32) (s0 : Int32) (h : b_X6_game_104 k55 σ v1 v2 v3 v4 v5 v6 v7 s0 = some out) : jJ_X6_game l G sz out 104 [(0, .ref (G.2 10)), (1, .int v1), (2, .int v2), (3, .int v3), (4, .int v4), (5, .int v5), (6, .int v6), (7, .int v7)] [.int s0] σ := by
  unfold b_X6_game_104 at h
  refine jx_istore (pc := 104) (i := 8) rfl (by decide) (lv' := [(8, .int s0), (0, .ref (G.2 10)), (1, .int v1), (2, .int v2), (3, .int v3), (4, .int v4), (5, .int v5), (6, .int v6), (7, .int v7)]) rfl dX6_game_104 ?_
  refine jx_iload (pc := 106) (i := 8) rfl dX6_game_106 ?_
  refine jx_if_eq (pc := 108) (tgt := 116) dX6_game_108 (by decide) (fun c1 => ?_) (fun c1 => ?_)
  · have h := jx_t c1 h
    refine jx_iload (pc := 116) (i := 4) rfl dX6_game_116 ?_
    exact jx_sub [1, 2, 3, 4, 6, 7, 8, 0] rfl (jb_X6_game_118 l G hG sz out k55 h55 σ v1 v2 v3 v5 v6 v7 s0 v4 h)
  · have h := jx_f c1 h
    refine jx_iload (pc := 111) (i := 6) rfl dX6_game_111 ?_
    refine jx_goto (pc := 113) (tgt := 118) dX6_game_113 (by decide) ?_
    exact jx_sub [1, 2, 3, 4, 6, 7, 8, 0] rfl (jb_X6_game_118 l G hG sz out k55 h55 σ v1 v2 v3 v5 v6 v7 s0 v6 h)
def b_X6_game_99 (k55 : jx_M → Int32 → Int32 → Int32 → Int32 → Int32 → Int32 → Option (Int32 × jx_M)) (σ : jx_M) (v1 : Int32) (v2 : Int32) (v3 : Int32) (v4 : Int32) (v5 : Int32) (v6 : Int32) (v7 : Int32) : Option (Int32 × jx_M) :=
  (b_X6_game_104 k55 σ v1 v2 v3 v4 v5 v6 v7 (1 : Int32))
set_option maxHeartbeats 4000000 in
set_option maxRecDepth 100000 in
theorem jb_X6_game_99 (l : Launch) (G : jx_G) (hG : mm_ok G) (sz : Nat) (out : (Int32 × jx_M)) (k55 : jx_M → Int32 → Int32 → Int32 → Int32 → Int32 → Int32 → Option (Int32 × jx_M)) (h55 : ∀ (σ : jx_M) (v1 : Int32) (v2 : Int32) (v3 : Int32) (v4 : Int32) (v5 : Int32) (v6 : Int32), k55 σ v1 v2 v3 v4 v5 v6 = some out → jJ_X6_game l G sz out 55 [(0, .ref (G.2 10)), (1, .int v1), (2, .int v2), (3, .int v3), (4, .int v4), (5, .int v5), (6, .int v6)] [] σ) (σ : jx_M) (v1 : Int32) (v2 : Int32) (v3 : Int32) (v4 : Int32) (v5 : Int32) (v6 : Int32) (v7 : Int32) (h : b_X6_game_99 k55 σ v1 v2 v3 v4 v5 v6 v7 = some out) : jJ_X6_game l G sz out 99 [(0, .ref (G.2 10)), (1, .int v1), (2, .int v2), (3, .int v3), (4, .int v4), (5, .int v5), (6, .int v6), (7, .int v7)] [] σ := by
  unfold b_X6_game_99 at h
  refine jx_iconst (pc := 99) (v := (1 : Int32)) (by decide) dX6_game_99 ?_
  refine jx_goto (pc := 100) (tgt := 104) dX6_game_100 (by decide) ?_
  exact jx_sub [0, 1, 2, 3, 4, 5, 6, 7] rfl (jb_X6_game_104 l G hG sz out k55 h55 σ v1 v2 v3 v4 v5 v6 v7 (1 : Int32) h)
def g_X6_game_55 (k55 : jx_M → Int32 → Int32 → Int32 → Int32 → Int32 → Int32 → Option (Int32 × jx_M)) (σ : jx_M) (v1 : Int32) (v2 : Int32) (v3 : Int32) (v4 : Int32) (v5 : Int32) (v6 : Int32) : Option (Int32 × jx_M) :=
  if (σ 1 6) ≤ v6 then if v3 = 0 then some (v4, σ) else some (v5, σ) else jx_bd (f_X6_lays σ v1 v6) (fun q3 => jx_bd (f_X6_looksForBest q3 v2) (fun q4 => jx_bd (f_X6_moreOf q4 v1) (fun q5 => if v4 = (-1 : Int32) then (b_X6_game_99 k55 q4 v1 v2 v3 v4 v5 v6 q5) else if q5 ≤ v5 then (b_X6_game_104 k55 q4 v1 v2 v3 v4 v5 v6 q5 (0 : Int32)) else (b_X6_game_99 k55 q4 v1 v2 v3 v4 v5 v6 q5))))
set_option maxHeartbeats 4000000 in
set_option maxRecDepth 100000 in
theorem jg_X6_game_55 (l : Launch) (G : jx_G) (hG : mm_ok G) (sz : Nat) (out : (Int32 × jx_M)) (k55 : jx_M → Int32 → Int32 → Int32 → Int32 → Int32 → Int32 → Option (Int32 × jx_M)) (h55 : ∀ (σ : jx_M) (v1 : Int32) (v2 : Int32) (v3 : Int32) (v4 : Int32) (v5 : Int32) (v6 : Int32), k55 σ v1 v2 v3 v4 v5 v6 = some out → jJ_X6_game l G sz out 55 [(0, .ref (G.2 10)), (1, .int v1), (2, .int v2), (3, .int v3), (4, .int v4), (5, .int v5), (6, .int v6)] [] σ) (σ : jx_M) (v1 : Int32) (v2 : Int32) (v3 : Int32) (v4 : Int32) (v5 : Int32) (v6 : Int32) (h : g_X6_game_55 k55 σ v1 v2 v3 v4 v5 v6 = some out) : jJ_X6_game l G sz out 55 [(0, .ref (G.2 10)), (1, .int v1), (2, .int v2), (3, .int v3), (4, .int v4), (5, .int v5), (6, .int v6)] [] σ := by
  unfold g_X6_game_55 at h
  refine jx_iload (pc := 55) (i := 6) rfl dX6_game_55 ?_
  refine jx_aload_n (pc := 57) (k0 := 0) rfl dX6_game_57 ?_
  refine mm_g_s (pc := 58) fl_X6_9 dX6_game_58 ?_
  refine jx_bipush (pc := 61) (v := (6 : Int32)) (by decide) dX6_game_61 ?_
  refine mm_l_s (pc := 63) (j := 6) (jx_in_o (by decide)) (by decide) dX6_game_63 ?_
  refine jx_icmp_ge (pc := 64) (tgt := 140) dX6_game_64 (by decide) (fun c1 => ?_) (fun c1 => ?_)
  · have h := jx_t c1 h
    refine jx_iload_n (pc := 140) (k0 := 3) rfl dX6_game_140 ?_
    refine jx_if_ne (pc := 141) (tgt := 149) dX6_game_141 (by decide) (fun c2 => ?_) (fun c2 => ?_)
    · have h := jx_f c2 h
      refine jx_iload (pc := 149) (i := 5) rfl dX6_game_149 ?_
      have h := Option.some.inj h
      subst h
      exact jx_iret (pc := 151) dX6_game_151
    · have h := jx_t c2 h
      refine jx_iload (pc := 144) (i := 4) rfl dX6_game_144 ?_
      refine jx_goto (pc := 146) (tgt := 151) dX6_game_146 (by decide) ?_
      have h := Option.some.inj h
      subst h
      exact jx_iret (pc := 151) dX6_game_151
  · have h := jx_f c1 h
    refine jx_aload_n (pc := 67) (k0 := 0) rfl dX6_game_67 ?_
    refine jx_iload_n (pc := 68) (k0 := 1) rfl dX6_game_68 ?_
    refine jx_iload (pc := 69) (i := 6) rfl dX6_game_69 ?_
    obtain ⟨q3, eq3, h⟩ := jx_bd_o h
    refine jx_callVv (pc := 71) [.int v1, .int v6] (fun sz' => k_X6_lays l G hG sz' σ v1 v6 q3 eq3) kv_X6_176 mm_jok mm_rc rfl rfl (Nat.le_of_ble_eq_true rfl) ⟨⟨rfl, rfl⟩, ⟨Nat.le_of_ble_eq_true rfl, Nat.le_of_ble_eq_true rfl⟩, Nat.zero_le _, Nat.zero_le _⟩ dX6_game_71 ?_
    refine jx_aload_n (pc := 74) (k0 := 0) rfl dX6_game_74 ?_
    refine jx_iload_n (pc := 75) (k0 := 2) rfl dX6_game_75 ?_
    obtain ⟨q4, eq4, h⟩ := jx_bd_o h
    refine jx_callVv (pc := 76) [.int v2] (fun sz' => k_X6_looksForBest l G hG sz' q3 v2 q4 eq4) kv_X6_221 mm_jok mm_rc rfl rfl (Nat.le_of_ble_eq_true rfl) ⟨⟨rfl, rfl⟩, ⟨Nat.le_of_ble_eq_true rfl, Nat.le_of_ble_eq_true rfl⟩, Nat.zero_le _, Nat.zero_le _⟩ dX6_game_76 ?_
    refine jx_aload_n (pc := 79) (k0 := 0) rfl dX6_game_79 ?_
    refine jx_iload_n (pc := 80) (k0 := 1) rfl dX6_game_80 ?_
    obtain ⟨q5, eq5, h⟩ := jx_bd_o h
    refine jx_callVi (pc := 81) [.int v1] (fun sz' => k_X6_moreOf l G hG sz' q4 v1 q5 eq5) kv_X6_215 mm_jok mm_rc rfl rfl (Nat.le_of_ble_eq_true rfl) ⟨⟨rfl, rfl⟩, ⟨Nat.le_of_ble_eq_true rfl, Nat.le_of_ble_eq_true rfl⟩, Nat.zero_le _, Nat.zero_le _⟩ dX6_game_81 ?_
    refine jx_istore (pc := 84) (i := 7) rfl (by decide) (lv' := [(7, .int q5), (0, .ref (G.2 10)), (1, .int v1), (2, .int v2), (3, .int v3), (4, .int v4), (5, .int v5), (6, .int v6)]) rfl dX6_game_84 ?_
    refine jx_iload (pc := 86) (i := 4) rfl dX6_game_86 ?_
    refine jx_iconst (pc := 88) (v := (-1 : Int32)) (by decide) dX6_game_88 ?_
    refine jx_icmp_eq (pc := 89) (tgt := 99) dX6_game_89 (by decide) (fun c6 => ?_) (fun c6 => ?_)
    · have h := jx_t c6 h
      exact jx_sub [1, 2, 3, 4, 5, 6, 7, 0] rfl (jb_X6_game_99 l G hG sz out k55 h55 q4 v1 v2 v3 v4 v5 v6 q5 h)
    · have h := jx_f c6 h
      refine jx_iload (pc := 92) (i := 7) rfl dX6_game_92 ?_
      refine jx_iload (pc := 94) (i := 5) rfl dX6_game_94 ?_
      refine jx_icmp_le (pc := 96) (tgt := 103) dX6_game_96 (by decide) (fun c7 => ?_) (fun c7 => ?_)
      · have h := jx_t c7 h
        refine jx_iconst (pc := 103) (v := (0 : Int32)) (by decide) dX6_game_103 ?_
        exact jx_sub [1, 2, 3, 4, 5, 6, 7, 0] rfl (jb_X6_game_104 l G hG sz out k55 h55 q4 v1 v2 v3 v4 v5 v6 q5 (0 : Int32) h)
      · have h := jx_f c7 h
        exact jx_sub [1, 2, 3, 4, 5, 6, 7, 0] rfl (jb_X6_game_99 l G hG sz out k55 h55 q4 v1 v2 v3 v4 v5 v6 q5 h)
def b_X6_game_55  : Nat → jx_M → Int32 → Int32 → Int32 → Int32 → Int32 → Int32 → Option (Int32 × jx_M)
  | 0, _, _, _, _, _, _, _ => none
  | n + 1, σ, v1, v2, v3, v4, v5, v6 => g_X6_game_55 (b_X6_game_55 n) σ v1 v2 v3 v4 v5 v6
theorem jb_X6_game_55 (l : Launch) (G : jx_G) (hG : mm_ok G) (sz : Nat) (out : (Int32 × jx_M))  : ∀ (n : Nat) (σ : jx_M) (v1 : Int32) (v2 : Int32) (v3 : Int32) (v4 : Int32) (v5 : Int32) (v6 : Int32), b_X6_game_55 n σ v1 v2 v3 v4 v5 v6 = some out → jJ_X6_game l G sz out 55 [(0, .ref (G.2 10)), (1, .int v1), (2, .int v2), (3, .int v3), (4, .int v4), (5, .int v5), (6, .int v6)] [] σ := by
  intro n
  induction n with
  | zero =>
    intro σ v1 v2 v3 v4 v5 v6 h
    cases h
  | succ n ih =>
    intro σ v1 v2 v3 v4 v5 v6 h
    exact jg_X6_game_55 l G hG sz out (b_X6_game_55 n) ih σ v1 v2 v3 v4 v5 v6 h
def f_X6_game (σ : jx_M) (a1 : Int32) (a2 : Int32) (a3 : Int32) : Option (Int32 × jx_M) :=
  jx_bd (f_X6_isVoter σ a1) (fun q1 => if q1 = 0 then some ((-1001 : Int32), σ) else jx_bd (f_X6_isVoter σ a2) (fun q3 => if q3 = 0 then some ((-1001 : Int32), σ) else jx_bd (f_X6_in a3 (0 : Int32) (1 : Int32)) (fun q5 => if q5 = 0 then some ((-1001 : Int32), σ) else if a1 = a2 then some ((-1002 : Int32), σ) else jx_bd (f_X6_looksForNight σ) (fun q8 => jx_bd (f_X6_laysAll q8) (fun q9 => (b_X6_game_55 jx_fuel q9 a1 a2 a3 (-1 : Int32) (0 : Int32) (0 : Int32)))))))
set_option maxHeartbeats 4000000 in
set_option maxRecDepth 100000 in
theorem k_X6_game (l : Launch) (G : jx_G) (hG : mm_ok G) (sz : Nat) (σ : jx_M) (a1 : Int32) (a2 : Int32) (a3 : Int32) (out : (Int32 × jx_M)) (h : f_X6_game σ a1 a2 a3 = some out) : Met l yX6_game (Cond.code yX6_game cX6_game 9 (some .int) :: jx_ws) rm_X6_game (jx_Pc (mm_env G) (mm_dyn G) (mm_rg G) sz σ [.ref (G.2 10), .int a1, .int a2, .int a3]) (jx_Qi (mm_dyn G) out.2 out.1 (jx_A (mm_rg G) sz)) 0 0 (jx_A (mm_rg G) sz) := by
  unfold f_X6_game at h
  refine jx_met (by decide) (Nat.le_of_ble_eq_true rfl) ?_
  refine jx_sub (lv' := [(0, .ref (G.2 10)), (1, .int a1), (2, .int a2), (3, .int a3)]) [0, 1, 2, 3] rfl ?_
  refine jx_aload_n (pc := 0) (k0 := 0) rfl dX6_game_0 ?_
  refine jx_iload_n (pc := 1) (k0 := 1) rfl dX6_game_1 ?_
  obtain ⟨q1, eq1, h⟩ := jx_bd_o h
  refine jx_callVi (pc := 2) [.int a1] (fun sz' => k_X6_isVoter l G hG sz' σ a1 q1 eq1) kv_X6_163 mm_jok mm_rc rfl rfl (Nat.le_of_ble_eq_true rfl) ⟨⟨rfl, rfl⟩, ⟨Nat.le_of_ble_eq_true rfl, Nat.le_of_ble_eq_true rfl⟩, Nat.zero_le _, Nat.zero_le _⟩ dX6_game_2 ?_
  refine jx_if_eq (pc := 5) (tgt := 25) dX6_game_5 (by decide) (fun c2 => ?_) (fun c2 => ?_)
  · have h := jx_t c2 h
    refine jx_sipush (pc := 25) (v := (-1001 : Int32)) (by decide) dX6_game_25 ?_
    have h := Option.some.inj h
    subst h
    exact jx_iret (pc := 28) dX6_game_28
  · have h := jx_f c2 h
    refine jx_aload_n (pc := 8) (k0 := 0) rfl dX6_game_8 ?_
    refine jx_iload_n (pc := 9) (k0 := 2) rfl dX6_game_9 ?_
    obtain ⟨q3, eq3, h⟩ := jx_bd_o h
    refine jx_callVi (pc := 10) [.int a2] (fun sz' => k_X6_isVoter l G hG sz' σ a2 q3 eq3) kv_X6_163 mm_jok mm_rc rfl rfl (Nat.le_of_ble_eq_true rfl) ⟨⟨rfl, rfl⟩, ⟨Nat.le_of_ble_eq_true rfl, Nat.le_of_ble_eq_true rfl⟩, Nat.zero_le _, Nat.zero_le _⟩ dX6_game_10 ?_
    refine jx_if_eq (pc := 13) (tgt := 25) dX6_game_13 (by decide) (fun c4 => ?_) (fun c4 => ?_)
    · have h := jx_t c4 h
      refine jx_sipush (pc := 25) (v := (-1001 : Int32)) (by decide) dX6_game_25 ?_
      have h := Option.some.inj h
      subst h
      exact jx_iret (pc := 28) dX6_game_28
    · have h := jx_f c4 h
      refine jx_iload_n (pc := 16) (k0 := 3) rfl dX6_game_16 ?_
      refine jx_iconst (pc := 17) (v := (0 : Int32)) (by decide) dX6_game_17 ?_
      refine jx_iconst (pc := 18) (v := (1 : Int32)) (by decide) dX6_game_18 ?_
      obtain ⟨q5, eq5, h⟩ := jx_bd_o h
      refine jx_callSi (pc := 19) [.int a3, .int (0 : Int32), .int (1 : Int32)] (fun sz' => k_X6_in l G hG sz' σ a3 (0 : Int32) (1 : Int32) q5 eq5) ks_X6_48 mm_jok rfl rfl (Nat.le_of_ble_eq_true rfl) ⟨⟨rfl, rfl⟩, ⟨Nat.le_of_ble_eq_true rfl, Nat.le_of_ble_eq_true rfl⟩, Nat.zero_le _, Nat.zero_le _⟩ dX6_game_19 ?_
      refine jx_if_ne (pc := 22) (tgt := 29) dX6_game_22 (by decide) (fun c6 => ?_) (fun c6 => ?_)
      · have h := jx_f c6 h
        refine jx_iload_n (pc := 29) (k0 := 1) rfl dX6_game_29 ?_
        refine jx_iload_n (pc := 30) (k0 := 2) rfl dX6_game_30 ?_
        refine jx_icmp_ne (pc := 31) (tgt := 38) dX6_game_31 (by decide) (fun c7 => ?_) (fun c7 => ?_)
        · have h := jx_f c7 h
          refine jx_aload_n (pc := 38) (k0 := 0) rfl dX6_game_38 ?_
          obtain ⟨q8, eq8, h⟩ := jx_bd_o h
          refine jx_callVv (pc := 39) [] (fun sz' => k_X6_looksForNight l G hG sz' σ q8 eq8) kv_X6_185 mm_jok mm_rc rfl rfl (Nat.le_of_ble_eq_true rfl) ⟨⟨rfl, rfl⟩, ⟨Nat.le_of_ble_eq_true rfl, Nat.le_of_ble_eq_true rfl⟩, Nat.zero_le _, Nat.zero_le _⟩ dX6_game_39 ?_
          refine jx_aload_n (pc := 42) (k0 := 0) rfl dX6_game_42 ?_
          obtain ⟨q9, eq9, h⟩ := jx_bd_o h
          refine jx_callVv (pc := 43) [] (fun sz' => k_X6_laysAll l G hG sz' q8 q9 eq9) kv_X6_188 mm_jok mm_rc rfl rfl (Nat.le_of_ble_eq_true rfl) ⟨⟨rfl, rfl⟩, ⟨Nat.le_of_ble_eq_true rfl, Nat.le_of_ble_eq_true rfl⟩, Nat.zero_le _, Nat.zero_le _⟩ dX6_game_43 ?_
          refine jx_iconst (pc := 46) (v := (-1 : Int32)) (by decide) dX6_game_46 ?_
          refine jx_istore (pc := 47) (i := 4) rfl (by decide) (lv' := [(4, .int (-1 : Int32)), (0, .ref (G.2 10)), (1, .int a1), (2, .int a2), (3, .int a3)]) rfl dX6_game_47 ?_
          refine jx_iconst (pc := 49) (v := (0 : Int32)) (by decide) dX6_game_49 ?_
          refine jx_istore (pc := 50) (i := 5) rfl (by decide) (lv' := [(5, .int (0 : Int32)), (4, .int (-1 : Int32)), (0, .ref (G.2 10)), (1, .int a1), (2, .int a2), (3, .int a3)]) rfl dX6_game_50 ?_
          refine jx_iconst (pc := 52) (v := (0 : Int32)) (by decide) dX6_game_52 ?_
          refine jx_istore (pc := 53) (i := 6) rfl (by decide) (lv' := [(6, .int (0 : Int32)), (5, .int (0 : Int32)), (4, .int (-1 : Int32)), (0, .ref (G.2 10)), (1, .int a1), (2, .int a2), (3, .int a3)]) rfl dX6_game_53 ?_
          exact jx_sub [3, 4, 5, 6, 2, 1, 0] rfl (jb_X6_game_55 l G hG sz out jx_fuel q9 a1 a2 a3 (-1 : Int32) (0 : Int32) (0 : Int32) h)
        · have h := jx_t c7 h
          refine jx_sipush (pc := 34) (v := (-1002 : Int32)) (by decide) dX6_game_34 ?_
          have h := Option.some.inj h
          subst h
          exact jx_iret (pc := 37) dX6_game_37
      · have h := jx_t c6 h
        refine jx_sipush (pc := 25) (v := (-1001 : Int32)) (by decide) dX6_game_25 ?_
        have h := Option.some.inj h
        subst h
        exact jx_iret (pc := 28) dX6_game_28
theorem dX6_fits_0 : decode cX6_fits 0 = .ok (.aload_n 0, 1) := by decide +kernel
theorem dX6_fits_1 : decode cX6_fits 1 = .ok (.iload_n 1, 1) := by decide +kernel
theorem dX6_fits_2 : decode cX6_fits 2 = .ok (.invokevirtual 163, 3) := by decide +kernel
theorem dX6_fits_5 : decode cX6_fits 5 = .ok (.ifCond .ne 5, 3) := by decide +kernel
theorem dX6_fits_8 : decode cX6_fits 8 = .ok (.iconst (-1), 1) := by decide +kernel
theorem dX6_fits_9 : decode cX6_fits 9 = .ok (.ireturn, 1) := by decide +kernel
theorem dX6_fits_10 : decode cX6_fits 10 = .ok (.aload_n 0, 1) := by decide +kernel
theorem dX6_fits_11 : decode cX6_fits 11 = .ok (.invokevirtual 185, 3) := by decide +kernel
theorem dX6_fits_14 : decode cX6_fits 14 = .ok (.aload_n 0, 1) := by decide +kernel
theorem dX6_fits_15 : decode cX6_fits 15 = .ok (.invokevirtual 188, 3) := by decide +kernel
theorem dX6_fits_18 : decode cX6_fits 18 = .ok (.iconst 0, 1) := by decide +kernel
theorem dX6_fits_19 : decode cX6_fits 19 = .ok (.istore_n 2, 1) := by decide +kernel
theorem dX6_fits_20 : decode cX6_fits 20 = .ok (.iconst 0, 1) := by decide +kernel
theorem dX6_fits_21 : decode cX6_fits 21 = .ok (.istore_n 3, 1) := by decide +kernel
theorem dX6_fits_22 : decode cX6_fits 22 = .ok (.iload_n 3, 1) := by decide +kernel
theorem dX6_fits_23 : decode cX6_fits 23 = .ok (.aload_n 0, 1) := by decide +kernel
theorem dX6_fits_24 : decode cX6_fits 24 = .ok (.getfield 9, 3) := by decide +kernel
theorem dX6_fits_27 : decode cX6_fits 27 = .ok (.bipush 6, 2) := by decide +kernel
theorem dX6_fits_29 : decode cX6_fits 29 = .ok (.iaload, 1) := by decide +kernel
theorem dX6_fits_30 : decode cX6_fits 30 = .ok (.if_icmp .ge 92, 3) := by decide +kernel
theorem dX6_fits_33 : decode cX6_fits 33 = .ok (.aload_n 0, 1) := by decide +kernel
theorem dX6_fits_34 : decode cX6_fits 34 = .ok (.iload_n 1, 1) := by decide +kernel
theorem dX6_fits_35 : decode cX6_fits 35 = .ok (.iload_n 3, 1) := by decide +kernel
theorem dX6_fits_36 : decode cX6_fits 36 = .ok (.invokevirtual 176, 3) := by decide +kernel
theorem dX6_fits_39 : decode cX6_fits 39 = .ok (.iconst 1, 1) := by decide +kernel
theorem dX6_fits_40 : decode cX6_fits 40 = .ok (.istore 4, 2) := by decide +kernel
theorem dX6_fits_42 : decode cX6_fits 42 = .ok (.iconst 0, 1) := by decide +kernel
theorem dX6_fits_43 : decode cX6_fits 43 = .ok (.istore 5, 2) := by decide +kernel
theorem dX6_fits_45 : decode cX6_fits 45 = .ok (.iload 5, 2) := by decide +kernel
theorem dX6_fits_47 : decode cX6_fits 47 = .ok (.aload_n 0, 1) := by decide +kernel
theorem dX6_fits_48 : decode cX6_fits 48 = .ok (.getfield 9, 3) := by decide +kernel
theorem dX6_fits_51 : decode cX6_fits 51 = .ok (.iconst 2, 1) := by decide +kernel
theorem dX6_fits_52 : decode cX6_fits 52 = .ok (.iaload, 1) := by decide +kernel
theorem dX6_fits_53 : decode cX6_fits 53 = .ok (.if_icmp .ge 48, 3) := by decide +kernel
theorem dX6_fits_56 : decode cX6_fits 56 = .ok (.iload 4, 2) := by decide +kernel
theorem dX6_fits_58 : decode cX6_fits 58 = .ok (.ifCond .eq 34, 3) := by decide +kernel
theorem dX6_fits_61 : decode cX6_fits 61 = .ok (.aload_n 0, 1) := by decide +kernel
theorem dX6_fits_62 : decode cX6_fits 62 = .ok (.aload_n 0, 1) := by decide +kernel
theorem dX6_fits_63 : decode cX6_fits 63 = .ok (.getfield 9, 3) := by decide +kernel
theorem dX6_fits_66 : decode cX6_fits 66 = .ok (.bipush 79, 2) := by decide +kernel
theorem dX6_fits_68 : decode cX6_fits 68 = .ok (.iload 5, 2) := by decide +kernel
theorem dX6_fits_70 : decode cX6_fits 70 = .ok (.iadd, 1) := by decide +kernel
theorem dX6_fits_71 : decode cX6_fits 71 = .ok (.iaload, 1) := by decide +kernel
theorem dX6_fits_72 : decode cX6_fits 72 = .ok (.invokevirtual 224, 3) := by decide +kernel
theorem dX6_fits_75 : decode cX6_fits 75 = .ok (.aload_n 0, 1) := by decide +kernel
theorem dX6_fits_76 : decode cX6_fits 76 = .ok (.getfield 9, 3) := by decide +kernel
theorem dX6_fits_79 : decode cX6_fits 79 = .ok (.bipush 85, 2) := by decide +kernel
theorem dX6_fits_81 : decode cX6_fits 81 = .ok (.iload 5, 2) := by decide +kernel
theorem dX6_fits_83 : decode cX6_fits 83 = .ok (.iadd, 1) := by decide +kernel
theorem dX6_fits_84 : decode cX6_fits 84 = .ok (.iaload, 1) := by decide +kernel
theorem dX6_fits_85 : decode cX6_fits 85 = .ok (.if_icmp .ne 7, 3) := by decide +kernel
theorem dX6_fits_88 : decode cX6_fits 88 = .ok (.iconst 1, 1) := by decide +kernel
theorem dX6_fits_89 : decode cX6_fits 89 = .ok (.goto 4, 3) := by decide +kernel
theorem dX6_fits_92 : decode cX6_fits 92 = .ok (.iconst 0, 1) := by decide +kernel
theorem dX6_fits_93 : decode cX6_fits 93 = .ok (.istore 4, 2) := by decide +kernel
theorem dX6_fits_95 : decode cX6_fits 95 = .ok (.iinc 5 1, 3) := by decide +kernel
theorem dX6_fits_98 : decode cX6_fits 98 = .ok (.goto (-53), 3) := by decide +kernel
theorem dX6_fits_101 : decode cX6_fits 101 = .ok (.iload_n 2, 1) := by decide +kernel
theorem dX6_fits_102 : decode cX6_fits 102 = .ok (.iload 4, 2) := by decide +kernel
theorem dX6_fits_104 : decode cX6_fits 104 = .ok (.ifCond .eq 9, 3) := by decide +kernel
theorem dX6_fits_107 : decode cX6_fits 107 = .ok (.iconst 1, 1) := by decide +kernel
theorem dX6_fits_108 : decode cX6_fits 108 = .ok (.iload_n 3, 1) := by decide +kernel
theorem dX6_fits_109 : decode cX6_fits 109 = .ok (.ishl, 1) := by decide +kernel
theorem dX6_fits_110 : decode cX6_fits 110 = .ok (.goto 4, 3) := by decide +kernel
theorem dX6_fits_113 : decode cX6_fits 113 = .ok (.iconst 0, 1) := by decide +kernel
theorem dX6_fits_114 : decode cX6_fits 114 = .ok (.ior, 1) := by decide +kernel
theorem dX6_fits_115 : decode cX6_fits 115 = .ok (.istore_n 2, 1) := by decide +kernel
theorem dX6_fits_116 : decode cX6_fits 116 = .ok (.iinc 3 1, 3) := by decide +kernel
theorem dX6_fits_119 : decode cX6_fits 119 = .ok (.goto (-97), 3) := by decide +kernel
theorem dX6_fits_122 : decode cX6_fits 122 = .ok (.iload_n 2, 1) := by decide +kernel
theorem dX6_fits_123 : decode cX6_fits 123 = .ok (.ireturn, 1) := by decide +kernel
abbrev rm_X6_fits : Room := { frames := 5, cells := 0, slots := 0, locals := 123 }
abbrev jJ_X6_fits (l : Launch) (G : jx_G) (sz : Nat) (out : (Int32 × jx_M)) (pc : Nat) (lv : List (Nat × Value)) (st : List Value) (σ : jx_M) : Prop := jx_J l (mm_env G) (mm_dyn G) (mm_rg G) sz RX6 "fits" cX6_fits 6 (some .int) rm_X6_fits (fun below args s => MQ below (jx_Qi (mm_dyn G) out.2 out.1 (jx_A (mm_rg G) sz)) args s 0 0 (jx_A (mm_rg G) sz)) 0 0 pc lv st σ
def b_X6_fits_93 (k22 : jx_M → Int32 → Int32 → Int32 → Option (Int32 × jx_M)) (k45 : jx_M → Int32 → Int32 → Int32 → Int32 → Int32 → Option (Int32 × jx_M)) (σ : jx_M) (v1 : Int32) (v2 : Int32) (v3 : Int32) (v5 : Int32) (s0 : Int32) : Option (Int32 × jx_M) :=
  jx_lt (v5 + (1 : Int32)) (fun x1 => (k45 σ v1 v2 v3 s0 x1))
set_option maxHeartbeats 4000000 in
set_option maxRecDepth 100000 in
theorem jb_X6_fits_93 (l : Launch) (G : jx_G) (hG : mm_ok G) (sz : Nat) (out : (Int32 × jx_M)) (k22 : jx_M → Int32 → Int32 → Int32 → Option (Int32 × jx_M)) (h22 : ∀ (σ : jx_M) (v1 : Int32) (v2 : Int32) (v3 : Int32), k22 σ v1 v2 v3 = some out → jJ_X6_fits l G sz out 22 [(0, .ref (G.2 10)), (1, .int v1), (2, .int v2), (3, .int v3)] [] σ) (k45 : jx_M → Int32 → Int32 → Int32 → Int32 → Int32 → Option (Int32 × jx_M)) (h45 : ∀ (σ : jx_M) (v1 : Int32) (v2 : Int32) (v3 : Int32) (v4 : Int32) (v5 : Int32), k45 σ v1 v2 v3 v4 v5 = some out → jJ_X6_fits l G sz out 45 [(0, .ref (G.2 10)), (1, .int v1), (2, .int v2), (3, .int v3), (4, .int v4), (5, .int v5)] [] σ) (σ : jx_M) (v1 : Int32) (v2 : Int32) (v3 : Int32) (v5 : Int32) (s0 : Int32) (h : b_X6_fits_93 k22 k45 σ v1 v2 v3 v5 s0 = some out) : jJ_X6_fits l G sz out 93 [(0, .ref (G.2 10)), (1, .int v1), (2, .int v2), (3, .int v3), (5, .int v5)] [.int s0] σ := by
  unfold b_X6_fits_93 at h
  refine jx_istore (pc := 93) (i := 4) rfl (by decide) (lv' := [(4, .int s0), (0, .ref (G.2 10)), (1, .int v1), (2, .int v2), (3, .int v3), (5, .int v5)]) rfl dX6_fits_93 ?_
  obtain ⟨x1, ex1, h⟩ := jx_lt_o h
  refine jx_iinc (pc := 95) (i := 5) (v := v5) rfl ex1 (n := 1) (by decide) (by decide) (lv' := [(5, .int x1), (4, .int s0), (0, .ref (G.2 10)), (1, .int v1), (2, .int v2), (3, .int v3)]) rfl dX6_fits_95 ?_
  refine jx_goto (pc := 98) (tgt := 45) dX6_fits_98 (by decide) ?_
  exact jx_sub [2, 3, 4, 5, 1, 0] rfl (h45 σ v1 v2 v3 s0 x1 h)
def b_X6_fits_92 (k22 : jx_M → Int32 → Int32 → Int32 → Option (Int32 × jx_M)) (k45 : jx_M → Int32 → Int32 → Int32 → Int32 → Int32 → Option (Int32 × jx_M)) (σ : jx_M) (v1 : Int32) (v2 : Int32) (v3 : Int32) (v5 : Int32) : Option (Int32 × jx_M) :=
  (b_X6_fits_93 k22 k45 σ v1 v2 v3 v5 (0 : Int32))
set_option maxHeartbeats 4000000 in
set_option maxRecDepth 100000 in
theorem jb_X6_fits_92 (l : Launch) (G : jx_G) (hG : mm_ok G) (sz : Nat) (out : (Int32 × jx_M)) (k22 : jx_M → Int32 → Int32 → Int32 → Option (Int32 × jx_M)) (h22 : ∀ (σ : jx_M) (v1 : Int32) (v2 : Int32) (v3 : Int32), k22 σ v1 v2 v3 = some out → jJ_X6_fits l G sz out 22 [(0, .ref (G.2 10)), (1, .int v1), (2, .int v2), (3, .int v3)] [] σ) (k45 : jx_M → Int32 → Int32 → Int32 → Int32 → Int32 → Option (Int32 × jx_M)) (h45 : ∀ (σ : jx_M) (v1 : Int32) (v2 : Int32) (v3 : Int32) (v4 : Int32) (v5 : Int32), k45 σ v1 v2 v3 v4 v5 = some out → jJ_X6_fits l G sz out 45 [(0, .ref (G.2 10)), (1, .int v1), (2, .int v2), (3, .int v3), (4, .int v4), (5, .int v5)] [] σ) (σ : jx_M) (v1 : Int32) (v2 : Int32) (v3 : Int32) (v5 : Int32) (h : b_X6_fits_92 k22 k45 σ v1 v2 v3 v5 = some out) : jJ_X6_fits l G sz out 92 [(0, .ref (G.2 10)), (1, .int v1), (2, .int v2), (3, .int v3), (5, .int v5)] [] σ := by
  unfold b_X6_fits_92 at h
  refine jx_iconst (pc := 92) (v := (0 : Int32)) (by decide) dX6_fits_92 ?_
  exact jx_sub [0, 1, 2, 3, 4] rfl (jb_X6_fits_93 l G hG sz out k22 h22 k45 h45 σ v1 v2 v3 v5 (0 : Int32) h)
def b_X6_fits_114 (k22 : jx_M → Int32 → Int32 → Int32 → Option (Int32 × jx_M)) (σ : jx_M) (v1 : Int32) (v3 : Int32) (s0 : Int32) (s1 : Int32) : Option (Int32 × jx_M) :=
  jx_lt ((s1 ||| s0)) (fun x1 => jx_lt (v3 + (1 : Int32)) (fun x2 => (k22 σ v1 x1 x2)))
set_option maxHeartbeats 4000000 in
set_option maxRecDepth 100000 in
theorem jb_X6_fits_114 (l : Launch) (G : jx_G) (hG : mm_ok G) (sz : Nat) (out : (Int32 × jx_M)) (k22 : jx_M → Int32 → Int32 → Int32 → Option (Int32 × jx_M)) (h22 : ∀ (σ : jx_M) (v1 : Int32) (v2 : Int32) (v3 : Int32), k22 σ v1 v2 v3 = some out → jJ_X6_fits l G sz out 22 [(0, .ref (G.2 10)), (1, .int v1), (2, .int v2), (3, .int v3)] [] σ) (σ : jx_M) (v1 : Int32) (v3 : Int32) (s0 : Int32) (s1 : Int32) (h : b_X6_fits_114 k22 σ v1 v3 s0 s1 = some out) : jJ_X6_fits l G sz out 114 [(0, .ref (G.2 10)), (1, .int v1), (3, .int v3)] [.int s0, .int s1] σ := by
  unfold b_X6_fits_114 at h
  refine jx_ior (pc := 114) dX6_fits_114 ?_
  obtain ⟨x1, ex1, h⟩ := jx_lt_o h
  refine jx_istore_n (pc := 115) (i := 2) rfl ex1 (by decide) (lv' := [(2, .int x1), (0, .ref (G.2 10)), (1, .int v1), (3, .int v3)]) rfl dX6_fits_115 ?_
  obtain ⟨x2, ex2, h⟩ := jx_lt_o h
  refine jx_iinc (pc := 116) (i := 3) (v := v3) rfl ex2 (n := 1) (by decide) (by decide) (lv' := [(3, .int x2), (2, .int x1), (0, .ref (G.2 10)), (1, .int v1)]) rfl dX6_fits_116 ?_
  refine jx_goto (pc := 119) (tgt := 22) dX6_fits_119 (by decide) ?_
  exact jx_sub [2, 3, 1, 0] rfl (h22 σ v1 x1 x2 h)
def g_X6_fits_45 (k22 : jx_M → Int32 → Int32 → Int32 → Option (Int32 × jx_M)) (k45 : jx_M → Int32 → Int32 → Int32 → Int32 → Int32 → Option (Int32 × jx_M)) (σ : jx_M) (v1 : Int32) (v2 : Int32) (v3 : Int32) (v4 : Int32) (v5 : Int32) : Option (Int32 × jx_M) :=
  if (σ 1 2) ≤ v5 then if v4 = 0 then (b_X6_fits_114 k22 σ v1 v3 (0 : Int32) v2) else (b_X6_fits_114 k22 σ v1 v3 ((1 : Int32) <<< (v3 &&& 31)) v2) else if v4 = 0 then (b_X6_fits_92 k22 k45 σ v1 v2 v3 v5) else jx_gd (jx_in ((79 : Int32) + v5) 920) (jx_bd (f_X6_lampsAt σ (σ 1 ((79 : Int32) + v5).toNatClampNeg)) (fun q5 => jx_gd (jx_in ((85 : Int32) + v5) 920) (if q5 = (σ 1 ((85 : Int32) + v5).toNatClampNeg) then (b_X6_fits_93 k22 k45 σ v1 v2 v3 v5 (1 : Int32)) else (b_X6_fits_92 k22 k45 σ v1 v2 v3 v5))))
set_option maxHeartbeats 4000000 in
set_option maxRecDepth 100000 in
theorem jg_X6_fits_45 (l : Launch) (G : jx_G) (hG : mm_ok G) (sz : Nat) (out : (Int32 × jx_M)) (k22 : jx_M → Int32 → Int32 → Int32 → Option (Int32 × jx_M)) (h22 : ∀ (σ : jx_M) (v1 : Int32) (v2 : Int32) (v3 : Int32), k22 σ v1 v2 v3 = some out → jJ_X6_fits l G sz out 22 [(0, .ref (G.2 10)), (1, .int v1), (2, .int v2), (3, .int v3)] [] σ) (k45 : jx_M → Int32 → Int32 → Int32 → Int32 → Int32 → Option (Int32 × jx_M)) (h45 : ∀ (σ : jx_M) (v1 : Int32) (v2 : Int32) (v3 : Int32) (v4 : Int32) (v5 : Int32), k45 σ v1 v2 v3 v4 v5 = some out → jJ_X6_fits l G sz out 45 [(0, .ref (G.2 10)), (1, .int v1), (2, .int v2), (3, .int v3), (4, .int v4), (5, .int v5)] [] σ) (σ : jx_M) (v1 : Int32) (v2 : Int32) (v3 : Int32) (v4 : Int32) (v5 : Int32) (h : g_X6_fits_45 k22 k45 σ v1 v2 v3 v4 v5 = some out) : jJ_X6_fits l G sz out 45 [(0, .ref (G.2 10)), (1, .int v1), (2, .int v2), (3, .int v3), (4, .int v4), (5, .int v5)] [] σ := by
  unfold g_X6_fits_45 at h
  refine jx_iload (pc := 45) (i := 5) rfl dX6_fits_45 ?_
  refine jx_aload_n (pc := 47) (k0 := 0) rfl dX6_fits_47 ?_
  refine mm_g_s (pc := 48) fl_X6_9 dX6_fits_48 ?_
  refine jx_iconst (pc := 51) (v := (2 : Int32)) (by decide) dX6_fits_51 ?_
  refine mm_l_s (pc := 52) (j := 2) (jx_in_o (by decide)) (by decide) dX6_fits_52 ?_
  refine jx_icmp_ge (pc := 53) (tgt := 101) dX6_fits_53 (by decide) (fun c1 => ?_) (fun c1 => ?_)
  · have h := jx_t c1 h
    refine jx_iload_n (pc := 101) (k0 := 2) rfl dX6_fits_101 ?_
    refine jx_iload (pc := 102) (i := 4) rfl dX6_fits_102 ?_
    refine jx_if_eq (pc := 104) (tgt := 113) dX6_fits_104 (by decide) (fun c2 => ?_) (fun c2 => ?_)
    · have h := jx_t c2 h
      refine jx_iconst (pc := 113) (v := (0 : Int32)) (by decide) dX6_fits_113 ?_
      exact jx_sub [0, 1, 3] rfl (jb_X6_fits_114 l G hG sz out k22 h22 σ v1 v3 (0 : Int32) v2 h)
    · have h := jx_f c2 h
      refine jx_iconst (pc := 107) (v := (1 : Int32)) (by decide) dX6_fits_107 ?_
      refine jx_iload_n (pc := 108) (k0 := 3) rfl dX6_fits_108 ?_
      refine jx_ishl (pc := 109) dX6_fits_109 ?_
      refine jx_goto (pc := 110) (tgt := 114) dX6_fits_110 (by decide) ?_
      exact jx_sub [0, 1, 3] rfl (jb_X6_fits_114 l G hG sz out k22 h22 σ v1 v3 ((1 : Int32) <<< (v3 &&& 31)) v2 h)
  · have h := jx_f c1 h
    refine jx_iload (pc := 56) (i := 4) rfl dX6_fits_56 ?_
    refine jx_if_eq (pc := 58) (tgt := 92) dX6_fits_58 (by decide) (fun c3 => ?_) (fun c3 => ?_)
    · have h := jx_t c3 h
      exact jx_sub [0, 1, 2, 3, 5] rfl (jb_X6_fits_92 l G hG sz out k22 h22 k45 h45 σ v1 v2 v3 v5 h)
    · have h := jx_f c3 h
      refine jx_aload_n (pc := 61) (k0 := 0) rfl dX6_fits_61 ?_
      refine jx_aload_n (pc := 62) (k0 := 0) rfl dX6_fits_62 ?_
      refine mm_g_s (pc := 63) fl_X6_9 dX6_fits_63 ?_
      refine jx_bipush (pc := 66) (v := (79 : Int32)) (by decide) dX6_fits_66 ?_
      refine jx_iload (pc := 68) (i := 5) rfl dX6_fits_68 ?_
      refine jx_iadd (pc := 70) dX6_fits_70 ?_
      obtain ⟨g4, h⟩ := jx_gd_o h
      refine mm_l_s (pc := 71) (jx_in_o g4) rfl dX6_fits_71 ?_
      obtain ⟨q5, eq5, h⟩ := jx_bd_o h
      refine jx_callVi (pc := 72) [.int (σ 1 ((79 : Int32) + v5).toNatClampNeg)] (fun sz' => k_X6_lampsAt l G hG sz' σ (σ 1 ((79 : Int32) + v5).toNatClampNeg) q5 eq5) kv_X6_224 mm_jok mm_rc rfl rfl (Nat.le_of_ble_eq_true rfl) ⟨⟨rfl, rfl⟩, ⟨Nat.le_of_ble_eq_true rfl, Nat.le_of_ble_eq_true rfl⟩, Nat.zero_le _, Nat.zero_le _⟩ dX6_fits_72 ?_
      refine jx_aload_n (pc := 75) (k0 := 0) rfl dX6_fits_75 ?_
      refine mm_g_s (pc := 76) fl_X6_9 dX6_fits_76 ?_
      refine jx_bipush (pc := 79) (v := (85 : Int32)) (by decide) dX6_fits_79 ?_
      refine jx_iload (pc := 81) (i := 5) rfl dX6_fits_81 ?_
      refine jx_iadd (pc := 83) dX6_fits_83 ?_
      obtain ⟨g6, h⟩ := jx_gd_o h
      refine mm_l_s (pc := 84) (jx_in_o g6) rfl dX6_fits_84 ?_
      refine jx_icmp_ne (pc := 85) (tgt := 92) dX6_fits_85 (by decide) (fun c7 => ?_) (fun c7 => ?_)
      · have h := jx_f c7 h
        exact jx_sub [0, 1, 2, 3, 5] rfl (jb_X6_fits_92 l G hG sz out k22 h22 k45 h45 σ v1 v2 v3 v5 h)
      · have h := jx_t c7 h
        refine jx_iconst (pc := 88) (v := (1 : Int32)) (by decide) dX6_fits_88 ?_
        refine jx_goto (pc := 89) (tgt := 93) dX6_fits_89 (by decide) ?_
        exact jx_sub [0, 1, 2, 3, 5] rfl (jb_X6_fits_93 l G hG sz out k22 h22 k45 h45 σ v1 v2 v3 v5 (1 : Int32) h)
def b_X6_fits_45 (k22 : jx_M → Int32 → Int32 → Int32 → Option (Int32 × jx_M)) : Nat → jx_M → Int32 → Int32 → Int32 → Int32 → Int32 → Option (Int32 × jx_M)
  | 0, _, _, _, _, _, _ => none
  | n + 1, σ, v1, v2, v3, v4, v5 => g_X6_fits_45 k22 (b_X6_fits_45 k22 n) σ v1 v2 v3 v4 v5
theorem jb_X6_fits_45 (l : Launch) (G : jx_G) (hG : mm_ok G) (sz : Nat) (out : (Int32 × jx_M)) (k22 : jx_M → Int32 → Int32 → Int32 → Option (Int32 × jx_M)) (h22 : ∀ (σ : jx_M) (v1 : Int32) (v2 : Int32) (v3 : Int32), k22 σ v1 v2 v3 = some out → jJ_X6_fits l G sz out 22 [(0, .ref (G.2 10)), (1, .int v1), (2, .int v2), (3, .int v3)] [] σ) : ∀ (n : Nat) (σ : jx_M) (v1 : Int32) (v2 : Int32) (v3 : Int32) (v4 : Int32) (v5 : Int32), b_X6_fits_45 k22 n σ v1 v2 v3 v4 v5 = some out → jJ_X6_fits l G sz out 45 [(0, .ref (G.2 10)), (1, .int v1), (2, .int v2), (3, .int v3), (4, .int v4), (5, .int v5)] [] σ := by
  intro n
  induction n with
  | zero =>
    intro σ v1 v2 v3 v4 v5 h
    cases h
  | succ n ih =>
    intro σ v1 v2 v3 v4 v5 h
    exact jg_X6_fits_45 l G hG sz out k22 h22 (b_X6_fits_45 k22 n) ih σ v1 v2 v3 v4 v5 h
def g_X6_fits_22 (k22 : jx_M → Int32 → Int32 → Int32 → Option (Int32 × jx_M)) (σ : jx_M) (v1 : Int32) (v2 : Int32) (v3 : Int32) : Option (Int32 × jx_M) :=
  if (σ 1 6) ≤ v3 then some (v2, σ) else jx_bd (f_X6_lays σ v1 v3) (fun q2 => (b_X6_fits_45 k22 jx_fuel q2 v1 v2 v3 (1 : Int32) (0 : Int32)))
set_option maxHeartbeats 4000000 in
set_option maxRecDepth 100000 in
theorem jg_X6_fits_22 (l : Launch) (G : jx_G) (hG : mm_ok G) (sz : Nat) (out : (Int32 × jx_M)) (k22 : jx_M → Int32 → Int32 → Int32 → Option (Int32 × jx_M)) (h22 : ∀ (σ : jx_M) (v1 : Int32) (v2 : Int32) (v3 : Int32), k22 σ v1 v2 v3 = some out → jJ_X6_fits l G sz out 22 [(0, .ref (G.2 10)), (1, .int v1), (2, .int v2), (3, .int v3)] [] σ) (σ : jx_M) (v1 : Int32) (v2 : Int32) (v3 : Int32) (h : g_X6_fits_22 k22 σ v1 v2 v3 = some out) : jJ_X6_fits l G sz out 22 [(0, .ref (G.2 10)), (1, .int v1), (2, .int v2), (3, .int v3)] [] σ := by
  unfold g_X6_fits_22 at h
  refine jx_iload_n (pc := 22) (k0 := 3) rfl dX6_fits_22 ?_
  refine jx_aload_n (pc := 23) (k0 := 0) rfl dX6_fits_23 ?_
  refine mm_g_s (pc := 24) fl_X6_9 dX6_fits_24 ?_
  refine jx_bipush (pc := 27) (v := (6 : Int32)) (by decide) dX6_fits_27 ?_
  refine mm_l_s (pc := 29) (j := 6) (jx_in_o (by decide)) (by decide) dX6_fits_29 ?_
  refine jx_icmp_ge (pc := 30) (tgt := 122) dX6_fits_30 (by decide) (fun c1 => ?_) (fun c1 => ?_)
  · have h := jx_t c1 h
    refine jx_iload_n (pc := 122) (k0 := 2) rfl dX6_fits_122 ?_
    have h := Option.some.inj h
    subst h
    exact jx_iret (pc := 123) dX6_fits_123
  · have h := jx_f c1 h
    refine jx_aload_n (pc := 33) (k0 := 0) rfl dX6_fits_33 ?_
    refine jx_iload_n (pc := 34) (k0 := 1) rfl dX6_fits_34 ?_
    refine jx_iload_n (pc := 35) (k0 := 3) rfl dX6_fits_35 ?_
    obtain ⟨q2, eq2, h⟩ := jx_bd_o h
    refine jx_callVv (pc := 36) [.int v1, .int v3] (fun sz' => k_X6_lays l G hG sz' σ v1 v3 q2 eq2) kv_X6_176 mm_jok mm_rc rfl rfl (Nat.le_of_ble_eq_true rfl) ⟨⟨rfl, rfl⟩, ⟨Nat.le_of_ble_eq_true rfl, Nat.le_of_ble_eq_true rfl⟩, Nat.zero_le _, Nat.zero_le _⟩ dX6_fits_36 ?_
    refine jx_iconst (pc := 39) (v := (1 : Int32)) (by decide) dX6_fits_39 ?_
    refine jx_istore (pc := 40) (i := 4) rfl (by decide) (lv' := [(4, .int (1 : Int32)), (0, .ref (G.2 10)), (1, .int v1), (2, .int v2), (3, .int v3)]) rfl dX6_fits_40 ?_
    refine jx_iconst (pc := 42) (v := (0 : Int32)) (by decide) dX6_fits_42 ?_
    refine jx_istore (pc := 43) (i := 5) rfl (by decide) (lv' := [(5, .int (0 : Int32)), (4, .int (1 : Int32)), (0, .ref (G.2 10)), (1, .int v1), (2, .int v2), (3, .int v3)]) rfl dX6_fits_43 ?_
    exact jx_sub [2, 3, 4, 5, 1, 0] rfl (jb_X6_fits_45 l G hG sz out k22 h22 jx_fuel q2 v1 v2 v3 (1 : Int32) (0 : Int32) h)
def b_X6_fits_22  : Nat → jx_M → Int32 → Int32 → Int32 → Option (Int32 × jx_M)
  | 0, _, _, _, _ => none
  | n + 1, σ, v1, v2, v3 => g_X6_fits_22 (b_X6_fits_22 n) σ v1 v2 v3
theorem jb_X6_fits_22 (l : Launch) (G : jx_G) (hG : mm_ok G) (sz : Nat) (out : (Int32 × jx_M))  : ∀ (n : Nat) (σ : jx_M) (v1 : Int32) (v2 : Int32) (v3 : Int32), b_X6_fits_22 n σ v1 v2 v3 = some out → jJ_X6_fits l G sz out 22 [(0, .ref (G.2 10)), (1, .int v1), (2, .int v2), (3, .int v3)] [] σ := by
  intro n
  induction n with
  | zero =>
    intro σ v1 v2 v3 h
    cases h
  | succ n ih =>
    intro σ v1 v2 v3 h
    exact jg_X6_fits_22 l G hG sz out (b_X6_fits_22 n) ih σ v1 v2 v3 h
def f_X6_fits (σ : jx_M) (a1 : Int32) : Option (Int32 × jx_M) :=
  jx_bd (f_X6_isVoter σ a1) (fun q1 => if q1 = 0 then some ((-1 : Int32), σ) else jx_bd (f_X6_looksForNight σ) (fun q3 => jx_bd (f_X6_laysAll q3) (fun q4 => (b_X6_fits_22 jx_fuel q4 a1 (0 : Int32) (0 : Int32)))))
set_option maxHeartbeats 4000000 in
set_option maxRecDepth 100000 in
theorem k_X6_fits (l : Launch) (G : jx_G) (hG : mm_ok G) (sz : Nat) (σ : jx_M) (a1 : Int32) (out : (Int32 × jx_M)) (h : f_X6_fits σ a1 = some out) : Met l yX6_fits (Cond.code yX6_fits cX6_fits 6 (some .int) :: jx_ws) rm_X6_fits (jx_Pc (mm_env G) (mm_dyn G) (mm_rg G) sz σ [.ref (G.2 10), .int a1]) (jx_Qi (mm_dyn G) out.2 out.1 (jx_A (mm_rg G) sz)) 0 0 (jx_A (mm_rg G) sz) := by
  unfold f_X6_fits at h
  refine jx_met (by decide) (Nat.le_of_ble_eq_true rfl) ?_
  refine jx_sub (lv' := [(0, .ref (G.2 10)), (1, .int a1)]) [0, 1] rfl ?_
  refine jx_aload_n (pc := 0) (k0 := 0) rfl dX6_fits_0 ?_
  refine jx_iload_n (pc := 1) (k0 := 1) rfl dX6_fits_1 ?_
  obtain ⟨q1, eq1, h⟩ := jx_bd_o h
  refine jx_callVi (pc := 2) [.int a1] (fun sz' => k_X6_isVoter l G hG sz' σ a1 q1 eq1) kv_X6_163 mm_jok mm_rc rfl rfl (Nat.le_of_ble_eq_true rfl) ⟨⟨rfl, rfl⟩, ⟨Nat.le_of_ble_eq_true rfl, Nat.le_of_ble_eq_true rfl⟩, Nat.zero_le _, Nat.zero_le _⟩ dX6_fits_2 ?_
  refine jx_if_ne (pc := 5) (tgt := 10) dX6_fits_5 (by decide) (fun c2 => ?_) (fun c2 => ?_)
  · have h := jx_f c2 h
    refine jx_aload_n (pc := 10) (k0 := 0) rfl dX6_fits_10 ?_
    obtain ⟨q3, eq3, h⟩ := jx_bd_o h
    refine jx_callVv (pc := 11) [] (fun sz' => k_X6_looksForNight l G hG sz' σ q3 eq3) kv_X6_185 mm_jok mm_rc rfl rfl (Nat.le_of_ble_eq_true rfl) ⟨⟨rfl, rfl⟩, ⟨Nat.le_of_ble_eq_true rfl, Nat.le_of_ble_eq_true rfl⟩, Nat.zero_le _, Nat.zero_le _⟩ dX6_fits_11 ?_
    refine jx_aload_n (pc := 14) (k0 := 0) rfl dX6_fits_14 ?_
    obtain ⟨q4, eq4, h⟩ := jx_bd_o h
    refine jx_callVv (pc := 15) [] (fun sz' => k_X6_laysAll l G hG sz' q3 q4 eq4) kv_X6_188 mm_jok mm_rc rfl rfl (Nat.le_of_ble_eq_true rfl) ⟨⟨rfl, rfl⟩, ⟨Nat.le_of_ble_eq_true rfl, Nat.le_of_ble_eq_true rfl⟩, Nat.zero_le _, Nat.zero_le _⟩ dX6_fits_15 ?_
    refine jx_iconst (pc := 18) (v := (0 : Int32)) (by decide) dX6_fits_18 ?_
    refine jx_istore_n (pc := 19) (i := 2) rfl rfl (by decide) (lv' := [(2, .int (0 : Int32)), (0, .ref (G.2 10)), (1, .int a1)]) rfl dX6_fits_19 ?_
    refine jx_iconst (pc := 20) (v := (0 : Int32)) (by decide) dX6_fits_20 ?_
    refine jx_istore_n (pc := 21) (i := 3) rfl rfl (by decide) (lv' := [(3, .int (0 : Int32)), (2, .int (0 : Int32)), (0, .ref (G.2 10)), (1, .int a1)]) rfl dX6_fits_21 ?_
    exact jx_sub [2, 3, 1, 0] rfl (jb_X6_fits_22 l G hG sz out jx_fuel q4 a1 (0 : Int32) (0 : Int32) h)
  · have h := jx_t c2 h
    refine jx_iconst (pc := 8) (v := (-1 : Int32)) (by decide) dX6_fits_8 ?_
    have h := Option.some.inj h
    subst h
    exact jx_iret (pc := 9) dX6_fits_9
theorem dX6_fair_0 : decode cX6_fair 0 = .ok (.iload_n 1, 1) := by decide +kernel
theorem dX6_fair_1 : decode cX6_fair 1 = .ok (.iconst 0, 1) := by decide +kernel
theorem dX6_fair_2 : decode cX6_fair 2 = .ok (.iconst 1, 1) := by decide +kernel
theorem dX6_fair_3 : decode cX6_fair 3 = .ok (.invokestatic 48, 3) := by decide +kernel
theorem dX6_fair_6 : decode cX6_fair 6 = .ok (.ifCond .ne 5, 3) := by decide +kernel
theorem dX6_fair_9 : decode cX6_fair 9 = .ok (.iconst (-1), 1) := by decide +kernel
theorem dX6_fair_10 : decode cX6_fair 10 = .ok (.ireturn, 1) := by decide +kernel
theorem dX6_fair_11 : decode cX6_fair 11 = .ok (.aload_n 0, 1) := by decide +kernel
theorem dX6_fair_12 : decode cX6_fair 12 = .ok (.invokevirtual 185, 3) := by decide +kernel
theorem dX6_fair_15 : decode cX6_fair 15 = .ok (.aload_n 0, 1) := by decide +kernel
theorem dX6_fair_16 : decode cX6_fair 16 = .ok (.invokevirtual 188, 3) := by decide +kernel
theorem dX6_fair_19 : decode cX6_fair 19 = .ok (.iconst 0, 1) := by decide +kernel
theorem dX6_fair_20 : decode cX6_fair 20 = .ok (.istore_n 2, 1) := by decide +kernel
theorem dX6_fair_21 : decode cX6_fair 21 = .ok (.bipush 99, 2) := by decide +kernel
theorem dX6_fair_23 : decode cX6_fair 23 = .ok (.istore_n 3, 1) := by decide +kernel
theorem dX6_fair_24 : decode cX6_fair 24 = .ok (.iconst 0, 1) := by decide +kernel
theorem dX6_fair_25 : decode cX6_fair 25 = .ok (.istore 4, 2) := by decide +kernel
theorem dX6_fair_27 : decode cX6_fair 27 = .ok (.iload 4, 2) := by decide +kernel
theorem dX6_fair_29 : decode cX6_fair 29 = .ok (.iconst 1, 1) := by decide +kernel
theorem dX6_fair_30 : decode cX6_fair 30 = .ok (.aload_n 0, 1) := by decide +kernel
theorem dX6_fair_31 : decode cX6_fair 31 = .ok (.getfield 9, 3) := by decide +kernel
theorem dX6_fair_34 : decode cX6_fair 34 = .ok (.bipush 6, 2) := by decide +kernel
theorem dX6_fair_36 : decode cX6_fair 36 = .ok (.iaload, 1) := by decide +kernel
theorem dX6_fair_37 : decode cX6_fair 37 = .ok (.ishl, 1) := by decide +kernel
theorem dX6_fair_38 : decode cX6_fair 38 = .ok (.if_icmp .ge 99, 3) := by decide +kernel
theorem dX6_fair_41 : decode cX6_fair 41 = .ok (.iconst 0, 1) := by decide +kernel
theorem dX6_fair_42 : decode cX6_fair 42 = .ok (.istore 5, 2) := by decide +kernel
theorem dX6_fair_44 : decode cX6_fair 44 = .ok (.iconst 0, 1) := by decide +kernel
theorem dX6_fair_45 : decode cX6_fair 45 = .ok (.istore 6, 2) := by decide +kernel
theorem dX6_fair_47 : decode cX6_fair 47 = .ok (.iload 6, 2) := by decide +kernel
theorem dX6_fair_49 : decode cX6_fair 49 = .ok (.aload_n 0, 1) := by decide +kernel
theorem dX6_fair_50 : decode cX6_fair 50 = .ok (.getfield 9, 3) := by decide +kernel
theorem dX6_fair_53 : decode cX6_fair 53 = .ok (.iconst 0, 1) := by decide +kernel
theorem dX6_fair_54 : decode cX6_fair 54 = .ok (.iaload, 1) := by decide +kernel
theorem dX6_fair_55 : decode cX6_fair 55 = .ok (.if_icmp .ge 35, 3) := by decide +kernel
theorem dX6_fair_58 : decode cX6_fair 58 = .ok (.iload 5, 2) := by decide +kernel
theorem dX6_fair_60 : decode cX6_fair 60 = .ok (.iload 4, 2) := by decide +kernel
theorem dX6_fair_62 : decode cX6_fair 62 = .ok (.aload_n 0, 1) := by decide +kernel
theorem dX6_fair_63 : decode cX6_fair 63 = .ok (.getfield 31, 3) := by decide +kernel
theorem dX6_fair_66 : decode cX6_fair 66 = .ok (.iload 6, 2) := by decide +kernel
theorem dX6_fair_68 : decode cX6_fair 68 = .ok (.iaload, 1) := by decide +kernel
theorem dX6_fair_69 : decode cX6_fair 69 = .ok (.ishr, 1) := by decide +kernel
theorem dX6_fair_70 : decode cX6_fair 70 = .ok (.iconst 1, 1) := by decide +kernel
theorem dX6_fair_71 : decode cX6_fair 71 = .ok (.iand, 1) := by decide +kernel
theorem dX6_fair_72 : decode cX6_fair 72 = .ok (.iconst 1, 1) := by decide +kernel
theorem dX6_fair_73 : decode cX6_fair 73 = .ok (.if_icmp .ne 7, 3) := by decide +kernel
theorem dX6_fair_76 : decode cX6_fair 76 = .ok (.iconst 1, 1) := by decide +kernel
theorem dX6_fair_77 : decode cX6_fair 77 = .ok (.goto 4, 3) := by decide +kernel
theorem dX6_fair_80 : decode cX6_fair 80 = .ok (.iconst (-1), 1) := by decide +kernel
theorem dX6_fair_81 : decode cX6_fair 81 = .ok (.iadd, 1) := by decide +kernel
theorem dX6_fair_82 : decode cX6_fair 82 = .ok (.istore 5, 2) := by decide +kernel
theorem dX6_fair_84 : decode cX6_fair 84 = .ok (.iinc 6 1, 3) := by decide +kernel
theorem dX6_fair_87 : decode cX6_fair 87 = .ok (.goto (-40), 3) := by decide +kernel
theorem dX6_fair_90 : decode cX6_fair 90 = .ok (.iload 5, 2) := by decide +kernel
theorem dX6_fair_92 : decode cX6_fair 92 = .ok (.ifCond .ge 9, 3) := by decide +kernel
theorem dX6_fair_95 : decode cX6_fair 95 = .ok (.iload 5, 2) := by decide +kernel
theorem dX6_fair_97 : decode cX6_fair 97 = .ok (.ineg, 1) := by decide +kernel
theorem dX6_fair_98 : decode cX6_fair 98 = .ok (.goto 5, 3) := by decide +kernel
theorem dX6_fair_101 : decode cX6_fair 101 = .ok (.iload 5, 2) := by decide +kernel
theorem dX6_fair_103 : decode cX6_fair 103 = .ok (.istore 5, 2) := by decide +kernel
theorem dX6_fair_105 : decode cX6_fair 105 = .ok (.iload 5, 2) := by decide +kernel
theorem dX6_fair_107 : decode cX6_fair 107 = .ok (.iload_n 3, 1) := by decide +kernel
theorem dX6_fair_108 : decode cX6_fair 108 = .ok (.if_icmp .ge 8, 3) := by decide +kernel
theorem dX6_fair_111 : decode cX6_fair 111 = .ok (.iload 4, 2) := by decide +kernel
theorem dX6_fair_113 : decode cX6_fair 113 = .ok (.goto 4, 3) := by decide +kernel
theorem dX6_fair_116 : decode cX6_fair 116 = .ok (.iload_n 2, 1) := by decide +kernel
theorem dX6_fair_117 : decode cX6_fair 117 = .ok (.istore_n 2, 1) := by decide +kernel
theorem dX6_fair_118 : decode cX6_fair 118 = .ok (.iload 5, 2) := by decide +kernel
theorem dX6_fair_120 : decode cX6_fair 120 = .ok (.iload_n 3, 1) := by decide +kernel
theorem dX6_fair_121 : decode cX6_fair 121 = .ok (.if_icmp .ge 8, 3) := by decide +kernel
theorem dX6_fair_124 : decode cX6_fair 124 = .ok (.iload 5, 2) := by decide +kernel
theorem dX6_fair_126 : decode cX6_fair 126 = .ok (.goto 4, 3) := by decide +kernel
theorem dX6_fair_129 : decode cX6_fair 129 = .ok (.iload_n 3, 1) := by decide +kernel
theorem dX6_fair_130 : decode cX6_fair 130 = .ok (.istore_n 3, 1) := by decide +kernel
theorem dX6_fair_131 : decode cX6_fair 131 = .ok (.iinc 4 2, 3) := by decide +kernel
theorem dX6_fair_134 : decode cX6_fair 134 = .ok (.goto (-107), 3) := by decide +kernel
theorem dX6_fair_137 : decode cX6_fair 137 = .ok (.iload_n 1, 1) := by decide +kernel
theorem dX6_fair_138 : decode cX6_fair 138 = .ok (.ifCond .ne 7, 3) := by decide +kernel
theorem dX6_fair_141 : decode cX6_fair 141 = .ok (.iload_n 2, 1) := by decide +kernel
theorem dX6_fair_142 : decode cX6_fair 142 = .ok (.goto 4, 3) := by decide +kernel
theorem dX6_fair_145 : decode cX6_fair 145 = .ok (.iload_n 3, 1) := by decide +kernel
theorem dX6_fair_146 : decode cX6_fair 146 = .ok (.ireturn, 1) := by decide +kernel
abbrev rm_X6_fair : Room := { frames := 5, cells := 0, slots := 0, locals := 123 }
abbrev jJ_X6_fair (l : Launch) (G : jx_G) (sz : Nat) (out : (Int32 × jx_M)) (pc : Nat) (lv : List (Nat × Value)) (st : List Value) (σ : jx_M) : Prop := jx_J l (mm_env G) (mm_dyn G) (mm_rg G) sz RX6 "fair" cX6_fair 7 (some .int) rm_X6_fair (fun below args s => MQ below (jx_Qi (mm_dyn G) out.2 out.1 (jx_A (mm_rg G) sz)) args s 0 0 (jx_A (mm_rg G) sz)) 0 0 pc lv st σ
def b_X6_fair_81 (k27 : jx_M → Int32 → Int32 → Int32 → Int32 → Option (Int32 × jx_M)) (k47 : jx_M → Int32 → Int32 → Int32 → Int32 → Int32 → Int32 → Option (Int32 × jx_M)) (σ : jx_M) (v1 : Int32) (v2 : Int32) (v3 : Int32) (v4 : Int32) (v6 : Int32) (s0 : Int32) (s1 : Int32) : Option (Int32 × jx_M) :=
  jx_lt ((s1 + s0)) (fun x1 => jx_lt (v6 + (1 : Int32)) (fun x2 => (k47 σ v1 v2 v3 v4 x1 x2)))
set_option maxHeartbeats 4000000 in
set_option maxRecDepth 100000 in
theorem jb_X6_fair_81 (l : Launch) (G : jx_G) (hG : mm_ok G) (sz : Nat) (out : (Int32 × jx_M)) (k27 : jx_M → Int32 → Int32 → Int32 → Int32 → Option (Int32 × jx_M)) (h27 : ∀ (σ : jx_M) (v1 : Int32) (v2 : Int32) (v3 : Int32) (v4 : Int32), k27 σ v1 v2 v3 v4 = some out → jJ_X6_fair l G sz out 27 [(0, .ref (G.2 10)), (1, .int v1), (2, .int v2), (3, .int v3), (4, .int v4)] [] σ) (k47 : jx_M → Int32 → Int32 → Int32 → Int32 → Int32 → Int32 → Option (Int32 × jx_M)) (h47 : ∀ (σ : jx_M) (v1 : Int32) (v2 : Int32) (v3 : Int32) (v4 : Int32) (v5 : Int32) (v6 : Int32), k47 σ v1 v2 v3 v4 v5 v6 = some out → jJ_X6_fair l G sz out 47 [(0, .ref (G.2 10)), (1, .int v1), (2, .int v2), (3, .int v3), (4, .int v4), (5, .int v5), (6, .int v6)] [] σ) (σ : jx_M) (v1 : Int32) (v2 : Int32) (v3 : Int32) (v4 : Int32) (v6 : Int32) (s0 : Int32) (s1 : Int32) (h : b_X6_fair_81 k27 k47 σ v1 v2 v3 v4 v6 s0 s1 = some out) : jJ_X6_fair l G sz out 81 [(0, .ref (G.2 10)), (1, .int v1), (2, .int v2), (3, .int v3), (4, .int v4), (6, .int v6)] [.int s0, .int s1] σ := by
  unfold b_X6_fair_81 at h
  refine jx_iadd (pc := 81) dX6_fair_81 ?_
  obtain ⟨x1, ex1, h⟩ := jx_lt_o h
  refine jx_istore (pc := 82) (i := 5) ex1 (by decide) (lv' := [(5, .int x1), (0, .ref (G.2 10)), (1, .int v1), (2, .int v2), (3, .int v3), (4, .int v4), (6, .int v6)]) rfl dX6_fair_82 ?_
  obtain ⟨x2, ex2, h⟩ := jx_lt_o h
  refine jx_iinc (pc := 84) (i := 6) (v := v6) rfl ex2 (n := 1) (by decide) (by decide) (lv' := [(6, .int x2), (5, .int x1), (0, .ref (G.2 10)), (1, .int v1), (2, .int v2), (3, .int v3), (4, .int v4)]) rfl dX6_fair_84 ?_
  refine jx_goto (pc := 87) (tgt := 47) dX6_fair_87 (by decide) ?_
  exact jx_sub [2, 3, 4, 5, 6, 1, 0] rfl (h47 σ v1 v2 v3 v4 x1 x2 h)
def b_X6_fair_130 (k27 : jx_M → Int32 → Int32 → Int32 → Int32 → Option (Int32 × jx_M)) (σ : jx_M) (v1 : Int32) (v2 : Int32) (v4 : Int32) (s0 : Int32) : Option (Int32 × jx_M) :=
  jx_lt (v4 + (2 : Int32)) (fun x1 => (k27 σ v1 v2 s0 x1))
set_option maxHeartbeats 4000000 in
set_option maxRecDepth 100000 in
theorem jb_X6_fair_130 (l : Launch) (G : jx_G) (hG : mm_ok G) (sz : Nat) (out : (Int32 × jx_M)) (k27 : jx_M → Int32 → Int32 → Int32 → Int32 → Option (Int32 × jx_M)) (h27 : ∀ (σ : jx_M) (v1 : Int32) (v2 : Int32) (v3 : Int32) (v4 : Int32), k27 σ v1 v2 v3 v4 = some out → jJ_X6_fair l G sz out 27 [(0, .ref (G.2 10)), (1, .int v1), (2, .int v2), (3, .int v3), (4, .int v4)] [] σ) (σ : jx_M) (v1 : Int32) (v2 : Int32) (v4 : Int32) (s0 : Int32) (h : b_X6_fair_130 k27 σ v1 v2 v4 s0 = some out) : jJ_X6_fair l G sz out 130 [(0, .ref (G.2 10)), (1, .int v1), (2, .int v2), (4, .int v4)] [.int s0] σ := by
  unfold b_X6_fair_130 at h
  refine jx_istore_n (pc := 130) (i := 3) rfl rfl (by decide) (lv' := [(3, .int s0), (0, .ref (G.2 10)), (1, .int v1), (2, .int v2), (4, .int v4)]) rfl dX6_fair_130 ?_
  obtain ⟨x1, ex1, h⟩ := jx_lt_o h
  refine jx_iinc (pc := 131) (i := 4) (v := v4) rfl ex1 (n := 2) (by decide) (by decide) (lv' := [(4, .int x1), (3, .int s0), (0, .ref (G.2 10)), (1, .int v1), (2, .int v2)]) rfl dX6_fair_131 ?_
  refine jx_goto (pc := 134) (tgt := 27) dX6_fair_134 (by decide) ?_
  exact jx_sub [2, 3, 4, 1, 0] rfl (h27 σ v1 v2 s0 x1 h)
def b_X6_fair_117 (k27 : jx_M → Int32 → Int32 → Int32 → Int32 → Option (Int32 × jx_M)) (σ : jx_M) (v1 : Int32) (v3 : Int32) (v4 : Int32) (v5 : Int32) (s0 : Int32) : Option (Int32 × jx_M) :=
  if v3 ≤ v5 then (b_X6_fair_130 k27 σ v1 s0 v4 v3) else (b_X6_fair_130 k27 σ v1 s0 v4 v5)
set_option maxHeartbeats 4000000 in
set_option maxRecDepth 100000 in
theorem jb_X6_fair_117 (l : Launch) (G : jx_G) (hG : mm_ok G) (sz : Nat) (out : (Int32 × jx_M)) (k27 : jx_M → Int32 → Int32 → Int32 → Int32 → Option (Int32 × jx_M)) (h27 : ∀ (σ : jx_M) (v1 : Int32) (v2 : Int32) (v3 : Int32) (v4 : Int32), k27 σ v1 v2 v3 v4 = some out → jJ_X6_fair l G sz out 27 [(0, .ref (G.2 10)), (1, .int v1), (2, .int v2), (3, .int v3), (4, .int v4)] [] σ) (σ : jx_M) (v1 : Int32) (v3 : Int32) (v4 : Int32) (v5 : Int32) (s0 : Int32) (h : b_X6_fair_117 k27 σ v1 v3 v4 v5 s0 = some out) : jJ_X6_fair l G sz out 117 [(0, .ref (G.2 10)), (1, .int v1), (3, .int v3), (4, .int v4), (5, .int v5)] [.int s0] σ := by
  unfold b_X6_fair_117 at h
  refine jx_istore_n (pc := 117) (i := 2) rfl rfl (by decide) (lv' := [(2, .int s0), (0, .ref (G.2 10)), (1, .int v1), (3, .int v3), (4, .int v4), (5, .int v5)]) rfl dX6_fair_117 ?_
  refine jx_iload (pc := 118) (i := 5) rfl dX6_fair_118 ?_
  refine jx_iload_n (pc := 120) (k0 := 3) rfl dX6_fair_120 ?_
  refine jx_icmp_ge (pc := 121) (tgt := 129) dX6_fair_121 (by decide) (fun c1 => ?_) (fun c1 => ?_)
  · have h := jx_t c1 h
    refine jx_iload_n (pc := 129) (k0 := 3) rfl dX6_fair_129 ?_
    exact jx_sub [1, 2, 0, 4] rfl (jb_X6_fair_130 l G hG sz out k27 h27 σ v1 s0 v4 v3 h)
  · have h := jx_f c1 h
    refine jx_iload (pc := 124) (i := 5) rfl dX6_fair_124 ?_
    refine jx_goto (pc := 126) (tgt := 130) dX6_fair_126 (by decide) ?_
    exact jx_sub [1, 2, 0, 4] rfl (jb_X6_fair_130 l G hG sz out k27 h27 σ v1 s0 v4 v5 h)
def b_X6_fair_103 (k27 : jx_M → Int32 → Int32 → Int32 → Int32 → Option (Int32 × jx_M)) (σ : jx_M) (v1 : Int32) (v2 : Int32) (v3 : Int32) (v4 : Int32) (s0 : Int32) : Option (Int32 × jx_M) :=
  if v3 ≤ s0 then (b_X6_fair_117 k27 σ v1 v3 v4 s0 v2) else (b_X6_fair_117 k27 σ v1 v3 v4 s0 v4)
set_option maxHeartbeats 4000000 in
set_option maxRecDepth 100000 in
theorem jb_X6_fair_103 (l : Launch) (G : jx_G) (hG : mm_ok G) (sz : Nat) (out : (Int32 × jx_M)) (k27 : jx_M → Int32 → Int32 → Int32 → Int32 → Option (Int32 × jx_M)) (h27 : ∀ (σ : jx_M) (v1 : Int32) (v2 : Int32) (v3 : Int32) (v4 : Int32), k27 σ v1 v2 v3 v4 = some out → jJ_X6_fair l G sz out 27 [(0, .ref (G.2 10)), (1, .int v1), (2, .int v2), (3, .int v3), (4, .int v4)] [] σ) (σ : jx_M) (v1 : Int32) (v2 : Int32) (v3 : Int32) (v4 : Int32) (s0 : Int32) (h : b_X6_fair_103 k27 σ v1 v2 v3 v4 s0 = some out) : jJ_X6_fair l G sz out 103 [(0, .ref (G.2 10)), (1, .int v1), (2, .int v2), (3, .int v3), (4, .int v4)] [.int s0] σ := by
  unfold b_X6_fair_103 at h
  refine jx_istore (pc := 103) (i := 5) rfl (by decide) (lv' := [(5, .int s0), (0, .ref (G.2 10)), (1, .int v1), (2, .int v2), (3, .int v3), (4, .int v4)]) rfl dX6_fair_103 ?_
  refine jx_iload (pc := 105) (i := 5) rfl dX6_fair_105 ?_
  refine jx_iload_n (pc := 107) (k0 := 3) rfl dX6_fair_107 ?_
  refine jx_icmp_ge (pc := 108) (tgt := 116) dX6_fair_108 (by decide) (fun c1 => ?_) (fun c1 => ?_)
  · have h := jx_t c1 h
    refine jx_iload_n (pc := 116) (k0 := 2) rfl dX6_fair_116 ?_
    exact jx_sub [1, 2, 4, 5, 0] rfl (jb_X6_fair_117 l G hG sz out k27 h27 σ v1 v3 v4 s0 v2 h)
  · have h := jx_f c1 h
    refine jx_iload (pc := 111) (i := 4) rfl dX6_fair_111 ?_
    refine jx_goto (pc := 113) (tgt := 117) dX6_fair_113 (by decide) ?_
    exact jx_sub [1, 2, 4, 5, 0] rfl (jb_X6_fair_117 l G hG sz out k27 h27 σ v1 v3 v4 s0 v4 h)
def g_X6_fair_47 (k27 : jx_M → Int32 → Int32 → Int32 → Int32 → Option (Int32 × jx_M)) (k47 : jx_M → Int32 → Int32 → Int32 → Int32 → Int32 → Int32 → Option (Int32 × jx_M)) (σ : jx_M) (v1 : Int32) (v2 : Int32) (v3 : Int32) (v4 : Int32) (v5 : Int32) (v6 : Int32) : Option (Int32 × jx_M) :=
  if (σ 1 0) ≤ v6 then if 0 ≤ v5 then (b_X6_fair_103 k27 σ v1 v2 v3 v4 v5) else (b_X6_fair_103 k27 σ v1 v2 v3 v4 (-v5)) else jx_gd (jx_in v6 6) (if ((v4 >>> ((σ 7 v6.toNatClampNeg) &&& 31)) &&& (1 : Int32)) = (1 : Int32) then (b_X6_fair_81 k27 k47 σ v1 v2 v3 v4 v6 (1 : Int32) v5) else (b_X6_fair_81 k27 k47 σ v1 v2 v3 v4 v6 (-1 : Int32) v5))
set_option maxHeartbeats 4000000 in
set_option maxRecDepth 100000 in
theorem jg_X6_fair_47 (l : Launch) (G : jx_G) (hG : mm_ok G) (sz : Nat) (out : (Int32 × jx_M)) (k27 : jx_M → Int32 → Int32 → Int32 → Int32 → Option (Int32 × jx_M)) (h27 : ∀ (σ : jx_M) (v1 : Int32) (v2 : Int32) (v3 : Int32) (v4 : Int32), k27 σ v1 v2 v3 v4 = some out → jJ_X6_fair l G sz out 27 [(0, .ref (G.2 10)), (1, .int v1), (2, .int v2), (3, .int v3), (4, .int v4)] [] σ) (k47 : jx_M → Int32 → Int32 → Int32 → Int32 → Int32 → Int32 → Option (Int32 × jx_M)) (h47 : ∀ (σ : jx_M) (v1 : Int32) (v2 : Int32) (v3 : Int32) (v4 : Int32) (v5 : Int32) (v6 : Int32), k47 σ v1 v2 v3 v4 v5 v6 = some out → jJ_X6_fair l G sz out 47 [(0, .ref (G.2 10)), (1, .int v1), (2, .int v2), (3, .int v3), (4, .int v4), (5, .int v5), (6, .int v6)] [] σ) (σ : jx_M) (v1 : Int32) (v2 : Int32) (v3 : Int32) (v4 : Int32) (v5 : Int32) (v6 : Int32) (h : g_X6_fair_47 k27 k47 σ v1 v2 v3 v4 v5 v6 = some out) : jJ_X6_fair l G sz out 47 [(0, .ref (G.2 10)), (1, .int v1), (2, .int v2), (3, .int v3), (4, .int v4), (5, .int v5), (6, .int v6)] [] σ := by
  unfold g_X6_fair_47 at h
  refine jx_iload (pc := 47) (i := 6) rfl dX6_fair_47 ?_
  refine jx_aload_n (pc := 49) (k0 := 0) rfl dX6_fair_49 ?_
  refine mm_g_s (pc := 50) fl_X6_9 dX6_fair_50 ?_
  refine jx_iconst (pc := 53) (v := (0 : Int32)) (by decide) dX6_fair_53 ?_
  refine mm_l_s (pc := 54) (j := 0) (jx_in_o (by decide)) (by decide) dX6_fair_54 ?_
  refine jx_icmp_ge (pc := 55) (tgt := 90) dX6_fair_55 (by decide) (fun c1 => ?_) (fun c1 => ?_)
  · have h := jx_t c1 h
    refine jx_iload (pc := 90) (i := 5) rfl dX6_fair_90 ?_
    refine jx_if_ge (pc := 92) (tgt := 101) dX6_fair_92 (by decide) (fun c2 => ?_) (fun c2 => ?_)
    · have h := jx_t c2 h
      refine jx_iload (pc := 101) (i := 5) rfl dX6_fair_101 ?_
      exact jx_sub [0, 1, 2, 3, 4] rfl (jb_X6_fair_103 l G hG sz out k27 h27 σ v1 v2 v3 v4 v5 h)
    · have h := jx_f c2 h
      refine jx_iload (pc := 95) (i := 5) rfl dX6_fair_95 ?_
      refine jx_ineg (pc := 97) dX6_fair_97 ?_
      refine jx_goto (pc := 98) (tgt := 103) dX6_fair_98 (by decide) ?_
      exact jx_sub [0, 1, 2, 3, 4] rfl (jb_X6_fair_103 l G hG sz out k27 h27 σ v1 v2 v3 v4 (-v5) h)
  · have h := jx_f c1 h
    refine jx_iload (pc := 58) (i := 5) rfl dX6_fair_58 ?_
    refine jx_iload (pc := 60) (i := 4) rfl dX6_fair_60 ?_
    refine jx_aload_n (pc := 62) (k0 := 0) rfl dX6_fair_62 ?_
    refine mm_g_lying (pc := 63) fl_X6_31 dX6_fair_63 ?_
    refine jx_iload (pc := 66) (i := 6) rfl dX6_fair_66 ?_
    obtain ⟨g3, h⟩ := jx_gd_o h
    refine mm_l_lying (pc := 68) (jx_in_o g3) rfl dX6_fair_68 ?_
    refine jx_ishr (pc := 69) dX6_fair_69 ?_
    refine jx_iconst (pc := 70) (v := (1 : Int32)) (by decide) dX6_fair_70 ?_
    refine jx_iand (pc := 71) dX6_fair_71 ?_
    refine jx_iconst (pc := 72) (v := (1 : Int32)) (by decide) dX6_fair_72 ?_
    refine jx_icmp_ne (pc := 73) (tgt := 80) dX6_fair_73 (by decide) (fun c4 => ?_) (fun c4 => ?_)
    · have h := jx_f c4 h
      refine jx_iconst (pc := 80) (v := (-1 : Int32)) (by decide) dX6_fair_80 ?_
      exact jx_sub [0, 1, 2, 3, 4, 6] rfl (jb_X6_fair_81 l G hG sz out k27 h27 k47 h47 σ v1 v2 v3 v4 v6 (-1 : Int32) v5 h)
    · have h := jx_t c4 h
      refine jx_iconst (pc := 76) (v := (1 : Int32)) (by decide) dX6_fair_76 ?_
      refine jx_goto (pc := 77) (tgt := 81) dX6_fair_77 (by decide) ?_
      exact jx_sub [0, 1, 2, 3, 4, 6] rfl (jb_X6_fair_81 l G hG sz out k27 h27 k47 h47 σ v1 v2 v3 v4 v6 (1 : Int32) v5 h)
def b_X6_fair_47 (k27 : jx_M → Int32 → Int32 → Int32 → Int32 → Option (Int32 × jx_M)) : Nat → jx_M → Int32 → Int32 → Int32 → Int32 → Int32 → Int32 → Option (Int32 × jx_M)
  | 0, _, _, _, _, _, _, _ => none
  | n + 1, σ, v1, v2, v3, v4, v5, v6 => g_X6_fair_47 k27 (b_X6_fair_47 k27 n) σ v1 v2 v3 v4 v5 v6
theorem jb_X6_fair_47 (l : Launch) (G : jx_G) (hG : mm_ok G) (sz : Nat) (out : (Int32 × jx_M)) (k27 : jx_M → Int32 → Int32 → Int32 → Int32 → Option (Int32 × jx_M)) (h27 : ∀ (σ : jx_M) (v1 : Int32) (v2 : Int32) (v3 : Int32) (v4 : Int32), k27 σ v1 v2 v3 v4 = some out → jJ_X6_fair l G sz out 27 [(0, .ref (G.2 10)), (1, .int v1), (2, .int v2), (3, .int v3), (4, .int v4)] [] σ) : ∀ (n : Nat) (σ : jx_M) (v1 : Int32) (v2 : Int32) (v3 : Int32) (v4 : Int32) (v5 : Int32) (v6 : Int32), b_X6_fair_47 k27 n σ v1 v2 v3 v4 v5 v6 = some out → jJ_X6_fair l G sz out 47 [(0, .ref (G.2 10)), (1, .int v1), (2, .int v2), (3, .int v3), (4, .int v4), (5, .int v5), (6, .int v6)] [] σ := by
  intro n
  induction n with
  | zero =>
    intro σ v1 v2 v3 v4 v5 v6 h
    cases h
  | succ n ih =>
    intro σ v1 v2 v3 v4 v5 v6 h
    exact jg_X6_fair_47 l G hG sz out k27 h27 (b_X6_fair_47 k27 n) ih σ v1 v2 v3 v4 v5 v6 h
def g_X6_fair_27 (k27 : jx_M → Int32 → Int32 → Int32 → Int32 → Option (Int32 × jx_M)) (σ : jx_M) (v1 : Int32) (v2 : Int32) (v3 : Int32) (v4 : Int32) : Option (Int32 × jx_M) :=
  if ((1 : Int32) <<< ((σ 1 6) &&& 31)) ≤ v4 then if v1 = 0 then some (v2, σ) else some (v3, σ) else (b_X6_fair_47 k27 jx_fuel σ v1 v2 v3 v4 (0 : Int32) (0 : Int32))
set_option maxHeartbeats 4000000 in
set_option maxRecDepth 100000 in
theorem jg_X6_fair_27 (l : Launch) (G : jx_G) (hG : mm_ok G) (sz : Nat) (out : (Int32 × jx_M)) (k27 : jx_M → Int32 → Int32 → Int32 → Int32 → Option (Int32 × jx_M)) (h27 : ∀ (σ : jx_M) (v1 : Int32) (v2 : Int32) (v3 : Int32) (v4 : Int32), k27 σ v1 v2 v3 v4 = some out → jJ_X6_fair l G sz out 27 [(0, .ref (G.2 10)), (1, .int v1), (2, .int v2), (3, .int v3), (4, .int v4)] [] σ) (σ : jx_M) (v1 : Int32) (v2 : Int32) (v3 : Int32) (v4 : Int32) (h : g_X6_fair_27 k27 σ v1 v2 v3 v4 = some out) : jJ_X6_fair l G sz out 27 [(0, .ref (G.2 10)), (1, .int v1), (2, .int v2), (3, .int v3), (4, .int v4)] [] σ := by
  unfold g_X6_fair_27 at h
  refine jx_iload (pc := 27) (i := 4) rfl dX6_fair_27 ?_
  refine jx_iconst (pc := 29) (v := (1 : Int32)) (by decide) dX6_fair_29 ?_
  refine jx_aload_n (pc := 30) (k0 := 0) rfl dX6_fair_30 ?_
  refine mm_g_s (pc := 31) fl_X6_9 dX6_fair_31 ?_
  refine jx_bipush (pc := 34) (v := (6 : Int32)) (by decide) dX6_fair_34 ?_
  refine mm_l_s (pc := 36) (j := 6) (jx_in_o (by decide)) (by decide) dX6_fair_36 ?_
  refine jx_ishl (pc := 37) dX6_fair_37 ?_
  refine jx_icmp_ge (pc := 38) (tgt := 137) dX6_fair_38 (by decide) (fun c1 => ?_) (fun c1 => ?_)
  · have h := jx_t c1 h
    refine jx_iload_n (pc := 137) (k0 := 1) rfl dX6_fair_137 ?_
    refine jx_if_ne (pc := 138) (tgt := 145) dX6_fair_138 (by decide) (fun c2 => ?_) (fun c2 => ?_)
    · have h := jx_f c2 h
      refine jx_iload_n (pc := 145) (k0 := 3) rfl dX6_fair_145 ?_
      have h := Option.some.inj h
      subst h
      exact jx_iret (pc := 146) dX6_fair_146
    · have h := jx_t c2 h
      refine jx_iload_n (pc := 141) (k0 := 2) rfl dX6_fair_141 ?_
      refine jx_goto (pc := 142) (tgt := 146) dX6_fair_142 (by decide) ?_
      have h := Option.some.inj h
      subst h
      exact jx_iret (pc := 146) dX6_fair_146
  · have h := jx_f c1 h
    refine jx_iconst (pc := 41) (v := (0 : Int32)) (by decide) dX6_fair_41 ?_
    refine jx_istore (pc := 42) (i := 5) rfl (by decide) (lv' := [(5, .int (0 : Int32)), (0, .ref (G.2 10)), (1, .int v1), (2, .int v2), (3, .int v3), (4, .int v4)]) rfl dX6_fair_42 ?_
    refine jx_iconst (pc := 44) (v := (0 : Int32)) (by decide) dX6_fair_44 ?_
    refine jx_istore (pc := 45) (i := 6) rfl (by decide) (lv' := [(6, .int (0 : Int32)), (5, .int (0 : Int32)), (0, .ref (G.2 10)), (1, .int v1), (2, .int v2), (3, .int v3), (4, .int v4)]) rfl dX6_fair_45 ?_
    exact jx_sub [2, 3, 4, 5, 6, 1, 0] rfl (jb_X6_fair_47 l G hG sz out k27 h27 jx_fuel σ v1 v2 v3 v4 (0 : Int32) (0 : Int32) h)
def b_X6_fair_27  : Nat → jx_M → Int32 → Int32 → Int32 → Int32 → Option (Int32 × jx_M)
  | 0, _, _, _, _, _ => none
  | n + 1, σ, v1, v2, v3, v4 => g_X6_fair_27 (b_X6_fair_27 n) σ v1 v2 v3 v4
theorem jb_X6_fair_27 (l : Launch) (G : jx_G) (hG : mm_ok G) (sz : Nat) (out : (Int32 × jx_M))  : ∀ (n : Nat) (σ : jx_M) (v1 : Int32) (v2 : Int32) (v3 : Int32) (v4 : Int32), b_X6_fair_27 n σ v1 v2 v3 v4 = some out → jJ_X6_fair l G sz out 27 [(0, .ref (G.2 10)), (1, .int v1), (2, .int v2), (3, .int v3), (4, .int v4)] [] σ := by
  intro n
  induction n with
  | zero =>
    intro σ v1 v2 v3 v4 h
    cases h
  | succ n ih =>
    intro σ v1 v2 v3 v4 h
    exact jg_X6_fair_27 l G hG sz out (b_X6_fair_27 n) ih σ v1 v2 v3 v4 h
def f_X6_fair (σ : jx_M) (a1 : Int32) : Option (Int32 × jx_M) :=
  jx_bd (f_X6_in a1 (0 : Int32) (1 : Int32)) (fun q1 => if q1 = 0 then some ((-1 : Int32), σ) else jx_bd (f_X6_looksForNight σ) (fun q3 => jx_bd (f_X6_laysAll q3) (fun q4 => (b_X6_fair_27 jx_fuel q4 a1 (0 : Int32) (99 : Int32) (0 : Int32)))))
set_option maxHeartbeats 4000000 in
set_option maxRecDepth 100000 in
theorem k_X6_fair (l : Launch) (G : jx_G) (hG : mm_ok G) (sz : Nat) (σ : jx_M) (a1 : Int32) (out : (Int32 × jx_M)) (h : f_X6_fair σ a1 = some out) : Met l yX6_fair (Cond.code yX6_fair cX6_fair 7 (some .int) :: jx_ws) rm_X6_fair (jx_Pc (mm_env G) (mm_dyn G) (mm_rg G) sz σ [.ref (G.2 10), .int a1]) (jx_Qi (mm_dyn G) out.2 out.1 (jx_A (mm_rg G) sz)) 0 0 (jx_A (mm_rg G) sz) := by
  unfold f_X6_fair at h
  refine jx_met (by decide) (Nat.le_of_ble_eq_true rfl) ?_
  refine jx_sub (lv' := [(0, .ref (G.2 10)), (1, .int a1)]) [0, 1] rfl ?_
  refine jx_iload_n (pc := 0) (k0 := 1) rfl dX6_fair_0 ?_
  refine jx_iconst (pc := 1) (v := (0 : Int32)) (by decide) dX6_fair_1 ?_
  refine jx_iconst (pc := 2) (v := (1 : Int32)) (by decide) dX6_fair_2 ?_
  obtain ⟨q1, eq1, h⟩ := jx_bd_o h
  refine jx_callSi (pc := 3) [.int a1, .int (0 : Int32), .int (1 : Int32)] (fun sz' => k_X6_in l G hG sz' σ a1 (0 : Int32) (1 : Int32) q1 eq1) ks_X6_48 mm_jok rfl rfl (Nat.le_of_ble_eq_true rfl) ⟨⟨rfl, rfl⟩, ⟨Nat.le_of_ble_eq_true rfl, Nat.le_of_ble_eq_true rfl⟩, Nat.zero_le _, Nat.zero_le _⟩ dX6_fair_3 ?_
  refine jx_if_ne (pc := 6) (tgt := 11) dX6_fair_6 (by decide) (fun c2 => ?_) (fun c2 => ?_)
  · have h := jx_f c2 h
    refine jx_aload_n (pc := 11) (k0 := 0) rfl dX6_fair_11 ?_
    obtain ⟨q3, eq3, h⟩ := jx_bd_o h
    refine jx_callVv (pc := 12) [] (fun sz' => k_X6_looksForNight l G hG sz' σ q3 eq3) kv_X6_185 mm_jok mm_rc rfl rfl (Nat.le_of_ble_eq_true rfl) ⟨⟨rfl, rfl⟩, ⟨Nat.le_of_ble_eq_true rfl, Nat.le_of_ble_eq_true rfl⟩, Nat.zero_le _, Nat.zero_le _⟩ dX6_fair_12 ?_
    refine jx_aload_n (pc := 15) (k0 := 0) rfl dX6_fair_15 ?_
    obtain ⟨q4, eq4, h⟩ := jx_bd_o h
    refine jx_callVv (pc := 16) [] (fun sz' => k_X6_laysAll l G hG sz' q3 q4 eq4) kv_X6_188 mm_jok mm_rc rfl rfl (Nat.le_of_ble_eq_true rfl) ⟨⟨rfl, rfl⟩, ⟨Nat.le_of_ble_eq_true rfl, Nat.le_of_ble_eq_true rfl⟩, Nat.zero_le _, Nat.zero_le _⟩ dX6_fair_16 ?_
    refine jx_iconst (pc := 19) (v := (0 : Int32)) (by decide) dX6_fair_19 ?_
    refine jx_istore_n (pc := 20) (i := 2) rfl rfl (by decide) (lv' := [(2, .int (0 : Int32)), (0, .ref (G.2 10)), (1, .int a1)]) rfl dX6_fair_20 ?_
    refine jx_bipush (pc := 21) (v := (99 : Int32)) (by decide) dX6_fair_21 ?_
    refine jx_istore_n (pc := 23) (i := 3) rfl rfl (by decide) (lv' := [(3, .int (99 : Int32)), (2, .int (0 : Int32)), (0, .ref (G.2 10)), (1, .int a1)]) rfl dX6_fair_23 ?_
    refine jx_iconst (pc := 24) (v := (0 : Int32)) (by decide) dX6_fair_24 ?_
    refine jx_istore (pc := 25) (i := 4) rfl (by decide) (lv' := [(4, .int (0 : Int32)), (3, .int (99 : Int32)), (2, .int (0 : Int32)), (0, .ref (G.2 10)), (1, .int a1)]) rfl dX6_fair_25 ?_
    exact jx_sub [3, 4, 2, 1, 0] rfl (jb_X6_fair_27 l G hG sz out jx_fuel q4 a1 (0 : Int32) (99 : Int32) (0 : Int32) h)
  · have h := jx_t c2 h
    refine jx_iconst (pc := 9) (v := (-1 : Int32)) (by decide) dX6_fair_9 ?_
    have h := Option.some.inj h
    subst h
    exact jx_iret (pc := 10) dX6_fair_10
