/-! the reference's methods: a function on the memory each, and its contract -/
theorem dX6_set_0 : decode cX6_set 0 = .ok (.aload_n 0, 1) := by decide +kernel
theorem dX6_set_1 : decode cX6_set 1 = .ok (.iload_n 1, 1) := by decide +kernel
theorem dX6_set_2 : decode cX6_set 2 = .ok (.invokevirtual 163, 3) := by decide +kernel
theorem dX6_set_5 : decode cX6_set 5 = .ok (.ifCond .eq 12, 3) := by decide +kernel
theorem dX6_set_8 : decode cX6_set 8 = .ok (.iload_n 2, 1) := by decide +kernel
theorem dX6_set_9 : decode cX6_set 9 = .ok (.iconst 0, 1) := by decide +kernel
theorem dX6_set_10 : decode cX6_set 10 = .ok (.iconst 1, 1) := by decide +kernel
theorem dX6_set_11 : decode cX6_set 11 = .ok (.invokestatic 48, 3) := by decide +kernel
theorem dX6_set_14 : decode cX6_set 14 = .ok (.ifCond .ne 7, 3) := by decide +kernel
theorem dX6_set_17 : decode cX6_set 17 = .ok (.sipush (-1001), 3) := by decide +kernel
theorem dX6_set_20 : decode cX6_set 20 = .ok (.ireturn, 1) := by decide +kernel
theorem dX6_set_21 : decode cX6_set 21 = .ok (.aload_n 0, 1) := by decide +kernel
theorem dX6_set_22 : decode cX6_set 22 = .ok (.invokevirtual 185, 3) := by decide +kernel
theorem dX6_set_25 : decode cX6_set 25 = .ok (.aload_n 0, 1) := by decide +kernel
theorem dX6_set_26 : decode cX6_set 26 = .ok (.invokevirtual 188, 3) := by decide +kernel
theorem dX6_set_29 : decode cX6_set 29 = .ok (.aload_n 0, 1) := by decide +kernel
theorem dX6_set_30 : decode cX6_set 30 = .ok (.iload_n 1, 1) := by decide +kernel
theorem dX6_set_31 : decode cX6_set 31 = .ok (.invokevirtual 221, 3) := by decide +kernel
theorem dX6_set_34 : decode cX6_set 34 = .ok (.iload_n 2, 1) := by decide +kernel
theorem dX6_set_35 : decode cX6_set 35 = .ok (.ifCond .ne 10, 3) := by decide +kernel
theorem dX6_set_38 : decode cX6_set 38 = .ok (.aload_n 0, 1) := by decide +kernel
theorem dX6_set_39 : decode cX6_set 39 = .ok (.getfield 212, 3) := by decide +kernel
theorem dX6_set_42 : decode cX6_set 42 = .ok (.goto 7, 3) := by decide +kernel
theorem dX6_set_45 : decode cX6_set 45 = .ok (.aload_n 0, 1) := by decide +kernel
theorem dX6_set_46 : decode cX6_set 46 = .ok (.getfield 218, 3) := by decide +kernel
theorem dX6_set_49 : decode cX6_set 49 = .ok (.ireturn, 1) := by decide +kernel
abbrev rm_X6_set : Room := { frames := 5, cells := 0, slots := 0, locals := 126 }
abbrev jJ_X6_set (l : Launch) (G : jx_G) (sz : Nat) (out : (Int32 × jx_M)) (pc : Nat) (lv : List (Nat × Value)) (st : List Value) (σ : jx_M) : Prop := jx_J l (mm_env G) (mm_dyn G) (mm_rg G) sz RX6 "set" cX6_set 3 (some .int) rm_X6_set (fun below args s => MQ below (jx_Qi (mm_dyn G) out.2 out.1 (jx_A (mm_rg G) sz)) args s 0 0 (jx_A (mm_rg G) sz)) 0 0 pc lv st σ
def f_X6_set (σ : jx_M) (a1 : Int32) (a2 : Int32) : Option (Int32 × jx_M) :=
  jx_bd (f_X6_isVoter σ a1) (fun q1 => if q1 = 0 then some ((-1001 : Int32), σ) else jx_bd (f_X6_in a2 (0 : Int32) (1 : Int32)) (fun q3 => if q3 = 0 then some ((-1001 : Int32), σ) else jx_bd (f_X6_looksForNight σ) (fun q5 => jx_bd (f_X6_laysAll q5) (fun q6 => jx_bd (f_X6_looksForBest q6 a1) (fun q7 => if a2 = 0 then some ((q7 0 19), q7) else some ((q7 0 20), q7))))))
set_option maxHeartbeats 4000000 in
set_option maxRecDepth 100000 in
theorem k_X6_set (l : Launch) (G : jx_G) (hG : mm_ok G) (sz : Nat) (σ : jx_M) (a1 : Int32) (a2 : Int32) (out : (Int32 × jx_M)) (h : f_X6_set σ a1 a2 = some out) : Met l yX6_set (Cond.code yX6_set cX6_set 3 (some .int) :: jx_ws) rm_X6_set (jx_Pc (mm_env G) (mm_dyn G) (mm_rg G) sz σ [.ref (G.2 10), .int a1, .int a2]) (jx_Qi (mm_dyn G) out.2 out.1 (jx_A (mm_rg G) sz)) 0 0 (jx_A (mm_rg G) sz) := by
  unfold f_X6_set at h
  refine jx_met (by decide) (Nat.le_of_ble_eq_true rfl) ?_
  refine jx_sub (lv' := [(0, .ref (G.2 10)), (1, .int a1), (2, .int a2)]) [0, 1, 2] rfl ?_
  refine jx_aload_n (pc := 0) (k0 := 0) rfl dX6_set_0 ?_
  refine jx_iload_n (pc := 1) (k0 := 1) rfl dX6_set_1 ?_
  obtain ⟨q1, eq1, h⟩ := jx_bd_o h
  refine jx_callVi (pc := 2) [.int a1] (fun sz' => k_X6_isVoter l G hG sz' σ a1 q1 eq1) kv_X6_163 mm_jok mm_rc rfl rfl (Nat.le_of_ble_eq_true rfl) ⟨⟨rfl, rfl⟩, ⟨Nat.le_of_ble_eq_true rfl, Nat.le_of_ble_eq_true rfl⟩, Nat.zero_le _, Nat.zero_le _⟩ dX6_set_2 ?_
  refine jx_if_eq (pc := 5) (tgt := 17) dX6_set_5 (by decide) (fun c2 => ?_) (fun c2 => ?_)
  · have h := jx_t c2 h
    refine jx_sipush (pc := 17) (v := (-1001 : Int32)) (by decide) dX6_set_17 ?_
    cases h
    exact jx_iret (pc := 20) dX6_set_20
  · have h := jx_f c2 h
    refine jx_iload_n (pc := 8) (k0 := 2) rfl dX6_set_8 ?_
    refine jx_iconst (pc := 9) (v := (0 : Int32)) (by decide) dX6_set_9 ?_
    refine jx_iconst (pc := 10) (v := (1 : Int32)) (by decide) dX6_set_10 ?_
    obtain ⟨q3, eq3, h⟩ := jx_bd_o h
    refine jx_callSi (pc := 11) [.int a2, .int (0 : Int32), .int (1 : Int32)] (fun sz' => k_X6_in l G hG sz' σ a2 (0 : Int32) (1 : Int32) q3 eq3) ks_X6_48 mm_jok rfl rfl (Nat.le_of_ble_eq_true rfl) ⟨⟨rfl, rfl⟩, ⟨Nat.le_of_ble_eq_true rfl, Nat.le_of_ble_eq_true rfl⟩, Nat.zero_le _, Nat.zero_le _⟩ dX6_set_11 ?_
    refine jx_if_ne (pc := 14) (tgt := 21) dX6_set_14 (by decide) (fun c4 => ?_) (fun c4 => ?_)
    · have h := jx_f c4 h
      refine jx_aload_n (pc := 21) (k0 := 0) rfl dX6_set_21 ?_
      obtain ⟨q5, eq5, h⟩ := jx_bd_o h
      refine jx_callVv (pc := 22) [] (fun sz' => k_X6_looksForNight l G hG sz' σ q5 eq5) kv_X6_185 mm_jok mm_rc rfl rfl (Nat.le_of_ble_eq_true rfl) ⟨⟨rfl, rfl⟩, ⟨Nat.le_of_ble_eq_true rfl, Nat.le_of_ble_eq_true rfl⟩, Nat.zero_le _, Nat.zero_le _⟩ dX6_set_22 ?_
      refine jx_aload_n (pc := 25) (k0 := 0) rfl dX6_set_25 ?_
      obtain ⟨q6, eq6, h⟩ := jx_bd_o h
      refine jx_callVv (pc := 26) [] (fun sz' => k_X6_laysAll l G hG sz' q5 q6 eq6) kv_X6_188 mm_jok mm_rc rfl rfl (Nat.le_of_ble_eq_true rfl) ⟨⟨rfl, rfl⟩, ⟨Nat.le_of_ble_eq_true rfl, Nat.le_of_ble_eq_true rfl⟩, Nat.zero_le _, Nat.zero_le _⟩ dX6_set_26 ?_
      refine jx_aload_n (pc := 29) (k0 := 0) rfl dX6_set_29 ?_
      refine jx_iload_n (pc := 30) (k0 := 1) rfl dX6_set_30 ?_
      obtain ⟨q7, eq7, h⟩ := jx_bd_o h
      refine jx_callVv (pc := 31) [.int a1] (fun sz' => k_X6_looksForBest l G hG sz' q6 a1 q7 eq7) kv_X6_221 mm_jok mm_rc rfl rfl (Nat.le_of_ble_eq_true rfl) ⟨⟨rfl, rfl⟩, ⟨Nat.le_of_ble_eq_true rfl, Nat.le_of_ble_eq_true rfl⟩, Nat.zero_le _, Nat.zero_le _⟩ dX6_set_31 ?_
      refine jx_iload_n (pc := 34) (k0 := 2) rfl dX6_set_34 ?_
      refine jx_if_ne (pc := 35) (tgt := 45) dX6_set_35 (by decide) (fun c8 => ?_) (fun c8 => ?_)
      · have h := jx_f c8 h
        refine jx_aload_n (pc := 45) (k0 := 0) rfl dX6_set_45 ?_
        refine mm_g_bestMore (pc := 46) fl_X6_218 dX6_set_46 ?_
        cases h
        exact jx_iret (pc := 49) dX6_set_49
      · have h := jx_t c8 h
        refine jx_aload_n (pc := 38) (k0 := 0) rfl dX6_set_38 ?_
        refine mm_g_bestPlace (pc := 39) fl_X6_212 dX6_set_39 ?_
        refine jx_goto (pc := 42) (tgt := 49) dX6_set_42 (by decide) ?_
        cases h
        exact jx_iret (pc := 49) dX6_set_49
    · have h := jx_t c4 h
      refine jx_sipush (pc := 17) (v := (-1001 : Int32)) (by decide) dX6_set_17 ?_
      cases h
      exact jx_iret (pc := 20) dX6_set_20
theorem dX6_game_0 : decode cX6_game 0 = .ok (.aload_n 0, 1) := by decide +kernel
theorem dX6_game_1 : decode cX6_game 1 = .ok (.iload_n 1, 1) := by decide +kernel
theorem dX6_game_2 : decode cX6_game 2 = .ok (.invokevirtual 163, 3) := by decide +kernel
theorem dX6_game_5 : decode cX6_game 5 = .ok (.ifCond .eq 20, 3) := by decide +kernel
theorem dX6_game_8 : decode cX6_game 8 = .ok (.aload_n 0, 1) := by decide +kernel
theorem dX6_game_9 : decode cX6_game 9 = .ok (.iload_n 2, 1) := by decide +kernel
theorem dX6_game_10 : decode cX6_game 10 = .ok (.invokevirtual 163, 3) := by decide +kernel
theorem dX6_game_13 : decode cX6_game 13 = .ok (.ifCond .eq 12, 3) := by decide +kernel
theorem dX6_game_16 : decode cX6_game 16 = .ok (.iload_n 3, 1) := by decide +kernel
theorem dX6_game_17 : decode cX6_game 17 = .ok (.iconst 0, 1) := by decide +kernel
theorem dX6_game_18 : decode cX6_game 18 = .ok (.iconst 1, 1) := by decide +kernel
theorem dX6_game_19 : decode cX6_game 19 = .ok (.invokestatic 48, 3) := by decide +kernel
theorem dX6_game_22 : decode cX6_game 22 = .ok (.ifCond .ne 7, 3) := by decide +kernel
theorem dX6_game_25 : decode cX6_game 25 = .ok (.sipush (-1001), 3) := by decide +kernel
theorem dX6_game_28 : decode cX6_game 28 = .ok (.ireturn, 1) := by decide +kernel
theorem dX6_game_29 : decode cX6_game 29 = .ok (.iload_n 1, 1) := by decide +kernel
theorem dX6_game_30 : decode cX6_game 30 = .ok (.iload_n 2, 1) := by decide +kernel
theorem dX6_game_31 : decode cX6_game 31 = .ok (.if_icmp .ne 7, 3) := by decide +kernel
theorem dX6_game_34 : decode cX6_game 34 = .ok (.sipush (-1002), 3) := by decide +kernel
theorem dX6_game_37 : decode cX6_game 37 = .ok (.ireturn, 1) := by decide +kernel
theorem dX6_game_38 : decode cX6_game 38 = .ok (.aload_n 0, 1) := by decide +kernel
theorem dX6_game_39 : decode cX6_game 39 = .ok (.invokevirtual 185, 3) := by decide +kernel
theorem dX6_game_42 : decode cX6_game 42 = .ok (.aload_n 0, 1) := by decide +kernel
theorem dX6_game_43 : decode cX6_game 43 = .ok (.invokevirtual 188, 3) := by decide +kernel
theorem dX6_game_46 : decode cX6_game 46 = .ok (.iconst (-1), 1) := by decide +kernel
theorem dX6_game_47 : decode cX6_game 47 = .ok (.istore 4, 2) := by decide +kernel
theorem dX6_game_49 : decode cX6_game 49 = .ok (.iconst 0, 1) := by decide +kernel
theorem dX6_game_50 : decode cX6_game 50 = .ok (.istore 5, 2) := by decide +kernel
theorem dX6_game_52 : decode cX6_game 52 = .ok (.iconst 0, 1) := by decide +kernel
theorem dX6_game_53 : decode cX6_game 53 = .ok (.istore 6, 2) := by decide +kernel
theorem dX6_game_55 : decode cX6_game 55 = .ok (.iload 6, 2) := by decide +kernel
theorem dX6_game_57 : decode cX6_game 57 = .ok (.aload_n 0, 1) := by decide +kernel
theorem dX6_game_58 : decode cX6_game 58 = .ok (.getfield 9, 3) := by decide +kernel
theorem dX6_game_61 : decode cX6_game 61 = .ok (.bipush 6, 2) := by decide +kernel
theorem dX6_game_63 : decode cX6_game 63 = .ok (.iaload, 1) := by decide +kernel
theorem dX6_game_64 : decode cX6_game 64 = .ok (.if_icmp .ge 76, 3) := by decide +kernel
theorem dX6_game_67 : decode cX6_game 67 = .ok (.aload_n 0, 1) := by decide +kernel
theorem dX6_game_68 : decode cX6_game 68 = .ok (.iload_n 1, 1) := by decide +kernel
theorem dX6_game_69 : decode cX6_game 69 = .ok (.iload 6, 2) := by decide +kernel
theorem dX6_game_71 : decode cX6_game 71 = .ok (.invokevirtual 176, 3) := by decide +kernel
theorem dX6_game_74 : decode cX6_game 74 = .ok (.aload_n 0, 1) := by decide +kernel
theorem dX6_game_75 : decode cX6_game 75 = .ok (.iload_n 2, 1) := by decide +kernel
theorem dX6_game_76 : decode cX6_game 76 = .ok (.invokevirtual 221, 3) := by decide +kernel
theorem dX6_game_79 : decode cX6_game 79 = .ok (.aload_n 0, 1) := by decide +kernel
theorem dX6_game_80 : decode cX6_game 80 = .ok (.iload_n 1, 1) := by decide +kernel
theorem dX6_game_81 : decode cX6_game 81 = .ok (.invokevirtual 215, 3) := by decide +kernel
theorem dX6_game_84 : decode cX6_game 84 = .ok (.istore 7, 2) := by decide +kernel
theorem dX6_game_86 : decode cX6_game 86 = .ok (.iload 4, 2) := by decide +kernel
theorem dX6_game_88 : decode cX6_game 88 = .ok (.iconst (-1), 1) := by decide +kernel
theorem dX6_game_89 : decode cX6_game 89 = .ok (.if_icmp .eq 10, 3) := by decide +kernel
theorem dX6_game_92 : decode cX6_game 92 = .ok (.iload 7, 2) := by decide +kernel
theorem dX6_game_94 : decode cX6_game 94 = .ok (.iload 5, 2) := by decide +kernel
theorem dX6_game_96 : decode cX6_game 96 = .ok (.if_icmp .le 7, 3) := by decide +kernel
theorem dX6_game_99 : decode cX6_game 99 = .ok (.iconst 1, 1) := by decide +kernel
theorem dX6_game_100 : decode cX6_game 100 = .ok (.goto 4, 3) := by decide +kernel
theorem dX6_game_103 : decode cX6_game 103 = .ok (.iconst 0, 1) := by decide +kernel
theorem dX6_game_104 : decode cX6_game 104 = .ok (.istore 8, 2) := by decide +kernel
theorem dX6_game_106 : decode cX6_game 106 = .ok (.iload 8, 2) := by decide +kernel
theorem dX6_game_108 : decode cX6_game 108 = .ok (.ifCond .eq 8, 3) := by decide +kernel
theorem dX6_game_111 : decode cX6_game 111 = .ok (.iload 6, 2) := by decide +kernel
theorem dX6_game_113 : decode cX6_game 113 = .ok (.goto 5, 3) := by decide +kernel
theorem dX6_game_116 : decode cX6_game 116 = .ok (.iload 4, 2) := by decide +kernel
theorem dX6_game_118 : decode cX6_game 118 = .ok (.istore 4, 2) := by decide +kernel
theorem dX6_game_120 : decode cX6_game 120 = .ok (.iload 8, 2) := by decide +kernel
theorem dX6_game_122 : decode cX6_game 122 = .ok (.ifCond .eq 8, 3) := by decide +kernel
theorem dX6_game_125 : decode cX6_game 125 = .ok (.iload 7, 2) := by decide +kernel
theorem dX6_game_127 : decode cX6_game 127 = .ok (.goto 5, 3) := by decide +kernel
theorem dX6_game_130 : decode cX6_game 130 = .ok (.iload 5, 2) := by decide +kernel
theorem dX6_game_132 : decode cX6_game 132 = .ok (.istore 5, 2) := by decide +kernel
theorem dX6_game_134 : decode cX6_game 134 = .ok (.iinc 6 1, 3) := by decide +kernel
theorem dX6_game_137 : decode cX6_game 137 = .ok (.goto (-82), 3) := by decide +kernel
theorem dX6_game_140 : decode cX6_game 140 = .ok (.iload_n 3, 1) := by decide +kernel
theorem dX6_game_141 : decode cX6_game 141 = .ok (.ifCond .ne 8, 3) := by decide +kernel
theorem dX6_game_144 : decode cX6_game 144 = .ok (.iload 4, 2) := by decide +kernel
theorem dX6_game_146 : decode cX6_game 146 = .ok (.goto 5, 3) := by decide +kernel
theorem dX6_game_149 : decode cX6_game 149 = .ok (.iload 5, 2) := by decide +kernel
theorem dX6_game_151 : decode cX6_game 151 = .ok (.ireturn, 1) := by decide +kernel
abbrev rm_X6_game : Room := { frames := 5, cells := 0, slots := 0, locals := 126 }
abbrev jJ_X6_game (l : Launch) (G : jx_G) (sz : Nat) (out : (Int32 × jx_M)) (pc : Nat) (lv : List (Nat × Value)) (st : List Value) (σ : jx_M) : Prop := jx_J l (mm_env G) (mm_dyn G) (mm_rg G) sz RX6 "game" cX6_game 9 (some .int) rm_X6_game (fun below args s => MQ below (jx_Qi (mm_dyn G) out.2 out.1 (jx_A (mm_rg G) sz)) args s 0 0 (jx_A (mm_rg G) sz)) 0 0 pc lv st σ
def b_X6_game_132 (k55 : jx_M → Int32 → Int32 → Int32 → Int32 → Int32 → Int32 → Option (Int32 × jx_M)) (σ : jx_M) (v1 : Int32) (v2 : Int32) (v3 : Int32) (v4 : Int32) (v6 : Int32) (s0 : Int32) : Option (Int32 × jx_M) :=
  jx_lt (v6 + (1 : Int32)) (fun x1 => (k55 σ v1 v2 v3 v4 s0 x1))
set_option maxHeartbeats 4000000 in
set_option maxRecDepth 100000 in
theorem jb_X6_game_132 (l : Launch) (G : jx_G) (hG : mm_ok G) (sz : Nat) (out : (Int32 × jx_M)) (k55 : jx_M → Int32 → Int32 → Int32 → Int32 → Int32 → Int32 → Option (Int32 × jx_M)) (h55 : ∀ (σ : jx_M) (v1 : Int32) (v2 : Int32) (v3 : Int32) (v4 : Int32) (v5 : Int32) (v6 : Int32), k55 σ v1 v2 v3 v4 v5 v6 = some out → jJ_X6_game l G sz out 55 [(0, .ref (G.2 10)), (1, .int v1), (2, .int v2), (3, .int v3), (4, .int v4), (5, .int v5), (6, .int v6)] [] σ) (σ : jx_M) (v1 : Int32) (v2 : Int32) (v3 : Int32) (v4 : Int32) (v6 : Int32) (s0 : Int32) (h : b_X6_game_132 k55 σ v1 v2 v3 v4 v6 s0 = some out) : jJ_X6_game l G sz out 132 [(0, .ref (G.2 10)), (1, .int v1), (2, .int v2), (3, .int v3), (4, .int v4), (6, .int v6)] [.int s0] σ := by
  unfold b_X6_game_132 at h
  refine jx_istore (pc := 132) (i := 5) rfl (by decide) (lv' := [(5, .int s0), (0, .ref (G.2 10)), (1, .int v1), (2, .int v2), (3, .int v3), (4, .int v4), (6, .int v6)]) rfl dX6_game_132 ?_
  obtain ⟨x1, ex1, h⟩ := jx_lt_o h
  refine jx_iinc (pc := 134) (i := 6) (v := v6) rfl ex1 (n := 1) (by decide) (by decide) (lv' := [(6, .int x1), (5, .int s0), (0, .ref (G.2 10)), (1, .int v1), (2, .int v2), (3, .int v3), (4, .int v4)]) rfl dX6_game_134 ?_
  refine jx_goto (pc := 137) (tgt := 55) dX6_game_137 (by decide) ?_
  exact jx_sub [2, 3, 4, 5, 6, 1, 0] rfl (h55 σ v1 v2 v3 v4 s0 x1 h)
def b_X6_game_118 (k55 : jx_M → Int32 → Int32 → Int32 → Int32 → Int32 → Int32 → Option (Int32 × jx_M)) (σ : jx_M) (v1 : Int32) (v2 : Int32) (v3 : Int32) (v5 : Int32) (v6 : Int32) (v7 : Int32) (v8 : Int32) (s0 : Int32) : Option (Int32 × jx_M) :=
  if v8 = 0 then (b_X6_game_132 k55 σ v1 v2 v3 s0 v6 v5) else (b_X6_game_132 k55 σ v1 v2 v3 s0 v6 v7)
set_option maxHeartbeats 4000000 in
set_option maxRecDepth 100000 in
theorem jb_X6_game_118 (l : Launch) (G : jx_G) (hG : mm_ok G) (sz : Nat) (out : (Int32 × jx_M)) (k55 : jx_M → Int32 → Int32 → Int32 → Int32 → Int32 → Int32 → Option (Int32 × jx_M)) (h55 : ∀ (σ : jx_M) (v1 : Int32) (v2 : Int32) (v3 : Int32) (v4 : Int32) (v5 : Int32) (v6 : Int32), k55 σ v1 v2 v3 v4 v5 v6 = some out → jJ_X6_game l G sz out 55 [(0, .ref (G.2 10)), (1, .int v1), (2, .int v2), (3, .int v3), (4, .int v4), (5, .int v5), (6, .int v6)] [] σ) (σ : jx_M) (v1 : Int32) (v2 : Int32) (v3 : Int32) (v5 : Int32) (v6 : Int32) (v7 : Int32) (v8 : Int32) (s0 : Int32) (h : b_X6_game_118 k55 σ v1 v2 v3 v5 v6 v7 v8 s0 = some out) : jJ_X6_game l G sz out 118 [(0, .ref (G.2 10)), (1, .int v1), (2, .int v2), (3, .int v3), (5, .int v5), (6, .int v6), (7, .int v7), (8, .int v8)] [.int s0] σ := by
  unfold b_X6_game_118 at h
  refine jx_istore (pc := 118) (i := 4) rfl (by decide) (lv' := [(4, .int s0), (0, .ref (G.2 10)), (1, .int v1), (2, .int v2), (3, .int v3), (5, .int v5), (6, .int v6), (7, .int v7), (8, .int v8)]) rfl dX6_game_118 ?_
  refine jx_iload (pc := 120) (i := 8) rfl dX6_game_120 ?_
  refine jx_if_eq (pc := 122) (tgt := 130) dX6_game_122 (by decide) (fun c1 => ?_) (fun c1 => ?_)
  · have h := jx_t c1 h
    refine jx_iload (pc := 130) (i := 5) rfl dX6_game_130 ?_
    exact jx_sub [1, 2, 3, 4, 0, 6] rfl (jb_X6_game_132 l G hG sz out k55 h55 σ v1 v2 v3 s0 v6 v5 h)
  · have h := jx_f c1 h
    refine jx_iload (pc := 125) (i := 7) rfl dX6_game_125 ?_
    refine jx_goto (pc := 127) (tgt := 132) dX6_game_127 (by decide) ?_
    exact jx_sub [1, 2, 3, 4, 0, 6] rfl (jb_X6_game_132 l G hG sz out k55 h55 σ v1 v2 v3 s0 v6 v7 h)
def b_X6_game_104 (k55 : jx_M → Int32 → Int32 → Int32 → Int32 → Int32 → Int32 → Option (Int32 × jx_M)) (σ : jx_M) (v1 : Int32) (v2 : Int32) (v3 : Int32) (v4 : Int32) (v5 : Int32) (v6 : Int32) (v7 : Int32) (s0 : Int32) : Option (Int32 × jx_M) :=
  if s0 = 0 then (b_X6_game_118 k55 σ v1 v2 v3 v5 v6 v7 s0 v4) else (b_X6_game_118 k55 σ v1 v2 v3 v5 v6 v7 s0 v6)
set_option maxHeartbeats 4000000 in
set_option maxRecDepth 100000 in
theorem jb_X6_game_104 (l : Launch) (G : jx_G) (hG : mm_ok G) (sz : Nat) (out : (Int32 × jx_M)) (k55 : jx_M → Int32 → Int32 → Int32 → Int32 → Int32 → Int32 → Option (Int32 × jx_M)) (h55 : ∀ (σ : jx_M) (v1 : Int32) (v2 : Int32) (v3 : Int32) (v4 : Int32) (v5 : Int32) (v6 : Int32), k55 σ v1 v2 v3 v4 v5 v6 = some out → jJ_X6_game l G sz out 55 [(0, .ref (G.2 10)), (1, .int v1), (2, .int v2), (3, .int v3), (4, .int v4), (5, .int v5), (6, .int v6)] [] σ) (σ : jx_M) (v1 : Int32) (v2 : Int32) (v3 : Int32) (v4 : Int32) (v5 : Int32) (v6 : Int32) (v7 : Int32) (s0 : Int32) (h : b_X6_game_104 k55 σ v1 v2 v3 v4 v5 v6 v7 s0 = some out) : jJ_X6_game l G sz out 104 [(0, .ref (G.2 10)), (1, .int v1), (2, .int v2), (3, .int v3), (4, .int v4), (5, .int v5), (6, .int v6), (7, .int v7)] [.int s0] σ := by
  unfold b_X6_game_104 at h
  refine jx_istore (pc := 104) (i := 8) rfl (by decide) (lv' := [(8, .int s0), (0, .ref (G.2 10)), (1, .int v1), (2, .int v2), (3, .int v3), (4, .int v4), (5, .int v5), (6, .int v6), (7, .int v7)]) rfl dX6_game_104 ?_
  refine jx_iload (pc := 106) (i := 8) rfl dX6_game_106 ?_
  refine jx_if_eq (pc := 108) (tgt := 116) dX6_game_108 (by decide) (fun c1 => ?_) (fun c1 => ?_)
  · have h := jx_t c1 h
    refine jx_iload (pc := 116) (i := 4) rfl dX6_game_116 ?_
    exact jx_sub [1, 2, 3, 4, 6, 7, 8, 0] rfl (jb_X6_game_118 l G hG sz out k55 h55 σ v1 v2 v3 v5 v6 v7 s0 v4 h)
  · have h := jx_f c1 h
    refine jx_iload (pc := 111) (i := 6) rfl dX6_game_111 ?_
    refine jx_goto (pc := 113) (tgt := 118) dX6_game_113 (by decide) ?_
    exact jx_sub [1, 2, 3, 4, 6, 7, 8, 0] rfl (jb_X6_game_118 l G hG sz out k55 h55 σ v1 v2 v3 v5 v6 v7 s0 v6 h)
def b_X6_game_99 (k55 : jx_M → Int32 → Int32 → Int32 → Int32 → Int32 → Int32 → Option (Int32 × jx_M)) (σ : jx_M) (v1 : Int32) (v2 : Int32) (v3 : Int32) (v4 : Int32) (v5 : Int32) (v6 : Int32) (v7 : Int32) : Option (Int32 × jx_M) :=
  (b_X6_game_104 k55 σ v1 v2 v3 v4 v5 v6 v7 (1 : Int32))
set_option maxHeartbeats 4000000 in
set_option maxRecDepth 100000 in
theorem jb_X6_game_99 (l : Launch) (G : jx_G) (hG : mm_ok G) (sz : Nat) (out : (Int32 × jx_M)) (k55 : jx_M → Int32 → Int32 → Int32 → Int32 → Int32 → Int32 → Option (Int32 × jx_M)) (h55 : ∀ (σ : jx_M) (v1 : Int32) (v2 : Int32) (v3 : Int32) (v4 : Int32) (v5 : Int32) (v6 : Int32), k55 σ v1 v2 v3 v4 v5 v6 = some out → jJ_X6_game l G sz out 55 [(0, .ref (G.2 10)), (1, .int v1), (2, .int v2), (3, .int v3), (4, .int v4), (5, .int v5), (6, .int v6)] [] σ) (σ : jx_M) (v1 : Int32) (v2 : Int32) (v3 : Int32) (v4 : Int32) (v5 : Int32) (v6 : Int32) (v7 : Int32) (h : b_X6_game_99 k55 σ v1 v2 v3 v4 v5 v6 v7 = some out) : jJ_X6_game l G sz out 99 [(0, .ref (G.2 10)), (1, .int v1), (2, .int v2), (3, .int v3), (4, .int v4), (5, .int v5), (6, .int v6), (7, .int v7)] [] σ := by
  unfold b_X6_game_99 at h
  refine jx_iconst (pc := 99) (v := (1 : Int32)) (by decide) dX6_game_99 ?_
  refine jx_goto (pc := 100) (tgt := 104) dX6_game_100 (by decide) ?_
  exact jx_sub [0, 1, 2, 3, 4, 5, 6, 7] rfl (jb_X6_game_104 l G hG sz out k55 h55 σ v1 v2 v3 v4 v5 v6 v7 (1 : Int32) h)
def g_X6_game_55 (k55 : jx_M → Int32 → Int32 → Int32 → Int32 → Int32 → Int32 → Option (Int32 × jx_M)) (σ : jx_M) (v1 : Int32) (v2 : Int32) (v3 : Int32) (v4 : Int32) (v5 : Int32) (v6 : Int32) : Option (Int32 × jx_M) :=
  if (σ 1 6) ≤ v6 then if v3 = 0 then some (v4, σ) else some (v5, σ) else jx_bd (f_X6_lays σ v1 v6) (fun q3 => jx_bd (f_X6_looksForBest q3 v2) (fun q4 => jx_bd (f_X6_moreOf q4 v1) (fun q5 => if v4 = (-1 : Int32) then (b_X6_game_99 k55 q4 v1 v2 v3 v4 v5 v6 q5) else if q5 ≤ v5 then (b_X6_game_104 k55 q4 v1 v2 v3 v4 v5 v6 q5 (0 : Int32)) else (b_X6_game_99 k55 q4 v1 v2 v3 v4 v5 v6 q5))))
set_option maxHeartbeats 4000000 in
set_option maxRecDepth 100000 in
theorem jg_X6_game_55 (l : Launch) (G : jx_G) (hG : mm_ok G) (sz : Nat) (out : (Int32 × jx_M)) (k55 : jx_M → Int32 → Int32 → Int32 → Int32 → Int32 → Int32 → Option (Int32 × jx_M)) (h55 : ∀ (σ : jx_M) (v1 : Int32) (v2 : Int32) (v3 : Int32) (v4 : Int32) (v5 : Int32) (v6 : Int32), k55 σ v1 v2 v3 v4 v5 v6 = some out → jJ_X6_game l G sz out 55 [(0, .ref (G.2 10)), (1, .int v1), (2, .int v2), (3, .int v3), (4, .int v4), (5, .int v5), (6, .int v6)] [] σ) (σ : jx_M) (v1 : Int32) (v2 : Int32) (v3 : Int32) (v4 : Int32) (v5 : Int32) (v6 : Int32) (h : g_X6_game_55 k55 σ v1 v2 v3 v4 v5 v6 = some out) : jJ_X6_game l G sz out 55 [(0, .ref (G.2 10)), (1, .int v1), (2, .int v2), (3, .int v3), (4, .int v4), (5, .int v5), (6, .int v6)] [] σ := by
  unfold g_X6_game_55 at h
  refine jx_iload (pc := 55) (i := 6) rfl dX6_game_55 ?_
  refine jx_aload_n (pc := 57) (k0 := 0) rfl dX6_game_57 ?_
  refine mm_g_s (pc := 58) fl_X6_9 dX6_game_58 ?_
  refine jx_bipush (pc := 61) (v := (6 : Int32)) (by decide) dX6_game_61 ?_
  refine mm_l_s (pc := 63) (j := 6) (jx_in_o (by decide)) (by decide) dX6_game_63 ?_
  refine jx_icmp_ge (pc := 64) (tgt := 140) dX6_game_64 (by decide) (fun c1 => ?_) (fun c1 => ?_)
  · have h := jx_t c1 h
    refine jx_iload_n (pc := 140) (k0 := 3) rfl dX6_game_140 ?_
    refine jx_if_ne (pc := 141) (tgt := 149) dX6_game_141 (by decide) (fun c2 => ?_) (fun c2 => ?_)
    · have h := jx_f c2 h
      refine jx_iload (pc := 149) (i := 5) rfl dX6_game_149 ?_
      cases h
      exact jx_iret (pc := 151) dX6_game_151
    · have h := jx_t c2 h
      refine jx_iload (pc := 144) (i := 4) rfl dX6_game_144 ?_
      refine jx_goto (pc := 146) (tgt := 151) dX6_game_146 (by decide) ?_
      cases h
      exact jx_iret (pc := 151) dX6_game_151
  · have h := jx_f c1 h
    refine jx_aload_n (pc := 67) (k0 := 0) rfl dX6_game_67 ?_
    refine jx_iload_n (pc := 68) (k0 := 1) rfl dX6_game_68 ?_
    refine jx_iload (pc := 69) (i := 6) rfl dX6_game_69 ?_
    obtain ⟨q3, eq3, h⟩ := jx_bd_o h
    refine jx_callVv (pc := 71) [.int v1, .int v6] (fun sz' => k_X6_lays l G hG sz' σ v1 v6 q3 eq3) kv_X6_176 mm_jok mm_rc rfl rfl (Nat.le_of_ble_eq_true rfl) ⟨⟨rfl, rfl⟩, ⟨Nat.le_of_ble_eq_true rfl, Nat.le_of_ble_eq_true rfl⟩, Nat.zero_le _, Nat.zero_le _⟩ dX6_game_71 ?_
    refine jx_aload_n (pc := 74) (k0 := 0) rfl dX6_game_74 ?_
    refine jx_iload_n (pc := 75) (k0 := 2) rfl dX6_game_75 ?_
    obtain ⟨q4, eq4, h⟩ := jx_bd_o h
    refine jx_callVv (pc := 76) [.int v2] (fun sz' => k_X6_looksForBest l G hG sz' q3 v2 q4 eq4) kv_X6_221 mm_jok mm_rc rfl rfl (Nat.le_of_ble_eq_true rfl) ⟨⟨rfl, rfl⟩, ⟨Nat.le_of_ble_eq_true rfl, Nat.le_of_ble_eq_true rfl⟩, Nat.zero_le _, Nat.zero_le _⟩ dX6_game_76 ?_
    refine jx_aload_n (pc := 79) (k0 := 0) rfl dX6_game_79 ?_
    refine jx_iload_n (pc := 80) (k0 := 1) rfl dX6_game_80 ?_
    obtain ⟨q5, eq5, h⟩ := jx_bd_o h
    refine jx_callVi (pc := 81) [.int v1] (fun sz' => k_X6_moreOf l G hG sz' q4 v1 q5 eq5) kv_X6_215 mm_jok mm_rc rfl rfl (Nat.le_of_ble_eq_true rfl) ⟨⟨rfl, rfl⟩, ⟨Nat.le_of_ble_eq_true rfl, Nat.le_of_ble_eq_true rfl⟩, Nat.zero_le _, Nat.zero_le _⟩ dX6_game_81 ?_
    refine jx_istore (pc := 84) (i := 7) rfl (by decide) (lv' := [(7, .int q5), (0, .ref (G.2 10)), (1, .int v1), (2, .int v2), (3, .int v3), (4, .int v4), (5, .int v5), (6, .int v6)]) rfl dX6_game_84 ?_
    refine jx_iload (pc := 86) (i := 4) rfl dX6_game_86 ?_
    refine jx_iconst (pc := 88) (v := (-1 : Int32)) (by decide) dX6_game_88 ?_
    refine jx_icmp_eq (pc := 89) (tgt := 99) dX6_game_89 (by decide) (fun c6 => ?_) (fun c6 => ?_)
    · have h := jx_t c6 h
      exact jx_sub [1, 2, 3, 4, 5, 6, 7, 0] rfl (jb_X6_game_99 l G hG sz out k55 h55 q4 v1 v2 v3 v4 v5 v6 q5 h)
    · have h := jx_f c6 h
      refine jx_iload (pc := 92) (i := 7) rfl dX6_game_92 ?_
      refine jx_iload (pc := 94) (i := 5) rfl dX6_game_94 ?_
      refine jx_icmp_le (pc := 96) (tgt := 103) dX6_game_96 (by decide) (fun c7 => ?_) (fun c7 => ?_)
      · have h := jx_t c7 h
        refine jx_iconst (pc := 103) (v := (0 : Int32)) (by decide) dX6_game_103 ?_
        exact jx_sub [1, 2, 3, 4, 5, 6, 7, 0] rfl (jb_X6_game_104 l G hG sz out k55 h55 q4 v1 v2 v3 v4 v5 v6 q5 (0 : Int32) h)
      · have h := jx_f c7 h
        exact jx_sub [1, 2, 3, 4, 5, 6, 7, 0] rfl (jb_X6_game_99 l G hG sz out k55 h55 q4 v1 v2 v3 v4 v5 v6 q5 h)
def b_X6_game_55  : Nat → jx_M → Int32 → Int32 → Int32 → Int32 → Int32 → Int32 → Option (Int32 × jx_M)
  | 0, _, _, _, _, _, _, _ => none
  | n + 1, σ, v1, v2, v3, v4, v5, v6 => g_X6_game_55 (b_X6_game_55 n) σ v1 v2 v3 v4 v5 v6
theorem jb_X6_game_55 (l : Launch) (G : jx_G) (hG : mm_ok G) (sz : Nat) (out : (Int32 × jx_M))  : ∀ (n : Nat) (σ : jx_M) (v1 : Int32) (v2 : Int32) (v3 : Int32) (v4 : Int32) (v5 : Int32) (v6 : Int32), b_X6_game_55 n σ v1 v2 v3 v4 v5 v6 = some out → jJ_X6_game l G sz out 55 [(0, .ref (G.2 10)), (1, .int v1), (2, .int v2), (3, .int v3), (4, .int v4), (5, .int v5), (6, .int v6)] [] σ := by
  intro n
  induction n with
  | zero =>
    intro σ v1 v2 v3 v4 v5 v6 h
    cases h
  | succ n ih =>
    intro σ v1 v2 v3 v4 v5 v6 h
    exact jg_X6_game_55 l G hG sz out (b_X6_game_55 n) ih σ v1 v2 v3 v4 v5 v6 h
def f_X6_game (σ : jx_M) (a1 : Int32) (a2 : Int32) (a3 : Int32) : Option (Int32 × jx_M) :=
  jx_bd (f_X6_isVoter σ a1) (fun q1 => if q1 = 0 then some ((-1001 : Int32), σ) else jx_bd (f_X6_isVoter σ a2) (fun q3 => if q3 = 0 then some ((-1001 : Int32), σ) else jx_bd (f_X6_in a3 (0 : Int32) (1 : Int32)) (fun q5 => if q5 = 0 then some ((-1001 : Int32), σ) else if a1 = a2 then some ((-1002 : Int32), σ) else jx_bd (f_X6_looksForNight σ) (fun q8 => jx_bd (f_X6_laysAll q8) (fun q9 => (b_X6_game_55 jx_fuel q9 a1 a2 a3 (-1 : Int32) (0 : Int32) (0 : Int32)))))))
set_option maxHeartbeats 4000000 in
set_option maxRecDepth 100000 in
theorem k_X6_game (l : Launch) (G : jx_G) (hG : mm_ok G) (sz : Nat) (σ : jx_M) (a1 : Int32) (a2 : Int32) (a3 : Int32) (out : (Int32 × jx_M)) (h : f_X6_game σ a1 a2 a3 = some out) : Met l yX6_game (Cond.code yX6_game cX6_game 9 (some .int) :: jx_ws) rm_X6_game (jx_Pc (mm_env G) (mm_dyn G) (mm_rg G) sz σ [.ref (G.2 10), .int a1, .int a2, .int a3]) (jx_Qi (mm_dyn G) out.2 out.1 (jx_A (mm_rg G) sz)) 0 0 (jx_A (mm_rg G) sz) := by
  unfold f_X6_game at h
  refine jx_met (by decide) (Nat.le_of_ble_eq_true rfl) ?_
  refine jx_sub (lv' := [(0, .ref (G.2 10)), (1, .int a1), (2, .int a2), (3, .int a3)]) [0, 1, 2, 3] rfl ?_
  refine jx_aload_n (pc := 0) (k0 := 0) rfl dX6_game_0 ?_
  refine jx_iload_n (pc := 1) (k0 := 1) rfl dX6_game_1 ?_
  obtain ⟨q1, eq1, h⟩ := jx_bd_o h
  refine jx_callVi (pc := 2) [.int a1] (fun sz' => k_X6_isVoter l G hG sz' σ a1 q1 eq1) kv_X6_163 mm_jok mm_rc rfl rfl (Nat.le_of_ble_eq_true rfl) ⟨⟨rfl, rfl⟩, ⟨Nat.le_of_ble_eq_true rfl, Nat.le_of_ble_eq_true rfl⟩, Nat.zero_le _, Nat.zero_le _⟩ dX6_game_2 ?_
  refine jx_if_eq (pc := 5) (tgt := 25) dX6_game_5 (by decide) (fun c2 => ?_) (fun c2 => ?_)
  · have h := jx_t c2 h
    refine jx_sipush (pc := 25) (v := (-1001 : Int32)) (by decide) dX6_game_25 ?_
    cases h
    exact jx_iret (pc := 28) dX6_game_28
  · have h := jx_f c2 h
    refine jx_aload_n (pc := 8) (k0 := 0) rfl dX6_game_8 ?_
    refine jx_iload_n (pc := 9) (k0 := 2) rfl dX6_game_9 ?_
    obtain ⟨q3, eq3, h⟩ := jx_bd_o h
    refine jx_callVi (pc := 10) [.int a2] (fun sz' => k_X6_isVoter l G hG sz' σ a2 q3 eq3) kv_X6_163 mm_jok mm_rc rfl rfl (Nat.le_of_ble_eq_true rfl) ⟨⟨rfl, rfl⟩, ⟨Nat.le_of_ble_eq_true rfl, Nat.le_of_ble_eq_true rfl⟩, Nat.zero_le _, Nat.zero_le _⟩ dX6_game_10 ?_
    refine jx_if_eq (pc := 13) (tgt := 25) dX6_game_13 (by decide) (fun c4 => ?_) (fun c4 => ?_)
    · have h := jx_t c4 h
      refine jx_sipush (pc := 25) (v := (-1001 : Int32)) (by decide) dX6_game_25 ?_
      cases h
      exact jx_iret (pc := 28) dX6_game_28
    · have h := jx_f c4 h
      refine jx_iload_n (pc := 16) (k0 := 3) rfl dX6_game_16 ?_
      refine jx_iconst (pc := 17) (v := (0 : Int32)) (by decide) dX6_game_17 ?_
      refine jx_iconst (pc := 18) (v := (1 : Int32)) (by decide) dX6_game_18 ?_
      obtain ⟨q5, eq5, h⟩ := jx_bd_o h
      refine jx_callSi (pc := 19) [.int a3, .int (0 : Int32), .int (1 : Int32)] (fun sz' => k_X6_in l G hG sz' σ a3 (0 : Int32) (1 : Int32) q5 eq5) ks_X6_48 mm_jok rfl rfl (Nat.le_of_ble_eq_true rfl) ⟨⟨rfl, rfl⟩, ⟨Nat.le_of_ble_eq_true rfl, Nat.le_of_ble_eq_true rfl⟩, Nat.zero_le _, Nat.zero_le _⟩ dX6_game_19 ?_
      refine jx_if_ne (pc := 22) (tgt := 29) dX6_game_22 (by decide) (fun c6 => ?_) (fun c6 => ?_)
      · have h := jx_f c6 h
        refine jx_iload_n (pc := 29) (k0 := 1) rfl dX6_game_29 ?_
        refine jx_iload_n (pc := 30) (k0 := 2) rfl dX6_game_30 ?_
        refine jx_icmp_ne (pc := 31) (tgt := 38) dX6_game_31 (by decide) (fun c7 => ?_) (fun c7 => ?_)
        · have h := jx_f c7 h
          refine jx_aload_n (pc := 38) (k0 := 0) rfl dX6_game_38 ?_
          obtain ⟨q8, eq8, h⟩ := jx_bd_o h
          refine jx_callVv (pc := 39) [] (fun sz' => k_X6_looksForNight l G hG sz' σ q8 eq8) kv_X6_185 mm_jok mm_rc rfl rfl (Nat.le_of_ble_eq_true rfl) ⟨⟨rfl, rfl⟩, ⟨Nat.le_of_ble_eq_true rfl, Nat.le_of_ble_eq_true rfl⟩, Nat.zero_le _, Nat.zero_le _⟩ dX6_game_39 ?_
          refine jx_aload_n (pc := 42) (k0 := 0) rfl dX6_game_42 ?_
          obtain ⟨q9, eq9, h⟩ := jx_bd_o h
          refine jx_callVv (pc := 43) [] (fun sz' => k_X6_laysAll l G hG sz' q8 q9 eq9) kv_X6_188 mm_jok mm_rc rfl rfl (Nat.le_of_ble_eq_true rfl) ⟨⟨rfl, rfl⟩, ⟨Nat.le_of_ble_eq_true rfl, Nat.le_of_ble_eq_true rfl⟩, Nat.zero_le _, Nat.zero_le _⟩ dX6_game_43 ?_
          refine jx_iconst (pc := 46) (v := (-1 : Int32)) (by decide) dX6_game_46 ?_
          refine jx_istore (pc := 47) (i := 4) rfl (by decide) (lv' := [(4, .int (-1 : Int32)), (0, .ref (G.2 10)), (1, .int a1), (2, .int a2), (3, .int a3)]) rfl dX6_game_47 ?_
          refine jx_iconst (pc := 49) (v := (0 : Int32)) (by decide) dX6_game_49 ?_
          refine jx_istore (pc := 50) (i := 5) rfl (by decide) (lv' := [(5, .int (0 : Int32)), (4, .int (-1 : Int32)), (0, .ref (G.2 10)), (1, .int a1), (2, .int a2), (3, .int a3)]) rfl dX6_game_50 ?_
          refine jx_iconst (pc := 52) (v := (0 : Int32)) (by decide) dX6_game_52 ?_
          refine jx_istore (pc := 53) (i := 6) rfl (by decide) (lv' := [(6, .int (0 : Int32)), (5, .int (0 : Int32)), (4, .int (-1 : Int32)), (0, .ref (G.2 10)), (1, .int a1), (2, .int a2), (3, .int a3)]) rfl dX6_game_53 ?_
          exact jx_sub [3, 4, 5, 6, 2, 1, 0] rfl (jb_X6_game_55 l G hG sz out jx_fuel q9 a1 a2 a3 (-1 : Int32) (0 : Int32) (0 : Int32) h)
        · have h := jx_t c7 h
          refine jx_sipush (pc := 34) (v := (-1002 : Int32)) (by decide) dX6_game_34 ?_
          cases h
          exact jx_iret (pc := 37) dX6_game_37
      · have h := jx_t c6 h
        refine jx_sipush (pc := 25) (v := (-1001 : Int32)) (by decide) dX6_game_25 ?_
        cases h
        exact jx_iret (pc := 28) dX6_game_28
theorem dX6_fits_0 : decode cX6_fits 0 = .ok (.aload_n 0, 1) := by decide +kernel
theorem dX6_fits_1 : decode cX6_fits 1 = .ok (.iload_n 1, 1) := by decide +kernel
theorem dX6_fits_2 : decode cX6_fits 2 = .ok (.invokevirtual 163, 3) := by decide +kernel
theorem dX6_fits_5 : decode cX6_fits 5 = .ok (.ifCond .ne 5, 3) := by decide +kernel
theorem dX6_fits_8 : decode cX6_fits 8 = .ok (.iconst (-1), 1) := by decide +kernel
theorem dX6_fits_9 : decode cX6_fits 9 = .ok (.ireturn, 1) := by decide +kernel
theorem dX6_fits_10 : decode cX6_fits 10 = .ok (.aload_n 0, 1) := by decide +kernel
theorem dX6_fits_11 : decode cX6_fits 11 = .ok (.invokevirtual 185, 3) := by decide +kernel
theorem dX6_fits_14 : decode cX6_fits 14 = .ok (.aload_n 0, 1) := by decide +kernel
theorem dX6_fits_15 : decode cX6_fits 15 = .ok (.invokevirtual 188, 3) := by decide +kernel
theorem dX6_fits_18 : decode cX6_fits 18 = .ok (.iconst 0, 1) := by decide +kernel
theorem dX6_fits_19 : decode cX6_fits 19 = .ok (.istore_n 2, 1) := by decide +kernel
theorem dX6_fits_20 : decode cX6_fits 20 = .ok (.iconst 0, 1) := by decide +kernel
theorem dX6_fits_21 : decode cX6_fits 21 = .ok (.istore_n 3, 1) := by decide +kernel
theorem dX6_fits_22 : decode cX6_fits 22 = .ok (.iload_n 3, 1) := by decide +kernel
theorem dX6_fits_23 : decode cX6_fits 23 = .ok (.aload_n 0, 1) := by decide +kernel
theorem dX6_fits_24 : decode cX6_fits 24 = .ok (.getfield 9, 3) := by decide +kernel
theorem dX6_fits_27 : decode cX6_fits 27 = .ok (.bipush 6, 2) := by decide +kernel
theorem dX6_fits_29 : decode cX6_fits 29 = .ok (.iaload, 1) := by decide +kernel
theorem dX6_fits_30 : decode cX6_fits 30 = .ok (.if_icmp .ge 92, 3) := by decide +kernel
theorem dX6_fits_33 : decode cX6_fits 33 = .ok (.aload_n 0, 1) := by decide +kernel
theorem dX6_fits_34 : decode cX6_fits 34 = .ok (.iload_n 1, 1) := by decide +kernel
theorem dX6_fits_35 : decode cX6_fits 35 = .ok (.iload_n 3, 1) := by decide +kernel
theorem dX6_fits_36 : decode cX6_fits 36 = .ok (.invokevirtual 176, 3) := by decide +kernel
theorem dX6_fits_39 : decode cX6_fits 39 = .ok (.iconst 1, 1) := by decide +kernel
theorem dX6_fits_40 : decode cX6_fits 40 = .ok (.istore 4, 2) := by decide +kernel
theorem dX6_fits_42 : decode cX6_fits 42 = .ok (.iconst 0, 1) := by decide +kernel
theorem dX6_fits_43 : decode cX6_fits 43 = .ok (.istore 5, 2) := by decide +kernel
theorem dX6_fits_45 : decode cX6_fits 45 = .ok (.iload 5, 2) := by decide +kernel
theorem dX6_fits_47 : decode cX6_fits 47 = .ok (.aload_n 0, 1) := by decide +kernel
theorem dX6_fits_48 : decode cX6_fits 48 = .ok (.getfield 9, 3) := by decide +kernel
theorem dX6_fits_51 : decode cX6_fits 51 = .ok (.iconst 2, 1) := by decide +kernel
theorem dX6_fits_52 : decode cX6_fits 52 = .ok (.iaload, 1) := by decide +kernel
theorem dX6_fits_53 : decode cX6_fits 53 = .ok (.if_icmp .ge 48, 3) := by decide +kernel
theorem dX6_fits_56 : decode cX6_fits 56 = .ok (.iload 4, 2) := by decide +kernel
theorem dX6_fits_58 : decode cX6_fits 58 = .ok (.ifCond .eq 34, 3) := by decide +kernel
theorem dX6_fits_61 : decode cX6_fits 61 = .ok (.aload_n 0, 1) := by decide +kernel
theorem dX6_fits_62 : decode cX6_fits 62 = .ok (.aload_n 0, 1) := by decide +kernel
theorem dX6_fits_63 : decode cX6_fits 63 = .ok (.getfield 9, 3) := by decide +kernel
theorem dX6_fits_66 : decode cX6_fits 66 = .ok (.bipush 79, 2) := by decide +kernel
theorem dX6_fits_68 : decode cX6_fits 68 = .ok (.iload 5, 2) := by decide +kernel
theorem dX6_fits_70 : decode cX6_fits 70 = .ok (.iadd, 1) := by decide +kernel
theorem dX6_fits_71 : decode cX6_fits 71 = .ok (.iaload, 1) := by decide +kernel
theorem dX6_fits_72 : decode cX6_fits 72 = .ok (.invokevirtual 224, 3) := by decide +kernel
theorem dX6_fits_75 : decode cX6_fits 75 = .ok (.aload_n 0, 1) := by decide +kernel
theorem dX6_fits_76 : decode cX6_fits 76 = .ok (.getfield 9, 3) := by decide +kernel
theorem dX6_fits_79 : decode cX6_fits 79 = .ok (.bipush 85, 2) := by decide +kernel
theorem dX6_fits_81 : decode cX6_fits 81 = .ok (.iload 5, 2) := by decide +kernel
theorem dX6_fits_83 : decode cX6_fits 83 = .ok (.iadd, 1) := by decide +kernel
theorem dX6_fits_84 : decode cX6_fits 84 = .ok (.iaload, 1) := by decide +kernel
theorem dX6_fits_85 : decode cX6_fits 85 = .ok (.if_icmp .ne 7, 3) := by decide +kernel
theorem dX6_fits_88 : decode cX6_fits 88 = .ok (.iconst 1, 1) := by decide +kernel
theorem dX6_fits_89 : decode cX6_fits 89 = .ok (.goto 4, 3) := by decide +kernel
theorem dX6_fits_92 : decode cX6_fits 92 = .ok (.iconst 0, 1) := by decide +kernel
theorem dX6_fits_93 : decode cX6_fits 93 = .ok (.istore 4, 2) := by decide +kernel
theorem dX6_fits_95 : decode cX6_fits 95 = .ok (.iinc 5 1, 3) := by decide +kernel
theorem dX6_fits_98 : decode cX6_fits 98 = .ok (.goto (-53), 3) := by decide +kernel
theorem dX6_fits_101 : decode cX6_fits 101 = .ok (.iload_n 2, 1) := by decide +kernel
theorem dX6_fits_102 : decode cX6_fits 102 = .ok (.iload 4, 2) := by decide +kernel
theorem dX6_fits_104 : decode cX6_fits 104 = .ok (.ifCond .eq 9, 3) := by decide +kernel
theorem dX6_fits_107 : decode cX6_fits 107 = .ok (.iconst 1, 1) := by decide +kernel
theorem dX6_fits_108 : decode cX6_fits 108 = .ok (.iload_n 3, 1) := by decide +kernel
theorem dX6_fits_109 : decode cX6_fits 109 = .ok (.ishl, 1) := by decide +kernel
theorem dX6_fits_110 : decode cX6_fits 110 = .ok (.goto 4, 3) := by decide +kernel
theorem dX6_fits_113 : decode cX6_fits 113 = .ok (.iconst 0, 1) := by decide +kernel
theorem dX6_fits_114 : decode cX6_fits 114 = .ok (.ior, 1) := by decide +kernel
theorem dX6_fits_115 : decode cX6_fits 115 = .ok (.istore_n 2, 1) := by decide +kernel
theorem dX6_fits_116 : decode cX6_fits 116 = .ok (.iinc 3 1, 3) := by decide +kernel
theorem dX6_fits_119 : decode cX6_fits 119 = .ok (.goto (-97), 3) := by decide +kernel
theorem dX6_fits_122 : decode cX6_fits 122 = .ok (.iload_n 2, 1) := by decide +kernel
theorem dX6_fits_123 : decode cX6_fits 123 = .ok (.ireturn, 1) := by decide +kernel
abbrev rm_X6_fits : Room := { frames := 5, cells := 0, slots := 0, locals := 123 }
abbrev jJ_X6_fits (l : Launch) (G : jx_G) (sz : Nat) (out : (Int32 × jx_M)) (pc : Nat) (lv : List (Nat × Value)) (st : List Value) (σ : jx_M) : Prop := jx_J l (mm_env G) (mm_dyn G) (mm_rg G) sz RX6 "fits" cX6_fits 6 (some .int) rm_X6_fits (fun below args s => MQ below (jx_Qi (mm_dyn G) out.2 out.1 (jx_A (mm_rg G) sz)) args s 0 0 (jx_A (mm_rg G) sz)) 0 0 pc lv st σ
def b_X6_fits_93 (k22 : jx_M → Int32 → Int32 → Int32 → Option (Int32 × jx_M)) (k45 : jx_M → Int32 → Int32 → Int32 → Int32 → Int32 → Option (Int32 × jx_M)) (σ : jx_M) (v1 : Int32) (v2 : Int32) (v3 : Int32) (v5 : Int32) (s0 : Int32) : Option (Int32 × jx_M) :=
  jx_lt (v5 + (1 : Int32)) (fun x1 => (k45 σ v1 v2 v3 s0 x1))
set_option maxHeartbeats 4000000 in
set_option maxRecDepth 100000 in
theorem jb_X6_fits_93 (l : Launch) (G : jx_G) (hG : mm_ok G) (sz : Nat) (out : (Int32 × jx_M)) (k22 : jx_M → Int32 → Int32 → Int32 → Option (Int32 × jx_M)) (h22 : ∀ (σ : jx_M) (v1 : Int32) (v2 : Int32) (v3 : Int32), k22 σ v1 v2 v3 = some out → jJ_X6_fits l G sz out 22 [(0, .ref (G.2 10)), (1, .int v1), (2, .int v2), (3, .int v3)] [] σ) (k45 : jx_M → Int32 → Int32 → Int32 → Int32 → Int32 → Option (Int32 × jx_M)) (h45 : ∀ (σ : jx_M) (v1 : Int32) (v2 : Int32) (v3 : Int32) (v4 : Int32) (v5 : Int32), k45 σ v1 v2 v3 v4 v5 = some out → jJ_X6_fits l G sz out 45 [(0, .ref (G.2 10)), (1, .int v1), (2, .int v2), (3, .int v3), (4, .int v4), (5, .int v5)] [] σ) (σ : jx_M) (v1 : Int32) (v2 : Int32) (v3 : Int32) (v5 : Int32) (s0 : Int32) (h : b_X6_fits_93 k22 k45 σ v1 v2 v3 v5 s0 = some out) : jJ_X6_fits l G sz out 93 [(0, .ref (G.2 10)), (1, .int v1), (2, .int v2), (3, .int v3), (5, .int v5)] [.int s0] σ := by
  unfold b_X6_fits_93 at h
  refine jx_istore (pc := 93) (i := 4) rfl (by decide) (lv' := [(4, .int s0), (0, .ref (G.2 10)), (1, .int v1), (2, .int v2), (3, .int v3), (5, .int v5)]) rfl dX6_fits_93 ?_
  obtain ⟨x1, ex1, h⟩ := jx_lt_o h
  refine jx_iinc (pc := 95) (i := 5) (v := v5) rfl ex1 (n := 1) (by decide) (by decide) (lv' := [(5, .int x1), (4, .int s0), (0, .ref (G.2 10)), (1, .int v1), (2, .int v2), (3, .int v3)]) rfl dX6_fits_95 ?_
  refine jx_goto (pc := 98) (tgt := 45) dX6_fits_98 (by decide) ?_
  exact jx_sub [2, 3, 4, 5, 1, 0] rfl (h45 σ v1 v2 v3 s0 x1 h)
def b_X6_fits_92 (k22 : jx_M → Int32 → Int32 → Int32 → Option (Int32 × jx_M)) (k45 : jx_M → Int32 → Int32 → Int32 → Int32 → Int32 → Option (Int32 × jx_M)) (σ : jx_M) (v1 : Int32) (v2 : Int32) (v3 : Int32) (v5 : Int32) : Option (Int32 × jx_M) :=
  (b_X6_fits_93 k22 k45 σ v1 v2 v3 v5 (0 : Int32))
set_option maxHeartbeats 4000000 in
set_option maxRecDepth 100000 in
theorem jb_X6_fits_92 (l : Launch) (G : jx_G) (hG : mm_ok G) (sz : Nat) (out : (Int32 × jx_M)) (k22 : jx_M → Int32 → Int32 → Int32 → Option (Int32 × jx_M)) (h22 : ∀ (σ : jx_M) (v1 : Int32) (v2 : Int32) (v3 : Int32), k22 σ v1 v2 v3 = some out → jJ_X6_fits l G sz out 22 [(0, .ref (G.2 10)), (1, .int v1), (2, .int v2), (3, .int v3)] [] σ) (k45 : jx_M → Int32 → Int32 → Int32 → Int32 → Int32 → Option (Int32 × jx_M)) (h45 : ∀ (σ : jx_M) (v1 : Int32) (v2 : Int32) (v3 : Int32) (v4 : Int32) (v5 : Int32), k45 σ v1 v2 v3 v4 v5 = some out → jJ_X6_fits l G sz out 45 [(0, .ref (G.2 10)), (1, .int v1), (2, .int v2), (3, .int v3), (4, .int v4), (5, .int v5)] [] σ) (σ : jx_M) (v1 : Int32) (v2 : Int32) (v3 : Int32) (v5 : Int32) (h : b_X6_fits_92 k22 k45 σ v1 v2 v3 v5 = some out) : jJ_X6_fits l G sz out 92 [(0, .ref (G.2 10)), (1, .int v1), (2, .int v2), (3, .int v3), (5, .int v5)] [] σ := by
  unfold b_X6_fits_92 at h
  refine jx_iconst (pc := 92) (v := (0 : Int32)) (by decide) dX6_fits_92 ?_
  exact jx_sub [0, 1, 2, 3, 4] rfl (jb_X6_fits_93 l G hG sz out k22 h22 k45 h45 σ v1 v2 v3 v5 (0 : Int32) h)
def b_X6_fits_114 (k22 : jx_M → Int32 → Int32 → Int32 → Option (Int32 × jx_M)) (σ : jx_M) (v1 : Int32) (v3 : Int32) (s0 : Int32) (s1 : Int32) : Option (Int32 × jx_M) :=
  jx_lt ((s1 ||| s0)) (fun x1 => jx_lt (v3 + (1 : Int32)) (fun x2 => (k22 σ v1 x1 x2)))
set_option maxHeartbeats 4000000 in
set_option maxRecDepth 100000 in
theorem jb_X6_fits_114 (l : Launch) (G : jx_G) (hG : mm_ok G) (sz : Nat) (out : (Int32 × jx_M)) (k22 : jx_M → Int32 → Int32 → Int32 → Option (Int32 × jx_M)) (h22 : ∀ (σ : jx_M) (v1 : Int32) (v2 : Int32) (v3 : Int32), k22 σ v1 v2 v3 = some out → jJ_X6_fits l G sz out 22 [(0, .ref (G.2 10)), (1, .int v1), (2, .int v2), (3, .int v3)] [] σ) (σ : jx_M) (v1 : Int32) (v3 : Int32) (s0 : Int32) (s1 : Int32) (h : b_X6_fits_114 k22 σ v1 v3 s0 s1 = some out) : jJ_X6_fits l G sz out 114 [(0, .ref (G.2 10)), (1, .int v1), (3, .int v3)] [.int s0, .int s1] σ := by
  unfold b_X6_fits_114 at h
  refine jx_ior (pc := 114) dX6_fits_114 ?_
  obtain ⟨x1, ex1, h⟩ := jx_lt_o h
  refine jx_istore_n (pc := 115) (i := 2) rfl ex1 (by decide) (lv' := [(2, .int x1), (0, .ref (G.2 10)), (1, .int v1), (3, .int v3)]) rfl dX6_fits_115 ?_
  obtain ⟨x2, ex2, h⟩ := jx_lt_o h
  refine jx_iinc (pc := 116) (i := 3) (v := v3) rfl ex2 (n := 1) (by decide) (by decide) (lv' := [(3, .int x2), (2, .int x1), (0, .ref (G.2 10)), (1, .int v1)]) rfl dX6_fits_116 ?_
  refine jx_goto (pc := 119) (tgt := 22) dX6_fits_119 (by decide) ?_
  exact jx_sub [2, 3, 1, 0] rfl (h22 σ v1 x1 x2 h)
def g_X6_fits_45 (k22 : jx_M → Int32 → Int32 → Int32 → Option (Int32 × jx_M)) (k45 : jx_M → Int32 → Int32 → Int32 → Int32 → Int32 → Option (Int32 × jx_M)) (σ : jx_M) (v1 : Int32) (v2 : Int32) (v3 : Int32) (v4 : Int32) (v5 : Int32) : Option (Int32 × jx_M) :=
  if (σ 1 2) ≤ v5 then if v4 = 0 then (b_X6_fits_114 k22 σ v1 v3 (0 : Int32) v2) else (b_X6_fits_114 k22 σ v1 v3 ((1 : Int32) <<< (v3 &&& 31)) v2) else if v4 = 0 then (b_X6_fits_92 k22 k45 σ v1 v2 v3 v5) else jx_gd (jx_in ((79 : Int32) + v5) 920) (jx_bd (f_X6_lampsAt σ (σ 1 ((79 : Int32) + v5).toNatClampNeg)) (fun q5 => jx_gd (jx_in ((85 : Int32) + v5) 920) (if q5 = (σ 1 ((85 : Int32) + v5).toNatClampNeg) then (b_X6_fits_93 k22 k45 σ v1 v2 v3 v5 (1 : Int32)) else (b_X6_fits_92 k22 k45 σ v1 v2 v3 v5))))
set_option maxHeartbeats 4000000 in
set_option maxRecDepth 100000 in
theorem jg_X6_fits_45 (l : Launch) (G : jx_G) (hG : mm_ok G) (sz : Nat) (out : (Int32 × jx_M)) (k22 : jx_M → Int32 → Int32 → Int32 → Option (Int32 × jx_M)) (h22 : ∀ (σ : jx_M) (v1 : Int32) (v2 : Int32) (v3 : Int32), k22 σ v1 v2 v3 = some out → jJ_X6_fits l G sz out 22 [(0, .ref (G.2 10)), (1, .int v1), (2, .int v2), (3, .int v3)] [] σ) (k45 : jx_M → Int32 → Int32 → Int32 → Int32 → Int32 → Option (Int32 × jx_M)) (h45 : ∀ (σ : jx_M) (v1 : Int32) (v2 : Int32) (v3 : Int32) (v4 : Int32) (v5 : Int32), k45 σ v1 v2 v3 v4 v5 = some out → jJ_X6_fits l G sz out 45 [(0, .ref (G.2 10)), (1, .int v1), (2, .int v2), (3, .int v3), (4, .int v4), (5, .int v5)] [] σ) (σ : jx_M) (v1 : Int32) (v2 : Int32) (v3 : Int32) (v4 : Int32) (v5 : Int32) (h : g_X6_fits_45 k22 k45 σ v1 v2 v3 v4 v5 = some out) : jJ_X6_fits l G sz out 45 [(0, .ref (G.2 10)), (1, .int v1), (2, .int v2), (3, .int v3), (4, .int v4), (5, .int v5)] [] σ := by
  unfold g_X6_fits_45 at h
  refine jx_iload (pc := 45) (i := 5) rfl dX6_fits_45 ?_
  refine jx_aload_n (pc := 47) (k0 := 0) rfl dX6_fits_47 ?_
  refine mm_g_s (pc := 48) fl_X6_9 dX6_fits_48 ?_
  refine jx_iconst (pc := 51) (v := (2 : Int32)) (by decide) dX6_fits_51 ?_
  refine mm_l_s (pc := 52) (j := 2) (jx_in_o (by decide)) (by decide) dX6_fits_52 ?_
  refine jx_icmp_ge (pc := 53) (tgt := 101) dX6_fits_53 (by decide) (fun c1 => ?_) (fun c1 => ?_)
  · have h := jx_t c1 h
    refine jx_iload_n (pc := 101) (k0 := 2) rfl dX6_fits_101 ?_
    refine jx_iload (pc := 102) (i := 4) rfl dX6_fits_102 ?_
    refine jx_if_eq (pc := 104) (tgt := 113) dX6_fits_104 (by decide) (fun c2 => ?_) (fun c2 => ?_)
    · have h := jx_t c2 h
      refine jx_iconst (pc := 113) (v := (0 : Int32)) (by decide) dX6_fits_113 ?_
      exact jx_sub [0, 1, 3] rfl (jb_X6_fits_114 l G hG sz out k22 h22 σ v1 v3 (0 : Int32) v2 h)
    · have h := jx_f c2 h
      refine jx_iconst (pc := 107) (v := (1 : Int32)) (by decide) dX6_fits_107 ?_
      refine jx_iload_n (pc := 108) (k0 := 3) rfl dX6_fits_108 ?_
      refine jx_ishl (pc := 109) dX6_fits_109 ?_
      refine jx_goto (pc := 110) (tgt := 114) dX6_fits_110 (by decide) ?_
      exact jx_sub [0, 1, 3] rfl (jb_X6_fits_114 l G hG sz out k22 h22 σ v1 v3 ((1 : Int32) <<< (v3 &&& 31)) v2 h)
  · have h := jx_f c1 h
    refine jx_iload (pc := 56) (i := 4) rfl dX6_fits_56 ?_
    refine jx_if_eq (pc := 58) (tgt := 92) dX6_fits_58 (by decide) (fun c3 => ?_) (fun c3 => ?_)
    · have h := jx_t c3 h
      exact jx_sub [0, 1, 2, 3, 5] rfl (jb_X6_fits_92 l G hG sz out k22 h22 k45 h45 σ v1 v2 v3 v5 h)
    · have h := jx_f c3 h
      refine jx_aload_n (pc := 61) (k0 := 0) rfl dX6_fits_61 ?_
      refine jx_aload_n (pc := 62) (k0 := 0) rfl dX6_fits_62 ?_
      refine mm_g_s (pc := 63) fl_X6_9 dX6_fits_63 ?_
      refine jx_bipush (pc := 66) (v := (79 : Int32)) (by decide) dX6_fits_66 ?_
      refine jx_iload (pc := 68) (i := 5) rfl dX6_fits_68 ?_
      refine jx_iadd (pc := 70) dX6_fits_70 ?_
      obtain ⟨g4, h⟩ := jx_gd_o h
      refine mm_l_s (pc := 71) (jx_in_o g4) rfl dX6_fits_71 ?_
      obtain ⟨q5, eq5, h⟩ := jx_bd_o h
      refine jx_callVi (pc := 72) [.int (σ 1 ((79 : Int32) + v5).toNatClampNeg)] (fun sz' => k_X6_lampsAt l G hG sz' σ (σ 1 ((79 : Int32) + v5).toNatClampNeg) q5 eq5) kv_X6_224 mm_jok mm_rc rfl rfl (Nat.le_of_ble_eq_true rfl) ⟨⟨rfl, rfl⟩, ⟨Nat.le_of_ble_eq_true rfl, Nat.le_of_ble_eq_true rfl⟩, Nat.zero_le _, Nat.zero_le _⟩ dX6_fits_72 ?_
      refine jx_aload_n (pc := 75) (k0 := 0) rfl dX6_fits_75 ?_
      refine mm_g_s (pc := 76) fl_X6_9 dX6_fits_76 ?_
      refine jx_bipush (pc := 79) (v := (85 : Int32)) (by decide) dX6_fits_79 ?_
      refine jx_iload (pc := 81) (i := 5) rfl dX6_fits_81 ?_
      refine jx_iadd (pc := 83) dX6_fits_83 ?_
      obtain ⟨g6, h⟩ := jx_gd_o h
      refine mm_l_s (pc := 84) (jx_in_o g6) rfl dX6_fits_84 ?_
      refine jx_icmp_ne (pc := 85) (tgt := 92) dX6_fits_85 (by decide) (fun c7 => ?_) (fun c7 => ?_)
      · have h := jx_f c7 h
        exact jx_sub [0, 1, 2, 3, 5] rfl (jb_X6_fits_92 l G hG sz out k22 h22 k45 h45 σ v1 v2 v3 v5 h)
      · have h := jx_t c7 h
        refine jx_iconst (pc := 88) (v := (1 : Int32)) (by decide) dX6_fits_88 ?_
        refine jx_goto (pc := 89) (tgt := 93) dX6_fits_89 (by decide) ?_
        exact jx_sub [0, 1, 2, 3, 5] rfl (jb_X6_fits_93 l G hG sz out k22 h22 k45 h45 σ v1 v2 v3 v5 (1 : Int32) h)
def b_X6_fits_45 (k22 : jx_M → Int32 → Int32 → Int32 → Option (Int32 × jx_M)) : Nat → jx_M → Int32 → Int32 → Int32 → Int32 → Int32 → Option (Int32 × jx_M)
  | 0, _, _, _, _, _, _ => none
  | n + 1, σ, v1, v2, v3, v4, v5 => g_X6_fits_45 k22 (b_X6_fits_45 k22 n) σ v1 v2 v3 v4 v5
theorem jb_X6_fits_45 (l : Launch) (G : jx_G) (hG : mm_ok G) (sz : Nat) (out : (Int32 × jx_M)) (k22 : jx_M → Int32 → Int32 → Int32 → Option (Int32 × jx_M)) (h22 : ∀ (σ : jx_M) (v1 : Int32) (v2 : Int32) (v3 : Int32), k22 σ v1 v2 v3 = some out → jJ_X6_fits l G sz out 22 [(0, .ref (G.2 10)), (1, .int v1), (2, .int v2), (3, .int v3)] [] σ) : ∀ (n : Nat) (σ : jx_M) (v1 : Int32) (v2 : Int32) (v3 : Int32) (v4 : Int32) (v5 : Int32), b_X6_fits_45 k22 n σ v1 v2 v3 v4 v5 = some out → jJ_X6_fits l G sz out 45 [(0, .ref (G.2 10)), (1, .int v1), (2, .int v2), (3, .int v3), (4, .int v4), (5, .int v5)] [] σ := by
  intro n
  induction n with
  | zero =>
    intro σ v1 v2 v3 v4 v5 h
    cases h
  | succ n ih =>
    intro σ v1 v2 v3 v4 v5 h
    exact jg_X6_fits_45 l G hG sz out k22 h22 (b_X6_fits_45 k22 n) ih σ v1 v2 v3 v4 v5 h
def g_X6_fits_22 (k22 : jx_M → Int32 → Int32 → Int32 → Option (Int32 × jx_M)) (σ : jx_M) (v1 : Int32) (v2 : Int32) (v3 : Int32) : Option (Int32 × jx_M) :=
  if (σ 1 6) ≤ v3 then some (v2, σ) else jx_bd (f_X6_lays σ v1 v3) (fun q2 => (b_X6_fits_45 k22 jx_fuel q2 v1 v2 v3 (1 : Int32) (0 : Int32)))
set_option maxHeartbeats 4000000 in
set_option maxRecDepth 100000 in
theorem jg_X6_fits_22 (l : Launch) (G : jx_G) (hG : mm_ok G) (sz : Nat) (out : (Int32 × jx_M)) (k22 : jx_M → Int32 → Int32 → Int32 → Option (Int32 × jx_M)) (h22 : ∀ (σ : jx_M) (v1 : Int32) (v2 : Int32) (v3 : Int32), k22 σ v1 v2 v3 = some out → jJ_X6_fits l G sz out 22 [(0, .ref (G.2 10)), (1, .int v1), (2, .int v2), (3, .int v3)] [] σ) (σ : jx_M) (v1 : Int32) (v2 : Int32) (v3 : Int32) (h : g_X6_fits_22 k22 σ v1 v2 v3 = some out) : jJ_X6_fits l G sz out 22 [(0, .ref (G.2 10)), (1, .int v1), (2, .int v2), (3, .int v3)] [] σ := by
  unfold g_X6_fits_22 at h
  refine jx_iload_n (pc := 22) (k0 := 3) rfl dX6_fits_22 ?_
  refine jx_aload_n (pc := 23) (k0 := 0) rfl dX6_fits_23 ?_
  refine mm_g_s (pc := 24) fl_X6_9 dX6_fits_24 ?_
  refine jx_bipush (pc := 27) (v := (6 : Int32)) (by decide) dX6_fits_27 ?_
  refine mm_l_s (pc := 29) (j := 6) (jx_in_o (by decide)) (by decide) dX6_fits_29 ?_
  refine jx_icmp_ge (pc := 30) (tgt := 122) dX6_fits_30 (by decide) (fun c1 => ?_) (fun c1 => ?_)
  · have h := jx_t c1 h
    refine jx_iload_n (pc := 122) (k0 := 2) rfl dX6_fits_122 ?_
    cases h
    exact jx_iret (pc := 123) dX6_fits_123
  · have h := jx_f c1 h
    refine jx_aload_n (pc := 33) (k0 := 0) rfl dX6_fits_33 ?_
    refine jx_iload_n (pc := 34) (k0 := 1) rfl dX6_fits_34 ?_
    refine jx_iload_n (pc := 35) (k0 := 3) rfl dX6_fits_35 ?_
    obtain ⟨q2, eq2, h⟩ := jx_bd_o h
    refine jx_callVv (pc := 36) [.int v1, .int v3] (fun sz' => k_X6_lays l G hG sz' σ v1 v3 q2 eq2) kv_X6_176 mm_jok mm_rc rfl rfl (Nat.le_of_ble_eq_true rfl) ⟨⟨rfl, rfl⟩, ⟨Nat.le_of_ble_eq_true rfl, Nat.le_of_ble_eq_true rfl⟩, Nat.zero_le _, Nat.zero_le _⟩ dX6_fits_36 ?_
    refine jx_iconst (pc := 39) (v := (1 : Int32)) (by decide) dX6_fits_39 ?_
    refine jx_istore (pc := 40) (i := 4) rfl (by decide) (lv' := [(4, .int (1 : Int32)), (0, .ref (G.2 10)), (1, .int v1), (2, .int v2), (3, .int v3)]) rfl dX6_fits_40 ?_
    refine jx_iconst (pc := 42) (v := (0 : Int32)) (by decide) dX6_fits_42 ?_
    refine jx_istore (pc := 43) (i := 5) rfl (by decide) (lv' := [(5, .int (0 : Int32)), (4, .int (1 : Int32)), (0, .ref (G.2 10)), (1, .int v1), (2, .int v2), (3, .int v3)]) rfl dX6_fits_43 ?_
    exact jx_sub [2, 3, 4, 5, 1, 0] rfl (jb_X6_fits_45 l G hG sz out k22 h22 jx_fuel q2 v1 v2 v3 (1 : Int32) (0 : Int32) h)
def b_X6_fits_22  : Nat → jx_M → Int32 → Int32 → Int32 → Option (Int32 × jx_M)
  | 0, _, _, _, _ => none
  | n + 1, σ, v1, v2, v3 => g_X6_fits_22 (b_X6_fits_22 n) σ v1 v2 v3
theorem jb_X6_fits_22 (l : Launch) (G : jx_G) (hG : mm_ok G) (sz : Nat) (out : (Int32 × jx_M))  : ∀ (n : Nat) (σ : jx_M) (v1 : Int32) (v2 : Int32) (v3 : Int32), b_X6_fits_22 n σ v1 v2 v3 = some out → jJ_X6_fits l G sz out 22 [(0, .ref (G.2 10)), (1, .int v1), (2, .int v2), (3, .int v3)] [] σ := by
  intro n
  induction n with
  | zero =>
    intro σ v1 v2 v3 h
    cases h
  | succ n ih =>
    intro σ v1 v2 v3 h
    exact jg_X6_fits_22 l G hG sz out (b_X6_fits_22 n) ih σ v1 v2 v3 h
def f_X6_fits (σ : jx_M) (a1 : Int32) : Option (Int32 × jx_M) :=
  jx_bd (f_X6_isVoter σ a1) (fun q1 => if q1 = 0 then some ((-1 : Int32), σ) else jx_bd (f_X6_looksForNight σ) (fun q3 => jx_bd (f_X6_laysAll q3) (fun q4 => (b_X6_fits_22 jx_fuel q4 a1 (0 : Int32) (0 : Int32)))))
set_option maxHeartbeats 4000000 in
set_option maxRecDepth 100000 in
theorem k_X6_fits (l : Launch) (G : jx_G) (hG : mm_ok G) (sz : Nat) (σ : jx_M) (a1 : Int32) (out : (Int32 × jx_M)) (h : f_X6_fits σ a1 = some out) : Met l yX6_fits (Cond.code yX6_fits cX6_fits 6 (some .int) :: jx_ws) rm_X6_fits (jx_Pc (mm_env G) (mm_dyn G) (mm_rg G) sz σ [.ref (G.2 10), .int a1]) (jx_Qi (mm_dyn G) out.2 out.1 (jx_A (mm_rg G) sz)) 0 0 (jx_A (mm_rg G) sz) := by
  unfold f_X6_fits at h
  refine jx_met (by decide) (Nat.le_of_ble_eq_true rfl) ?_
  refine jx_sub (lv' := [(0, .ref (G.2 10)), (1, .int a1)]) [0, 1] rfl ?_
  refine jx_aload_n (pc := 0) (k0 := 0) rfl dX6_fits_0 ?_
  refine jx_iload_n (pc := 1) (k0 := 1) rfl dX6_fits_1 ?_
  obtain ⟨q1, eq1, h⟩ := jx_bd_o h
  refine jx_callVi (pc := 2) [.int a1] (fun sz' => k_X6_isVoter l G hG sz' σ a1 q1 eq1) kv_X6_163 mm_jok mm_rc rfl rfl (Nat.le_of_ble_eq_true rfl) ⟨⟨rfl, rfl⟩, ⟨Nat.le_of_ble_eq_true rfl, Nat.le_of_ble_eq_true rfl⟩, Nat.zero_le _, Nat.zero_le _⟩ dX6_fits_2 ?_
  refine jx_if_ne (pc := 5) (tgt := 10) dX6_fits_5 (by decide) (fun c2 => ?_) (fun c2 => ?_)
  · have h := jx_f c2 h
    refine jx_aload_n (pc := 10) (k0 := 0) rfl dX6_fits_10 ?_
    obtain ⟨q3, eq3, h⟩ := jx_bd_o h
    refine jx_callVv (pc := 11) [] (fun sz' => k_X6_looksForNight l G hG sz' σ q3 eq3) kv_X6_185 mm_jok mm_rc rfl rfl (Nat.le_of_ble_eq_true rfl) ⟨⟨rfl, rfl⟩, ⟨Nat.le_of_ble_eq_true rfl, Nat.le_of_ble_eq_true rfl⟩, Nat.zero_le _, Nat.zero_le _⟩ dX6_fits_11 ?_
    refine jx_aload_n (pc := 14) (k0 := 0) rfl dX6_fits_14 ?_
    obtain ⟨q4, eq4, h⟩ := jx_bd_o h
    refine jx_callVv (pc := 15) [] (fun sz' => k_X6_laysAll l G hG sz' q3 q4 eq4) kv_X6_188 mm_jok mm_rc rfl rfl (Nat.le_of_ble_eq_true rfl) ⟨⟨rfl, rfl⟩, ⟨Nat.le_of_ble_eq_true rfl, Nat.le_of_ble_eq_true rfl⟩, Nat.zero_le _, Nat.zero_le _⟩ dX6_fits_15 ?_
    refine jx_iconst (pc := 18) (v := (0 : Int32)) (by decide) dX6_fits_18 ?_
    refine jx_istore_n (pc := 19) (i := 2) rfl rfl (by decide) (lv' := [(2, .int (0 : Int32)), (0, .ref (G.2 10)), (1, .int a1)]) rfl dX6_fits_19 ?_
    refine jx_iconst (pc := 20) (v := (0 : Int32)) (by decide) dX6_fits_20 ?_
    refine jx_istore_n (pc := 21) (i := 3) rfl rfl (by decide) (lv' := [(3, .int (0 : Int32)), (2, .int (0 : Int32)), (0, .ref (G.2 10)), (1, .int a1)]) rfl dX6_fits_21 ?_
    exact jx_sub [2, 3, 1, 0] rfl (jb_X6_fits_22 l G hG sz out jx_fuel q4 a1 (0 : Int32) (0 : Int32) h)
  · have h := jx_t c2 h
    refine jx_iconst (pc := 8) (v := (-1 : Int32)) (by decide) dX6_fits_8 ?_
    cases h
    exact jx_iret (pc := 9) dX6_fits_9
theorem dX6_fair_0 : decode cX6_fair 0 = .ok (.iload_n 1, 1) := by decide +kernel
theorem dX6_fair_1 : decode cX6_fair 1 = .ok (.iconst 0, 1) := by decide +kernel
theorem dX6_fair_2 : decode cX6_fair 2 = .ok (.iconst 1, 1) := by decide +kernel
theorem dX6_fair_3 : decode cX6_fair 3 = .ok (.invokestatic 48, 3) := by decide +kernel
theorem dX6_fair_6 : decode cX6_fair 6 = .ok (.ifCond .ne 5, 3) := by decide +kernel
theorem dX6_fair_9 : decode cX6_fair 9 = .ok (.iconst (-1), 1) := by decide +kernel
theorem dX6_fair_10 : decode cX6_fair 10 = .ok (.ireturn, 1) := by decide +kernel
theorem dX6_fair_11 : decode cX6_fair 11 = .ok (.aload_n 0, 1) := by decide +kernel
theorem dX6_fair_12 : decode cX6_fair 12 = .ok (.invokevirtual 185, 3) := by decide +kernel
theorem dX6_fair_15 : decode cX6_fair 15 = .ok (.aload_n 0, 1) := by decide +kernel
theorem dX6_fair_16 : decode cX6_fair 16 = .ok (.invokevirtual 188, 3) := by decide +kernel
theorem dX6_fair_19 : decode cX6_fair 19 = .ok (.iconst 0, 1) := by decide +kernel
theorem dX6_fair_20 : decode cX6_fair 20 = .ok (.istore_n 2, 1) := by decide +kernel
theorem dX6_fair_21 : decode cX6_fair 21 = .ok (.bipush 99, 2) := by decide +kernel
theorem dX6_fair_23 : decode cX6_fair 23 = .ok (.istore_n 3, 1) := by decide +kernel
theorem dX6_fair_24 : decode cX6_fair 24 = .ok (.iconst 0, 1) := by decide +kernel
theorem dX6_fair_25 : decode cX6_fair 25 = .ok (.istore 4, 2) := by decide +kernel
theorem dX6_fair_27 : decode cX6_fair 27 = .ok (.iload 4, 2) := by decide +kernel
theorem dX6_fair_29 : decode cX6_fair 29 = .ok (.iconst 1, 1) := by decide +kernel
theorem dX6_fair_30 : decode cX6_fair 30 = .ok (.aload_n 0, 1) := by decide +kernel
theorem dX6_fair_31 : decode cX6_fair 31 = .ok (.getfield 9, 3) := by decide +kernel
theorem dX6_fair_34 : decode cX6_fair 34 = .ok (.bipush 6, 2) := by decide +kernel
theorem dX6_fair_36 : decode cX6_fair 36 = .ok (.iaload, 1) := by decide +kernel
theorem dX6_fair_37 : decode cX6_fair 37 = .ok (.ishl, 1) := by decide +kernel
theorem dX6_fair_38 : decode cX6_fair 38 = .ok (.if_icmp .ge 99, 3) := by decide +kernel
theorem dX6_fair_41 : decode cX6_fair 41 = .ok (.iconst 0, 1) := by decide +kernel
theorem dX6_fair_42 : decode cX6_fair 42 = .ok (.istore 5, 2) := by decide +kernel
theorem dX6_fair_44 : decode cX6_fair 44 = .ok (.iconst 0, 1) := by decide +kernel
theorem dX6_fair_45 : decode cX6_fair 45 = .ok (.istore 6, 2) := by decide +kernel
theorem dX6_fair_47 : decode cX6_fair 47 = .ok (.iload 6, 2) := by decide +kernel
theorem dX6_fair_49 : decode cX6_fair 49 = .ok (.aload_n 0, 1) := by decide +kernel
theorem dX6_fair_50 : decode cX6_fair 50 = .ok (.getfield 9, 3) := by decide +kernel
theorem dX6_fair_53 : decode cX6_fair 53 = .ok (.iconst 0, 1) := by decide +kernel
theorem dX6_fair_54 : decode cX6_fair 54 = .ok (.iaload, 1) := by decide +kernel
theorem dX6_fair_55 : decode cX6_fair 55 = .ok (.if_icmp .ge 35, 3) := by decide +kernel
theorem dX6_fair_58 : decode cX6_fair 58 = .ok (.iload 5, 2) := by decide +kernel
theorem dX6_fair_60 : decode cX6_fair 60 = .ok (.iload 4, 2) := by decide +kernel
theorem dX6_fair_62 : decode cX6_fair 62 = .ok (.aload_n 0, 1) := by decide +kernel
theorem dX6_fair_63 : decode cX6_fair 63 = .ok (.getfield 31, 3) := by decide +kernel
theorem dX6_fair_66 : decode cX6_fair 66 = .ok (.iload 6, 2) := by decide +kernel
theorem dX6_fair_68 : decode cX6_fair 68 = .ok (.iaload, 1) := by decide +kernel
theorem dX6_fair_69 : decode cX6_fair 69 = .ok (.ishr, 1) := by decide +kernel
theorem dX6_fair_70 : decode cX6_fair 70 = .ok (.iconst 1, 1) := by decide +kernel
theorem dX6_fair_71 : decode cX6_fair 71 = .ok (.iand, 1) := by decide +kernel
theorem dX6_fair_72 : decode cX6_fair 72 = .ok (.iconst 1, 1) := by decide +kernel
theorem dX6_fair_73 : decode cX6_fair 73 = .ok (.if_icmp .ne 7, 3) := by decide +kernel
theorem dX6_fair_76 : decode cX6_fair 76 = .ok (.iconst 1, 1) := by decide +kernel
theorem dX6_fair_77 : decode cX6_fair 77 = .ok (.goto 4, 3) := by decide +kernel
theorem dX6_fair_80 : decode cX6_fair 80 = .ok (.iconst (-1), 1) := by decide +kernel
theorem dX6_fair_81 : decode cX6_fair 81 = .ok (.iadd, 1) := by decide +kernel
theorem dX6_fair_82 : decode cX6_fair 82 = .ok (.istore 5, 2) := by decide +kernel
theorem dX6_fair_84 : decode cX6_fair 84 = .ok (.iinc 6 1, 3) := by decide +kernel
theorem dX6_fair_87 : decode cX6_fair 87 = .ok (.goto (-40), 3) := by decide +kernel
theorem dX6_fair_90 : decode cX6_fair 90 = .ok (.iload 5, 2) := by decide +kernel
theorem dX6_fair_92 : decode cX6_fair 92 = .ok (.ifCond .ge 9, 3) := by decide +kernel
theorem dX6_fair_95 : decode cX6_fair 95 = .ok (.iload 5, 2) := by decide +kernel
theorem dX6_fair_97 : decode cX6_fair 97 = .ok (.ineg, 1) := by decide +kernel
theorem dX6_fair_98 : decode cX6_fair 98 = .ok (.goto 5, 3) := by decide +kernel
theorem dX6_fair_101 : decode cX6_fair 101 = .ok (.iload 5, 2) := by decide +kernel
theorem dX6_fair_103 : decode cX6_fair 103 = .ok (.istore 5, 2) := by decide +kernel
theorem dX6_fair_105 : decode cX6_fair 105 = .ok (.iload 5, 2) := by decide +kernel
theorem dX6_fair_107 : decode cX6_fair 107 = .ok (.iload_n 3, 1) := by decide +kernel
theorem dX6_fair_108 : decode cX6_fair 108 = .ok (.if_icmp .ge 8, 3) := by decide +kernel
theorem dX6_fair_111 : decode cX6_fair 111 = .ok (.iload 4, 2) := by decide +kernel
theorem dX6_fair_113 : decode cX6_fair 113 = .ok (.goto 4, 3) := by decide +kernel
theorem dX6_fair_116 : decode cX6_fair 116 = .ok (.iload_n 2, 1) := by decide +kernel
theorem dX6_fair_117 : decode cX6_fair 117 = .ok (.istore_n 2, 1) := by decide +kernel
theorem dX6_fair_118 : decode cX6_fair 118 = .ok (.iload 5, 2) := by decide +kernel
theorem dX6_fair_120 : decode cX6_fair 120 = .ok (.iload_n 3, 1) := by decide +kernel
theorem dX6_fair_121 : decode cX6_fair 121 = .ok (.if_icmp .ge 8, 3) := by decide +kernel
theorem dX6_fair_124 : decode cX6_fair 124 = .ok (.iload 5, 2) := by decide +kernel
theorem dX6_fair_126 : decode cX6_fair 126 = .ok (.goto 4, 3) := by decide +kernel
theorem dX6_fair_129 : decode cX6_fair 129 = .ok (.iload_n 3, 1) := by decide +kernel
theorem dX6_fair_130 : decode cX6_fair 130 = .ok (.istore_n 3, 1) := by decide +kernel
theorem dX6_fair_131 : decode cX6_fair 131 = .ok (.iinc 4 2, 3) := by decide +kernel
theorem dX6_fair_134 : decode cX6_fair 134 = .ok (.goto (-107), 3) := by decide +kernel
theorem dX6_fair_137 : decode cX6_fair 137 = .ok (.iload_n 1, 1) := by decide +kernel
theorem dX6_fair_138 : decode cX6_fair 138 = .ok (.ifCond .ne 7, 3) := by decide +kernel
theorem dX6_fair_141 : decode cX6_fair 141 = .ok (.iload_n 2, 1) := by decide +kernel
theorem dX6_fair_142 : decode cX6_fair 142 = .ok (.goto 4, 3) := by decide +kernel
theorem dX6_fair_145 : decode cX6_fair 145 = .ok (.iload_n 3, 1) := by decide +kernel
theorem dX6_fair_146 : decode cX6_fair 146 = .ok (.ireturn, 1) := by decide +kernel
abbrev rm_X6_fair : Room := { frames := 5, cells := 0, slots := 0, locals := 123 }
abbrev jJ_X6_fair (l : Launch) (G : jx_G) (sz : Nat) (out : (Int32 × jx_M)) (pc : Nat) (lv : List (Nat × Value)) (st : List Value) (σ : jx_M) : Prop := jx_J l (mm_env G) (mm_dyn G) (mm_rg G) sz RX6 "fair" cX6_fair 7 (some .int) rm_X6_fair (fun below args s => MQ below (jx_Qi (mm_dyn G) out.2 out.1 (jx_A (mm_rg G) sz)) args s 0 0 (jx_A (mm_rg G) sz)) 0 0 pc lv st σ
def b_X6_fair_81 (k27 : jx_M → Int32 → Int32 → Int32 → Int32 → Option (Int32 × jx_M)) (k47 : jx_M → Int32 → Int32 → Int32 → Int32 → Int32 → Int32 → Option (Int32 × jx_M)) (σ : jx_M) (v1 : Int32) (v2 : Int32) (v3 : Int32) (v4 : Int32) (v6 : Int32) (s0 : Int32) (s1 : Int32) : Option (Int32 × jx_M) :=
  jx_lt ((s1 + s0)) (fun x1 => jx_lt (v6 + (1 : Int32)) (fun x2 => (k47 σ v1 v2 v3 v4 x1 x2)))
set_option maxHeartbeats 4000000 in
set_option maxRecDepth 100000 in
theorem jb_X6_fair_81 (l : Launch) (G : jx_G) (hG : mm_ok G) (sz : Nat) (out : (Int32 × jx_M)) (k27 : jx_M → Int32 → Int32 → Int32 → Int32 → Option (Int32 × jx_M)) (h27 : ∀ (σ : jx_M) (v1 : Int32) (v2 : Int32) (v3 : Int32) (v4 : Int32), k27 σ v1 v2 v3 v4 = some out → jJ_X6_fair l G sz out 27 [(0, .ref (G.2 10)), (1, .int v1), (2, .int v2), (3, .int v3), (4, .int v4)] [] σ) (k47 : jx_M → Int32 → Int32 → Int32 → Int32 → Int32 → Int32 → Option (Int32 × jx_M)) (h47 : ∀ (σ : jx_M) (v1 : Int32) (v2 : Int32) (v3 : Int32) (v4 : Int32) (v5 : Int32) (v6 : Int32), k47 σ v1 v2 v3 v4 v5 v6 = some out → jJ_X6_fair l G sz out 47 [(0, .ref (G.2 10)), (1, .int v1), (2, .int v2), (3, .int v3), (4, .int v4), (5, .int v5), (6, .int v6)] [] σ) (σ : jx_M) (v1 : Int32) (v2 : Int32) (v3 : Int32) (v4 : Int32) (v6 : Int32) (s0 : Int32) (s1 : Int32) (h : b_X6_fair_81 k27 k47 σ v1 v2 v3 v4 v6 s0 s1 = some out) : jJ_X6_fair l G sz out 81 [(0, .ref (G.2 10)), (1, .int v1), (2, .int v2), (3, .int v3), (4, .int v4), (6, .int v6)] [.int s0, .int s1] σ := by
  unfold b_X6_fair_81 at h
  refine jx_iadd (pc := 81) dX6_fair_81 ?_
  obtain ⟨x1, ex1, h⟩ := jx_lt_o h
  refine jx_istore (pc := 82) (i := 5) ex1 (by decide) (lv' := [(5, .int x1), (0, .ref (G.2 10)), (1, .int v1), (2, .int v2), (3, .int v3), (4, .int v4), (6, .int v6)]) rfl dX6_fair_82 ?_
  obtain ⟨x2, ex2, h⟩ := jx_lt_o h
  refine jx_iinc (pc := 84) (i := 6) (v := v6) rfl ex2 (n := 1) (by decide) (by decide) (lv' := [(6, .int x2), (5, .int x1), (0, .ref (G.2 10)), (1, .int v1), (2, .int v2), (3, .int v3), (4, .int v4)]) rfl dX6_fair_84 ?_
  refine jx_goto (pc := 87) (tgt := 47) dX6_fair_87 (by decide) ?_
  exact jx_sub [2, 3, 4, 5, 6, 1, 0] rfl (h47 σ v1 v2 v3 v4 x1 x2 h)
def b_X6_fair_130 (k27 : jx_M → Int32 → Int32 → Int32 → Int32 → Option (Int32 × jx_M)) (σ : jx_M) (v1 : Int32) (v2 : Int32) (v4 : Int32) (s0 : Int32) : Option (Int32 × jx_M) :=
  jx_lt (v4 + (2 : Int32)) (fun x1 => (k27 σ v1 v2 s0 x1))
set_option maxHeartbeats 4000000 in
set_option maxRecDepth 100000 in
theorem jb_X6_fair_130 (l : Launch) (G : jx_G) (hG : mm_ok G) (sz : Nat) (out : (Int32 × jx_M)) (k27 : jx_M → Int32 → Int32 → Int32 → Int32 → Option (Int32 × jx_M)) (h27 : ∀ (σ : jx_M) (v1 : Int32) (v2 : Int32) (v3 : Int32) (v4 : Int32), k27 σ v1 v2 v3 v4 = some out → jJ_X6_fair l G sz out 27 [(0, .ref (G.2 10)), (1, .int v1), (2, .int v2), (3, .int v3), (4, .int v4)] [] σ) (σ : jx_M) (v1 : Int32) (v2 : Int32) (v4 : Int32) (s0 : Int32) (h : b_X6_fair_130 k27 σ v1 v2 v4 s0 = some out) : jJ_X6_fair l G sz out 130 [(0, .ref (G.2 10)), (1, .int v1), (2, .int v2), (4, .int v4)] [.int s0] σ := by
  unfold b_X6_fair_130 at h
  refine jx_istore_n (pc := 130) (i := 3) rfl rfl (by decide) (lv' := [(3, .int s0), (0, .ref (G.2 10)), (1, .int v1), (2, .int v2), (4, .int v4)]) rfl dX6_fair_130 ?_
  obtain ⟨x1, ex1, h⟩ := jx_lt_o h
  refine jx_iinc (pc := 131) (i := 4) (v := v4) rfl ex1 (n := 2) (by decide) (by decide) (lv' := [(4, .int x1), (3, .int s0), (0, .ref (G.2 10)), (1, .int v1), (2, .int v2)]) rfl dX6_fair_131 ?_
  refine jx_goto (pc := 134) (tgt := 27) dX6_fair_134 (by decide) ?_
  exact jx_sub [2, 3, 4, 1, 0] rfl (h27 σ v1 v2 s0 x1 h)
def b_X6_fair_117 (k27 : jx_M → Int32 → Int32 → Int32 → Int32 → Option (Int32 × jx_M)) (σ : jx_M) (v1 : Int32) (v3 : Int32) (v4 : Int32) (v5 : Int32) (s0 : Int32) : Option (Int32 × jx_M) :=
  if v3 ≤ v5 then (b_X6_fair_130 k27 σ v1 s0 v4 v3) else (b_X6_fair_130 k27 σ v1 s0 v4 v5)
set_option maxHeartbeats 4000000 in
set_option maxRecDepth 100000 in
theorem jb_X6_fair_117 (l : Launch) (G : jx_G) (hG : mm_ok G) (sz : Nat) (out : (Int32 × jx_M)) (k27 : jx_M → Int32 → Int32 → Int32 → Int32 → Option (Int32 × jx_M)) (h27 : ∀ (σ : jx_M) (v1 : Int32) (v2 : Int32) (v3 : Int32) (v4 : Int32), k27 σ v1 v2 v3 v4 = some out → jJ_X6_fair l G sz out 27 [(0, .ref (G.2 10)), (1, .int v1), (2, .int v2), (3, .int v3), (4, .int v4)] [] σ) (σ : jx_M) (v1 : Int32) (v3 : Int32) (v4 : Int32) (v5 : Int32) (s0 : Int32) (h : b_X6_fair_117 k27 σ v1 v3 v4 v5 s0 = some out) : jJ_X6_fair l G sz out 117 [(0, .ref (G.2 10)), (1, .int v1), (3, .int v3), (4, .int v4), (5, .int v5)] [.int s0] σ := by
  unfold b_X6_fair_117 at h
  refine jx_istore_n (pc := 117) (i := 2) rfl rfl (by decide) (lv' := [(2, .int s0), (0, .ref (G.2 10)), (1, .int v1), (3, .int v3), (4, .int v4), (5, .int v5)]) rfl dX6_fair_117 ?_
  refine jx_iload (pc := 118) (i := 5) rfl dX6_fair_118 ?_
  refine jx_iload_n (pc := 120) (k0 := 3) rfl dX6_fair_120 ?_
  refine jx_icmp_ge (pc := 121) (tgt := 129) dX6_fair_121 (by decide) (fun c1 => ?_) (fun c1 => ?_)
  · have h := jx_t c1 h
    refine jx_iload_n (pc := 129) (k0 := 3) rfl dX6_fair_129 ?_
    exact jx_sub [1, 2, 0, 4] rfl (jb_X6_fair_130 l G hG sz out k27 h27 σ v1 s0 v4 v3 h)
  · have h := jx_f c1 h
    refine jx_iload (pc := 124) (i := 5) rfl dX6_fair_124 ?_
    refine jx_goto (pc := 126) (tgt := 130) dX6_fair_126 (by decide) ?_
    exact jx_sub [1, 2, 0, 4] rfl (jb_X6_fair_130 l G hG sz out k27 h27 σ v1 s0 v4 v5 h)
def b_X6_fair_103 (k27 : jx_M → Int32 → Int32 → Int32 → Int32 → Option (Int32 × jx_M)) (σ : jx_M) (v1 : Int32) (v2 : Int32) (v3 : Int32) (v4 : Int32) (s0 : Int32) : Option (Int32 × jx_M) :=
  if v3 ≤ s0 then (b_X6_fair_117 k27 σ v1 v3 v4 s0 v2) else (b_X6_fair_117 k27 σ v1 v3 v4 s0 v4)
set_option maxHeartbeats 4000000 in
set_option maxRecDepth 100000 in
theorem jb_X6_fair_103 (l : Launch) (G : jx_G) (hG : mm_ok G) (sz : Nat) (out : (Int32 × jx_M)) (k27 : jx_M → Int32 → Int32 → Int32 → Int32 → Option (Int32 × jx_M)) (h27 : ∀ (σ : jx_M) (v1 : Int32) (v2 : Int32) (v3 : Int32) (v4 : Int32), k27 σ v1 v2 v3 v4 = some out → jJ_X6_fair l G sz out 27 [(0, .ref (G.2 10)), (1, .int v1), (2, .int v2), (3, .int v3), (4, .int v4)] [] σ) (σ : jx_M) (v1 : Int32) (v2 : Int32) (v3 : Int32) (v4 : Int32) (s0 : Int32) (h : b_X6_fair_103 k27 σ v1 v2 v3 v4 s0 = some out) : jJ_X6_fair l G sz out 103 [(0, .ref (G.2 10)), (1, .int v1), (2, .int v2), (3, .int v3), (4, .int v4)] [.int s0] σ := by
  unfold b_X6_fair_103 at h
  refine jx_istore (pc := 103) (i := 5) rfl (by decide) (lv' := [(5, .int s0), (0, .ref (G.2 10)), (1, .int v1), (2, .int v2), (3, .int v3), (4, .int v4)]) rfl dX6_fair_103 ?_
  refine jx_iload (pc := 105) (i := 5) rfl dX6_fair_105 ?_
  refine jx_iload_n (pc := 107) (k0 := 3) rfl dX6_fair_107 ?_
  refine jx_icmp_ge (pc := 108) (tgt := 116) dX6_fair_108 (by decide) (fun c1 => ?_) (fun c1 => ?_)
  · have h := jx_t c1 h
    refine jx_iload_n (pc := 116) (k0 := 2) rfl dX6_fair_116 ?_
    exact jx_sub [1, 2, 4, 5, 0] rfl (jb_X6_fair_117 l G hG sz out k27 h27 σ v1 v3 v4 s0 v2 h)
  · have h := jx_f c1 h
    refine jx_iload (pc := 111) (i := 4) rfl dX6_fair_111 ?_
    refine jx_goto (pc := 113) (tgt := 117) dX6_fair_113 (by decide) ?_
    exact jx_sub [1, 2, 4, 5, 0] rfl (jb_X6_fair_117 l G hG sz out k27 h27 σ v1 v3 v4 s0 v4 h)
def g_X6_fair_47 (k27 : jx_M → Int32 → Int32 → Int32 → Int32 → Option (Int32 × jx_M)) (k47 : jx_M → Int32 → Int32 → Int32 → Int32 → Int32 → Int32 → Option (Int32 × jx_M)) (σ : jx_M) (v1 : Int32) (v2 : Int32) (v3 : Int32) (v4 : Int32) (v5 : Int32) (v6 : Int32) : Option (Int32 × jx_M) :=
  if (σ 1 0) ≤ v6 then if 0 ≤ v5 then (b_X6_fair_103 k27 σ v1 v2 v3 v4 v5) else (b_X6_fair_103 k27 σ v1 v2 v3 v4 (-v5)) else jx_gd (jx_in v6 6) (if ((v4 >>> ((σ 7 v6.toNatClampNeg) &&& 31)) &&& (1 : Int32)) = (1 : Int32) then (b_X6_fair_81 k27 k47 σ v1 v2 v3 v4 v6 (1 : Int32) v5) else (b_X6_fair_81 k27 k47 σ v1 v2 v3 v4 v6 (-1 : Int32) v5))
set_option maxHeartbeats 4000000 in
set_option maxRecDepth 100000 in
theorem jg_X6_fair_47 (l : Launch) (G : jx_G) (hG : mm_ok G) (sz : Nat) (out : (Int32 × jx_M)) (k27 : jx_M → Int32 → Int32 → Int32 → Int32 → Option (Int32 × jx_M)) (h27 : ∀ (σ : jx_M) (v1 : Int32) (v2 : Int32) (v3 : Int32) (v4 : Int32), k27 σ v1 v2 v3 v4 = some out → jJ_X6_fair l G sz out 27 [(0, .ref (G.2 10)), (1, .int v1), (2, .int v2), (3, .int v3), (4, .int v4)] [] σ) (k47 : jx_M → Int32 → Int32 → Int32 → Int32 → Int32 → Int32 → Option (Int32 × jx_M)) (h47 : ∀ (σ : jx_M) (v1 : Int32) (v2 : Int32) (v3 : Int32) (v4 : Int32) (v5 : Int32) (v6 : Int32), k47 σ v1 v2 v3 v4 v5 v6 = some out → jJ_X6_fair l G sz out 47 [(0, .ref (G.2 10)), (1, .int v1), (2, .int v2), (3, .int v3), (4, .int v4), (5, .int v5), (6, .int v6)] [] σ) (σ : jx_M) (v1 : Int32) (v2 : Int32) (v3 : Int32) (v4 : Int32) (v5 : Int32) (v6 : Int32) (h : g_X6_fair_47 k27 k47 σ v1 v2 v3 v4 v5 v6 = some out) : jJ_X6_fair l G sz out 47 [(0, .ref (G.2 10)), (1, .int v1), (2, .int v2), (3, .int v3), (4, .int v4), (5, .int v5), (6, .int v6)] [] σ := by
  unfold g_X6_fair_47 at h
  refine jx_iload (pc := 47) (i := 6) rfl dX6_fair_47 ?_
  refine jx_aload_n (pc := 49) (k0 := 0) rfl dX6_fair_49 ?_
  refine mm_g_s (pc := 50) fl_X6_9 dX6_fair_50 ?_
  refine jx_iconst (pc := 53) (v := (0 : Int32)) (by decide) dX6_fair_53 ?_
  refine mm_l_s (pc := 54) (j := 0) (jx_in_o (by decide)) (by decide) dX6_fair_54 ?_
  refine jx_icmp_ge (pc := 55) (tgt := 90) dX6_fair_55 (by decide) (fun c1 => ?_) (fun c1 => ?_)
  · have h := jx_t c1 h
    refine jx_iload (pc := 90) (i := 5) rfl dX6_fair_90 ?_
    refine jx_if_ge (pc := 92) (tgt := 101) dX6_fair_92 (by decide) (fun c2 => ?_) (fun c2 => ?_)
    · have h := jx_t c2 h
      refine jx_iload (pc := 101) (i := 5) rfl dX6_fair_101 ?_
      exact jx_sub [0, 1, 2, 3, 4] rfl (jb_X6_fair_103 l G hG sz out k27 h27 σ v1 v2 v3 v4 v5 h)
    · have h := jx_f c2 h
      refine jx_iload (pc := 95) (i := 5) rfl dX6_fair_95 ?_
      refine jx_ineg (pc := 97) dX6_fair_97 ?_
      refine jx_goto (pc := 98) (tgt := 103) dX6_fair_98 (by decide) ?_
      exact jx_sub [0, 1, 2, 3, 4] rfl (jb_X6_fair_103 l G hG sz out k27 h27 σ v1 v2 v3 v4 (-v5) h)
  · have h := jx_f c1 h
    refine jx_iload (pc := 58) (i := 5) rfl dX6_fair_58 ?_
    refine jx_iload (pc := 60) (i := 4) rfl dX6_fair_60 ?_
    refine jx_aload_n (pc := 62) (k0 := 0) rfl dX6_fair_62 ?_
    refine mm_g_lying (pc := 63) fl_X6_31 dX6_fair_63 ?_
    refine jx_iload (pc := 66) (i := 6) rfl dX6_fair_66 ?_
    obtain ⟨g3, h⟩ := jx_gd_o h
    refine mm_l_lying (pc := 68) (jx_in_o g3) rfl dX6_fair_68 ?_
    refine jx_ishr (pc := 69) dX6_fair_69 ?_
    refine jx_iconst (pc := 70) (v := (1 : Int32)) (by decide) dX6_fair_70 ?_
    refine jx_iand (pc := 71) dX6_fair_71 ?_
    refine jx_iconst (pc := 72) (v := (1 : Int32)) (by decide) dX6_fair_72 ?_
    refine jx_icmp_ne (pc := 73) (tgt := 80) dX6_fair_73 (by decide) (fun c4 => ?_) (fun c4 => ?_)
    · have h := jx_f c4 h
      refine jx_iconst (pc := 80) (v := (-1 : Int32)) (by decide) dX6_fair_80 ?_
      exact jx_sub [0, 1, 2, 3, 4, 6] rfl (jb_X6_fair_81 l G hG sz out k27 h27 k47 h47 σ v1 v2 v3 v4 v6 (-1 : Int32) v5 h)
    · have h := jx_t c4 h
      refine jx_iconst (pc := 76) (v := (1 : Int32)) (by decide) dX6_fair_76 ?_
      refine jx_goto (pc := 77) (tgt := 81) dX6_fair_77 (by decide) ?_
      exact jx_sub [0, 1, 2, 3, 4, 6] rfl (jb_X6_fair_81 l G hG sz out k27 h27 k47 h47 σ v1 v2 v3 v4 v6 (1 : Int32) v5 h)
def b_X6_fair_47 (k27 : jx_M → Int32 → Int32 → Int32 → Int32 → Option (Int32 × jx_M)) : Nat → jx_M → Int32 → Int32 → Int32 → Int32 → Int32 → Int32 → Option (Int32 × jx_M)
  | 0, _, _, _, _, _, _, _ => none
  | n + 1, σ, v1, v2, v3, v4, v5, v6 => g_X6_fair_47 k27 (b_X6_fair_47 k27 n) σ v1 v2 v3 v4 v5 v6
theorem jb_X6_fair_47 (l : Launch) (G : jx_G) (hG : mm_ok G) (sz : Nat) (out : (Int32 × jx_M)) (k27 : jx_M → Int32 → Int32 → Int32 → Int32 → Option (Int32 × jx_M)) (h27 : ∀ (σ : jx_M) (v1 : Int32) (v2 : Int32) (v3 : Int32) (v4 : Int32), k27 σ v1 v2 v3 v4 = some out → jJ_X6_fair l G sz out 27 [(0, .ref (G.2 10)), (1, .int v1), (2, .int v2), (3, .int v3), (4, .int v4)] [] σ) : ∀ (n : Nat) (σ : jx_M) (v1 : Int32) (v2 : Int32) (v3 : Int32) (v4 : Int32) (v5 : Int32) (v6 : Int32), b_X6_fair_47 k27 n σ v1 v2 v3 v4 v5 v6 = some out → jJ_X6_fair l G sz out 47 [(0, .ref (G.2 10)), (1, .int v1), (2, .int v2), (3, .int v3), (4, .int v4), (5, .int v5), (6, .int v6)] [] σ := by
  intro n
  induction n with
  | zero =>
    intro σ v1 v2 v3 v4 v5 v6 h
    cases h
  | succ n ih =>
    intro σ v1 v2 v3 v4 v5 v6 h
    exact jg_X6_fair_47 l G hG sz out k27 h27 (b_X6_fair_47 k27 n) ih σ v1 v2 v3 v4 v5 v6 h
def g_X6_fair_27 (k27 : jx_M → Int32 → Int32 → Int32 → Int32 → Option (Int32 × jx_M)) (σ : jx_M) (v1 : Int32) (v2 : Int32) (v3 : Int32) (v4 : Int32) : Option (Int32 × jx_M) :=
  if ((1 : Int32) <<< ((σ 1 6) &&& 31)) ≤ v4 then if v1 = 0 then some (v2, σ) else some (v3, σ) else (b_X6_fair_47 k27 jx_fuel σ v1 v2 v3 v4 (0 : Int32) (0 : Int32))
set_option maxHeartbeats 4000000 in
set_option maxRecDepth 100000 in
theorem jg_X6_fair_27 (l : Launch) (G : jx_G) (hG : mm_ok G) (sz : Nat) (out : (Int32 × jx_M)) (k27 : jx_M → Int32 → Int32 → Int32 → Int32 → Option (Int32 × jx_M)) (h27 : ∀ (σ : jx_M) (v1 : Int32) (v2 : Int32) (v3 : Int32) (v4 : Int32), k27 σ v1 v2 v3 v4 = some out → jJ_X6_fair l G sz out 27 [(0, .ref (G.2 10)), (1, .int v1), (2, .int v2), (3, .int v3), (4, .int v4)] [] σ) (σ : jx_M) (v1 : Int32) (v2 : Int32) (v3 : Int32) (v4 : Int32) (h : g_X6_fair_27 k27 σ v1 v2 v3 v4 = some out) : jJ_X6_fair l G sz out 27 [(0, .ref (G.2 10)), (1, .int v1), (2, .int v2), (3, .int v3), (4, .int v4)] [] σ := by
  unfold g_X6_fair_27 at h
  refine jx_iload (pc := 27) (i := 4) rfl dX6_fair_27 ?_
  refine jx_iconst (pc := 29) (v := (1 : Int32)) (by decide) dX6_fair_29 ?_
  refine jx_aload_n (pc := 30) (k0 := 0) rfl dX6_fair_30 ?_
  refine mm_g_s (pc := 31) fl_X6_9 dX6_fair_31 ?_
  refine jx_bipush (pc := 34) (v := (6 : Int32)) (by decide) dX6_fair_34 ?_
  refine mm_l_s (pc := 36) (j := 6) (jx_in_o (by decide)) (by decide) dX6_fair_36 ?_
  refine jx_ishl (pc := 37) dX6_fair_37 ?_
  refine jx_icmp_ge (pc := 38) (tgt := 137) dX6_fair_38 (by decide) (fun c1 => ?_) (fun c1 => ?_)
  · have h := jx_t c1 h
    refine jx_iload_n (pc := 137) (k0 := 1) rfl dX6_fair_137 ?_
    refine jx_if_ne (pc := 138) (tgt := 145) dX6_fair_138 (by decide) (fun c2 => ?_) (fun c2 => ?_)
    · have h := jx_f c2 h
      refine jx_iload_n (pc := 145) (k0 := 3) rfl dX6_fair_145 ?_
      cases h
      exact jx_iret (pc := 146) dX6_fair_146
    · have h := jx_t c2 h
      refine jx_iload_n (pc := 141) (k0 := 2) rfl dX6_fair_141 ?_
      refine jx_goto (pc := 142) (tgt := 146) dX6_fair_142 (by decide) ?_
      cases h
      exact jx_iret (pc := 146) dX6_fair_146
  · have h := jx_f c1 h
    refine jx_iconst (pc := 41) (v := (0 : Int32)) (by decide) dX6_fair_41 ?_
    refine jx_istore (pc := 42) (i := 5) rfl (by decide) (lv' := [(5, .int (0 : Int32)), (0, .ref (G.2 10)), (1, .int v1), (2, .int v2), (3, .int v3), (4, .int v4)]) rfl dX6_fair_42 ?_
    refine jx_iconst (pc := 44) (v := (0 : Int32)) (by decide) dX6_fair_44 ?_
    refine jx_istore (pc := 45) (i := 6) rfl (by decide) (lv' := [(6, .int (0 : Int32)), (5, .int (0 : Int32)), (0, .ref (G.2 10)), (1, .int v1), (2, .int v2), (3, .int v3), (4, .int v4)]) rfl dX6_fair_45 ?_
    exact jx_sub [2, 3, 4, 5, 6, 1, 0] rfl (jb_X6_fair_47 l G hG sz out k27 h27 jx_fuel σ v1 v2 v3 v4 (0 : Int32) (0 : Int32) h)
def b_X6_fair_27  : Nat → jx_M → Int32 → Int32 → Int32 → Int32 → Option (Int32 × jx_M)
  | 0, _, _, _, _, _ => none
  | n + 1, σ, v1, v2, v3, v4 => g_X6_fair_27 (b_X6_fair_27 n) σ v1 v2 v3 v4
theorem jb_X6_fair_27 (l : Launch) (G : jx_G) (hG : mm_ok G) (sz : Nat) (out : (Int32 × jx_M))  : ∀ (n : Nat) (σ : jx_M) (v1 : Int32) (v2 : Int32) (v3 : Int32) (v4 : Int32), b_X6_fair_27 n σ v1 v2 v3 v4 = some out → jJ_X6_fair l G sz out 27 [(0, .ref (G.2 10)), (1, .int v1), (2, .int v2), (3, .int v3), (4, .int v4)] [] σ := by
  intro n
  induction n with
  | zero =>
    intro σ v1 v2 v3 v4 h
    cases h
  | succ n ih =>
    intro σ v1 v2 v3 v4 h
    exact jg_X6_fair_27 l G hG sz out (b_X6_fair_27 n) ih σ v1 v2 v3 v4 h
def f_X6_fair (σ : jx_M) (a1 : Int32) : Option (Int32 × jx_M) :=
  jx_bd (f_X6_in a1 (0 : Int32) (1 : Int32)) (fun q1 => if q1 = 0 then some ((-1 : Int32), σ) else jx_bd (f_X6_looksForNight σ) (fun q3 => jx_bd (f_X6_laysAll q3) (fun q4 => (b_X6_fair_27 jx_fuel q4 a1 (0 : Int32) (99 : Int32) (0 : Int32)))))
set_option maxHeartbeats 4000000 in
set_option maxRecDepth 100000 in
theorem k_X6_fair (l : Launch) (G : jx_G) (hG : mm_ok G) (sz : Nat) (σ : jx_M) (a1 : Int32) (out : (Int32 × jx_M)) (h : f_X6_fair σ a1 = some out) : Met l yX6_fair (Cond.code yX6_fair cX6_fair 7 (some .int) :: jx_ws) rm_X6_fair (jx_Pc (mm_env G) (mm_dyn G) (mm_rg G) sz σ [.ref (G.2 10), .int a1]) (jx_Qi (mm_dyn G) out.2 out.1 (jx_A (mm_rg G) sz)) 0 0 (jx_A (mm_rg G) sz) := by
  unfold f_X6_fair at h
  refine jx_met (by decide) (Nat.le_of_ble_eq_true rfl) ?_
  refine jx_sub (lv' := [(0, .ref (G.2 10)), (1, .int a1)]) [0, 1] rfl ?_
  refine jx_iload_n (pc := 0) (k0 := 1) rfl dX6_fair_0 ?_
  refine jx_iconst (pc := 1) (v := (0 : Int32)) (by decide) dX6_fair_1 ?_
  refine jx_iconst (pc := 2) (v := (1 : Int32)) (by decide) dX6_fair_2 ?_
  obtain ⟨q1, eq1, h⟩ := jx_bd_o h
  refine jx_callSi (pc := 3) [.int a1, .int (0 : Int32), .int (1 : Int32)] (fun sz' => k_X6_in l G hG sz' σ a1 (0 : Int32) (1 : Int32) q1 eq1) ks_X6_48 mm_jok rfl rfl (Nat.le_of_ble_eq_true rfl) ⟨⟨rfl, rfl⟩, ⟨Nat.le_of_ble_eq_true rfl, Nat.le_of_ble_eq_true rfl⟩, Nat.zero_le _, Nat.zero_le _⟩ dX6_fair_3 ?_
  refine jx_if_ne (pc := 6) (tgt := 11) dX6_fair_6 (by decide) (fun c2 => ?_) (fun c2 => ?_)
  · have h := jx_f c2 h
    refine jx_aload_n (pc := 11) (k0 := 0) rfl dX6_fair_11 ?_
    obtain ⟨q3, eq3, h⟩ := jx_bd_o h
    refine jx_callVv (pc := 12) [] (fun sz' => k_X6_looksForNight l G hG sz' σ q3 eq3) kv_X6_185 mm_jok mm_rc rfl rfl (Nat.le_of_ble_eq_true rfl) ⟨⟨rfl, rfl⟩, ⟨Nat.le_of_ble_eq_true rfl, Nat.le_of_ble_eq_true rfl⟩, Nat.zero_le _, Nat.zero_le _⟩ dX6_fair_12 ?_
    refine jx_aload_n (pc := 15) (k0 := 0) rfl dX6_fair_15 ?_
    obtain ⟨q4, eq4, h⟩ := jx_bd_o h
    refine jx_callVv (pc := 16) [] (fun sz' => k_X6_laysAll l G hG sz' q3 q4 eq4) kv_X6_188 mm_jok mm_rc rfl rfl (Nat.le_of_ble_eq_true rfl) ⟨⟨rfl, rfl⟩, ⟨Nat.le_of_ble_eq_true rfl, Nat.le_of_ble_eq_true rfl⟩, Nat.zero_le _, Nat.zero_le _⟩ dX6_fair_16 ?_
    refine jx_iconst (pc := 19) (v := (0 : Int32)) (by decide) dX6_fair_19 ?_
    refine jx_istore_n (pc := 20) (i := 2) rfl rfl (by decide) (lv' := [(2, .int (0 : Int32)), (0, .ref (G.2 10)), (1, .int a1)]) rfl dX6_fair_20 ?_
    refine jx_bipush (pc := 21) (v := (99 : Int32)) (by decide) dX6_fair_21 ?_
    refine jx_istore_n (pc := 23) (i := 3) rfl rfl (by decide) (lv' := [(3, .int (99 : Int32)), (2, .int (0 : Int32)), (0, .ref (G.2 10)), (1, .int a1)]) rfl dX6_fair_23 ?_
    refine jx_iconst (pc := 24) (v := (0 : Int32)) (by decide) dX6_fair_24 ?_
    refine jx_istore (pc := 25) (i := 4) rfl (by decide) (lv' := [(4, .int (0 : Int32)), (3, .int (99 : Int32)), (2, .int (0 : Int32)), (0, .ref (G.2 10)), (1, .int a1)]) rfl dX6_fair_25 ?_
    exact jx_sub [3, 4, 2, 1, 0] rfl (jb_X6_fair_27 l G hG sz out jx_fuel q4 a1 (0 : Int32) (99 : Int32) (0 : Int32) h)
  · have h := jx_t c2 h
    refine jx_iconst (pc := 9) (v := (-1 : Int32)) (by decide) dX6_fair_9 ?_
    cases h
    exact jx_iret (pc := 10) dX6_fair_10
theorem dX6_plainTells_0 : decode cX6_plainTells 0 = .ok (.aload_n 0, 1) := by decide +kernel
theorem dX6_plainTells_1 : decode cX6_plainTells 1 = .ok (.iconst 3, 1) := by decide +kernel
theorem dX6_plainTells_2 : decode cX6_plainTells 2 = .ok (.invokevirtual 230, 3) := by decide +kernel
theorem dX6_plainTells_5 : decode cX6_plainTells 5 = .ok (.aload_n 0, 1) := by decide +kernel
theorem dX6_plainTells_6 : decode cX6_plainTells 6 = .ok (.iload_n 1, 1) := by decide +kernel
theorem dX6_plainTells_7 : decode cX6_plainTells 7 = .ok (.invokevirtual 255, 3) := by decide +kernel
theorem dX6_plainTells_10 : decode cX6_plainTells 10 = .ok (.iconst 2, 1) := by decide +kernel
theorem dX6_plainTells_11 : decode cX6_plainTells 11 = .ok (.imul, 1) := by decide +kernel
theorem dX6_plainTells_12 : decode cX6_plainTells 12 = .ok (.ireturn, 1) := by decide +kernel
abbrev rm_X6_plainTells : Room := { frames := 5, cells := 0, slots := 0, locals := 105 }
abbrev jJ_X6_plainTells (l : Launch) (G : jx_G) (sz : Nat) (out : (Int32 × jx_M)) (pc : Nat) (lv : List (Nat × Value)) (st : List Value) (σ : jx_M) : Prop := jx_J l (mm_env G) (mm_dyn G) (mm_rg G) sz RX6 "plainTells" cX6_plainTells 2 (some .int) rm_X6_plainTells (fun below args s => MQ below (jx_Qi (mm_dyn G) out.2 out.1 (jx_A (mm_rg G) sz)) args s 0 0 (jx_A (mm_rg G) sz)) 0 0 pc lv st σ
def f_X6_plainTells (σ : jx_M) (a1 : Int32) : Option (Int32 × jx_M) :=
  jx_bd (f_X6_ranBody σ (3 : Int32)) (fun q1 => jx_bd (f_X6_burnsActs q1 a1) (fun q2 => some ((q2.1 * (2 : Int32)), q2.2)))
set_option maxHeartbeats 4000000 in
set_option maxRecDepth 100000 in
theorem k_X6_plainTells (l : Launch) (G : jx_G) (hG : mm_ok G) (sz : Nat) (σ : jx_M) (a1 : Int32) (out : (Int32 × jx_M)) (h : f_X6_plainTells σ a1 = some out) : Met l yX6_plainTells (Cond.code yX6_plainTells cX6_plainTells 2 (some .int) :: jx_ws) rm_X6_plainTells (jx_Pc (mm_env G) (mm_dyn G) (mm_rg G) sz σ [.ref (G.2 10), .int a1]) (jx_Qi (mm_dyn G) out.2 out.1 (jx_A (mm_rg G) sz)) 0 0 (jx_A (mm_rg G) sz) := by
  unfold f_X6_plainTells at h
  refine jx_met (by decide) (Nat.le_of_ble_eq_true rfl) ?_
  refine jx_sub (lv' := [(0, .ref (G.2 10)), (1, .int a1)]) [0, 1] rfl ?_
  refine jx_aload_n (pc := 0) (k0 := 0) rfl dX6_plainTells_0 ?_
  refine jx_iconst (pc := 1) (v := (3 : Int32)) (by decide) dX6_plainTells_1 ?_
  obtain ⟨q1, eq1, h⟩ := jx_bd_o h
  refine jx_callVv (pc := 2) [.int (3 : Int32)] (fun sz' => k_X6_ranBody l G hG sz' σ (3 : Int32) q1 eq1) kv_X6_230 mm_jok mm_rc rfl rfl (Nat.le_of_ble_eq_true rfl) ⟨⟨rfl, rfl⟩, ⟨Nat.le_of_ble_eq_true rfl, Nat.le_of_ble_eq_true rfl⟩, Nat.zero_le _, Nat.zero_le _⟩ dX6_plainTells_2 ?_
  refine jx_aload_n (pc := 5) (k0 := 0) rfl dX6_plainTells_5 ?_
  refine jx_iload_n (pc := 6) (k0 := 1) rfl dX6_plainTells_6 ?_
  obtain ⟨q2, eq2, h⟩ := jx_bd_o h
  refine jx_callVi (pc := 7) [.int a1] (fun sz' => k_X6_burnsActs l G hG sz' q1 a1 q2 eq2) kv_X6_255 mm_jok mm_rc rfl rfl (Nat.le_of_ble_eq_true rfl) ⟨⟨rfl, rfl⟩, ⟨Nat.le_of_ble_eq_true rfl, Nat.le_of_ble_eq_true rfl⟩, Nat.zero_le _, Nat.zero_le _⟩ dX6_plainTells_7 ?_
  refine jx_iconst (pc := 10) (v := (2 : Int32)) (by decide) dX6_plainTells_10 ?_
  refine jx_imul (pc := 11) dX6_plainTells_11 ?_
  cases h
  exact jx_iret (pc := 12) dX6_plainTells_12
theorem dX6_tellsActs_0 : decode cX6_tellsActs 0 = .ok (.aload_n 0, 1) := by decide +kernel
theorem dX6_tellsActs_1 : decode cX6_tellsActs 1 = .ok (.getfield 236, 3) := by decide +kernel
theorem dX6_tellsActs_4 : decode cX6_tellsActs 4 = .ok (.iconst 3, 1) := by decide +kernel
theorem dX6_tellsActs_5 : decode cX6_tellsActs 5 = .ok (.invokestatic 239, 3) := by decide +kernel
theorem dX6_tellsActs_8 : decode cX6_tellsActs 8 = .ok (.ifCond .eq 18, 3) := by decide +kernel
theorem dX6_tellsActs_11 : decode cX6_tellsActs 11 = .ok (.aload_n 0, 1) := by decide +kernel
theorem dX6_tellsActs_12 : decode cX6_tellsActs 12 = .ok (.bipush 31, 2) := by decide +kernel
theorem dX6_tellsActs_14 : decode cX6_tellsActs 14 = .ok (.invokevirtual 230, 3) := by decide +kernel
theorem dX6_tellsActs_17 : decode cX6_tellsActs 17 = .ok (.aload_n 0, 1) := by decide +kernel
theorem dX6_tellsActs_18 : decode cX6_tellsActs 18 = .ok (.iload_n 1, 1) := by decide +kernel
theorem dX6_tellsActs_19 : decode cX6_tellsActs 19 = .ok (.invokevirtual 258, 3) := by decide +kernel
theorem dX6_tellsActs_22 : decode cX6_tellsActs 22 = .ok (.bipush 7, 2) := by decide +kernel
theorem dX6_tellsActs_24 : decode cX6_tellsActs 24 = .ok (.ixor, 1) := by decide +kernel
theorem dX6_tellsActs_25 : decode cX6_tellsActs 25 = .ok (.ireturn, 1) := by decide +kernel
theorem dX6_tellsActs_26 : decode cX6_tellsActs 26 = .ok (.aload_n 0, 1) := by decide +kernel
theorem dX6_tellsActs_27 : decode cX6_tellsActs 27 = .ok (.getfield 236, 3) := by decide +kernel
theorem dX6_tellsActs_30 : decode cX6_tellsActs 30 = .ok (.iconst 4, 1) := by decide +kernel
theorem dX6_tellsActs_31 : decode cX6_tellsActs 31 = .ok (.if_icmp .ne 25, 3) := by decide +kernel
theorem dX6_tellsActs_34 : decode cX6_tellsActs 34 = .ok (.aload_n 0, 1) := by decide +kernel
theorem dX6_tellsActs_35 : decode cX6_tellsActs 35 = .ok (.bipush 41, 2) := by decide +kernel
theorem dX6_tellsActs_37 : decode cX6_tellsActs 37 = .ok (.invokevirtual 230, 3) := by decide +kernel
theorem dX6_tellsActs_40 : decode cX6_tellsActs 40 = .ok (.aload_n 0, 1) := by decide +kernel
theorem dX6_tellsActs_41 : decode cX6_tellsActs 41 = .ok (.iload_n 1, 1) := by decide +kernel
theorem dX6_tellsActs_42 : decode cX6_tellsActs 42 = .ok (.iconst 1, 1) := by decide +kernel
theorem dX6_tellsActs_43 : decode cX6_tellsActs 43 = .ok (.isub, 1) := by decide +kernel
theorem dX6_tellsActs_44 : decode cX6_tellsActs 44 = .ok (.invokevirtual 258, 3) := by decide +kernel
theorem dX6_tellsActs_47 : decode cX6_tellsActs 47 = .ok (.istore_n 2, 1) := by decide +kernel
theorem dX6_tellsActs_48 : decode cX6_tellsActs 48 = .ok (.iload_n 2, 1) := by decide +kernel
theorem dX6_tellsActs_49 : decode cX6_tellsActs 49 = .ok (.aload_n 0, 1) := by decide +kernel
theorem dX6_tellsActs_50 : decode cX6_tellsActs 50 = .ok (.iconst 2, 1) := by decide +kernel
theorem dX6_tellsActs_51 : decode cX6_tellsActs 51 = .ok (.invokevirtual 246, 3) := by decide +kernel
theorem dX6_tellsActs_54 : decode cX6_tellsActs 54 = .ok (.iadd, 1) := by decide +kernel
theorem dX6_tellsActs_55 : decode cX6_tellsActs 55 = .ok (.ireturn, 1) := by decide +kernel
theorem dX6_tellsActs_56 : decode cX6_tellsActs 56 = .ok (.aload_n 0, 1) := by decide +kernel
theorem dX6_tellsActs_57 : decode cX6_tellsActs 57 = .ok (.iload_n 1, 1) := by decide +kernel
theorem dX6_tellsActs_58 : decode cX6_tellsActs 58 = .ok (.invokevirtual 258, 3) := by decide +kernel
theorem dX6_tellsActs_61 : decode cX6_tellsActs 61 = .ok (.ireturn, 1) := by decide +kernel
abbrev rm_X6_tellsActs : Room := { frames := 6, cells := 0, slots := 0, locals := 126 }
abbrev jJ_X6_tellsActs (l : Launch) (G : jx_G) (sz : Nat) (out : (Int32 × jx_M)) (pc : Nat) (lv : List (Nat × Value)) (st : List Value) (σ : jx_M) : Prop := jx_J l (mm_env G) (mm_dyn G) (mm_rg G) sz RX6 "tellsActs" cX6_tellsActs 3 (some .int) rm_X6_tellsActs (fun below args s => MQ below (jx_Qi (mm_dyn G) out.2 out.1 (jx_A (mm_rg G) sz)) args s 0 0 (jx_A (mm_rg G) sz)) 0 0 pc lv st σ
def f_X6_tellsActs (σ : jx_M) (a1 : Int32) : Option (Int32 × jx_M) :=
  jx_bd (f_X6_isUnder (σ 0 23) (3 : Int32)) (fun q1 => if q1 = 0 then if (σ 0 23) = (4 : Int32) then jx_bd (f_X6_ranBody σ (41 : Int32)) (fun q5 => jx_bd (f_X6_plainTells q5 (a1 - (1 : Int32))) (fun q6 => jx_bd (f_X6_setsActs q6.2 (2 : Int32)) (fun q7 => some ((q6.1 + q7.1), q7.2)))) else jx_bd (f_X6_plainTells σ a1) (fun q4 => some (q4.1, q4.2)) else jx_bd (f_X6_ranBody σ (31 : Int32)) (fun q8 => jx_bd (f_X6_plainTells q8 a1) (fun q9 => some ((q9.1 ^^^ (7 : Int32)), q9.2))))
set_option maxHeartbeats 4000000 in
set_option maxRecDepth 100000 in
theorem k_X6_tellsActs (l : Launch) (G : jx_G) (hG : mm_ok G) (sz : Nat) (σ : jx_M) (a1 : Int32) (out : (Int32 × jx_M)) (h : f_X6_tellsActs σ a1 = some out) : Met l yX6_tellsActs (Cond.code yX6_tellsActs cX6_tellsActs 3 (some .int) :: jx_ws) rm_X6_tellsActs (jx_Pc (mm_env G) (mm_dyn G) (mm_rg G) sz σ [.ref (G.2 10), .int a1]) (jx_Qi (mm_dyn G) out.2 out.1 (jx_A (mm_rg G) sz)) 0 0 (jx_A (mm_rg G) sz) := by
  unfold f_X6_tellsActs at h
  refine jx_met (by decide) (Nat.le_of_ble_eq_true rfl) ?_
  refine jx_sub (lv' := [(0, .ref (G.2 10)), (1, .int a1)]) [0, 1] rfl ?_
  refine jx_aload_n (pc := 0) (k0 := 0) rfl dX6_tellsActs_0 ?_
  refine mm_g_kind (pc := 1) fl_X6_236 dX6_tellsActs_1 ?_
  refine jx_iconst (pc := 4) (v := (3 : Int32)) (by decide) dX6_tellsActs_4 ?_
  obtain ⟨q1, eq1, h⟩ := jx_bd_o h
  refine jx_callSi (pc := 5) [.int (σ 0 23), .int (3 : Int32)] (fun sz' => k_X6_isUnder l G hG sz' σ (σ 0 23) (3 : Int32) q1 eq1) ks_X6_239 mm_jok rfl rfl (Nat.le_of_ble_eq_true rfl) ⟨⟨rfl, rfl⟩, ⟨Nat.le_of_ble_eq_true rfl, Nat.le_of_ble_eq_true rfl⟩, Nat.zero_le _, Nat.zero_le _⟩ dX6_tellsActs_5 ?_
  refine jx_if_eq (pc := 8) (tgt := 26) dX6_tellsActs_8 (by decide) (fun c2 => ?_) (fun c2 => ?_)
  · have h := jx_t c2 h
    refine jx_aload_n (pc := 26) (k0 := 0) rfl dX6_tellsActs_26 ?_
    refine mm_g_kind (pc := 27) fl_X6_236 dX6_tellsActs_27 ?_
    refine jx_iconst (pc := 30) (v := (4 : Int32)) (by decide) dX6_tellsActs_30 ?_
    refine jx_icmp_ne (pc := 31) (tgt := 56) dX6_tellsActs_31 (by decide) (fun c3 => ?_) (fun c3 => ?_)
    · have h := jx_f c3 h
      refine jx_aload_n (pc := 56) (k0 := 0) rfl dX6_tellsActs_56 ?_
      refine jx_iload_n (pc := 57) (k0 := 1) rfl dX6_tellsActs_57 ?_
      obtain ⟨q4, eq4, h⟩ := jx_bd_o h
      refine jx_callVi (pc := 58) [.int a1] (fun sz' => k_X6_plainTells l G hG sz' σ a1 q4 eq4) kv_X6_258 mm_jok mm_rc rfl rfl (Nat.le_of_ble_eq_true rfl) ⟨⟨rfl, rfl⟩, ⟨Nat.le_of_ble_eq_true rfl, Nat.le_of_ble_eq_true rfl⟩, Nat.zero_le _, Nat.zero_le _⟩ dX6_tellsActs_58 ?_
      cases h
      exact jx_iret (pc := 61) dX6_tellsActs_61
    · have h := jx_t c3 h
      refine jx_aload_n (pc := 34) (k0 := 0) rfl dX6_tellsActs_34 ?_
      refine jx_bipush (pc := 35) (v := (41 : Int32)) (by decide) dX6_tellsActs_35 ?_
      obtain ⟨q5, eq5, h⟩ := jx_bd_o h
      refine jx_callVv (pc := 37) [.int (41 : Int32)] (fun sz' => k_X6_ranBody l G hG sz' σ (41 : Int32) q5 eq5) kv_X6_230 mm_jok mm_rc rfl rfl (Nat.le_of_ble_eq_true rfl) ⟨⟨rfl, rfl⟩, ⟨Nat.le_of_ble_eq_true rfl, Nat.le_of_ble_eq_true rfl⟩, Nat.zero_le _, Nat.zero_le _⟩ dX6_tellsActs_37 ?_
      refine jx_aload_n (pc := 40) (k0 := 0) rfl dX6_tellsActs_40 ?_
      refine jx_iload_n (pc := 41) (k0 := 1) rfl dX6_tellsActs_41 ?_
      refine jx_iconst (pc := 42) (v := (1 : Int32)) (by decide) dX6_tellsActs_42 ?_
      refine jx_isub (pc := 43) dX6_tellsActs_43 ?_
      obtain ⟨q6, eq6, h⟩ := jx_bd_o h
      refine jx_callVi (pc := 44) [.int (a1 - (1 : Int32))] (fun sz' => k_X6_plainTells l G hG sz' q5 (a1 - (1 : Int32)) q6 eq6) kv_X6_258 mm_jok mm_rc rfl rfl (Nat.le_of_ble_eq_true rfl) ⟨⟨rfl, rfl⟩, ⟨Nat.le_of_ble_eq_true rfl, Nat.le_of_ble_eq_true rfl⟩, Nat.zero_le _, Nat.zero_le _⟩ dX6_tellsActs_44 ?_
      refine jx_istore_n (pc := 47) (i := 2) rfl rfl (by decide) (lv' := [(2, .int q6.1), (0, .ref (G.2 10)), (1, .int a1)]) rfl dX6_tellsActs_47 ?_
      refine jx_iload_n (pc := 48) (k0 := 2) rfl dX6_tellsActs_48 ?_
      refine jx_aload_n (pc := 49) (k0 := 0) rfl dX6_tellsActs_49 ?_
      refine jx_iconst (pc := 50) (v := (2 : Int32)) (by decide) dX6_tellsActs_50 ?_
      obtain ⟨q7, eq7, h⟩ := jx_bd_o h
      refine jx_callVi (pc := 51) [.int (2 : Int32)] (fun sz' => k_X6_setsActs l G hG sz' q6.2 (2 : Int32) q7 eq7) kv_X6_246 mm_jok mm_rc rfl rfl (Nat.le_of_ble_eq_true rfl) ⟨⟨rfl, rfl⟩, ⟨Nat.le_of_ble_eq_true rfl, Nat.le_of_ble_eq_true rfl⟩, Nat.zero_le _, Nat.zero_le _⟩ dX6_tellsActs_51 ?_
      refine jx_iadd (pc := 54) dX6_tellsActs_54 ?_
      cases h
      exact jx_iret (pc := 55) dX6_tellsActs_55
  · have h := jx_f c2 h
    refine jx_aload_n (pc := 11) (k0 := 0) rfl dX6_tellsActs_11 ?_
    refine jx_bipush (pc := 12) (v := (31 : Int32)) (by decide) dX6_tellsActs_12 ?_
    obtain ⟨q8, eq8, h⟩ := jx_bd_o h
    refine jx_callVv (pc := 14) [.int (31 : Int32)] (fun sz' => k_X6_ranBody l G hG sz' σ (31 : Int32) q8 eq8) kv_X6_230 mm_jok mm_rc rfl rfl (Nat.le_of_ble_eq_true rfl) ⟨⟨rfl, rfl⟩, ⟨Nat.le_of_ble_eq_true rfl, Nat.le_of_ble_eq_true rfl⟩, Nat.zero_le _, Nat.zero_le _⟩ dX6_tellsActs_14 ?_
    refine jx_aload_n (pc := 17) (k0 := 0) rfl dX6_tellsActs_17 ?_
    refine jx_iload_n (pc := 18) (k0 := 1) rfl dX6_tellsActs_18 ?_
    obtain ⟨q9, eq9, h⟩ := jx_bd_o h
    refine jx_callVi (pc := 19) [.int a1] (fun sz' => k_X6_plainTells l G hG sz' q8 a1 q9 eq9) kv_X6_258 mm_jok mm_rc rfl rfl (Nat.le_of_ble_eq_true rfl) ⟨⟨rfl, rfl⟩, ⟨Nat.le_of_ble_eq_true rfl, Nat.le_of_ble_eq_true rfl⟩, Nat.zero_le _, Nat.zero_le _⟩ dX6_tellsActs_19 ?_
    refine jx_bipush (pc := 22) (v := (7 : Int32)) (by decide) dX6_tellsActs_22 ?_
    refine jx_ixor (pc := 24) dX6_tellsActs_24 ?_
    cases h
    exact jx_iret (pc := 25) dX6_tellsActs_25
theorem dX6_act_0 : decode cX6_act 0 = .ok (.aload_n 0, 1) := by decide +kernel
theorem dX6_act_1 : decode cX6_act 1 = .ok (.iconst 0, 1) := by decide +kernel
theorem dX6_act_2 : decode cX6_act 2 = .ok (.putfield 227, 3) := by decide +kernel
theorem dX6_act_5 : decode cX6_act 5 = .ok (.aload_n 0, 1) := by decide +kernel
theorem dX6_act_6 : decode cX6_act 6 = .ok (.iload_n 1, 1) := by decide +kernel
theorem dX6_act_7 : decode cX6_act 7 = .ok (.invokevirtual 163, 3) := by decide +kernel
theorem dX6_act_10 : decode cX6_act 10 = .ok (.ifCond .eq 12, 3) := by decide +kernel
theorem dX6_act_13 : decode cX6_act 13 = .ok (.iload_n 2, 1) := by decide +kernel
theorem dX6_act_14 : decode cX6_act 14 = .ok (.iconst 0, 1) := by decide +kernel
theorem dX6_act_15 : decode cX6_act 15 = .ok (.iconst 2, 1) := by decide +kernel
theorem dX6_act_16 : decode cX6_act 16 = .ok (.invokestatic 48, 3) := by decide +kernel
theorem dX6_act_19 : decode cX6_act 19 = .ok (.ifCond .ne 5, 3) := by decide +kernel
theorem dX6_act_22 : decode cX6_act 22 = .ok (.iconst 0, 1) := by decide +kernel
theorem dX6_act_23 : decode cX6_act 23 = .ok (.ireturn, 1) := by decide +kernel
theorem dX6_act_24 : decode cX6_act 24 = .ok (.aload_n 0, 1) := by decide +kernel
theorem dX6_act_25 : decode cX6_act 25 = .ok (.aload_n 0, 1) := by decide +kernel
theorem dX6_act_26 : decode cX6_act 26 = .ok (.getfield 9, 3) := by decide +kernel
theorem dX6_act_29 : decode cX6_act 29 = .ok (.bipush 31, 2) := by decide +kernel
theorem dX6_act_31 : decode cX6_act 31 = .ok (.iload_n 1, 1) := by decide +kernel
theorem dX6_act_32 : decode cX6_act 32 = .ok (.iadd, 1) := by decide +kernel
theorem dX6_act_33 : decode cX6_act 33 = .ok (.iaload, 1) := by decide +kernel
theorem dX6_act_34 : decode cX6_act 34 = .ok (.putfield 236, 3) := by decide +kernel
theorem dX6_act_37 : decode cX6_act 37 = .ok (.aload_n 0, 1) := by decide +kernel
theorem dX6_act_38 : decode cX6_act 38 = .ok (.iload_n 1, 1) := by decide +kernel
theorem dX6_act_39 : decode cX6_act 39 = .ok (.putfield 233, 3) := by decide +kernel
theorem dX6_act_42 : decode cX6_act 42 = .ok (.aload_n 0, 1) := by decide +kernel
theorem dX6_act_43 : decode cX6_act 43 = .ok (.aload_n 0, 1) := by decide +kernel
theorem dX6_act_44 : decode cX6_act 44 = .ok (.getfield 9, 3) := by decide +kernel
theorem dX6_act_47 : decode cX6_act 47 = .ok (.bipush 37, 2) := by decide +kernel
theorem dX6_act_49 : decode cX6_act 49 = .ok (.iload_n 1, 1) := by decide +kernel
theorem dX6_act_50 : decode cX6_act 50 = .ok (.iadd, 1) := by decide +kernel
theorem dX6_act_51 : decode cX6_act 51 = .ok (.iaload, 1) := by decide +kernel
theorem dX6_act_52 : decode cX6_act 52 = .ok (.putfield 249, 3) := by decide +kernel
theorem dX6_act_55 : decode cX6_act 55 = .ok (.iload_n 2, 1) := by decide +kernel
theorem dX6_act_56 : decode cX6_act 56 = .ok (.ifCond .ne 11, 3) := by decide +kernel
theorem dX6_act_59 : decode cX6_act 59 = .ok (.aload_n 0, 1) := by decide +kernel
theorem dX6_act_60 : decode cX6_act 60 = .ok (.iload_n 3, 1) := by decide +kernel
theorem dX6_act_61 : decode cX6_act 61 = .ok (.invokevirtual 246, 3) := by decide +kernel
theorem dX6_act_64 : decode cX6_act 64 = .ok (.goto 21, 3) := by decide +kernel
theorem dX6_act_67 : decode cX6_act 67 = .ok (.iload_n 2, 1) := by decide +kernel
theorem dX6_act_68 : decode cX6_act 68 = .ok (.iconst 1, 1) := by decide +kernel
theorem dX6_act_69 : decode cX6_act 69 = .ok (.if_icmp .ne 11, 3) := by decide +kernel
theorem dX6_act_72 : decode cX6_act 72 = .ok (.aload_n 0, 1) := by decide +kernel
theorem dX6_act_73 : decode cX6_act 73 = .ok (.iload_n 3, 1) := by decide +kernel
theorem dX6_act_74 : decode cX6_act 74 = .ok (.invokevirtual 255, 3) := by decide +kernel
theorem dX6_act_77 : decode cX6_act 77 = .ok (.goto 8, 3) := by decide +kernel
theorem dX6_act_80 : decode cX6_act 80 = .ok (.aload_n 0, 1) := by decide +kernel
theorem dX6_act_81 : decode cX6_act 81 = .ok (.iload_n 3, 1) := by decide +kernel
theorem dX6_act_82 : decode cX6_act 82 = .ok (.invokevirtual 261, 3) := by decide +kernel
theorem dX6_act_85 : decode cX6_act 85 = .ok (.ireturn, 1) := by decide +kernel
abbrev rm_X6_act : Room := { frames := 7, cells := 0, slots := 0, locals := 148 }
abbrev jJ_X6_act (l : Launch) (G : jx_G) (sz : Nat) (out : (Int32 × jx_M)) (pc : Nat) (lv : List (Nat × Value)) (st : List Value) (σ : jx_M) : Prop := jx_J l (mm_env G) (mm_dyn G) (mm_rg G) sz RX6 "act" cX6_act 4 (some .int) rm_X6_act (fun below args s => MQ below (jx_Qi (mm_dyn G) out.2 out.1 (jx_A (mm_rg G) sz)) args s 0 0 (jx_A (mm_rg G) sz)) 0 0 pc lv st σ
def f_X6_act (σ : jx_M) (a1 : Int32) (a2 : Int32) (a3 : Int32) : Option (Int32 × jx_M) :=
  jx_lt (jx_mu σ 0 22 (0 : Int32)) (fun σ1 => jx_bd (f_X6_isVoter σ1 a1) (fun q2 => if q2 = 0 then some ((0 : Int32), σ1) else jx_bd (f_X6_in a2 (0 : Int32) (2 : Int32)) (fun q4 => if q4 = 0 then some ((0 : Int32), σ1) else jx_gd (jx_in ((31 : Int32) + a1) 920) (jx_lt (jx_mu σ1 0 23 (σ1 1 ((31 : Int32) + a1).toNatClampNeg)) (fun σ7 => jx_lt (jx_mu σ7 0 24 a1) (fun σ8 => jx_gd (jx_in ((37 : Int32) + a1) 920) (jx_lt (jx_mu σ8 0 25 (σ8 1 ((37 : Int32) + a1).toNatClampNeg)) (fun σ10 => if a2 = 0 then jx_bd (f_X6_setsActs σ10 a3) (fun q15 => some (q15.1, q15.2)) else if a2 = (1 : Int32) then jx_bd (f_X6_burnsActs σ10 a3) (fun q14 => some (q14.1, q14.2)) else jx_bd (f_X6_tellsActs σ10 a3) (fun q13 => some (q13.1, q13.2))))))))))
set_option maxHeartbeats 4000000 in
set_option maxRecDepth 100000 in
theorem k_X6_act (l : Launch) (G : jx_G) (hG : mm_ok G) (sz : Nat) (σ : jx_M) (a1 : Int32) (a2 : Int32) (a3 : Int32) (out : (Int32 × jx_M)) (h : f_X6_act σ a1 a2 a3 = some out) : Met l yX6_act (Cond.code yX6_act cX6_act 4 (some .int) :: jx_ws) rm_X6_act (jx_Pc (mm_env G) (mm_dyn G) (mm_rg G) sz σ [.ref (G.2 10), .int a1, .int a2, .int a3]) (jx_Qi (mm_dyn G) out.2 out.1 (jx_A (mm_rg G) sz)) 0 0 (jx_A (mm_rg G) sz) := by
  unfold f_X6_act at h
  refine jx_met (by decide) (Nat.le_of_ble_eq_true rfl) ?_
  refine jx_sub (lv' := [(0, .ref (G.2 10)), (1, .int a1), (2, .int a2), (3, .int a3)]) [0, 1, 2, 3] rfl ?_
  refine jx_aload_n (pc := 0) (k0 := 0) rfl dX6_act_0 ?_
  refine jx_iconst (pc := 1) (v := (0 : Int32)) (by decide) dX6_act_1 ?_
  obtain ⟨σ1, eσ1, h⟩ := jx_lt_o h
  refine mm_p_ran (pc := 2) hG fl_X6_227 eσ1 dX6_act_2 ?_
  refine jx_aload_n (pc := 5) (k0 := 0) rfl dX6_act_5 ?_
  refine jx_iload_n (pc := 6) (k0 := 1) rfl dX6_act_6 ?_
  obtain ⟨q2, eq2, h⟩ := jx_bd_o h
  refine jx_callVi (pc := 7) [.int a1] (fun sz' => k_X6_isVoter l G hG sz' σ1 a1 q2 eq2) kv_X6_163 mm_jok mm_rc rfl rfl (Nat.le_of_ble_eq_true rfl) ⟨⟨rfl, rfl⟩, ⟨Nat.le_of_ble_eq_true rfl, Nat.le_of_ble_eq_true rfl⟩, Nat.zero_le _, Nat.zero_le _⟩ dX6_act_7 ?_
  refine jx_if_eq (pc := 10) (tgt := 22) dX6_act_10 (by decide) (fun c3 => ?_) (fun c3 => ?_)
  · have h := jx_t c3 h
    refine jx_iconst (pc := 22) (v := (0 : Int32)) (by decide) dX6_act_22 ?_
    cases h
    exact jx_iret (pc := 23) dX6_act_23
  · have h := jx_f c3 h
    refine jx_iload_n (pc := 13) (k0 := 2) rfl dX6_act_13 ?_
    refine jx_iconst (pc := 14) (v := (0 : Int32)) (by decide) dX6_act_14 ?_
    refine jx_iconst (pc := 15) (v := (2 : Int32)) (by decide) dX6_act_15 ?_
    obtain ⟨q4, eq4, h⟩ := jx_bd_o h
    refine jx_callSi (pc := 16) [.int a2, .int (0 : Int32), .int (2 : Int32)] (fun sz' => k_X6_in l G hG sz' σ1 a2 (0 : Int32) (2 : Int32) q4 eq4) ks_X6_48 mm_jok rfl rfl (Nat.le_of_ble_eq_true rfl) ⟨⟨rfl, rfl⟩, ⟨Nat.le_of_ble_eq_true rfl, Nat.le_of_ble_eq_true rfl⟩, Nat.zero_le _, Nat.zero_le _⟩ dX6_act_16 ?_
    refine jx_if_ne (pc := 19) (tgt := 24) dX6_act_19 (by decide) (fun c5 => ?_) (fun c5 => ?_)
    · have h := jx_f c5 h
      refine jx_aload_n (pc := 24) (k0 := 0) rfl dX6_act_24 ?_
      refine jx_aload_n (pc := 25) (k0 := 0) rfl dX6_act_25 ?_
      refine mm_g_s (pc := 26) fl_X6_9 dX6_act_26 ?_
      refine jx_bipush (pc := 29) (v := (31 : Int32)) (by decide) dX6_act_29 ?_
      refine jx_iload_n (pc := 31) (k0 := 1) rfl dX6_act_31 ?_
      refine jx_iadd (pc := 32) dX6_act_32 ?_
      obtain ⟨g6, h⟩ := jx_gd_o h
      refine mm_l_s (pc := 33) (jx_in_o g6) rfl dX6_act_33 ?_
      obtain ⟨σ7, eσ7, h⟩ := jx_lt_o h
      refine mm_p_kind (pc := 34) hG fl_X6_236 eσ7 dX6_act_34 ?_
      refine jx_aload_n (pc := 37) (k0 := 0) rfl dX6_act_37 ?_
      refine jx_iload_n (pc := 38) (k0 := 1) rfl dX6_act_38 ?_
      obtain ⟨σ8, eσ8, h⟩ := jx_lt_o h
      refine mm_p_number (pc := 39) hG fl_X6_233 eσ8 dX6_act_39 ?_
      refine jx_aload_n (pc := 42) (k0 := 0) rfl dX6_act_42 ?_
      refine jx_aload_n (pc := 43) (k0 := 0) rfl dX6_act_43 ?_
      refine mm_g_s (pc := 44) fl_X6_9 dX6_act_44 ?_
      refine jx_bipush (pc := 47) (v := (37 : Int32)) (by decide) dX6_act_47 ?_
      refine jx_iload_n (pc := 49) (k0 := 1) rfl dX6_act_49 ?_
      refine jx_iadd (pc := 50) dX6_act_50 ?_
      obtain ⟨g9, h⟩ := jx_gd_o h
      refine mm_l_s (pc := 51) (jx_in_o g9) rfl dX6_act_51 ?_
      obtain ⟨σ10, eσ10, h⟩ := jx_lt_o h
      refine mm_p_tellsV (pc := 52) hG fl_X6_249 eσ10 dX6_act_52 ?_
      refine jx_iload_n (pc := 55) (k0 := 2) rfl dX6_act_55 ?_
      refine jx_if_ne (pc := 56) (tgt := 67) dX6_act_56 (by decide) (fun c11 => ?_) (fun c11 => ?_)
      · have h := jx_f c11 h
        refine jx_iload_n (pc := 67) (k0 := 2) rfl dX6_act_67 ?_
        refine jx_iconst (pc := 68) (v := (1 : Int32)) (by decide) dX6_act_68 ?_
        refine jx_icmp_ne (pc := 69) (tgt := 80) dX6_act_69 (by decide) (fun c12 => ?_) (fun c12 => ?_)
        · have h := jx_f c12 h
          refine jx_aload_n (pc := 80) (k0 := 0) rfl dX6_act_80 ?_
          refine jx_iload_n (pc := 81) (k0 := 3) rfl dX6_act_81 ?_
          obtain ⟨q13, eq13, h⟩ := jx_bd_o h
          refine jx_callVi (pc := 82) [.int a3] (fun sz' => k_X6_tellsActs l G hG sz' σ10 a3 q13 eq13) kv_X6_261 mm_jok mm_rc rfl rfl (Nat.le_of_ble_eq_true rfl) ⟨⟨rfl, rfl⟩, ⟨Nat.le_of_ble_eq_true rfl, Nat.le_of_ble_eq_true rfl⟩, Nat.zero_le _, Nat.zero_le _⟩ dX6_act_82 ?_
          cases h
          exact jx_iret (pc := 85) dX6_act_85
        · have h := jx_t c12 h
          refine jx_aload_n (pc := 72) (k0 := 0) rfl dX6_act_72 ?_
          refine jx_iload_n (pc := 73) (k0 := 3) rfl dX6_act_73 ?_
          obtain ⟨q14, eq14, h⟩ := jx_bd_o h
          refine jx_callVi (pc := 74) [.int a3] (fun sz' => k_X6_burnsActs l G hG sz' σ10 a3 q14 eq14) kv_X6_255 mm_jok mm_rc rfl rfl (Nat.le_of_ble_eq_true rfl) ⟨⟨rfl, rfl⟩, ⟨Nat.le_of_ble_eq_true rfl, Nat.le_of_ble_eq_true rfl⟩, Nat.zero_le _, Nat.zero_le _⟩ dX6_act_74 ?_
          refine jx_goto (pc := 77) (tgt := 85) dX6_act_77 (by decide) ?_
          cases h
          exact jx_iret (pc := 85) dX6_act_85
      · have h := jx_t c11 h
        refine jx_aload_n (pc := 59) (k0 := 0) rfl dX6_act_59 ?_
        refine jx_iload_n (pc := 60) (k0 := 3) rfl dX6_act_60 ?_
        obtain ⟨q15, eq15, h⟩ := jx_bd_o h
        refine jx_callVi (pc := 61) [.int a3] (fun sz' => k_X6_setsActs l G hG sz' σ10 a3 q15 eq15) kv_X6_246 mm_jok mm_rc rfl rfl (Nat.le_of_ble_eq_true rfl) ⟨⟨rfl, rfl⟩, ⟨Nat.le_of_ble_eq_true rfl, Nat.le_of_ble_eq_true rfl⟩, Nat.zero_le _, Nat.zero_le _⟩ dX6_act_61 ?_
        refine jx_goto (pc := 64) (tgt := 85) dX6_act_64 (by decide) ?_
        cases h
        exact jx_iret (pc := 85) dX6_act_85
    · have h := jx_t c5 h
      refine jx_iconst (pc := 22) (v := (0 : Int32)) (by decide) dX6_act_22 ?_
      cases h
      exact jx_iret (pc := 23) dX6_act_23
