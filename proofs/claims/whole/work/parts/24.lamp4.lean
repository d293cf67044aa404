/-! the class's methods: a function on the memory each, and its contract -/
theorem dX5_voter_0 : decode cX5_voter 0 = .ok (.iload_n 1, 1) := by decide +kernel
theorem dX5_voter_1 : decode cX5_voter 1 = .ok (.iconst 0, 1) := by decide +kernel
theorem dX5_voter_2 : decode cX5_voter 2 = .ok (.bipush 6, 2) := by decide +kernel
theorem dX5_voter_4 : decode cX5_voter 4 = .ok (.invokestatic 48, 3) := by decide +kernel
theorem dX5_voter_7 : decode cX5_voter 7 = .ok (.ifCond .eq 14, 3) := by decide +kernel
theorem dX5_voter_10 : decode cX5_voter 10 = .ok (.aload_n 0, 1) := by decide +kernel
theorem dX5_voter_11 : decode cX5_voter 11 = .ok (.getfield 12, 3) := by decide +kernel
theorem dX5_voter_14 : decode cX5_voter 14 = .ok (.iload_n 3, 1) := by decide +kernel
theorem dX5_voter_15 : decode cX5_voter 15 = .ok (.invokevirtual 85, 3) := by decide +kernel
theorem dX5_voter_18 : decode cX5_voter 18 = .ok (.ifCond .ne 5, 3) := by decide +kernel
theorem dX5_voter_21 : decode cX5_voter 21 = .ok (.iconst (-1), 1) := by decide +kernel
theorem dX5_voter_22 : decode cX5_voter 22 = .ok (.ireturn, 1) := by decide +kernel
theorem dX5_voter_23 : decode cX5_voter 23 = .ok (.iload_n 2, 1) := by decide +kernel
theorem dX5_voter_24 : decode cX5_voter 24 = .ok (.iconst 0, 1) := by decide +kernel
theorem dX5_voter_25 : decode cX5_voter 25 = .ok (.bipush 9, 2) := by decide +kernel
theorem dX5_voter_27 : decode cX5_voter 27 = .ok (.invokestatic 48, 3) := by decide +kernel
theorem dX5_voter_30 : decode cX5_voter 30 = .ok (.ifCond .eq 24, 3) := by decide +kernel
theorem dX5_voter_33 : decode cX5_voter 33 = .ok (.iload 4, 2) := by decide +kernel
theorem dX5_voter_35 : decode cX5_voter 35 = .ok (.iconst 0, 1) := by decide +kernel
theorem dX5_voter_36 : decode cX5_voter 36 = .ok (.iconst 1, 1) := by decide +kernel
theorem dX5_voter_37 : decode cX5_voter 37 = .ok (.invokestatic 48, 3) := by decide +kernel
theorem dX5_voter_40 : decode cX5_voter 40 = .ok (.ifCond .eq 14, 3) := by decide +kernel
theorem dX5_voter_43 : decode cX5_voter 43 = .ok (.iload 5, 2) := by decide +kernel
theorem dX5_voter_45 : decode cX5_voter 45 = .ok (.iconst 0, 1) := by decide +kernel
theorem dX5_voter_46 : decode cX5_voter 46 = .ok (.bipush 12, 2) := by decide +kernel
theorem dX5_voter_48 : decode cX5_voter 48 = .ok (.invokestatic 48, 3) := by decide +kernel
theorem dX5_voter_51 : decode cX5_voter 51 = .ok (.ifCond .ne 6, 3) := by decide +kernel
theorem dX5_voter_54 : decode cX5_voter 54 = .ok (.bipush (-2), 2) := by decide +kernel
theorem dX5_voter_56 : decode cX5_voter 56 = .ok (.ireturn, 1) := by decide +kernel
theorem dX5_voter_57 : decode cX5_voter 57 = .ok (.aload_n 0, 1) := by decide +kernel
theorem dX5_voter_58 : decode cX5_voter 58 = .ok (.getfield 12, 3) := by decide +kernel
theorem dX5_voter_61 : decode cX5_voter 61 = .ok (.getfield 75, 3) := by decide +kernel
theorem dX5_voter_64 : decode cX5_voter 64 = .ok (.bipush 6, 2) := by decide +kernel
theorem dX5_voter_66 : decode cX5_voter 66 = .ok (.if_icmp .lt 6, 3) := by decide +kernel
theorem dX5_voter_69 : decode cX5_voter 69 = .ok (.bipush (-4), 2) := by decide +kernel
theorem dX5_voter_71 : decode cX5_voter 71 = .ok (.ireturn, 1) := by decide +kernel
theorem dX5_voter_72 : decode cX5_voter 72 = .ok (.aload_n 0, 1) := by decide +kernel
theorem dX5_voter_73 : decode cX5_voter 73 = .ok (.getfield 12, 3) := by decide +kernel
theorem dX5_voter_76 : decode cX5_voter 76 = .ok (.getfield 110, 3) := by decide +kernel
theorem dX5_voter_79 : decode cX5_voter 79 = .ok (.aload_n 0, 1) := by decide +kernel
theorem dX5_voter_80 : decode cX5_voter 80 = .ok (.getfield 12, 3) := by decide +kernel
theorem dX5_voter_83 : decode cX5_voter 83 = .ok (.getfield 75, 3) := by decide +kernel
theorem dX5_voter_86 : decode cX5_voter 86 = .ok (.aaload, 1) := by decide +kernel
theorem dX5_voter_87 : decode cX5_voter 87 = .ok (.astore 6, 2) := by decide +kernel
theorem dX5_voter_89 : decode cX5_voter 89 = .ok (.aload 6, 2) := by decide +kernel
theorem dX5_voter_91 : decode cX5_voter 91 = .ok (.iconst 0, 1) := by decide +kernel
theorem dX5_voter_92 : decode cX5_voter 92 = .ok (.invokestatic 113, 3) := by decide +kernel
theorem dX5_voter_95 : decode cX5_voter 95 = .ok (.aload 6, 2) := by decide +kernel
theorem dX5_voter_97 : decode cX5_voter 97 = .ok (.iconst 0, 1) := by decide +kernel
theorem dX5_voter_98 : decode cX5_voter 98 = .ok (.iload_n 1, 1) := by decide +kernel
theorem dX5_voter_99 : decode cX5_voter 99 = .ok (.iastore, 1) := by decide +kernel
theorem dX5_voter_100 : decode cX5_voter 100 = .ok (.aload 6, 2) := by decide +kernel
theorem dX5_voter_102 : decode cX5_voter 102 = .ok (.iconst 1, 1) := by decide +kernel
theorem dX5_voter_103 : decode cX5_voter 103 = .ok (.iload_n 2, 1) := by decide +kernel
theorem dX5_voter_104 : decode cX5_voter 104 = .ok (.iastore, 1) := by decide +kernel
theorem dX5_voter_105 : decode cX5_voter 105 = .ok (.aload 6, 2) := by decide +kernel
theorem dX5_voter_107 : decode cX5_voter 107 = .ok (.iconst 2, 1) := by decide +kernel
theorem dX5_voter_108 : decode cX5_voter 108 = .ok (.iload_n 3, 1) := by decide +kernel
theorem dX5_voter_109 : decode cX5_voter 109 = .ok (.iastore, 1) := by decide +kernel
theorem dX5_voter_110 : decode cX5_voter 110 = .ok (.aload 6, 2) := by decide +kernel
theorem dX5_voter_112 : decode cX5_voter 112 = .ok (.iconst 3, 1) := by decide +kernel
theorem dX5_voter_113 : decode cX5_voter 113 = .ok (.iload 4, 2) := by decide +kernel
theorem dX5_voter_115 : decode cX5_voter 115 = .ok (.iastore, 1) := by decide +kernel
theorem dX5_voter_116 : decode cX5_voter 116 = .ok (.aload 6, 2) := by decide +kernel
theorem dX5_voter_118 : decode cX5_voter 118 = .ok (.iconst 4, 1) := by decide +kernel
theorem dX5_voter_119 : decode cX5_voter 119 = .ok (.iload 5, 2) := by decide +kernel
theorem dX5_voter_121 : decode cX5_voter 121 = .ok (.iastore, 1) := by decide +kernel
theorem dX5_voter_122 : decode cX5_voter 122 = .ok (.aload_n 0, 1) := by decide +kernel
theorem dX5_voter_123 : decode cX5_voter 123 = .ok (.getfield 12, 3) := by decide +kernel
theorem dX5_voter_126 : decode cX5_voter 126 = .ok (.dup, 1) := by decide +kernel
theorem dX5_voter_127 : decode cX5_voter 127 = .ok (.getfield 75, 3) := by decide +kernel
theorem dX5_voter_130 : decode cX5_voter 130 = .ok (.iconst 1, 1) := by decide +kernel
theorem dX5_voter_131 : decode cX5_voter 131 = .ok (.iadd, 1) := by decide +kernel
theorem dX5_voter_132 : decode cX5_voter 132 = .ok (.putfield 75, 3) := by decide +kernel
theorem dX5_voter_135 : decode cX5_voter 135 = .ok (.aload_n 0, 1) := by decide +kernel
theorem dX5_voter_136 : decode cX5_voter 136 = .ok (.getfield 12, 3) := by decide +kernel
theorem dX5_voter_139 : decode cX5_voter 139 = .ok (.getfield 75, 3) := by decide +kernel
theorem dX5_voter_142 : decode cX5_voter 142 = .ok (.iconst 1, 1) := by decide +kernel
theorem dX5_voter_143 : decode cX5_voter 143 = .ok (.isub, 1) := by decide +kernel
theorem dX5_voter_144 : decode cX5_voter 144 = .ok (.ireturn, 1) := by decide +kernel
abbrev rm_X5_voter : Room := { frames := 1, cells := 0, slots := 0, locals := 23 }
abbrev jJ_X5_voter (l : Launch) (G : jx_G) (t : jx_T) (sz : Nat) (out : (Int32 × jx_M)) (pc : Nat) (lv : List (Nat × Value)) (st : List Value) (σ : jx_M) : Prop := jx_J l (ll_env G t) (ll_dyn G t) (ll_rg G) sz RX5 "voter" cX5_voter 7 (some .int) rm_X5_voter (fun below args s => MQ below (jx_Qi (ll_dyn G t) out.2 out.1 (jx_A (ll_rg G) sz)) args s 0 0 (jx_A (ll_rg G) sz)) 0 0 pc lv st σ
def f_X5_voter (t : jx_T) (σ : jx_M) (a1 : Int32) (a2 : Int32) (a3 : Int32) (a4 : Int32) (a5 : Int32) : Option (Int32 × jx_M) :=
  jx_bd (f_X5_within a1 (0 : Int32) (6 : Int32)) (fun q1 => if q1 = 0 then some ((-1 : Int32), σ) else jx_bd (f_X1_hasPlace t σ a3) (fun q3 => if q3 = 0 then some ((-1 : Int32), σ) else jx_bd (f_X5_within a2 (0 : Int32) (9 : Int32)) (fun q5 => if q5 = 0 then some ((-2 : Int32), σ) else jx_bd (f_X5_within a4 (0 : Int32) (1 : Int32)) (fun q7 => if q7 = 0 then some ((-2 : Int32), σ) else jx_bd (f_X5_within a5 (0 : Int32) (12 : Int32)) (fun q9 => if q9 = 0 then some ((-2 : Int32), σ) else if (σ 0 2) < (6 : Int32) then jx_gd (jx_in (σ 0 2) 6) (jx_bd (f_J7_fill_53178 t σ (8 + (σ 0 2).toNatClampNeg) (0 : Int32)) (fun q13 => jx_gd (jx_in (0 : Int32) (ll_len (8 + (σ 0 2).toNatClampNeg))) (jx_lt (jx_mu q13 (8 + (σ 0 2).toNatClampNeg) 0 a1) (fun σ15 => jx_gd (jx_in (1 : Int32) (ll_len (8 + (σ 0 2).toNatClampNeg))) (jx_lt (jx_mu σ15 (8 + (σ 0 2).toNatClampNeg) 1 a2) (fun σ17 => jx_gd (jx_in (2 : Int32) (ll_len (8 + (σ 0 2).toNatClampNeg))) (jx_lt (jx_mu σ17 (8 + (σ 0 2).toNatClampNeg) 2 a3) (fun σ19 => jx_gd (jx_in (3 : Int32) (ll_len (8 + (σ 0 2).toNatClampNeg))) (jx_lt (jx_mu σ19 (8 + (σ 0 2).toNatClampNeg) 3 a4) (fun σ21 => jx_gd (jx_in (4 : Int32) (ll_len (8 + (σ 0 2).toNatClampNeg))) (jx_lt (jx_mu σ21 (8 + (σ 0 2).toNatClampNeg) 4 a5) (fun σ23 => jx_lt (jx_mu σ23 0 2 ((σ23 0 2) + (1 : Int32))) (fun σ24 => some (((σ24 0 2) - (1 : Int32)), σ24)))))))))))))) else some ((-4 : Int32), σ))))))
set_option maxHeartbeats 4000000 in
set_option maxRecDepth 100000 in
theorem k_X5_voter (l : Launch) (G : jx_G) (t : jx_T) (hG : ll_ok G) (sz : Nat) (σ : jx_M) (a1 : Int32) (a2 : Int32) (a3 : Int32) (a4 : Int32) (a5 : Int32) (out : (Int32 × jx_M)) (h : f_X5_voter t σ a1 a2 a3 a4 a5 = some out) : Met l yX5_voter (Cond.code yX5_voter cX5_voter 7 (some .int) :: jx_ws) rm_X5_voter (jx_Pc (ll_env G t) (ll_dyn G t) (ll_rg G) sz σ [.ref (G.2 20), .int a1, .int a2, .int a3, .int a4, .int a5]) (jx_Qi (ll_dyn G t) out.2 out.1 (jx_A (ll_rg G) sz)) 0 0 (jx_A (ll_rg G) sz) := by
  unfold f_X5_voter at h
  refine jx_met (by decide) (Nat.le_of_ble_eq_true rfl) ?_
  refine jx_sub (lv' := [(0, .ref (G.2 20)), (1, .int a1), (2, .int a2), (3, .int a3), (4, .int a4), (5, .int a5)]) [0, 1, 2, 3, 4, 5] rfl ?_
  refine jx_iload_n (pc := 0) (k0 := 1) rfl dX5_voter_0 ?_
  refine jx_iconst (pc := 1) (v := (0 : Int32)) (by decide) dX5_voter_1 ?_
  refine jx_bipush (pc := 2) (v := (6 : Int32)) (by decide) dX5_voter_2 ?_
  obtain ⟨q1, eq1, h⟩ := jx_bd_o h
  refine jx_callSi (pc := 4) [.int a1, .int (0 : Int32), .int (6 : Int32)] (fun sz' => k_X5_within l G t hG sz' σ a1 (0 : Int32) (6 : Int32) q1 eq1) ks_X5_48 ll_jok rfl rfl (Nat.le_of_ble_eq_true rfl) ⟨⟨rfl, rfl⟩, ⟨Nat.le_of_ble_eq_true rfl, Nat.le_of_ble_eq_true rfl⟩, Nat.zero_le _, Nat.zero_le _⟩ dX5_voter_4 ?_
  refine jx_if_eq (pc := 7) (tgt := 21) dX5_voter_7 (by decide) (fun c2 => ?_) (fun c2 => ?_)
  · have h := jx_t c2 h
    refine jx_iconst (pc := 21) (v := (-1 : Int32)) (by decide) dX5_voter_21 ?_
    have h := Option.some.inj h
    subst h
    exact jx_iret (pc := 22) dX5_voter_22
  · have h := jx_f c2 h
    refine jx_aload_n (pc := 10) (k0 := 0) rfl dX5_voter_10 ?_
    refine ll_glamp_now (pc := 11) fl_X5_12 dX5_voter_11 ?_
    refine jx_iload_n (pc := 14) (k0 := 3) rfl dX5_voter_14 ?_
    obtain ⟨q3, eq3, h⟩ := jx_bd_o h
    refine jx_callVi (pc := 15) [.int a3] (fun sz' => k_X1_hasPlace l G t hG sz' σ a3 q3 eq3) kv_X5_85 ll_jok ll_rcnow rfl rfl (Nat.le_of_ble_eq_true rfl) ⟨⟨rfl, rfl⟩, ⟨Nat.le_of_ble_eq_true rfl, Nat.le_of_ble_eq_true rfl⟩, Nat.zero_le _, Nat.zero_le _⟩ dX5_voter_15 ?_
    refine jx_if_ne (pc := 18) (tgt := 23) dX5_voter_18 (by decide) (fun c4 => ?_) (fun c4 => ?_)
    · have h := jx_f c4 h
      refine jx_iload_n (pc := 23) (k0 := 2) rfl dX5_voter_23 ?_
      refine jx_iconst (pc := 24) (v := (0 : Int32)) (by decide) dX5_voter_24 ?_
      refine jx_bipush (pc := 25) (v := (9 : Int32)) (by decide) dX5_voter_25 ?_
      obtain ⟨q5, eq5, h⟩ := jx_bd_o h
      refine jx_callSi (pc := 27) [.int a2, .int (0 : Int32), .int (9 : Int32)] (fun sz' => k_X5_within l G t hG sz' σ a2 (0 : Int32) (9 : Int32) q5 eq5) ks_X5_48 ll_jok rfl rfl (Nat.le_of_ble_eq_true rfl) ⟨⟨rfl, rfl⟩, ⟨Nat.le_of_ble_eq_true rfl, Nat.le_of_ble_eq_true rfl⟩, Nat.zero_le _, Nat.zero_le _⟩ dX5_voter_27 ?_
      refine jx_if_eq (pc := 30) (tgt := 54) dX5_voter_30 (by decide) (fun c6 => ?_) (fun c6 => ?_)
      · have h := jx_t c6 h
        refine jx_bipush (pc := 54) (v := (-2 : Int32)) (by decide) dX5_voter_54 ?_
        have h := Option.some.inj h
        subst h
        exact jx_iret (pc := 56) dX5_voter_56
      · have h := jx_f c6 h
        refine jx_iload (pc := 33) (i := 4) rfl dX5_voter_33 ?_
        refine jx_iconst (pc := 35) (v := (0 : Int32)) (by decide) dX5_voter_35 ?_
        refine jx_iconst (pc := 36) (v := (1 : Int32)) (by decide) dX5_voter_36 ?_
        obtain ⟨q7, eq7, h⟩ := jx_bd_o h
        refine jx_callSi (pc := 37) [.int a4, .int (0 : Int32), .int (1 : Int32)] (fun sz' => k_X5_within l G t hG sz' σ a4 (0 : Int32) (1 : Int32) q7 eq7) ks_X5_48 ll_jok rfl rfl (Nat.le_of_ble_eq_true rfl) ⟨⟨rfl, rfl⟩, ⟨Nat.le_of_ble_eq_true rfl, Nat.le_of_ble_eq_true rfl⟩, Nat.zero_le _, Nat.zero_le _⟩ dX5_voter_37 ?_
        refine jx_if_eq (pc := 40) (tgt := 54) dX5_voter_40 (by decide) (fun c8 => ?_) (fun c8 => ?_)
        · have h := jx_t c8 h
          refine jx_bipush (pc := 54) (v := (-2 : Int32)) (by decide) dX5_voter_54 ?_
          have h := Option.some.inj h
          subst h
          exact jx_iret (pc := 56) dX5_voter_56
        · have h := jx_f c8 h
          refine jx_iload (pc := 43) (i := 5) rfl dX5_voter_43 ?_
          refine jx_iconst (pc := 45) (v := (0 : Int32)) (by decide) dX5_voter_45 ?_
          refine jx_bipush (pc := 46) (v := (12 : Int32)) (by decide) dX5_voter_46 ?_
          obtain ⟨q9, eq9, h⟩ := jx_bd_o h
          refine jx_callSi (pc := 48) [.int a5, .int (0 : Int32), .int (12 : Int32)] (fun sz' => k_X5_within l G t hG sz' σ a5 (0 : Int32) (12 : Int32) q9 eq9) ks_X5_48 ll_jok rfl rfl (Nat.le_of_ble_eq_true rfl) ⟨⟨rfl, rfl⟩, ⟨Nat.le_of_ble_eq_true rfl, Nat.le_of_ble_eq_true rfl⟩, Nat.zero_le _, Nat.zero_le _⟩ dX5_voter_48 ?_
          refine jx_if_ne (pc := 51) (tgt := 57) dX5_voter_51 (by decide) (fun c10 => ?_) (fun c10 => ?_)
          · have h := jx_f c10 h
            refine jx_aload_n (pc := 57) (k0 := 0) rfl dX5_voter_57 ?_
            refine ll_glamp_now (pc := 58) fl_X5_12 dX5_voter_58 ?_
            refine ll_gnow_voters (pc := 61) fl_X5_75 dX5_voter_61 ?_
            refine jx_bipush (pc := 64) (v := (6 : Int32)) (by decide) dX5_voter_64 ?_
            refine jx_icmp_lt (pc := 66) (tgt := 72) dX5_voter_66 (by decide) (fun c11 => ?_) (fun c11 => ?_)
            · have h := jx_t c11 h
              refine jx_aload_n (pc := 72) (k0 := 0) rfl dX5_voter_72 ?_
              refine ll_glamp_now (pc := 73) fl_X5_12 dX5_voter_73 ?_
              refine ll_gnow_voter (pc := 76) fl_X5_110 dX5_voter_76 ?_
              refine jx_aload_n (pc := 79) (k0 := 0) rfl dX5_voter_79 ?_
              refine ll_glamp_now (pc := 80) fl_X5_12 dX5_voter_80 ?_
              refine ll_gnow_voters (pc := 83) fl_X5_75 dX5_voter_83 ?_
              obtain ⟨g12, h⟩ := jx_gd_o h
              refine ll_a_now_voter (pc := 86) (jx_in_o g12) dX5_voter_86 ?_
              refine jx_astore (pc := 87) (i := 6) rfl (by decide) (lv' := [(6, .ref (G.2 (100 + (8 + (σ 0 2).toNatClampNeg)))), (0, .ref (G.2 20)), (1, .int a1), (2, .int a2), (3, .int a3), (4, .int a4), (5, .int a5)]) rfl dX5_voter_87 ?_
              refine jx_aload (pc := 89) (i := 6) rfl dX5_voter_89 ?_
              refine jx_iconst (pc := 91) (v := (0 : Int32)) (by decide) dX5_voter_91 ?_
              obtain ⟨q13, eq13, h⟩ := jx_bd_o h
              refine jx_callSv (pc := 92) [.ref (G.2 (100 + (8 + (σ 0 2).toNatClampNeg))), .int (0 : Int32)] (fun sz' => k_J7_fill_53178 l G t hG sz' σ (8 + (σ 0 2).toNatClampNeg) (0 : Int32) q13 eq13) ks_X5_113 ll_jok rfl rfl (Nat.le_of_ble_eq_true rfl) ⟨⟨rfl, rfl⟩, ⟨Nat.le_of_ble_eq_true rfl, Nat.le_of_ble_eq_true rfl⟩, Nat.zero_le _, Nat.zero_le _⟩ dX5_voter_92 ?_
              refine jx_aload (pc := 95) (i := 6) rfl dX5_voter_95 ?_
              refine jx_iconst (pc := 97) (v := (0 : Int32)) (by decide) dX5_voter_97 ?_
              refine jx_iload_n (pc := 98) (k0 := 1) rfl dX5_voter_98 ?_
              obtain ⟨g14, h⟩ := jx_gd_o h
              obtain ⟨σ15, eσ15, h⟩ := jx_lt_o h
              refine ll_s (pc := 99) (k := (8 + (σ 0 2).toNatClampNeg)) hG (jx_in_o g14) (by decide) eσ15 dX5_voter_99 ?_
              refine jx_aload (pc := 100) (i := 6) rfl dX5_voter_100 ?_
              refine jx_iconst (pc := 102) (v := (1 : Int32)) (by decide) dX5_voter_102 ?_
              refine jx_iload_n (pc := 103) (k0 := 2) rfl dX5_voter_103 ?_
              obtain ⟨g16, h⟩ := jx_gd_o h
              obtain ⟨σ17, eσ17, h⟩ := jx_lt_o h
              refine ll_s (pc := 104) (k := (8 + (σ 0 2).toNatClampNeg)) hG (jx_in_o g16) (by decide) eσ17 dX5_voter_104 ?_
              refine jx_aload (pc := 105) (i := 6) rfl dX5_voter_105 ?_
              refine jx_iconst (pc := 107) (v := (2 : Int32)) (by decide) dX5_voter_107 ?_
              refine jx_iload_n (pc := 108) (k0 := 3) rfl dX5_voter_108 ?_
              obtain ⟨g18, h⟩ := jx_gd_o h
              obtain ⟨σ19, eσ19, h⟩ := jx_lt_o h
              refine ll_s (pc := 109) (k := (8 + (σ 0 2).toNatClampNeg)) hG (jx_in_o g18) (by decide) eσ19 dX5_voter_109 ?_
              refine jx_aload (pc := 110) (i := 6) rfl dX5_voter_110 ?_
              refine jx_iconst (pc := 112) (v := (3 : Int32)) (by decide) dX5_voter_112 ?_
              refine jx_iload (pc := 113) (i := 4) rfl dX5_voter_113 ?_
              obtain ⟨g20, h⟩ := jx_gd_o h
              obtain ⟨σ21, eσ21, h⟩ := jx_lt_o h
              refine ll_s (pc := 115) (k := (8 + (σ 0 2).toNatClampNeg)) hG (jx_in_o g20) (by decide) eσ21 dX5_voter_115 ?_
              refine jx_aload (pc := 116) (i := 6) rfl dX5_voter_116 ?_
              refine jx_iconst (pc := 118) (v := (4 : Int32)) (by decide) dX5_voter_118 ?_
              refine jx_iload (pc := 119) (i := 5) rfl dX5_voter_119 ?_
              obtain ⟨g22, h⟩ := jx_gd_o h
              obtain ⟨σ23, eσ23, h⟩ := jx_lt_o h
              refine ll_s (pc := 121) (k := (8 + (σ 0 2).toNatClampNeg)) hG (jx_in_o g22) (by decide) eσ23 dX5_voter_121 ?_
              refine jx_aload_n (pc := 122) (k0 := 0) rfl dX5_voter_122 ?_
              refine ll_glamp_now (pc := 123) fl_X5_12 dX5_voter_123 ?_
              refine jx_dup (pc := 126) rfl dX5_voter_126 ?_
              refine ll_gnow_voters (pc := 127) fl_X5_75 dX5_voter_127 ?_
              refine jx_iconst (pc := 130) (v := (1 : Int32)) (by decide) dX5_voter_130 ?_
              refine jx_iadd (pc := 131) dX5_voter_131 ?_
              obtain ⟨σ24, eσ24, h⟩ := jx_lt_o h
              refine ll_pnow_voters (pc := 132) hG fl_X5_75 eσ24 dX5_voter_132 ?_
              refine jx_aload_n (pc := 135) (k0 := 0) rfl dX5_voter_135 ?_
              refine ll_glamp_now (pc := 136) fl_X5_12 dX5_voter_136 ?_
              refine ll_gnow_voters (pc := 139) fl_X5_75 dX5_voter_139 ?_
              refine jx_iconst (pc := 142) (v := (1 : Int32)) (by decide) dX5_voter_142 ?_
              refine jx_isub (pc := 143) dX5_voter_143 ?_
              have h := Option.some.inj h
              subst h
              exact jx_iret (pc := 144) dX5_voter_144
            · have h := jx_f c11 h
              refine jx_bipush (pc := 69) (v := (-4 : Int32)) (by decide) dX5_voter_69 ?_
              have h := Option.some.inj h
              subst h
              exact jx_iret (pc := 71) dX5_voter_71
          · have h := jx_t c10 h
            refine jx_bipush (pc := 54) (v := (-2 : Int32)) (by decide) dX5_voter_54 ?_
            have h := Option.some.inj h
            subst h
            exact jx_iret (pc := 56) dX5_voter_56
    · have h := jx_t c4 h
      refine jx_iconst (pc := 21) (v := (-1 : Int32)) (by decide) dX5_voter_21 ?_
      have h := Option.some.inj h
      subst h
      exact jx_iret (pc := 22) dX5_voter_22
theorem dX5_wish_0 : decode cX5_wish 0 = .ok (.aload_n 0, 1) := by decide +kernel
theorem dX5_wish_1 : decode cX5_wish 1 = .ok (.getfield 12, 3) := by decide +kernel
theorem dX5_wish_4 : decode cX5_wish 4 = .ok (.iload_n 1, 1) := by decide +kernel
theorem dX5_wish_5 : decode cX5_wish 5 = .ok (.invokevirtual 119, 3) := by decide +kernel
theorem dX5_wish_8 : decode cX5_wish 8 = .ok (.ifCond .ne 5, 3) := by decide +kernel
theorem dX5_wish_11 : decode cX5_wish 11 = .ok (.iconst (-1), 1) := by decide +kernel
theorem dX5_wish_12 : decode cX5_wish 12 = .ok (.ireturn, 1) := by decide +kernel
theorem dX5_wish_13 : decode cX5_wish 13 = .ok (.iload_n 2, 1) := by decide +kernel
theorem dX5_wish_14 : decode cX5_wish 14 = .ok (.iconst 0, 1) := by decide +kernel
theorem dX5_wish_15 : decode cX5_wish 15 = .ok (.iconst 1, 1) := by decide +kernel
theorem dX5_wish_16 : decode cX5_wish 16 = .ok (.invokestatic 48, 3) := by decide +kernel
theorem dX5_wish_19 : decode cX5_wish 19 = .ok (.ifCond .ne 6, 3) := by decide +kernel
theorem dX5_wish_22 : decode cX5_wish 22 = .ok (.bipush (-2), 2) := by decide +kernel
theorem dX5_wish_24 : decode cX5_wish 24 = .ok (.ireturn, 1) := by decide +kernel
theorem dX5_wish_25 : decode cX5_wish 25 = .ok (.aload_n 0, 1) := by decide +kernel
theorem dX5_wish_26 : decode cX5_wish 26 = .ok (.getfield 12, 3) := by decide +kernel
theorem dX5_wish_29 : decode cX5_wish 29 = .ok (.getfield 110, 3) := by decide +kernel
theorem dX5_wish_32 : decode cX5_wish 32 = .ok (.iload_n 1, 1) := by decide +kernel
theorem dX5_wish_33 : decode cX5_wish 33 = .ok (.aaload, 1) := by decide +kernel
theorem dX5_wish_34 : decode cX5_wish 34 = .ok (.iconst 3, 1) := by decide +kernel
theorem dX5_wish_35 : decode cX5_wish 35 = .ok (.iaload, 1) := by decide +kernel
theorem dX5_wish_36 : decode cX5_wish 36 = .ok (.istore_n 3, 1) := by decide +kernel
theorem dX5_wish_37 : decode cX5_wish 37 = .ok (.aload_n 0, 1) := by decide +kernel
theorem dX5_wish_38 : decode cX5_wish 38 = .ok (.getfield 12, 3) := by decide +kernel
theorem dX5_wish_41 : decode cX5_wish 41 = .ok (.getfield 110, 3) := by decide +kernel
theorem dX5_wish_44 : decode cX5_wish 44 = .ok (.iload_n 1, 1) := by decide +kernel
theorem dX5_wish_45 : decode cX5_wish 45 = .ok (.aaload, 1) := by decide +kernel
theorem dX5_wish_46 : decode cX5_wish 46 = .ok (.iconst 3, 1) := by decide +kernel
theorem dX5_wish_47 : decode cX5_wish 47 = .ok (.iload_n 2, 1) := by decide +kernel
theorem dX5_wish_48 : decode cX5_wish 48 = .ok (.iastore, 1) := by decide +kernel
theorem dX5_wish_49 : decode cX5_wish 49 = .ok (.iload_n 3, 1) := by decide +kernel
theorem dX5_wish_50 : decode cX5_wish 50 = .ok (.ireturn, 1) := by decide +kernel
abbrev rm_X5_wish : Room := { frames := 1, cells := 0, slots := 0, locals := 22 }
abbrev jJ_X5_wish (l : Launch) (G : jx_G) (t : jx_T) (sz : Nat) (out : (Int32 × jx_M)) (pc : Nat) (lv : List (Nat × Value)) (st : List Value) (σ : jx_M) : Prop := jx_J l (ll_env G t) (ll_dyn G t) (ll_rg G) sz RX5 "wish" cX5_wish 4 (some .int) rm_X5_wish (fun below args s => MQ below (jx_Qi (ll_dyn G t) out.2 out.1 (jx_A (ll_rg G) sz)) args s 0 0 (jx_A (ll_rg G) sz)) 0 0 pc lv st σ
def f_X5_wish (t : jx_T) (σ : jx_M) (a1 : Int32) (a2 : Int32) : Option (Int32 × jx_M) :=
  jx_bd (f_X1_hasVoter t σ a1) (fun q1 => if q1 = 0 then some ((-1 : Int32), σ) else jx_bd (f_X5_within a2 (0 : Int32) (1 : Int32)) (fun q3 => if q3 = 0 then some ((-2 : Int32), σ) else jx_gd (jx_in a1 6) (jx_gd (jx_in (3 : Int32) (ll_len (8 + a1.toNatClampNeg))) (jx_lt ((σ (8 + a1.toNatClampNeg) 3)) (fun x7 => jx_gd (jx_in a1 6) (jx_gd (jx_in (3 : Int32) (ll_len (8 + a1.toNatClampNeg))) (jx_lt (jx_mu σ (8 + a1.toNatClampNeg) 3 a2) (fun σ10 => some (x7, σ10)))))))))
set_option maxHeartbeats 4000000 in
set_option maxRecDepth 100000 in
theorem k_X5_wish (l : Launch) (G : jx_G) (t : jx_T) (hG : ll_ok G) (sz : Nat) (σ : jx_M) (a1 : Int32) (a2 : Int32) (out : (Int32 × jx_M)) (h : f_X5_wish t σ a1 a2 = some out) : Met l yX5_wish (Cond.code yX5_wish cX5_wish 4 (some .int) :: jx_ws) rm_X5_wish (jx_Pc (ll_env G t) (ll_dyn G t) (ll_rg G) sz σ [.ref (G.2 20), .int a1, .int a2]) (jx_Qi (ll_dyn G t) out.2 out.1 (jx_A (ll_rg G) sz)) 0 0 (jx_A (ll_rg G) sz) := by
  unfold f_X5_wish at h
  refine jx_met (by decide) (Nat.le_of_ble_eq_true rfl) ?_
  refine jx_sub (lv' := [(0, .ref (G.2 20)), (1, .int a1), (2, .int a2)]) [0, 1, 2] rfl ?_
  refine jx_aload_n (pc := 0) (k0 := 0) rfl dX5_wish_0 ?_
  refine ll_glamp_now (pc := 1) fl_X5_12 dX5_wish_1 ?_
  refine jx_iload_n (pc := 4) (k0 := 1) rfl dX5_wish_4 ?_
  obtain ⟨q1, eq1, h⟩ := jx_bd_o h
  refine jx_callVi (pc := 5) [.int a1] (fun sz' => k_X1_hasVoter l G t hG sz' σ a1 q1 eq1) kv_X5_119 ll_jok ll_rcnow rfl rfl (Nat.le_of_ble_eq_true rfl) ⟨⟨rfl, rfl⟩, ⟨Nat.le_of_ble_eq_true rfl, Nat.le_of_ble_eq_true rfl⟩, Nat.zero_le _, Nat.zero_le _⟩ dX5_wish_5 ?_
  refine jx_if_ne (pc := 8) (tgt := 13) dX5_wish_8 (by decide) (fun c2 => ?_) (fun c2 => ?_)
  · have h := jx_f c2 h
    refine jx_iload_n (pc := 13) (k0 := 2) rfl dX5_wish_13 ?_
    refine jx_iconst (pc := 14) (v := (0 : Int32)) (by decide) dX5_wish_14 ?_
    refine jx_iconst (pc := 15) (v := (1 : Int32)) (by decide) dX5_wish_15 ?_
    obtain ⟨q3, eq3, h⟩ := jx_bd_o h
    refine jx_callSi (pc := 16) [.int a2, .int (0 : Int32), .int (1 : Int32)] (fun sz' => k_X5_within l G t hG sz' σ a2 (0 : Int32) (1 : Int32) q3 eq3) ks_X5_48 ll_jok rfl rfl (Nat.le_of_ble_eq_true rfl) ⟨⟨rfl, rfl⟩, ⟨Nat.le_of_ble_eq_true rfl, Nat.le_of_ble_eq_true rfl⟩, Nat.zero_le _, Nat.zero_le _⟩ dX5_wish_16 ?_
    refine jx_if_ne (pc := 19) (tgt := 25) dX5_wish_19 (by decide) (fun c4 => ?_) (fun c4 => ?_)
    · have h := jx_f c4 h
      refine jx_aload_n (pc := 25) (k0 := 0) rfl dX5_wish_25 ?_
      refine ll_glamp_now (pc := 26) fl_X5_12 dX5_wish_26 ?_
      refine ll_gnow_voter (pc := 29) fl_X5_110 dX5_wish_29 ?_
      refine jx_iload_n (pc := 32) (k0 := 1) rfl dX5_wish_32 ?_
      obtain ⟨g5, h⟩ := jx_gd_o h
      refine ll_a_now_voter (pc := 33) (jx_in_o g5) dX5_wish_33 ?_
      refine jx_iconst (pc := 34) (v := (3 : Int32)) (by decide) dX5_wish_34 ?_
      obtain ⟨g6, h⟩ := jx_gd_o h
      refine ll_l (pc := 35) (k := (8 + a1.toNatClampNeg)) (j := 3) (jx_in_o g6) (by decide) dX5_wish_35 ?_
      obtain ⟨x7, ex7, h⟩ := jx_lt_o h
      refine jx_istore_n (pc := 36) (i := 3) rfl ex7 (by decide) (lv' := [(3, .int x7), (0, .ref (G.2 20)), (1, .int a1), (2, .int a2)]) rfl dX5_wish_36 ?_
      refine jx_aload_n (pc := 37) (k0 := 0) rfl dX5_wish_37 ?_
      refine ll_glamp_now (pc := 38) fl_X5_12 dX5_wish_38 ?_
      refine ll_gnow_voter (pc := 41) fl_X5_110 dX5_wish_41 ?_
      refine jx_iload_n (pc := 44) (k0 := 1) rfl dX5_wish_44 ?_
      obtain ⟨g8, h⟩ := jx_gd_o h
      refine ll_a_now_voter (pc := 45) (jx_in_o g8) dX5_wish_45 ?_
      refine jx_iconst (pc := 46) (v := (3 : Int32)) (by decide) dX5_wish_46 ?_
      refine jx_iload_n (pc := 47) (k0 := 2) rfl dX5_wish_47 ?_
      obtain ⟨g9, h⟩ := jx_gd_o h
      obtain ⟨σ10, eσ10, h⟩ := jx_lt_o h
      refine ll_s (pc := 48) (k := (8 + a1.toNatClampNeg)) hG (jx_in_o g9) (by decide) eσ10 dX5_wish_48 ?_
      refine jx_iload_n (pc := 49) (k0 := 3) rfl dX5_wish_49 ?_
      have h := Option.some.inj h
      subst h
      exact jx_iret (pc := 50) dX5_wish_50
    · have h := jx_t c4 h
      refine jx_bipush (pc := 22) (v := (-2 : Int32)) (by decide) dX5_wish_22 ?_
      have h := Option.some.inj h
      subst h
      exact jx_iret (pc := 24) dX5_wish_24
  · have h := jx_t c2 h
    refine jx_iconst (pc := 11) (v := (-1 : Int32)) (by decide) dX5_wish_11 ?_
    have h := Option.some.inj h
    subst h
    exact jx_iret (pc := 12) dX5_wish_12
theorem dX5_row_0 : decode cX5_row 0 = .ok (.aload_n 0, 1) := by decide +kernel
theorem dX5_row_1 : decode cX5_row 1 = .ok (.getfield 12, 3) := by decide +kernel
theorem dX5_row_4 : decode cX5_row 4 = .ok (.iload_n 1, 1) := by decide +kernel
theorem dX5_row_5 : decode cX5_row 5 = .ok (.invokevirtual 119, 3) := by decide +kernel
theorem dX5_row_8 : decode cX5_row 8 = .ok (.ifCond .eq 23, 3) := by decide +kernel
theorem dX5_row_11 : decode cX5_row 11 = .ok (.iload_n 2, 1) := by decide +kernel
theorem dX5_row_12 : decode cX5_row 12 = .ok (.iconst 0, 1) := by decide +kernel
theorem dX5_row_13 : decode cX5_row 13 = .ok (.iconst 2, 1) := by decide +kernel
theorem dX5_row_14 : decode cX5_row 14 = .ok (.invokestatic 48, 3) := by decide +kernel
theorem dX5_row_17 : decode cX5_row 17 = .ok (.ifCond .eq 14, 3) := by decide +kernel
theorem dX5_row_20 : decode cX5_row 20 = .ok (.aload_n 0, 1) := by decide +kernel
theorem dX5_row_21 : decode cX5_row 21 = .ok (.getfield 12, 3) := by decide +kernel
theorem dX5_row_24 : decode cX5_row 24 = .ok (.iload_n 3, 1) := by decide +kernel
theorem dX5_row_25 : decode cX5_row 25 = .ok (.invokevirtual 85, 3) := by decide +kernel
theorem dX5_row_28 : decode cX5_row 28 = .ok (.ifCond .ne 5, 3) := by decide +kernel
theorem dX5_row_31 : decode cX5_row 31 = .ok (.iconst (-1), 1) := by decide +kernel
theorem dX5_row_32 : decode cX5_row 32 = .ok (.ireturn, 1) := by decide +kernel
theorem dX5_row_33 : decode cX5_row 33 = .ok (.aload_n 0, 1) := by decide +kernel
theorem dX5_row_34 : decode cX5_row 34 = .ok (.getfield 12, 3) := by decide +kernel
theorem dX5_row_37 : decode cX5_row 37 = .ok (.getfield 110, 3) := by decide +kernel
theorem dX5_row_40 : decode cX5_row 40 = .ok (.iload_n 1, 1) := by decide +kernel
theorem dX5_row_41 : decode cX5_row 41 = .ok (.aaload, 1) := by decide +kernel
theorem dX5_row_42 : decode cX5_row 42 = .ok (.astore 4, 2) := by decide +kernel
theorem dX5_row_44 : decode cX5_row 44 = .ok (.aload 4, 2) := by decide +kernel
theorem dX5_row_46 : decode cX5_row 46 = .ok (.iconst 0, 1) := by decide +kernel
theorem dX5_row_47 : decode cX5_row 47 = .ok (.iaload, 1) := by decide +kernel
theorem dX5_row_48 : decode cX5_row 48 = .ok (.bipush 6, 2) := by decide +kernel
theorem dX5_row_50 : decode cX5_row 50 = .ok (.if_icmp .eq 6, 3) := by decide +kernel
theorem dX5_row_53 : decode cX5_row 53 = .ok (.bipush (-3), 2) := by decide +kernel
theorem dX5_row_55 : decode cX5_row 55 = .ok (.ireturn, 1) := by decide +kernel
theorem dX5_row_56 : decode cX5_row 56 = .ok (.aload 4, 2) := by decide +kernel
theorem dX5_row_58 : decode cX5_row 58 = .ok (.iconst 5, 1) := by decide +kernel
theorem dX5_row_59 : decode cX5_row 59 = .ok (.iload_n 2, 1) := by decide +kernel
theorem dX5_row_60 : decode cX5_row 60 = .ok (.iadd, 1) := by decide +kernel
theorem dX5_row_61 : decode cX5_row 61 = .ok (.iaload, 1) := by decide +kernel
theorem dX5_row_62 : decode cX5_row 62 = .ok (.istore 5, 2) := by decide +kernel
theorem dX5_row_64 : decode cX5_row 64 = .ok (.aload 4, 2) := by decide +kernel
theorem dX5_row_66 : decode cX5_row 66 = .ok (.iconst 5, 1) := by decide +kernel
theorem dX5_row_67 : decode cX5_row 67 = .ok (.iload_n 2, 1) := by decide +kernel
theorem dX5_row_68 : decode cX5_row 68 = .ok (.iadd, 1) := by decide +kernel
theorem dX5_row_69 : decode cX5_row 69 = .ok (.iload_n 3, 1) := by decide +kernel
theorem dX5_row_70 : decode cX5_row 70 = .ok (.iastore, 1) := by decide +kernel
theorem dX5_row_71 : decode cX5_row 71 = .ok (.iload 5, 2) := by decide +kernel
theorem dX5_row_73 : decode cX5_row 73 = .ok (.ireturn, 1) := by decide +kernel
abbrev rm_X5_row : Room := { frames := 1, cells := 0, slots := 0, locals := 22 }
abbrev jJ_X5_row (l : Launch) (G : jx_G) (t : jx_T) (sz : Nat) (out : (Int32 × jx_M)) (pc : Nat) (lv : List (Nat × Value)) (st : List Value) (σ : jx_M) : Prop := jx_J l (ll_env G t) (ll_dyn G t) (ll_rg G) sz RX5 "row" cX5_row 6 (some .int) rm_X5_row (fun below args s => MQ below (jx_Qi (ll_dyn G t) out.2 out.1 (jx_A (ll_rg G) sz)) args s 0 0 (jx_A (ll_rg G) sz)) 0 0 pc lv st σ
def f_X5_row (t : jx_T) (σ : jx_M) (a1 : Int32) (a2 : Int32) (a3 : Int32) : Option (Int32 × jx_M) :=
  jx_bd (f_X1_hasVoter t σ a1) (fun q1 => if q1 = 0 then some ((-1 : Int32), σ) else jx_bd (f_X5_within a2 (0 : Int32) (2 : Int32)) (fun q3 => if q3 = 0 then some ((-1 : Int32), σ) else jx_bd (f_X1_hasPlace t σ a3) (fun q5 => if q5 = 0 then some ((-1 : Int32), σ) else jx_gd (jx_in a1 6) (jx_gd (jx_in (0 : Int32) (ll_len (8 + a1.toNatClampNeg))) (if (σ (8 + a1.toNatClampNeg) 0) = (6 : Int32) then jx_gd (jx_in ((5 : Int32) + a2) (ll_len (8 + a1.toNatClampNeg))) (jx_lt ((σ (8 + a1.toNatClampNeg) ((5 : Int32) + a2).toNatClampNeg)) (fun x11 => jx_gd (jx_in ((5 : Int32) + a2) (ll_len (8 + a1.toNatClampNeg))) (jx_lt (jx_mu σ (8 + a1.toNatClampNeg) ((5 : Int32) + a2).toNatClampNeg a3) (fun σ13 => some (x11, σ13))))) else some ((-3 : Int32), σ))))))
set_option maxHeartbeats 4000000 in
set_option maxRecDepth 100000 in
theorem k_X5_row (l : Launch) (G : jx_G) (t : jx_T) (hG : ll_ok G) (sz : Nat) (σ : jx_M) (a1 : Int32) (a2 : Int32) (a3 : Int32) (out : (Int32 × jx_M)) (h : f_X5_row t σ a1 a2 a3 = some out) : Met l yX5_row (Cond.code yX5_row cX5_row 6 (some .int) :: jx_ws) rm_X5_row (jx_Pc (ll_env G t) (ll_dyn G t) (ll_rg G) sz σ [.ref (G.2 20), .int a1, .int a2, .int a3]) (jx_Qi (ll_dyn G t) out.2 out.1 (jx_A (ll_rg G) sz)) 0 0 (jx_A (ll_rg G) sz) := by
  unfold f_X5_row at h
  refine jx_met (by decide) (Nat.le_of_ble_eq_true rfl) ?_
  refine jx_sub (lv' := [(0, .ref (G.2 20)), (1, .int a1), (2, .int a2), (3, .int a3)]) [0, 1, 2, 3] rfl ?_
  refine jx_aload_n (pc := 0) (k0 := 0) rfl dX5_row_0 ?_
  refine ll_glamp_now (pc := 1) fl_X5_12 dX5_row_1 ?_
  refine jx_iload_n (pc := 4) (k0 := 1) rfl dX5_row_4 ?_
  obtain ⟨q1, eq1, h⟩ := jx_bd_o h
  refine jx_callVi (pc := 5) [.int a1] (fun sz' => k_X1_hasVoter l G t hG sz' σ a1 q1 eq1) kv_X5_119 ll_jok ll_rcnow rfl rfl (Nat.le_of_ble_eq_true rfl) ⟨⟨rfl, rfl⟩, ⟨Nat.le_of_ble_eq_true rfl, Nat.le_of_ble_eq_true rfl⟩, Nat.zero_le _, Nat.zero_le _⟩ dX5_row_5 ?_
  refine jx_if_eq (pc := 8) (tgt := 31) dX5_row_8 (by decide) (fun c2 => ?_) (fun c2 => ?_)
  · have h := jx_t c2 h
    refine jx_iconst (pc := 31) (v := (-1 : Int32)) (by decide) dX5_row_31 ?_
    have h := Option.some.inj h
    subst h
    exact jx_iret (pc := 32) dX5_row_32
  · have h := jx_f c2 h
    refine jx_iload_n (pc := 11) (k0 := 2) rfl dX5_row_11 ?_
    refine jx_iconst (pc := 12) (v := (0 : Int32)) (by decide) dX5_row_12 ?_
    refine jx_iconst (pc := 13) (v := (2 : Int32)) (by decide) dX5_row_13 ?_
    obtain ⟨q3, eq3, h⟩ := jx_bd_o h
    refine jx_callSi (pc := 14) [.int a2, .int (0 : Int32), .int (2 : Int32)] (fun sz' => k_X5_within l G t hG sz' σ a2 (0 : Int32) (2 : Int32) q3 eq3) ks_X5_48 ll_jok rfl rfl (Nat.le_of_ble_eq_true rfl) ⟨⟨rfl, rfl⟩, ⟨Nat.le_of_ble_eq_true rfl, Nat.le_of_ble_eq_true rfl⟩, Nat.zero_le _, Nat.zero_le _⟩ dX5_row_14 ?_
    refine jx_if_eq (pc := 17) (tgt := 31) dX5_row_17 (by decide) (fun c4 => ?_) (fun c4 => ?_)
    · have h := jx_t c4 h
      refine jx_iconst (pc := 31) (v := (-1 : Int32)) (by decide) dX5_row_31 ?_
      have h := Option.some.inj h
      subst h
      exact jx_iret (pc := 32) dX5_row_32
    · have h := jx_f c4 h
      refine jx_aload_n (pc := 20) (k0 := 0) rfl dX5_row_20 ?_
      refine ll_glamp_now (pc := 21) fl_X5_12 dX5_row_21 ?_
      refine jx_iload_n (pc := 24) (k0 := 3) rfl dX5_row_24 ?_
      obtain ⟨q5, eq5, h⟩ := jx_bd_o h
      refine jx_callVi (pc := 25) [.int a3] (fun sz' => k_X1_hasPlace l G t hG sz' σ a3 q5 eq5) kv_X5_85 ll_jok ll_rcnow rfl rfl (Nat.le_of_ble_eq_true rfl) ⟨⟨rfl, rfl⟩, ⟨Nat.le_of_ble_eq_true rfl, Nat.le_of_ble_eq_true rfl⟩, Nat.zero_le _, Nat.zero_le _⟩ dX5_row_25 ?_
      refine jx_if_ne (pc := 28) (tgt := 33) dX5_row_28 (by decide) (fun c6 => ?_) (fun c6 => ?_)
      · have h := jx_f c6 h
        refine jx_aload_n (pc := 33) (k0 := 0) rfl dX5_row_33 ?_
        refine ll_glamp_now (pc := 34) fl_X5_12 dX5_row_34 ?_
        refine ll_gnow_voter (pc := 37) fl_X5_110 dX5_row_37 ?_
        refine jx_iload_n (pc := 40) (k0 := 1) rfl dX5_row_40 ?_
        obtain ⟨g7, h⟩ := jx_gd_o h
        refine ll_a_now_voter (pc := 41) (jx_in_o g7) dX5_row_41 ?_
        refine jx_astore (pc := 42) (i := 4) rfl (by decide) (lv' := [(4, .ref (G.2 (100 + (8 + a1.toNatClampNeg)))), (0, .ref (G.2 20)), (1, .int a1), (2, .int a2), (3, .int a3)]) rfl dX5_row_42 ?_
        refine jx_aload (pc := 44) (i := 4) rfl dX5_row_44 ?_
        refine jx_iconst (pc := 46) (v := (0 : Int32)) (by decide) dX5_row_46 ?_
        obtain ⟨g8, h⟩ := jx_gd_o h
        refine ll_l (pc := 47) (k := (8 + a1.toNatClampNeg)) (j := 0) (jx_in_o g8) (by decide) dX5_row_47 ?_
        refine jx_bipush (pc := 48) (v := (6 : Int32)) (by decide) dX5_row_48 ?_
        refine jx_icmp_eq (pc := 50) (tgt := 56) dX5_row_50 (by decide) (fun c9 => ?_) (fun c9 => ?_)
        · have h := jx_t c9 h
          refine jx_aload (pc := 56) (i := 4) rfl dX5_row_56 ?_
          refine jx_iconst (pc := 58) (v := (5 : Int32)) (by decide) dX5_row_58 ?_
          refine jx_iload_n (pc := 59) (k0 := 2) rfl dX5_row_59 ?_
          refine jx_iadd (pc := 60) dX5_row_60 ?_
          obtain ⟨g10, h⟩ := jx_gd_o h
          refine ll_l (pc := 61) (k := (8 + a1.toNatClampNeg)) (jx_in_o g10) rfl dX5_row_61 ?_
          obtain ⟨x11, ex11, h⟩ := jx_lt_o h
          refine jx_istore (pc := 62) (i := 5) ex11 (by decide) (lv' := [(5, .int x11), (4, .ref (G.2 (100 + (8 + a1.toNatClampNeg)))), (0, .ref (G.2 20)), (1, .int a1), (2, .int a2), (3, .int a3)]) rfl dX5_row_62 ?_
          refine jx_aload (pc := 64) (i := 4) rfl dX5_row_64 ?_
          refine jx_iconst (pc := 66) (v := (5 : Int32)) (by decide) dX5_row_66 ?_
          refine jx_iload_n (pc := 67) (k0 := 2) rfl dX5_row_67 ?_
          refine jx_iadd (pc := 68) dX5_row_68 ?_
          refine jx_iload_n (pc := 69) (k0 := 3) rfl dX5_row_69 ?_
          obtain ⟨g12, h⟩ := jx_gd_o h
          obtain ⟨σ13, eσ13, h⟩ := jx_lt_o h
          refine ll_s (pc := 70) (k := (8 + a1.toNatClampNeg)) hG (jx_in_o g12) rfl eσ13 dX5_row_70 ?_
          refine jx_iload (pc := 71) (i := 5) rfl dX5_row_71 ?_
          have h := Option.some.inj h
          subst h
          exact jx_iret (pc := 73) dX5_row_73
        · have h := jx_f c9 h
          refine jx_bipush (pc := 53) (v := (-3 : Int32)) (by decide) dX5_row_53 ?_
          have h := Option.some.inj h
          subst h
          exact jx_iret (pc := 55) dX5_row_55
      · have h := jx_t c6 h
        refine jx_iconst (pc := 31) (v := (-1 : Int32)) (by decide) dX5_row_31 ?_
        have h := Option.some.inj h
        subst h
        exact jx_iret (pc := 32) dX5_row_32
theorem dX5_minutes_0 : decode cX5_minutes 0 = .ok (.iload_n 1, 1) := by decide +kernel
theorem dX5_minutes_1 : decode cX5_minutes 1 = .ok (.iconst 0, 1) := by decide +kernel
theorem dX5_minutes_2 : decode cX5_minutes 2 = .ok (.bipush 60, 2) := by decide +kernel
theorem dX5_minutes_4 : decode cX5_minutes 4 = .ok (.invokestatic 48, 3) := by decide +kernel
theorem dX5_minutes_7 : decode cX5_minutes 7 = .ok (.ifCond .ne 6, 3) := by decide +kernel
theorem dX5_minutes_10 : decode cX5_minutes 10 = .ok (.bipush (-2), 2) := by decide +kernel
theorem dX5_minutes_12 : decode cX5_minutes 12 = .ok (.ireturn, 1) := by decide +kernel
theorem dX5_minutes_13 : decode cX5_minutes 13 = .ok (.aload_n 0, 1) := by decide +kernel
theorem dX5_minutes_14 : decode cX5_minutes 14 = .ok (.getfield 12, 3) := by decide +kernel
theorem dX5_minutes_17 : decode cX5_minutes 17 = .ok (.getfield 97, 3) := by decide +kernel
theorem dX5_minutes_20 : decode cX5_minutes 20 = .ok (.iload_n 1, 1) := by decide +kernel
theorem dX5_minutes_21 : decode cX5_minutes 21 = .ok (.iadd, 1) := by decide +kernel
theorem dX5_minutes_22 : decode cX5_minutes 22 = .ok (.sipush 9999, 3) := by decide +kernel
theorem dX5_minutes_25 : decode cX5_minutes 25 = .ok (.if_icmp .le 6, 3) := by decide +kernel
theorem dX5_minutes_28 : decode cX5_minutes 28 = .ok (.bipush (-3), 2) := by decide +kernel
theorem dX5_minutes_30 : decode cX5_minutes 30 = .ok (.ireturn, 1) := by decide +kernel
theorem dX5_minutes_31 : decode cX5_minutes 31 = .ok (.aload_n 0, 1) := by decide +kernel
theorem dX5_minutes_32 : decode cX5_minutes 32 = .ok (.getfield 12, 3) := by decide +kernel
theorem dX5_minutes_35 : decode cX5_minutes 35 = .ok (.dup, 1) := by decide +kernel
theorem dX5_minutes_36 : decode cX5_minutes 36 = .ok (.getfield 97, 3) := by decide +kernel
theorem dX5_minutes_39 : decode cX5_minutes 39 = .ok (.iload_n 1, 1) := by decide +kernel
theorem dX5_minutes_40 : decode cX5_minutes 40 = .ok (.iadd, 1) := by decide +kernel
theorem dX5_minutes_41 : decode cX5_minutes 41 = .ok (.putfield 97, 3) := by decide +kernel
theorem dX5_minutes_44 : decode cX5_minutes 44 = .ok (.aload_n 0, 1) := by decide +kernel
theorem dX5_minutes_45 : decode cX5_minutes 45 = .ok (.getfield 12, 3) := by decide +kernel
theorem dX5_minutes_48 : decode cX5_minutes 48 = .ok (.getfield 97, 3) := by decide +kernel
theorem dX5_minutes_51 : decode cX5_minutes 51 = .ok (.ireturn, 1) := by decide +kernel
abbrev rm_X5_minutes : Room := { frames := 1, cells := 0, slots := 0, locals := 22 }
abbrev jJ_X5_minutes (l : Launch) (G : jx_G) (t : jx_T) (sz : Nat) (out : (Int32 × jx_M)) (pc : Nat) (lv : List (Nat × Value)) (st : List Value) (σ : jx_M) : Prop := jx_J l (ll_env G t) (ll_dyn G t) (ll_rg G) sz RX5 "minutes" cX5_minutes 2 (some .int) rm_X5_minutes (fun below args s => MQ below (jx_Qi (ll_dyn G t) out.2 out.1 (jx_A (ll_rg G) sz)) args s 0 0 (jx_A (ll_rg G) sz)) 0 0 pc lv st σ
def f_X5_minutes (t : jx_T) (σ : jx_M) (a1 : Int32) : Option (Int32 × jx_M) :=
  jx_bd (f_X5_within a1 (0 : Int32) (60 : Int32)) (fun q1 => if q1 = 0 then some ((-2 : Int32), σ) else if ((σ 0 1) + a1) ≤ (9999 : Int32) then jx_lt (jx_mu σ 0 1 ((σ 0 1) + a1)) (fun σ4 => some ((σ4 0 1), σ4)) else some ((-3 : Int32), σ))
set_option maxHeartbeats 4000000 in
set_option maxRecDepth 100000 in
theorem k_X5_minutes (l : Launch) (G : jx_G) (t : jx_T) (hG : ll_ok G) (sz : Nat) (σ : jx_M) (a1 : Int32) (out : (Int32 × jx_M)) (h : f_X5_minutes t σ a1 = some out) : Met l yX5_minutes (Cond.code yX5_minutes cX5_minutes 2 (some .int) :: jx_ws) rm_X5_minutes (jx_Pc (ll_env G t) (ll_dyn G t) (ll_rg G) sz σ [.ref (G.2 20), .int a1]) (jx_Qi (ll_dyn G t) out.2 out.1 (jx_A (ll_rg G) sz)) 0 0 (jx_A (ll_rg G) sz) := by
  unfold f_X5_minutes at h
  refine jx_met (by decide) (Nat.le_of_ble_eq_true rfl) ?_
  refine jx_sub (lv' := [(0, .ref (G.2 20)), (1, .int a1)]) [0, 1] rfl ?_
  refine jx_iload_n (pc := 0) (k0 := 1) rfl dX5_minutes_0 ?_
  refine jx_iconst (pc := 1) (v := (0 : Int32)) (by decide) dX5_minutes_1 ?_
  refine jx_bipush (pc := 2) (v := (60 : Int32)) (by decide) dX5_minutes_2 ?_
  obtain ⟨q1, eq1, h⟩ := jx_bd_o h
  refine jx_callSi (pc := 4) [.int a1, .int (0 : Int32), .int (60 : Int32)] (fun sz' => k_X5_within l G t hG sz' σ a1 (0 : Int32) (60 : Int32) q1 eq1) ks_X5_48 ll_jok rfl rfl (Nat.le_of_ble_eq_true rfl) ⟨⟨rfl, rfl⟩, ⟨Nat.le_of_ble_eq_true rfl, Nat.le_of_ble_eq_true rfl⟩, Nat.zero_le _, Nat.zero_le _⟩ dX5_minutes_4 ?_
  refine jx_if_ne (pc := 7) (tgt := 13) dX5_minutes_7 (by decide) (fun c2 => ?_) (fun c2 => ?_)
  · have h := jx_f c2 h
    refine jx_aload_n (pc := 13) (k0 := 0) rfl dX5_minutes_13 ?_
    refine ll_glamp_now (pc := 14) fl_X5_12 dX5_minutes_14 ?_
    refine ll_gnow_minute (pc := 17) fl_X5_97 dX5_minutes_17 ?_
    refine jx_iload_n (pc := 20) (k0 := 1) rfl dX5_minutes_20 ?_
    refine jx_iadd (pc := 21) dX5_minutes_21 ?_
    refine jx_sipush (pc := 22) (v := (9999 : Int32)) (by decide) dX5_minutes_22 ?_
    refine jx_icmp_le (pc := 25) (tgt := 31) dX5_minutes_25 (by decide) (fun c3 => ?_) (fun c3 => ?_)
    · have h := jx_t c3 h
      refine jx_aload_n (pc := 31) (k0 := 0) rfl dX5_minutes_31 ?_
      refine ll_glamp_now (pc := 32) fl_X5_12 dX5_minutes_32 ?_
      refine jx_dup (pc := 35) rfl dX5_minutes_35 ?_
      refine ll_gnow_minute (pc := 36) fl_X5_97 dX5_minutes_36 ?_
      refine jx_iload_n (pc := 39) (k0 := 1) rfl dX5_minutes_39 ?_
      refine jx_iadd (pc := 40) dX5_minutes_40 ?_
      obtain ⟨σ4, eσ4, h⟩ := jx_lt_o h
      refine ll_pnow_minute (pc := 41) hG fl_X5_97 eσ4 dX5_minutes_41 ?_
      refine jx_aload_n (pc := 44) (k0 := 0) rfl dX5_minutes_44 ?_
      refine ll_glamp_now (pc := 45) fl_X5_12 dX5_minutes_45 ?_
      refine ll_gnow_minute (pc := 48) fl_X5_97 dX5_minutes_48 ?_
      have h := Option.some.inj h
      subst h
      exact jx_iret (pc := 51) dX5_minutes_51
    · have h := jx_f c3 h
      refine jx_bipush (pc := 28) (v := (-3 : Int32)) (by decide) dX5_minutes_28 ?_
      have h := Option.some.inj h
      subst h
      exact jx_iret (pc := 30) dX5_minutes_30
  · have h := jx_t c2 h
    refine jx_bipush (pc := 10) (v := (-2 : Int32)) (by decide) dX5_minutes_10 ?_
    have h := Option.some.inj h
    subst h
    exact jx_iret (pc := 12) dX5_minutes_12
theorem dX5_see_0 : decode cX5_see 0 = .ok (.iload_n 1, 1) := by decide +kernel
theorem dX5_see_1 : decode cX5_see 1 = .ok (.iconst (-1), 1) := by decide +kernel
theorem dX5_see_2 : decode cX5_see 2 = .ok (.if_icmp .ne 13, 3) := by decide +kernel
theorem dX5_see_5 : decode cX5_see 5 = .ok (.aload_n 0, 1) := by decide +kernel
theorem dX5_see_6 : decode cX5_see 6 = .ok (.getfield 12, 3) := by decide +kernel
theorem dX5_see_9 : decode cX5_see 9 = .ok (.iconst 0, 1) := by decide +kernel
theorem dX5_see_10 : decode cX5_see 10 = .ok (.putfield 199, 3) := by decide +kernel
theorem dX5_see_13 : decode cX5_see 13 = .ok (.iconst 0, 1) := by decide +kernel
theorem dX5_see_14 : decode cX5_see 14 = .ok (.ireturn, 1) := by decide +kernel
theorem dX5_see_15 : decode cX5_see 15 = .ok (.aload_n 0, 1) := by decide +kernel
theorem dX5_see_16 : decode cX5_see 16 = .ok (.getfield 12, 3) := by decide +kernel
theorem dX5_see_19 : decode cX5_see 19 = .ok (.iload_n 1, 1) := by decide +kernel
theorem dX5_see_20 : decode cX5_see 20 = .ok (.invokevirtual 85, 3) := by decide +kernel
theorem dX5_see_23 : decode cX5_see 23 = .ok (.ifCond .ne 5, 3) := by decide +kernel
theorem dX5_see_26 : decode cX5_see 26 = .ok (.iconst (-1), 1) := by decide +kernel
theorem dX5_see_27 : decode cX5_see 27 = .ok (.ireturn, 1) := by decide +kernel
theorem dX5_see_28 : decode cX5_see 28 = .ok (.iload_n 2, 1) := by decide +kernel
theorem dX5_see_29 : decode cX5_see 29 = .ok (.iconst 0, 1) := by decide +kernel
theorem dX5_see_30 : decode cX5_see 30 = .ok (.bipush 6, 2) := by decide +kernel
theorem dX5_see_32 : decode cX5_see 32 = .ok (.invokestatic 48, 3) := by decide +kernel
theorem dX5_see_35 : decode cX5_see 35 = .ok (.ifCond .ne 6, 3) := by decide +kernel
theorem dX5_see_38 : decode cX5_see 38 = .ok (.bipush (-2), 2) := by decide +kernel
theorem dX5_see_40 : decode cX5_see 40 = .ok (.ireturn, 1) := by decide +kernel
theorem dX5_see_41 : decode cX5_see 41 = .ok (.aload_n 0, 1) := by decide +kernel
theorem dX5_see_42 : decode cX5_see 42 = .ok (.getfield 12, 3) := by decide +kernel
theorem dX5_see_45 : decode cX5_see 45 = .ok (.getfield 199, 3) := by decide +kernel
theorem dX5_see_48 : decode cX5_see 48 = .ok (.bipush 6, 2) := by decide +kernel
theorem dX5_see_50 : decode cX5_see 50 = .ok (.if_icmp .lt 6, 3) := by decide +kernel
theorem dX5_see_53 : decode cX5_see 53 = .ok (.bipush (-4), 2) := by decide +kernel
theorem dX5_see_55 : decode cX5_see 55 = .ok (.ireturn, 1) := by decide +kernel
theorem dX5_see_56 : decode cX5_see 56 = .ok (.aload_n 0, 1) := by decide +kernel
theorem dX5_see_57 : decode cX5_see 57 = .ok (.getfield 12, 3) := by decide +kernel
theorem dX5_see_60 : decode cX5_see 60 = .ok (.getfield 202, 3) := by decide +kernel
theorem dX5_see_63 : decode cX5_see 63 = .ok (.aload_n 0, 1) := by decide +kernel
theorem dX5_see_64 : decode cX5_see 64 = .ok (.getfield 12, 3) := by decide +kernel
theorem dX5_see_67 : decode cX5_see 67 = .ok (.getfield 199, 3) := by decide +kernel
theorem dX5_see_70 : decode cX5_see 70 = .ok (.iload_n 1, 1) := by decide +kernel
theorem dX5_see_71 : decode cX5_see 71 = .ok (.iastore, 1) := by decide +kernel
theorem dX5_see_72 : decode cX5_see 72 = .ok (.aload_n 0, 1) := by decide +kernel
theorem dX5_see_73 : decode cX5_see 73 = .ok (.getfield 12, 3) := by decide +kernel
theorem dX5_see_76 : decode cX5_see 76 = .ok (.getfield 205, 3) := by decide +kernel
theorem dX5_see_79 : decode cX5_see 79 = .ok (.aload_n 0, 1) := by decide +kernel
theorem dX5_see_80 : decode cX5_see 80 = .ok (.getfield 12, 3) := by decide +kernel
theorem dX5_see_83 : decode cX5_see 83 = .ok (.getfield 199, 3) := by decide +kernel
theorem dX5_see_86 : decode cX5_see 86 = .ok (.iload_n 2, 1) := by decide +kernel
theorem dX5_see_87 : decode cX5_see 87 = .ok (.iastore, 1) := by decide +kernel
theorem dX5_see_88 : decode cX5_see 88 = .ok (.aload_n 0, 1) := by decide +kernel
theorem dX5_see_89 : decode cX5_see 89 = .ok (.getfield 12, 3) := by decide +kernel
theorem dX5_see_92 : decode cX5_see 92 = .ok (.dup, 1) := by decide +kernel
theorem dX5_see_93 : decode cX5_see 93 = .ok (.getfield 199, 3) := by decide +kernel
theorem dX5_see_96 : decode cX5_see 96 = .ok (.iconst 1, 1) := by decide +kernel
theorem dX5_see_97 : decode cX5_see 97 = .ok (.iadd, 1) := by decide +kernel
theorem dX5_see_98 : decode cX5_see 98 = .ok (.putfield 199, 3) := by decide +kernel
theorem dX5_see_101 : decode cX5_see 101 = .ok (.aload_n 0, 1) := by decide +kernel
theorem dX5_see_102 : decode cX5_see 102 = .ok (.getfield 12, 3) := by decide +kernel
theorem dX5_see_105 : decode cX5_see 105 = .ok (.getfield 199, 3) := by decide +kernel
theorem dX5_see_108 : decode cX5_see 108 = .ok (.ireturn, 1) := by decide +kernel
abbrev rm_X5_see : Room := { frames := 1, cells := 0, slots := 0, locals := 22 }
abbrev jJ_X5_see (l : Launch) (G : jx_G) (t : jx_T) (sz : Nat) (out : (Int32 × jx_M)) (pc : Nat) (lv : List (Nat × Value)) (st : List Value) (σ : jx_M) : Prop := jx_J l (ll_env G t) (ll_dyn G t) (ll_rg G) sz RX5 "see" cX5_see 3 (some .int) rm_X5_see (fun below args s => MQ below (jx_Qi (ll_dyn G t) out.2 out.1 (jx_A (ll_rg G) sz)) args s 0 0 (jx_A (ll_rg G) sz)) 0 0 pc lv st σ
def f_X5_see (t : jx_T) (σ : jx_M) (a1 : Int32) (a2 : Int32) : Option (Int32 × jx_M) :=
  if a1 = (-1 : Int32) then jx_lt (jx_mu σ 0 5 (0 : Int32)) (fun σ12 => some ((0 : Int32), σ12)) else jx_bd (f_X1_hasPlace t σ a1) (fun q2 => if q2 = 0 then some ((-1 : Int32), σ) else jx_bd (f_X5_within a2 (0 : Int32) (6 : Int32)) (fun q4 => if q4 = 0 then some ((-2 : Int32), σ) else if (σ 0 5) < (6 : Int32) then jx_gd (jx_in (σ 0 5) 6) (jx_lt (jx_mu σ 15 (σ 0 5).toNatClampNeg a1) (fun σ8 => jx_gd (jx_in (σ8 0 5) 6) (jx_lt (jx_mu σ8 16 (σ8 0 5).toNatClampNeg a2) (fun σ10 => jx_lt (jx_mu σ10 0 5 ((σ10 0 5) + (1 : Int32))) (fun σ11 => some ((σ11 0 5), σ11)))))) else some ((-4 : Int32), σ)))
set_option maxHeartbeats 4000000 in
set_option maxRecDepth 100000 in
theorem k_X5_see (l : Launch) (G : jx_G) (t : jx_T) (hG : ll_ok G) (sz : Nat) (σ : jx_M) (a1 : Int32) (a2 : Int32) (out : (Int32 × jx_M)) (h : f_X5_see t σ a1 a2 = some out) : Met l yX5_see (Cond.code yX5_see cX5_see 3 (some .int) :: jx_ws) rm_X5_see (jx_Pc (ll_env G t) (ll_dyn G t) (ll_rg G) sz σ [.ref (G.2 20), .int a1, .int a2]) (jx_Qi (ll_dyn G t) out.2 out.1 (jx_A (ll_rg G) sz)) 0 0 (jx_A (ll_rg G) sz) := by
  unfold f_X5_see at h
  refine jx_met (by decide) (Nat.le_of_ble_eq_true rfl) ?_
  refine jx_sub (lv' := [(0, .ref (G.2 20)), (1, .int a1), (2, .int a2)]) [0, 1, 2] rfl ?_
  refine jx_iload_n (pc := 0) (k0 := 1) rfl dX5_see_0 ?_
  refine jx_iconst (pc := 1) (v := (-1 : Int32)) (by decide) dX5_see_1 ?_
  refine jx_icmp_ne (pc := 2) (tgt := 15) dX5_see_2 (by decide) (fun c1 => ?_) (fun c1 => ?_)
  · have h := jx_f c1 h
    refine jx_aload_n (pc := 15) (k0 := 0) rfl dX5_see_15 ?_
    refine ll_glamp_now (pc := 16) fl_X5_12 dX5_see_16 ?_
    refine jx_iload_n (pc := 19) (k0 := 1) rfl dX5_see_19 ?_
    obtain ⟨q2, eq2, h⟩ := jx_bd_o h
    refine jx_callVi (pc := 20) [.int a1] (fun sz' => k_X1_hasPlace l G t hG sz' σ a1 q2 eq2) kv_X5_85 ll_jok ll_rcnow rfl rfl (Nat.le_of_ble_eq_true rfl) ⟨⟨rfl, rfl⟩, ⟨Nat.le_of_ble_eq_true rfl, Nat.le_of_ble_eq_true rfl⟩, Nat.zero_le _, Nat.zero_le _⟩ dX5_see_20 ?_
    refine jx_if_ne (pc := 23) (tgt := 28) dX5_see_23 (by decide) (fun c3 => ?_) (fun c3 => ?_)
    · have h := jx_f c3 h
      refine jx_iload_n (pc := 28) (k0 := 2) rfl dX5_see_28 ?_
      refine jx_iconst (pc := 29) (v := (0 : Int32)) (by decide) dX5_see_29 ?_
      refine jx_bipush (pc := 30) (v := (6 : Int32)) (by decide) dX5_see_30 ?_
      obtain ⟨q4, eq4, h⟩ := jx_bd_o h
      refine jx_callSi (pc := 32) [.int a2, .int (0 : Int32), .int (6 : Int32)] (fun sz' => k_X5_within l G t hG sz' σ a2 (0 : Int32) (6 : Int32) q4 eq4) ks_X5_48 ll_jok rfl rfl (Nat.le_of_ble_eq_true rfl) ⟨⟨rfl, rfl⟩, ⟨Nat.le_of_ble_eq_true rfl, Nat.le_of_ble_eq_true rfl⟩, Nat.zero_le _, Nat.zero_le _⟩ dX5_see_32 ?_
      refine jx_if_ne (pc := 35) (tgt := 41) dX5_see_35 (by decide) (fun c5 => ?_) (fun c5 => ?_)
      · have h := jx_f c5 h
        refine jx_aload_n (pc := 41) (k0 := 0) rfl dX5_see_41 ?_
        refine ll_glamp_now (pc := 42) fl_X5_12 dX5_see_42 ?_
        refine ll_gnow_seen (pc := 45) fl_X5_199 dX5_see_45 ?_
        refine jx_bipush (pc := 48) (v := (6 : Int32)) (by decide) dX5_see_48 ?_
        refine jx_icmp_lt (pc := 50) (tgt := 56) dX5_see_50 (by decide) (fun c6 => ?_) (fun c6 => ?_)
        · have h := jx_t c6 h
          refine jx_aload_n (pc := 56) (k0 := 0) rfl dX5_see_56 ?_
          refine ll_glamp_now (pc := 57) fl_X5_12 dX5_see_57 ?_
          refine ll_gnow_seenPlace (pc := 60) fl_X5_202 dX5_see_60 ?_
          refine jx_aload_n (pc := 63) (k0 := 0) rfl dX5_see_63 ?_
          refine ll_glamp_now (pc := 64) fl_X5_12 dX5_see_64 ?_
          refine ll_gnow_seen (pc := 67) fl_X5_199 dX5_see_67 ?_
          refine jx_iload_n (pc := 70) (k0 := 1) rfl dX5_see_70 ?_
          obtain ⟨g7, h⟩ := jx_gd_o h
          obtain ⟨σ8, eσ8, h⟩ := jx_lt_o h
          refine ll_s (pc := 71) (k := 15) hG (jx_in_o g7) rfl eσ8 dX5_see_71 ?_
          refine jx_aload_n (pc := 72) (k0 := 0) rfl dX5_see_72 ?_
          refine ll_glamp_now (pc := 73) fl_X5_12 dX5_see_73 ?_
          refine ll_gnow_seenLamps (pc := 76) fl_X5_205 dX5_see_76 ?_
          refine jx_aload_n (pc := 79) (k0 := 0) rfl dX5_see_79 ?_
          refine ll_glamp_now (pc := 80) fl_X5_12 dX5_see_80 ?_
          refine ll_gnow_seen (pc := 83) fl_X5_199 dX5_see_83 ?_
          refine jx_iload_n (pc := 86) (k0 := 2) rfl dX5_see_86 ?_
          obtain ⟨g9, h⟩ := jx_gd_o h
          obtain ⟨σ10, eσ10, h⟩ := jx_lt_o h
          refine ll_s (pc := 87) (k := 16) hG (jx_in_o g9) rfl eσ10 dX5_see_87 ?_
          refine jx_aload_n (pc := 88) (k0 := 0) rfl dX5_see_88 ?_
          refine ll_glamp_now (pc := 89) fl_X5_12 dX5_see_89 ?_
          refine jx_dup (pc := 92) rfl dX5_see_92 ?_
          refine ll_gnow_seen (pc := 93) fl_X5_199 dX5_see_93 ?_
          refine jx_iconst (pc := 96) (v := (1 : Int32)) (by decide) dX5_see_96 ?_
          refine jx_iadd (pc := 97) dX5_see_97 ?_
          obtain ⟨σ11, eσ11, h⟩ := jx_lt_o h
          refine ll_pnow_seen (pc := 98) hG fl_X5_199 eσ11 dX5_see_98 ?_
          refine jx_aload_n (pc := 101) (k0 := 0) rfl dX5_see_101 ?_
          refine ll_glamp_now (pc := 102) fl_X5_12 dX5_see_102 ?_
          refine ll_gnow_seen (pc := 105) fl_X5_199 dX5_see_105 ?_
          have h := Option.some.inj h
          subst h
          exact jx_iret (pc := 108) dX5_see_108
        · have h := jx_f c6 h
          refine jx_bipush (pc := 53) (v := (-4 : Int32)) (by decide) dX5_see_53 ?_
          have h := Option.some.inj h
          subst h
          exact jx_iret (pc := 55) dX5_see_55
      · have h := jx_t c5 h
        refine jx_bipush (pc := 38) (v := (-2 : Int32)) (by decide) dX5_see_38 ?_
        have h := Option.some.inj h
        subst h
        exact jx_iret (pc := 40) dX5_see_40
    · have h := jx_t c3 h
      refine jx_iconst (pc := 26) (v := (-1 : Int32)) (by decide) dX5_see_26 ?_
      have h := Option.some.inj h
      subst h
      exact jx_iret (pc := 27) dX5_see_27
  · have h := jx_t c1 h
    refine jx_aload_n (pc := 5) (k0 := 0) rfl dX5_see_5 ?_
    refine ll_glamp_now (pc := 6) fl_X5_12 dX5_see_6 ?_
    refine jx_iconst (pc := 9) (v := (0 : Int32)) (by decide) dX5_see_9 ?_
    obtain ⟨σ12, eσ12, h⟩ := jx_lt_o h
    refine ll_pnow_seen (pc := 10) hG fl_X5_199 eσ12 dX5_see_10 ?_
    refine jx_iconst (pc := 13) (v := (0 : Int32)) (by decide) dX5_see_13 ?_
    have h := Option.some.inj h
    subst h
    exact jx_iret (pc := 14) dX5_see_14
theorem dX5_tale_0 : decode cX5_tale 0 = .ok (.iload_n 1, 1) := by decide +kernel
theorem dX5_tale_1 : decode cX5_tale 1 = .ok (.iconst (-1), 1) := by decide +kernel
theorem dX5_tale_2 : decode cX5_tale 2 = .ok (.if_icmp .ne 13, 3) := by decide +kernel
theorem dX5_tale_5 : decode cX5_tale 5 = .ok (.aload_n 0, 1) := by decide +kernel
theorem dX5_tale_6 : decode cX5_tale 6 = .ok (.getfield 12, 3) := by decide +kernel
theorem dX5_tale_9 : decode cX5_tale 9 = .ok (.iconst 0, 1) := by decide +kernel
theorem dX5_tale_10 : decode cX5_tale 10 = .ok (.putfield 217, 3) := by decide +kernel
theorem dX5_tale_13 : decode cX5_tale 13 = .ok (.iconst 0, 1) := by decide +kernel
theorem dX5_tale_14 : decode cX5_tale 14 = .ok (.ireturn, 1) := by decide +kernel
theorem dX5_tale_15 : decode cX5_tale 15 = .ok (.aload_n 0, 1) := by decide +kernel
theorem dX5_tale_16 : decode cX5_tale 16 = .ok (.getfield 12, 3) := by decide +kernel
theorem dX5_tale_19 : decode cX5_tale 19 = .ok (.iload_n 1, 1) := by decide +kernel
theorem dX5_tale_20 : decode cX5_tale 20 = .ok (.invokevirtual 119, 3) := by decide +kernel
theorem dX5_tale_23 : decode cX5_tale 23 = .ok (.ifCond .eq 14, 3) := by decide +kernel
theorem dX5_tale_26 : decode cX5_tale 26 = .ok (.aload_n 0, 1) := by decide +kernel
theorem dX5_tale_27 : decode cX5_tale 27 = .ok (.getfield 12, 3) := by decide +kernel
theorem dX5_tale_30 : decode cX5_tale 30 = .ok (.iload_n 3, 1) := by decide +kernel
theorem dX5_tale_31 : decode cX5_tale 31 = .ok (.invokevirtual 85, 3) := by decide +kernel
theorem dX5_tale_34 : decode cX5_tale 34 = .ok (.ifCond .ne 5, 3) := by decide +kernel
theorem dX5_tale_37 : decode cX5_tale 37 = .ok (.iconst (-1), 1) := by decide +kernel
theorem dX5_tale_38 : decode cX5_tale 38 = .ok (.ireturn, 1) := by decide +kernel
theorem dX5_tale_39 : decode cX5_tale 39 = .ok (.iload_n 2, 1) := by decide +kernel
theorem dX5_tale_40 : decode cX5_tale 40 = .ok (.iconst 0, 1) := by decide +kernel
theorem dX5_tale_41 : decode cX5_tale 41 = .ok (.bipush 12, 2) := by decide +kernel
theorem dX5_tale_43 : decode cX5_tale 43 = .ok (.invokestatic 48, 3) := by decide +kernel
theorem dX5_tale_46 : decode cX5_tale 46 = .ok (.ifCond .ne 6, 3) := by decide +kernel
theorem dX5_tale_49 : decode cX5_tale 49 = .ok (.bipush (-2), 2) := by decide +kernel
theorem dX5_tale_51 : decode cX5_tale 51 = .ok (.ireturn, 1) := by decide +kernel
theorem dX5_tale_52 : decode cX5_tale 52 = .ok (.aload_n 0, 1) := by decide +kernel
theorem dX5_tale_53 : decode cX5_tale 53 = .ok (.getfield 12, 3) := by decide +kernel
theorem dX5_tale_56 : decode cX5_tale 56 = .ok (.getfield 217, 3) := by decide +kernel
theorem dX5_tale_59 : decode cX5_tale 59 = .ok (.bipush 8, 2) := by decide +kernel
theorem dX5_tale_61 : decode cX5_tale 61 = .ok (.if_icmp .lt 6, 3) := by decide +kernel
theorem dX5_tale_64 : decode cX5_tale 64 = .ok (.bipush (-4), 2) := by decide +kernel
theorem dX5_tale_66 : decode cX5_tale 66 = .ok (.ireturn, 1) := by decide +kernel
theorem dX5_tale_67 : decode cX5_tale 67 = .ok (.aload_n 0, 1) := by decide +kernel
theorem dX5_tale_68 : decode cX5_tale 68 = .ok (.getfield 12, 3) := by decide +kernel
theorem dX5_tale_71 : decode cX5_tale 71 = .ok (.getfield 220, 3) := by decide +kernel
theorem dX5_tale_74 : decode cX5_tale 74 = .ok (.aload_n 0, 1) := by decide +kernel
theorem dX5_tale_75 : decode cX5_tale 75 = .ok (.getfield 12, 3) := by decide +kernel
theorem dX5_tale_78 : decode cX5_tale 78 = .ok (.getfield 217, 3) := by decide +kernel
theorem dX5_tale_81 : decode cX5_tale 81 = .ok (.iload_n 1, 1) := by decide +kernel
theorem dX5_tale_82 : decode cX5_tale 82 = .ok (.iastore, 1) := by decide +kernel
theorem dX5_tale_83 : decode cX5_tale 83 = .ok (.aload_n 0, 1) := by decide +kernel
theorem dX5_tale_84 : decode cX5_tale 84 = .ok (.getfield 12, 3) := by decide +kernel
theorem dX5_tale_87 : decode cX5_tale 87 = .ok (.getfield 223, 3) := by decide +kernel
theorem dX5_tale_90 : decode cX5_tale 90 = .ok (.aload_n 0, 1) := by decide +kernel
theorem dX5_tale_91 : decode cX5_tale 91 = .ok (.getfield 12, 3) := by decide +kernel
theorem dX5_tale_94 : decode cX5_tale 94 = .ok (.getfield 217, 3) := by decide +kernel
theorem dX5_tale_97 : decode cX5_tale 97 = .ok (.iload_n 2, 1) := by decide +kernel
theorem dX5_tale_98 : decode cX5_tale 98 = .ok (.iastore, 1) := by decide +kernel
theorem dX5_tale_99 : decode cX5_tale 99 = .ok (.aload_n 0, 1) := by decide +kernel
theorem dX5_tale_100 : decode cX5_tale 100 = .ok (.getfield 12, 3) := by decide +kernel
theorem dX5_tale_103 : decode cX5_tale 103 = .ok (.getfield 226, 3) := by decide +kernel
theorem dX5_tale_106 : decode cX5_tale 106 = .ok (.aload_n 0, 1) := by decide +kernel
theorem dX5_tale_107 : decode cX5_tale 107 = .ok (.getfield 12, 3) := by decide +kernel
theorem dX5_tale_110 : decode cX5_tale 110 = .ok (.getfield 217, 3) := by decide +kernel
theorem dX5_tale_113 : decode cX5_tale 113 = .ok (.iload_n 3, 1) := by decide +kernel
theorem dX5_tale_114 : decode cX5_tale 114 = .ok (.iastore, 1) := by decide +kernel
theorem dX5_tale_115 : decode cX5_tale 115 = .ok (.aload_n 0, 1) := by decide +kernel
theorem dX5_tale_116 : decode cX5_tale 116 = .ok (.getfield 12, 3) := by decide +kernel
theorem dX5_tale_119 : decode cX5_tale 119 = .ok (.dup, 1) := by decide +kernel
theorem dX5_tale_120 : decode cX5_tale 120 = .ok (.getfield 217, 3) := by decide +kernel
theorem dX5_tale_123 : decode cX5_tale 123 = .ok (.iconst 1, 1) := by decide +kernel
theorem dX5_tale_124 : decode cX5_tale 124 = .ok (.iadd, 1) := by decide +kernel
theorem dX5_tale_125 : decode cX5_tale 125 = .ok (.putfield 217, 3) := by decide +kernel
theorem dX5_tale_128 : decode cX5_tale 128 = .ok (.aload_n 0, 1) := by decide +kernel
theorem dX5_tale_129 : decode cX5_tale 129 = .ok (.getfield 12, 3) := by decide +kernel
theorem dX5_tale_132 : decode cX5_tale 132 = .ok (.getfield 217, 3) := by decide +kernel
theorem dX5_tale_135 : decode cX5_tale 135 = .ok (.ireturn, 1) := by decide +kernel
abbrev rm_X5_tale : Room := { frames := 1, cells := 0, slots := 0, locals := 22 }
abbrev jJ_X5_tale (l : Launch) (G : jx_G) (t : jx_T) (sz : Nat) (out : (Int32 × jx_M)) (pc : Nat) (lv : List (Nat × Value)) (st : List Value) (σ : jx_M) : Prop := jx_J l (ll_env G t) (ll_dyn G t) (ll_rg G) sz RX5 "tale" cX5_tale 4 (some .int) rm_X5_tale (fun below args s => MQ below (jx_Qi (ll_dyn G t) out.2 out.1 (jx_A (ll_rg G) sz)) args s 0 0 (jx_A (ll_rg G) sz)) 0 0 pc lv st σ
def f_X5_tale (t : jx_T) (σ : jx_M) (a1 : Int32) (a2 : Int32) (a3 : Int32) : Option (Int32 × jx_M) :=
  if a1 = (-1 : Int32) then jx_lt (jx_mu σ 0 6 (0 : Int32)) (fun σ16 => some ((0 : Int32), σ16)) else jx_bd (f_X1_hasVoter t σ a1) (fun q2 => if q2 = 0 then some ((-1 : Int32), σ) else jx_bd (f_X1_hasPlace t σ a3) (fun q4 => if q4 = 0 then some ((-1 : Int32), σ) else jx_bd (f_X5_within a2 (0 : Int32) (12 : Int32)) (fun q6 => if q6 = 0 then some ((-2 : Int32), σ) else if (σ 0 6) < (8 : Int32) then jx_gd (jx_in (σ 0 6) 8) (jx_lt (jx_mu σ 17 (σ 0 6).toNatClampNeg a1) (fun σ10 => jx_gd (jx_in (σ10 0 6) 8) (jx_lt (jx_mu σ10 18 (σ10 0 6).toNatClampNeg a2) (fun σ12 => jx_gd (jx_in (σ12 0 6) 8) (jx_lt (jx_mu σ12 19 (σ12 0 6).toNatClampNeg a3) (fun σ14 => jx_lt (jx_mu σ14 0 6 ((σ14 0 6) + (1 : Int32))) (fun σ15 => some ((σ15 0 6), σ15)))))))) else some ((-4 : Int32), σ))))
set_option maxHeartbeats 4000000 in
set_option maxRecDepth 100000 in
theorem k_X5_tale (l : Launch) (G : jx_G) (t : jx_T) (hG : ll_ok G) (sz : Nat) (σ : jx_M) (a1 : Int32) (a2 : Int32) (a3 : Int32) (out : (Int32 × jx_M)) (h : f_X5_tale t σ a1 a2 a3 = some out) : Met l yX5_tale (Cond.code yX5_tale cX5_tale 4 (some .int) :: jx_ws) rm_X5_tale (jx_Pc (ll_env G t) (ll_dyn G t) (ll_rg G) sz σ [.ref (G.2 20), .int a1, .int a2, .int a3]) (jx_Qi (ll_dyn G t) out.2 out.1 (jx_A (ll_rg G) sz)) 0 0 (jx_A (ll_rg G) sz) := by
  unfold f_X5_tale at h
  refine jx_met (by decide) (Nat.le_of_ble_eq_true rfl) ?_
  refine jx_sub (lv' := [(0, .ref (G.2 20)), (1, .int a1), (2, .int a2), (3, .int a3)]) [0, 1, 2, 3] rfl ?_
  refine jx_iload_n (pc := 0) (k0 := 1) rfl dX5_tale_0 ?_
  refine jx_iconst (pc := 1) (v := (-1 : Int32)) (by decide) dX5_tale_1 ?_
  refine jx_icmp_ne (pc := 2) (tgt := 15) dX5_tale_2 (by decide) (fun c1 => ?_) (fun c1 => ?_)
  · have h := jx_f c1 h
    refine jx_aload_n (pc := 15) (k0 := 0) rfl dX5_tale_15 ?_
    refine ll_glamp_now (pc := 16) fl_X5_12 dX5_tale_16 ?_
    refine jx_iload_n (pc := 19) (k0 := 1) rfl dX5_tale_19 ?_
    obtain ⟨q2, eq2, h⟩ := jx_bd_o h
    refine jx_callVi (pc := 20) [.int a1] (fun sz' => k_X1_hasVoter l G t hG sz' σ a1 q2 eq2) kv_X5_119 ll_jok ll_rcnow rfl rfl (Nat.le_of_ble_eq_true rfl) ⟨⟨rfl, rfl⟩, ⟨Nat.le_of_ble_eq_true rfl, Nat.le_of_ble_eq_true rfl⟩, Nat.zero_le _, Nat.zero_le _⟩ dX5_tale_20 ?_
    refine jx_if_eq (pc := 23) (tgt := 37) dX5_tale_23 (by decide) (fun c3 => ?_) (fun c3 => ?_)
    · have h := jx_t c3 h
      refine jx_iconst (pc := 37) (v := (-1 : Int32)) (by decide) dX5_tale_37 ?_
      have h := Option.some.inj h
      subst h
      exact jx_iret (pc := 38) dX5_tale_38
    · have h := jx_f c3 h
      refine jx_aload_n (pc := 26) (k0 := 0) rfl dX5_tale_26 ?_
      refine ll_glamp_now (pc := 27) fl_X5_12 dX5_tale_27 ?_
      refine jx_iload_n (pc := 30) (k0 := 3) rfl dX5_tale_30 ?_
      obtain ⟨q4, eq4, h⟩ := jx_bd_o h
      refine jx_callVi (pc := 31) [.int a3] (fun sz' => k_X1_hasPlace l G t hG sz' σ a3 q4 eq4) kv_X5_85 ll_jok ll_rcnow rfl rfl (Nat.le_of_ble_eq_true rfl) ⟨⟨rfl, rfl⟩, ⟨Nat.le_of_ble_eq_true rfl, Nat.le_of_ble_eq_true rfl⟩, Nat.zero_le _, Nat.zero_le _⟩ dX5_tale_31 ?_
      refine jx_if_ne (pc := 34) (tgt := 39) dX5_tale_34 (by decide) (fun c5 => ?_) (fun c5 => ?_)
      · have h := jx_f c5 h
        refine jx_iload_n (pc := 39) (k0 := 2) rfl dX5_tale_39 ?_
        refine jx_iconst (pc := 40) (v := (0 : Int32)) (by decide) dX5_tale_40 ?_
        refine jx_bipush (pc := 41) (v := (12 : Int32)) (by decide) dX5_tale_41 ?_
        obtain ⟨q6, eq6, h⟩ := jx_bd_o h
        refine jx_callSi (pc := 43) [.int a2, .int (0 : Int32), .int (12 : Int32)] (fun sz' => k_X5_within l G t hG sz' σ a2 (0 : Int32) (12 : Int32) q6 eq6) ks_X5_48 ll_jok rfl rfl (Nat.le_of_ble_eq_true rfl) ⟨⟨rfl, rfl⟩, ⟨Nat.le_of_ble_eq_true rfl, Nat.le_of_ble_eq_true rfl⟩, Nat.zero_le _, Nat.zero_le _⟩ dX5_tale_43 ?_
        refine jx_if_ne (pc := 46) (tgt := 52) dX5_tale_46 (by decide) (fun c7 => ?_) (fun c7 => ?_)
        · have h := jx_f c7 h
          refine jx_aload_n (pc := 52) (k0 := 0) rfl dX5_tale_52 ?_
          refine ll_glamp_now (pc := 53) fl_X5_12 dX5_tale_53 ?_
          refine ll_gnow_tales (pc := 56) fl_X5_217 dX5_tale_56 ?_
          refine jx_bipush (pc := 59) (v := (8 : Int32)) (by decide) dX5_tale_59 ?_
          refine jx_icmp_lt (pc := 61) (tgt := 67) dX5_tale_61 (by decide) (fun c8 => ?_) (fun c8 => ?_)
          · have h := jx_t c8 h
            refine jx_aload_n (pc := 67) (k0 := 0) rfl dX5_tale_67 ?_
            refine ll_glamp_now (pc := 68) fl_X5_12 dX5_tale_68 ?_
            refine ll_gnow_taleVoter (pc := 71) fl_X5_220 dX5_tale_71 ?_
            refine jx_aload_n (pc := 74) (k0 := 0) rfl dX5_tale_74 ?_
            refine ll_glamp_now (pc := 75) fl_X5_12 dX5_tale_75 ?_
            refine ll_gnow_tales (pc := 78) fl_X5_217 dX5_tale_78 ?_
            refine jx_iload_n (pc := 81) (k0 := 1) rfl dX5_tale_81 ?_
            obtain ⟨g9, h⟩ := jx_gd_o h
            obtain ⟨σ10, eσ10, h⟩ := jx_lt_o h
            refine ll_s (pc := 82) (k := 17) hG (jx_in_o g9) rfl eσ10 dX5_tale_82 ?_
            refine jx_aload_n (pc := 83) (k0 := 0) rfl dX5_tale_83 ?_
            refine ll_glamp_now (pc := 84) fl_X5_12 dX5_tale_84 ?_
            refine ll_gnow_taleMinute (pc := 87) fl_X5_223 dX5_tale_87 ?_
            refine jx_aload_n (pc := 90) (k0 := 0) rfl dX5_tale_90 ?_
            refine ll_glamp_now (pc := 91) fl_X5_12 dX5_tale_91 ?_
            refine ll_gnow_tales (pc := 94) fl_X5_217 dX5_tale_94 ?_
            refine jx_iload_n (pc := 97) (k0 := 2) rfl dX5_tale_97 ?_
            obtain ⟨g11, h⟩ := jx_gd_o h
            obtain ⟨σ12, eσ12, h⟩ := jx_lt_o h
            refine ll_s (pc := 98) (k := 18) hG (jx_in_o g11) rfl eσ12 dX5_tale_98 ?_
            refine jx_aload_n (pc := 99) (k0 := 0) rfl dX5_tale_99 ?_
            refine ll_glamp_now (pc := 100) fl_X5_12 dX5_tale_100 ?_
            refine ll_gnow_talePlace (pc := 103) fl_X5_226 dX5_tale_103 ?_
            refine jx_aload_n (pc := 106) (k0 := 0) rfl dX5_tale_106 ?_
            refine ll_glamp_now (pc := 107) fl_X5_12 dX5_tale_107 ?_
            refine ll_gnow_tales (pc := 110) fl_X5_217 dX5_tale_110 ?_
            refine jx_iload_n (pc := 113) (k0 := 3) rfl dX5_tale_113 ?_
            obtain ⟨g13, h⟩ := jx_gd_o h
            obtain ⟨σ14, eσ14, h⟩ := jx_lt_o h
            refine ll_s (pc := 114) (k := 19) hG (jx_in_o g13) rfl eσ14 dX5_tale_114 ?_
            refine jx_aload_n (pc := 115) (k0 := 0) rfl dX5_tale_115 ?_
            refine ll_glamp_now (pc := 116) fl_X5_12 dX5_tale_116 ?_
            refine jx_dup (pc := 119) rfl dX5_tale_119 ?_
            refine ll_gnow_tales (pc := 120) fl_X5_217 dX5_tale_120 ?_
            refine jx_iconst (pc := 123) (v := (1 : Int32)) (by decide) dX5_tale_123 ?_
            refine jx_iadd (pc := 124) dX5_tale_124 ?_
            obtain ⟨σ15, eσ15, h⟩ := jx_lt_o h
            refine ll_pnow_tales (pc := 125) hG fl_X5_217 eσ15 dX5_tale_125 ?_
            refine jx_aload_n (pc := 128) (k0 := 0) rfl dX5_tale_128 ?_
            refine ll_glamp_now (pc := 129) fl_X5_12 dX5_tale_129 ?_
            refine ll_gnow_tales (pc := 132) fl_X5_217 dX5_tale_132 ?_
            have h := Option.some.inj h
            subst h
            exact jx_iret (pc := 135) dX5_tale_135
          · have h := jx_f c8 h
            refine jx_bipush (pc := 64) (v := (-4 : Int32)) (by decide) dX5_tale_64 ?_
            have h := Option.some.inj h
            subst h
            exact jx_iret (pc := 66) dX5_tale_66
        · have h := jx_t c7 h
          refine jx_bipush (pc := 49) (v := (-2 : Int32)) (by decide) dX5_tale_49 ?_
          have h := Option.some.inj h
          subst h
          exact jx_iret (pc := 51) dX5_tale_51
      · have h := jx_t c5 h
        refine jx_iconst (pc := 37) (v := (-1 : Int32)) (by decide) dX5_tale_37 ?_
        have h := Option.some.inj h
        subst h
        exact jx_iret (pc := 38) dX5_tale_38
  · have h := jx_t c1 h
    refine jx_aload_n (pc := 5) (k0 := 0) rfl dX5_tale_5 ?_
    refine ll_glamp_now (pc := 6) fl_X5_12 dX5_tale_6 ?_
    refine jx_iconst (pc := 9) (v := (0 : Int32)) (by decide) dX5_tale_9 ?_
    obtain ⟨σ16, eσ16, h⟩ := jx_lt_o h
    refine ll_pnow_tales (pc := 10) hG fl_X5_217 eσ16 dX5_tale_10 ?_
    refine jx_iconst (pc := 13) (v := (0 : Int32)) (by decide) dX5_tale_13 ?_
    have h := Option.some.inj h
    subst h
    exact jx_iret (pc := 14) dX5_tale_14
theorem dX5_trace_0 : decode cX5_trace 0 = .ok (.iload_n 1, 1) := by decide +kernel
theorem dX5_trace_1 : decode cX5_trace 1 = .ok (.iconst 0, 1) := by decide +kernel
theorem dX5_trace_2 : decode cX5_trace 2 = .ok (.aload_n 0, 1) := by decide +kernel
theorem dX5_trace_3 : decode cX5_trace 3 = .ok (.getfield 33, 3) := by decide +kernel
theorem dX5_trace_6 : decode cX5_trace 6 = .ok (.invokevirtual 238, 3) := by decide +kernel
theorem dX5_trace_9 : decode cX5_trace 9 = .ok (.iconst 1, 1) := by decide +kernel
theorem dX5_trace_10 : decode cX5_trace 10 = .ok (.isub, 1) := by decide +kernel
theorem dX5_trace_11 : decode cX5_trace 11 = .ok (.invokestatic 48, 3) := by decide +kernel
theorem dX5_trace_14 : decode cX5_trace 14 = .ok (.ifCond .eq 15, 3) := by decide +kernel
theorem dX5_trace_17 : decode cX5_trace 17 = .ok (.aload_n 0, 1) := by decide +kernel
theorem dX5_trace_18 : decode cX5_trace 18 = .ok (.getfield 33, 3) := by decide +kernel
theorem dX5_trace_21 : decode cX5_trace 21 = .ok (.getfield 241, 3) := by decide +kernel
theorem dX5_trace_24 : decode cX5_trace 24 = .ok (.iload_n 1, 1) := by decide +kernel
theorem dX5_trace_25 : decode cX5_trace 25 = .ok (.iaload, 1) := by decide +kernel
theorem dX5_trace_26 : decode cX5_trace 26 = .ok (.goto 4, 3) := by decide +kernel
theorem dX5_trace_29 : decode cX5_trace 29 = .ok (.iconst (-1), 1) := by decide +kernel
theorem dX5_trace_30 : decode cX5_trace 30 = .ok (.ireturn, 1) := by decide +kernel
abbrev rm_X5_trace : Room := { frames := 2, cells := 0, slots := 0, locals := 41 }
abbrev jJ_X5_trace (l : Launch) (G : jx_G) (t : jx_T) (sz : Nat) (σ0 : jx_M) (out : Int32) (pc : Nat) (lv : List (Nat × Value)) (st : List Value) (σ : jx_M) : Prop := jx_J l (ll_env G t) (ll_dyn G t) (ll_rg G) sz RX5 "trace" cX5_trace 2 (some .int) rm_X5_trace (fun below args s => MQ below (jx_Qi (ll_dyn G t) σ0 out (jx_A (ll_rg G) sz)) args s 0 0 (jx_A (ll_rg G) sz)) 0 0 pc lv st σ
def f_X5_trace (t : jx_T) (σ : jx_M) (a1 : Int32) : Option Int32 :=
  jx_bd (f_X0_kept t σ) (fun q1 => jx_bd (f_X5_within a1 (0 : Int32) (q1 - (1 : Int32))) (fun q2 => if q2 = 0 then some (-1 : Int32) else jx_gd (jx_in a1 20) (some (σ 60 a1.toNatClampNeg))))
set_option maxHeartbeats 4000000 in
set_option maxRecDepth 100000 in
theorem k_X5_trace (l : Launch) (G : jx_G) (t : jx_T) (hG : ll_ok G) (sz : Nat) (σ : jx_M) (a1 : Int32) (out : Int32) (h : f_X5_trace t σ a1 = some out) : Met l yX5_trace (Cond.code yX5_trace cX5_trace 2 (some .int) :: jx_ws) rm_X5_trace (jx_Pc (ll_env G t) (ll_dyn G t) (ll_rg G) sz σ [.ref (G.2 20), .int a1]) (jx_Qi (ll_dyn G t) σ out (jx_A (ll_rg G) sz)) 0 0 (jx_A (ll_rg G) sz) := by
  unfold f_X5_trace at h
  refine jx_met (by decide) (Nat.le_of_ble_eq_true rfl) ?_
  refine jx_sub (lv' := [(0, .ref (G.2 20)), (1, .int a1)]) [0, 1] rfl ?_
  refine jx_iload_n (pc := 0) (k0 := 1) rfl dX5_trace_0 ?_
  refine jx_iconst (pc := 1) (v := (0 : Int32)) (by decide) dX5_trace_1 ?_
  refine jx_aload_n (pc := 2) (k0 := 0) rfl dX5_trace_2 ?_
  refine ll_glamp_acts (pc := 3) fl_X5_33 dX5_trace_3 ?_
  obtain ⟨q1, eq1, h⟩ := jx_bd_o h
  refine jx_callVi (pc := 6) [] (fun sz' => k_X0_kept l G t hG sz' σ q1 eq1) kv_X5_238 ll_jok ll_rcacts rfl rfl (Nat.le_of_ble_eq_true rfl) ⟨⟨rfl, rfl⟩, ⟨Nat.le_of_ble_eq_true rfl, Nat.le_of_ble_eq_true rfl⟩, Nat.zero_le _, Nat.zero_le _⟩ dX5_trace_6 ?_
  refine jx_iconst (pc := 9) (v := (1 : Int32)) (by decide) dX5_trace_9 ?_
  refine jx_isub (pc := 10) dX5_trace_10 ?_
  obtain ⟨q2, eq2, h⟩ := jx_bd_o h
  refine jx_callSi (pc := 11) [.int a1, .int (0 : Int32), .int (q1 - (1 : Int32))] (fun sz' => k_X5_within l G t hG sz' σ a1 (0 : Int32) (q1 - (1 : Int32)) q2 eq2) ks_X5_48 ll_jok rfl rfl (Nat.le_of_ble_eq_true rfl) ⟨⟨rfl, rfl⟩, ⟨Nat.le_of_ble_eq_true rfl, Nat.le_of_ble_eq_true rfl⟩, Nat.zero_le _, Nat.zero_le _⟩ dX5_trace_11 ?_
  refine jx_if_eq (pc := 14) (tgt := 29) dX5_trace_14 (by decide) (fun c3 => ?_) (fun c3 => ?_)
  · have h := jx_t c3 h
    refine jx_iconst (pc := 29) (v := (-1 : Int32)) (by decide) dX5_trace_29 ?_
    have h := Option.some.inj h
    subst h
    exact jx_iret (pc := 30) dX5_trace_30
  · have h := jx_f c3 h
    refine jx_aload_n (pc := 17) (k0 := 0) rfl dX5_trace_17 ?_
    refine ll_glamp_acts (pc := 18) fl_X5_33 dX5_trace_18 ?_
    refine ll_gacts_bodies (pc := 21) fl_X5_241 dX5_trace_21 ?_
    refine jx_iload_n (pc := 24) (k0 := 1) rfl dX5_trace_24 ?_
    obtain ⟨g4, h⟩ := jx_gd_o h
    refine ll_l (pc := 25) (k := 60) (jx_in_o g4) rfl dX5_trace_25 ?_
    refine jx_goto (pc := 26) (tgt := 30) dX5_trace_26 (by decide) ?_
    have h := Option.some.inj h
    subst h
    exact jx_iret (pc := 30) dX5_trace_30
theorem dX5_as_0 : decode cX5_as 0 = .ok (.aload_n 0, 1) := by decide +kernel
theorem dX5_as_1 : decode cX5_as 1 = .ok (.getfield 12, 3) := by decide +kernel
theorem dX5_as_4 : decode cX5_as 4 = .ok (.iload_n 1, 1) := by decide +kernel
theorem dX5_as_5 : decode cX5_as 5 = .ok (.invokevirtual 119, 3) := by decide +kernel
theorem dX5_as_8 : decode cX5_as 8 = .ok (.ifCond .eq 13, 3) := by decide +kernel
theorem dX5_as_11 : decode cX5_as 11 = .ok (.iload_n 2, 1) := by decide +kernel
theorem dX5_as_12 : decode cX5_as 12 = .ok (.iconst 0, 1) := by decide +kernel
theorem dX5_as_13 : decode cX5_as 13 = .ok (.bipush 6, 2) := by decide +kernel
theorem dX5_as_15 : decode cX5_as 15 = .ok (.invokestatic 48, 3) := by decide +kernel
theorem dX5_as_18 : decode cX5_as 18 = .ok (.ifCond .ne 5, 3) := by decide +kernel
theorem dX5_as_21 : decode cX5_as 21 = .ok (.iconst (-1), 1) := by decide +kernel
theorem dX5_as_22 : decode cX5_as 22 = .ok (.ireturn, 1) := by decide +kernel
theorem dX5_as_23 : decode cX5_as 23 = .ok (.aload_n 0, 1) := by decide +kernel
theorem dX5_as_24 : decode cX5_as 24 = .ok (.getfield 12, 3) := by decide +kernel
theorem dX5_as_27 : decode cX5_as 27 = .ok (.getfield 110, 3) := by decide +kernel
theorem dX5_as_30 : decode cX5_as 30 = .ok (.iload_n 1, 1) := by decide +kernel
theorem dX5_as_31 : decode cX5_as 31 = .ok (.aaload, 1) := by decide +kernel
theorem dX5_as_32 : decode cX5_as 32 = .ok (.astore_n 3, 1) := by decide +kernel
theorem dX5_as_33 : decode cX5_as 33 = .ok (.aload_n 3, 1) := by decide +kernel
theorem dX5_as_34 : decode cX5_as 34 = .ok (.iconst 0, 1) := by decide +kernel
theorem dX5_as_35 : decode cX5_as 35 = .ok (.iaload, 1) := by decide +kernel
theorem dX5_as_36 : decode cX5_as 36 = .ok (.iload_n 2, 1) := by decide +kernel
theorem dX5_as_37 : decode cX5_as 37 = .ok (.invokestatic 244, 3) := by decide +kernel
theorem dX5_as_40 : decode cX5_as 40 = .ok (.ifCond .eq 9, 3) := by decide +kernel
theorem dX5_as_43 : decode cX5_as 43 = .ok (.aload_n 3, 1) := by decide +kernel
theorem dX5_as_44 : decode cX5_as 44 = .ok (.iconst 1, 1) := by decide +kernel
theorem dX5_as_45 : decode cX5_as 45 = .ok (.iaload, 1) := by decide +kernel
theorem dX5_as_46 : decode cX5_as 46 = .ok (.goto 5, 3) := by decide +kernel
theorem dX5_as_49 : decode cX5_as 49 = .ok (.bipush (-6), 2) := by decide +kernel
theorem dX5_as_51 : decode cX5_as 51 = .ok (.ireturn, 1) := by decide +kernel
abbrev rm_X5_as : Room := { frames := 1, cells := 0, slots := 0, locals := 23 }
abbrev jJ_X5_as (l : Launch) (G : jx_G) (t : jx_T) (sz : Nat) (σ0 : jx_M) (out : Int32) (pc : Nat) (lv : List (Nat × Value)) (st : List Value) (σ : jx_M) : Prop := jx_J l (ll_env G t) (ll_dyn G t) (ll_rg G) sz RX5 "as" cX5_as 4 (some .int) rm_X5_as (fun below args s => MQ below (jx_Qi (ll_dyn G t) σ0 out (jx_A (ll_rg G) sz)) args s 0 0 (jx_A (ll_rg G) sz)) 0 0 pc lv st σ
def f_X5_as (t : jx_T) (σ : jx_M) (a1 : Int32) (a2 : Int32) : Option Int32 :=
  jx_bd (f_X1_hasVoter t σ a1) (fun q1 => if q1 = 0 then some (-1 : Int32) else jx_bd (f_X5_within a2 (0 : Int32) (6 : Int32)) (fun q3 => if q3 = 0 then some (-1 : Int32) else jx_gd (jx_in a1 6) (jx_gd (jx_in (0 : Int32) (ll_len (8 + a1.toNatClampNeg))) (jx_bd (f_X0_isUnder t σ (σ (8 + a1.toNatClampNeg) 0) a2) (fun q7 => if q7 = 0 then some (-6 : Int32) else jx_gd (jx_in (1 : Int32) (ll_len (8 + a1.toNatClampNeg))) (some (σ (8 + a1.toNatClampNeg) 1)))))))
set_option maxHeartbeats 4000000 in
set_option maxRecDepth 100000 in
theorem k_X5_as (l : Launch) (G : jx_G) (t : jx_T) (hG : ll_ok G) (sz : Nat) (σ : jx_M) (a1 : Int32) (a2 : Int32) (out : Int32) (h : f_X5_as t σ a1 a2 = some out) : Met l yX5_as (Cond.code yX5_as cX5_as 4 (some .int) :: jx_ws) rm_X5_as (jx_Pc (ll_env G t) (ll_dyn G t) (ll_rg G) sz σ [.ref (G.2 20), .int a1, .int a2]) (jx_Qi (ll_dyn G t) σ out (jx_A (ll_rg G) sz)) 0 0 (jx_A (ll_rg G) sz) := by
  unfold f_X5_as at h
  refine jx_met (by decide) (Nat.le_of_ble_eq_true rfl) ?_
  refine jx_sub (lv' := [(0, .ref (G.2 20)), (1, .int a1), (2, .int a2)]) [0, 1, 2] rfl ?_
  refine jx_aload_n (pc := 0) (k0 := 0) rfl dX5_as_0 ?_
  refine ll_glamp_now (pc := 1) fl_X5_12 dX5_as_1 ?_
  refine jx_iload_n (pc := 4) (k0 := 1) rfl dX5_as_4 ?_
  obtain ⟨q1, eq1, h⟩ := jx_bd_o h
  refine jx_callVi (pc := 5) [.int a1] (fun sz' => k_X1_hasVoter l G t hG sz' σ a1 q1 eq1) kv_X5_119 ll_jok ll_rcnow rfl rfl (Nat.le_of_ble_eq_true rfl) ⟨⟨rfl, rfl⟩, ⟨Nat.le_of_ble_eq_true rfl, Nat.le_of_ble_eq_true rfl⟩, Nat.zero_le _, Nat.zero_le _⟩ dX5_as_5 ?_
  refine jx_if_eq (pc := 8) (tgt := 21) dX5_as_8 (by decide) (fun c2 => ?_) (fun c2 => ?_)
  · have h := jx_t c2 h
    refine jx_iconst (pc := 21) (v := (-1 : Int32)) (by decide) dX5_as_21 ?_
    have h := Option.some.inj h
    subst h
    exact jx_iret (pc := 22) dX5_as_22
  · have h := jx_f c2 h
    refine jx_iload_n (pc := 11) (k0 := 2) rfl dX5_as_11 ?_
    refine jx_iconst (pc := 12) (v := (0 : Int32)) (by decide) dX5_as_12 ?_
    refine jx_bipush (pc := 13) (v := (6 : Int32)) (by decide) dX5_as_13 ?_
    obtain ⟨q3, eq3, h⟩ := jx_bd_o h
    refine jx_callSi (pc := 15) [.int a2, .int (0 : Int32), .int (6 : Int32)] (fun sz' => k_X5_within l G t hG sz' σ a2 (0 : Int32) (6 : Int32) q3 eq3) ks_X5_48 ll_jok rfl rfl (Nat.le_of_ble_eq_true rfl) ⟨⟨rfl, rfl⟩, ⟨Nat.le_of_ble_eq_true rfl, Nat.le_of_ble_eq_true rfl⟩, Nat.zero_le _, Nat.zero_le _⟩ dX5_as_15 ?_
    refine jx_if_ne (pc := 18) (tgt := 23) dX5_as_18 (by decide) (fun c4 => ?_) (fun c4 => ?_)
    · have h := jx_f c4 h
      refine jx_aload_n (pc := 23) (k0 := 0) rfl dX5_as_23 ?_
      refine ll_glamp_now (pc := 24) fl_X5_12 dX5_as_24 ?_
      refine ll_gnow_voter (pc := 27) fl_X5_110 dX5_as_27 ?_
      refine jx_iload_n (pc := 30) (k0 := 1) rfl dX5_as_30 ?_
      obtain ⟨g5, h⟩ := jx_gd_o h
      refine ll_a_now_voter (pc := 31) (jx_in_o g5) dX5_as_31 ?_
      refine jx_astore_n (pc := 32) (i := 3) rfl rfl (by decide) (lv' := [(3, .ref (G.2 (100 + (8 + a1.toNatClampNeg)))), (0, .ref (G.2 20)), (1, .int a1), (2, .int a2)]) rfl dX5_as_32 ?_
      refine jx_aload_n (pc := 33) (k0 := 3) rfl dX5_as_33 ?_
      refine jx_iconst (pc := 34) (v := (0 : Int32)) (by decide) dX5_as_34 ?_
      obtain ⟨g6, h⟩ := jx_gd_o h
      refine ll_l (pc := 35) (k := (8 + a1.toNatClampNeg)) (j := 0) (jx_in_o g6) (by decide) dX5_as_35 ?_
      refine jx_iload_n (pc := 36) (k0 := 2) rfl dX5_as_36 ?_
      obtain ⟨q7, eq7, h⟩ := jx_bd_o h
      refine jx_callSi (pc := 37) [.int (σ (8 + a1.toNatClampNeg) 0), .int a2] (fun sz' => k_X0_isUnder l G t hG sz' σ (σ (8 + a1.toNatClampNeg) 0) a2 q7 eq7) ks_X5_244 ll_jok rfl rfl (Nat.le_of_ble_eq_true rfl) ⟨⟨rfl, rfl⟩, ⟨Nat.le_of_ble_eq_true rfl, Nat.le_of_ble_eq_true rfl⟩, Nat.zero_le _, Nat.zero_le _⟩ dX5_as_37 ?_
      refine jx_if_eq (pc := 40) (tgt := 49) dX5_as_40 (by decide) (fun c8 => ?_) (fun c8 => ?_)
      · have h := jx_t c8 h
        refine jx_bipush (pc := 49) (v := (-6 : Int32)) (by decide) dX5_as_49 ?_
        have h := Option.some.inj h
        subst h
        exact jx_iret (pc := 51) dX5_as_51
      · have h := jx_f c8 h
        refine jx_aload_n (pc := 43) (k0 := 3) rfl dX5_as_43 ?_
        refine jx_iconst (pc := 44) (v := (1 : Int32)) (by decide) dX5_as_44 ?_
        obtain ⟨g9, h⟩ := jx_gd_o h
        refine ll_l (pc := 45) (k := (8 + a1.toNatClampNeg)) (j := 1) (jx_in_o g9) (by decide) dX5_as_45 ?_
        refine jx_goto (pc := 46) (tgt := 51) dX5_as_46 (by decide) ?_
        have h := Option.some.inj h
        subst h
        exact jx_iret (pc := 51) dX5_as_51
    · have h := jx_t c4 h
      refine jx_iconst (pc := 21) (v := (-1 : Int32)) (by decide) dX5_as_21 ?_
      have h := Option.some.inj h
      subst h
      exact jx_iret (pc := 22) dX5_as_22
theorem dX0_answer_0 : decode cX0_answer 0 = .ok (.aload_n 0, 1) := by decide +kernel
theorem dX0_answer_1 : decode cX0_answer 1 = .ok (.iload_n 1, 1) := by decide +kernel
theorem dX0_answer_2 : decode cX0_answer 2 = .ok (.aload_n 0, 1) := by decide +kernel
theorem dX0_answer_3 : decode cX0_answer 3 = .ok (.getfield 19, 3) := by decide +kernel
theorem dX0_answer_6 : decode cX0_answer 6 = .ok (.getfield 35, 3) := by decide +kernel
theorem dX0_answer_9 : decode cX0_answer 9 = .ok (.iload_n 1, 1) := by decide +kernel
theorem dX0_answer_10 : decode cX0_answer 10 = .ok (.aaload, 1) := by decide +kernel
theorem dX0_answer_11 : decode cX0_answer 11 = .ok (.iconst 0, 1) := by decide +kernel
theorem dX0_answer_12 : decode cX0_answer 12 = .ok (.iaload, 1) := by decide +kernel
theorem dX0_answer_13 : decode cX0_answer 13 = .ok (.iload_n 2, 1) := by decide +kernel
theorem dX0_answer_14 : decode cX0_answer 14 = .ok (.iload_n 3, 1) := by decide +kernel
theorem dX0_answer_15 : decode cX0_answer 15 = .ok (.iconst 0, 1) := by decide +kernel
theorem dX0_answer_16 : decode cX0_answer 16 = .ok (.invokevirtual 41, 3) := by decide +kernel
theorem dX0_answer_19 : decode cX0_answer 19 = .ok (.ireturn, 1) := by decide +kernel
abbrev rm_X0_answer : Room := { frames := 26, cells := 0, slots := 0, locals := 780 }
abbrev jJ_X0_answer (l : Launch) (G : jx_G) (t : jx_T) (sz : Nat) (out : (Int32 × jx_M)) (pc : Nat) (lv : List (Nat × Value)) (st : List Value) (σ : jx_M) : Prop := jx_J l (ll_env G t) (ll_dyn G t) (ll_rg G) sz RX0 "answer" cX0_answer 4 (some .int) rm_X0_answer (fun below args s => MQ below (jx_Qi (ll_dyn G t) out.2 out.1 (jx_A (ll_rg G) sz)) args s 0 0 (jx_A (ll_rg G) sz)) 0 0 pc lv st σ
def f_X0_answer (t : jx_T) (σ : jx_M) (a1 : Int32) (a2 : Int32) (a3 : Int32) : Option (Int32 × jx_M) :=
  jx_gd (jx_in a1 6) (jx_gd (jx_in (0 : Int32) (ll_len (8 + a1.toNatClampNeg))) (jx_bd (f_X0_run t 25 σ a1 (σ (8 + a1.toNatClampNeg) 0) a2 a3 (0 : Int32)) (fun q3 => some (q3.1, q3.2))))
set_option maxHeartbeats 4000000 in
set_option maxRecDepth 100000 in
theorem k_X0_answer (l : Launch) (G : jx_G) (t : jx_T) (hG : ll_ok G) (sz : Nat) (σ : jx_M) (a1 : Int32) (a2 : Int32) (a3 : Int32) (out : (Int32 × jx_M)) (h : f_X0_answer t σ a1 a2 a3 = some out) : Met l yX0_answer (Cond.code yX0_answer cX0_answer 4 (some .int) :: jx_ws) rm_X0_answer (jx_Pc (ll_env G t) (ll_dyn G t) (ll_rg G) sz σ [.ref (G.2 24), .int a1, .int a2, .int a3]) (jx_Qi (ll_dyn G t) out.2 out.1 (jx_A (ll_rg G) sz)) 0 0 (jx_A (ll_rg G) sz) := by
  unfold f_X0_answer at h
  refine jx_met (by decide) (Nat.le_of_ble_eq_true rfl) ?_
  refine jx_sub (lv' := [(0, .ref (G.2 24)), (1, .int a1), (2, .int a2), (3, .int a3)]) [0, 1, 2, 3] rfl ?_
  refine jx_aload_n (pc := 0) (k0 := 0) rfl dX0_answer_0 ?_
  refine jx_iload_n (pc := 1) (k0 := 1) rfl dX0_answer_1 ?_
  refine jx_aload_n (pc := 2) (k0 := 0) rfl dX0_answer_2 ?_
  refine ll_gacts_canal (pc := 3) fl_X0_19 dX0_answer_3 ?_
  refine ll_gnow_voter (pc := 6) fl_X0_35 dX0_answer_6 ?_
  refine jx_iload_n (pc := 9) (k0 := 1) rfl dX0_answer_9 ?_
  obtain ⟨g1, h⟩ := jx_gd_o h
  refine ll_a_now_voter (pc := 10) (jx_in_o g1) dX0_answer_10 ?_
  refine jx_iconst (pc := 11) (v := (0 : Int32)) (by decide) dX0_answer_11 ?_
  obtain ⟨g2, h⟩ := jx_gd_o h
  refine ll_l (pc := 12) (k := (8 + a1.toNatClampNeg)) (j := 0) (jx_in_o g2) (by decide) dX0_answer_12 ?_
  refine jx_iload_n (pc := 13) (k0 := 2) rfl dX0_answer_13 ?_
  refine jx_iload_n (pc := 14) (k0 := 3) rfl dX0_answer_14 ?_
  refine jx_iconst (pc := 15) (v := (0 : Int32)) (by decide) dX0_answer_15 ?_
  obtain ⟨q3, eq3, h⟩ := jx_bd_o h
  refine jx_callVi (pc := 16) [.int a1, .int (σ (8 + a1.toNatClampNeg) 0), .int a2, .int a3, .int (0 : Int32)] (fun sz' => k_X0_run l G t hG 25 sz' σ a1 (σ (8 + a1.toNatClampNeg) 0) a2 a3 (0 : Int32) q3 eq3) kv_X0_41 ll_jok ll_rcacts rfl rfl (Nat.le_of_ble_eq_true rfl) ⟨⟨rfl, rfl⟩, ⟨Nat.le_of_ble_eq_true rfl, Nat.le_of_ble_eq_true rfl⟩, Nat.zero_le _, Nat.zero_le _⟩ dX0_answer_16 ?_
  have h := Option.some.inj h
  subst h
  exact jx_iret (pc := 19) dX0_answer_19
theorem dX1_holdsBack_0 : decode cX1_holdsBack 0 = .ok (.aload_n 0, 1) := by decide +kernel
theorem dX1_holdsBack_1 : decode cX1_holdsBack 1 = .ok (.getfield 39, 3) := by decide +kernel
theorem dX1_holdsBack_4 : decode cX1_holdsBack 4 = .ok (.iconst 1, 1) := by decide +kernel
theorem dX1_holdsBack_5 : decode cX1_holdsBack 5 = .ok (.aload_n 0, 1) := by decide +kernel
theorem dX1_holdsBack_6 : decode cX1_holdsBack 6 = .ok (.iload_n 1, 1) := by decide +kernel
theorem dX1_holdsBack_7 : decode cX1_holdsBack 7 = .ok (.iload_n 2, 1) := by decide +kernel
theorem dX1_holdsBack_8 : decode cX1_holdsBack 8 = .ok (.invokevirtual 94, 3) := by decide +kernel
theorem dX1_holdsBack_11 : decode cX1_holdsBack 11 = .ok (.invokevirtual 98, 3) := by decide +kernel
theorem dX1_holdsBack_14 : decode cX1_holdsBack 14 = .ok (.ireturn, 1) := by decide +kernel
abbrev rm_X1_holdsBack : Room := { frames := 2, cells := 0, slots := 0, locals := 50 }
abbrev jJ_X1_holdsBack (l : Launch) (G : jx_G) (t : jx_T) (sz : Nat) (out : (Int32 × jx_M)) (pc : Nat) (lv : List (Nat × Value)) (st : List Value) (σ : jx_M) : Prop := jx_J l (ll_env G t) (ll_dyn G t) (ll_rg G) sz RX1 "holdsBack" cX1_holdsBack 3 (some .boolean) rm_X1_holdsBack (fun below args s => MQ below (jx_Qi (ll_dyn G t) out.2 out.1 (jx_A (ll_rg G) sz)) args s 0 0 (jx_A (ll_rg G) sz)) 0 0 pc lv st σ
def f_X1_holdsBack (t : jx_T) (σ : jx_M) (a1 : Int32) (a2 : Int32) : Option (Int32 × jx_M) :=
  jx_bd (f_X1_look t σ a1 a2) (fun q1 => jx_bd (f_X4_any t q1.2 (1 : Int32) q1.1) (fun q2 => jx_gd (decide (q2 = 0 ∨ q2 = 1)) (some (q2, q1.2))))
set_option maxHeartbeats 4000000 in
set_option maxRecDepth 100000 in
theorem k_X1_holdsBack (l : Launch) (G : jx_G) (t : jx_T) (hG : ll_ok G) (sz : Nat) (σ : jx_M) (a1 : Int32) (a2 : Int32) (out : (Int32 × jx_M)) (h : f_X1_holdsBack t σ a1 a2 = some out) : Met l yX1_holdsBack (Cond.code yX1_holdsBack cX1_holdsBack 3 (some .boolean) :: jx_ws) rm_X1_holdsBack (jx_Pc (ll_env G t) (ll_dyn G t) (ll_rg G) sz σ [.ref (G.2 21), .int a1, .int a2]) (jx_Qi (ll_dyn G t) out.2 out.1 (jx_A (ll_rg G) sz)) 0 0 (jx_A (ll_rg G) sz) := by
  unfold f_X1_holdsBack at h
  refine jx_met (by decide) (Nat.le_of_ble_eq_true rfl) ?_
  refine jx_sub (lv' := [(0, .ref (G.2 21)), (1, .int a1), (2, .int a2)]) [0, 1, 2] rfl ?_
  refine jx_aload_n (pc := 0) (k0 := 0) rfl dX1_holdsBack_0 ?_
  refine ll_gnow_newest (pc := 1) fl_X1_39 dX1_holdsBack_1 ?_
  refine jx_iconst (pc := 4) (v := (1 : Int32)) (by decide) dX1_holdsBack_4 ?_
  refine jx_aload_n (pc := 5) (k0 := 0) rfl dX1_holdsBack_5 ?_
  refine jx_iload_n (pc := 6) (k0 := 1) rfl dX1_holdsBack_6 ?_
  refine jx_iload_n (pc := 7) (k0 := 2) rfl dX1_holdsBack_7 ?_
  obtain ⟨q1, eq1, h⟩ := jx_bd_o h
  refine jx_callVr (pc := 8) [.int a1, .int a2] (fun sz' => k_X1_look l G t hG sz' σ a1 a2 q1 eq1) kv_X1_94 ll_jok ll_rcnow rfl rfl (Nat.le_of_ble_eq_true rfl) ⟨⟨rfl, rfl⟩, ⟨Nat.le_of_ble_eq_true rfl, Nat.le_of_ble_eq_true rfl⟩, Nat.zero_le _, Nat.zero_le _⟩ dX1_holdsBack_8 ?_
  obtain ⟨q2, eq2, h⟩ := jx_bd_o h
  refine jx_callVi (pc := 11) [.int (1 : Int32), .ref (G.2 (100 + q1.1))] (fun sz' => k_X4_any l G t hG sz' q1.2 (1 : Int32) q1.1 q2 eq2) kv_X1_98 ll_jok ll_rctide rfl rfl (Nat.le_of_ble_eq_true rfl) ⟨⟨rfl, rfl⟩, ⟨Nat.le_of_ble_eq_true rfl, Nat.le_of_ble_eq_true rfl⟩, Nat.zero_le _, Nat.zero_le _⟩ dX1_holdsBack_11 ?_
  obtain ⟨g3, h⟩ := jx_gd_o h
  have h := Option.some.inj h
  subst h
  exact jx_zret (pc := 14) (of_decide_eq_true g3) dX1_holdsBack_14
theorem dX1_goal_0 : decode cX1_goal 0 = .ok (.aload_n 0, 1) := by decide +kernel
theorem dX1_goal_1 : decode cX1_goal 1 = .ok (.iload_n 1, 1) := by decide +kernel
theorem dX1_goal_2 : decode cX1_goal 2 = .ok (.iload_n 2, 1) := by decide +kernel
theorem dX1_goal_3 : decode cX1_goal 3 = .ok (.invokevirtual 94, 3) := by decide +kernel
theorem dX1_goal_6 : decode cX1_goal 6 = .ok (.astore_n 3, 1) := by decide +kernel
theorem dX1_goal_7 : decode cX1_goal 7 = .ok (.aload_n 0, 1) := by decide +kernel
theorem dX1_goal_8 : decode cX1_goal 8 = .ok (.getfield 39, 3) := by decide +kernel
theorem dX1_goal_11 : decode cX1_goal 11 = .ok (.iconst 1, 1) := by decide +kernel
theorem dX1_goal_12 : decode cX1_goal 12 = .ok (.aload_n 3, 1) := by decide +kernel
theorem dX1_goal_13 : decode cX1_goal 13 = .ok (.invokevirtual 98, 3) := by decide +kernel
theorem dX1_goal_16 : decode cX1_goal 16 = .ok (.ifCond .eq 5, 3) := by decide +kernel
theorem dX1_goal_19 : decode cX1_goal 19 = .ok (.iload_n 1, 1) := by decide +kernel
theorem dX1_goal_20 : decode cX1_goal 20 = .ok (.ireturn, 1) := by decide +kernel
theorem dX1_goal_21 : decode cX1_goal 21 = .ok (.aload_n 0, 1) := by decide +kernel
theorem dX1_goal_22 : decode cX1_goal 22 = .ok (.getfield 11, 3) := by decide +kernel
theorem dX1_goal_25 : decode cX1_goal 25 = .ok (.iload_n 1, 1) := by decide +kernel
theorem dX1_goal_26 : decode cX1_goal 26 = .ok (.aaload, 1) := by decide +kernel
theorem dX1_goal_27 : decode cX1_goal 27 = .ok (.iconst 1, 1) := by decide +kernel
theorem dX1_goal_28 : decode cX1_goal 28 = .ok (.iaload, 1) := by decide +kernel
theorem dX1_goal_29 : decode cX1_goal 29 = .ok (.istore 4, 2) := by decide +kernel
theorem dX1_goal_31 : decode cX1_goal 31 = .ok (.aload_n 0, 1) := by decide +kernel
theorem dX1_goal_32 : decode cX1_goal 32 = .ok (.iload 4, 2) := by decide +kernel
theorem dX1_goal_34 : decode cX1_goal 34 = .ok (.invokevirtual 102, 3) := by decide +kernel
theorem dX1_goal_37 : decode cX1_goal 37 = .ok (.ifCond .eq 20, 3) := by decide +kernel
theorem dX1_goal_40 : decode cX1_goal 40 = .ok (.aload_n 0, 1) := by decide +kernel
theorem dX1_goal_41 : decode cX1_goal 41 = .ok (.getfield 39, 3) := by decide +kernel
theorem dX1_goal_44 : decode cX1_goal 44 = .ok (.iconst 0, 1) := by decide +kernel
theorem dX1_goal_45 : decode cX1_goal 45 = .ok (.aload_n 3, 1) := by decide +kernel
theorem dX1_goal_46 : decode cX1_goal 46 = .ok (.invokevirtual 98, 3) := by decide +kernel
theorem dX1_goal_49 : decode cX1_goal 49 = .ok (.ifCond .eq 8, 3) := by decide +kernel
theorem dX1_goal_52 : decode cX1_goal 52 = .ok (.iload 4, 2) := by decide +kernel
theorem dX1_goal_54 : decode cX1_goal 54 = .ok (.goto 11, 3) := by decide +kernel
theorem dX1_goal_57 : decode cX1_goal 57 = .ok (.aload_n 0, 1) := by decide +kernel
theorem dX1_goal_58 : decode cX1_goal 58 = .ok (.getfield 11, 3) := by decide +kernel
theorem dX1_goal_61 : decode cX1_goal 61 = .ok (.iload_n 1, 1) := by decide +kernel
theorem dX1_goal_62 : decode cX1_goal 62 = .ok (.aaload, 1) := by decide +kernel
theorem dX1_goal_63 : decode cX1_goal 63 = .ok (.iconst 0, 1) := by decide +kernel
theorem dX1_goal_64 : decode cX1_goal 64 = .ok (.iaload, 1) := by decide +kernel
theorem dX1_goal_65 : decode cX1_goal 65 = .ok (.ireturn, 1) := by decide +kernel
abbrev rm_X1_goal : Room := { frames := 2, cells := 0, slots := 0, locals := 50 }
abbrev jJ_X1_goal (l : Launch) (G : jx_G) (t : jx_T) (sz : Nat) (out : (Int32 × jx_M)) (pc : Nat) (lv : List (Nat × Value)) (st : List Value) (σ : jx_M) : Prop := jx_J l (ll_env G t) (ll_dyn G t) (ll_rg G) sz RX1 "goal" cX1_goal 5 (some .int) rm_X1_goal (fun below args s => MQ below (jx_Qi (ll_dyn G t) out.2 out.1 (jx_A (ll_rg G) sz)) args s 0 0 (jx_A (ll_rg G) sz)) 0 0 pc lv st σ
def f_X1_goal (t : jx_T) (σ : jx_M) (a1 : Int32) (a2 : Int32) : Option (Int32 × jx_M) :=
  jx_bd (f_X1_look t σ a1 a2) (fun q1 => jx_bd (f_X4_any t q1.2 (1 : Int32) q1.1) (fun q2 => if q2 = 0 then jx_gd (jx_in a1 7) (jx_gd (jx_in (1 : Int32) (ll_len (1 + a1.toNatClampNeg))) (jx_lt ((q1.2 (1 + a1.toNatClampNeg) 1)) (fun x6 => jx_bd (f_X1_hasPlace t q1.2 x6) (fun q7 => if q7 = 0 then jx_gd (jx_in a1 7) (jx_gd (jx_in (0 : Int32) (ll_len (1 + a1.toNatClampNeg))) (some ((q1.2 (1 + a1.toNatClampNeg) 0), q1.2))) else jx_bd (f_X4_any t q1.2 (0 : Int32) q1.1) (fun q11 => if q11 = 0 then jx_gd (jx_in a1 7) (jx_gd (jx_in (0 : Int32) (ll_len (1 + a1.toNatClampNeg))) (some ((q1.2 (1 + a1.toNatClampNeg) 0), q1.2))) else some (x6, q1.2)))))) else some (a1, q1.2)))
set_option maxHeartbeats 4000000 in
set_option maxRecDepth 100000 in
theorem k_X1_goal (l : Launch) (G : jx_G) (t : jx_T) (hG : ll_ok G) (sz : Nat) (σ : jx_M) (a1 : Int32) (a2 : Int32) (out : (Int32 × jx_M)) (h : f_X1_goal t σ a1 a2 = some out) : Met l yX1_goal (Cond.code yX1_goal cX1_goal 5 (some .int) :: jx_ws) rm_X1_goal (jx_Pc (ll_env G t) (ll_dyn G t) (ll_rg G) sz σ [.ref (G.2 21), .int a1, .int a2]) (jx_Qi (ll_dyn G t) out.2 out.1 (jx_A (ll_rg G) sz)) 0 0 (jx_A (ll_rg G) sz) := by
  unfold f_X1_goal at h
  refine jx_met (by decide) (Nat.le_of_ble_eq_true rfl) ?_
  refine jx_sub (lv' := [(0, .ref (G.2 21)), (1, .int a1), (2, .int a2)]) [0, 1, 2] rfl ?_
  refine jx_aload_n (pc := 0) (k0 := 0) rfl dX1_goal_0 ?_
  refine jx_iload_n (pc := 1) (k0 := 1) rfl dX1_goal_1 ?_
  refine jx_iload_n (pc := 2) (k0 := 2) rfl dX1_goal_2 ?_
  obtain ⟨q1, eq1, h⟩ := jx_bd_o h
  refine jx_callVr (pc := 3) [.int a1, .int a2] (fun sz' => k_X1_look l G t hG sz' σ a1 a2 q1 eq1) kv_X1_94 ll_jok ll_rcnow rfl rfl (Nat.le_of_ble_eq_true rfl) ⟨⟨rfl, rfl⟩, ⟨Nat.le_of_ble_eq_true rfl, Nat.le_of_ble_eq_true rfl⟩, Nat.zero_le _, Nat.zero_le _⟩ dX1_goal_3 ?_
  refine jx_astore_n (pc := 6) (i := 3) rfl rfl (by decide) (lv' := [(3, .ref (G.2 (100 + q1.1))), (0, .ref (G.2 21)), (1, .int a1), (2, .int a2)]) rfl dX1_goal_6 ?_
  refine jx_aload_n (pc := 7) (k0 := 0) rfl dX1_goal_7 ?_
  refine ll_gnow_newest (pc := 8) fl_X1_39 dX1_goal_8 ?_
  refine jx_iconst (pc := 11) (v := (1 : Int32)) (by decide) dX1_goal_11 ?_
  refine jx_aload_n (pc := 12) (k0 := 3) rfl dX1_goal_12 ?_
  obtain ⟨q2, eq2, h⟩ := jx_bd_o h
  refine jx_callVi (pc := 13) [.int (1 : Int32), .ref (G.2 (100 + q1.1))] (fun sz' => k_X4_any l G t hG sz' q1.2 (1 : Int32) q1.1 q2 eq2) kv_X1_98 ll_jok ll_rctide rfl rfl (Nat.le_of_ble_eq_true rfl) ⟨⟨rfl, rfl⟩, ⟨Nat.le_of_ble_eq_true rfl, Nat.le_of_ble_eq_true rfl⟩, Nat.zero_le _, Nat.zero_le _⟩ dX1_goal_13 ?_
  refine jx_if_eq (pc := 16) (tgt := 21) dX1_goal_16 (by decide) (fun c3 => ?_) (fun c3 => ?_)
  · have h := jx_t c3 h
    refine jx_aload_n (pc := 21) (k0 := 0) rfl dX1_goal_21 ?_
    refine ll_gnow_place (pc := 22) fl_X1_11 dX1_goal_22 ?_
    refine jx_iload_n (pc := 25) (k0 := 1) rfl dX1_goal_25 ?_
    obtain ⟨g4, h⟩ := jx_gd_o h
    refine ll_a_now_place (pc := 26) (jx_in_o g4) dX1_goal_26 ?_
    refine jx_iconst (pc := 27) (v := (1 : Int32)) (by decide) dX1_goal_27 ?_
    obtain ⟨g5, h⟩ := jx_gd_o h
    refine ll_l (pc := 28) (k := (1 + a1.toNatClampNeg)) (j := 1) (jx_in_o g5) (by decide) dX1_goal_28 ?_
    obtain ⟨x6, ex6, h⟩ := jx_lt_o h
    refine jx_istore (pc := 29) (i := 4) ex6 (by decide) (lv' := [(4, .int x6), (3, .ref (G.2 (100 + q1.1))), (0, .ref (G.2 21)), (1, .int a1), (2, .int a2)]) rfl dX1_goal_29 ?_
    refine jx_aload_n (pc := 31) (k0 := 0) rfl dX1_goal_31 ?_
    refine jx_iload (pc := 32) (i := 4) rfl dX1_goal_32 ?_
    obtain ⟨q7, eq7, h⟩ := jx_bd_o h
    refine jx_callVi (pc := 34) [.int x6] (fun sz' => k_X1_hasPlace l G t hG sz' q1.2 x6 q7 eq7) kv_X1_102 ll_jok ll_rcnow rfl rfl (Nat.le_of_ble_eq_true rfl) ⟨⟨rfl, rfl⟩, ⟨Nat.le_of_ble_eq_true rfl, Nat.le_of_ble_eq_true rfl⟩, Nat.zero_le _, Nat.zero_le _⟩ dX1_goal_34 ?_
    refine jx_if_eq (pc := 37) (tgt := 57) dX1_goal_37 (by decide) (fun c8 => ?_) (fun c8 => ?_)
    · have h := jx_t c8 h
      refine jx_aload_n (pc := 57) (k0 := 0) rfl dX1_goal_57 ?_
      refine ll_gnow_place (pc := 58) fl_X1_11 dX1_goal_58 ?_
      refine jx_iload_n (pc := 61) (k0 := 1) rfl dX1_goal_61 ?_
      obtain ⟨g9, h⟩ := jx_gd_o h
      refine ll_a_now_place (pc := 62) (jx_in_o g9) dX1_goal_62 ?_
      refine jx_iconst (pc := 63) (v := (0 : Int32)) (by decide) dX1_goal_63 ?_
      obtain ⟨g10, h⟩ := jx_gd_o h
      refine ll_l (pc := 64) (k := (1 + a1.toNatClampNeg)) (j := 0) (jx_in_o g10) (by decide) dX1_goal_64 ?_
      have h := Option.some.inj h
      subst h
      exact jx_iret (pc := 65) dX1_goal_65
    · have h := jx_f c8 h
      refine jx_aload_n (pc := 40) (k0 := 0) rfl dX1_goal_40 ?_
      refine ll_gnow_newest (pc := 41) fl_X1_39 dX1_goal_41 ?_
      refine jx_iconst (pc := 44) (v := (0 : Int32)) (by decide) dX1_goal_44 ?_
      refine jx_aload_n (pc := 45) (k0 := 3) rfl dX1_goal_45 ?_
      obtain ⟨q11, eq11, h⟩ := jx_bd_o h
      refine jx_callVi (pc := 46) [.int (0 : Int32), .ref (G.2 (100 + q1.1))] (fun sz' => k_X4_any l G t hG sz' q1.2 (0 : Int32) q1.1 q11 eq11) kv_X1_98 ll_jok ll_rctide rfl rfl (Nat.le_of_ble_eq_true rfl) ⟨⟨rfl, rfl⟩, ⟨Nat.le_of_ble_eq_true rfl, Nat.le_of_ble_eq_true rfl⟩, Nat.zero_le _, Nat.zero_le _⟩ dX1_goal_46 ?_
      refine jx_if_eq (pc := 49) (tgt := 57) dX1_goal_49 (by decide) (fun c12 => ?_) (fun c12 => ?_)
      · have h := jx_t c12 h
        refine jx_aload_n (pc := 57) (k0 := 0) rfl dX1_goal_57 ?_
        refine ll_gnow_place (pc := 58) fl_X1_11 dX1_goal_58 ?_
        refine jx_iload_n (pc := 61) (k0 := 1) rfl dX1_goal_61 ?_
        obtain ⟨g13, h⟩ := jx_gd_o h
        refine ll_a_now_place (pc := 62) (jx_in_o g13) dX1_goal_62 ?_
        refine jx_iconst (pc := 63) (v := (0 : Int32)) (by decide) dX1_goal_63 ?_
        obtain ⟨g14, h⟩ := jx_gd_o h
        refine ll_l (pc := 64) (k := (1 + a1.toNatClampNeg)) (j := 0) (jx_in_o g14) (by decide) dX1_goal_64 ?_
        have h := Option.some.inj h
        subst h
        exact jx_iret (pc := 65) dX1_goal_65
      · have h := jx_f c12 h
        refine jx_iload (pc := 52) (i := 4) rfl dX1_goal_52 ?_
        refine jx_goto (pc := 54) (tgt := 65) dX1_goal_54 (by decide) ?_
        have h := Option.some.inj h
        subst h
        exact jx_iret (pc := 65) dX1_goal_65
  · have h := jx_f c3 h
    refine jx_iload_n (pc := 19) (k0 := 1) rfl dX1_goal_19 ?_
    have h := Option.some.inj h
    subst h
    exact jx_iret (pc := 20) dX1_goal_20
theorem dX1_weight_0 : decode cX1_weight 0 = .ok (.iconst 1, 1) := by decide +kernel
theorem dX1_weight_1 : decode cX1_weight 1 = .ok (.aload_n 0, 1) := by decide +kernel
theorem dX1_weight_2 : decode cX1_weight 2 = .ok (.getfield 39, 3) := by decide +kernel
theorem dX1_weight_5 : decode cX1_weight 5 = .ok (.iconst 3, 1) := by decide +kernel
theorem dX1_weight_6 : decode cX1_weight 6 = .ok (.aload_n 0, 1) := by decide +kernel
theorem dX1_weight_7 : decode cX1_weight 7 = .ok (.iload_n 1, 1) := by decide +kernel
theorem dX1_weight_8 : decode cX1_weight 8 = .ok (.iload_n 2, 1) := by decide +kernel
theorem dX1_weight_9 : decode cX1_weight 9 = .ok (.invokevirtual 94, 3) := by decide +kernel
theorem dX1_weight_12 : decode cX1_weight 12 = .ok (.invokevirtual 106, 3) := by decide +kernel
theorem dX1_weight_15 : decode cX1_weight 15 = .ok (.iadd, 1) := by decide +kernel
theorem dX1_weight_16 : decode cX1_weight 16 = .ok (.ireturn, 1) := by decide +kernel
abbrev rm_X1_weight : Room := { frames := 2, cells := 0, slots := 0, locals := 51 }
abbrev jJ_X1_weight (l : Launch) (G : jx_G) (t : jx_T) (sz : Nat) (out : (Int32 × jx_M)) (pc : Nat) (lv : List (Nat × Value)) (st : List Value) (σ : jx_M) : Prop := jx_J l (ll_env G t) (ll_dyn G t) (ll_rg G) sz RX1 "weight" cX1_weight 3 (some .int) rm_X1_weight (fun below args s => MQ below (jx_Qi (ll_dyn G t) out.2 out.1 (jx_A (ll_rg G) sz)) args s 0 0 (jx_A (ll_rg G) sz)) 0 0 pc lv st σ
def f_X1_weight (t : jx_T) (σ : jx_M) (a1 : Int32) (a2 : Int32) : Option (Int32 × jx_M) :=
  jx_bd (f_X1_look t σ a1 a2) (fun q1 => jx_bd (f_X4_sum t q1.2 (3 : Int32) q1.1) (fun q2 => some (((1 : Int32) + q2), q1.2)))
set_option maxHeartbeats 4000000 in
set_option maxRecDepth 100000 in
theorem k_X1_weight (l : Launch) (G : jx_G) (t : jx_T) (hG : ll_ok G) (sz : Nat) (σ : jx_M) (a1 : Int32) (a2 : Int32) (out : (Int32 × jx_M)) (h : f_X1_weight t σ a1 a2 = some out) : Met l yX1_weight (Cond.code yX1_weight cX1_weight 3 (some .int) :: jx_ws) rm_X1_weight (jx_Pc (ll_env G t) (ll_dyn G t) (ll_rg G) sz σ [.ref (G.2 21), .int a1, .int a2]) (jx_Qi (ll_dyn G t) out.2 out.1 (jx_A (ll_rg G) sz)) 0 0 (jx_A (ll_rg G) sz) := by
  unfold f_X1_weight at h
  refine jx_met (by decide) (Nat.le_of_ble_eq_true rfl) ?_
  refine jx_sub (lv' := [(0, .ref (G.2 21)), (1, .int a1), (2, .int a2)]) [0, 1, 2] rfl ?_
  refine jx_iconst (pc := 0) (v := (1 : Int32)) (by decide) dX1_weight_0 ?_
  refine jx_aload_n (pc := 1) (k0 := 0) rfl dX1_weight_1 ?_
  refine ll_gnow_newest (pc := 2) fl_X1_39 dX1_weight_2 ?_
  refine jx_iconst (pc := 5) (v := (3 : Int32)) (by decide) dX1_weight_5 ?_
  refine jx_aload_n (pc := 6) (k0 := 0) rfl dX1_weight_6 ?_
  refine jx_iload_n (pc := 7) (k0 := 1) rfl dX1_weight_7 ?_
  refine jx_iload_n (pc := 8) (k0 := 2) rfl dX1_weight_8 ?_
  obtain ⟨q1, eq1, h⟩ := jx_bd_o h
  refine jx_callVr (pc := 9) [.int a1, .int a2] (fun sz' => k_X1_look l G t hG sz' σ a1 a2 q1 eq1) kv_X1_94 ll_jok ll_rcnow rfl rfl (Nat.le_of_ble_eq_true rfl) ⟨⟨rfl, rfl⟩, ⟨Nat.le_of_ble_eq_true rfl, Nat.le_of_ble_eq_true rfl⟩, Nat.zero_le _, Nat.zero_le _⟩ dX1_weight_9 ?_
  obtain ⟨q2, eq2, h⟩ := jx_bd_o h
  refine jx_callVi (pc := 12) [.int (3 : Int32), .ref (G.2 (100 + q1.1))] (fun sz' => k_X4_sum l G t hG sz' q1.2 (3 : Int32) q1.1 q2 eq2) kv_X1_106 ll_jok ll_rctide rfl rfl (Nat.le_of_ble_eq_true rfl) ⟨⟨rfl, rfl⟩, ⟨Nat.le_of_ble_eq_true rfl, Nat.le_of_ble_eq_true rfl⟩, Nat.zero_le _, Nat.zero_le _⟩ dX1_weight_12 ?_
  refine jx_iadd (pc := 15) dX1_weight_15 ?_
  have h := Option.some.inj h
  subst h
  exact jx_iret (pc := 16) dX1_weight_16
theorem dX1_filled_0 : decode cX1_filled 0 = .ok (.aload_n 0, 1) := by decide +kernel
theorem dX1_filled_1 : decode cX1_filled 1 = .ok (.getfield 39, 3) := by decide +kernel
theorem dX1_filled_4 : decode cX1_filled 4 = .ok (.iconst 2, 1) := by decide +kernel
theorem dX1_filled_5 : decode cX1_filled 5 = .ok (.aload_n 0, 1) := by decide +kernel
theorem dX1_filled_6 : decode cX1_filled 6 = .ok (.iload_n 1, 1) := by decide +kernel
theorem dX1_filled_7 : decode cX1_filled 7 = .ok (.iload_n 2, 1) := by decide +kernel
theorem dX1_filled_8 : decode cX1_filled 8 = .ok (.invokevirtual 94, 3) := by decide +kernel
theorem dX1_filled_11 : decode cX1_filled 11 = .ok (.invokevirtual 106, 3) := by decide +kernel
theorem dX1_filled_14 : decode cX1_filled 14 = .ok (.ireturn, 1) := by decide +kernel
abbrev rm_X1_filled : Room := { frames := 2, cells := 0, slots := 0, locals := 51 }
abbrev jJ_X1_filled (l : Launch) (G : jx_G) (t : jx_T) (sz : Nat) (out : (Int32 × jx_M)) (pc : Nat) (lv : List (Nat × Value)) (st : List Value) (σ : jx_M) : Prop := jx_J l (ll_env G t) (ll_dyn G t) (ll_rg G) sz RX1 "filled" cX1_filled 3 (some .int) rm_X1_filled (fun below args s => MQ below (jx_Qi (ll_dyn G t) out.2 out.1 (jx_A (ll_rg G) sz)) args s 0 0 (jx_A (ll_rg G) sz)) 0 0 pc lv st σ
def f_X1_filled (t : jx_T) (σ : jx_M) (a1 : Int32) (a2 : Int32) : Option (Int32 × jx_M) :=
  jx_bd (f_X1_look t σ a1 a2) (fun q1 => jx_bd (f_X4_sum t q1.2 (2 : Int32) q1.1) (fun q2 => some (q2, q1.2)))
set_option maxHeartbeats 4000000 in
set_option maxRecDepth 100000 in
theorem k_X1_filled (l : Launch) (G : jx_G) (t : jx_T) (hG : ll_ok G) (sz : Nat) (σ : jx_M) (a1 : Int32) (a2 : Int32) (out : (Int32 × jx_M)) (h : f_X1_filled t σ a1 a2 = some out) : Met l yX1_filled (Cond.code yX1_filled cX1_filled 3 (some .int) :: jx_ws) rm_X1_filled (jx_Pc (ll_env G t) (ll_dyn G t) (ll_rg G) sz σ [.ref (G.2 21), .int a1, .int a2]) (jx_Qi (ll_dyn G t) out.2 out.1 (jx_A (ll_rg G) sz)) 0 0 (jx_A (ll_rg G) sz) := by
  unfold f_X1_filled at h
  refine jx_met (by decide) (Nat.le_of_ble_eq_true rfl) ?_
  refine jx_sub (lv' := [(0, .ref (G.2 21)), (1, .int a1), (2, .int a2)]) [0, 1, 2] rfl ?_
  refine jx_aload_n (pc := 0) (k0 := 0) rfl dX1_filled_0 ?_
  refine ll_gnow_newest (pc := 1) fl_X1_39 dX1_filled_1 ?_
  refine jx_iconst (pc := 4) (v := (2 : Int32)) (by decide) dX1_filled_4 ?_
  refine jx_aload_n (pc := 5) (k0 := 0) rfl dX1_filled_5 ?_
  refine jx_iload_n (pc := 6) (k0 := 1) rfl dX1_filled_6 ?_
  refine jx_iload_n (pc := 7) (k0 := 2) rfl dX1_filled_7 ?_
  obtain ⟨q1, eq1, h⟩ := jx_bd_o h
  refine jx_callVr (pc := 8) [.int a1, .int a2] (fun sz' => k_X1_look l G t hG sz' σ a1 a2 q1 eq1) kv_X1_94 ll_jok ll_rcnow rfl rfl (Nat.le_of_ble_eq_true rfl) ⟨⟨rfl, rfl⟩, ⟨Nat.le_of_ble_eq_true rfl, Nat.le_of_ble_eq_true rfl⟩, Nat.zero_le _, Nat.zero_le _⟩ dX1_filled_8 ?_
  obtain ⟨q2, eq2, h⟩ := jx_bd_o h
  refine jx_callVi (pc := 11) [.int (2 : Int32), .ref (G.2 (100 + q1.1))] (fun sz' => k_X4_sum l G t hG sz' q1.2 (2 : Int32) q1.1 q2 eq2) kv_X1_106 ll_jok ll_rctide rfl rfl (Nat.le_of_ble_eq_true rfl) ⟨⟨rfl, rfl⟩, ⟨Nat.le_of_ble_eq_true rfl, Nat.le_of_ble_eq_true rfl⟩, Nat.zero_le _, Nat.zero_le _⟩ dX1_filled_11 ?_
  have h := Option.some.inj h
  subst h
  exact jx_iret (pc := 14) dX1_filled_14
theorem dX1_setsAt_0 : decode cX1_setsAt 0 = .ok (.aload_n 0, 1) := by decide +kernel
theorem dX1_setsAt_1 : decode cX1_setsAt 1 = .ok (.getfield 23, 3) := by decide +kernel
theorem dX1_setsAt_4 : decode cX1_setsAt 4 = .ok (.iload_n 1, 1) := by decide +kernel
theorem dX1_setsAt_5 : decode cX1_setsAt 5 = .ok (.aaload, 1) := by decide +kernel
theorem dX1_setsAt_6 : decode cX1_setsAt 6 = .ok (.iconst 2, 1) := by decide +kernel
theorem dX1_setsAt_7 : decode cX1_setsAt 7 = .ok (.iaload, 1) := by decide +kernel
theorem dX1_setsAt_8 : decode cX1_setsAt 8 = .ok (.istore_n 2, 1) := by decide +kernel
theorem dX1_setsAt_9 : decode cX1_setsAt 9 = .ok (.aload_n 0, 1) := by decide +kernel
theorem dX1_setsAt_10 : decode cX1_setsAt 10 = .ok (.getfield 23, 3) := by decide +kernel
theorem dX1_setsAt_13 : decode cX1_setsAt 13 = .ok (.iload_n 1, 1) := by decide +kernel
theorem dX1_setsAt_14 : decode cX1_setsAt 14 = .ok (.aaload, 1) := by decide +kernel
theorem dX1_setsAt_15 : decode cX1_setsAt 15 = .ok (.iconst 0, 1) := by decide +kernel
theorem dX1_setsAt_16 : decode cX1_setsAt 16 = .ok (.iaload, 1) := by decide +kernel
theorem dX1_setsAt_17 : decode cX1_setsAt 17 = .ok (.tableswitch 120 1 6 #[39, 120, 67, 45, 72, 104], 39) := by decide +kernel
theorem dX1_setsAt_56 : decode cX1_setsAt 56 = .ok (.aload_n 0, 1) := by decide +kernel
theorem dX1_setsAt_57 : decode cX1_setsAt 57 = .ok (.iload_n 2, 1) := by decide +kernel
theorem dX1_setsAt_58 : decode cX1_setsAt 58 = .ok (.invokevirtual 110, 3) := by decide +kernel
theorem dX1_setsAt_61 : decode cX1_setsAt 61 = .ok (.ireturn, 1) := by decide +kernel
theorem dX1_setsAt_62 : decode cX1_setsAt 62 = .ok (.aload_n 0, 1) := by decide +kernel
theorem dX1_setsAt_63 : decode cX1_setsAt 63 = .ok (.getfield 11, 3) := by decide +kernel
theorem dX1_setsAt_66 : decode cX1_setsAt 66 = .ok (.iload_n 2, 1) := by decide +kernel
theorem dX1_setsAt_67 : decode cX1_setsAt 67 = .ok (.aaload, 1) := by decide +kernel
theorem dX1_setsAt_68 : decode cX1_setsAt 68 = .ok (.iconst 0, 1) := by decide +kernel
theorem dX1_setsAt_69 : decode cX1_setsAt 69 = .ok (.iaload, 1) := by decide +kernel
theorem dX1_setsAt_70 : decode cX1_setsAt 70 = .ok (.iload_n 2, 1) := by decide +kernel
theorem dX1_setsAt_71 : decode cX1_setsAt 71 = .ok (.if_icmp .ne 7, 3) := by decide +kernel
theorem dX1_setsAt_74 : decode cX1_setsAt 74 = .ok (.iload_n 2, 1) := by decide +kernel
theorem dX1_setsAt_75 : decode cX1_setsAt 75 = .ok (.goto 8, 3) := by decide +kernel
theorem dX1_setsAt_78 : decode cX1_setsAt 78 = .ok (.aload_n 0, 1) := by decide +kernel
theorem dX1_setsAt_79 : decode cX1_setsAt 79 = .ok (.iload_n 2, 1) := by decide +kernel
theorem dX1_setsAt_80 : decode cX1_setsAt 80 = .ok (.invokevirtual 110, 3) := by decide +kernel
theorem dX1_setsAt_83 : decode cX1_setsAt 83 = .ok (.ireturn, 1) := by decide +kernel
theorem dX1_setsAt_84 : decode cX1_setsAt 84 = .ok (.aload_n 0, 1) := by decide +kernel
theorem dX1_setsAt_85 : decode cX1_setsAt 85 = .ok (.invokevirtual 114, 3) := by decide +kernel
theorem dX1_setsAt_88 : decode cX1_setsAt 88 = .ok (.ireturn, 1) := by decide +kernel
theorem dX1_setsAt_89 : decode cX1_setsAt 89 = .ok (.aload_n 0, 1) := by decide +kernel
theorem dX1_setsAt_90 : decode cX1_setsAt 90 = .ok (.getfield 20, 3) := by decide +kernel
theorem dX1_setsAt_93 : decode cX1_setsAt 93 = .ok (.ifCond .le 26, 3) := by decide +kernel
theorem dX1_setsAt_96 : decode cX1_setsAt 96 = .ok (.aload_n 0, 1) := by decide +kernel
theorem dX1_setsAt_97 : decode cX1_setsAt 97 = .ok (.getfield 23, 3) := by decide +kernel
theorem dX1_setsAt_100 : decode cX1_setsAt 100 = .ok (.aload_n 0, 1) := by decide +kernel
theorem dX1_setsAt_101 : decode cX1_setsAt 101 = .ok (.getfield 23, 3) := by decide +kernel
theorem dX1_setsAt_104 : decode cX1_setsAt 104 = .ok (.iload_n 1, 1) := by decide +kernel
theorem dX1_setsAt_105 : decode cX1_setsAt 105 = .ok (.aaload, 1) := by decide +kernel
theorem dX1_setsAt_106 : decode cX1_setsAt 106 = .ok (.iconst 1, 1) := by decide +kernel
theorem dX1_setsAt_107 : decode cX1_setsAt 107 = .ok (.iaload, 1) := by decide +kernel
theorem dX1_setsAt_108 : decode cX1_setsAt 108 = .ok (.aload_n 0, 1) := by decide +kernel
theorem dX1_setsAt_109 : decode cX1_setsAt 109 = .ok (.getfield 20, 3) := by decide +kernel
theorem dX1_setsAt_112 : decode cX1_setsAt 112 = .ok (.irem, 1) := by decide +kernel
theorem dX1_setsAt_113 : decode cX1_setsAt 113 = .ok (.aaload, 1) := by decide +kernel
theorem dX1_setsAt_114 : decode cX1_setsAt 114 = .ok (.iconst 2, 1) := by decide +kernel
theorem dX1_setsAt_115 : decode cX1_setsAt 115 = .ok (.iaload, 1) := by decide +kernel
theorem dX1_setsAt_116 : decode cX1_setsAt 116 = .ok (.goto 4, 3) := by decide +kernel
theorem dX1_setsAt_119 : decode cX1_setsAt 119 = .ok (.iload_n 2, 1) := by decide +kernel
theorem dX1_setsAt_120 : decode cX1_setsAt 120 = .ok (.ireturn, 1) := by decide +kernel
theorem dX1_setsAt_121 : decode cX1_setsAt 121 = .ok (.aload_n 0, 1) := by decide +kernel
theorem dX1_setsAt_122 : decode cX1_setsAt 122 = .ok (.getfield 23, 3) := by decide +kernel
theorem dX1_setsAt_125 : decode cX1_setsAt 125 = .ok (.iload_n 1, 1) := by decide +kernel
theorem dX1_setsAt_126 : decode cX1_setsAt 126 = .ok (.aaload, 1) := by decide +kernel
theorem dX1_setsAt_127 : decode cX1_setsAt 127 = .ok (.iconst 5, 1) := by decide +kernel
theorem dX1_setsAt_128 : decode cX1_setsAt 128 = .ok (.aload_n 0, 1) := by decide +kernel
theorem dX1_setsAt_129 : decode cX1_setsAt 129 = .ok (.getfield 16, 3) := by decide +kernel
theorem dX1_setsAt_132 : decode cX1_setsAt 132 = .ok (.iconst 3, 1) := by decide +kernel
theorem dX1_setsAt_133 : decode cX1_setsAt 133 = .ok (.irem, 1) := by decide +kernel
theorem dX1_setsAt_134 : decode cX1_setsAt 134 = .ok (.iadd, 1) := by decide +kernel
theorem dX1_setsAt_135 : decode cX1_setsAt 135 = .ok (.iaload, 1) := by decide +kernel
theorem dX1_setsAt_136 : decode cX1_setsAt 136 = .ok (.ireturn, 1) := by decide +kernel
theorem dX1_setsAt_137 : decode cX1_setsAt 137 = .ok (.iload_n 2, 1) := by decide +kernel
theorem dX1_setsAt_138 : decode cX1_setsAt 138 = .ok (.ireturn, 1) := by decide +kernel
abbrev rm_X1_setsAt : Room := { frames := 2, cells := 0, slots := 0, locals := 45 }
abbrev jJ_X1_setsAt (l : Launch) (G : jx_G) (t : jx_T) (sz : Nat) (σ0 : jx_M) (out : Int32) (pc : Nat) (lv : List (Nat × Value)) (st : List Value) (σ : jx_M) : Prop := jx_J l (ll_env G t) (ll_dyn G t) (ll_rg G) sz RX1 "setsAt" cX1_setsAt 3 (some .int) rm_X1_setsAt (fun below args s => MQ below (jx_Qi (ll_dyn G t) σ0 out (jx_A (ll_rg G) sz)) args s 0 0 (jx_A (ll_rg G) sz)) 0 0 pc lv st σ
def f_X1_setsAt (t : jx_T) (σ : jx_M) (a1 : Int32) : Option Int32 :=
  jx_gd (jx_in a1 6) (jx_gd (jx_in (2 : Int32) (ll_len (8 + a1.toNatClampNeg))) (jx_lt ((σ (8 + a1.toNatClampNeg) 2)) (fun x3 => jx_gd (jx_in a1 6) (jx_gd (jx_in (0 : Int32) (ll_len (8 + a1.toNatClampNeg))) (if (σ (8 + a1.toNatClampNeg) 0) = (1 : Int32) then jx_bd (f_X1_upstream t σ x3) (fun q6 => some q6) else if (σ (8 + a1.toNatClampNeg) 0) = (3 : Int32) then jx_bd (f_X1_crowded t σ) (fun q8 => some q8) else if (σ (8 + a1.toNatClampNeg) 0) = (4 : Int32) then jx_gd (jx_in x3 7) (jx_gd (jx_in (0 : Int32) (ll_len (1 + x3.toNatClampNeg))) (if (σ (1 + x3.toNatClampNeg) 0) = x3 then some x3 else jx_bd (f_X1_upstream t σ x3) (fun q13 => some q13))) else if (σ (8 + a1.toNatClampNeg) 0) = (5 : Int32) then if (σ 0 2) ≤ 0 then some x3 else jx_gd (jx_in a1 6) (jx_gd (jx_in (1 : Int32) (ll_len (8 + a1.toNatClampNeg))) (jx_gd (decide (¬ (σ 0 2) = 0)) (jx_gd (jx_in ((σ (8 + a1.toNatClampNeg) 1) - (σ (8 + a1.toNatClampNeg) 1) / (σ 0 2) * (σ 0 2)) 6) (jx_gd (jx_in (2 : Int32) (ll_len (8 + ((σ (8 + a1.toNatClampNeg) 1) - (σ (8 + a1.toNatClampNeg) 1) / (σ 0 2) * (σ 0 2)).toNatClampNeg))) (some (σ (8 + ((σ (8 + a1.toNatClampNeg) 1) - (σ (8 + a1.toNatClampNeg) 1) / (σ 0 2) * (σ 0 2)).toNatClampNeg) 2)))))) else if (σ (8 + a1.toNatClampNeg) 0) = (6 : Int32) then jx_gd (jx_in a1 6) (jx_gd (jx_in ((5 : Int32) + ((σ 0 1) - (σ 0 1) / (3 : Int32) * (3 : Int32))) (ll_len (8 + a1.toNatClampNeg))) (some (σ (8 + a1.toNatClampNeg) ((5 : Int32) + ((σ 0 1) - (σ 0 1) / (3 : Int32) * (3 : Int32))).toNatClampNeg))) else some x3)))))
set_option maxHeartbeats 4000000 in
set_option maxRecDepth 100000 in
theorem k_X1_setsAt (l : Launch) (G : jx_G) (t : jx_T) (hG : ll_ok G) (sz : Nat) (σ : jx_M) (a1 : Int32) (out : Int32) (h : f_X1_setsAt t σ a1 = some out) : Met l yX1_setsAt (Cond.code yX1_setsAt cX1_setsAt 3 (some .int) :: jx_ws) rm_X1_setsAt (jx_Pc (ll_env G t) (ll_dyn G t) (ll_rg G) sz σ [.ref (G.2 21), .int a1]) (jx_Qi (ll_dyn G t) σ out (jx_A (ll_rg G) sz)) 0 0 (jx_A (ll_rg G) sz) := by
  unfold f_X1_setsAt at h
  refine jx_met (by decide) (Nat.le_of_ble_eq_true rfl) ?_
  refine jx_sub (lv' := [(0, .ref (G.2 21)), (1, .int a1)]) [0, 1] rfl ?_
  refine jx_aload_n (pc := 0) (k0 := 0) rfl dX1_setsAt_0 ?_
  refine ll_gnow_voter (pc := 1) fl_X1_23 dX1_setsAt_1 ?_
  refine jx_iload_n (pc := 4) (k0 := 1) rfl dX1_setsAt_4 ?_
  obtain ⟨g1, h⟩ := jx_gd_o h
  refine ll_a_now_voter (pc := 5) (jx_in_o g1) dX1_setsAt_5 ?_
  refine jx_iconst (pc := 6) (v := (2 : Int32)) (by decide) dX1_setsAt_6 ?_
  obtain ⟨g2, h⟩ := jx_gd_o h
  refine ll_l (pc := 7) (k := (8 + a1.toNatClampNeg)) (j := 2) (jx_in_o g2) (by decide) dX1_setsAt_7 ?_
  obtain ⟨x3, ex3, h⟩ := jx_lt_o h
  refine jx_istore_n (pc := 8) (i := 2) rfl ex3 (by decide) (lv' := [(2, .int x3), (0, .ref (G.2 21)), (1, .int a1)]) rfl dX1_setsAt_8 ?_
  refine jx_aload_n (pc := 9) (k0 := 0) rfl dX1_setsAt_9 ?_
  refine ll_gnow_voter (pc := 10) fl_X1_23 dX1_setsAt_10 ?_
  refine jx_iload_n (pc := 13) (k0 := 1) rfl dX1_setsAt_13 ?_
  obtain ⟨g4, h⟩ := jx_gd_o h
  refine ll_a_now_voter (pc := 14) (jx_in_o g4) dX1_setsAt_14 ?_
  refine jx_iconst (pc := 15) (v := (0 : Int32)) (by decide) dX1_setsAt_15 ?_
  obtain ⟨g5, h⟩ := jx_gd_o h
  refine ll_l (pc := 16) (k := (8 + a1.toNatClampNeg)) (j := 0) (jx_in_o g5) (by decide) dX1_setsAt_16 ?_
  by_cases c7 : (σ (8 + a1.toNatClampNeg) 0) = (1 : Int32)
  · have h := jx_t c7 h
    refine jx_tabIn (pc := 17) (tgt := 56) dX1_setsAt_17 1 (by rw [c7]; rfl) (by decide) (by decide) rfl (by decide) ?_
    refine jx_aload_n (pc := 56) (k0 := 0) rfl dX1_setsAt_56 ?_
    refine jx_iload_n (pc := 57) (k0 := 2) rfl dX1_setsAt_57 ?_
    obtain ⟨q6, eq6, h⟩ := jx_bd_o h
    refine jx_callVi (pc := 58) [.int x3] (fun sz' => k_X1_upstream l G t hG sz' σ x3 q6 eq6) kv_X1_110 ll_jok ll_rcnow rfl rfl (Nat.le_of_ble_eq_true rfl) ⟨⟨rfl, rfl⟩, ⟨Nat.le_of_ble_eq_true rfl, Nat.le_of_ble_eq_true rfl⟩, Nat.zero_le _, Nat.zero_le _⟩ dX1_setsAt_58 ?_
    have h := Option.some.inj h
    subst h
    exact jx_iret (pc := 61) dX1_setsAt_61
  have h := jx_f c7 h
  by_cases c9 : (σ (8 + a1.toNatClampNeg) 0) = (3 : Int32)
  · have h := jx_t c9 h
    refine jx_tabIn (pc := 17) (tgt := 84) dX1_setsAt_17 3 (by rw [c9]; rfl) (by decide) (by decide) rfl (by decide) ?_
    refine jx_aload_n (pc := 84) (k0 := 0) rfl dX1_setsAt_84 ?_
    obtain ⟨q8, eq8, h⟩ := jx_bd_o h
    refine jx_callVi (pc := 85) [] (fun sz' => k_X1_crowded l G t hG sz' σ q8 eq8) kv_X1_114 ll_jok ll_rcnow rfl rfl (Nat.le_of_ble_eq_true rfl) ⟨⟨rfl, rfl⟩, ⟨Nat.le_of_ble_eq_true rfl, Nat.le_of_ble_eq_true rfl⟩, Nat.zero_le _, Nat.zero_le _⟩ dX1_setsAt_85 ?_
    have h := Option.some.inj h
    subst h
    exact jx_iret (pc := 88) dX1_setsAt_88
  have h := jx_f c9 h
  by_cases c14 : (σ (8 + a1.toNatClampNeg) 0) = (4 : Int32)
  · have h := jx_t c14 h
    refine jx_tabIn (pc := 17) (tgt := 62) dX1_setsAt_17 4 (by rw [c14]; rfl) (by decide) (by decide) rfl (by decide) ?_
    refine jx_aload_n (pc := 62) (k0 := 0) rfl dX1_setsAt_62 ?_
    refine ll_gnow_place (pc := 63) fl_X1_11 dX1_setsAt_63 ?_
    refine jx_iload_n (pc := 66) (k0 := 2) rfl dX1_setsAt_66 ?_
    obtain ⟨g10, h⟩ := jx_gd_o h
    refine ll_a_now_place (pc := 67) (jx_in_o g10) dX1_setsAt_67 ?_
    refine jx_iconst (pc := 68) (v := (0 : Int32)) (by decide) dX1_setsAt_68 ?_
    obtain ⟨g11, h⟩ := jx_gd_o h
    refine ll_l (pc := 69) (k := (1 + x3.toNatClampNeg)) (j := 0) (jx_in_o g11) (by decide) dX1_setsAt_69 ?_
    refine jx_iload_n (pc := 70) (k0 := 2) rfl dX1_setsAt_70 ?_
    refine jx_icmp_ne (pc := 71) (tgt := 78) dX1_setsAt_71 (by decide) (fun c12 => ?_) (fun c12 => ?_)
    · have h := jx_f c12 h
      refine jx_aload_n (pc := 78) (k0 := 0) rfl dX1_setsAt_78 ?_
      refine jx_iload_n (pc := 79) (k0 := 2) rfl dX1_setsAt_79 ?_
      obtain ⟨q13, eq13, h⟩ := jx_bd_o h
      refine jx_callVi (pc := 80) [.int x3] (fun sz' => k_X1_upstream l G t hG sz' σ x3 q13 eq13) kv_X1_110 ll_jok ll_rcnow rfl rfl (Nat.le_of_ble_eq_true rfl) ⟨⟨rfl, rfl⟩, ⟨Nat.le_of_ble_eq_true rfl, Nat.le_of_ble_eq_true rfl⟩, Nat.zero_le _, Nat.zero_le _⟩ dX1_setsAt_80 ?_
      have h := Option.some.inj h
      subst h
      exact jx_iret (pc := 83) dX1_setsAt_83
    · have h := jx_t c12 h
      refine jx_iload_n (pc := 74) (k0 := 2) rfl dX1_setsAt_74 ?_
      refine jx_goto (pc := 75) (tgt := 83) dX1_setsAt_75 (by decide) ?_
      have h := Option.some.inj h
      subst h
      exact jx_iret (pc := 83) dX1_setsAt_83
  have h := jx_f c14 h
  by_cases c21 : (σ (8 + a1.toNatClampNeg) 0) = (5 : Int32)
  · have h := jx_t c21 h
    refine jx_tabIn (pc := 17) (tgt := 89) dX1_setsAt_17 5 (by rw [c21]; rfl) (by decide) (by decide) rfl (by decide) ?_
    refine jx_aload_n (pc := 89) (k0 := 0) rfl dX1_setsAt_89 ?_
    refine ll_gnow_voters (pc := 90) fl_X1_20 dX1_setsAt_90 ?_
    refine jx_if_le (pc := 93) (tgt := 119) dX1_setsAt_93 (by decide) (fun c15 => ?_) (fun c15 => ?_)
    · have h := jx_t c15 h
      refine jx_iload_n (pc := 119) (k0 := 2) rfl dX1_setsAt_119 ?_
      have h := Option.some.inj h
      subst h
      exact jx_iret (pc := 120) dX1_setsAt_120
    · have h := jx_f c15 h
      refine jx_aload_n (pc := 96) (k0 := 0) rfl dX1_setsAt_96 ?_
      refine ll_gnow_voter (pc := 97) fl_X1_23 dX1_setsAt_97 ?_
      refine jx_aload_n (pc := 100) (k0 := 0) rfl dX1_setsAt_100 ?_
      refine ll_gnow_voter (pc := 101) fl_X1_23 dX1_setsAt_101 ?_
      refine jx_iload_n (pc := 104) (k0 := 1) rfl dX1_setsAt_104 ?_
      obtain ⟨g16, h⟩ := jx_gd_o h
      refine ll_a_now_voter (pc := 105) (jx_in_o g16) dX1_setsAt_105 ?_
      refine jx_iconst (pc := 106) (v := (1 : Int32)) (by decide) dX1_setsAt_106 ?_
      obtain ⟨g17, h⟩ := jx_gd_o h
      refine ll_l (pc := 107) (k := (8 + a1.toNatClampNeg)) (j := 1) (jx_in_o g17) (by decide) dX1_setsAt_107 ?_
      refine jx_aload_n (pc := 108) (k0 := 0) rfl dX1_setsAt_108 ?_
      refine ll_gnow_voters (pc := 109) fl_X1_20 dX1_setsAt_109 ?_
      obtain ⟨g18, h⟩ := jx_gd_o h
      refine jx_irem (pc := 112) (of_decide_eq_true g18) dX1_setsAt_112 ?_
      obtain ⟨g19, h⟩ := jx_gd_o h
      refine ll_a_now_voter (pc := 113) (jx_in_o g19) dX1_setsAt_113 ?_
      refine jx_iconst (pc := 114) (v := (2 : Int32)) (by decide) dX1_setsAt_114 ?_
      obtain ⟨g20, h⟩ := jx_gd_o h
      refine ll_l (pc := 115) (k := (8 + ((σ (8 + a1.toNatClampNeg) 1) - (σ (8 + a1.toNatClampNeg) 1) / (σ 0 2) * (σ 0 2)).toNatClampNeg)) (j := 2) (jx_in_o g20) (by decide) dX1_setsAt_115 ?_
      refine jx_goto (pc := 116) (tgt := 120) dX1_setsAt_116 (by decide) ?_
      have h := Option.some.inj h
      subst h
      exact jx_iret (pc := 120) dX1_setsAt_120
  have h := jx_f c21 h
  by_cases c24 : (σ (8 + a1.toNatClampNeg) 0) = (6 : Int32)
  · have h := jx_t c24 h
    refine jx_tabIn (pc := 17) (tgt := 121) dX1_setsAt_17 6 (by rw [c24]; rfl) (by decide) (by decide) rfl (by decide) ?_
    refine jx_aload_n (pc := 121) (k0 := 0) rfl dX1_setsAt_121 ?_
    refine ll_gnow_voter (pc := 122) fl_X1_23 dX1_setsAt_122 ?_
    refine jx_iload_n (pc := 125) (k0 := 1) rfl dX1_setsAt_125 ?_
    obtain ⟨g22, h⟩ := jx_gd_o h
    refine ll_a_now_voter (pc := 126) (jx_in_o g22) dX1_setsAt_126 ?_
    refine jx_iconst (pc := 127) (v := (5 : Int32)) (by decide) dX1_setsAt_127 ?_
    refine jx_aload_n (pc := 128) (k0 := 0) rfl dX1_setsAt_128 ?_
    refine ll_gnow_minute (pc := 129) fl_X1_16 dX1_setsAt_129 ?_
    refine jx_iconst (pc := 132) (v := (3 : Int32)) (by decide) dX1_setsAt_132 ?_
    refine jx_irem (pc := 133) (by decide) dX1_setsAt_133 ?_
    refine jx_iadd (pc := 134) dX1_setsAt_134 ?_
    obtain ⟨g23, h⟩ := jx_gd_o h
    refine ll_l (pc := 135) (k := (8 + a1.toNatClampNeg)) (jx_in_o g23) rfl dX1_setsAt_135 ?_
    have h := Option.some.inj h
    subst h
    exact jx_iret (pc := 136) dX1_setsAt_136
  have h := jx_f c24 h
  by_cases c25 : (σ (8 + a1.toNatClampNeg) 0) = (2 : Int32)
  · refine jx_tabIn (pc := 17) (tgt := 137) dX1_setsAt_17 2 (by rw [c25]; rfl) (by decide) (by decide) rfl (by decide) ?_
    refine jx_iload_n (pc := 137) (k0 := 2) rfl dX1_setsAt_137 ?_
    have h := Option.some.inj h
    subst h
    exact jx_iret (pc := 138) dX1_setsAt_138
  refine jx_tabOut (pc := 17) (tgt := 137) dX1_setsAt_17 (by have z0 := lv_neT c7 (show (1 : Int32).toInt = 1 from rfl); have z1 := lv_neT c9 (show (3 : Int32).toInt = 3 from rfl); have z2 := lv_neT c14 (show (4 : Int32).toInt = 4 from rfl); have z3 := lv_neT c21 (show (5 : Int32).toInt = 5 from rfl); have z4 := lv_neT c24 (show (6 : Int32).toInt = 6 from rfl); have z5 := lv_neT c25 (show (2 : Int32).toInt = 2 from rfl); omega) (by decide) ?_
  refine jx_iload_n (pc := 137) (k0 := 2) rfl dX1_setsAt_137 ?_
  have h := Option.some.inj h
  subst h
  exact jx_iret (pc := 138) dX1_setsAt_138
