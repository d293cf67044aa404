/-! the class's methods: a function on the memory each, and its contract -/
theorem dX3_takesSecondDigit_0 : decode cX3_takesSecondDigit 0 = .ok (.iload_n 1, 1) := by decide +kernel
theorem dX3_takesSecondDigit_1 : decode cX3_takesSecondDigit 1 = .ok (.bipush 48, 2) := by decide +kernel
theorem dX3_takesSecondDigit_3 : decode cX3_takesSecondDigit 3 = .ok (.if_icmp .lt 25, 3) := by decide +kernel
theorem dX3_takesSecondDigit_6 : decode cX3_takesSecondDigit 6 = .ok (.iload_n 1, 1) := by decide +kernel
theorem dX3_takesSecondDigit_7 : decode cX3_takesSecondDigit 7 = .ok (.bipush 57, 2) := by decide +kernel
theorem dX3_takesSecondDigit_9 : decode cX3_takesSecondDigit 9 = .ok (.if_icmp .gt 19, 3) := by decide +kernel
theorem dX3_takesSecondDigit_12 : decode cX3_takesSecondDigit 12 = .ok (.aload_n 0, 1) := by decide +kernel
theorem dX3_takesSecondDigit_13 : decode cX3_takesSecondDigit 13 = .ok (.getfield 114, 3) := by decide +kernel
theorem dX3_takesSecondDigit_16 : decode cX3_takesSecondDigit 16 = .ok (.ifCond .eq 12, 3) := by decide +kernel
theorem dX3_takesSecondDigit_19 : decode cX3_takesSecondDigit 19 = .ok (.aload_n 0, 1) := by decide +kernel
theorem dX3_takesSecondDigit_20 : decode cX3_takesSecondDigit 20 = .ok (.getfield 114, 3) := by decide +kernel
theorem dX3_takesSecondDigit_23 : decode cX3_takesSecondDigit 23 = .ok (.bipush 9, 2) := by decide +kernel
theorem dX3_takesSecondDigit_25 : decode cX3_takesSecondDigit 25 = .ok (.if_icmp .le 5, 3) := by decide +kernel
theorem dX3_takesSecondDigit_28 : decode cX3_takesSecondDigit 28 = .ok (.iconst 0, 1) := by decide +kernel
theorem dX3_takesSecondDigit_29 : decode cX3_takesSecondDigit 29 = .ok (.ireturn, 1) := by decide +kernel
theorem dX3_takesSecondDigit_30 : decode cX3_takesSecondDigit 30 = .ok (.aload_n 0, 1) := by decide +kernel
theorem dX3_takesSecondDigit_31 : decode cX3_takesSecondDigit 31 = .ok (.aload_n 0, 1) := by decide +kernel
theorem dX3_takesSecondDigit_32 : decode cX3_takesSecondDigit 32 = .ok (.getfield 114, 3) := by decide +kernel
theorem dX3_takesSecondDigit_35 : decode cX3_takesSecondDigit 35 = .ok (.bipush 10, 2) := by decide +kernel
theorem dX3_takesSecondDigit_37 : decode cX3_takesSecondDigit 37 = .ok (.imul, 1) := by decide +kernel
theorem dX3_takesSecondDigit_38 : decode cX3_takesSecondDigit 38 = .ok (.iload_n 1, 1) := by decide +kernel
theorem dX3_takesSecondDigit_39 : decode cX3_takesSecondDigit 39 = .ok (.iadd, 1) := by decide +kernel
theorem dX3_takesSecondDigit_40 : decode cX3_takesSecondDigit 40 = .ok (.bipush 48, 2) := by decide +kernel
theorem dX3_takesSecondDigit_42 : decode cX3_takesSecondDigit 42 = .ok (.isub, 1) := by decide +kernel
theorem dX3_takesSecondDigit_43 : decode cX3_takesSecondDigit 43 = .ok (.putfield 114, 3) := by decide +kernel
theorem dX3_takesSecondDigit_46 : decode cX3_takesSecondDigit 46 = .ok (.iconst 1, 1) := by decide +kernel
theorem dX3_takesSecondDigit_47 : decode cX3_takesSecondDigit 47 = .ok (.ireturn, 1) := by decide +kernel
abbrev rm_X3_takesSecondDigit : Room := { frames := 0, cells := 0, slots := 0, locals := 0 }
abbrev jJ_X3_takesSecondDigit (l : Launch) (G : jx_G) (t : jx_T) (sz : Nat) (out : (Int32 × jx_M)) (pc : Nat) (lv : List (Nat × Value)) (st : List Value) (σ : jx_M) : Prop := jx_J l (ll_env G t) (ll_dyn G t) (ll_rg G) sz RX3 "takesSecondDigit" cX3_takesSecondDigit 2 (some .boolean) rm_X3_takesSecondDigit (fun below args s => MQ below (jx_Qi (ll_dyn G t) out.2 out.1 (jx_A (ll_rg G) sz)) args s 0 0 (jx_A (ll_rg G) sz)) 0 0 pc lv st σ
def f_X3_takesSecondDigit (t : jx_T) (σ : jx_M) (a1 : Int32) : Option (Int32 × jx_M) :=
  if a1 < (48 : Int32) then some ((0 : Int32), σ) else if (57 : Int32) < a1 then some ((0 : Int32), σ) else if (σ 0 39) = 0 then some ((0 : Int32), σ) else if (σ 0 39) ≤ (9 : Int32) then jx_lt (jx_mu σ 0 39 ((((σ 0 39) * (10 : Int32)) + a1) - (48 : Int32))) (fun σ5 => some ((1 : Int32), σ5)) else some ((0 : Int32), σ)
set_option maxHeartbeats 4000000 in
set_option maxRecDepth 100000 in
theorem k_X3_takesSecondDigit (l : Launch) (G : jx_G) (t : jx_T) (hG : ll_ok G) (sz : Nat) (σ : jx_M) (a1 : Int32) (out : (Int32 × jx_M)) (h : f_X3_takesSecondDigit t σ a1 = some out) : Met l yX3_takesSecondDigit (Cond.code yX3_takesSecondDigit cX3_takesSecondDigit 2 (some .boolean) :: jx_ws) rm_X3_takesSecondDigit (jx_Pc (ll_env G t) (ll_dyn G t) (ll_rg G) sz σ [.ref (G.2 25), .int a1]) (jx_Qi (ll_dyn G t) out.2 out.1 (jx_A (ll_rg G) sz)) 0 0 (jx_A (ll_rg G) sz) := by
  unfold f_X3_takesSecondDigit at h
  refine jx_met (by decide) (Nat.le_of_ble_eq_true rfl) ?_
  refine jx_sub (lv' := [(0, .ref (G.2 25)), (1, .int a1)]) [0, 1] rfl ?_
  refine jx_iload_n (pc := 0) (k0 := 1) rfl dX3_takesSecondDigit_0 ?_
  refine jx_bipush (pc := 1) (v := (48 : Int32)) (by decide) dX3_takesSecondDigit_1 ?_
  refine jx_icmp_lt (pc := 3) (tgt := 28) dX3_takesSecondDigit_3 (by decide) (fun c1 => ?_) (fun c1 => ?_)
  · have h := jx_t c1 h
    refine jx_iconst (pc := 28) (v := (0 : Int32)) (by decide) dX3_takesSecondDigit_28 ?_
    cases h
    exact jx_zret (pc := 29) (Or.inl rfl) dX3_takesSecondDigit_29
  · have h := jx_f c1 h
    refine jx_iload_n (pc := 6) (k0 := 1) rfl dX3_takesSecondDigit_6 ?_
    refine jx_bipush (pc := 7) (v := (57 : Int32)) (by decide) dX3_takesSecondDigit_7 ?_
    refine jx_icmp_gt (pc := 9) (tgt := 28) dX3_takesSecondDigit_9 (by decide) (fun c2 => ?_) (fun c2 => ?_)
    · have h := jx_t c2 h
      refine jx_iconst (pc := 28) (v := (0 : Int32)) (by decide) dX3_takesSecondDigit_28 ?_
      cases h
      exact jx_zret (pc := 29) (Or.inl rfl) dX3_takesSecondDigit_29
    · have h := jx_f c2 h
      refine jx_aload_n (pc := 12) (k0 := 0) rfl dX3_takesSecondDigit_12 ?_
      refine ll_greader_number (pc := 13) fl_X3_114 dX3_takesSecondDigit_13 ?_
      refine jx_if_eq (pc := 16) (tgt := 28) dX3_takesSecondDigit_16 (by decide) (fun c3 => ?_) (fun c3 => ?_)
      · have h := jx_t c3 h
        refine jx_iconst (pc := 28) (v := (0 : Int32)) (by decide) dX3_takesSecondDigit_28 ?_
        cases h
        exact jx_zret (pc := 29) (Or.inl rfl) dX3_takesSecondDigit_29
      · have h := jx_f c3 h
        refine jx_aload_n (pc := 19) (k0 := 0) rfl dX3_takesSecondDigit_19 ?_
        refine ll_greader_number (pc := 20) fl_X3_114 dX3_takesSecondDigit_20 ?_
        refine jx_bipush (pc := 23) (v := (9 : Int32)) (by decide) dX3_takesSecondDigit_23 ?_
        refine jx_icmp_le (pc := 25) (tgt := 30) dX3_takesSecondDigit_25 (by decide) (fun c4 => ?_) (fun c4 => ?_)
        · have h := jx_t c4 h
          refine jx_aload_n (pc := 30) (k0 := 0) rfl dX3_takesSecondDigit_30 ?_
          refine jx_aload_n (pc := 31) (k0 := 0) rfl dX3_takesSecondDigit_31 ?_
          refine ll_greader_number (pc := 32) fl_X3_114 dX3_takesSecondDigit_32 ?_
          refine jx_bipush (pc := 35) (v := (10 : Int32)) (by decide) dX3_takesSecondDigit_35 ?_
          refine jx_imul (pc := 37) dX3_takesSecondDigit_37 ?_
          refine jx_iload_n (pc := 38) (k0 := 1) rfl dX3_takesSecondDigit_38 ?_
          refine jx_iadd (pc := 39) dX3_takesSecondDigit_39 ?_
          refine jx_bipush (pc := 40) (v := (48 : Int32)) (by decide) dX3_takesSecondDigit_40 ?_
          refine jx_isub (pc := 42) dX3_takesSecondDigit_42 ?_
          obtain ⟨σ5, eσ5, h⟩ := jx_lt_o h
          refine ll_preader_number (pc := 43) hG fl_X3_114 eσ5 dX3_takesSecondDigit_43 ?_
          refine jx_iconst (pc := 46) (v := (1 : Int32)) (by decide) dX3_takesSecondDigit_46 ?_
          cases h
          exact jx_zret (pc := 47) (Or.inr rfl) dX3_takesSecondDigit_47
        · have h := jx_f c4 h
          refine jx_iconst (pc := 28) (v := (0 : Int32)) (by decide) dX3_takesSecondDigit_28 ?_
          cases h
          exact jx_zret (pc := 29) (Or.inl rfl) dX3_takesSecondDigit_29
theorem dX3_takesBlank_0 : decode cX3_takesBlank 0 = .ok (.aload_n 0, 1) := by decide +kernel
theorem dX3_takesBlank_1 : decode cX3_takesBlank 1 = .ok (.getfield 15, 3) := by decide +kernel
theorem dX3_takesBlank_4 : decode cX3_takesBlank 4 = .ok (.aload_n 0, 1) := by decide +kernel
theorem dX3_takesBlank_5 : decode cX3_takesBlank 5 = .ok (.getfield 27, 3) := by decide +kernel
theorem dX3_takesBlank_8 : decode cX3_takesBlank 8 = .ok (.aload_n 0, 1) := by decide +kernel
theorem dX3_takesBlank_9 : decode cX3_takesBlank 9 = .ok (.getfield 114, 3) := by decide +kernel
theorem dX3_takesBlank_12 : decode cX3_takesBlank 12 = .ok (.iastore, 1) := by decide +kernel
theorem dX3_takesBlank_13 : decode cX3_takesBlank 13 = .ok (.aload_n 0, 1) := by decide +kernel
theorem dX3_takesBlank_14 : decode cX3_takesBlank 14 = .ok (.iconst 4, 1) := by decide +kernel
theorem dX3_takesBlank_15 : decode cX3_takesBlank 15 = .ok (.putfield 40, 3) := by decide +kernel
theorem dX3_takesBlank_18 : decode cX3_takesBlank 18 = .ok (.iconst 1, 1) := by decide +kernel
theorem dX3_takesBlank_19 : decode cX3_takesBlank 19 = .ok (.ireturn, 1) := by decide +kernel
abbrev rm_X3_takesBlank : Room := { frames := 0, cells := 0, slots := 0, locals := 0 }
abbrev jJ_X3_takesBlank (l : Launch) (G : jx_G) (t : jx_T) (sz : Nat) (out : (Int32 × jx_M)) (pc : Nat) (lv : List (Nat × Value)) (st : List Value) (σ : jx_M) : Prop := jx_J l (ll_env G t) (ll_dyn G t) (ll_rg G) sz RX3 "takesBlank" cX3_takesBlank 1 (some .boolean) rm_X3_takesBlank (fun below args s => MQ below (jx_Qi (ll_dyn G t) out.2 out.1 (jx_A (ll_rg G) sz)) args s 0 0 (jx_A (ll_rg G) sz)) 0 0 pc lv st σ
def f_X3_takesBlank (t : jx_T) (σ : jx_M)  : Option (Int32 × jx_M) :=
  jx_gd (jx_in (σ 0 30) 10) (jx_lt (jx_mu σ 62 (σ 0 30).toNatClampNeg (σ 0 39)) (fun σ2 => jx_lt (jx_mu σ2 0 34 (4 : Int32)) (fun σ3 => some ((1 : Int32), σ3))))
set_option maxHeartbeats 4000000 in
set_option maxRecDepth 100000 in
theorem k_X3_takesBlank (l : Launch) (G : jx_G) (t : jx_T) (hG : ll_ok G) (sz : Nat) (σ : jx_M)  (out : (Int32 × jx_M)) (h : f_X3_takesBlank t σ = some out) : Met l yX3_takesBlank (Cond.code yX3_takesBlank cX3_takesBlank 1 (some .boolean) :: jx_ws) rm_X3_takesBlank (jx_Pc (ll_env G t) (ll_dyn G t) (ll_rg G) sz σ [.ref (G.2 25)]) (jx_Qi (ll_dyn G t) out.2 out.1 (jx_A (ll_rg G) sz)) 0 0 (jx_A (ll_rg G) sz) := by
  unfold f_X3_takesBlank at h
  refine jx_met (by decide) (Nat.le_of_ble_eq_true rfl) ?_
  refine jx_sub (lv' := [(0, .ref (G.2 25))]) [0] rfl ?_
  refine jx_aload_n (pc := 0) (k0 := 0) rfl dX3_takesBlank_0 ?_
  refine ll_greader_amounts (pc := 1) fl_X3_15 dX3_takesBlank_1 ?_
  refine jx_aload_n (pc := 4) (k0 := 0) rfl dX3_takesBlank_4 ?_
  refine ll_greader_clauses (pc := 5) fl_X3_27 dX3_takesBlank_5 ?_
  refine jx_aload_n (pc := 8) (k0 := 0) rfl dX3_takesBlank_8 ?_
  refine ll_greader_number (pc := 9) fl_X3_114 dX3_takesBlank_9 ?_
  obtain ⟨g1, h⟩ := jx_gd_o h
  obtain ⟨σ2, eσ2, h⟩ := jx_lt_o h
  refine ll_s (pc := 12) (k := 62) hG (jx_in_o g1) rfl eσ2 dX3_takesBlank_12 ?_
  refine jx_aload_n (pc := 13) (k0 := 0) rfl dX3_takesBlank_13 ?_
  refine jx_iconst (pc := 14) (v := (4 : Int32)) (by decide) dX3_takesBlank_14 ?_
  obtain ⟨σ3, eσ3, h⟩ := jx_lt_o h
  refine ll_preader_due (pc := 15) hG fl_X3_40 eσ3 dX3_takesBlank_15 ?_
  refine jx_iconst (pc := 18) (v := (1 : Int32)) (by decide) dX3_takesBlank_18 ?_
  cases h
  exact jx_zret (pc := 19) (Or.inr rfl) dX3_takesBlank_19
theorem dX3_isSo_0 : decode cX3_isSo 0 = .ok (.aload_n 0, 1) := by decide +kernel
theorem dX3_isSo_1 : decode cX3_isSo 1 = .ok (.getfield 132, 3) := by decide +kernel
theorem dX3_isSo_4 : decode cX3_isSo 4 = .ok (.lookupswitch 56 #[(0, 28), (1, 42)], 28) := by decide +kernel
theorem dX3_isSo_32 : decode cX3_isSo 32 = .ok (.iload_n 1, 1) := by decide +kernel
theorem dX3_isSo_33 : decode cX3_isSo 33 = .ok (.aload_n 0, 1) := by decide +kernel
theorem dX3_isSo_34 : decode cX3_isSo 34 = .ok (.getfield 114, 3) := by decide +kernel
theorem dX3_isSo_37 : decode cX3_isSo 37 = .ok (.if_icmp .ge 7, 3) := by decide +kernel
theorem dX3_isSo_40 : decode cX3_isSo 40 = .ok (.iconst 1, 1) := by decide +kernel
theorem dX3_isSo_41 : decode cX3_isSo 41 = .ok (.goto 4, 3) := by decide +kernel
theorem dX3_isSo_44 : decode cX3_isSo 44 = .ok (.iconst 0, 1) := by decide +kernel
theorem dX3_isSo_45 : decode cX3_isSo 45 = .ok (.ireturn, 1) := by decide +kernel
theorem dX3_isSo_46 : decode cX3_isSo 46 = .ok (.iload_n 1, 1) := by decide +kernel
theorem dX3_isSo_47 : decode cX3_isSo 47 = .ok (.aload_n 0, 1) := by decide +kernel
theorem dX3_isSo_48 : decode cX3_isSo 48 = .ok (.getfield 114, 3) := by decide +kernel
theorem dX3_isSo_51 : decode cX3_isSo 51 = .ok (.if_icmp .ne 7, 3) := by decide +kernel
theorem dX3_isSo_54 : decode cX3_isSo 54 = .ok (.iconst 1, 1) := by decide +kernel
theorem dX3_isSo_55 : decode cX3_isSo 55 = .ok (.goto 4, 3) := by decide +kernel
theorem dX3_isSo_58 : decode cX3_isSo 58 = .ok (.iconst 0, 1) := by decide +kernel
theorem dX3_isSo_59 : decode cX3_isSo 59 = .ok (.ireturn, 1) := by decide +kernel
theorem dX3_isSo_60 : decode cX3_isSo 60 = .ok (.iload_n 1, 1) := by decide +kernel
theorem dX3_isSo_61 : decode cX3_isSo 61 = .ok (.aload_n 0, 1) := by decide +kernel
theorem dX3_isSo_62 : decode cX3_isSo 62 = .ok (.getfield 114, 3) := by decide +kernel
theorem dX3_isSo_65 : decode cX3_isSo 65 = .ok (.if_icmp .le 7, 3) := by decide +kernel
theorem dX3_isSo_68 : decode cX3_isSo 68 = .ok (.iconst 1, 1) := by decide +kernel
theorem dX3_isSo_69 : decode cX3_isSo 69 = .ok (.goto 4, 3) := by decide +kernel
theorem dX3_isSo_72 : decode cX3_isSo 72 = .ok (.iconst 0, 1) := by decide +kernel
theorem dX3_isSo_73 : decode cX3_isSo 73 = .ok (.ireturn, 1) := by decide +kernel
abbrev rm_X3_isSo : Room := { frames := 0, cells := 0, slots := 0, locals := 0 }
abbrev jJ_X3_isSo (l : Launch) (G : jx_G) (t : jx_T) (sz : Nat) (σ0 : jx_M) (out : Int32) (pc : Nat) (lv : List (Nat × Value)) (st : List Value) (σ : jx_M) : Prop := jx_J l (ll_env G t) (ll_dyn G t) (ll_rg G) sz RX3 "isSo" cX3_isSo 2 (some .boolean) rm_X3_isSo (fun below args s => MQ below (jx_Qi (ll_dyn G t) σ0 out (jx_A (ll_rg G) sz)) args s 0 0 (jx_A (ll_rg G) sz)) 0 0 pc lv st σ
def f_X3_isSo (t : jx_T) (σ : jx_M) (a1 : Int32) : Option Int32 :=
  if (σ 0 38) = (0 : Int32) then if (σ 0 39) ≤ a1 then some (0 : Int32) else some (1 : Int32) else if (σ 0 38) = (1 : Int32) then if a1 = (σ 0 39) then some (1 : Int32) else some (0 : Int32) else if a1 ≤ (σ 0 39) then some (0 : Int32) else some (1 : Int32)
set_option maxHeartbeats 4000000 in
set_option maxRecDepth 100000 in
theorem k_X3_isSo (l : Launch) (G : jx_G) (t : jx_T) (hG : ll_ok G) (sz : Nat) (σ : jx_M) (a1 : Int32) (out : Int32) (h : f_X3_isSo t σ a1 = some out) : Met l yX3_isSo (Cond.code yX3_isSo cX3_isSo 2 (some .boolean) :: jx_ws) rm_X3_isSo (jx_Pc (ll_env G t) (ll_dyn G t) (ll_rg G) sz σ [.ref (G.2 25), .int a1]) (jx_Qi (ll_dyn G t) σ out (jx_A (ll_rg G) sz)) 0 0 (jx_A (ll_rg G) sz) := by
  unfold f_X3_isSo at h
  refine jx_met (by decide) (Nat.le_of_ble_eq_true rfl) ?_
  refine jx_sub (lv' := [(0, .ref (G.2 25)), (1, .int a1)]) [0, 1] rfl ?_
  refine jx_aload_n (pc := 0) (k0 := 0) rfl dX3_isSo_0 ?_
  refine ll_greader_relation (pc := 1) fl_X3_132 dX3_isSo_1 ?_
  by_cases c2 : (σ 0 38) = (0 : Int32)
  · have h := jx_t c2 h
    refine jx_look (pc := 4) (tgt := 32) dX3_isSo_4 (by decide) (off := 28) (by rw [c2]; decide) (by decide) ?_
    refine jx_iload_n (pc := 32) (k0 := 1) rfl dX3_isSo_32 ?_
    refine jx_aload_n (pc := 33) (k0 := 0) rfl dX3_isSo_33 ?_
    refine ll_greader_number (pc := 34) fl_X3_114 dX3_isSo_34 ?_
    refine jx_icmp_ge (pc := 37) (tgt := 44) dX3_isSo_37 (by decide) (fun c1 => ?_) (fun c1 => ?_)
    · have h := jx_t c1 h
      refine jx_iconst (pc := 44) (v := (0 : Int32)) (by decide) dX3_isSo_44 ?_
      cases h
      exact jx_zret (pc := 45) (Or.inl rfl) dX3_isSo_45
    · have h := jx_f c1 h
      refine jx_iconst (pc := 40) (v := (1 : Int32)) (by decide) dX3_isSo_40 ?_
      refine jx_goto (pc := 41) (tgt := 45) dX3_isSo_41 (by decide) ?_
      cases h
      exact jx_zret (pc := 45) (Or.inr rfl) dX3_isSo_45
  have h := jx_f c2 h
  by_cases c4 : (σ 0 38) = (1 : Int32)
  · have h := jx_t c4 h
    refine jx_look (pc := 4) (tgt := 46) dX3_isSo_4 (by decide) (off := 42) (by rw [c4]; decide) (by decide) ?_
    refine jx_iload_n (pc := 46) (k0 := 1) rfl dX3_isSo_46 ?_
    refine jx_aload_n (pc := 47) (k0 := 0) rfl dX3_isSo_47 ?_
    refine ll_greader_number (pc := 48) fl_X3_114 dX3_isSo_48 ?_
    refine jx_icmp_ne (pc := 51) (tgt := 58) dX3_isSo_51 (by decide) (fun c3 => ?_) (fun c3 => ?_)
    · have h := jx_f c3 h
      refine jx_iconst (pc := 58) (v := (0 : Int32)) (by decide) dX3_isSo_58 ?_
      cases h
      exact jx_zret (pc := 59) (Or.inl rfl) dX3_isSo_59
    · have h := jx_t c3 h
      refine jx_iconst (pc := 54) (v := (1 : Int32)) (by decide) dX3_isSo_54 ?_
      refine jx_goto (pc := 55) (tgt := 59) dX3_isSo_55 (by decide) ?_
      cases h
      exact jx_zret (pc := 59) (Or.inr rfl) dX3_isSo_59
  have h := jx_f c4 h
  refine jx_look (pc := 4) (tgt := 60) (off := 56) dX3_isSo_4 (by decide) ((lv_osw c2 (by decide)).trans ((lv_osw c4 (by decide)).trans rfl)) (by decide) ?_
  refine jx_iload_n (pc := 60) (k0 := 1) rfl dX3_isSo_60 ?_
  refine jx_aload_n (pc := 61) (k0 := 0) rfl dX3_isSo_61 ?_
  refine ll_greader_number (pc := 62) fl_X3_114 dX3_isSo_62 ?_
  refine jx_icmp_le (pc := 65) (tgt := 72) dX3_isSo_65 (by decide) (fun c5 => ?_) (fun c5 => ?_)
  · have h := jx_t c5 h
    refine jx_iconst (pc := 72) (v := (0 : Int32)) (by decide) dX3_isSo_72 ?_
    cases h
    exact jx_zret (pc := 73) (Or.inl rfl) dX3_isSo_73
  · have h := jx_f c5 h
    refine jx_iconst (pc := 68) (v := (1 : Int32)) (by decide) dX3_isSo_68 ?_
    refine jx_goto (pc := 69) (tgt := 73) dX3_isSo_69 (by decide) ?_
    cases h
    exact jx_zret (pc := 73) (Or.inr rfl) dX3_isSo_73
theorem dX3_pend_0 : decode cX3_pend 0 = .ok (.aload_n 0, 1) := by decide +kernel
theorem dX3_pend_1 : decode cX3_pend 1 = .ok (.getfield 34, 3) := by decide +kernel
theorem dX3_pend_4 : decode cX3_pend 4 = .ok (.bipush 17, 2) := by decide +kernel
theorem dX3_pend_6 : decode cX3_pend 6 = .ok (.if_icmp .ge 23, 3) := by decide +kernel
theorem dX3_pend_9 : decode cX3_pend 9 = .ok (.aload_n 0, 1) := by decide +kernel
theorem dX3_pend_10 : decode cX3_pend 10 = .ok (.getfield 24, 3) := by decide +kernel
theorem dX3_pend_13 : decode cX3_pend 13 = .ok (.aload_n 0, 1) := by decide +kernel
theorem dX3_pend_14 : decode cX3_pend 14 = .ok (.getfield 34, 3) := by decide +kernel
theorem dX3_pend_17 : decode cX3_pend 17 = .ok (.iload_n 1, 1) := by decide +kernel
theorem dX3_pend_18 : decode cX3_pend 18 = .ok (.iastore, 1) := by decide +kernel
theorem dX3_pend_19 : decode cX3_pend 19 = .ok (.aload_n 0, 1) := by decide +kernel
theorem dX3_pend_20 : decode cX3_pend 20 = .ok (.dup, 1) := by decide +kernel
theorem dX3_pend_21 : decode cX3_pend 21 = .ok (.getfield 34, 3) := by decide +kernel
theorem dX3_pend_24 : decode cX3_pend 24 = .ok (.iconst 1, 1) := by decide +kernel
theorem dX3_pend_25 : decode cX3_pend 25 = .ok (.iadd, 1) := by decide +kernel
theorem dX3_pend_26 : decode cX3_pend 26 = .ok (.putfield 34, 3) := by decide +kernel
theorem dX3_pend_29 : decode cX3_pend 29 = .ok (.return_, 1) := by decide +kernel
abbrev rm_X3_pend : Room := { frames := 0, cells := 0, slots := 0, locals := 0 }
abbrev jJ_X3_pend (l : Launch) (G : jx_G) (t : jx_T) (sz : Nat) (out : jx_M) (pc : Nat) (lv : List (Nat × Value)) (st : List Value) (σ : jx_M) : Prop := jx_J l (ll_env G t) (ll_dyn G t) (ll_rg G) sz RX3 "pend" cX3_pend 2 none rm_X3_pend (fun below args s => MQ below (jx_Qv (ll_dyn G t) out (jx_A (ll_rg G) sz)) args s 0 0 (jx_A (ll_rg G) sz)) 0 0 pc lv st σ
def f_X3_pend (t : jx_T) (σ : jx_M) (a1 : Int32) : Option jx_M :=
  if (17 : Int32) ≤ (σ 0 32) then some σ else jx_gd (jx_in (σ 0 32) 17) (jx_lt (jx_mu σ 65 (σ 0 32).toNatClampNeg a1) (fun σ3 => jx_lt (jx_mu σ3 0 32 ((σ3 0 32) + (1 : Int32))) (fun σ4 => some σ4)))
set_option maxHeartbeats 4000000 in
set_option maxRecDepth 100000 in
theorem k_X3_pend (l : Launch) (G : jx_G) (t : jx_T) (hG : ll_ok G) (sz : Nat) (σ : jx_M) (a1 : Int32) (out : jx_M) (h : f_X3_pend t σ a1 = some out) : Met l yX3_pend (Cond.code yX3_pend cX3_pend 2 none :: jx_ws) rm_X3_pend (jx_Pc (ll_env G t) (ll_dyn G t) (ll_rg G) sz σ [.ref (G.2 25), .int a1]) (jx_Qv (ll_dyn G t) out (jx_A (ll_rg G) sz)) 0 0 (jx_A (ll_rg G) sz) := by
  unfold f_X3_pend at h
  refine jx_met (by decide) (Nat.le_of_ble_eq_true rfl) ?_
  refine jx_sub (lv' := [(0, .ref (G.2 25)), (1, .int a1)]) [0, 1] rfl ?_
  refine jx_aload_n (pc := 0) (k0 := 0) rfl dX3_pend_0 ?_
  refine ll_greader_pended (pc := 1) fl_X3_34 dX3_pend_1 ?_
  refine jx_bipush (pc := 4) (v := (17 : Int32)) (by decide) dX3_pend_4 ?_
  refine jx_icmp_ge (pc := 6) (tgt := 29) dX3_pend_6 (by decide) (fun c1 => ?_) (fun c1 => ?_)
  · have h := jx_t c1 h
    cases h
    exact jx_vret (pc := 29) dX3_pend_29
  · have h := jx_f c1 h
    refine jx_aload_n (pc := 9) (k0 := 0) rfl dX3_pend_9 ?_
    refine ll_greader_pending (pc := 10) fl_X3_24 dX3_pend_10 ?_
    refine jx_aload_n (pc := 13) (k0 := 0) rfl dX3_pend_13 ?_
    refine ll_greader_pended (pc := 14) fl_X3_34 dX3_pend_14 ?_
    refine jx_iload_n (pc := 17) (k0 := 1) rfl dX3_pend_17 ?_
    obtain ⟨g2, h⟩ := jx_gd_o h
    obtain ⟨σ3, eσ3, h⟩ := jx_lt_o h
    refine ll_s (pc := 18) (k := 65) hG (jx_in_o g2) rfl eσ3 dX3_pend_18 ?_
    refine jx_aload_n (pc := 19) (k0 := 0) rfl dX3_pend_19 ?_
    refine jx_dup (pc := 20) rfl dX3_pend_20 ?_
    refine ll_greader_pended (pc := 21) fl_X3_34 dX3_pend_21 ?_
    refine jx_iconst (pc := 24) (v := (1 : Int32)) (by decide) dX3_pend_24 ?_
    refine jx_iadd (pc := 25) dX3_pend_25 ?_
    obtain ⟨σ4, eσ4, h⟩ := jx_lt_o h
    refine ll_preader_pended (pc := 26) hG fl_X3_34 eσ4 dX3_pend_26 ?_
    cases h
    exact jx_vret (pc := 29) dX3_pend_29
theorem dX3_write_0 : decode cX3_write 0 = .ok (.aload_n 0, 1) := by decide +kernel
theorem dX3_write_1 : decode cX3_write 1 = .ok (.getfield 31, 3) := by decide +kernel
theorem dX3_write_4 : decode cX3_write 4 = .ok (.bipush 100, 2) := by decide +kernel
theorem dX3_write_6 : decode cX3_write 6 = .ok (.if_icmp .ge 23, 3) := by decide +kernel
theorem dX3_write_9 : decode cX3_write 9 = .ok (.aload_n 0, 1) := by decide +kernel
theorem dX3_write_10 : decode cX3_write 10 = .ok (.getfield 21, 3) := by decide +kernel
theorem dX3_write_13 : decode cX3_write 13 = .ok (.aload_n 0, 1) := by decide +kernel
theorem dX3_write_14 : decode cX3_write 14 = .ok (.getfield 31, 3) := by decide +kernel
theorem dX3_write_17 : decode cX3_write 17 = .ok (.iload_n 1, 1) := by decide +kernel
theorem dX3_write_18 : decode cX3_write 18 = .ok (.iastore, 1) := by decide +kernel
theorem dX3_write_19 : decode cX3_write 19 = .ok (.aload_n 0, 1) := by decide +kernel
theorem dX3_write_20 : decode cX3_write 20 = .ok (.dup, 1) := by decide +kernel
theorem dX3_write_21 : decode cX3_write 21 = .ok (.getfield 31, 3) := by decide +kernel
theorem dX3_write_24 : decode cX3_write 24 = .ok (.iconst 1, 1) := by decide +kernel
theorem dX3_write_25 : decode cX3_write 25 = .ok (.iadd, 1) := by decide +kernel
theorem dX3_write_26 : decode cX3_write 26 = .ok (.putfield 31, 3) := by decide +kernel
theorem dX3_write_29 : decode cX3_write 29 = .ok (.return_, 1) := by decide +kernel
abbrev rm_X3_write : Room := { frames := 0, cells := 0, slots := 0, locals := 0 }
abbrev jJ_X3_write (l : Launch) (G : jx_G) (t : jx_T) (sz : Nat) (out : jx_M) (pc : Nat) (lv : List (Nat × Value)) (st : List Value) (σ : jx_M) : Prop := jx_J l (ll_env G t) (ll_dyn G t) (ll_rg G) sz RX3 "write" cX3_write 2 none rm_X3_write (fun below args s => MQ below (jx_Qv (ll_dyn G t) out (jx_A (ll_rg G) sz)) args s 0 0 (jx_A (ll_rg G) sz)) 0 0 pc lv st σ
def f_X3_write (t : jx_T) (σ : jx_M) (a1 : Int32) : Option jx_M :=
  if (100 : Int32) ≤ (σ 0 31) then some σ else jx_gd (jx_in (σ 0 31) 100) (jx_lt (jx_mu σ 64 (σ 0 31).toNatClampNeg a1) (fun σ3 => jx_lt (jx_mu σ3 0 31 ((σ3 0 31) + (1 : Int32))) (fun σ4 => some σ4)))
set_option maxHeartbeats 4000000 in
set_option maxRecDepth 100000 in
theorem k_X3_write (l : Launch) (G : jx_G) (t : jx_T) (hG : ll_ok G) (sz : Nat) (σ : jx_M) (a1 : Int32) (out : jx_M) (h : f_X3_write t σ a1 = some out) : Met l yX3_write (Cond.code yX3_write cX3_write 2 none :: jx_ws) rm_X3_write (jx_Pc (ll_env G t) (ll_dyn G t) (ll_rg G) sz σ [.ref (G.2 25), .int a1]) (jx_Qv (ll_dyn G t) out (jx_A (ll_rg G) sz)) 0 0 (jx_A (ll_rg G) sz) := by
  unfold f_X3_write at h
  refine jx_met (by decide) (Nat.le_of_ble_eq_true rfl) ?_
  refine jx_sub (lv' := [(0, .ref (G.2 25)), (1, .int a1)]) [0, 1] rfl ?_
  refine jx_aload_n (pc := 0) (k0 := 0) rfl dX3_write_0 ?_
  refine ll_greader_codes (pc := 1) fl_X3_31 dX3_write_1 ?_
  refine jx_bipush (pc := 4) (v := (100 : Int32)) (by decide) dX3_write_4 ?_
  refine jx_icmp_ge (pc := 6) (tgt := 29) dX3_write_6 (by decide) (fun c1 => ?_) (fun c1 => ?_)
  · have h := jx_t c1 h
    cases h
    exact jx_vret (pc := 29) dX3_write_29
  · have h := jx_f c1 h
    refine jx_aload_n (pc := 9) (k0 := 0) rfl dX3_write_9 ?_
    refine ll_greader_code (pc := 10) fl_X3_21 dX3_write_10 ?_
    refine jx_aload_n (pc := 13) (k0 := 0) rfl dX3_write_13 ?_
    refine ll_greader_codes (pc := 14) fl_X3_31 dX3_write_14 ?_
    refine jx_iload_n (pc := 17) (k0 := 1) rfl dX3_write_17 ?_
    obtain ⟨g2, h⟩ := jx_gd_o h
    obtain ⟨σ3, eσ3, h⟩ := jx_lt_o h
    refine ll_s (pc := 18) (k := 64) hG (jx_in_o g2) rfl eσ3 dX3_write_18 ?_
    refine jx_aload_n (pc := 19) (k0 := 0) rfl dX3_write_19 ?_
    refine jx_dup (pc := 20) rfl dX3_write_20 ?_
    refine ll_greader_codes (pc := 21) fl_X3_31 dX3_write_21 ?_
    refine jx_iconst (pc := 24) (v := (1 : Int32)) (by decide) dX3_write_24 ?_
    refine jx_iadd (pc := 25) dX3_write_25 ?_
    obtain ⟨σ4, eσ4, h⟩ := jx_lt_o h
    refine ll_preader_codes (pc := 26) hG fl_X3_31 eσ4 dX3_write_26 ?_
    cases h
    exact jx_vret (pc := 29) dX3_write_29
theorem dX4_holds_0 : decode cX4_holds 0 = .ok (.lconst 0, 1) := by decide +kernel
theorem dX4_holds_1 : decode cX4_holds 1 = .ok (.lstore_n 3, 1) := by decide +kernel
theorem dX4_holds_2 : decode cX4_holds 2 = .ok (.iload_n 1, 1) := by decide +kernel
theorem dX4_holds_3 : decode cX4_holds 3 = .ok (.ifCond .le 14, 3) := by decide +kernel
theorem dX4_holds_6 : decode cX4_holds 6 = .ok (.aload_n 0, 1) := by decide +kernel
theorem dX4_holds_7 : decode cX4_holds 7 = .ok (.getfield 18, 3) := by decide +kernel
theorem dX4_holds_10 : decode cX4_holds 10 = .ok (.iload_n 1, 1) := by decide +kernel
theorem dX4_holds_11 : decode cX4_holds 11 = .ok (.iconst 1, 1) := by decide +kernel
theorem dX4_holds_12 : decode cX4_holds 12 = .ok (.isub, 1) := by decide +kernel
theorem dX4_holds_13 : decode cX4_holds 13 = .ok (.iaload, 1) := by decide +kernel
theorem dX4_holds_14 : decode cX4_holds 14 = .ok (.goto 4, 3) := by decide +kernel
theorem dX4_holds_17 : decode cX4_holds 17 = .ok (.iconst 0, 1) := by decide +kernel
theorem dX4_holds_18 : decode cX4_holds 18 = .ok (.istore 5, 2) := by decide +kernel
theorem dX4_holds_20 : decode cX4_holds 20 = .ok (.iload 5, 2) := by decide +kernel
theorem dX4_holds_22 : decode cX4_holds 22 = .ok (.istore 6, 2) := by decide +kernel
theorem dX4_holds_24 : decode cX4_holds 24 = .ok (.iload 6, 2) := by decide +kernel
theorem dX4_holds_26 : decode cX4_holds 26 = .ok (.aload_n 0, 1) := by decide +kernel
theorem dX4_holds_27 : decode cX4_holds 27 = .ok (.getfield 18, 3) := by decide +kernel
theorem dX4_holds_30 : decode cX4_holds 30 = .ok (.iload_n 1, 1) := by decide +kernel
theorem dX4_holds_31 : decode cX4_holds 31 = .ok (.iaload, 1) := by decide +kernel
theorem dX4_holds_32 : decode cX4_holds 32 = .ok (.if_icmp .ge 99, 3) := by decide +kernel
theorem dX4_holds_35 : decode cX4_holds 35 = .ok (.iload 6, 2) := by decide +kernel
theorem dX4_holds_37 : decode cX4_holds 37 = .ok (.aload_n 0, 1) := by decide +kernel
theorem dX4_holds_38 : decode cX4_holds 38 = .ok (.getfield 21, 3) := by decide +kernel
theorem dX4_holds_41 : decode cX4_holds 41 = .ok (.arraylength, 1) := by decide +kernel
theorem dX4_holds_42 : decode cX4_holds 42 = .ok (.if_icmp .ge 89, 3) := by decide +kernel
theorem dX4_holds_45 : decode cX4_holds 45 = .ok (.aload_n 0, 1) := by decide +kernel
theorem dX4_holds_46 : decode cX4_holds 46 = .ok (.getfield 21, 3) := by decide +kernel
theorem dX4_holds_49 : decode cX4_holds 49 = .ok (.iload 6, 2) := by decide +kernel
theorem dX4_holds_51 : decode cX4_holds 51 = .ok (.iaload, 1) := by decide +kernel
theorem dX4_holds_52 : decode cX4_holds 52 = .ok (.istore 7, 2) := by decide +kernel
theorem dX4_holds_54 : decode cX4_holds 54 = .ok (.iload 7, 2) := by decide +kernel
theorem dX4_holds_56 : decode cX4_holds 56 = .ok (.iconst (-1), 1) := by decide +kernel
theorem dX4_holds_57 : decode cX4_holds 57 = .ok (.if_icmp .ne 10, 3) := by decide +kernel
theorem dX4_holds_60 : decode cX4_holds 60 = .ok (.lload_n 3, 1) := by decide +kernel
theorem dX4_holds_61 : decode cX4_holds 61 = .ok (.lconst 1, 1) := by decide +kernel
theorem dX4_holds_62 : decode cX4_holds 62 = .ok (.lxor, 1) := by decide +kernel
theorem dX4_holds_63 : decode cX4_holds 63 = .ok (.lstore_n 3, 1) := by decide +kernel
theorem dX4_holds_64 : decode cX4_holds 64 = .ok (.goto 61, 3) := by decide +kernel
theorem dX4_holds_67 : decode cX4_holds 67 = .ok (.iload 7, 2) := by decide +kernel
theorem dX4_holds_69 : decode cX4_holds 69 = .ok (.bipush (-2), 2) := by decide +kernel
theorem dX4_holds_71 : decode cX4_holds 71 = .ok (.if_icmp .ne 16, 3) := by decide +kernel
theorem dX4_holds_74 : decode cX4_holds 74 = .ok (.lload_n 3, 1) := by decide +kernel
theorem dX4_holds_75 : decode cX4_holds 75 = .ok (.iconst 1, 1) := by decide +kernel
theorem dX4_holds_76 : decode cX4_holds 76 = .ok (.lshr, 1) := by decide +kernel
theorem dX4_holds_77 : decode cX4_holds 77 = .ok (.lload_n 3, 1) := by decide +kernel
theorem dX4_holds_78 : decode cX4_holds 78 = .ok (.ldc2_w 28, 3) := by decide +kernel
theorem dX4_holds_81 : decode cX4_holds 81 = .ok (.lor, 1) := by decide +kernel
theorem dX4_holds_82 : decode cX4_holds 82 = .ok (.land, 1) := by decide +kernel
theorem dX4_holds_83 : decode cX4_holds 83 = .ok (.lstore_n 3, 1) := by decide +kernel
theorem dX4_holds_84 : decode cX4_holds 84 = .ok (.goto 41, 3) := by decide +kernel
theorem dX4_holds_87 : decode cX4_holds 87 = .ok (.iload 7, 2) := by decide +kernel
theorem dX4_holds_89 : decode cX4_holds 89 = .ok (.bipush (-3), 2) := by decide +kernel
theorem dX4_holds_91 : decode cX4_holds 91 = .ok (.if_icmp .ne 14, 3) := by decide +kernel
theorem dX4_holds_94 : decode cX4_holds 94 = .ok (.lload_n 3, 1) := by decide +kernel
theorem dX4_holds_95 : decode cX4_holds 95 = .ok (.iconst 1, 1) := by decide +kernel
theorem dX4_holds_96 : decode cX4_holds 96 = .ok (.lshr, 1) := by decide +kernel
theorem dX4_holds_97 : decode cX4_holds 97 = .ok (.lload_n 3, 1) := by decide +kernel
theorem dX4_holds_98 : decode cX4_holds 98 = .ok (.lconst 1, 1) := by decide +kernel
theorem dX4_holds_99 : decode cX4_holds 99 = .ok (.land, 1) := by decide +kernel
theorem dX4_holds_100 : decode cX4_holds 100 = .ok (.lor, 1) := by decide +kernel
theorem dX4_holds_101 : decode cX4_holds 101 = .ok (.lstore_n 3, 1) := by decide +kernel
theorem dX4_holds_102 : decode cX4_holds 102 = .ok (.goto 23, 3) := by decide +kernel
theorem dX4_holds_105 : decode cX4_holds 105 = .ok (.lload_n 3, 1) := by decide +kernel
theorem dX4_holds_106 : decode cX4_holds 106 = .ok (.iconst 1, 1) := by decide +kernel
theorem dX4_holds_107 : decode cX4_holds 107 = .ok (.lshl, 1) := by decide +kernel
theorem dX4_holds_108 : decode cX4_holds 108 = .ok (.iload 7, 2) := by decide +kernel
theorem dX4_holds_110 : decode cX4_holds 110 = .ok (.aload_n 2, 1) := by decide +kernel
theorem dX4_holds_111 : decode cX4_holds 111 = .ok (.iload 7, 2) := by decide +kernel
theorem dX4_holds_113 : decode cX4_holds 113 = .ok (.bipush 12, 2) := by decide +kernel
theorem dX4_holds_115 : decode cX4_holds 115 = .ok (.ishr, 1) := by decide +kernel
theorem dX4_holds_116 : decode cX4_holds 116 = .ok (.iconst 4, 1) := by decide +kernel
theorem dX4_holds_117 : decode cX4_holds 117 = .ok (.irem, 1) := by decide +kernel
theorem dX4_holds_118 : decode cX4_holds 118 = .ok (.iaload, 1) := by decide +kernel
theorem dX4_holds_119 : decode cX4_holds 119 = .ok (.ishr, 1) := by decide +kernel
theorem dX4_holds_120 : decode cX4_holds 120 = .ok (.iconst 1, 1) := by decide +kernel
theorem dX4_holds_121 : decode cX4_holds 121 = .ok (.iand, 1) := by decide +kernel
theorem dX4_holds_122 : decode cX4_holds 122 = .ok (.i2l, 1) := by decide +kernel
theorem dX4_holds_123 : decode cX4_holds 123 = .ok (.lor, 1) := by decide +kernel
theorem dX4_holds_124 : decode cX4_holds 124 = .ok (.lstore_n 3, 1) := by decide +kernel
theorem dX4_holds_125 : decode cX4_holds 125 = .ok (.iinc 6 1, 3) := by decide +kernel
theorem dX4_holds_128 : decode cX4_holds 128 = .ok (.goto (-104), 3) := by decide +kernel
theorem dX4_holds_131 : decode cX4_holds 131 = .ok (.lload_n 3, 1) := by decide +kernel
theorem dX4_holds_132 : decode cX4_holds 132 = .ok (.lconst 1, 1) := by decide +kernel
theorem dX4_holds_133 : decode cX4_holds 133 = .ok (.land, 1) := by decide +kernel
theorem dX4_holds_134 : decode cX4_holds 134 = .ok (.lconst 0, 1) := by decide +kernel
theorem dX4_holds_135 : decode cX4_holds 135 = .ok (.lcmp, 1) := by decide +kernel
theorem dX4_holds_136 : decode cX4_holds 136 = .ok (.ifCond .eq 7, 3) := by decide +kernel
theorem dX4_holds_139 : decode cX4_holds 139 = .ok (.iconst 1, 1) := by decide +kernel
theorem dX4_holds_140 : decode cX4_holds 140 = .ok (.goto 4, 3) := by decide +kernel
theorem dX4_holds_143 : decode cX4_holds 143 = .ok (.iconst 0, 1) := by decide +kernel
theorem dX4_holds_144 : decode cX4_holds 144 = .ok (.ireturn, 1) := by decide +kernel
abbrev rm_X4_holds : Room := { frames := 0, cells := 0, slots := 0, locals := 0 }
abbrev jJ_X4_holds (l : Launch) (G : jx_G) (t : jx_T) (sz : Nat) (σ0 : jx_M) (out : Int32) (pc : Nat) (lv : List (Nat × Value)) (st : List Value) (σ : jx_M) : Prop := jx_J l (ll_env G t) (ll_dyn G t) (ll_rg G) sz RX4 "holds" cX4_holds 8 (some .boolean) rm_X4_holds (fun below args s => MQ below (jx_Qi (ll_dyn G t) σ0 out (jx_A (ll_rg G) sz)) args s 0 0 (jx_A (ll_rg G) sz)) 0 0 pc lv st σ
def b_X4_holds_125 (t : jx_T) (k24 : jx_M → Int32 → Nat → Int64 → Int32 → Option Int32) (σ : jx_M) (v1 : Int32) (v2 : Nat) (v3 : Int64) (v6 : Int32) : Option Int32 :=
  jx_lt (v6 + (1 : Int32)) (fun x1 => (k24 σ v1 v2 v3 x1))
set_option maxHeartbeats 4000000 in
set_option maxRecDepth 100000 in
theorem jb_X4_holds_125 (l : Launch) (G : jx_G) (t : jx_T) (hG : ll_ok G) (sz : Nat) (σ0 : jx_M) (out : Int32) (k24 : jx_M → Int32 → Nat → Int64 → Int32 → Option Int32) (h24 : ∀ (σ : jx_M) (v1 : Int32) (v2 : Nat) (v3 : Int64) (v6 : Int32), σ = σ0 → k24 σ v1 v2 v3 v6 = some out → jJ_X4_holds l G t sz σ0 out 24 [(0, .ref (t.1 0)), (1, .int v1), (2, .ref (G.2 (100 + v2))), (3, .long v3), (6, .int v6)] [] σ) (σ : jx_M) (v1 : Int32) (v2 : Nat) (v3 : Int64) (v6 : Int32) (e0 : σ = σ0) (h : b_X4_holds_125 t k24 σ v1 v2 v3 v6 = some out) : jJ_X4_holds l G t sz σ0 out 125 [(0, .ref (t.1 0)), (1, .int v1), (2, .ref (G.2 (100 + v2))), (3, .long v3), (6, .int v6)] [] σ := by
  unfold b_X4_holds_125 at h
  obtain ⟨x1, ex1, h⟩ := jx_lt_o h
  refine jx_iinc (pc := 125) (i := 6) (v := v6) rfl ex1 (n := 1) (by decide) (by decide) (lv' := [(6, .int x1), (0, .ref (t.1 0)), (1, .int v1), (2, .ref (G.2 (100 + v2))), (3, .long v3)]) rfl dX4_holds_125 ?_
  refine jx_goto (pc := 128) (tgt := 24) dX4_holds_128 (by decide) ?_
  exact jx_sub [1, 2, 3, 4, 0] rfl (h24 σ v1 v2 v3 x1 e0 h)
def b_X4_holds_131 (t : jx_T)  (σ : jx_M) (v3 : Int64) : Option Int32 :=
  if (lg_cmp (v3 &&& (1 : Int64)) (0 : Int64)) = 0 then some (0 : Int32) else some (1 : Int32)
set_option maxHeartbeats 4000000 in
set_option maxRecDepth 100000 in
theorem jb_X4_holds_131 (l : Launch) (G : jx_G) (t : jx_T) (hG : ll_ok G) (sz : Nat) (σ0 : jx_M) (out : Int32)  (σ : jx_M) (v3 : Int64) (e0 : σ = σ0) (h : b_X4_holds_131 t σ v3 = some out) : jJ_X4_holds l G t sz σ0 out 131 [(3, .long v3)] [] σ := by
  unfold b_X4_holds_131 at h
  refine jx_lload_n (pc := 131) (k0 := 3) rfl dX4_holds_131 ?_
  refine jx_lconst (pc := 132) (v := (1 : Int64)) (by decide) dX4_holds_132 ?_
  refine jx_land (pc := 133) dX4_holds_133 ?_
  refine jx_lconst (pc := 134) (v := (0 : Int64)) (by decide) dX4_holds_134 ?_
  refine jx_lcmp (pc := 135) dX4_holds_135 ?_
  refine jx_if_eq (pc := 136) (tgt := 143) dX4_holds_136 (by decide) (fun c1 => ?_) (fun c1 => ?_)
  · have h := jx_t c1 h
    refine jx_iconst (pc := 143) (v := (0 : Int32)) (by decide) dX4_holds_143 ?_
    subst e0
    cases h
    exact jx_zret (pc := 144) (Or.inl rfl) dX4_holds_144
  · have h := jx_f c1 h
    refine jx_iconst (pc := 139) (v := (1 : Int32)) (by decide) dX4_holds_139 ?_
    refine jx_goto (pc := 140) (tgt := 144) dX4_holds_140 (by decide) ?_
    subst e0
    cases h
    exact jx_zret (pc := 144) (Or.inr rfl) dX4_holds_144
def g_X4_holds_24 (t : jx_T) (k24 : jx_M → Int32 → Nat → Int64 → Int32 → Option Int32) (σ : jx_M) (v1 : Int32) (v2 : Nat) (v3 : Int64) (v6 : Int32) : Option Int32 :=
  jx_gd (jx_in v1 (t.2.1 3)) (if (t.2.2 3 v1.toNatClampNeg) ≤ v6 then (b_X4_holds_131 t σ v3) else if (Int32.ofNat (t.2.1 4)) ≤ v6 then (b_X4_holds_131 t σ v3) else jx_gd (jx_in v6 (t.2.1 4)) (jx_lt ((t.2.2 4 v6.toNatClampNeg)) (fun x5 => if x5 = (-1 : Int32) then jx_lt ((v3 ^^^ (1 : Int64))) (fun x13 => (b_X4_holds_125 t k24 σ v1 v2 x13 v6)) else if x5 = (-2 : Int32) then jx_lt (((v3 >>> ((1 : Int32).toInt64 &&& 63)) &&& (v3 ||| (-2 : Int64)))) (fun x12 => (b_X4_holds_125 t k24 σ v1 v2 x12 v6)) else if x5 = (-3 : Int32) then jx_lt (((v3 >>> ((1 : Int32).toInt64 &&& 63)) ||| (v3 &&& (1 : Int64)))) (fun x11 => (b_X4_holds_125 t k24 σ v1 v2 x11 v6)) else jx_gd (jx_in ((x5 >>> ((12 : Int32) &&& 31)) - (x5 >>> ((12 : Int32) &&& 31)) / (4 : Int32) * (4 : Int32)) (ll_len v2)) (jx_lt (((v3 <<< ((1 : Int32).toInt64 &&& 63)) ||| (((x5 >>> ((σ v2 ((x5 >>> ((12 : Int32) &&& 31)) - (x5 >>> ((12 : Int32) &&& 31)) / (4 : Int32) * (4 : Int32)).toNatClampNeg) &&& 31)) &&& (1 : Int32))).toInt64)) (fun x10 => (b_X4_holds_125 t k24 σ v1 v2 x10 v6))))))
set_option maxHeartbeats 4000000 in
set_option maxRecDepth 100000 in
theorem jg_X4_holds_24 (l : Launch) (G : jx_G) (t : jx_T) (hG : ll_ok G) (sz : Nat) (σ0 : jx_M) (out : Int32) (k24 : jx_M → Int32 → Nat → Int64 → Int32 → Option Int32) (h24 : ∀ (σ : jx_M) (v1 : Int32) (v2 : Nat) (v3 : Int64) (v6 : Int32), σ = σ0 → k24 σ v1 v2 v3 v6 = some out → jJ_X4_holds l G t sz σ0 out 24 [(0, .ref (t.1 0)), (1, .int v1), (2, .ref (G.2 (100 + v2))), (3, .long v3), (6, .int v6)] [] σ) (σ : jx_M) (v1 : Int32) (v2 : Nat) (v3 : Int64) (v6 : Int32) (e0 : σ = σ0) (h : g_X4_holds_24 t k24 σ v1 v2 v3 v6 = some out) : jJ_X4_holds l G t sz σ0 out 24 [(0, .ref (t.1 0)), (1, .int v1), (2, .ref (G.2 (100 + v2))), (3, .long v3), (6, .int v6)] [] σ := by
  unfold g_X4_holds_24 at h
  refine jx_iload (pc := 24) (i := 6) rfl dX4_holds_24 ?_
  refine jx_aload_n (pc := 26) (k0 := 0) rfl dX4_holds_26 ?_
  refine ll_gtide_ends (pc := 27) fl_X4_18 dX4_holds_27 ?_
  refine jx_iload_n (pc := 30) (k0 := 1) rfl dX4_holds_30 ?_
  obtain ⟨g1, h⟩ := jx_gd_o h
  refine ll_ltide_3 (pc := 31) (jx_in_o g1) rfl dX4_holds_31 ?_
  refine jx_icmp_ge (pc := 32) (tgt := 131) dX4_holds_32 (by decide) (fun c2 => ?_) (fun c2 => ?_)
  · have h := jx_t c2 h
    exact jx_sub [3] rfl (jb_X4_holds_131 l G t hG sz σ0 out σ v3 e0 h)
  · have h := jx_f c2 h
    refine jx_iload (pc := 35) (i := 6) rfl dX4_holds_35 ?_
    refine jx_aload_n (pc := 37) (k0 := 0) rfl dX4_holds_37 ?_
    refine ll_gtide_code (pc := 38) fl_X4_21 dX4_holds_38 ?_
    refine ll_ntide_4 (pc := 41) dX4_holds_41 ?_
    refine jx_icmp_ge (pc := 42) (tgt := 131) dX4_holds_42 (by decide) (fun c3 => ?_) (fun c3 => ?_)
    · have h := jx_t c3 h
      exact jx_sub [3] rfl (jb_X4_holds_131 l G t hG sz σ0 out σ v3 e0 h)
    · have h := jx_f c3 h
      refine jx_aload_n (pc := 45) (k0 := 0) rfl dX4_holds_45 ?_
      refine ll_gtide_code (pc := 46) fl_X4_21 dX4_holds_46 ?_
      refine jx_iload (pc := 49) (i := 6) rfl dX4_holds_49 ?_
      obtain ⟨g4, h⟩ := jx_gd_o h
      refine ll_ltide_4 (pc := 51) (jx_in_o g4) rfl dX4_holds_51 ?_
      obtain ⟨x5, ex5, h⟩ := jx_lt_o h
      refine jx_istore (pc := 52) (i := 7) ex5 (by decide) (lv' := [(7, .int x5), (0, .ref (t.1 0)), (1, .int v1), (2, .ref (G.2 (100 + v2))), (3, .long v3), (6, .int v6)]) rfl dX4_holds_52 ?_
      refine jx_iload (pc := 54) (i := 7) rfl dX4_holds_54 ?_
      refine jx_iconst (pc := 56) (v := (-1 : Int32)) (by decide) dX4_holds_56 ?_
      refine jx_icmp_ne (pc := 57) (tgt := 67) dX4_holds_57 (by decide) (fun c6 => ?_) (fun c6 => ?_)
      · have h := jx_f c6 h
        refine jx_iload (pc := 67) (i := 7) rfl dX4_holds_67 ?_
        refine jx_bipush (pc := 69) (v := (-2 : Int32)) (by decide) dX4_holds_69 ?_
        refine jx_icmp_ne (pc := 71) (tgt := 87) dX4_holds_71 (by decide) (fun c7 => ?_) (fun c7 => ?_)
        · have h := jx_f c7 h
          refine jx_iload (pc := 87) (i := 7) rfl dX4_holds_87 ?_
          refine jx_bipush (pc := 89) (v := (-3 : Int32)) (by decide) dX4_holds_89 ?_
          refine jx_icmp_ne (pc := 91) (tgt := 105) dX4_holds_91 (by decide) (fun c8 => ?_) (fun c8 => ?_)
          · have h := jx_f c8 h
            refine jx_lload_n (pc := 105) (k0 := 3) rfl dX4_holds_105 ?_
            refine jx_iconst (pc := 106) (v := (1 : Int32)) (by decide) dX4_holds_106 ?_
            refine jx_lshl (pc := 107) dX4_holds_107 ?_
            refine jx_iload (pc := 108) (i := 7) rfl dX4_holds_108 ?_
            refine jx_aload_n (pc := 110) (k0 := 2) rfl dX4_holds_110 ?_
            refine jx_iload (pc := 111) (i := 7) rfl dX4_holds_111 ?_
            refine jx_bipush (pc := 113) (v := (12 : Int32)) (by decide) dX4_holds_113 ?_
            refine jx_ishr (pc := 115) dX4_holds_115 ?_
            refine jx_iconst (pc := 116) (v := (4 : Int32)) (by decide) dX4_holds_116 ?_
            refine jx_irem (pc := 117) (by decide) dX4_holds_117 ?_
            obtain ⟨g9, h⟩ := jx_gd_o h
            refine ll_l (pc := 118) (k := v2) (jx_in_o g9) rfl dX4_holds_118 ?_
            refine jx_ishr (pc := 119) dX4_holds_119 ?_
            refine jx_iconst (pc := 120) (v := (1 : Int32)) (by decide) dX4_holds_120 ?_
            refine jx_iand (pc := 121) dX4_holds_121 ?_
            refine jx_i2l (pc := 122) dX4_holds_122 ?_
            refine jx_lor (pc := 123) dX4_holds_123 ?_
            obtain ⟨x10, ex10, h⟩ := jx_lt_o h
            refine jx_lstore_n (pc := 124) (i := 3) rfl ex10 (by decide) (lv' := [(3, .long x10), (7, .int x5), (0, .ref (t.1 0)), (1, .int v1), (2, .ref (G.2 (100 + v2))), (6, .int v6)]) rfl dX4_holds_124 ?_
            exact jx_sub [2, 3, 4, 0, 5] rfl (jb_X4_holds_125 l G t hG sz σ0 out k24 h24 σ v1 v2 x10 v6 e0 h)
          · have h := jx_t c8 h
            refine jx_lload_n (pc := 94) (k0 := 3) rfl dX4_holds_94 ?_
            refine jx_iconst (pc := 95) (v := (1 : Int32)) (by decide) dX4_holds_95 ?_
            refine jx_lshr (pc := 96) dX4_holds_96 ?_
            refine jx_lload_n (pc := 97) (k0 := 3) rfl dX4_holds_97 ?_
            refine jx_lconst (pc := 98) (v := (1 : Int64)) (by decide) dX4_holds_98 ?_
            refine jx_land (pc := 99) dX4_holds_99 ?_
            refine jx_lor (pc := 100) dX4_holds_100 ?_
            obtain ⟨x11, ex11, h⟩ := jx_lt_o h
            refine jx_lstore_n (pc := 101) (i := 3) rfl ex11 (by decide) (lv' := [(3, .long x11), (7, .int x5), (0, .ref (t.1 0)), (1, .int v1), (2, .ref (G.2 (100 + v2))), (6, .int v6)]) rfl dX4_holds_101 ?_
            refine jx_goto (pc := 102) (tgt := 125) dX4_holds_102 (by decide) ?_
            exact jx_sub [2, 3, 4, 0, 5] rfl (jb_X4_holds_125 l G t hG sz σ0 out k24 h24 σ v1 v2 x11 v6 e0 h)
        · have h := jx_t c7 h
          refine jx_lload_n (pc := 74) (k0 := 3) rfl dX4_holds_74 ?_
          refine jx_iconst (pc := 75) (v := (1 : Int32)) (by decide) dX4_holds_75 ?_
          refine jx_lshr (pc := 76) dX4_holds_76 ?_
          refine jx_lload_n (pc := 77) (k0 := 3) rfl dX4_holds_77 ?_
          refine jx_ldc2 (pc := 78) cn_X4_28 dX4_holds_78 ?_
          refine jx_lor (pc := 81) dX4_holds_81 ?_
          refine jx_land (pc := 82) dX4_holds_82 ?_
          obtain ⟨x12, ex12, h⟩ := jx_lt_o h
          refine jx_lstore_n (pc := 83) (i := 3) rfl ex12 (by decide) (lv' := [(3, .long x12), (7, .int x5), (0, .ref (t.1 0)), (1, .int v1), (2, .ref (G.2 (100 + v2))), (6, .int v6)]) rfl dX4_holds_83 ?_
          refine jx_goto (pc := 84) (tgt := 125) dX4_holds_84 (by decide) ?_
          exact jx_sub [2, 3, 4, 0, 5] rfl (jb_X4_holds_125 l G t hG sz σ0 out k24 h24 σ v1 v2 x12 v6 e0 h)
      · have h := jx_t c6 h
        refine jx_lload_n (pc := 60) (k0 := 3) rfl dX4_holds_60 ?_
        refine jx_lconst (pc := 61) (v := (1 : Int64)) (by decide) dX4_holds_61 ?_
        refine jx_lxor (pc := 62) dX4_holds_62 ?_
        obtain ⟨x13, ex13, h⟩ := jx_lt_o h
        refine jx_lstore_n (pc := 63) (i := 3) rfl ex13 (by decide) (lv' := [(3, .long x13), (7, .int x5), (0, .ref (t.1 0)), (1, .int v1), (2, .ref (G.2 (100 + v2))), (6, .int v6)]) rfl dX4_holds_63 ?_
        refine jx_goto (pc := 64) (tgt := 125) dX4_holds_64 (by decide) ?_
        exact jx_sub [2, 3, 4, 0, 5] rfl (jb_X4_holds_125 l G t hG sz σ0 out k24 h24 σ v1 v2 x13 v6 e0 h)
def b_X4_holds_24 (t : jx_T)  : Nat → jx_M → Int32 → Nat → Int64 → Int32 → Option Int32
  | 0, _, _, _, _, _ => none
  | n + 1, σ, v1, v2, v3, v6 => g_X4_holds_24 t (b_X4_holds_24 t n) σ v1 v2 v3 v6
theorem jb_X4_holds_24 (l : Launch) (G : jx_G) (t : jx_T) (hG : ll_ok G) (sz : Nat) (σ0 : jx_M) (out : Int32)  : ∀ (n : Nat) (σ : jx_M) (v1 : Int32) (v2 : Nat) (v3 : Int64) (v6 : Int32), σ = σ0 → b_X4_holds_24 t n σ v1 v2 v3 v6 = some out → jJ_X4_holds l G t sz σ0 out 24 [(0, .ref (t.1 0)), (1, .int v1), (2, .ref (G.2 (100 + v2))), (3, .long v3), (6, .int v6)] [] σ := by
  intro n
  induction n with
  | zero =>
    intro σ v1 v2 v3 v6 e0 h
    cases h
  | succ n ih =>
    intro σ v1 v2 v3 v6 e0 h
    exact jg_X4_holds_24 l G t hG sz σ0 out (b_X4_holds_24 t n) ih σ v1 v2 v3 v6 e0 h
def b_X4_holds_18 (t : jx_T)  (σ : jx_M) (v1 : Int32) (v2 : Nat) (v3 : Int64) (s0 : Int32) : Option Int32 :=
  (b_X4_holds_24 t jx_fuel σ v1 v2 v3 s0)
set_option maxHeartbeats 4000000 in
set_option maxRecDepth 100000 in
theorem jb_X4_holds_18 (l : Launch) (G : jx_G) (t : jx_T) (hG : ll_ok G) (sz : Nat) (σ0 : jx_M) (out : Int32)  (σ : jx_M) (v1 : Int32) (v2 : Nat) (v3 : Int64) (s0 : Int32) (e0 : σ = σ0) (h : b_X4_holds_18 t σ v1 v2 v3 s0 = some out) : jJ_X4_holds l G t sz σ0 out 18 [(0, .ref (t.1 0)), (1, .int v1), (2, .ref (G.2 (100 + v2))), (3, .long v3)] [.int s0] σ := by
  unfold b_X4_holds_18 at h
  refine jx_istore (pc := 18) (i := 5) rfl (by decide) (lv' := [(5, .int s0), (0, .ref (t.1 0)), (1, .int v1), (2, .ref (G.2 (100 + v2))), (3, .long v3)]) rfl dX4_holds_18 ?_
  refine jx_iload (pc := 20) (i := 5) rfl dX4_holds_20 ?_
  refine jx_istore (pc := 22) (i := 6) rfl (by decide) (lv' := [(6, .int s0), (5, .int s0), (0, .ref (t.1 0)), (1, .int v1), (2, .ref (G.2 (100 + v2))), (3, .long v3)]) rfl dX4_holds_22 ?_
  exact jx_sub [2, 3, 4, 5, 0] rfl (jb_X4_holds_24 l G t hG sz σ0 out jx_fuel σ v1 v2 v3 s0 e0 h)
def f_X4_holds (t : jx_T) (σ : jx_M) (a1 : Int32) (a2 : Nat) : Option Int32 :=
  if a1 ≤ 0 then (b_X4_holds_18 t σ a1 a2 (0 : Int64) (0 : Int32)) else jx_gd (jx_in (a1 - (1 : Int32)) (t.2.1 3)) ((b_X4_holds_18 t σ a1 a2 (0 : Int64) (t.2.2 3 (a1 - (1 : Int32)).toNatClampNeg)))
set_option maxHeartbeats 4000000 in
set_option maxRecDepth 100000 in
theorem k_X4_holds (l : Launch) (G : jx_G) (t : jx_T) (hG : ll_ok G) (sz : Nat) (σ : jx_M) (a1 : Int32) (a2 : Nat) (out : Int32) (h : f_X4_holds t σ a1 a2 = some out) : Met l yX4_holds (Cond.code yX4_holds cX4_holds 8 (some .boolean) :: jx_ws) rm_X4_holds (jx_Pc (ll_env G t) (ll_dyn G t) (ll_rg G) sz σ [.ref (t.1 0), .int a1, .ref (G.2 (100 + a2))]) (jx_Qi (ll_dyn G t) σ out (jx_A (ll_rg G) sz)) 0 0 (jx_A (ll_rg G) sz) := by
  unfold f_X4_holds at h
  refine jx_met (by decide) (Nat.le_of_ble_eq_true rfl) ?_
  refine jx_sub (lv' := [(0, .ref (t.1 0)), (1, .int a1), (2, .ref (G.2 (100 + a2)))]) [0, 1, 2] rfl ?_
  refine jx_lconst (pc := 0) (v := (0 : Int64)) (by decide) dX4_holds_0 ?_
  refine jx_lstore_n (pc := 1) (i := 3) rfl rfl (by decide) (lv' := [(3, .long (0 : Int64)), (0, .ref (t.1 0)), (1, .int a1), (2, .ref (G.2 (100 + a2)))]) rfl dX4_holds_1 ?_
  refine jx_iload_n (pc := 2) (k0 := 1) rfl dX4_holds_2 ?_
  refine jx_if_le (pc := 3) (tgt := 17) dX4_holds_3 (by decide) (fun c1 => ?_) (fun c1 => ?_)
  · have h := jx_t c1 h
    refine jx_iconst (pc := 17) (v := (0 : Int32)) (by decide) dX4_holds_17 ?_
    exact jx_sub [1, 2, 3, 0] rfl (jb_X4_holds_18 l G t hG sz σ out σ a1 a2 (0 : Int64) (0 : Int32) rfl h)
  · have h := jx_f c1 h
    refine jx_aload_n (pc := 6) (k0 := 0) rfl dX4_holds_6 ?_
    refine ll_gtide_ends (pc := 7) fl_X4_18 dX4_holds_7 ?_
    refine jx_iload_n (pc := 10) (k0 := 1) rfl dX4_holds_10 ?_
    refine jx_iconst (pc := 11) (v := (1 : Int32)) (by decide) dX4_holds_11 ?_
    refine jx_isub (pc := 12) dX4_holds_12 ?_
    obtain ⟨g2, h⟩ := jx_gd_o h
    refine ll_ltide_3 (pc := 13) (jx_in_o g2) rfl dX4_holds_13 ?_
    refine jx_goto (pc := 14) (tgt := 18) dX4_holds_14 (by decide) ?_
    exact jx_sub [1, 2, 3, 0] rfl (jb_X4_holds_18 l G t hG sz σ out σ a1 a2 (0 : Int64) (t.2.2 3 (a1 - (1 : Int32)).toNatClampNeg) rfl h)
theorem dX5_leastOf_0 : decode cX5_leastOf 0 = .ok (.iconst 0, 1) := by decide +kernel
theorem dX5_leastOf_1 : decode cX5_leastOf 1 = .ok (.istore_n 1, 1) := by decide +kernel
theorem dX5_leastOf_2 : decode cX5_leastOf 2 = .ok (.iload_n 1, 1) := by decide +kernel
theorem dX5_leastOf_3 : decode cX5_leastOf 3 = .ok (.bipush 7, 2) := by decide +kernel
theorem dX5_leastOf_5 : decode cX5_leastOf 5 = .ok (.if_icmp .ge 20, 3) := by decide +kernel
theorem dX5_leastOf_8 : decode cX5_leastOf 8 = .ok (.iload_n 0, 1) := by decide +kernel
theorem dX5_leastOf_9 : decode cX5_leastOf 9 = .ok (.iload_n 1, 1) := by decide +kernel
theorem dX5_leastOf_10 : decode cX5_leastOf 10 = .ok (.ishr, 1) := by decide +kernel
theorem dX5_leastOf_11 : decode cX5_leastOf 11 = .ok (.iconst 1, 1) := by decide +kernel
theorem dX5_leastOf_12 : decode cX5_leastOf 12 = .ok (.iand, 1) := by decide +kernel
theorem dX5_leastOf_13 : decode cX5_leastOf 13 = .ok (.iconst 1, 1) := by decide +kernel
theorem dX5_leastOf_14 : decode cX5_leastOf 14 = .ok (.if_icmp .ne 5, 3) := by decide +kernel
theorem dX5_leastOf_17 : decode cX5_leastOf 17 = .ok (.iload_n 1, 1) := by decide +kernel
theorem dX5_leastOf_18 : decode cX5_leastOf 18 = .ok (.ireturn, 1) := by decide +kernel
theorem dX5_leastOf_19 : decode cX5_leastOf 19 = .ok (.iinc 1 1, 3) := by decide +kernel
theorem dX5_leastOf_22 : decode cX5_leastOf 22 = .ok (.goto (-20), 3) := by decide +kernel
theorem dX5_leastOf_25 : decode cX5_leastOf 25 = .ok (.bipush (-5), 2) := by decide +kernel
theorem dX5_leastOf_27 : decode cX5_leastOf 27 = .ok (.ireturn, 1) := by decide +kernel
abbrev rm_X5_leastOf : Room := { frames := 0, cells := 0, slots := 0, locals := 0 }
abbrev jJ_X5_leastOf (l : Launch) (G : jx_G) (t : jx_T) (sz : Nat) (σ0 : jx_M) (out : Int32) (pc : Nat) (lv : List (Nat × Value)) (st : List Value) (σ : jx_M) : Prop := jx_J l (ll_env G t) (ll_dyn G t) (ll_rg G) sz RX5 "leastOf" cX5_leastOf 2 (some .int) rm_X5_leastOf (fun below args s => MQ below (jx_Qi (ll_dyn G t) σ0 out (jx_A (ll_rg G) sz)) args s 0 0 (jx_A (ll_rg G) sz)) 0 0 pc lv st σ
def g_X5_leastOf_2 (k2 : Int32 → Int32 → Option Int32) (v0 : Int32) (v1 : Int32) : Option Int32 :=
  if (7 : Int32) ≤ v1 then some (-5 : Int32) else if ((v0 >>> (v1 &&& 31)) &&& (1 : Int32)) = (1 : Int32) then some v1 else jx_lt (v1 + (1 : Int32)) (fun x3 => (k2 v0 x3))
set_option maxHeartbeats 4000000 in
set_option maxRecDepth 100000 in
theorem jg_X5_leastOf_2 (l : Launch) (G : jx_G) (t : jx_T) (hG : ll_ok G) (sz : Nat) (σ0 : jx_M) (out : Int32) (k2 : Int32 → Int32 → Option Int32) (h2 : ∀ (σ : jx_M) (v0 : Int32) (v1 : Int32), σ = σ0 → k2 v0 v1 = some out → jJ_X5_leastOf l G t sz σ0 out 2 [(0, .int v0), (1, .int v1)] [] σ) (σ : jx_M) (v0 : Int32) (v1 : Int32) (e0 : σ = σ0) (h : g_X5_leastOf_2 k2 v0 v1 = some out) : jJ_X5_leastOf l G t sz σ0 out 2 [(0, .int v0), (1, .int v1)] [] σ := by
  unfold g_X5_leastOf_2 at h
  refine jx_iload_n (pc := 2) (k0 := 1) rfl dX5_leastOf_2 ?_
  refine jx_bipush (pc := 3) (v := (7 : Int32)) (by decide) dX5_leastOf_3 ?_
  refine jx_icmp_ge (pc := 5) (tgt := 25) dX5_leastOf_5 (by decide) (fun c1 => ?_) (fun c1 => ?_)
  · have h := jx_t c1 h
    refine jx_bipush (pc := 25) (v := (-5 : Int32)) (by decide) dX5_leastOf_25 ?_
    subst e0
    cases h
    exact jx_iret (pc := 27) dX5_leastOf_27
  · have h := jx_f c1 h
    refine jx_iload_n (pc := 8) (k0 := 0) rfl dX5_leastOf_8 ?_
    refine jx_iload_n (pc := 9) (k0 := 1) rfl dX5_leastOf_9 ?_
    refine jx_ishr (pc := 10) dX5_leastOf_10 ?_
    refine jx_iconst (pc := 11) (v := (1 : Int32)) (by decide) dX5_leastOf_11 ?_
    refine jx_iand (pc := 12) dX5_leastOf_12 ?_
    refine jx_iconst (pc := 13) (v := (1 : Int32)) (by decide) dX5_leastOf_13 ?_
    refine jx_icmp_ne (pc := 14) (tgt := 19) dX5_leastOf_14 (by decide) (fun c2 => ?_) (fun c2 => ?_)
    · have h := jx_f c2 h
      obtain ⟨x3, ex3, h⟩ := jx_lt_o h
      refine jx_iinc (pc := 19) (i := 1) (v := v1) rfl ex3 (n := 1) (by decide) (by decide) (lv' := [(1, .int x3), (0, .int v0)]) rfl dX5_leastOf_19 ?_
      refine jx_goto (pc := 22) (tgt := 2) dX5_leastOf_22 (by decide) ?_
      exact jx_sub [1, 0] rfl (h2 σ v0 x3 e0 h)
    · have h := jx_t c2 h
      refine jx_iload_n (pc := 17) (k0 := 1) rfl dX5_leastOf_17 ?_
      subst e0
      cases h
      exact jx_iret (pc := 18) dX5_leastOf_18
def b_X5_leastOf_2  : Nat → Int32 → Int32 → Option Int32
  | 0, _, _ => none
  | n + 1, v0, v1 => g_X5_leastOf_2 (b_X5_leastOf_2 n) v0 v1
theorem jb_X5_leastOf_2 (l : Launch) (G : jx_G) (t : jx_T) (hG : ll_ok G) (sz : Nat) (σ0 : jx_M) (out : Int32)  : ∀ (n : Nat) (σ : jx_M) (v0 : Int32) (v1 : Int32), σ = σ0 → b_X5_leastOf_2 n v0 v1 = some out → jJ_X5_leastOf l G t sz σ0 out 2 [(0, .int v0), (1, .int v1)] [] σ := by
  intro n
  induction n with
  | zero =>
    intro σ v0 v1 e0 h
    cases h
  | succ n ih =>
    intro σ v0 v1 e0 h
    exact jg_X5_leastOf_2 l G t hG sz σ0 out (b_X5_leastOf_2 n) ih σ v0 v1 e0 h
def f_X5_leastOf (a0 : Int32) : Option Int32 :=
  (b_X5_leastOf_2 jx_fuel a0 (0 : Int32))
set_option maxHeartbeats 4000000 in
set_option maxRecDepth 100000 in
theorem k_X5_leastOf (l : Launch) (G : jx_G) (t : jx_T) (hG : ll_ok G) (sz : Nat) (σ : jx_M) (a0 : Int32) (out : Int32) (h : f_X5_leastOf a0 = some out) : Met l yX5_leastOf (Cond.code yX5_leastOf cX5_leastOf 2 (some .int) :: jx_ws) rm_X5_leastOf (jx_Pc (ll_env G t) (ll_dyn G t) (ll_rg G) sz σ [.int a0]) (jx_Qi (ll_dyn G t) σ out (jx_A (ll_rg G) sz)) 0 0 (jx_A (ll_rg G) sz) := by
  unfold f_X5_leastOf at h
  refine jx_met (by decide) (Nat.le_of_ble_eq_true rfl) ?_
  refine jx_sub (lv' := [(0, .int a0)]) [0] rfl ?_
  refine jx_iconst (pc := 0) (v := (0 : Int32)) (by decide) dX5_leastOf_0 ?_
  refine jx_istore_n (pc := 1) (i := 1) rfl rfl (by decide) (lv' := [(1, .int (0 : Int32)), (0, .int a0)]) rfl dX5_leastOf_1 ?_
  exact jx_sub [1, 0] rfl (jb_X5_leastOf_2 l G t hG sz σ out jx_fuel σ a0 (0 : Int32) rfl h)
theorem dX5_count_0 : decode cX5_count 0 = .ok (.iload_n 1, 1) := by decide +kernel
theorem dX5_count_1 : decode cX5_count 1 = .ok (.tableswitch 87 0 5 #[39, 47, 55, 63, 71, 79], 39) := by decide +kernel
theorem dX5_count_40 : decode cX5_count 40 = .ok (.aload_n 0, 1) := by decide +kernel
theorem dX5_count_41 : decode cX5_count 41 = .ok (.getfield 12, 3) := by decide +kernel
theorem dX5_count_44 : decode cX5_count 44 = .ok (.getfield 75, 3) := by decide +kernel
theorem dX5_count_47 : decode cX5_count 47 = .ok (.ireturn, 1) := by decide +kernel
theorem dX5_count_48 : decode cX5_count 48 = .ok (.aload_n 0, 1) := by decide +kernel
theorem dX5_count_49 : decode cX5_count 49 = .ok (.getfield 12, 3) := by decide +kernel
theorem dX5_count_52 : decode cX5_count 52 = .ok (.getfield 60, 3) := by decide +kernel
theorem dX5_count_55 : decode cX5_count 55 = .ok (.ireturn, 1) := by decide +kernel
theorem dX5_count_56 : decode cX5_count 56 = .ok (.aload_n 0, 1) := by decide +kernel
theorem dX5_count_57 : decode cX5_count 57 = .ok (.getfield 12, 3) := by decide +kernel
theorem dX5_count_60 : decode cX5_count 60 = .ok (.getfield 199, 3) := by decide +kernel
theorem dX5_count_63 : decode cX5_count 63 = .ok (.ireturn, 1) := by decide +kernel
theorem dX5_count_64 : decode cX5_count 64 = .ok (.aload_n 0, 1) := by decide +kernel
theorem dX5_count_65 : decode cX5_count 65 = .ok (.getfield 12, 3) := by decide +kernel
theorem dX5_count_68 : decode cX5_count 68 = .ok (.getfield 217, 3) := by decide +kernel
theorem dX5_count_71 : decode cX5_count 71 = .ok (.ireturn, 1) := by decide +kernel
theorem dX5_count_72 : decode cX5_count 72 = .ok (.aload_n 0, 1) := by decide +kernel
theorem dX5_count_73 : decode cX5_count 73 = .ok (.getfield 12, 3) := by decide +kernel
theorem dX5_count_76 : decode cX5_count 76 = .ok (.getfield 52, 3) := by decide +kernel
theorem dX5_count_79 : decode cX5_count 79 = .ok (.ireturn, 1) := by decide +kernel
theorem dX5_count_80 : decode cX5_count 80 = .ok (.aload_n 0, 1) := by decide +kernel
theorem dX5_count_81 : decode cX5_count 81 = .ok (.getfield 33, 3) := by decide +kernel
theorem dX5_count_84 : decode cX5_count 84 = .ok (.getfield 251, 3) := by decide +kernel
theorem dX5_count_87 : decode cX5_count 87 = .ok (.ireturn, 1) := by decide +kernel
theorem dX5_count_88 : decode cX5_count 88 = .ok (.iconst (-1), 1) := by decide +kernel
theorem dX5_count_89 : decode cX5_count 89 = .ok (.ireturn, 1) := by decide +kernel
abbrev rm_X5_count : Room := { frames := 0, cells := 0, slots := 0, locals := 0 }
abbrev jJ_X5_count (l : Launch) (G : jx_G) (t : jx_T) (sz : Nat) (σ0 : jx_M) (out : Int32) (pc : Nat) (lv : List (Nat × Value)) (st : List Value) (σ : jx_M) : Prop := jx_J l (ll_env G t) (ll_dyn G t) (ll_rg G) sz RX5 "count" cX5_count 2 (some .int) rm_X5_count (fun below args s => MQ below (jx_Qi (ll_dyn G t) σ0 out (jx_A (ll_rg G) sz)) args s 0 0 (jx_A (ll_rg G) sz)) 0 0 pc lv st σ
def f_X5_count (t : jx_T) (σ : jx_M) (a1 : Int32) : Option Int32 :=
  if a1 = (0 : Int32) then some (σ 0 2) else if a1 = (1 : Int32) then some (σ 0 4) else if a1 = (2 : Int32) then some (σ 0 5) else if a1 = (3 : Int32) then some (σ 0 6) else if a1 = (4 : Int32) then some (σ 0 3) else if a1 = (5 : Int32) then some (σ 0 21) else some (-1 : Int32)
set_option maxHeartbeats 4000000 in
set_option maxRecDepth 100000 in
theorem k_X5_count (l : Launch) (G : jx_G) (t : jx_T) (hG : ll_ok G) (sz : Nat) (σ : jx_M) (a1 : Int32) (out : Int32) (h : f_X5_count t σ a1 = some out) : Met l yX5_count (Cond.code yX5_count cX5_count 2 (some .int) :: jx_ws) rm_X5_count (jx_Pc (ll_env G t) (ll_dyn G t) (ll_rg G) sz σ [.ref (G.2 20), .int a1]) (jx_Qi (ll_dyn G t) σ out (jx_A (ll_rg G) sz)) 0 0 (jx_A (ll_rg G) sz) := by
  unfold f_X5_count at h
  refine jx_met (by decide) (Nat.le_of_ble_eq_true rfl) ?_
  refine jx_sub (lv' := [(0, .ref (G.2 20)), (1, .int a1)]) [0, 1] rfl ?_
  refine jx_iload_n (pc := 0) (k0 := 1) rfl dX5_count_0 ?_
  by_cases c1 : a1 = (0 : Int32)
  · have h := jx_t c1 h
    refine jx_tabIn (pc := 1) (tgt := 40) dX5_count_1 0 (by rw [c1]; rfl) (by decide) (by decide) rfl (by decide) ?_
    refine jx_aload_n (pc := 40) (k0 := 0) rfl dX5_count_40 ?_
    refine ll_glamp_now (pc := 41) fl_X5_12 dX5_count_41 ?_
    refine ll_gnow_voters (pc := 44) fl_X5_75 dX5_count_44 ?_
    cases h
    exact jx_iret (pc := 47) dX5_count_47
  have h := jx_f c1 h
  by_cases c2 : a1 = (1 : Int32)
  · have h := jx_t c2 h
    refine jx_tabIn (pc := 1) (tgt := 48) dX5_count_1 1 (by rw [c2]; rfl) (by decide) (by decide) rfl (by decide) ?_
    refine jx_aload_n (pc := 48) (k0 := 0) rfl dX5_count_48 ?_
    refine ll_glamp_now (pc := 49) fl_X5_12 dX5_count_49 ?_
    refine ll_gnow_tides (pc := 52) fl_X5_60 dX5_count_52 ?_
    cases h
    exact jx_iret (pc := 55) dX5_count_55
  have h := jx_f c2 h
  by_cases c3 : a1 = (2 : Int32)
  · have h := jx_t c3 h
    refine jx_tabIn (pc := 1) (tgt := 56) dX5_count_1 2 (by rw [c3]; rfl) (by decide) (by decide) rfl (by decide) ?_
    refine jx_aload_n (pc := 56) (k0 := 0) rfl dX5_count_56 ?_
    refine ll_glamp_now (pc := 57) fl_X5_12 dX5_count_57 ?_
    refine ll_gnow_seen (pc := 60) fl_X5_199 dX5_count_60 ?_
    cases h
    exact jx_iret (pc := 63) dX5_count_63
  have h := jx_f c3 h
  by_cases c4 : a1 = (3 : Int32)
  · have h := jx_t c4 h
    refine jx_tabIn (pc := 1) (tgt := 64) dX5_count_1 3 (by rw [c4]; rfl) (by decide) (by decide) rfl (by decide) ?_
    refine jx_aload_n (pc := 64) (k0 := 0) rfl dX5_count_64 ?_
    refine ll_glamp_now (pc := 65) fl_X5_12 dX5_count_65 ?_
    refine ll_gnow_tales (pc := 68) fl_X5_217 dX5_count_68 ?_
    cases h
    exact jx_iret (pc := 71) dX5_count_71
  have h := jx_f c4 h
  by_cases c5 : a1 = (4 : Int32)
  · have h := jx_t c5 h
    refine jx_tabIn (pc := 1) (tgt := 72) dX5_count_1 4 (by rw [c5]; rfl) (by decide) (by decide) rfl (by decide) ?_
    refine jx_aload_n (pc := 72) (k0 := 0) rfl dX5_count_72 ?_
    refine ll_glamp_now (pc := 73) fl_X5_12 dX5_count_73 ?_
    refine ll_gnow_signs (pc := 76) fl_X5_52 dX5_count_76 ?_
    cases h
    exact jx_iret (pc := 79) dX5_count_79
  have h := jx_f c5 h
  by_cases c6 : a1 = (5 : Int32)
  · have h := jx_t c6 h
    refine jx_tabIn (pc := 1) (tgt := 80) dX5_count_1 5 (by rw [c6]; rfl) (by decide) (by decide) rfl (by decide) ?_
    refine jx_aload_n (pc := 80) (k0 := 0) rfl dX5_count_80 ?_
    refine ll_glamp_acts (pc := 81) fl_X5_33 dX5_count_81 ?_
    refine ll_gacts_ran (pc := 84) fl_X5_251 dX5_count_84 ?_
    cases h
    exact jx_iret (pc := 87) dX5_count_87
  have h := jx_f c6 h
  refine jx_tabOut (pc := 1) (tgt := 88) dX5_count_1 (by have z0 := lv_neT c1 (show (0 : Int32).toInt = 0 from rfl); have z1 := lv_neT c2 (show (1 : Int32).toInt = 1 from rfl); have z2 := lv_neT c3 (show (2 : Int32).toInt = 2 from rfl); have z3 := lv_neT c4 (show (3 : Int32).toInt = 3 from rfl); have z4 := lv_neT c5 (show (4 : Int32).toInt = 4 from rfl); have z5 := lv_neT c6 (show (5 : Int32).toInt = 5 from rfl); omega) (by decide) ?_
  refine jx_iconst (pc := 88) (v := (-1 : Int32)) (by decide) dX5_count_88 ?_
  cases h
  exact jx_iret (pc := 89) dX5_count_89
theorem dX5_within_0 : decode cX5_within 0 = .ok (.iload_n 1, 1) := by decide +kernel
theorem dX5_within_1 : decode cX5_within 1 = .ok (.iload_n 0, 1) := by decide +kernel
theorem dX5_within_2 : decode cX5_within 2 = .ok (.if_icmp .gt 12, 3) := by decide +kernel
theorem dX5_within_5 : decode cX5_within 5 = .ok (.iload_n 0, 1) := by decide +kernel
theorem dX5_within_6 : decode cX5_within 6 = .ok (.iload_n 2, 1) := by decide +kernel
theorem dX5_within_7 : decode cX5_within 7 = .ok (.if_icmp .gt 7, 3) := by decide +kernel
theorem dX5_within_10 : decode cX5_within 10 = .ok (.iconst 1, 1) := by decide +kernel
theorem dX5_within_11 : decode cX5_within 11 = .ok (.goto 4, 3) := by decide +kernel
theorem dX5_within_14 : decode cX5_within 14 = .ok (.iconst 0, 1) := by decide +kernel
theorem dX5_within_15 : decode cX5_within 15 = .ok (.ireturn, 1) := by decide +kernel
abbrev rm_X5_within : Room := { frames := 0, cells := 0, slots := 0, locals := 0 }
abbrev jJ_X5_within (l : Launch) (G : jx_G) (t : jx_T) (sz : Nat) (σ0 : jx_M) (out : Int32) (pc : Nat) (lv : List (Nat × Value)) (st : List Value) (σ : jx_M) : Prop := jx_J l (ll_env G t) (ll_dyn G t) (ll_rg G) sz RX5 "within" cX5_within 3 (some .boolean) rm_X5_within (fun below args s => MQ below (jx_Qi (ll_dyn G t) σ0 out (jx_A (ll_rg G) sz)) args s 0 0 (jx_A (ll_rg G) sz)) 0 0 pc lv st σ
def f_X5_within (a0 : Int32) (a1 : Int32) (a2 : Int32) : Option Int32 :=
  if a0 < a1 then some (0 : Int32) else if a2 < a0 then some (0 : Int32) else some (1 : Int32)
set_option maxHeartbeats 4000000 in
set_option maxRecDepth 100000 in
theorem k_X5_within (l : Launch) (G : jx_G) (t : jx_T) (hG : ll_ok G) (sz : Nat) (σ : jx_M) (a0 : Int32) (a1 : Int32) (a2 : Int32) (out : Int32) (h : f_X5_within a0 a1 a2 = some out) : Met l yX5_within (Cond.code yX5_within cX5_within 3 (some .boolean) :: jx_ws) rm_X5_within (jx_Pc (ll_env G t) (ll_dyn G t) (ll_rg G) sz σ [.int a0, .int a1, .int a2]) (jx_Qi (ll_dyn G t) σ out (jx_A (ll_rg G) sz)) 0 0 (jx_A (ll_rg G) sz) := by
  unfold f_X5_within at h
  refine jx_met (by decide) (Nat.le_of_ble_eq_true rfl) ?_
  refine jx_sub (lv' := [(0, .int a0), (1, .int a1), (2, .int a2)]) [0, 1, 2] rfl ?_
  refine jx_iload_n (pc := 0) (k0 := 1) rfl dX5_within_0 ?_
  refine jx_iload_n (pc := 1) (k0 := 0) rfl dX5_within_1 ?_
  refine jx_icmp_gt (pc := 2) (tgt := 14) dX5_within_2 (by decide) (fun c1 => ?_) (fun c1 => ?_)
  · have h := jx_t c1 h
    refine jx_iconst (pc := 14) (v := (0 : Int32)) (by decide) dX5_within_14 ?_
    cases h
    exact jx_zret (pc := 15) (Or.inl rfl) dX5_within_15
  · have h := jx_f c1 h
    refine jx_iload_n (pc := 5) (k0 := 0) rfl dX5_within_5 ?_
    refine jx_iload_n (pc := 6) (k0 := 2) rfl dX5_within_6 ?_
    refine jx_icmp_gt (pc := 7) (tgt := 14) dX5_within_7 (by decide) (fun c2 => ?_) (fun c2 => ?_)
    · have h := jx_t c2 h
      refine jx_iconst (pc := 14) (v := (0 : Int32)) (by decide) dX5_within_14 ?_
      cases h
      exact jx_zret (pc := 15) (Or.inl rfl) dX5_within_15
    · have h := jx_f c2 h
      refine jx_iconst (pc := 10) (v := (1 : Int32)) (by decide) dX5_within_10 ?_
      refine jx_goto (pc := 11) (tgt := 15) dX5_within_11 (by decide) ?_
      cases h
      exact jx_zret (pc := 15) (Or.inr rfl) dX5_within_15
theorem dJ6_bitCount_0f7a4_0 : decode cJ6_bitCount_0f7a4 0 = .ok (.iload_n 0, 1) := by decide +kernel
theorem dJ6_bitCount_0f7a4_1 : decode cJ6_bitCount_0f7a4 1 = .ok (.iload_n 0, 1) := by decide +kernel
theorem dJ6_bitCount_0f7a4_2 : decode cJ6_bitCount_0f7a4 2 = .ok (.iconst 1, 1) := by decide +kernel
theorem dJ6_bitCount_0f7a4_3 : decode cJ6_bitCount_0f7a4 3 = .ok (.iushr, 1) := by decide +kernel
theorem dJ6_bitCount_0f7a4_4 : decode cJ6_bitCount_0f7a4 4 = .ok (.ldc_w 265, 3) := by decide +kernel
theorem dJ6_bitCount_0f7a4_7 : decode cJ6_bitCount_0f7a4 7 = .ok (.iand, 1) := by decide +kernel
theorem dJ6_bitCount_0f7a4_8 : decode cJ6_bitCount_0f7a4 8 = .ok (.isub, 1) := by decide +kernel
theorem dJ6_bitCount_0f7a4_9 : decode cJ6_bitCount_0f7a4 9 = .ok (.istore_n 0, 1) := by decide +kernel
theorem dJ6_bitCount_0f7a4_10 : decode cJ6_bitCount_0f7a4 10 = .ok (.iload_n 0, 1) := by decide +kernel
theorem dJ6_bitCount_0f7a4_11 : decode cJ6_bitCount_0f7a4 11 = .ok (.ldc_w 266, 3) := by decide +kernel
theorem dJ6_bitCount_0f7a4_14 : decode cJ6_bitCount_0f7a4 14 = .ok (.iand, 1) := by decide +kernel
theorem dJ6_bitCount_0f7a4_15 : decode cJ6_bitCount_0f7a4 15 = .ok (.iload_n 0, 1) := by decide +kernel
theorem dJ6_bitCount_0f7a4_16 : decode cJ6_bitCount_0f7a4 16 = .ok (.iconst 2, 1) := by decide +kernel
theorem dJ6_bitCount_0f7a4_17 : decode cJ6_bitCount_0f7a4 17 = .ok (.iushr, 1) := by decide +kernel
theorem dJ6_bitCount_0f7a4_18 : decode cJ6_bitCount_0f7a4 18 = .ok (.ldc_w 266, 3) := by decide +kernel
theorem dJ6_bitCount_0f7a4_21 : decode cJ6_bitCount_0f7a4 21 = .ok (.iand, 1) := by decide +kernel
theorem dJ6_bitCount_0f7a4_22 : decode cJ6_bitCount_0f7a4 22 = .ok (.iadd, 1) := by decide +kernel
theorem dJ6_bitCount_0f7a4_23 : decode cJ6_bitCount_0f7a4 23 = .ok (.istore_n 0, 1) := by decide +kernel
theorem dJ6_bitCount_0f7a4_24 : decode cJ6_bitCount_0f7a4 24 = .ok (.iload_n 0, 1) := by decide +kernel
theorem dJ6_bitCount_0f7a4_25 : decode cJ6_bitCount_0f7a4 25 = .ok (.iload_n 0, 1) := by decide +kernel
theorem dJ6_bitCount_0f7a4_26 : decode cJ6_bitCount_0f7a4 26 = .ok (.iconst 4, 1) := by decide +kernel
theorem dJ6_bitCount_0f7a4_27 : decode cJ6_bitCount_0f7a4 27 = .ok (.iushr, 1) := by decide +kernel
theorem dJ6_bitCount_0f7a4_28 : decode cJ6_bitCount_0f7a4 28 = .ok (.iadd, 1) := by decide +kernel
theorem dJ6_bitCount_0f7a4_29 : decode cJ6_bitCount_0f7a4 29 = .ok (.ldc_w 267, 3) := by decide +kernel
theorem dJ6_bitCount_0f7a4_32 : decode cJ6_bitCount_0f7a4 32 = .ok (.iand, 1) := by decide +kernel
theorem dJ6_bitCount_0f7a4_33 : decode cJ6_bitCount_0f7a4 33 = .ok (.istore_n 0, 1) := by decide +kernel
theorem dJ6_bitCount_0f7a4_34 : decode cJ6_bitCount_0f7a4 34 = .ok (.iload_n 0, 1) := by decide +kernel
theorem dJ6_bitCount_0f7a4_35 : decode cJ6_bitCount_0f7a4 35 = .ok (.iload_n 0, 1) := by decide +kernel
theorem dJ6_bitCount_0f7a4_36 : decode cJ6_bitCount_0f7a4 36 = .ok (.bipush 8, 2) := by decide +kernel
theorem dJ6_bitCount_0f7a4_38 : decode cJ6_bitCount_0f7a4 38 = .ok (.iushr, 1) := by decide +kernel
theorem dJ6_bitCount_0f7a4_39 : decode cJ6_bitCount_0f7a4 39 = .ok (.iadd, 1) := by decide +kernel
theorem dJ6_bitCount_0f7a4_40 : decode cJ6_bitCount_0f7a4 40 = .ok (.istore_n 0, 1) := by decide +kernel
theorem dJ6_bitCount_0f7a4_41 : decode cJ6_bitCount_0f7a4 41 = .ok (.iload_n 0, 1) := by decide +kernel
theorem dJ6_bitCount_0f7a4_42 : decode cJ6_bitCount_0f7a4 42 = .ok (.iload_n 0, 1) := by decide +kernel
theorem dJ6_bitCount_0f7a4_43 : decode cJ6_bitCount_0f7a4 43 = .ok (.bipush 16, 2) := by decide +kernel
theorem dJ6_bitCount_0f7a4_45 : decode cJ6_bitCount_0f7a4 45 = .ok (.iushr, 1) := by decide +kernel
theorem dJ6_bitCount_0f7a4_46 : decode cJ6_bitCount_0f7a4 46 = .ok (.iadd, 1) := by decide +kernel
theorem dJ6_bitCount_0f7a4_47 : decode cJ6_bitCount_0f7a4 47 = .ok (.istore_n 0, 1) := by decide +kernel
theorem dJ6_bitCount_0f7a4_48 : decode cJ6_bitCount_0f7a4 48 = .ok (.iload_n 0, 1) := by decide +kernel
theorem dJ6_bitCount_0f7a4_49 : decode cJ6_bitCount_0f7a4 49 = .ok (.bipush 63, 2) := by decide +kernel
theorem dJ6_bitCount_0f7a4_51 : decode cJ6_bitCount_0f7a4 51 = .ok (.iand, 1) := by decide +kernel
theorem dJ6_bitCount_0f7a4_52 : decode cJ6_bitCount_0f7a4 52 = .ok (.ireturn, 1) := by decide +kernel
abbrev rm_J6_bitCount_0f7a4 : Room := { frames := 0, cells := 0, slots := 0, locals := 0 }
abbrev jJ_J6_bitCount_0f7a4 (l : Launch) (G : jx_G) (t : jx_T) (sz : Nat) (σ0 : jx_M) (out : Int32) (pc : Nat) (lv : List (Nat × Value)) (st : List Value) (σ : jx_M) : Prop := jx_J l (ll_env G t) (ll_dyn G t) (ll_rg G) sz RJ6 "bitCount" cJ6_bitCount_0f7a4 1 (some .int) rm_J6_bitCount_0f7a4 (fun below args s => MQ below (jx_Qi (ll_dyn G t) σ0 out (jx_A (ll_rg G) sz)) args s 0 0 (jx_A (ll_rg G) sz)) 0 0 pc lv st σ
def f_J6_bitCount_0f7a4 (a0 : Int32) : Option Int32 :=
  jx_lt ((a0 - ((a0.toUInt32 >>> ((1 : Int32).toUInt32 &&& Int32.toUInt32 31)).toInt32 &&& (1431655765 : Int32)))) (fun x1 => jx_lt (((x1 &&& (858993459 : Int32)) + ((x1.toUInt32 >>> ((2 : Int32).toUInt32 &&& Int32.toUInt32 31)).toInt32 &&& (858993459 : Int32)))) (fun x2 => jx_lt (((x2 + (x2.toUInt32 >>> ((4 : Int32).toUInt32 &&& Int32.toUInt32 31)).toInt32) &&& (252645135 : Int32))) (fun x3 => jx_lt ((x3 + (x3.toUInt32 >>> ((8 : Int32).toUInt32 &&& Int32.toUInt32 31)).toInt32)) (fun x4 => jx_lt ((x4 + (x4.toUInt32 >>> ((16 : Int32).toUInt32 &&& Int32.toUInt32 31)).toInt32)) (fun x5 => some (x5 &&& (63 : Int32)))))))
set_option maxHeartbeats 4000000 in
set_option maxRecDepth 100000 in
theorem k_J6_bitCount_0f7a4 (l : Launch) (G : jx_G) (t : jx_T) (hG : ll_ok G) (sz : Nat) (σ : jx_M) (a0 : Int32) (out : Int32) (h : f_J6_bitCount_0f7a4 a0 = some out) : Met l yJ6_bitCount_0f7a4 (Cond.code yJ6_bitCount_0f7a4 cJ6_bitCount_0f7a4 1 (some .int) :: jx_ws) rm_J6_bitCount_0f7a4 (jx_Pc (ll_env G t) (ll_dyn G t) (ll_rg G) sz σ [.int a0]) (jx_Qi (ll_dyn G t) σ out (jx_A (ll_rg G) sz)) 0 0 (jx_A (ll_rg G) sz) := by
  unfold f_J6_bitCount_0f7a4 at h
  refine jx_met (by decide) (Nat.le_of_ble_eq_true rfl) ?_
  refine jx_sub (lv' := [(0, .int a0)]) [0] rfl ?_
  refine jx_iload_n (pc := 0) (k0 := 0) rfl dJ6_bitCount_0f7a4_0 ?_
  refine jx_iload_n (pc := 1) (k0 := 0) rfl dJ6_bitCount_0f7a4_1 ?_
  refine jx_iconst (pc := 2) (v := (1 : Int32)) (by decide) dJ6_bitCount_0f7a4_2 ?_
  refine jx_iushr (pc := 3) dJ6_bitCount_0f7a4_3 ?_
  refine jx_ldc_w (pc := 4) cn_J6_265 dJ6_bitCount_0f7a4_4 ?_
  refine jx_iand (pc := 7) dJ6_bitCount_0f7a4_7 ?_
  refine jx_isub (pc := 8) dJ6_bitCount_0f7a4_8 ?_
  obtain ⟨x1, ex1, h⟩ := jx_lt_o h
  refine jx_istore_n (pc := 9) (i := 0) rfl ex1 (by decide) (lv' := [(0, .int x1)]) rfl dJ6_bitCount_0f7a4_9 ?_
  refine jx_iload_n (pc := 10) (k0 := 0) rfl dJ6_bitCount_0f7a4_10 ?_
  refine jx_ldc_w (pc := 11) cn_J6_266 dJ6_bitCount_0f7a4_11 ?_
  refine jx_iand (pc := 14) dJ6_bitCount_0f7a4_14 ?_
  refine jx_iload_n (pc := 15) (k0 := 0) rfl dJ6_bitCount_0f7a4_15 ?_
  refine jx_iconst (pc := 16) (v := (2 : Int32)) (by decide) dJ6_bitCount_0f7a4_16 ?_
  refine jx_iushr (pc := 17) dJ6_bitCount_0f7a4_17 ?_
  refine jx_ldc_w (pc := 18) cn_J6_266 dJ6_bitCount_0f7a4_18 ?_
  refine jx_iand (pc := 21) dJ6_bitCount_0f7a4_21 ?_
  refine jx_iadd (pc := 22) dJ6_bitCount_0f7a4_22 ?_
  obtain ⟨x2, ex2, h⟩ := jx_lt_o h
  refine jx_istore_n (pc := 23) (i := 0) rfl ex2 (by decide) (lv' := [(0, .int x2)]) rfl dJ6_bitCount_0f7a4_23 ?_
  refine jx_iload_n (pc := 24) (k0 := 0) rfl dJ6_bitCount_0f7a4_24 ?_
  refine jx_iload_n (pc := 25) (k0 := 0) rfl dJ6_bitCount_0f7a4_25 ?_
  refine jx_iconst (pc := 26) (v := (4 : Int32)) (by decide) dJ6_bitCount_0f7a4_26 ?_
  refine jx_iushr (pc := 27) dJ6_bitCount_0f7a4_27 ?_
  refine jx_iadd (pc := 28) dJ6_bitCount_0f7a4_28 ?_
  refine jx_ldc_w (pc := 29) cn_J6_267 dJ6_bitCount_0f7a4_29 ?_
  refine jx_iand (pc := 32) dJ6_bitCount_0f7a4_32 ?_
  obtain ⟨x3, ex3, h⟩ := jx_lt_o h
  refine jx_istore_n (pc := 33) (i := 0) rfl ex3 (by decide) (lv' := [(0, .int x3)]) rfl dJ6_bitCount_0f7a4_33 ?_
  refine jx_iload_n (pc := 34) (k0 := 0) rfl dJ6_bitCount_0f7a4_34 ?_
  refine jx_iload_n (pc := 35) (k0 := 0) rfl dJ6_bitCount_0f7a4_35 ?_
  refine jx_bipush (pc := 36) (v := (8 : Int32)) (by decide) dJ6_bitCount_0f7a4_36 ?_
  refine jx_iushr (pc := 38) dJ6_bitCount_0f7a4_38 ?_
  refine jx_iadd (pc := 39) dJ6_bitCount_0f7a4_39 ?_
  obtain ⟨x4, ex4, h⟩ := jx_lt_o h
  refine jx_istore_n (pc := 40) (i := 0) rfl ex4 (by decide) (lv' := [(0, .int x4)]) rfl dJ6_bitCount_0f7a4_40 ?_
  refine jx_iload_n (pc := 41) (k0 := 0) rfl dJ6_bitCount_0f7a4_41 ?_
  refine jx_iload_n (pc := 42) (k0 := 0) rfl dJ6_bitCount_0f7a4_42 ?_
  refine jx_bipush (pc := 43) (v := (16 : Int32)) (by decide) dJ6_bitCount_0f7a4_43 ?_
  refine jx_iushr (pc := 45) dJ6_bitCount_0f7a4_45 ?_
  refine jx_iadd (pc := 46) dJ6_bitCount_0f7a4_46 ?_
  obtain ⟨x5, ex5, h⟩ := jx_lt_o h
  refine jx_istore_n (pc := 47) (i := 0) rfl ex5 (by decide) (lv' := [(0, .int x5)]) rfl dJ6_bitCount_0f7a4_47 ?_
  refine jx_iload_n (pc := 48) (k0 := 0) rfl dJ6_bitCount_0f7a4_48 ?_
  refine jx_bipush (pc := 49) (v := (63 : Int32)) (by decide) dJ6_bitCount_0f7a4_49 ?_
  refine jx_iand (pc := 51) dJ6_bitCount_0f7a4_51 ?_
  cases h
  exact jx_iret (pc := 52) dJ6_bitCount_0f7a4_52
theorem dJ7_fill_53178_0 : decode cJ7_fill_53178 0 = .ok (.iconst 0, 1) := by decide +kernel
theorem dJ7_fill_53178_1 : decode cJ7_fill_53178 1 = .ok (.istore_n 2, 1) := by decide +kernel
theorem dJ7_fill_53178_2 : decode cJ7_fill_53178 2 = .ok (.aload_n 0, 1) := by decide +kernel
theorem dJ7_fill_53178_3 : decode cJ7_fill_53178 3 = .ok (.arraylength, 1) := by decide +kernel
theorem dJ7_fill_53178_4 : decode cJ7_fill_53178 4 = .ok (.istore_n 3, 1) := by decide +kernel
theorem dJ7_fill_53178_5 : decode cJ7_fill_53178 5 = .ok (.iload_n 2, 1) := by decide +kernel
theorem dJ7_fill_53178_6 : decode cJ7_fill_53178 6 = .ok (.iload_n 3, 1) := by decide +kernel
theorem dJ7_fill_53178_7 : decode cJ7_fill_53178 7 = .ok (.if_icmp .ge 13, 3) := by decide +kernel
theorem dJ7_fill_53178_10 : decode cJ7_fill_53178 10 = .ok (.aload_n 0, 1) := by decide +kernel
theorem dJ7_fill_53178_11 : decode cJ7_fill_53178 11 = .ok (.iload_n 2, 1) := by decide +kernel
theorem dJ7_fill_53178_12 : decode cJ7_fill_53178 12 = .ok (.iload_n 1, 1) := by decide +kernel
theorem dJ7_fill_53178_13 : decode cJ7_fill_53178 13 = .ok (.iastore, 1) := by decide +kernel
theorem dJ7_fill_53178_14 : decode cJ7_fill_53178 14 = .ok (.iinc 2 1, 3) := by decide +kernel
theorem dJ7_fill_53178_17 : decode cJ7_fill_53178 17 = .ok (.goto (-12), 3) := by decide +kernel
theorem dJ7_fill_53178_20 : decode cJ7_fill_53178 20 = .ok (.return_, 1) := by decide +kernel
abbrev rm_J7_fill_53178 : Room := { frames := 0, cells := 0, slots := 0, locals := 0 }
abbrev jJ_J7_fill_53178 (l : Launch) (G : jx_G) (t : jx_T) (sz : Nat) (out : jx_M) (pc : Nat) (lv : List (Nat × Value)) (st : List Value) (σ : jx_M) : Prop := jx_J l (ll_env G t) (ll_dyn G t) (ll_rg G) sz RJ7 "fill" cJ7_fill_53178 4 none rm_J7_fill_53178 (fun below args s => MQ below (jx_Qv (ll_dyn G t) out (jx_A (ll_rg G) sz)) args s 0 0 (jx_A (ll_rg G) sz)) 0 0 pc lv st σ
def g_J7_fill_53178_5 (t : jx_T) (k5 : jx_M → Nat → Int32 → Int32 → Int32 → Option jx_M) (σ : jx_M) (v0 : Nat) (v1 : Int32) (v2 : Int32) (v3 : Int32) : Option jx_M :=
  if v3 ≤ v2 then some σ else jx_gd (jx_in v2 (ll_len v0)) (jx_lt (jx_mu σ v0 v2.toNatClampNeg v1) (fun σ3 => jx_lt (v2 + (1 : Int32)) (fun x4 => (k5 σ3 v0 v1 x4 v3))))
set_option maxHeartbeats 4000000 in
set_option maxRecDepth 100000 in
theorem jg_J7_fill_53178_5 (l : Launch) (G : jx_G) (t : jx_T) (hG : ll_ok G) (sz : Nat) (out : jx_M) (k5 : jx_M → Nat → Int32 → Int32 → Int32 → Option jx_M) (h5 : ∀ (σ : jx_M) (v0 : Nat) (v1 : Int32) (v2 : Int32) (v3 : Int32), k5 σ v0 v1 v2 v3 = some out → jJ_J7_fill_53178 l G t sz out 5 [(0, .ref (G.2 (100 + v0))), (1, .int v1), (2, .int v2), (3, .int v3)] [] σ) (σ : jx_M) (v0 : Nat) (v1 : Int32) (v2 : Int32) (v3 : Int32) (h : g_J7_fill_53178_5 t k5 σ v0 v1 v2 v3 = some out) : jJ_J7_fill_53178 l G t sz out 5 [(0, .ref (G.2 (100 + v0))), (1, .int v1), (2, .int v2), (3, .int v3)] [] σ := by
  unfold g_J7_fill_53178_5 at h
  refine jx_iload_n (pc := 5) (k0 := 2) rfl dJ7_fill_53178_5 ?_
  refine jx_iload_n (pc := 6) (k0 := 3) rfl dJ7_fill_53178_6 ?_
  refine jx_icmp_ge (pc := 7) (tgt := 20) dJ7_fill_53178_7 (by decide) (fun c1 => ?_) (fun c1 => ?_)
  · have h := jx_t c1 h
    cases h
    exact jx_vret (pc := 20) dJ7_fill_53178_20
  · have h := jx_f c1 h
    refine jx_aload_n (pc := 10) (k0 := 0) rfl dJ7_fill_53178_10 ?_
    refine jx_iload_n (pc := 11) (k0 := 2) rfl dJ7_fill_53178_11 ?_
    refine jx_iload_n (pc := 12) (k0 := 1) rfl dJ7_fill_53178_12 ?_
    obtain ⟨g2, h⟩ := jx_gd_o h
    obtain ⟨σ3, eσ3, h⟩ := jx_lt_o h
    refine ll_s (pc := 13) (k := v0) hG (jx_in_o g2) rfl eσ3 dJ7_fill_53178_13 ?_
    obtain ⟨x4, ex4, h⟩ := jx_lt_o h
    refine jx_iinc (pc := 14) (i := 2) (v := v2) rfl ex4 (n := 1) (by decide) (by decide) (lv' := [(2, .int x4), (0, .ref (G.2 (100 + v0))), (1, .int v1), (3, .int v3)]) rfl dJ7_fill_53178_14 ?_
    refine jx_goto (pc := 17) (tgt := 5) dJ7_fill_53178_17 (by decide) ?_
    exact jx_sub [1, 2, 0, 3] rfl (h5 σ3 v0 v1 x4 v3 h)
def b_J7_fill_53178_5 (t : jx_T)  : Nat → jx_M → Nat → Int32 → Int32 → Int32 → Option jx_M
  | 0, _, _, _, _, _ => none
  | n + 1, σ, v0, v1, v2, v3 => g_J7_fill_53178_5 t (b_J7_fill_53178_5 t n) σ v0 v1 v2 v3
theorem jb_J7_fill_53178_5 (l : Launch) (G : jx_G) (t : jx_T) (hG : ll_ok G) (sz : Nat) (out : jx_M)  : ∀ (n : Nat) (σ : jx_M) (v0 : Nat) (v1 : Int32) (v2 : Int32) (v3 : Int32), b_J7_fill_53178_5 t n σ v0 v1 v2 v3 = some out → jJ_J7_fill_53178 l G t sz out 5 [(0, .ref (G.2 (100 + v0))), (1, .int v1), (2, .int v2), (3, .int v3)] [] σ := by
  intro n
  induction n with
  | zero =>
    intro σ v0 v1 v2 v3 h
    cases h
  | succ n ih =>
    intro σ v0 v1 v2 v3 h
    exact jg_J7_fill_53178_5 l G t hG sz out (b_J7_fill_53178_5 t n) ih σ v0 v1 v2 v3 h
def f_J7_fill_53178 (t : jx_T) (σ : jx_M) (a0 : Nat) (a1 : Int32) : Option jx_M :=
  jx_gd (decide (1 ≤ a0 ∧ a0 ≤ 65)) (jx_lt ((Int32.ofNat (ll_len a0))) (fun x2 => (b_J7_fill_53178_5 t jx_fuel σ a0 a1 (0 : Int32) x2)))
set_option maxHeartbeats 4000000 in
set_option maxRecDepth 100000 in
theorem k_J7_fill_53178 (l : Launch) (G : jx_G) (t : jx_T) (hG : ll_ok G) (sz : Nat) (σ : jx_M) (a0 : Nat) (a1 : Int32) (out : jx_M) (h : f_J7_fill_53178 t σ a0 a1 = some out) : Met l yJ7_fill_53178 (Cond.code yJ7_fill_53178 cJ7_fill_53178 4 none :: jx_ws) rm_J7_fill_53178 (jx_Pc (ll_env G t) (ll_dyn G t) (ll_rg G) sz σ [.ref (G.2 (100 + a0)), .int a1]) (jx_Qv (ll_dyn G t) out (jx_A (ll_rg G) sz)) 0 0 (jx_A (ll_rg G) sz) := by
  unfold f_J7_fill_53178 at h
  refine jx_met (by decide) (Nat.le_of_ble_eq_true rfl) ?_
  refine jx_sub (lv' := [(0, .ref (G.2 (100 + a0))), (1, .int a1)]) [0, 1] rfl ?_
  refine jx_iconst (pc := 0) (v := (0 : Int32)) (by decide) dJ7_fill_53178_0 ?_
  refine jx_istore_n (pc := 1) (i := 2) rfl rfl (by decide) (lv' := [(2, .int (0 : Int32)), (0, .ref (G.2 (100 + a0))), (1, .int a1)]) rfl dJ7_fill_53178_1 ?_
  refine jx_aload_n (pc := 2) (k0 := 0) rfl dJ7_fill_53178_2 ?_
  obtain ⟨g1, h⟩ := jx_gd_o h
  refine ll_len1 (pc := 3) (k := a0) (of_decide_eq_true g1).1 (of_decide_eq_true g1).2 rfl dJ7_fill_53178_3 ?_
  obtain ⟨x2, ex2, h⟩ := jx_lt_o h
  refine jx_istore_n (pc := 4) (i := 3) rfl ex2 (by decide) (lv' := [(3, .int x2), (2, .int (0 : Int32)), (0, .ref (G.2 (100 + a0))), (1, .int a1)]) rfl dJ7_fill_53178_4 ?_
  exact jx_sub [2, 3, 1, 0] rfl (jb_J7_fill_53178_5 l G t hG sz out jx_fuel σ a0 a1 (0 : Int32) x2 h)
theorem dX1_crowded_0 : decode cX1_crowded 0 = .ok (.iconst 0, 1) := by decide +kernel
theorem dX1_crowded_1 : decode cX1_crowded 1 = .ok (.istore_n 1, 1) := by decide +kernel
theorem dX1_crowded_2 : decode cX1_crowded 2 = .ok (.iconst 1, 1) := by decide +kernel
theorem dX1_crowded_3 : decode cX1_crowded 3 = .ok (.istore_n 2, 1) := by decide +kernel
theorem dX1_crowded_4 : decode cX1_crowded 4 = .ok (.iload_n 2, 1) := by decide +kernel
theorem dX1_crowded_5 : decode cX1_crowded 5 = .ok (.aload_n 0, 1) := by decide +kernel
theorem dX1_crowded_6 : decode cX1_crowded 6 = .ok (.getfield 71, 3) := by decide +kernel
theorem dX1_crowded_9 : decode cX1_crowded 9 = .ok (.if_icmp .ge 24, 3) := by decide +kernel
theorem dX1_crowded_12 : decode cX1_crowded 12 = .ok (.aload_n 0, 1) := by decide +kernel
theorem dX1_crowded_13 : decode cX1_crowded 13 = .ok (.iload_n 2, 1) := by decide +kernel
theorem dX1_crowded_14 : decode cX1_crowded 14 = .ok (.invokevirtual 118, 3) := by decide +kernel
theorem dX1_crowded_17 : decode cX1_crowded 17 = .ok (.aload_n 0, 1) := by decide +kernel
theorem dX1_crowded_18 : decode cX1_crowded 18 = .ok (.iload_n 1, 1) := by decide +kernel
theorem dX1_crowded_19 : decode cX1_crowded 19 = .ok (.invokevirtual 118, 3) := by decide +kernel
theorem dX1_crowded_22 : decode cX1_crowded 22 = .ok (.if_icmp .le 5, 3) := by decide +kernel
theorem dX1_crowded_25 : decode cX1_crowded 25 = .ok (.iload_n 2, 1) := by decide +kernel
theorem dX1_crowded_26 : decode cX1_crowded 26 = .ok (.istore_n 1, 1) := by decide +kernel
theorem dX1_crowded_27 : decode cX1_crowded 27 = .ok (.iinc 2 1, 3) := by decide +kernel
theorem dX1_crowded_30 : decode cX1_crowded 30 = .ok (.goto (-26), 3) := by decide +kernel
theorem dX1_crowded_33 : decode cX1_crowded 33 = .ok (.iload_n 1, 1) := by decide +kernel
theorem dX1_crowded_34 : decode cX1_crowded 34 = .ok (.ireturn, 1) := by decide +kernel
abbrev rm_X1_crowded : Room := { frames := 1, cells := 0, slots := 0, locals := 23 }
abbrev jJ_X1_crowded (l : Launch) (G : jx_G) (t : jx_T) (sz : Nat) (σ0 : jx_M) (out : Int32) (pc : Nat) (lv : List (Nat × Value)) (st : List Value) (σ : jx_M) : Prop := jx_J l (ll_env G t) (ll_dyn G t) (ll_rg G) sz RX1 "crowded" cX1_crowded 3 (some .int) rm_X1_crowded (fun below args s => MQ below (jx_Qi (ll_dyn G t) σ0 out (jx_A (ll_rg G) sz)) args s 0 0 (jx_A (ll_rg G) sz)) 0 0 pc lv st σ
def b_X1_crowded_27 (t : jx_T) (k4 : jx_M → Int32 → Int32 → Option Int32) (σ : jx_M) (v1 : Int32) (v2 : Int32) : Option Int32 :=
  jx_lt (v2 + (1 : Int32)) (fun x1 => (k4 σ v1 x1))
set_option maxHeartbeats 4000000 in
set_option maxRecDepth 100000 in
theorem jb_X1_crowded_27 (l : Launch) (G : jx_G) (t : jx_T) (hG : ll_ok G) (sz : Nat) (σ0 : jx_M) (out : Int32) (k4 : jx_M → Int32 → Int32 → Option Int32) (h4 : ∀ (σ : jx_M) (v1 : Int32) (v2 : Int32), σ = σ0 → k4 σ v1 v2 = some out → jJ_X1_crowded l G t sz σ0 out 4 [(0, .ref (G.2 21)), (1, .int v1), (2, .int v2)] [] σ) (σ : jx_M) (v1 : Int32) (v2 : Int32) (e0 : σ = σ0) (h : b_X1_crowded_27 t k4 σ v1 v2 = some out) : jJ_X1_crowded l G t sz σ0 out 27 [(0, .ref (G.2 21)), (1, .int v1), (2, .int v2)] [] σ := by
  unfold b_X1_crowded_27 at h
  obtain ⟨x1, ex1, h⟩ := jx_lt_o h
  refine jx_iinc (pc := 27) (i := 2) (v := v2) rfl ex1 (n := 1) (by decide) (by decide) (lv' := [(2, .int x1), (0, .ref (G.2 21)), (1, .int v1)]) rfl dX1_crowded_27 ?_
  refine jx_goto (pc := 30) (tgt := 4) dX1_crowded_30 (by decide) ?_
  exact jx_sub [1, 2, 0] rfl (h4 σ v1 x1 e0 h)
def g_X1_crowded_4 (t : jx_T) (k4 : jx_M → Int32 → Int32 → Option Int32) (σ : jx_M) (v1 : Int32) (v2 : Int32) : Option Int32 :=
  if (σ 0 0) ≤ v2 then some v1 else jx_bd (f_X1_living t σ v2) (fun q2 => jx_bd (f_X1_living t σ v1) (fun q3 => if q2 ≤ q3 then (b_X1_crowded_27 t k4 σ v1 v2) else (b_X1_crowded_27 t k4 σ v2 v2)))
set_option maxHeartbeats 4000000 in
set_option maxRecDepth 100000 in
theorem jg_X1_crowded_4 (l : Launch) (G : jx_G) (t : jx_T) (hG : ll_ok G) (sz : Nat) (σ0 : jx_M) (out : Int32) (k4 : jx_M → Int32 → Int32 → Option Int32) (h4 : ∀ (σ : jx_M) (v1 : Int32) (v2 : Int32), σ = σ0 → k4 σ v1 v2 = some out → jJ_X1_crowded l G t sz σ0 out 4 [(0, .ref (G.2 21)), (1, .int v1), (2, .int v2)] [] σ) (σ : jx_M) (v1 : Int32) (v2 : Int32) (e0 : σ = σ0) (h : g_X1_crowded_4 t k4 σ v1 v2 = some out) : jJ_X1_crowded l G t sz σ0 out 4 [(0, .ref (G.2 21)), (1, .int v1), (2, .int v2)] [] σ := by
  unfold g_X1_crowded_4 at h
  refine jx_iload_n (pc := 4) (k0 := 2) rfl dX1_crowded_4 ?_
  refine jx_aload_n (pc := 5) (k0 := 0) rfl dX1_crowded_5 ?_
  refine ll_gnow_places (pc := 6) fl_X1_71 dX1_crowded_6 ?_
  refine jx_icmp_ge (pc := 9) (tgt := 33) dX1_crowded_9 (by decide) (fun c1 => ?_) (fun c1 => ?_)
  · have h := jx_t c1 h
    refine jx_iload_n (pc := 33) (k0 := 1) rfl dX1_crowded_33 ?_
    subst e0
    cases h
    exact jx_iret (pc := 34) dX1_crowded_34
  · have h := jx_f c1 h
    refine jx_aload_n (pc := 12) (k0 := 0) rfl dX1_crowded_12 ?_
    refine jx_iload_n (pc := 13) (k0 := 2) rfl dX1_crowded_13 ?_
    obtain ⟨q2, eq2, h⟩ := jx_bd_o h
    refine jx_callVi (pc := 14) [.int v2] (fun sz' => k_X1_living l G t hG sz' σ v2 q2 eq2) kv_X1_118 ll_jok ll_rcnow rfl rfl (Nat.le_of_ble_eq_true rfl) ⟨⟨rfl, rfl⟩, ⟨Nat.le_of_ble_eq_true rfl, Nat.le_of_ble_eq_true rfl⟩, Nat.zero_le _, Nat.zero_le _⟩ dX1_crowded_14 ?_
    refine jx_aload_n (pc := 17) (k0 := 0) rfl dX1_crowded_17 ?_
    refine jx_iload_n (pc := 18) (k0 := 1) rfl dX1_crowded_18 ?_
    obtain ⟨q3, eq3, h⟩ := jx_bd_o h
    refine jx_callVi (pc := 19) [.int v1] (fun sz' => k_X1_living l G t hG sz' σ v1 q3 eq3) kv_X1_118 ll_jok ll_rcnow rfl rfl (Nat.le_of_ble_eq_true rfl) ⟨⟨rfl, rfl⟩, ⟨Nat.le_of_ble_eq_true rfl, Nat.le_of_ble_eq_true rfl⟩, Nat.zero_le _, Nat.zero_le _⟩ dX1_crowded_19 ?_
    refine jx_icmp_le (pc := 22) (tgt := 27) dX1_crowded_22 (by decide) (fun c4 => ?_) (fun c4 => ?_)
    · have h := jx_t c4 h
      exact jx_sub [0, 1, 2] rfl (jb_X1_crowded_27 l G t hG sz σ0 out k4 h4 σ v1 v2 e0 h)
    · have h := jx_f c4 h
      refine jx_iload_n (pc := 25) (k0 := 2) rfl dX1_crowded_25 ?_
      refine jx_istore_n (pc := 26) (i := 1) rfl rfl (by decide) (lv' := [(1, .int v2), (0, .ref (G.2 21)), (2, .int v2)]) rfl dX1_crowded_26 ?_
      exact jx_sub [1, 0, 2] rfl (jb_X1_crowded_27 l G t hG sz σ0 out k4 h4 σ v2 v2 e0 h)
def b_X1_crowded_4 (t : jx_T)  : Nat → jx_M → Int32 → Int32 → Option Int32
  | 0, _, _, _ => none
  | n + 1, σ, v1, v2 => g_X1_crowded_4 t (b_X1_crowded_4 t n) σ v1 v2
theorem jb_X1_crowded_4 (l : Launch) (G : jx_G) (t : jx_T) (hG : ll_ok G) (sz : Nat) (σ0 : jx_M) (out : Int32)  : ∀ (n : Nat) (σ : jx_M) (v1 : Int32) (v2 : Int32), σ = σ0 → b_X1_crowded_4 t n σ v1 v2 = some out → jJ_X1_crowded l G t sz σ0 out 4 [(0, .ref (G.2 21)), (1, .int v1), (2, .int v2)] [] σ := by
  intro n
  induction n with
  | zero =>
    intro σ v1 v2 e0 h
    cases h
  | succ n ih =>
    intro σ v1 v2 e0 h
    exact jg_X1_crowded_4 l G t hG sz σ0 out (b_X1_crowded_4 t n) ih σ v1 v2 e0 h
def f_X1_crowded (t : jx_T) (σ : jx_M)  : Option Int32 :=
  (b_X1_crowded_4 t jx_fuel σ (0 : Int32) (1 : Int32))
set_option maxHeartbeats 4000000 in
set_option maxRecDepth 100000 in
theorem k_X1_crowded (l : Launch) (G : jx_G) (t : jx_T) (hG : ll_ok G) (sz : Nat) (σ : jx_M)  (out : Int32) (h : f_X1_crowded t σ = some out) : Met l yX1_crowded (Cond.code yX1_crowded cX1_crowded 3 (some .int) :: jx_ws) rm_X1_crowded (jx_Pc (ll_env G t) (ll_dyn G t) (ll_rg G) sz σ [.ref (G.2 21)]) (jx_Qi (ll_dyn G t) σ out (jx_A (ll_rg G) sz)) 0 0 (jx_A (ll_rg G) sz) := by
  unfold f_X1_crowded at h
  refine jx_met (by decide) (Nat.le_of_ble_eq_true rfl) ?_
  refine jx_sub (lv' := [(0, .ref (G.2 21))]) [0] rfl ?_
  refine jx_iconst (pc := 0) (v := (0 : Int32)) (by decide) dX1_crowded_0 ?_
  refine jx_istore_n (pc := 1) (i := 1) rfl rfl (by decide) (lv' := [(1, .int (0 : Int32)), (0, .ref (G.2 21))]) rfl dX1_crowded_1 ?_
  refine jx_iconst (pc := 2) (v := (1 : Int32)) (by decide) dX1_crowded_2 ?_
  refine jx_istore_n (pc := 3) (i := 2) rfl rfl (by decide) (lv' := [(2, .int (1 : Int32)), (1, .int (0 : Int32)), (0, .ref (G.2 21))]) rfl dX1_crowded_3 ?_
  exact jx_sub [2, 1, 0] rfl (jb_X1_crowded_4 l G t hG sz σ out jx_fuel σ (0 : Int32) (1 : Int32) rfl h)
theorem dX2_burns_0 : decode cX2_burns 0 = .ok (.aload_n 0, 1) := by decide +kernel
theorem dX2_burns_1 : decode cX2_burns 1 = .ok (.getfield 36, 3) := by decide +kernel
theorem dX2_burns_4 : decode cX2_burns 4 = .ok (.getfield 55, 3) := by decide +kernel
theorem dX2_burns_7 : decode cX2_burns 7 = .ok (.iload_n 1, 1) := by decide +kernel
theorem dX2_burns_8 : decode cX2_burns 8 = .ok (.aaload, 1) := by decide +kernel
theorem dX2_burns_9 : decode cX2_burns 9 = .ok (.iconst 4, 1) := by decide +kernel
theorem dX2_burns_10 : decode cX2_burns 10 = .ok (.iaload, 1) := by decide +kernel
theorem dX2_burns_11 : decode cX2_burns 11 = .ok (.aload_n 0, 1) := by decide +kernel
theorem dX2_burns_12 : decode cX2_burns 12 = .ok (.getfield 16, 3) := by decide +kernel
theorem dX2_burns_15 : decode cX2_burns 15 = .ok (.aload_n 0, 1) := by decide +kernel
theorem dX2_burns_16 : decode cX2_burns 16 = .ok (.getfield 36, 3) := by decide +kernel
theorem dX2_burns_19 : decode cX2_burns 19 = .ok (.iload_n 1, 1) := by decide +kernel
theorem dX2_burns_20 : decode cX2_burns 20 = .ok (.invokevirtual 58, 3) := by decide +kernel
theorem dX2_burns_23 : decode cX2_burns 23 = .ok (.aaload, 1) := by decide +kernel
theorem dX2_burns_24 : decode cX2_burns 24 = .ok (.iload_n 2, 1) := by decide +kernel
theorem dX2_burns_25 : decode cX2_burns 25 = .ok (.iaload, 1) := by decide +kernel
theorem dX2_burns_26 : decode cX2_burns 26 = .ok (.iadd, 1) := by decide +kernel
theorem dX2_burns_27 : decode cX2_burns 27 = .ok (.istore_n 3, 1) := by decide +kernel
theorem dX2_burns_28 : decode cX2_burns 28 = .ok (.iload_n 3, 1) := by decide +kernel
theorem dX2_burns_29 : decode cX2_burns 29 = .ok (.bipush 12, 2) := by decide +kernel
theorem dX2_burns_31 : decode cX2_burns 31 = .ok (.invokestatic 62, 3) := by decide +kernel
theorem dX2_burns_34 : decode cX2_burns 34 = .ok (.ireturn, 1) := by decide +kernel
abbrev rm_X2_burns : Room := { frames := 1, cells := 0, slots := 0, locals := 22 }
abbrev jJ_X2_burns (l : Launch) (G : jx_G) (t : jx_T) (sz : Nat) (σ0 : jx_M) (out : Int32) (pc : Nat) (lv : List (Nat × Value)) (st : List Value) (σ : jx_M) : Prop := jx_J l (ll_env G t) (ll_dyn G t) (ll_rg G) sz RX2 "burns" cX2_burns 4 (some .int) rm_X2_burns (fun below args s => MQ below (jx_Qi (ll_dyn G t) σ0 out (jx_A (ll_rg G) sz)) args s 0 0 (jx_A (ll_rg G) sz)) 0 0 pc lv st σ
def f_X2_burns (t : jx_T) (σ : jx_M) (a1 : Int32) (a2 : Int32) : Option Int32 :=
  jx_gd (jx_in a1 6) (jx_gd (jx_in (4 : Int32) (ll_len (8 + a1.toNatClampNeg))) (jx_bd (f_X1_delay t σ a1) (fun q3 => jx_gd (jx_in q3 3) (jx_gd (jx_in a2 (ll_len (53 + q3.toNatClampNeg))) (jx_lt (((σ (8 + a1.toNatClampNeg) 4) + (σ (53 + q3.toNatClampNeg) a2.toNatClampNeg))) (fun x6 => some (if (12 : Int32) < x6 then (12 : Int32) else x6)))))))
set_option maxHeartbeats 4000000 in
set_option maxRecDepth 100000 in
theorem k_X2_burns (l : Launch) (G : jx_G) (t : jx_T) (hG : ll_ok G) (sz : Nat) (σ : jx_M) (a1 : Int32) (a2 : Int32) (out : Int32) (h : f_X2_burns t σ a1 a2 = some out) : Met l yX2_burns (Cond.code yX2_burns cX2_burns 4 (some .int) :: jx_ws) rm_X2_burns (jx_Pc (ll_env G t) (ll_dyn G t) (ll_rg G) sz σ [.ref (G.2 23), .int a1, .int a2]) (jx_Qi (ll_dyn G t) σ out (jx_A (ll_rg G) sz)) 0 0 (jx_A (ll_rg G) sz) := by
  unfold f_X2_burns at h
  refine jx_met (by decide) (Nat.le_of_ble_eq_true rfl) ?_
  refine jx_sub (lv' := [(0, .ref (G.2 23)), (1, .int a1), (2, .int a2)]) [0, 1, 2] rfl ?_
  refine jx_aload_n (pc := 0) (k0 := 0) rfl dX2_burns_0 ?_
  refine ll_gnight_canal (pc := 1) fl_X2_36 dX2_burns_1 ?_
  refine ll_gnow_voter (pc := 4) fl_X2_55 dX2_burns_4 ?_
  refine jx_iload_n (pc := 7) (k0 := 1) rfl dX2_burns_7 ?_
  obtain ⟨g1, h⟩ := jx_gd_o h
  refine ll_a_now_voter (pc := 8) (jx_in_o g1) dX2_burns_8 ?_
  refine jx_iconst (pc := 9) (v := (4 : Int32)) (by decide) dX2_burns_9 ?_
  obtain ⟨g2, h⟩ := jx_gd_o h
  refine ll_l (pc := 10) (k := (8 + a1.toNatClampNeg)) (j := 4) (jx_in_o g2) (by decide) dX2_burns_10 ?_
  refine jx_aload_n (pc := 11) (k0 := 0) rfl dX2_burns_11 ?_
  refine ll_gnight_filled (pc := 12) fl_X2_16 dX2_burns_12 ?_
  refine jx_aload_n (pc := 15) (k0 := 0) rfl dX2_burns_15 ?_
  refine ll_gnight_canal (pc := 16) fl_X2_36 dX2_burns_16 ?_
  refine jx_iload_n (pc := 19) (k0 := 1) rfl dX2_burns_19 ?_
  obtain ⟨q3, eq3, h⟩ := jx_bd_o h
  refine jx_callVi (pc := 20) [.int a1] (fun sz' => k_X1_delay l G t hG sz' σ a1 q3 eq3) kv_X2_58 ll_jok ll_rcnow rfl rfl (Nat.le_of_ble_eq_true rfl) ⟨⟨rfl, rfl⟩, ⟨Nat.le_of_ble_eq_true rfl, Nat.le_of_ble_eq_true rfl⟩, Nat.zero_le _, Nat.zero_le _⟩ dX2_burns_20 ?_
  obtain ⟨g4, h⟩ := jx_gd_o h
  refine ll_a_night_filled (pc := 23) (jx_in_o g4) dX2_burns_23 ?_
  refine jx_iload_n (pc := 24) (k0 := 2) rfl dX2_burns_24 ?_
  obtain ⟨g5, h⟩ := jx_gd_o h
  refine ll_l (pc := 25) (k := (53 + q3.toNatClampNeg)) (jx_in_o g5) rfl dX2_burns_25 ?_
  refine jx_iadd (pc := 26) dX2_burns_26 ?_
  obtain ⟨x6, ex6, h⟩ := jx_lt_o h
  refine jx_istore_n (pc := 27) (i := 3) rfl ex6 (by decide) (lv' := [(3, .int x6), (0, .ref (G.2 23)), (1, .int a1), (2, .int a2)]) rfl dX2_burns_27 ?_
  refine jx_iload_n (pc := 28) (k0 := 3) rfl dX2_burns_28 ?_
  refine jx_bipush (pc := 29) (v := (12 : Int32)) (by decide) dX2_burns_29 ?_
  refine jx_mmin (pc := 31) km_X2_62.1 km_X2_62.2.1 km_X2_62.2.2.1 km_X2_62.2.2.2 (Nat.le_of_ble_eq_true rfl) (Nat.le_of_ble_eq_true rfl) (Nat.zero_le _) (Nat.zero_le _) dX2_burns_31 ?_
  cases h
  exact jx_iret (pc := 34) dX2_burns_34
theorem dX2_mayor_0 : decode cX2_mayor 0 = .ok (.aload_n 0, 1) := by decide +kernel
theorem dX2_mayor_1 : decode cX2_mayor 1 = .ok (.iload_n 1, 1) := by decide +kernel
theorem dX2_mayor_2 : decode cX2_mayor 2 = .ok (.invokevirtual 90, 3) := by decide +kernel
theorem dX2_mayor_5 : decode cX2_mayor 5 = .ok (.invokestatic 93, 3) := by decide +kernel
theorem dX2_mayor_8 : decode cX2_mayor 8 = .ok (.ireturn, 1) := by decide +kernel
abbrev rm_X2_mayor : Room := { frames := 1, cells := 0, slots := 0, locals := 23 }
abbrev jJ_X2_mayor (l : Launch) (G : jx_G) (t : jx_T) (sz : Nat) (σ0 : jx_M) (out : Int32) (pc : Nat) (lv : List (Nat × Value)) (st : List Value) (σ : jx_M) : Prop := jx_J l (ll_env G t) (ll_dyn G t) (ll_rg G) sz RX2 "mayor" cX2_mayor 2 (some .int) rm_X2_mayor (fun below args s => MQ below (jx_Qi (ll_dyn G t) σ0 out (jx_A (ll_rg G) sz)) args s 0 0 (jx_A (ll_rg G) sz)) 0 0 pc lv st σ
def f_X2_mayor (t : jx_T) (σ : jx_M) (a1 : Int32) : Option Int32 :=
  jx_bd (f_X2_lead t σ a1) (fun q1 => jx_bd (f_X2_winnerBy q1) (fun q2 => some q2))
set_option maxHeartbeats 4000000 in
set_option maxRecDepth 100000 in
theorem k_X2_mayor (l : Launch) (G : jx_G) (t : jx_T) (hG : ll_ok G) (sz : Nat) (σ : jx_M) (a1 : Int32) (out : Int32) (h : f_X2_mayor t σ a1 = some out) : Met l yX2_mayor (Cond.code yX2_mayor cX2_mayor 2 (some .int) :: jx_ws) rm_X2_mayor (jx_Pc (ll_env G t) (ll_dyn G t) (ll_rg G) sz σ [.ref (G.2 23), .int a1]) (jx_Qi (ll_dyn G t) σ out (jx_A (ll_rg G) sz)) 0 0 (jx_A (ll_rg G) sz) := by
  unfold f_X2_mayor at h
  refine jx_met (by decide) (Nat.le_of_ble_eq_true rfl) ?_
  refine jx_sub (lv' := [(0, .ref (G.2 23)), (1, .int a1)]) [0, 1] rfl ?_
  refine jx_aload_n (pc := 0) (k0 := 0) rfl dX2_mayor_0 ?_
  refine jx_iload_n (pc := 1) (k0 := 1) rfl dX2_mayor_1 ?_
  obtain ⟨q1, eq1, h⟩ := jx_bd_o h
  refine jx_callVi (pc := 2) [.int a1] (fun sz' => k_X2_lead l G t hG sz' σ a1 q1 eq1) kv_X2_90 ll_jok ll_rcnight rfl rfl (Nat.le_of_ble_eq_true rfl) ⟨⟨rfl, rfl⟩, ⟨Nat.le_of_ble_eq_true rfl, Nat.le_of_ble_eq_true rfl⟩, Nat.zero_le _, Nat.zero_le _⟩ dX2_mayor_2 ?_
  obtain ⟨q2, eq2, h⟩ := jx_bd_o h
  refine jx_callSi (pc := 5) [.int q1] (fun sz' => k_X2_winnerBy l G t hG sz' σ q1 q2 eq2) ks_X2_93 ll_jok rfl rfl (Nat.le_of_ble_eq_true rfl) ⟨⟨rfl, rfl⟩, ⟨Nat.le_of_ble_eq_true rfl, Nat.le_of_ble_eq_true rfl⟩, Nat.zero_le _, Nat.zero_le _⟩ dX2_mayor_5 ?_
  cases h
  exact jx_iret (pc := 8) dX2_mayor_8
theorem dX2_leadOf_0 : decode cX2_leadOf 0 = .ok (.aload_n 0, 1) := by decide +kernel
theorem dX2_leadOf_1 : decode cX2_leadOf 1 = .ok (.aload_n 0, 1) := by decide +kernel
theorem dX2_leadOf_2 : decode cX2_leadOf 2 = .ok (.getfield 36, 3) := by decide +kernel
theorem dX2_leadOf_5 : decode cX2_leadOf 5 = .ok (.invokevirtual 96, 3) := by decide +kernel
theorem dX2_leadOf_8 : decode cX2_leadOf 8 = .ok (.invokevirtual 90, 3) := by decide +kernel
theorem dX2_leadOf_11 : decode cX2_leadOf 11 = .ok (.istore_n 2, 1) := by decide +kernel
theorem dX2_leadOf_12 : decode cX2_leadOf 12 = .ok (.aload_n 0, 1) := by decide +kernel
theorem dX2_leadOf_13 : decode cX2_leadOf 13 = .ok (.getfield 36, 3) := by decide +kernel
theorem dX2_leadOf_16 : decode cX2_leadOf 16 = .ok (.getfield 55, 3) := by decide +kernel
theorem dX2_leadOf_19 : decode cX2_leadOf 19 = .ok (.iload_n 1, 1) := by decide +kernel
theorem dX2_leadOf_20 : decode cX2_leadOf 20 = .ok (.aaload, 1) := by decide +kernel
theorem dX2_leadOf_21 : decode cX2_leadOf 21 = .ok (.iconst 3, 1) := by decide +kernel
theorem dX2_leadOf_22 : decode cX2_leadOf 22 = .ok (.iaload, 1) := by decide +kernel
theorem dX2_leadOf_23 : decode cX2_leadOf 23 = .ok (.iconst 1, 1) := by decide +kernel
theorem dX2_leadOf_24 : decode cX2_leadOf 24 = .ok (.if_icmp .ne 7, 3) := by decide +kernel
theorem dX2_leadOf_27 : decode cX2_leadOf 27 = .ok (.iload_n 2, 1) := by decide +kernel
theorem dX2_leadOf_28 : decode cX2_leadOf 28 = .ok (.goto 5, 3) := by decide +kernel
theorem dX2_leadOf_31 : decode cX2_leadOf 31 = .ok (.iload_n 2, 1) := by decide +kernel
theorem dX2_leadOf_32 : decode cX2_leadOf 32 = .ok (.ineg, 1) := by decide +kernel
theorem dX2_leadOf_33 : decode cX2_leadOf 33 = .ok (.ireturn, 1) := by decide +kernel
abbrev rm_X2_leadOf : Room := { frames := 1, cells := 0, slots := 0, locals := 23 }
abbrev jJ_X2_leadOf (l : Launch) (G : jx_G) (t : jx_T) (sz : Nat) (σ0 : jx_M) (out : Int32) (pc : Nat) (lv : List (Nat × Value)) (st : List Value) (σ : jx_M) : Prop := jx_J l (ll_env G t) (ll_dyn G t) (ll_rg G) sz RX2 "leadOf" cX2_leadOf 3 (some .int) rm_X2_leadOf (fun below args s => MQ below (jx_Qi (ll_dyn G t) σ0 out (jx_A (ll_rg G) sz)) args s 0 0 (jx_A (ll_rg G) sz)) 0 0 pc lv st σ
def f_X2_leadOf (t : jx_T) (σ : jx_M) (a1 : Int32) : Option Int32 :=
  jx_bd (f_X1_wishes t σ) (fun q1 => jx_bd (f_X2_lead t σ q1) (fun q2 => jx_gd (jx_in a1 6) (jx_gd (jx_in (3 : Int32) (ll_len (8 + a1.toNatClampNeg))) (if (σ (8 + a1.toNatClampNeg) 3) = (1 : Int32) then some q2 else some (-q2)))))
set_option maxHeartbeats 4000000 in
set_option maxRecDepth 100000 in
theorem k_X2_leadOf (l : Launch) (G : jx_G) (t : jx_T) (hG : ll_ok G) (sz : Nat) (σ : jx_M) (a1 : Int32) (out : Int32) (h : f_X2_leadOf t σ a1 = some out) : Met l yX2_leadOf (Cond.code yX2_leadOf cX2_leadOf 3 (some .int) :: jx_ws) rm_X2_leadOf (jx_Pc (ll_env G t) (ll_dyn G t) (ll_rg G) sz σ [.ref (G.2 23), .int a1]) (jx_Qi (ll_dyn G t) σ out (jx_A (ll_rg G) sz)) 0 0 (jx_A (ll_rg G) sz) := by
  unfold f_X2_leadOf at h
  refine jx_met (by decide) (Nat.le_of_ble_eq_true rfl) ?_
  refine jx_sub (lv' := [(0, .ref (G.2 23)), (1, .int a1)]) [0, 1] rfl ?_
  refine jx_aload_n (pc := 0) (k0 := 0) rfl dX2_leadOf_0 ?_
  refine jx_aload_n (pc := 1) (k0 := 0) rfl dX2_leadOf_1 ?_
  refine ll_gnight_canal (pc := 2) fl_X2_36 dX2_leadOf_2 ?_
  obtain ⟨q1, eq1, h⟩ := jx_bd_o h
  refine jx_callVi (pc := 5) [] (fun sz' => k_X1_wishes l G t hG sz' σ q1 eq1) kv_X2_96 ll_jok ll_rcnow rfl rfl (Nat.le_of_ble_eq_true rfl) ⟨⟨rfl, rfl⟩, ⟨Nat.le_of_ble_eq_true rfl, Nat.le_of_ble_eq_true rfl⟩, Nat.zero_le _, Nat.zero_le _⟩ dX2_leadOf_5 ?_
  obtain ⟨q2, eq2, h⟩ := jx_bd_o h
  refine jx_callVi (pc := 8) [.int q1] (fun sz' => k_X2_lead l G t hG sz' σ q1 q2 eq2) kv_X2_90 ll_jok ll_rcnight rfl rfl (Nat.le_of_ble_eq_true rfl) ⟨⟨rfl, rfl⟩, ⟨Nat.le_of_ble_eq_true rfl, Nat.le_of_ble_eq_true rfl⟩, Nat.zero_le _, Nat.zero_le _⟩ dX2_leadOf_8 ?_
  refine jx_istore_n (pc := 11) (i := 2) rfl rfl (by decide) (lv' := [(2, .int q2), (0, .ref (G.2 23)), (1, .int a1)]) rfl dX2_leadOf_11 ?_
  refine jx_aload_n (pc := 12) (k0 := 0) rfl dX2_leadOf_12 ?_
  refine ll_gnight_canal (pc := 13) fl_X2_36 dX2_leadOf_13 ?_
  refine ll_gnow_voter (pc := 16) fl_X2_55 dX2_leadOf_16 ?_
  refine jx_iload_n (pc := 19) (k0 := 1) rfl dX2_leadOf_19 ?_
  obtain ⟨g3, h⟩ := jx_gd_o h
  refine ll_a_now_voter (pc := 20) (jx_in_o g3) dX2_leadOf_20 ?_
  refine jx_iconst (pc := 21) (v := (3 : Int32)) (by decide) dX2_leadOf_21 ?_
  obtain ⟨g4, h⟩ := jx_gd_o h
  refine ll_l (pc := 22) (k := (8 + a1.toNatClampNeg)) (j := 3) (jx_in_o g4) (by decide) dX2_leadOf_22 ?_
  refine jx_iconst (pc := 23) (v := (1 : Int32)) (by decide) dX2_leadOf_23 ?_
  refine jx_icmp_ne (pc := 24) (tgt := 31) dX2_leadOf_24 (by decide) (fun c5 => ?_) (fun c5 => ?_)
  · have h := jx_f c5 h
    refine jx_iload_n (pc := 31) (k0 := 2) rfl dX2_leadOf_31 ?_
    refine jx_ineg (pc := 32) dX2_leadOf_32 ?_
    cases h
    exact jx_iret (pc := 33) dX2_leadOf_33
  · have h := jx_t c5 h
    refine jx_iload_n (pc := 27) (k0 := 2) rfl dX2_leadOf_27 ?_
    refine jx_goto (pc := 28) (tgt := 33) dX2_leadOf_28 (by decide) ?_
    cases h
    exact jx_iret (pc := 33) dX2_leadOf_33
theorem dX2_winner_0 : decode cX2_winner 0 = .ok (.iconst 0, 1) := by decide +kernel
theorem dX2_winner_1 : decode cX2_winner 1 = .ok (.istore_n 2, 1) := by decide +kernel
theorem dX2_winner_2 : decode cX2_winner 2 = .ok (.iconst 0, 1) := by decide +kernel
theorem dX2_winner_3 : decode cX2_winner 3 = .ok (.istore_n 3, 1) := by decide +kernel
theorem dX2_winner_4 : decode cX2_winner 4 = .ok (.iload_n 3, 1) := by decide +kernel
theorem dX2_winner_5 : decode cX2_winner 5 = .ok (.aload_n 0, 1) := by decide +kernel
theorem dX2_winner_6 : decode cX2_winner 6 = .ok (.getfield 36, 3) := by decide +kernel
theorem dX2_winner_9 : decode cX2_winner 9 = .ok (.getfield 74, 3) := by decide +kernel
theorem dX2_winner_12 : decode cX2_winner 12 = .ok (.if_icmp .ge 63, 3) := by decide +kernel
theorem dX2_winner_15 : decode cX2_winner 15 = .ok (.aload_n 0, 1) := by decide +kernel
theorem dX2_winner_16 : decode cX2_winner 16 = .ok (.getfield 36, 3) := by decide +kernel
theorem dX2_winner_19 : decode cX2_winner 19 = .ok (.getfield 100, 3) := by decide +kernel
theorem dX2_winner_22 : decode cX2_winner 22 = .ok (.aload_n 0, 1) := by decide +kernel
theorem dX2_winner_23 : decode cX2_winner 23 = .ok (.getfield 30, 3) := by decide +kernel
theorem dX2_winner_26 : decode cX2_winner 26 = .ok (.iload_n 3, 1) := by decide +kernel
theorem dX2_winner_27 : decode cX2_winner 27 = .ok (.iaload, 1) := by decide +kernel
theorem dX2_winner_28 : decode cX2_winner 28 = .ok (.aaload, 1) := by decide +kernel
theorem dX2_winner_29 : decode cX2_winner 29 = .ok (.iconst 2, 1) := by decide +kernel
theorem dX2_winner_30 : decode cX2_winner 30 = .ok (.iaload, 1) := by decide +kernel
theorem dX2_winner_31 : decode cX2_winner 31 = .ok (.iload_n 1, 1) := by decide +kernel
theorem dX2_winner_32 : decode cX2_winner 32 = .ok (.if_icmp .ne 37, 3) := by decide +kernel
theorem dX2_winner_35 : decode cX2_winner 35 = .ok (.iload_n 2, 1) := by decide +kernel
theorem dX2_winner_36 : decode cX2_winner 36 = .ok (.aload_n 0, 1) := by decide +kernel
theorem dX2_winner_37 : decode cX2_winner 37 = .ok (.getfield 36, 3) := by decide +kernel
theorem dX2_winner_40 : decode cX2_winner 40 = .ok (.getfield 55, 3) := by decide +kernel
theorem dX2_winner_43 : decode cX2_winner 43 = .ok (.iload_n 3, 1) := by decide +kernel
theorem dX2_winner_44 : decode cX2_winner 44 = .ok (.aaload, 1) := by decide +kernel
theorem dX2_winner_45 : decode cX2_winner 45 = .ok (.iconst 3, 1) := by decide +kernel
theorem dX2_winner_46 : decode cX2_winner 46 = .ok (.iaload, 1) := by decide +kernel
theorem dX2_winner_47 : decode cX2_winner 47 = .ok (.iconst 1, 1) := by decide +kernel
theorem dX2_winner_48 : decode cX2_winner 48 = .ok (.if_icmp .ne 12, 3) := by decide +kernel
theorem dX2_winner_51 : decode cX2_winner 51 = .ok (.aload_n 0, 1) := by decide +kernel
theorem dX2_winner_52 : decode cX2_winner 52 = .ok (.getfield 33, 3) := by decide +kernel
theorem dX2_winner_55 : decode cX2_winner 55 = .ok (.iload_n 3, 1) := by decide +kernel
theorem dX2_winner_56 : decode cX2_winner 56 = .ok (.iaload, 1) := by decide +kernel
theorem dX2_winner_57 : decode cX2_winner 57 = .ok (.goto 10, 3) := by decide +kernel
theorem dX2_winner_60 : decode cX2_winner 60 = .ok (.aload_n 0, 1) := by decide +kernel
theorem dX2_winner_61 : decode cX2_winner 61 = .ok (.getfield 33, 3) := by decide +kernel
theorem dX2_winner_64 : decode cX2_winner 64 = .ok (.iload_n 3, 1) := by decide +kernel
theorem dX2_winner_65 : decode cX2_winner 65 = .ok (.iaload, 1) := by decide +kernel
theorem dX2_winner_66 : decode cX2_winner 66 = .ok (.ineg, 1) := by decide +kernel
theorem dX2_winner_67 : decode cX2_winner 67 = .ok (.iadd, 1) := by decide +kernel
theorem dX2_winner_68 : decode cX2_winner 68 = .ok (.istore_n 2, 1) := by decide +kernel
theorem dX2_winner_69 : decode cX2_winner 69 = .ok (.iinc 3 1, 3) := by decide +kernel
theorem dX2_winner_72 : decode cX2_winner 72 = .ok (.goto (-68), 3) := by decide +kernel
theorem dX2_winner_75 : decode cX2_winner 75 = .ok (.iload_n 2, 1) := by decide +kernel
theorem dX2_winner_76 : decode cX2_winner 76 = .ok (.invokestatic 93, 3) := by decide +kernel
theorem dX2_winner_79 : decode cX2_winner 79 = .ok (.ireturn, 1) := by decide +kernel
abbrev rm_X2_winner : Room := { frames := 1, cells := 0, slots := 0, locals := 20 }
abbrev jJ_X2_winner (l : Launch) (G : jx_G) (t : jx_T) (sz : Nat) (σ0 : jx_M) (out : Int32) (pc : Nat) (lv : List (Nat × Value)) (st : List Value) (σ : jx_M) : Prop := jx_J l (ll_env G t) (ll_dyn G t) (ll_rg G) sz RX2 "winner" cX2_winner 4 (some .int) rm_X2_winner (fun below args s => MQ below (jx_Qi (ll_dyn G t) σ0 out (jx_A (ll_rg G) sz)) args s 0 0 (jx_A (ll_rg G) sz)) 0 0 pc lv st σ
def b_X2_winner_69 (t : jx_T) (k4 : jx_M → Int32 → Int32 → Int32 → Option Int32) (σ : jx_M) (v1 : Int32) (v2 : Int32) (v3 : Int32) : Option Int32 :=
  jx_lt (v3 + (1 : Int32)) (fun x1 => (k4 σ v1 v2 x1))
set_option maxHeartbeats 4000000 in
set_option maxRecDepth 100000 in
theorem jb_X2_winner_69 (l : Launch) (G : jx_G) (t : jx_T) (hG : ll_ok G) (sz : Nat) (σ0 : jx_M) (out : Int32) (k4 : jx_M → Int32 → Int32 → Int32 → Option Int32) (h4 : ∀ (σ : jx_M) (v1 : Int32) (v2 : Int32) (v3 : Int32), σ = σ0 → k4 σ v1 v2 v3 = some out → jJ_X2_winner l G t sz σ0 out 4 [(0, .ref (G.2 23)), (1, .int v1), (2, .int v2), (3, .int v3)] [] σ) (σ : jx_M) (v1 : Int32) (v2 : Int32) (v3 : Int32) (e0 : σ = σ0) (h : b_X2_winner_69 t k4 σ v1 v2 v3 = some out) : jJ_X2_winner l G t sz σ0 out 69 [(0, .ref (G.2 23)), (1, .int v1), (2, .int v2), (3, .int v3)] [] σ := by
  unfold b_X2_winner_69 at h
  obtain ⟨x1, ex1, h⟩ := jx_lt_o h
  refine jx_iinc (pc := 69) (i := 3) (v := v3) rfl ex1 (n := 1) (by decide) (by decide) (lv' := [(3, .int x1), (0, .ref (G.2 23)), (1, .int v1), (2, .int v2)]) rfl dX2_winner_69 ?_
  refine jx_goto (pc := 72) (tgt := 4) dX2_winner_72 (by decide) ?_
  exact jx_sub [1, 2, 3, 0] rfl (h4 σ v1 v2 x1 e0 h)
def b_X2_winner_67 (t : jx_T) (k4 : jx_M → Int32 → Int32 → Int32 → Option Int32) (σ : jx_M) (v1 : Int32) (v3 : Int32) (s0 : Int32) (s1 : Int32) : Option Int32 :=
  jx_lt ((s1 + s0)) (fun x1 => (b_X2_winner_69 t k4 σ v1 x1 v3))
set_option maxHeartbeats 4000000 in
set_option maxRecDepth 100000 in
theorem jb_X2_winner_67 (l : Launch) (G : jx_G) (t : jx_T) (hG : ll_ok G) (sz : Nat) (σ0 : jx_M) (out : Int32) (k4 : jx_M → Int32 → Int32 → Int32 → Option Int32) (h4 : ∀ (σ : jx_M) (v1 : Int32) (v2 : Int32) (v3 : Int32), σ = σ0 → k4 σ v1 v2 v3 = some out → jJ_X2_winner l G t sz σ0 out 4 [(0, .ref (G.2 23)), (1, .int v1), (2, .int v2), (3, .int v3)] [] σ) (σ : jx_M) (v1 : Int32) (v3 : Int32) (s0 : Int32) (s1 : Int32) (e0 : σ = σ0) (h : b_X2_winner_67 t k4 σ v1 v3 s0 s1 = some out) : jJ_X2_winner l G t sz σ0 out 67 [(0, .ref (G.2 23)), (1, .int v1), (3, .int v3)] [.int s0, .int s1] σ := by
  unfold b_X2_winner_67 at h
  refine jx_iadd (pc := 67) dX2_winner_67 ?_
  obtain ⟨x1, ex1, h⟩ := jx_lt_o h
  refine jx_istore_n (pc := 68) (i := 2) rfl ex1 (by decide) (lv' := [(2, .int x1), (0, .ref (G.2 23)), (1, .int v1), (3, .int v3)]) rfl dX2_winner_68 ?_
  exact jx_sub [1, 2, 0, 3] rfl (jb_X2_winner_69 l G t hG sz σ0 out k4 h4 σ v1 x1 v3 e0 h)
def g_X2_winner_4 (t : jx_T) (k4 : jx_M → Int32 → Int32 → Int32 → Option Int32) (σ : jx_M) (v1 : Int32) (v2 : Int32) (v3 : Int32) : Option Int32 :=
  if (σ 0 2) ≤ v3 then jx_bd (f_X2_winnerBy v2) (fun q2 => some q2) else jx_gd (jx_in v3 6) (jx_gd (jx_in (σ 58 v3.toNatClampNeg) 7) (jx_gd (jx_in (2 : Int32) (ll_len (1 + (σ 58 v3.toNatClampNeg).toNatClampNeg))) (if (σ (1 + (σ 58 v3.toNatClampNeg).toNatClampNeg) 2) = v1 then jx_gd (jx_in v3 6) (jx_gd (jx_in (3 : Int32) (ll_len (8 + v3.toNatClampNeg))) (if (σ (8 + v3.toNatClampNeg) 3) = (1 : Int32) then jx_gd (jx_in v3 6) ((b_X2_winner_67 t k4 σ v1 v3 (σ 59 v3.toNatClampNeg) v2)) else jx_gd (jx_in v3 6) ((b_X2_winner_67 t k4 σ v1 v3 (-(σ 59 v3.toNatClampNeg)) v2)))) else (b_X2_winner_69 t k4 σ v1 v2 v3))))
set_option maxHeartbeats 4000000 in
set_option maxRecDepth 100000 in
theorem jg_X2_winner_4 (l : Launch) (G : jx_G) (t : jx_T) (hG : ll_ok G) (sz : Nat) (σ0 : jx_M) (out : Int32) (k4 : jx_M → Int32 → Int32 → Int32 → Option Int32) (h4 : ∀ (σ : jx_M) (v1 : Int32) (v2 : Int32) (v3 : Int32), σ = σ0 → k4 σ v1 v2 v3 = some out → jJ_X2_winner l G t sz σ0 out 4 [(0, .ref (G.2 23)), (1, .int v1), (2, .int v2), (3, .int v3)] [] σ) (σ : jx_M) (v1 : Int32) (v2 : Int32) (v3 : Int32) (e0 : σ = σ0) (h : g_X2_winner_4 t k4 σ v1 v2 v3 = some out) : jJ_X2_winner l G t sz σ0 out 4 [(0, .ref (G.2 23)), (1, .int v1), (2, .int v2), (3, .int v3)] [] σ := by
  unfold g_X2_winner_4 at h
  refine jx_iload_n (pc := 4) (k0 := 3) rfl dX2_winner_4 ?_
  refine jx_aload_n (pc := 5) (k0 := 0) rfl dX2_winner_5 ?_
  refine ll_gnight_canal (pc := 6) fl_X2_36 dX2_winner_6 ?_
  refine ll_gnow_voters (pc := 9) fl_X2_74 dX2_winner_9 ?_
  refine jx_icmp_ge (pc := 12) (tgt := 75) dX2_winner_12 (by decide) (fun c1 => ?_) (fun c1 => ?_)
  · have h := jx_t c1 h
    refine jx_iload_n (pc := 75) (k0 := 2) rfl dX2_winner_75 ?_
    obtain ⟨q2, eq2, h⟩ := jx_bd_o h
    refine jx_callSi (pc := 76) [.int v2] (fun sz' => k_X2_winnerBy l G t hG sz' σ v2 q2 eq2) ks_X2_93 ll_jok rfl rfl (Nat.le_of_ble_eq_true rfl) ⟨⟨rfl, rfl⟩, ⟨Nat.le_of_ble_eq_true rfl, Nat.le_of_ble_eq_true rfl⟩, Nat.zero_le _, Nat.zero_le _⟩ dX2_winner_76 ?_
    subst e0
    cases h
    exact jx_iret (pc := 79) dX2_winner_79
  · have h := jx_f c1 h
    refine jx_aload_n (pc := 15) (k0 := 0) rfl dX2_winner_15 ?_
    refine ll_gnight_canal (pc := 16) fl_X2_36 dX2_winner_16 ?_
    refine ll_gnow_place (pc := 19) fl_X2_100 dX2_winner_19 ?_
    refine jx_aload_n (pc := 22) (k0 := 0) rfl dX2_winner_22 ?_
    refine ll_gnight_lie (pc := 23) fl_X2_30 dX2_winner_23 ?_
    refine jx_iload_n (pc := 26) (k0 := 3) rfl dX2_winner_26 ?_
    obtain ⟨g3, h⟩ := jx_gd_o h
    refine ll_l (pc := 27) (k := 58) (jx_in_o g3) rfl dX2_winner_27 ?_
    obtain ⟨g4, h⟩ := jx_gd_o h
    refine ll_a_now_place (pc := 28) (jx_in_o g4) dX2_winner_28 ?_
    refine jx_iconst (pc := 29) (v := (2 : Int32)) (by decide) dX2_winner_29 ?_
    obtain ⟨g5, h⟩ := jx_gd_o h
    refine ll_l (pc := 30) (k := (1 + (σ 58 v3.toNatClampNeg).toNatClampNeg)) (j := 2) (jx_in_o g5) (by decide) dX2_winner_30 ?_
    refine jx_iload_n (pc := 31) (k0 := 1) rfl dX2_winner_31 ?_
    refine jx_icmp_ne (pc := 32) (tgt := 69) dX2_winner_32 (by decide) (fun c6 => ?_) (fun c6 => ?_)
    · have h := jx_f c6 h
      exact jx_sub [0, 1, 2, 3] rfl (jb_X2_winner_69 l G t hG sz σ0 out k4 h4 σ v1 v2 v3 e0 h)
    · have h := jx_t c6 h
      refine jx_iload_n (pc := 35) (k0 := 2) rfl dX2_winner_35 ?_
      refine jx_aload_n (pc := 36) (k0 := 0) rfl dX2_winner_36 ?_
      refine ll_gnight_canal (pc := 37) fl_X2_36 dX2_winner_37 ?_
      refine ll_gnow_voter (pc := 40) fl_X2_55 dX2_winner_40 ?_
      refine jx_iload_n (pc := 43) (k0 := 3) rfl dX2_winner_43 ?_
      obtain ⟨g7, h⟩ := jx_gd_o h
      refine ll_a_now_voter (pc := 44) (jx_in_o g7) dX2_winner_44 ?_
      refine jx_iconst (pc := 45) (v := (3 : Int32)) (by decide) dX2_winner_45 ?_
      obtain ⟨g8, h⟩ := jx_gd_o h
      refine ll_l (pc := 46) (k := (8 + v3.toNatClampNeg)) (j := 3) (jx_in_o g8) (by decide) dX2_winner_46 ?_
      refine jx_iconst (pc := 47) (v := (1 : Int32)) (by decide) dX2_winner_47 ?_
      refine jx_icmp_ne (pc := 48) (tgt := 60) dX2_winner_48 (by decide) (fun c9 => ?_) (fun c9 => ?_)
      · have h := jx_f c9 h
        refine jx_aload_n (pc := 60) (k0 := 0) rfl dX2_winner_60 ?_
        refine ll_gnight_worth (pc := 61) fl_X2_33 dX2_winner_61 ?_
        refine jx_iload_n (pc := 64) (k0 := 3) rfl dX2_winner_64 ?_
        obtain ⟨g10, h⟩ := jx_gd_o h
        refine ll_l (pc := 65) (k := 59) (jx_in_o g10) rfl dX2_winner_65 ?_
        refine jx_ineg (pc := 66) dX2_winner_66 ?_
        exact jx_sub [0, 1, 3] rfl (jb_X2_winner_67 l G t hG sz σ0 out k4 h4 σ v1 v3 (-(σ 59 v3.toNatClampNeg)) v2 e0 h)
      · have h := jx_t c9 h
        refine jx_aload_n (pc := 51) (k0 := 0) rfl dX2_winner_51 ?_
        refine ll_gnight_worth (pc := 52) fl_X2_33 dX2_winner_52 ?_
        refine jx_iload_n (pc := 55) (k0 := 3) rfl dX2_winner_55 ?_
        obtain ⟨g11, h⟩ := jx_gd_o h
        refine ll_l (pc := 56) (k := 59) (jx_in_o g11) rfl dX2_winner_56 ?_
        refine jx_goto (pc := 57) (tgt := 67) dX2_winner_57 (by decide) ?_
        exact jx_sub [0, 1, 3] rfl (jb_X2_winner_67 l G t hG sz σ0 out k4 h4 σ v1 v3 (σ 59 v3.toNatClampNeg) v2 e0 h)
def b_X2_winner_4 (t : jx_T)  : Nat → jx_M → Int32 → Int32 → Int32 → Option Int32
  | 0, _, _, _, _ => none
  | n + 1, σ, v1, v2, v3 => g_X2_winner_4 t (b_X2_winner_4 t n) σ v1 v2 v3
theorem jb_X2_winner_4 (l : Launch) (G : jx_G) (t : jx_T) (hG : ll_ok G) (sz : Nat) (σ0 : jx_M) (out : Int32)  : ∀ (n : Nat) (σ : jx_M) (v1 : Int32) (v2 : Int32) (v3 : Int32), σ = σ0 → b_X2_winner_4 t n σ v1 v2 v3 = some out → jJ_X2_winner l G t sz σ0 out 4 [(0, .ref (G.2 23)), (1, .int v1), (2, .int v2), (3, .int v3)] [] σ := by
  intro n
  induction n with
  | zero =>
    intro σ v1 v2 v3 e0 h
    cases h
  | succ n ih =>
    intro σ v1 v2 v3 e0 h
    exact jg_X2_winner_4 l G t hG sz σ0 out (b_X2_winner_4 t n) ih σ v1 v2 v3 e0 h
def f_X2_winner (t : jx_T) (σ : jx_M) (a1 : Int32) : Option Int32 :=
  (b_X2_winner_4 t jx_fuel σ a1 (0 : Int32) (0 : Int32))
set_option maxHeartbeats 4000000 in
set_option maxRecDepth 100000 in
theorem k_X2_winner (l : Launch) (G : jx_G) (t : jx_T) (hG : ll_ok G) (sz : Nat) (σ : jx_M) (a1 : Int32) (out : Int32) (h : f_X2_winner t σ a1 = some out) : Met l yX2_winner (Cond.code yX2_winner cX2_winner 4 (some .int) :: jx_ws) rm_X2_winner (jx_Pc (ll_env G t) (ll_dyn G t) (ll_rg G) sz σ [.ref (G.2 23), .int a1]) (jx_Qi (ll_dyn G t) σ out (jx_A (ll_rg G) sz)) 0 0 (jx_A (ll_rg G) sz) := by
  unfold f_X2_winner at h
  refine jx_met (by decide) (Nat.le_of_ble_eq_true rfl) ?_
  refine jx_sub (lv' := [(0, .ref (G.2 23)), (1, .int a1)]) [0, 1] rfl ?_
  refine jx_iconst (pc := 0) (v := (0 : Int32)) (by decide) dX2_winner_0 ?_
  refine jx_istore_n (pc := 1) (i := 2) rfl rfl (by decide) (lv' := [(2, .int (0 : Int32)), (0, .ref (G.2 23)), (1, .int a1)]) rfl dX2_winner_1 ?_
  refine jx_iconst (pc := 2) (v := (0 : Int32)) (by decide) dX2_winner_2 ?_
  refine jx_istore_n (pc := 3) (i := 3) rfl rfl (by decide) (lv' := [(3, .int (0 : Int32)), (2, .int (0 : Int32)), (0, .ref (G.2 23)), (1, .int a1)]) rfl dX2_winner_3 ?_
  exact jx_sub [2, 3, 1, 0] rfl (jb_X2_winner_4 l G t hG sz σ out jx_fuel σ a1 (0 : Int32) (0 : Int32) rfl h)
theorem dX2_countLamps_0 : decode cX2_countLamps 0 = .ok (.aload_n 0, 1) := by decide +kernel
theorem dX2_countLamps_1 : decode cX2_countLamps 1 = .ok (.getfield 23, 3) := by decide +kernel
theorem dX2_countLamps_4 : decode cX2_countLamps 4 = .ok (.iconst 0, 1) := by decide +kernel
theorem dX2_countLamps_5 : decode cX2_countLamps 5 = .ok (.invokestatic 124, 3) := by decide +kernel
theorem dX2_countLamps_8 : decode cX2_countLamps 8 = .ok (.iconst 0, 1) := by decide +kernel
theorem dX2_countLamps_9 : decode cX2_countLamps 9 = .ok (.istore_n 1, 1) := by decide +kernel
theorem dX2_countLamps_10 : decode cX2_countLamps 10 = .ok (.iload_n 1, 1) := by decide +kernel
theorem dX2_countLamps_11 : decode cX2_countLamps 11 = .ok (.aload_n 0, 1) := by decide +kernel
theorem dX2_countLamps_12 : decode cX2_countLamps 12 = .ok (.getfield 36, 3) := by decide +kernel
theorem dX2_countLamps_15 : decode cX2_countLamps 15 = .ok (.getfield 74, 3) := by decide +kernel
theorem dX2_countLamps_18 : decode cX2_countLamps 18 = .ok (.if_icmp .ge 24, 3) := by decide +kernel
theorem dX2_countLamps_21 : decode cX2_countLamps 21 = .ok (.aload_n 0, 1) := by decide +kernel
theorem dX2_countLamps_22 : decode cX2_countLamps 22 = .ok (.getfield 23, 3) := by decide +kernel
theorem dX2_countLamps_25 : decode cX2_countLamps 25 = .ok (.aload_n 0, 1) := by decide +kernel
theorem dX2_countLamps_26 : decode cX2_countLamps 26 = .ok (.getfield 30, 3) := by decide +kernel
theorem dX2_countLamps_29 : decode cX2_countLamps 29 = .ok (.iload_n 1, 1) := by decide +kernel
theorem dX2_countLamps_30 : decode cX2_countLamps 30 = .ok (.iaload, 1) := by decide +kernel
theorem dX2_countLamps_31 : decode cX2_countLamps 31 = .ok (.dup2, 1) := by decide +kernel
theorem dX2_countLamps_32 : decode cX2_countLamps 32 = .ok (.iaload, 1) := by decide +kernel
theorem dX2_countLamps_33 : decode cX2_countLamps 33 = .ok (.iconst 1, 1) := by decide +kernel
theorem dX2_countLamps_34 : decode cX2_countLamps 34 = .ok (.iadd, 1) := by decide +kernel
theorem dX2_countLamps_35 : decode cX2_countLamps 35 = .ok (.iastore, 1) := by decide +kernel
theorem dX2_countLamps_36 : decode cX2_countLamps 36 = .ok (.iinc 1 1, 3) := by decide +kernel
theorem dX2_countLamps_39 : decode cX2_countLamps 39 = .ok (.goto (-29), 3) := by decide +kernel
theorem dX2_countLamps_42 : decode cX2_countLamps 42 = .ok (.return_, 1) := by decide +kernel
abbrev rm_X2_countLamps : Room := { frames := 1, cells := 0, slots := 0, locals := 23 }
abbrev jJ_X2_countLamps (l : Launch) (G : jx_G) (t : jx_T) (sz : Nat) (out : jx_M) (pc : Nat) (lv : List (Nat × Value)) (st : List Value) (σ : jx_M) : Prop := jx_J l (ll_env G t) (ll_dyn G t) (ll_rg G) sz RX2 "countLamps" cX2_countLamps 2 none rm_X2_countLamps (fun below args s => MQ below (jx_Qv (ll_dyn G t) out (jx_A (ll_rg G) sz)) args s 0 0 (jx_A (ll_rg G) sz)) 0 0 pc lv st σ
def g_X2_countLamps_10 (t : jx_T) (k10 : jx_M → Int32 → Option jx_M) (σ : jx_M) (v1 : Int32) : Option jx_M :=
  if (σ 0 2) ≤ v1 then some σ else jx_gd (jx_in v1 6) (jx_gd (jx_in (σ 58 v1.toNatClampNeg) 7) (jx_gd (jx_in (σ 58 v1.toNatClampNeg) 7) (jx_lt (jx_mu σ 57 (σ 58 v1.toNatClampNeg).toNatClampNeg ((σ 57 (σ 58 v1.toNatClampNeg).toNatClampNeg) + (1 : Int32))) (fun σ5 => jx_lt (v1 + (1 : Int32)) (fun x6 => (k10 σ5 x6))))))
set_option maxHeartbeats 4000000 in
set_option maxRecDepth 100000 in
theorem jg_X2_countLamps_10 (l : Launch) (G : jx_G) (t : jx_T) (hG : ll_ok G) (sz : Nat) (out : jx_M) (k10 : jx_M → Int32 → Option jx_M) (h10 : ∀ (σ : jx_M) (v1 : Int32), k10 σ v1 = some out → jJ_X2_countLamps l G t sz out 10 [(0, .ref (G.2 23)), (1, .int v1)] [] σ) (σ : jx_M) (v1 : Int32) (h : g_X2_countLamps_10 t k10 σ v1 = some out) : jJ_X2_countLamps l G t sz out 10 [(0, .ref (G.2 23)), (1, .int v1)] [] σ := by
  unfold g_X2_countLamps_10 at h
  refine jx_iload_n (pc := 10) (k0 := 1) rfl dX2_countLamps_10 ?_
  refine jx_aload_n (pc := 11) (k0 := 0) rfl dX2_countLamps_11 ?_
  refine ll_gnight_canal (pc := 12) fl_X2_36 dX2_countLamps_12 ?_
  refine ll_gnow_voters (pc := 15) fl_X2_74 dX2_countLamps_15 ?_
  refine jx_icmp_ge (pc := 18) (tgt := 42) dX2_countLamps_18 (by decide) (fun c1 => ?_) (fun c1 => ?_)
  · have h := jx_t c1 h
    cases h
    exact jx_vret (pc := 42) dX2_countLamps_42
  · have h := jx_f c1 h
    refine jx_aload_n (pc := 21) (k0 := 0) rfl dX2_countLamps_21 ?_
    refine ll_gnight_lamps (pc := 22) fl_X2_23 dX2_countLamps_22 ?_
    refine jx_aload_n (pc := 25) (k0 := 0) rfl dX2_countLamps_25 ?_
    refine ll_gnight_lie (pc := 26) fl_X2_30 dX2_countLamps_26 ?_
    refine jx_iload_n (pc := 29) (k0 := 1) rfl dX2_countLamps_29 ?_
    obtain ⟨g2, h⟩ := jx_gd_o h
    refine ll_l (pc := 30) (k := 58) (jx_in_o g2) rfl dX2_countLamps_30 ?_
    refine jx_dup2 (pc := 31) rfl rfl dX2_countLamps_31 ?_
    obtain ⟨g3, h⟩ := jx_gd_o h
    refine ll_l (pc := 32) (k := 57) (jx_in_o g3) rfl dX2_countLamps_32 ?_
    refine jx_iconst (pc := 33) (v := (1 : Int32)) (by decide) dX2_countLamps_33 ?_
    refine jx_iadd (pc := 34) dX2_countLamps_34 ?_
    obtain ⟨g4, h⟩ := jx_gd_o h
    obtain ⟨σ5, eσ5, h⟩ := jx_lt_o h
    refine ll_s (pc := 35) (k := 57) hG (jx_in_o g4) rfl eσ5 dX2_countLamps_35 ?_
    obtain ⟨x6, ex6, h⟩ := jx_lt_o h
    refine jx_iinc (pc := 36) (i := 1) (v := v1) rfl ex6 (n := 1) (by decide) (by decide) (lv' := [(1, .int x6), (0, .ref (G.2 23))]) rfl dX2_countLamps_36 ?_
    refine jx_goto (pc := 39) (tgt := 10) dX2_countLamps_39 (by decide) ?_
    exact jx_sub [1, 0] rfl (h10 σ5 x6 h)
def b_X2_countLamps_10 (t : jx_T)  : Nat → jx_M → Int32 → Option jx_M
  | 0, _, _ => none
  | n + 1, σ, v1 => g_X2_countLamps_10 t (b_X2_countLamps_10 t n) σ v1
theorem jb_X2_countLamps_10 (l : Launch) (G : jx_G) (t : jx_T) (hG : ll_ok G) (sz : Nat) (out : jx_M)  : ∀ (n : Nat) (σ : jx_M) (v1 : Int32), b_X2_countLamps_10 t n σ v1 = some out → jJ_X2_countLamps l G t sz out 10 [(0, .ref (G.2 23)), (1, .int v1)] [] σ := by
  intro n
  induction n with
  | zero =>
    intro σ v1 h
    cases h
  | succ n ih =>
    intro σ v1 h
    exact jg_X2_countLamps_10 l G t hG sz out (b_X2_countLamps_10 t n) ih σ v1 h
def f_X2_countLamps (t : jx_T) (σ : jx_M)  : Option jx_M :=
  jx_bd (f_J7_fill_53178 t σ 57 (0 : Int32)) (fun q1 => (b_X2_countLamps_10 t jx_fuel q1 (0 : Int32)))
set_option maxHeartbeats 4000000 in
set_option maxRecDepth 100000 in
theorem k_X2_countLamps (l : Launch) (G : jx_G) (t : jx_T) (hG : ll_ok G) (sz : Nat) (σ : jx_M)  (out : jx_M) (h : f_X2_countLamps t σ = some out) : Met l yX2_countLamps (Cond.code yX2_countLamps cX2_countLamps 2 none :: jx_ws) rm_X2_countLamps (jx_Pc (ll_env G t) (ll_dyn G t) (ll_rg G) sz σ [.ref (G.2 23)]) (jx_Qv (ll_dyn G t) out (jx_A (ll_rg G) sz)) 0 0 (jx_A (ll_rg G) sz) := by
  unfold f_X2_countLamps at h
  refine jx_met (by decide) (Nat.le_of_ble_eq_true rfl) ?_
  refine jx_sub (lv' := [(0, .ref (G.2 23))]) [0] rfl ?_
  refine jx_aload_n (pc := 0) (k0 := 0) rfl dX2_countLamps_0 ?_
  refine ll_gnight_lamps (pc := 1) fl_X2_23 dX2_countLamps_1 ?_
  refine jx_iconst (pc := 4) (v := (0 : Int32)) (by decide) dX2_countLamps_4 ?_
  obtain ⟨q1, eq1, h⟩ := jx_bd_o h
  refine jx_callSv (pc := 5) [.ref (G.2 157), .int (0 : Int32)] (fun sz' => k_J7_fill_53178 l G t hG sz' σ 57 (0 : Int32) q1 eq1) ks_X2_124 ll_jok rfl rfl (Nat.le_of_ble_eq_true rfl) ⟨⟨rfl, rfl⟩, ⟨Nat.le_of_ble_eq_true rfl, Nat.le_of_ble_eq_true rfl⟩, Nat.zero_le _, Nat.zero_le _⟩ dX2_countLamps_5 ?_
  refine jx_iconst (pc := 8) (v := (0 : Int32)) (by decide) dX2_countLamps_8 ?_
  refine jx_istore_n (pc := 9) (i := 1) rfl rfl (by decide) (lv' := [(1, .int (0 : Int32)), (0, .ref (G.2 23))]) rfl dX2_countLamps_9 ?_
  exact jx_sub [1, 0] rfl (jb_X2_countLamps_10 l G t hG sz out jx_fuel q1 (0 : Int32) h)
theorem dX2_fairest_0 : decode cX2_fairest 0 = .ok (.iconst 0, 1) := by decide +kernel
theorem dX2_fairest_1 : decode cX2_fairest 1 = .ok (.istore_n 1, 1) := by decide +kernel
theorem dX2_fairest_2 : decode cX2_fairest 2 = .ok (.iconst 2, 1) := by decide +kernel
theorem dX2_fairest_3 : decode cX2_fairest 3 = .ok (.istore_n 2, 1) := by decide +kernel
theorem dX2_fairest_4 : decode cX2_fairest 4 = .ok (.iload_n 2, 1) := by decide +kernel
theorem dX2_fairest_5 : decode cX2_fairest 5 = .ok (.iconst 1, 1) := by decide +kernel
theorem dX2_fairest_6 : decode cX2_fairest 6 = .ok (.aload_n 0, 1) := by decide +kernel
theorem dX2_fairest_7 : decode cX2_fairest 7 = .ok (.getfield 36, 3) := by decide +kernel
theorem dX2_fairest_10 : decode cX2_fairest 10 = .ok (.getfield 40, 3) := by decide +kernel
theorem dX2_fairest_13 : decode cX2_fairest 13 = .ok (.ishl, 1) := by decide +kernel
theorem dX2_fairest_14 : decode cX2_fairest 14 = .ok (.if_icmp .ge 24, 3) := by decide +kernel
theorem dX2_fairest_17 : decode cX2_fairest 17 = .ok (.aload_n 0, 1) := by decide +kernel
theorem dX2_fairest_18 : decode cX2_fairest 18 = .ok (.iload_n 2, 1) := by decide +kernel
theorem dX2_fairest_19 : decode cX2_fairest 19 = .ok (.invokevirtual 146, 3) := by decide +kernel
theorem dX2_fairest_22 : decode cX2_fairest 22 = .ok (.aload_n 0, 1) := by decide +kernel
theorem dX2_fairest_23 : decode cX2_fairest 23 = .ok (.iload_n 1, 1) := by decide +kernel
theorem dX2_fairest_24 : decode cX2_fairest 24 = .ok (.invokevirtual 146, 3) := by decide +kernel
theorem dX2_fairest_27 : decode cX2_fairest 27 = .ok (.if_icmp .ge 5, 3) := by decide +kernel
theorem dX2_fairest_30 : decode cX2_fairest 30 = .ok (.iload_n 2, 1) := by decide +kernel
theorem dX2_fairest_31 : decode cX2_fairest 31 = .ok (.istore_n 1, 1) := by decide +kernel
theorem dX2_fairest_32 : decode cX2_fairest 32 = .ok (.iinc 2 2, 3) := by decide +kernel
theorem dX2_fairest_35 : decode cX2_fairest 35 = .ok (.goto (-31), 3) := by decide +kernel
theorem dX2_fairest_38 : decode cX2_fairest 38 = .ok (.iload_n 1, 1) := by decide +kernel
theorem dX2_fairest_39 : decode cX2_fairest 39 = .ok (.ireturn, 1) := by decide +kernel
abbrev rm_X2_fairest : Room := { frames := 2, cells := 0, slots := 0, locals := 44 }
abbrev jJ_X2_fairest (l : Launch) (G : jx_G) (t : jx_T) (sz : Nat) (σ0 : jx_M) (out : Int32) (pc : Nat) (lv : List (Nat × Value)) (st : List Value) (σ : jx_M) : Prop := jx_J l (ll_env G t) (ll_dyn G t) (ll_rg G) sz RX2 "fairest" cX2_fairest 3 (some .int) rm_X2_fairest (fun below args s => MQ below (jx_Qi (ll_dyn G t) σ0 out (jx_A (ll_rg G) sz)) args s 0 0 (jx_A (ll_rg G) sz)) 0 0 pc lv st σ
def b_X2_fairest_32 (t : jx_T) (k4 : jx_M → Int32 → Int32 → Option Int32) (σ : jx_M) (v1 : Int32) (v2 : Int32) : Option Int32 :=
  jx_lt (v2 + (2 : Int32)) (fun x1 => (k4 σ v1 x1))
set_option maxHeartbeats 4000000 in
set_option maxRecDepth 100000 in
theorem jb_X2_fairest_32 (l : Launch) (G : jx_G) (t : jx_T) (hG : ll_ok G) (sz : Nat) (σ0 : jx_M) (out : Int32) (k4 : jx_M → Int32 → Int32 → Option Int32) (h4 : ∀ (σ : jx_M) (v1 : Int32) (v2 : Int32), σ = σ0 → k4 σ v1 v2 = some out → jJ_X2_fairest l G t sz σ0 out 4 [(0, .ref (G.2 23)), (1, .int v1), (2, .int v2)] [] σ) (σ : jx_M) (v1 : Int32) (v2 : Int32) (e0 : σ = σ0) (h : b_X2_fairest_32 t k4 σ v1 v2 = some out) : jJ_X2_fairest l G t sz σ0 out 32 [(0, .ref (G.2 23)), (1, .int v1), (2, .int v2)] [] σ := by
  unfold b_X2_fairest_32 at h
  obtain ⟨x1, ex1, h⟩ := jx_lt_o h
  refine jx_iinc (pc := 32) (i := 2) (v := v2) rfl ex1 (n := 2) (by decide) (by decide) (lv' := [(2, .int x1), (0, .ref (G.2 23)), (1, .int v1)]) rfl dX2_fairest_32 ?_
  refine jx_goto (pc := 35) (tgt := 4) dX2_fairest_35 (by decide) ?_
  exact jx_sub [1, 2, 0] rfl (h4 σ v1 x1 e0 h)
def g_X2_fairest_4 (t : jx_T) (k4 : jx_M → Int32 → Int32 → Option Int32) (σ : jx_M) (v1 : Int32) (v2 : Int32) : Option Int32 :=
  if ((1 : Int32) <<< ((σ 0 0) &&& 31)) ≤ v2 then some v1 else jx_bd (f_X2_unfairness t σ v2) (fun q2 => jx_bd (f_X2_unfairness t σ v1) (fun q3 => if q3 ≤ q2 then (b_X2_fairest_32 t k4 σ v1 v2) else (b_X2_fairest_32 t k4 σ v2 v2)))
set_option maxHeartbeats 4000000 in
set_option maxRecDepth 100000 in
theorem jg_X2_fairest_4 (l : Launch) (G : jx_G) (t : jx_T) (hG : ll_ok G) (sz : Nat) (σ0 : jx_M) (out : Int32) (k4 : jx_M → Int32 → Int32 → Option Int32) (h4 : ∀ (σ : jx_M) (v1 : Int32) (v2 : Int32), σ = σ0 → k4 σ v1 v2 = some out → jJ_X2_fairest l G t sz σ0 out 4 [(0, .ref (G.2 23)), (1, .int v1), (2, .int v2)] [] σ) (σ : jx_M) (v1 : Int32) (v2 : Int32) (e0 : σ = σ0) (h : g_X2_fairest_4 t k4 σ v1 v2 = some out) : jJ_X2_fairest l G t sz σ0 out 4 [(0, .ref (G.2 23)), (1, .int v1), (2, .int v2)] [] σ := by
  unfold g_X2_fairest_4 at h
  refine jx_iload_n (pc := 4) (k0 := 2) rfl dX2_fairest_4 ?_
  refine jx_iconst (pc := 5) (v := (1 : Int32)) (by decide) dX2_fairest_5 ?_
  refine jx_aload_n (pc := 6) (k0 := 0) rfl dX2_fairest_6 ?_
  refine ll_gnight_canal (pc := 7) fl_X2_36 dX2_fairest_7 ?_
  refine ll_gnow_places (pc := 10) fl_X2_40 dX2_fairest_10 ?_
  refine jx_ishl (pc := 13) dX2_fairest_13 ?_
  refine jx_icmp_ge (pc := 14) (tgt := 38) dX2_fairest_14 (by decide) (fun c1 => ?_) (fun c1 => ?_)
  · have h := jx_t c1 h
    refine jx_iload_n (pc := 38) (k0 := 1) rfl dX2_fairest_38 ?_
    subst e0
    cases h
    exact jx_iret (pc := 39) dX2_fairest_39
  · have h := jx_f c1 h
    refine jx_aload_n (pc := 17) (k0 := 0) rfl dX2_fairest_17 ?_
    refine jx_iload_n (pc := 18) (k0 := 2) rfl dX2_fairest_18 ?_
    obtain ⟨q2, eq2, h⟩ := jx_bd_o h
    refine jx_callVi (pc := 19) [.int v2] (fun sz' => k_X2_unfairness l G t hG sz' σ v2 q2 eq2) kv_X2_146 ll_jok ll_rcnight rfl rfl (Nat.le_of_ble_eq_true rfl) ⟨⟨rfl, rfl⟩, ⟨Nat.le_of_ble_eq_true rfl, Nat.le_of_ble_eq_true rfl⟩, Nat.zero_le _, Nat.zero_le _⟩ dX2_fairest_19 ?_
    refine jx_aload_n (pc := 22) (k0 := 0) rfl dX2_fairest_22 ?_
    refine jx_iload_n (pc := 23) (k0 := 1) rfl dX2_fairest_23 ?_
    obtain ⟨q3, eq3, h⟩ := jx_bd_o h
    refine jx_callVi (pc := 24) [.int v1] (fun sz' => k_X2_unfairness l G t hG sz' σ v1 q3 eq3) kv_X2_146 ll_jok ll_rcnight rfl rfl (Nat.le_of_ble_eq_true rfl) ⟨⟨rfl, rfl⟩, ⟨Nat.le_of_ble_eq_true rfl, Nat.le_of_ble_eq_true rfl⟩, Nat.zero_le _, Nat.zero_le _⟩ dX2_fairest_24 ?_
    refine jx_icmp_ge (pc := 27) (tgt := 32) dX2_fairest_27 (by decide) (fun c4 => ?_) (fun c4 => ?_)
    · have h := jx_t c4 h
      exact jx_sub [0, 1, 2] rfl (jb_X2_fairest_32 l G t hG sz σ0 out k4 h4 σ v1 v2 e0 h)
    · have h := jx_f c4 h
      refine jx_iload_n (pc := 30) (k0 := 2) rfl dX2_fairest_30 ?_
      refine jx_istore_n (pc := 31) (i := 1) rfl rfl (by decide) (lv' := [(1, .int v2), (0, .ref (G.2 23)), (2, .int v2)]) rfl dX2_fairest_31 ?_
      exact jx_sub [1, 0, 2] rfl (jb_X2_fairest_32 l G t hG sz σ0 out k4 h4 σ v2 v2 e0 h)
def b_X2_fairest_4 (t : jx_T)  : Nat → jx_M → Int32 → Int32 → Option Int32
  | 0, _, _, _ => none
  | n + 1, σ, v1, v2 => g_X2_fairest_4 t (b_X2_fairest_4 t n) σ v1 v2
theorem jb_X2_fairest_4 (l : Launch) (G : jx_G) (t : jx_T) (hG : ll_ok G) (sz : Nat) (σ0 : jx_M) (out : Int32)  : ∀ (n : Nat) (σ : jx_M) (v1 : Int32) (v2 : Int32), σ = σ0 → b_X2_fairest_4 t n σ v1 v2 = some out → jJ_X2_fairest l G t sz σ0 out 4 [(0, .ref (G.2 23)), (1, .int v1), (2, .int v2)] [] σ := by
  intro n
  induction n with
  | zero =>
    intro σ v1 v2 e0 h
    cases h
  | succ n ih =>
    intro σ v1 v2 e0 h
    exact jg_X2_fairest_4 l G t hG sz σ0 out (b_X2_fairest_4 t n) ih σ v1 v2 e0 h
def f_X2_fairest (t : jx_T) (σ : jx_M)  : Option Int32 :=
  (b_X2_fairest_4 t jx_fuel σ (0 : Int32) (2 : Int32))
set_option maxHeartbeats 4000000 in
set_option maxRecDepth 100000 in
theorem k_X2_fairest (l : Launch) (G : jx_G) (t : jx_T) (hG : ll_ok G) (sz : Nat) (σ : jx_M)  (out : Int32) (h : f_X2_fairest t σ = some out) : Met l yX2_fairest (Cond.code yX2_fairest cX2_fairest 3 (some .int) :: jx_ws) rm_X2_fairest (jx_Pc (ll_env G t) (ll_dyn G t) (ll_rg G) sz σ [.ref (G.2 23)]) (jx_Qi (ll_dyn G t) σ out (jx_A (ll_rg G) sz)) 0 0 (jx_A (ll_rg G) sz) := by
  unfold f_X2_fairest at h
  refine jx_met (by decide) (Nat.le_of_ble_eq_true rfl) ?_
  refine jx_sub (lv' := [(0, .ref (G.2 23))]) [0] rfl ?_
  refine jx_iconst (pc := 0) (v := (0 : Int32)) (by decide) dX2_fairest_0 ?_
  refine jx_istore_n (pc := 1) (i := 1) rfl rfl (by decide) (lv' := [(1, .int (0 : Int32)), (0, .ref (G.2 23))]) rfl dX2_fairest_1 ?_
  refine jx_iconst (pc := 2) (v := (2 : Int32)) (by decide) dX2_fairest_2 ?_
  refine jx_istore_n (pc := 3) (i := 2) rfl rfl (by decide) (lv' := [(2, .int (2 : Int32)), (1, .int (0 : Int32)), (0, .ref (G.2 23))]) rfl dX2_fairest_3 ?_
  exact jx_sub [2, 1, 0] rfl (jb_X2_fairest_4 l G t hG sz σ out jx_fuel σ (0 : Int32) (2 : Int32) rfl h)
