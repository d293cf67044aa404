/-! the class's methods: a function on the memory each, and its contract -/
theorem dX3_opensClause_0 : decode cX3_opensClause 0 = .ok (.aload_n 0, 1) := by decide +kernel
theorem dX3_opensClause_1 : decode cX3_opensClause 1 = .ok (.getfield 27, 3) := by decide +kernel
theorem dX3_opensClause_4 : decode cX3_opensClause 4 = .ok (.bipush 10, 2) := by decide +kernel
theorem dX3_opensClause_6 : decode cX3_opensClause 6 = .ok (.if_icmp .lt 5, 3) := by decide +kernel
theorem dX3_opensClause_9 : decode cX3_opensClause 9 = .ok (.iconst 0, 1) := by decide +kernel
theorem dX3_opensClause_10 : decode cX3_opensClause 10 = .ok (.ireturn, 1) := by decide +kernel
theorem dX3_opensClause_11 : decode cX3_opensClause 11 = .ok (.aload_n 0, 1) := by decide +kernel
theorem dX3_opensClause_12 : decode cX3_opensClause 12 = .ok (.getfield 11, 3) := by decide +kernel
theorem dX3_opensClause_15 : decode cX3_opensClause 15 = .ok (.aload_n 0, 1) := by decide +kernel
theorem dX3_opensClause_16 : decode cX3_opensClause 16 = .ok (.getfield 27, 3) := by decide +kernel
theorem dX3_opensClause_19 : decode cX3_opensClause 19 = .ok (.aload_n 0, 1) := by decide +kernel
theorem dX3_opensClause_20 : decode cX3_opensClause 20 = .ok (.getfield 101, 3) := by decide +kernel
theorem dX3_opensClause_23 : decode cX3_opensClause 23 = .ok (.iastore, 1) := by decide +kernel
theorem dX3_opensClause_24 : decode cX3_opensClause 24 = .ok (.aload_n 0, 1) := by decide +kernel
theorem dX3_opensClause_25 : decode cX3_opensClause 25 = .ok (.getfield 15, 3) := by decide +kernel
theorem dX3_opensClause_28 : decode cX3_opensClause 28 = .ok (.aload_n 0, 1) := by decide +kernel
theorem dX3_opensClause_29 : decode cX3_opensClause 29 = .ok (.getfield 27, 3) := by decide +kernel
theorem dX3_opensClause_32 : decode cX3_opensClause 32 = .ok (.iconst 0, 1) := by decide +kernel
theorem dX3_opensClause_33 : decode cX3_opensClause 33 = .ok (.iastore, 1) := by decide +kernel
theorem dX3_opensClause_34 : decode cX3_opensClause 34 = .ok (.iconst 1, 1) := by decide +kernel
theorem dX3_opensClause_35 : decode cX3_opensClause 35 = .ok (.ireturn, 1) := by decide +kernel
abbrev rm_X3_opensClause : Room := { frames := 0, cells := 0, slots := 0, locals := 0 }
abbrev jJ_X3_opensClause (l : Launch) (G : jx_G) (t : jx_T) (sz : Nat) (out : (Int32 × jx_M)) (pc : Nat) (lv : List (Nat × Value)) (st : List Value) (σ : jx_M) : Prop := jx_J l (ll_env G t) (ll_dyn G t) (ll_rg G) sz RX3 "opensClause" cX3_opensClause 1 (some .boolean) rm_X3_opensClause (fun below args s => MQ below (jx_Qi (ll_dyn G t) out.2 out.1 (jx_A (ll_rg G) sz)) args s 0 0 (jx_A (ll_rg G) sz)) 0 0 pc lv st σ
def f_X3_opensClause (t : jx_T) (σ : jx_M)  : Option (Int32 × jx_M) :=
  if (σ 0 30) < (10 : Int32) then jx_gd (jx_in (σ 0 30) 10) (jx_lt (jx_mu σ 61 (σ 0 30).toNatClampNeg (σ 0 35)) (fun σ3 => jx_gd (jx_in (σ3 0 30) 10) (jx_lt (jx_mu σ3 62 (σ3 0 30).toNatClampNeg (0 : Int32)) (fun σ5 => some ((1 : Int32), σ5))))) else some ((0 : Int32), σ)
set_option maxHeartbeats 4000000 in
set_option maxRecDepth 100000 in
theorem k_X3_opensClause (l : Launch) (G : jx_G) (t : jx_T) (hG : ll_ok G) (sz : Nat) (σ : jx_M)  (out : (Int32 × jx_M)) (h : f_X3_opensClause t σ = some out) : Met l yX3_opensClause (Cond.code yX3_opensClause cX3_opensClause 1 (some .boolean) :: jx_ws) rm_X3_opensClause (jx_Pc (ll_env G t) (ll_dyn G t) (ll_rg G) sz σ [.ref (G.2 25)]) (jx_Qi (ll_dyn G t) out.2 out.1 (jx_A (ll_rg G) sz)) 0 0 (jx_A (ll_rg G) sz) := by
  unfold f_X3_opensClause at h
  refine jx_met (by decide) (Nat.le_of_ble_eq_true rfl) ?_
  refine jx_sub (lv' := [(0, .ref (G.2 25))]) [0] rfl ?_
  refine jx_aload_n (pc := 0) (k0 := 0) rfl dX3_opensClause_0 ?_
  refine ll_greader_clauses (pc := 1) fl_X3_27 dX3_opensClause_1 ?_
  refine jx_bipush (pc := 4) (v := (10 : Int32)) (by decide) dX3_opensClause_4 ?_
  refine jx_icmp_lt (pc := 6) (tgt := 11) dX3_opensClause_6 (by decide) (fun c1 => ?_) (fun c1 => ?_)
  · have h := jx_t c1 h
    refine jx_aload_n (pc := 11) (k0 := 0) rfl dX3_opensClause_11 ?_
    refine ll_greader_words (pc := 12) fl_X3_11 dX3_opensClause_12 ?_
    refine jx_aload_n (pc := 15) (k0 := 0) rfl dX3_opensClause_15 ?_
    refine ll_greader_clauses (pc := 16) fl_X3_27 dX3_opensClause_16 ?_
    refine jx_aload_n (pc := 19) (k0 := 0) rfl dX3_opensClause_19 ?_
    refine ll_greader_word (pc := 20) fl_X3_101 dX3_opensClause_20 ?_
    obtain ⟨g2, h⟩ := jx_gd_o h
    obtain ⟨σ3, eσ3, h⟩ := jx_lt_o h
    refine ll_s (pc := 23) (k := 61) hG (jx_in_o g2) rfl eσ3 dX3_opensClause_23 ?_
    refine jx_aload_n (pc := 24) (k0 := 0) rfl dX3_opensClause_24 ?_
    refine ll_greader_amounts (pc := 25) fl_X3_15 dX3_opensClause_25 ?_
    refine jx_aload_n (pc := 28) (k0 := 0) rfl dX3_opensClause_28 ?_
    refine ll_greader_clauses (pc := 29) fl_X3_27 dX3_opensClause_29 ?_
    refine jx_iconst (pc := 32) (v := (0 : Int32)) (by decide) dX3_opensClause_32 ?_
    obtain ⟨g4, h⟩ := jx_gd_o h
    obtain ⟨σ5, eσ5, h⟩ := jx_lt_o h
    refine ll_s (pc := 33) (k := 62) hG (jx_in_o g4) rfl eσ5 dX3_opensClause_33 ?_
    refine jx_iconst (pc := 34) (v := (1 : Int32)) (by decide) dX3_opensClause_34 ?_
    have h := Option.some.inj h
    subst h
    exact jx_zret (pc := 35) (Or.inr rfl) dX3_opensClause_35
  · have h := jx_f c1 h
    refine jx_iconst (pc := 9) (v := (0 : Int32)) (by decide) dX3_opensClause_9 ?_
    have h := Option.some.inj h
    subst h
    exact jx_zret (pc := 10) (Or.inl rfl) dX3_opensClause_10
theorem dX3_takesDigit_0 : decode cX3_takesDigit 0 = .ok (.iload_n 1, 1) := by decide +kernel
theorem dX3_takesDigit_1 : decode cX3_takesDigit 1 = .ok (.bipush 48, 2) := by decide +kernel
theorem dX3_takesDigit_3 : decode cX3_takesDigit 3 = .ok (.if_icmp .lt 9, 3) := by decide +kernel
theorem dX3_takesDigit_6 : decode cX3_takesDigit 6 = .ok (.iload_n 1, 1) := by decide +kernel
theorem dX3_takesDigit_7 : decode cX3_takesDigit 7 = .ok (.bipush 57, 2) := by decide +kernel
theorem dX3_takesDigit_9 : decode cX3_takesDigit 9 = .ok (.if_icmp .le 5, 3) := by decide +kernel
theorem dX3_takesDigit_12 : decode cX3_takesDigit 12 = .ok (.iconst 0, 1) := by decide +kernel
theorem dX3_takesDigit_13 : decode cX3_takesDigit 13 = .ok (.ireturn, 1) := by decide +kernel
theorem dX3_takesDigit_14 : decode cX3_takesDigit 14 = .ok (.aload_n 0, 1) := by decide +kernel
theorem dX3_takesDigit_15 : decode cX3_takesDigit 15 = .ok (.iload_n 1, 1) := by decide +kernel
theorem dX3_takesDigit_16 : decode cX3_takesDigit 16 = .ok (.bipush 48, 2) := by decide +kernel
theorem dX3_takesDigit_18 : decode cX3_takesDigit 18 = .ok (.isub, 1) := by decide +kernel
theorem dX3_takesDigit_19 : decode cX3_takesDigit 19 = .ok (.putfield 114, 3) := by decide +kernel
theorem dX3_takesDigit_22 : decode cX3_takesDigit 22 = .ok (.aload_n 0, 1) := by decide +kernel
theorem dX3_takesDigit_23 : decode cX3_takesDigit 23 = .ok (.iload_n 2, 1) := by decide +kernel
theorem dX3_takesDigit_24 : decode cX3_takesDigit 24 = .ok (.putfield 40, 3) := by decide +kernel
theorem dX3_takesDigit_27 : decode cX3_takesDigit 27 = .ok (.iconst 1, 1) := by decide +kernel
theorem dX3_takesDigit_28 : decode cX3_takesDigit 28 = .ok (.ireturn, 1) := by decide +kernel
abbrev rm_X3_takesDigit : Room := { frames := 0, cells := 0, slots := 0, locals := 0 }
abbrev jJ_X3_takesDigit (l : Launch) (G : jx_G) (t : jx_T) (sz : Nat) (out : (Int32 × jx_M)) (pc : Nat) (lv : List (Nat × Value)) (st : List Value) (σ : jx_M) : Prop := jx_J l (ll_env G t) (ll_dyn G t) (ll_rg G) sz RX3 "takesDigit" cX3_takesDigit 3 (some .boolean) rm_X3_takesDigit (fun below args s => MQ below (jx_Qi (ll_dyn G t) out.2 out.1 (jx_A (ll_rg G) sz)) args s 0 0 (jx_A (ll_rg G) sz)) 0 0 pc lv st σ
def f_X3_takesDigit (t : jx_T) (σ : jx_M) (a1 : Int32) (a2 : Int32) : Option (Int32 × jx_M) :=
  if a1 < (48 : Int32) then some ((0 : Int32), σ) else if a1 ≤ (57 : Int32) then jx_lt (jx_mu σ 0 39 (a1 - (48 : Int32))) (fun σ3 => jx_lt (jx_mu σ3 0 34 a2) (fun σ4 => some ((1 : Int32), σ4))) else some ((0 : Int32), σ)
set_option maxHeartbeats 4000000 in
set_option maxRecDepth 100000 in
theorem k_X3_takesDigit (l : Launch) (G : jx_G) (t : jx_T) (hG : ll_ok G) (sz : Nat) (σ : jx_M) (a1 : Int32) (a2 : Int32) (out : (Int32 × jx_M)) (h : f_X3_takesDigit t σ a1 a2 = some out) : Met l yX3_takesDigit (Cond.code yX3_takesDigit cX3_takesDigit 3 (some .boolean) :: jx_ws) rm_X3_takesDigit (jx_Pc (ll_env G t) (ll_dyn G t) (ll_rg G) sz σ [.ref (G.2 25), .int a1, .int a2]) (jx_Qi (ll_dyn G t) out.2 out.1 (jx_A (ll_rg G) sz)) 0 0 (jx_A (ll_rg G) sz) := by
  unfold f_X3_takesDigit at h
  refine jx_met (by decide) (Nat.le_of_ble_eq_true rfl) ?_
  refine jx_sub (lv' := [(0, .ref (G.2 25)), (1, .int a1), (2, .int a2)]) [0, 1, 2] rfl ?_
  refine jx_iload_n (pc := 0) (k0 := 1) rfl dX3_takesDigit_0 ?_
  refine jx_bipush (pc := 1) (v := (48 : Int32)) (by decide) dX3_takesDigit_1 ?_
  refine jx_icmp_lt (pc := 3) (tgt := 12) dX3_takesDigit_3 (by decide) (fun c1 => ?_) (fun c1 => ?_)
  · have h := jx_t c1 h
    refine jx_iconst (pc := 12) (v := (0 : Int32)) (by decide) dX3_takesDigit_12 ?_
    have h := Option.some.inj h
    subst h
    exact jx_zret (pc := 13) (Or.inl rfl) dX3_takesDigit_13
  · have h := jx_f c1 h
    refine jx_iload_n (pc := 6) (k0 := 1) rfl dX3_takesDigit_6 ?_
    refine jx_bipush (pc := 7) (v := (57 : Int32)) (by decide) dX3_takesDigit_7 ?_
    refine jx_icmp_le (pc := 9) (tgt := 14) dX3_takesDigit_9 (by decide) (fun c2 => ?_) (fun c2 => ?_)
    · have h := jx_t c2 h
      refine jx_aload_n (pc := 14) (k0 := 0) rfl dX3_takesDigit_14 ?_
      refine jx_iload_n (pc := 15) (k0 := 1) rfl dX3_takesDigit_15 ?_
      refine jx_bipush (pc := 16) (v := (48 : Int32)) (by decide) dX3_takesDigit_16 ?_
      refine jx_isub (pc := 18) dX3_takesDigit_18 ?_
      obtain ⟨σ3, eσ3, h⟩ := jx_lt_o h
      refine ll_preader_number (pc := 19) hG fl_X3_114 eσ3 dX3_takesDigit_19 ?_
      refine jx_aload_n (pc := 22) (k0 := 0) rfl dX3_takesDigit_22 ?_
      refine jx_iload_n (pc := 23) (k0 := 2) rfl dX3_takesDigit_23 ?_
      obtain ⟨σ4, eσ4, h⟩ := jx_lt_o h
      refine ll_preader_due (pc := 24) hG fl_X3_40 eσ4 dX3_takesDigit_24 ?_
      refine jx_iconst (pc := 27) (v := (1 : Int32)) (by decide) dX3_takesDigit_27 ?_
      have h := Option.some.inj h
      subst h
      exact jx_zret (pc := 28) (Or.inr rfl) dX3_takesDigit_28
    · have h := jx_f c2 h
      refine jx_iconst (pc := 12) (v := (0 : Int32)) (by decide) dX3_takesDigit_12 ?_
      have h := Option.some.inj h
      subst h
      exact jx_zret (pc := 13) (Or.inl rfl) dX3_takesDigit_13
theorem dX3_takesSecondDigit_0 : decode cX3_takesSecondDigit 0 = .ok (.iload_n 1, 1) := by decide +kernel
theorem dX3_takesSecondDigit_1 : decode cX3_takesSecondDigit 1 = .ok (.bipush 48, 2) := by decide +kernel
theorem dX3_takesSecondDigit_3 : decode cX3_takesSecondDigit 3 = .ok (.if_icmp .lt 25, 3) := by decide +kernel
theorem dX3_takesSecondDigit_6 : decode cX3_takesSecondDigit 6 = .ok (.iload_n 1, 1) := by decide +kernel
theorem dX3_takesSecondDigit_7 : decode cX3_takesSecondDigit 7 = .ok (.bipush 57, 2) := by decide +kernel
theorem dX3_takesSecondDigit_9 : decode cX3_takesSecondDigit 9 = .ok (.if_icmp .gt 19, 3) := by decide +kernel
theorem dX3_takesSecondDigit_12 : decode cX3_takesSecondDigit 12 = .ok (.aload_n 0, 1) := by decide +kernel
theorem dX3_takesSecondDigit_13 : decode cX3_takesSecondDigit 13 = .ok (.getfield 114, 3) := by decide +kernel
theorem dX3_takesSecondDigit_16 : decode cX3_takesSecondDigit 16 = .ok (.ifCond .eq 12, 3) := by decide +kernel
theorem dX3_takesSecondDigit_19 : decode cX3_takesSecondDigit 19 = .ok (.aload_n 0, 1) := by decide +kernel
theorem dX3_takesSecondDigit_20 : decode cX3_takesSecondDigit 20 = .ok (.getfield 114, 3) := by decide +kernel
theorem dX3_takesSecondDigit_23 : decode cX3_takesSecondDigit 23 = .ok (.bipush 9, 2) := by decide +kernel
theorem dX3_takesSecondDigit_25 : decode cX3_takesSecondDigit 25 = .ok (.if_icmp .le 5, 3) := by decide +kernel
theorem dX3_takesSecondDigit_28 : decode cX3_takesSecondDigit 28 = .ok (.iconst 0, 1) := by decide +kernel
theorem dX3_takesSecondDigit_29 : decode cX3_takesSecondDigit 29 = .ok (.ireturn, 1) := by decide +kernel
theorem dX3_takesSecondDigit_30 : decode cX3_takesSecondDigit 30 = .ok (.aload_n 0, 1) := by decide +kernel
theorem dX3_takesSecondDigit_31 : decode cX3_takesSecondDigit 31 = .ok (.aload_n 0, 1) := by decide +kernel
theorem dX3_takesSecondDigit_32 : decode cX3_takesSecondDigit 32 = .ok (.getfield 114, 3) := by decide +kernel
theorem dX3_takesSecondDigit_35 : decode cX3_takesSecondDigit 35 = .ok (.bipush 10, 2) := by decide +kernel
theorem dX3_takesSecondDigit_37 : decode cX3_takesSecondDigit 37 = .ok (.imul, 1) := by decide +kernel
theorem dX3_takesSecondDigit_38 : decode cX3_takesSecondDigit 38 = .ok (.iload_n 1, 1) := by decide +kernel
theorem dX3_takesSecondDigit_39 : decode cX3_takesSecondDigit 39 = .ok (.iadd, 1) := by decide +kernel
theorem dX3_takesSecondDigit_40 : decode cX3_takesSecondDigit 40 = .ok (.bipush 48, 2) := by decide +kernel
theorem dX3_takesSecondDigit_42 : decode cX3_takesSecondDigit 42 = .ok (.isub, 1) := by decide +kernel
theorem dX3_takesSecondDigit_43 : decode cX3_takesSecondDigit 43 = .ok (.putfield 114, 3) := by decide +kernel
theorem dX3_takesSecondDigit_46 : decode cX3_takesSecondDigit 46 = .ok (.iconst 1, 1) := by decide +kernel
theorem dX3_takesSecondDigit_47 : decode cX3_takesSecondDigit 47 = .ok (.ireturn, 1) := by decide +kernel
abbrev rm_X3_takesSecondDigit : Room := { frames := 0, cells := 0, slots := 0, locals := 0 }
abbrev jJ_X3_takesSecondDigit (l : Launch) (G : jx_G) (t : jx_T) (sz : Nat) (out : (Int32 × jx_M)) (pc : Nat) (lv : List (Nat × Value)) (st : List Value) (σ : jx_M) : Prop := jx_J l (ll_env G t) (ll_dyn G t) (ll_rg G) sz RX3 "takesSecondDigit" cX3_takesSecondDigit 2 (some .boolean) rm_X3_takesSecondDigit (fun below args s => MQ below (jx_Qi (ll_dyn G t) out.2 out.1 (jx_A (ll_rg G) sz)) args s 0 0 (jx_A (ll_rg G) sz)) 0 0 pc lv st σ
def f_X3_takesSecondDigit (t : jx_T) (σ : jx_M) (a1 : Int32) : Option (Int32 × jx_M) :=
  if a1 < (48 : Int32) then some ((0 : Int32), σ) else if (57 : Int32) < a1 then some ((0 : Int32), σ) else if (σ 0 39) = 0 then some ((0 : Int32), σ) else if (σ 0 39) ≤ (9 : Int32) then jx_lt (jx_mu σ 0 39 ((((σ 0 39) * (10 : Int32)) + a1) - (48 : Int32))) (fun σ5 => some ((1 : Int32), σ5)) else some ((0 : Int32), σ)
set_option maxHeartbeats 4000000 in
set_option maxRecDepth 100000 in
theorem k_X3_takesSecondDigit (l : Launch) (G : jx_G) (t : jx_T) (hG : ll_ok G) (sz : Nat) (σ : jx_M) (a1 : Int32) (out : (Int32 × jx_M)) (h : f_X3_takesSecondDigit t σ a1 = some out) : Met l yX3_takesSecondDigit (Cond.code yX3_takesSecondDigit cX3_takesSecondDigit 2 (some .boolean) :: jx_ws) rm_X3_takesSecondDigit (jx_Pc (ll_env G t) (ll_dyn G t) (ll_rg G) sz σ [.ref (G.2 25), .int a1]) (jx_Qi (ll_dyn G t) out.2 out.1 (jx_A (ll_rg G) sz)) 0 0 (jx_A (ll_rg G) sz) := by
  unfold f_X3_takesSecondDigit at h
  refine jx_met (by decide) (Nat.le_of_ble_eq_true rfl) ?_
  refine jx_sub (lv' := [(0, .ref (G.2 25)), (1, .int a1)]) [0, 1] rfl ?_
  refine jx_iload_n (pc := 0) (k0 := 1) rfl dX3_takesSecondDigit_0 ?_
  refine jx_bipush (pc := 1) (v := (48 : Int32)) (by decide) dX3_takesSecondDigit_1 ?_
  refine jx_icmp_lt (pc := 3) (tgt := 28) dX3_takesSecondDigit_3 (by decide) (fun c1 => ?_) (fun c1 => ?_)
  · have h := jx_t c1 h
    refine jx_iconst (pc := 28) (v := (0 : Int32)) (by decide) dX3_takesSecondDigit_28 ?_
    have h := Option.some.inj h
    subst h
    exact jx_zret (pc := 29) (Or.inl rfl) dX3_takesSecondDigit_29
  · have h := jx_f c1 h
    refine jx_iload_n (pc := 6) (k0 := 1) rfl dX3_takesSecondDigit_6 ?_
    refine jx_bipush (pc := 7) (v := (57 : Int32)) (by decide) dX3_takesSecondDigit_7 ?_
    refine jx_icmp_gt (pc := 9) (tgt := 28) dX3_takesSecondDigit_9 (by decide) (fun c2 => ?_) (fun c2 => ?_)
    · have h := jx_t c2 h
      refine jx_iconst (pc := 28) (v := (0 : Int32)) (by decide) dX3_takesSecondDigit_28 ?_
      have h := Option.some.inj h
      subst h
      exact jx_zret (pc := 29) (Or.inl rfl) dX3_takesSecondDigit_29
    · have h := jx_f c2 h
      refine jx_aload_n (pc := 12) (k0 := 0) rfl dX3_takesSecondDigit_12 ?_
      refine ll_greader_number (pc := 13) fl_X3_114 dX3_takesSecondDigit_13 ?_
      refine jx_if_eq (pc := 16) (tgt := 28) dX3_takesSecondDigit_16 (by decide) (fun c3 => ?_) (fun c3 => ?_)
      · have h := jx_t c3 h
        refine jx_iconst (pc := 28) (v := (0 : Int32)) (by decide) dX3_takesSecondDigit_28 ?_
        have h := Option.some.inj h
        subst h
        exact jx_zret (pc := 29) (Or.inl rfl) dX3_takesSecondDigit_29
      · have h := jx_f c3 h
        refine jx_aload_n (pc := 19) (k0 := 0) rfl dX3_takesSecondDigit_19 ?_
        refine ll_greader_number (pc := 20) fl_X3_114 dX3_takesSecondDigit_20 ?_
        refine jx_bipush (pc := 23) (v := (9 : Int32)) (by decide) dX3_takesSecondDigit_23 ?_
        refine jx_icmp_le (pc := 25) (tgt := 30) dX3_takesSecondDigit_25 (by decide) (fun c4 => ?_) (fun c4 => ?_)
        · have h := jx_t c4 h
          refine jx_aload_n (pc := 30) (k0 := 0) rfl dX3_takesSecondDigit_30 ?_
          refine jx_aload_n (pc := 31) (k0 := 0) rfl dX3_takesSecondDigit_31 ?_
          refine ll_greader_number (pc := 32) fl_X3_114 dX3_takesSecondDigit_32 ?_
          refine jx_bipush (pc := 35) (v := (10 : Int32)) (by decide) dX3_takesSecondDigit_35 ?_
          refine jx_imul (pc := 37) dX3_takesSecondDigit_37 ?_
          refine jx_iload_n (pc := 38) (k0 := 1) rfl dX3_takesSecondDigit_38 ?_
          refine jx_iadd (pc := 39) dX3_takesSecondDigit_39 ?_
          refine jx_bipush (pc := 40) (v := (48 : Int32)) (by decide) dX3_takesSecondDigit_40 ?_
          refine jx_isub (pc := 42) dX3_takesSecondDigit_42 ?_
          obtain ⟨σ5, eσ5, h⟩ := jx_lt_o h
          refine ll_preader_number (pc := 43) hG fl_X3_114 eσ5 dX3_takesSecondDigit_43 ?_
          refine jx_iconst (pc := 46) (v := (1 : Int32)) (by decide) dX3_takesSecondDigit_46 ?_
          have h := Option.some.inj h
          subst h
          exact jx_zret (pc := 47) (Or.inr rfl) dX3_takesSecondDigit_47
        · have h := jx_f c4 h
          refine jx_iconst (pc := 28) (v := (0 : Int32)) (by decide) dX3_takesSecondDigit_28 ?_
          have h := Option.some.inj h
          subst h
          exact jx_zret (pc := 29) (Or.inl rfl) dX3_takesSecondDigit_29
theorem dX3_takesBlank_0 : decode cX3_takesBlank 0 = .ok (.aload_n 0, 1) := by decide +kernel
theorem dX3_takesBlank_1 : decode cX3_takesBlank 1 = .ok (.getfield 15, 3) := by decide +kernel
theorem dX3_takesBlank_4 : decode cX3_takesBlank 4 = .ok (.aload_n 0, 1) := by decide +kernel
theorem dX3_takesBlank_5 : decode cX3_takesBlank 5 = .ok (.getfield 27, 3) := by decide +kernel
theorem dX3_takesBlank_8 : decode cX3_takesBlank 8 = .ok (.aload_n 0, 1) := by decide +kernel
theorem dX3_takesBlank_9 : decode cX3_takesBlank 9 = .ok (.getfield 114, 3) := by decide +kernel
theorem dX3_takesBlank_12 : decode cX3_takesBlank 12 = .ok (.iastore, 1) := by decide +kernel
theorem dX3_takesBlank_13 : decode cX3_takesBlank 13 = .ok (.aload_n 0, 1) := by decide +kernel
theorem dX3_takesBlank_14 : decode cX3_takesBlank 14 = .ok (.iconst 4, 1) := by decide +kernel
theorem dX3_takesBlank_15 : decode cX3_takesBlank 15 = .ok (.putfield 40, 3) := by decide +kernel
theorem dX3_takesBlank_18 : decode cX3_takesBlank 18 = .ok (.iconst 1, 1) := by decide +kernel
theorem dX3_takesBlank_19 : decode cX3_takesBlank 19 = .ok (.ireturn, 1) := by decide +kernel
abbrev rm_X3_takesBlank : Room := { frames := 0, cells := 0, slots := 0, locals := 0 }
abbrev jJ_X3_takesBlank (l : Launch) (G : jx_G) (t : jx_T) (sz : Nat) (out : (Int32 × jx_M)) (pc : Nat) (lv : List (Nat × Value)) (st : List Value) (σ : jx_M) : Prop := jx_J l (ll_env G t) (ll_dyn G t) (ll_rg G) sz RX3 "takesBlank" cX3_takesBlank 1 (some .boolean) rm_X3_takesBlank (fun below args s => MQ below (jx_Qi (ll_dyn G t) out.2 out.1 (jx_A (ll_rg G) sz)) args s 0 0 (jx_A (ll_rg G) sz)) 0 0 pc lv st σ
def f_X3_takesBlank (t : jx_T) (σ : jx_M)  : Option (Int32 × jx_M) :=
  jx_gd (jx_in (σ 0 30) 10) (jx_lt (jx_mu σ 62 (σ 0 30).toNatClampNeg (σ 0 39)) (fun σ2 => jx_lt (jx_mu σ2 0 34 (4 : Int32)) (fun σ3 => some ((1 : Int32), σ3))))
set_option maxHeartbeats 4000000 in
set_option maxRecDepth 100000 in
theorem k_X3_takesBlank (l : Launch) (G : jx_G) (t : jx_T) (hG : ll_ok G) (sz : Nat) (σ : jx_M)  (out : (Int32 × jx_M)) (h : f_X3_takesBlank t σ = some out) : Met l yX3_takesBlank (Cond.code yX3_takesBlank cX3_takesBlank 1 (some .boolean) :: jx_ws) rm_X3_takesBlank (jx_Pc (ll_env G t) (ll_dyn G t) (ll_rg G) sz σ [.ref (G.2 25)]) (jx_Qi (ll_dyn G t) out.2 out.1 (jx_A (ll_rg G) sz)) 0 0 (jx_A (ll_rg G) sz) := by
  unfold f_X3_takesBlank at h
  refine jx_met (by decide) (Nat.le_of_ble_eq_true rfl) ?_
  refine jx_sub (lv' := [(0, .ref (G.2 25))]) [0] rfl ?_
  refine jx_aload_n (pc := 0) (k0 := 0) rfl dX3_takesBlank_0 ?_
  refine ll_greader_amounts (pc := 1) fl_X3_15 dX3_takesBlank_1 ?_
  refine jx_aload_n (pc := 4) (k0 := 0) rfl dX3_takesBlank_4 ?_
  refine ll_greader_clauses (pc := 5) fl_X3_27 dX3_takesBlank_5 ?_
  refine jx_aload_n (pc := 8) (k0 := 0) rfl dX3_takesBlank_8 ?_
  refine ll_greader_number (pc := 9) fl_X3_114 dX3_takesBlank_9 ?_
  obtain ⟨g1, h⟩ := jx_gd_o h
  obtain ⟨σ2, eσ2, h⟩ := jx_lt_o h
  refine ll_s (pc := 12) (k := 62) hG (jx_in_o g1) rfl eσ2 dX3_takesBlank_12 ?_
  refine jx_aload_n (pc := 13) (k0 := 0) rfl dX3_takesBlank_13 ?_
  refine jx_iconst (pc := 14) (v := (4 : Int32)) (by decide) dX3_takesBlank_14 ?_
  obtain ⟨σ3, eσ3, h⟩ := jx_lt_o h
  refine ll_preader_due (pc := 15) hG fl_X3_40 eσ3 dX3_takesBlank_15 ?_
  refine jx_iconst (pc := 18) (v := (1 : Int32)) (by decide) dX3_takesBlank_18 ?_
  have h := Option.some.inj h
  subst h
  exact jx_zret (pc := 19) (Or.inr rfl) dX3_takesBlank_19
theorem dX3_takesRelation_0 : decode cX3_takesRelation 0 = .ok (.aload_n 0, 1) := by decide +kernel
theorem dX3_takesRelation_1 : decode cX3_takesRelation 1 = .ok (.ldc 130, 2) := by decide +kernel
theorem dX3_takesRelation_3 : decode cX3_takesRelation 3 = .ok (.iload_n 1, 1) := by decide +kernel
theorem dX3_takesRelation_4 : decode cX3_takesRelation 4 = .ok (.i2c, 1) := by decide +kernel
theorem dX3_takesRelation_5 : decode cX3_takesRelation 5 = .ok (.invokevirtual 123, 3) := by decide +kernel
theorem dX3_takesRelation_8 : decode cX3_takesRelation 8 = .ok (.putfield 132, 3) := by decide +kernel
theorem dX3_takesRelation_11 : decode cX3_takesRelation 11 = .ok (.aload_n 0, 1) := by decide +kernel
theorem dX3_takesRelation_12 : decode cX3_takesRelation 12 = .ok (.bipush 6, 2) := by decide +kernel
theorem dX3_takesRelation_14 : decode cX3_takesRelation 14 = .ok (.putfield 40, 3) := by decide +kernel
theorem dX3_takesRelation_17 : decode cX3_takesRelation 17 = .ok (.aload_n 0, 1) := by decide +kernel
theorem dX3_takesRelation_18 : decode cX3_takesRelation 18 = .ok (.getfield 132, 3) := by decide +kernel
theorem dX3_takesRelation_21 : decode cX3_takesRelation 21 = .ok (.ifCond .lt 7, 3) := by decide +kernel
theorem dX3_takesRelation_24 : decode cX3_takesRelation 24 = .ok (.iconst 1, 1) := by decide +kernel
theorem dX3_takesRelation_25 : decode cX3_takesRelation 25 = .ok (.goto 4, 3) := by decide +kernel
theorem dX3_takesRelation_28 : decode cX3_takesRelation 28 = .ok (.iconst 0, 1) := by decide +kernel
theorem dX3_takesRelation_29 : decode cX3_takesRelation 29 = .ok (.ireturn, 1) := by decide +kernel
abbrev rm_X3_takesRelation : Room := { frames := 4, cells := 0, slots := 0, locals := 91 }
abbrev jJ_X3_takesRelation (l : Launch) (G : jx_G) (t : jx_T) (sz : Nat) (out : (Int32 × jx_M)) (pc : Nat) (lv : List (Nat × Value)) (st : List Value) (σ : jx_M) : Prop := jx_J l (ll_env G t) (ll_dyn G t) (ll_rg G) sz RX3 "takesRelation" cX3_takesRelation 2 (some .boolean) rm_X3_takesRelation (fun below args s => MQ below (jx_Qi (ll_dyn G t) out.2 out.1 (jx_A (ll_rg G) sz)) args s 0 0 (jx_A (ll_rg G) sz)) 0 0 pc lv st σ
def f_X3_takesRelation (t : jx_T) (σ : jx_M) (a1 : Int32) : Option (Int32 × jx_M) :=
  jx_bd (f_J0_indexOf_0f7a4 2 (a1.toUInt32 % 65536).toInt32) (fun q1 => jx_lt (jx_mu σ 0 38 q1) (fun σ2 => jx_lt (jx_mu σ2 0 34 (6 : Int32)) (fun σ3 => if (σ3 0 38) < 0 then some ((0 : Int32), σ3) else some ((1 : Int32), σ3))))
set_option maxHeartbeats 4000000 in
set_option maxRecDepth 100000 in
theorem k_X3_takesRelation (l : Launch) (G : jx_G) (t : jx_T) (hG : ll_ok G) (sz : Nat) (σ : jx_M) (a1 : Int32) (out : (Int32 × jx_M)) (h : f_X3_takesRelation t σ a1 = some out) : Met l yX3_takesRelation (Cond.code yX3_takesRelation cX3_takesRelation 2 (some .boolean) :: jx_ws) rm_X3_takesRelation (jx_Pc (ll_env G t) (ll_dyn G t) (ll_rg G) sz σ [.ref (G.2 25), .int a1]) (jx_Qi (ll_dyn G t) out.2 out.1 (jx_A (ll_rg G) sz)) 0 0 (jx_A (ll_rg G) sz) := by
  unfold f_X3_takesRelation at h
  refine jx_met (by decide) (Nat.le_of_ble_eq_true rfl) ?_
  refine jx_sub (lv' := [(0, .ref (G.2 25)), (1, .int a1)]) [0, 1] rfl ?_
  refine jx_aload_n (pc := 0) (k0 := 0) rfl dX3_takesRelation_0 ?_
  refine st_ldc_X3_130 (pc := 1) ll_hex dX3_takesRelation_1 ?_
  refine jx_iload_n (pc := 3) (k0 := 1) rfl dX3_takesRelation_3 ?_
  refine jx_i2c (pc := 4) dX3_takesRelation_4 ?_
  obtain ⟨q1, eq1, h⟩ := jx_bd_o h
  refine jx_callVi (pc := 5) [.int (a1.toUInt32 % 65536).toInt32] (fun sz' => k_J0_indexOf_0f7a4 l (ll_env G t) (ll_dyn G t) (ll_rg G) G ll_jok ll_hex sz' σ 2 (a1.toUInt32 % 65536).toInt32 q1 eq1) kv_X3_123 ll_jok (st_rc ll_hex (i := 2) (by decide)) rfl rfl (Nat.le_of_ble_eq_true rfl) ⟨⟨rfl, rfl⟩, ⟨Nat.le_of_ble_eq_true rfl, Nat.le_of_ble_eq_true rfl⟩, Nat.zero_le _, Nat.zero_le _⟩ dX3_takesRelation_5 ?_
  obtain ⟨σ2, eσ2, h⟩ := jx_lt_o h
  refine ll_preader_relation (pc := 8) hG fl_X3_132 eσ2 dX3_takesRelation_8 ?_
  refine jx_aload_n (pc := 11) (k0 := 0) rfl dX3_takesRelation_11 ?_
  refine jx_bipush (pc := 12) (v := (6 : Int32)) (by decide) dX3_takesRelation_12 ?_
  obtain ⟨σ3, eσ3, h⟩ := jx_lt_o h
  refine ll_preader_due (pc := 14) hG fl_X3_40 eσ3 dX3_takesRelation_14 ?_
  refine jx_aload_n (pc := 17) (k0 := 0) rfl dX3_takesRelation_17 ?_
  refine ll_greader_relation (pc := 18) fl_X3_132 dX3_takesRelation_18 ?_
  refine jx_if_lt (pc := 21) (tgt := 28) dX3_takesRelation_21 (by decide) (fun c4 => ?_) (fun c4 => ?_)
  · have h := jx_t c4 h
    refine jx_iconst (pc := 28) (v := (0 : Int32)) (by decide) dX3_takesRelation_28 ?_
    have h := Option.some.inj h
    subst h
    exact jx_zret (pc := 29) (Or.inl rfl) dX3_takesRelation_29
  · have h := jx_f c4 h
    refine jx_iconst (pc := 24) (v := (1 : Int32)) (by decide) dX3_takesRelation_24 ?_
    refine jx_goto (pc := 25) (tgt := 29) dX3_takesRelation_25 (by decide) ?_
    have h := Option.some.inj h
    subst h
    exact jx_zret (pc := 29) (Or.inr rfl) dX3_takesRelation_29
theorem dX3_isSo_0 : decode cX3_isSo 0 = .ok (.aload_n 0, 1) := by decide +kernel
theorem dX3_isSo_1 : decode cX3_isSo 1 = .ok (.getfield 132, 3) := by decide +kernel
theorem dX3_isSo_4 : decode cX3_isSo 4 = .ok (.lookupswitch 56 #[(0, 28), (1, 42)], 28) := by decide +kernel
theorem dX3_isSo_32 : decode cX3_isSo 32 = .ok (.iload_n 1, 1) := by decide +kernel
theorem dX3_isSo_33 : decode cX3_isSo 33 = .ok (.aload_n 0, 1) := by decide +kernel
theorem dX3_isSo_34 : decode cX3_isSo 34 = .ok (.getfield 114, 3) := by decide +kernel
theorem dX3_isSo_37 : decode cX3_isSo 37 = .ok (.if_icmp .ge 7, 3) := by decide +kernel
theorem dX3_isSo_40 : decode cX3_isSo 40 = .ok (.iconst 1, 1) := by decide +kernel
theorem dX3_isSo_41 : decode cX3_isSo 41 = .ok (.goto 4, 3) := by decide +kernel
theorem dX3_isSo_44 : decode cX3_isSo 44 = .ok (.iconst 0, 1) := by decide +kernel
theorem dX3_isSo_45 : decode cX3_isSo 45 = .ok (.ireturn, 1) := by decide +kernel
theorem dX3_isSo_46 : decode cX3_isSo 46 = .ok (.iload_n 1, 1) := by decide +kernel
theorem dX3_isSo_47 : decode cX3_isSo 47 = .ok (.aload_n 0, 1) := by decide +kernel
theorem dX3_isSo_48 : decode cX3_isSo 48 = .ok (.getfield 114, 3) := by decide +kernel
theorem dX3_isSo_51 : decode cX3_isSo 51 = .ok (.if_icmp .ne 7, 3) := by decide +kernel
theorem dX3_isSo_54 : decode cX3_isSo 54 = .ok (.iconst 1, 1) := by decide +kernel
theorem dX3_isSo_55 : decode cX3_isSo 55 = .ok (.goto 4, 3) := by decide +kernel
theorem dX3_isSo_58 : decode cX3_isSo 58 = .ok (.iconst 0, 1) := by decide +kernel
theorem dX3_isSo_59 : decode cX3_isSo 59 = .ok (.ireturn, 1) := by decide +kernel
theorem dX3_isSo_60 : decode cX3_isSo 60 = .ok (.iload_n 1, 1) := by decide +kernel
theorem dX3_isSo_61 : decode cX3_isSo 61 = .ok (.aload_n 0, 1) := by decide +kernel
theorem dX3_isSo_62 : decode cX3_isSo 62 = .ok (.getfield 114, 3) := by decide +kernel
theorem dX3_isSo_65 : decode cX3_isSo 65 = .ok (.if_icmp .le 7, 3) := by decide +kernel
theorem dX3_isSo_68 : decode cX3_isSo 68 = .ok (.iconst 1, 1) := by decide +kernel
theorem dX3_isSo_69 : decode cX3_isSo 69 = .ok (.goto 4, 3) := by decide +kernel
theorem dX3_isSo_72 : decode cX3_isSo 72 = .ok (.iconst 0, 1) := by decide +kernel
theorem dX3_isSo_73 : decode cX3_isSo 73 = .ok (.ireturn, 1) := by decide +kernel
abbrev rm_X3_isSo : Room := { frames := 0, cells := 0, slots := 0, locals := 0 }
abbrev jJ_X3_isSo (l : Launch) (G : jx_G) (t : jx_T) (sz : Nat) (σ0 : jx_M) (out : Int32) (pc : Nat) (lv : List (Nat × Value)) (st : List Value) (σ : jx_M) : Prop := jx_J l (ll_env G t) (ll_dyn G t) (ll_rg G) sz RX3 "isSo" cX3_isSo 2 (some .boolean) rm_X3_isSo (fun below args s => MQ below (jx_Qi (ll_dyn G t) σ0 out (jx_A (ll_rg G) sz)) args s 0 0 (jx_A (ll_rg G) sz)) 0 0 pc lv st σ
def f_X3_isSo (t : jx_T) (σ : jx_M) (a1 : Int32) : Option Int32 :=
  if (σ 0 38) = (0 : Int32) then if (σ 0 39) ≤ a1 then some (0 : Int32) else some (1 : Int32) else if (σ 0 38) = (1 : Int32) then if a1 = (σ 0 39) then some (1 : Int32) else some (0 : Int32) else if a1 ≤ (σ 0 39) then some (0 : Int32) else some (1 : Int32)
set_option maxHeartbeats 4000000 in
set_option maxRecDepth 100000 in
theorem k_X3_isSo (l : Launch) (G : jx_G) (t : jx_T) (hG : ll_ok G) (sz : Nat) (σ : jx_M) (a1 : Int32) (out : Int32) (h : f_X3_isSo t σ a1 = some out) : Met l yX3_isSo (Cond.code yX3_isSo cX3_isSo 2 (some .boolean) :: jx_ws) rm_X3_isSo (jx_Pc (ll_env G t) (ll_dyn G t) (ll_rg G) sz σ [.ref (G.2 25), .int a1]) (jx_Qi (ll_dyn G t) σ out (jx_A (ll_rg G) sz)) 0 0 (jx_A (ll_rg G) sz) := by
  unfold f_X3_isSo at h
  refine jx_met (by decide) (Nat.le_of_ble_eq_true rfl) ?_
  refine jx_sub (lv' := [(0, .ref (G.2 25)), (1, .int a1)]) [0, 1] rfl ?_
  refine jx_aload_n (pc := 0) (k0 := 0) rfl dX3_isSo_0 ?_
  refine ll_greader_relation (pc := 1) fl_X3_132 dX3_isSo_1 ?_
  by_cases c2 : (σ 0 38) = (0 : Int32)
  · have h := jx_t c2 h
    refine jx_look (pc := 4) (tgt := 32) dX3_isSo_4 (by decide) (off := 28) (by rw [c2]; decide) (by decide) ?_
    refine jx_iload_n (pc := 32) (k0 := 1) rfl dX3_isSo_32 ?_
    refine jx_aload_n (pc := 33) (k0 := 0) rfl dX3_isSo_33 ?_
    refine ll_greader_number (pc := 34) fl_X3_114 dX3_isSo_34 ?_
    refine jx_icmp_ge (pc := 37) (tgt := 44) dX3_isSo_37 (by decide) (fun c1 => ?_) (fun c1 => ?_)
    · have h := jx_t c1 h
      refine jx_iconst (pc := 44) (v := (0 : Int32)) (by decide) dX3_isSo_44 ?_
      have h := Option.some.inj h
      subst h
      exact jx_zret (pc := 45) (Or.inl rfl) dX3_isSo_45
    · have h := jx_f c1 h
      refine jx_iconst (pc := 40) (v := (1 : Int32)) (by decide) dX3_isSo_40 ?_
      refine jx_goto (pc := 41) (tgt := 45) dX3_isSo_41 (by decide) ?_
      have h := Option.some.inj h
      subst h
      exact jx_zret (pc := 45) (Or.inr rfl) dX3_isSo_45
  have h := jx_f c2 h
  by_cases c4 : (σ 0 38) = (1 : Int32)
  · have h := jx_t c4 h
    refine jx_look (pc := 4) (tgt := 46) dX3_isSo_4 (by decide) (off := 42) (by rw [c4]; decide) (by decide) ?_
    refine jx_iload_n (pc := 46) (k0 := 1) rfl dX3_isSo_46 ?_
    refine jx_aload_n (pc := 47) (k0 := 0) rfl dX3_isSo_47 ?_
    refine ll_greader_number (pc := 48) fl_X3_114 dX3_isSo_48 ?_
    refine jx_icmp_ne (pc := 51) (tgt := 58) dX3_isSo_51 (by decide) (fun c3 => ?_) (fun c3 => ?_)
    · have h := jx_f c3 h
      refine jx_iconst (pc := 58) (v := (0 : Int32)) (by decide) dX3_isSo_58 ?_
      have h := Option.some.inj h
      subst h
      exact jx_zret (pc := 59) (Or.inl rfl) dX3_isSo_59
    · have h := jx_t c3 h
      refine jx_iconst (pc := 54) (v := (1 : Int32)) (by decide) dX3_isSo_54 ?_
      refine jx_goto (pc := 55) (tgt := 59) dX3_isSo_55 (by decide) ?_
      have h := Option.some.inj h
      subst h
      exact jx_zret (pc := 59) (Or.inr rfl) dX3_isSo_59
  have h := jx_f c4 h
  refine jx_look (pc := 4) (tgt := 60) (off := 56) dX3_isSo_4 (by decide) ((lv_osw c2 (by decide)).trans ((lv_osw c4 (by decide)).trans rfl)) (by decide) ?_
  refine jx_iload_n (pc := 60) (k0 := 1) rfl dX3_isSo_60 ?_
  refine jx_aload_n (pc := 61) (k0 := 0) rfl dX3_isSo_61 ?_
  refine ll_greader_number (pc := 62) fl_X3_114 dX3_isSo_62 ?_
  refine jx_icmp_le (pc := 65) (tgt := 72) dX3_isSo_65 (by decide) (fun c5 => ?_) (fun c5 => ?_)
  · have h := jx_t c5 h
    refine jx_iconst (pc := 72) (v := (0 : Int32)) (by decide) dX3_isSo_72 ?_
    have h := Option.some.inj h
    subst h
    exact jx_zret (pc := 73) (Or.inl rfl) dX3_isSo_73
  · have h := jx_f c5 h
    refine jx_iconst (pc := 68) (v := (1 : Int32)) (by decide) dX3_isSo_68 ?_
    refine jx_goto (pc := 69) (tgt := 73) dX3_isSo_69 (by decide) ?_
    have h := Option.some.inj h
    subst h
    exact jx_zret (pc := 73) (Or.inr rfl) dX3_isSo_73
theorem dX3_pend_0 : decode cX3_pend 0 = .ok (.aload_n 0, 1) := by decide +kernel
theorem dX3_pend_1 : decode cX3_pend 1 = .ok (.getfield 34, 3) := by decide +kernel
theorem dX3_pend_4 : decode cX3_pend 4 = .ok (.bipush 17, 2) := by decide +kernel
theorem dX3_pend_6 : decode cX3_pend 6 = .ok (.if_icmp .ge 23, 3) := by decide +kernel
theorem dX3_pend_9 : decode cX3_pend 9 = .ok (.aload_n 0, 1) := by decide +kernel
theorem dX3_pend_10 : decode cX3_pend 10 = .ok (.getfield 24, 3) := by decide +kernel
theorem dX3_pend_13 : decode cX3_pend 13 = .ok (.aload_n 0, 1) := by decide +kernel
theorem dX3_pend_14 : decode cX3_pend 14 = .ok (.getfield 34, 3) := by decide +kernel
theorem dX3_pend_17 : decode cX3_pend 17 = .ok (.iload_n 1, 1) := by decide +kernel
theorem dX3_pend_18 : decode cX3_pend 18 = .ok (.iastore, 1) := by decide +kernel
theorem dX3_pend_19 : decode cX3_pend 19 = .ok (.aload_n 0, 1) := by decide +kernel
theorem dX3_pend_20 : decode cX3_pend 20 = .ok (.dup, 1) := by decide +kernel
theorem dX3_pend_21 : decode cX3_pend 21 = .ok (.getfield 34, 3) := by decide +kernel
theorem dX3_pend_24 : decode cX3_pend 24 = .ok (.iconst 1, 1) := by decide +kernel
theorem dX3_pend_25 : decode cX3_pend 25 = .ok (.iadd, 1) := by decide +kernel
theorem dX3_pend_26 : decode cX3_pend 26 = .ok (.putfield 34, 3) := by decide +kernel
theorem dX3_pend_29 : decode cX3_pend 29 = .ok (.return_, 1) := by decide +kernel
abbrev rm_X3_pend : Room := { frames := 0, cells := 0, slots := 0, locals := 0 }
abbrev jJ_X3_pend (l : Launch) (G : jx_G) (t : jx_T) (sz : Nat) (out : jx_M) (pc : Nat) (lv : List (Nat × Value)) (st : List Value) (σ : jx_M) : Prop := jx_J l (ll_env G t) (ll_dyn G t) (ll_rg G) sz RX3 "pend" cX3_pend 2 none rm_X3_pend (fun below args s => MQ below (jx_Qv (ll_dyn G t) out (jx_A (ll_rg G) sz)) args s 0 0 (jx_A (ll_rg G) sz)) 0 0 pc lv st σ
def f_X3_pend (t : jx_T) (σ : jx_M) (a1 : Int32) : Option jx_M :=
  if (17 : Int32) ≤ (σ 0 32) then some σ else jx_gd (jx_in (σ 0 32) 17) (jx_lt (jx_mu σ 65 (σ 0 32).toNatClampNeg a1) (fun σ3 => jx_lt (jx_mu σ3 0 32 ((σ3 0 32) + (1 : Int32))) (fun σ4 => some σ4)))
set_option maxHeartbeats 4000000 in
set_option maxRecDepth 100000 in
theorem k_X3_pend (l : Launch) (G : jx_G) (t : jx_T) (hG : ll_ok G) (sz : Nat) (σ : jx_M) (a1 : Int32) (out : jx_M) (h : f_X3_pend t σ a1 = some out) : Met l yX3_pend (Cond.code yX3_pend cX3_pend 2 none :: jx_ws) rm_X3_pend (jx_Pc (ll_env G t) (ll_dyn G t) (ll_rg G) sz σ [.ref (G.2 25), .int a1]) (jx_Qv (ll_dyn G t) out (jx_A (ll_rg G) sz)) 0 0 (jx_A (ll_rg G) sz) := by
  unfold f_X3_pend at h
  refine jx_met (by decide) (Nat.le_of_ble_eq_true rfl) ?_
  refine jx_sub (lv' := [(0, .ref (G.2 25)), (1, .int a1)]) [0, 1] rfl ?_
  refine jx_aload_n (pc := 0) (k0 := 0) rfl dX3_pend_0 ?_
  refine ll_greader_pended (pc := 1) fl_X3_34 dX3_pend_1 ?_
  refine jx_bipush (pc := 4) (v := (17 : Int32)) (by decide) dX3_pend_4 ?_
  refine jx_icmp_ge (pc := 6) (tgt := 29) dX3_pend_6 (by decide) (fun c1 => ?_) (fun c1 => ?_)
  · have h := jx_t c1 h
    have h := Option.some.inj h
    subst h
    exact jx_vret (pc := 29) dX3_pend_29
  · have h := jx_f c1 h
    refine jx_aload_n (pc := 9) (k0 := 0) rfl dX3_pend_9 ?_
    refine ll_greader_pending (pc := 10) fl_X3_24 dX3_pend_10 ?_
    refine jx_aload_n (pc := 13) (k0 := 0) rfl dX3_pend_13 ?_
    refine ll_greader_pended (pc := 14) fl_X3_34 dX3_pend_14 ?_
    refine jx_iload_n (pc := 17) (k0 := 1) rfl dX3_pend_17 ?_
    obtain ⟨g2, h⟩ := jx_gd_o h
    obtain ⟨σ3, eσ3, h⟩ := jx_lt_o h
    refine ll_s (pc := 18) (k := 65) hG (jx_in_o g2) rfl eσ3 dX3_pend_18 ?_
    refine jx_aload_n (pc := 19) (k0 := 0) rfl dX3_pend_19 ?_
    refine jx_dup (pc := 20) rfl dX3_pend_20 ?_
    refine ll_greader_pended (pc := 21) fl_X3_34 dX3_pend_21 ?_
    refine jx_iconst (pc := 24) (v := (1 : Int32)) (by decide) dX3_pend_24 ?_
    refine jx_iadd (pc := 25) dX3_pend_25 ?_
    obtain ⟨σ4, eσ4, h⟩ := jx_lt_o h
    refine ll_preader_pended (pc := 26) hG fl_X3_34 eσ4 dX3_pend_26 ?_
    have h := Option.some.inj h
    subst h
    exact jx_vret (pc := 29) dX3_pend_29
theorem dX3_write_0 : decode cX3_write 0 = .ok (.aload_n 0, 1) := by decide +kernel
theorem dX3_write_1 : decode cX3_write 1 = .ok (.getfield 31, 3) := by decide +kernel
theorem dX3_write_4 : decode cX3_write 4 = .ok (.bipush 100, 2) := by decide +kernel
theorem dX3_write_6 : decode cX3_write 6 = .ok (.if_icmp .ge 23, 3) := by decide +kernel
theorem dX3_write_9 : decode cX3_write 9 = .ok (.aload_n 0, 1) := by decide +kernel
theorem dX3_write_10 : decode cX3_write 10 = .ok (.getfield 21, 3) := by decide +kernel
theorem dX3_write_13 : decode cX3_write 13 = .ok (.aload_n 0, 1) := by decide +kernel
theorem dX3_write_14 : decode cX3_write 14 = .ok (.getfield 31, 3) := by decide +kernel
theorem dX3_write_17 : decode cX3_write 17 = .ok (.iload_n 1, 1) := by decide +kernel
theorem dX3_write_18 : decode cX3_write 18 = .ok (.iastore, 1) := by decide +kernel
theorem dX3_write_19 : decode cX3_write 19 = .ok (.aload_n 0, 1) := by decide +kernel
theorem dX3_write_20 : decode cX3_write 20 = .ok (.dup, 1) := by decide +kernel
theorem dX3_write_21 : decode cX3_write 21 = .ok (.getfield 31, 3) := by decide +kernel
theorem dX3_write_24 : decode cX3_write 24 = .ok (.iconst 1, 1) := by decide +kernel
theorem dX3_write_25 : decode cX3_write 25 = .ok (.iadd, 1) := by decide +kernel
theorem dX3_write_26 : decode cX3_write 26 = .ok (.putfield 31, 3) := by decide +kernel
theorem dX3_write_29 : decode cX3_write 29 = .ok (.return_, 1) := by decide +kernel
abbrev rm_X3_write : Room := { frames := 0, cells := 0, slots := 0, locals := 0 }
abbrev jJ_X3_write (l : Launch) (G : jx_G) (t : jx_T) (sz : Nat) (out : jx_M) (pc : Nat) (lv : List (Nat × Value)) (st : List Value) (σ : jx_M) : Prop := jx_J l (ll_env G t) (ll_dyn G t) (ll_rg G) sz RX3 "write" cX3_write 2 none rm_X3_write (fun below args s => MQ below (jx_Qv (ll_dyn G t) out (jx_A (ll_rg G) sz)) args s 0 0 (jx_A (ll_rg G) sz)) 0 0 pc lv st σ
def f_X3_write (t : jx_T) (σ : jx_M) (a1 : Int32) : Option jx_M :=
  if (100 : Int32) ≤ (σ 0 31) then some σ else jx_gd (jx_in (σ 0 31) 100) (jx_lt (jx_mu σ 64 (σ 0 31).toNatClampNeg a1) (fun σ3 => jx_lt (jx_mu σ3 0 31 ((σ3 0 31) + (1 : Int32))) (fun σ4 => some σ4)))
set_option maxHeartbeats 4000000 in
set_option maxRecDepth 100000 in
theorem k_X3_write (l : Launch) (G : jx_G) (t : jx_T) (hG : ll_ok G) (sz : Nat) (σ : jx_M) (a1 : Int32) (out : jx_M) (h : f_X3_write t σ a1 = some out) : Met l yX3_write (Cond.code yX3_write cX3_write 2 none :: jx_ws) rm_X3_write (jx_Pc (ll_env G t) (ll_dyn G t) (ll_rg G) sz σ [.ref (G.2 25), .int a1]) (jx_Qv (ll_dyn G t) out (jx_A (ll_rg G) sz)) 0 0 (jx_A (ll_rg G) sz) := by
  unfold f_X3_write at h
  refine jx_met (by decide) (Nat.le_of_ble_eq_true rfl) ?_
  refine jx_sub (lv' := [(0, .ref (G.2 25)), (1, .int a1)]) [0, 1] rfl ?_
  refine jx_aload_n (pc := 0) (k0 := 0) rfl dX3_write_0 ?_
  refine ll_greader_codes (pc := 1) fl_X3_31 dX3_write_1 ?_
  refine jx_bipush (pc := 4) (v := (100 : Int32)) (by decide) dX3_write_4 ?_
  refine jx_icmp_ge (pc := 6) (tgt := 29) dX3_write_6 (by decide) (fun c1 => ?_) (fun c1 => ?_)
  · have h := jx_t c1 h
    have h := Option.some.inj h
    subst h
    exact jx_vret (pc := 29) dX3_write_29
  · have h := jx_f c1 h
    refine jx_aload_n (pc := 9) (k0 := 0) rfl dX3_write_9 ?_
    refine ll_greader_code (pc := 10) fl_X3_21 dX3_write_10 ?_
    refine jx_aload_n (pc := 13) (k0 := 0) rfl dX3_write_13 ?_
    refine ll_greader_codes (pc := 14) fl_X3_31 dX3_write_14 ?_
    refine jx_iload_n (pc := 17) (k0 := 1) rfl dX3_write_17 ?_
    obtain ⟨g2, h⟩ := jx_gd_o h
    obtain ⟨σ3, eσ3, h⟩ := jx_lt_o h
    refine ll_s (pc := 18) (k := 64) hG (jx_in_o g2) rfl eσ3 dX3_write_18 ?_
    refine jx_aload_n (pc := 19) (k0 := 0) rfl dX3_write_19 ?_
    refine jx_dup (pc := 20) rfl dX3_write_20 ?_
    refine ll_greader_codes (pc := 21) fl_X3_31 dX3_write_21 ?_
    refine jx_iconst (pc := 24) (v := (1 : Int32)) (by decide) dX3_write_24 ?_
    refine jx_iadd (pc := 25) dX3_write_25 ?_
    obtain ⟨σ4, eσ4, h⟩ := jx_lt_o h
    refine ll_preader_codes (pc := 26) hG fl_X3_31 eσ4 dX3_write_26 ?_
    have h := Option.some.inj h
    subst h
    exact jx_vret (pc := 29) dX3_write_29
theorem dX4_holds_0 : decode cX4_holds 0 = .ok (.lconst 0, 1) := by decide +kernel
theorem dX4_holds_1 : decode cX4_holds 1 = .ok (.lstore_n 3, 1) := by decide +kernel
theorem dX4_holds_2 : decode cX4_holds 2 = .ok (.iload_n 1, 1) := by decide +kernel
theorem dX4_holds_3 : decode cX4_holds 3 = .ok (.ifCond .le 14, 3) := by decide +kernel
theorem dX4_holds_6 : decode cX4_holds 6 = .ok (.aload_n 0, 1) := by decide +kernel
theorem dX4_holds_7 : decode cX4_holds 7 = .ok (.getfield 18, 3) := by decide +kernel
theorem dX4_holds_10 : decode cX4_holds 10 = .ok (.iload_n 1, 1) := by decide +kernel
theorem dX4_holds_11 : decode cX4_holds 11 = .ok (.iconst 1, 1) := by decide +kernel
theorem dX4_holds_12 : decode cX4_holds 12 = .ok (.isub, 1) := by decide +kernel
theorem dX4_holds_13 : decode cX4_holds 13 = .ok (.iaload, 1) := by decide +kernel
theorem dX4_holds_14 : decode cX4_holds 14 = .ok (.goto 4, 3) := by decide +kernel
theorem dX4_holds_17 : decode cX4_holds 17 = .ok (.iconst 0, 1) := by decide +kernel
theorem dX4_holds_18 : decode cX4_holds 18 = .ok (.istore 5, 2) := by decide +kernel
theorem dX4_holds_20 : decode cX4_holds 20 = .ok (.iload 5, 2) := by decide +kernel
theorem dX4_holds_22 : decode cX4_holds 22 = .ok (.istore 6, 2) := by decide +kernel
theorem dX4_holds_24 : decode cX4_holds 24 = .ok (.iload 6, 2) := by decide +kernel
theorem dX4_holds_26 : decode cX4_holds 26 = .ok (.aload_n 0, 1) := by decide +kernel
theorem dX4_holds_27 : decode cX4_holds 27 = .ok (.getfield 18, 3) := by decide +kernel
theorem dX4_holds_30 : decode cX4_holds 30 = .ok (.iload_n 1, 1) := by decide +kernel
theorem dX4_holds_31 : decode cX4_holds 31 = .ok (.iaload, 1) := by decide +kernel
theorem dX4_holds_32 : decode cX4_holds 32 = .ok (.if_icmp .ge 99, 3) := by decide +kernel
theorem dX4_holds_35 : decode cX4_holds 35 = .ok (.iload 6, 2) := by decide +kernel
theorem dX4_holds_37 : decode cX4_holds 37 = .ok (.aload_n 0, 1) := by decide +kernel
theorem dX4_holds_38 : decode cX4_holds 38 = .ok (.getfield 21, 3) := by decide +kernel
theorem dX4_holds_41 : decode cX4_holds 41 = .ok (.arraylength, 1) := by decide +kernel
theorem dX4_holds_42 : decode cX4_holds 42 = .ok (.if_icmp .ge 89, 3) := by decide +kernel
theorem dX4_holds_45 : decode cX4_holds 45 = .ok (.aload_n 0, 1) := by decide +kernel
theorem dX4_holds_46 : decode cX4_holds 46 = .ok (.getfield 21, 3) := by decide +kernel
theorem dX4_holds_49 : decode cX4_holds 49 = .ok (.iload 6, 2) := by decide +kernel
theorem dX4_holds_51 : decode cX4_holds 51 = .ok (.iaload, 1) := by decide +kernel
theorem dX4_holds_52 : decode cX4_holds 52 = .ok (.istore 7, 2) := by decide +kernel
theorem dX4_holds_54 : decode cX4_holds 54 = .ok (.iload 7, 2) := by decide +kernel
theorem dX4_holds_56 : decode cX4_holds 56 = .ok (.iconst (-1), 1) := by decide +kernel
theorem dX4_holds_57 : decode cX4_holds 57 = .ok (.if_icmp .ne 10, 3) := by decide +kernel
theorem dX4_holds_60 : decode cX4_holds 60 = .ok (.lload_n 3, 1) := by decide +kernel
theorem dX4_holds_61 : decode cX4_holds 61 = .ok (.lconst 1, 1) := by decide +kernel
theorem dX4_holds_62 : decode cX4_holds 62 = .ok (.lxor, 1) := by decide +kernel
theorem dX4_holds_63 : decode cX4_holds 63 = .ok (.lstore_n 3, 1) := by decide +kernel
theorem dX4_holds_64 : decode cX4_holds 64 = .ok (.goto 61, 3) := by decide +kernel
theorem dX4_holds_67 : decode cX4_holds 67 = .ok (.iload 7, 2) := by decide +kernel
theorem dX4_holds_69 : decode cX4_holds 69 = .ok (.bipush (-2), 2) := by decide +kernel
theorem dX4_holds_71 : decode cX4_holds 71 = .ok (.if_icmp .ne 16, 3) := by decide +kernel
theorem dX4_holds_74 : decode cX4_holds 74 = .ok (.lload_n 3, 1) := by decide +kernel
theorem dX4_holds_75 : decode cX4_holds 75 = .ok (.iconst 1, 1) := by decide +kernel
theorem dX4_holds_76 : decode cX4_holds 76 = .ok (.lshr, 1) := by decide +kernel
theorem dX4_holds_77 : decode cX4_holds 77 = .ok (.lload_n 3, 1) := by decide +kernel
theorem dX4_holds_78 : decode cX4_holds 78 = .ok (.ldc2_w 28, 3) := by decide +kernel
theorem dX4_holds_81 : decode cX4_holds 81 = .ok (.lor, 1) := by decide +kernel
theorem dX4_holds_82 : decode cX4_holds 82 = .ok (.land, 1) := by decide +kernel
theorem dX4_holds_83 : decode cX4_holds 83 = .ok (.lstore_n 3, 1) := by decide +kernel
theorem dX4_holds_84 : decode cX4_holds 84 = .ok (.goto 41, 3) := by decide +kernel
theorem dX4_holds_87 : decode cX4_holds 87 = .ok (.iload 7, 2) := by decide +kernel
theorem dX4_holds_89 : decode cX4_holds 89 = .ok (.bipush (-3), 2) := by decide +kernel
theorem dX4_holds_91 : decode cX4_holds 91 = .ok (.if_icmp .ne 14, 3) := by decide +kernel
theorem dX4_holds_94 : decode cX4_holds 94 = .ok (.lload_n 3, 1) := by decide +kernel
theorem dX4_holds_95 : decode cX4_holds 95 = .ok (.iconst 1, 1) := by decide +kernel
theorem dX4_holds_96 : decode cX4_holds 96 = .ok (.lshr, 1) := by decide +kernel
theorem dX4_holds_97 : decode cX4_holds 97 = .ok (.lload_n 3, 1) := by decide +kernel
theorem dX4_holds_98 : decode cX4_holds 98 = .ok (.lconst 1, 1) := by decide +kernel
theorem dX4_holds_99 : decode cX4_holds 99 = .ok (.land, 1) := by decide +kernel
theorem dX4_holds_100 : decode cX4_holds 100 = .ok (.lor, 1) := by decide +kernel
theorem dX4_holds_101 : decode cX4_holds 101 = .ok (.lstore_n 3, 1) := by decide +kernel
theorem dX4_holds_102 : decode cX4_holds 102 = .ok (.goto 23, 3) := by decide +kernel
theorem dX4_holds_105 : decode cX4_holds 105 = .ok (.lload_n 3, 1) := by decide +kernel
theorem dX4_holds_106 : decode cX4_holds 106 = .ok (.iconst 1, 1) := by decide +kernel
theorem dX4_holds_107 : decode cX4_holds 107 = .ok (.lshl, 1) := by decide +kernel
theorem dX4_holds_108 : decode cX4_holds 108 = .ok (.iload 7, 2) := by decide +kernel
theorem dX4_holds_110 : decode cX4_holds 110 = .ok (.aload_n 2, 1) := by decide +kernel
theorem dX4_holds_111 : decode cX4_holds 111 = .ok (.iload 7, 2) := by decide +kernel
theorem dX4_holds_113 : decode cX4_holds 113 = .ok (.bipush 12, 2) := by decide +kernel
theorem dX4_holds_115 : decode cX4_holds 115 = .ok (.ishr, 1) := by decide +kernel
theorem dX4_holds_116 : decode cX4_holds 116 = .ok (.iconst 4, 1) := by decide +kernel
theorem dX4_holds_117 : decode cX4_holds 117 = .ok (.irem, 1) := by decide +kernel
theorem dX4_holds_118 : decode cX4_holds 118 = .ok (.iaload, 1) := by decide +kernel
theorem dX4_holds_119 : decode cX4_holds 119 = .ok (.ishr, 1) := by decide +kernel
theorem dX4_holds_120 : decode cX4_holds 120 = .ok (.iconst 1, 1) := by decide +kernel
theorem dX4_holds_121 : decode cX4_holds 121 = .ok (.iand, 1) := by decide +kernel
theorem dX4_holds_122 : decode cX4_holds 122 = .ok (.i2l, 1) := by decide +kernel
theorem dX4_holds_123 : decode cX4_holds 123 = .ok (.lor, 1) := by decide +kernel
theorem dX4_holds_124 : decode cX4_holds 124 = .ok (.lstore_n 3, 1) := by decide +kernel
theorem dX4_holds_125 : decode cX4_holds 125 = .ok (.iinc 6 1, 3) := by decide +kernel
theorem dX4_holds_128 : decode cX4_holds 128 = .ok (.goto (-104), 3) := by decide +kernel
theorem dX4_holds_131 : decode cX4_holds 131 = .ok (.lload_n 3, 1) := by decide +kernel
theorem dX4_holds_132 : decode cX4_holds 132 = .ok (.lconst 1, 1) := by decide +kernel
theorem dX4_holds_133 : decode cX4_holds 133 = .ok (.land, 1) := by decide +kernel
theorem dX4_holds_134 : decode cX4_holds 134 = .ok (.lconst 0, 1) := by decide +kernel
theorem dX4_holds_135 : decode cX4_holds 135 = .ok (.lcmp, 1) := by decide +kernel
theorem dX4_holds_136 : decode cX4_holds 136 = .ok (.ifCond .eq 7, 3) := by decide +kernel
theorem dX4_holds_139 : decode cX4_holds 139 = .ok (.iconst 1, 1) := by decide +kernel
theorem dX4_holds_140 : decode cX4_holds 140 = .ok (.goto 4, 3) := by decide +kernel
theorem dX4_holds_143 : decode cX4_holds 143 = .ok (.iconst 0, 1) := by decide +kernel
theorem dX4_holds_144 : decode cX4_holds 144 = .ok (.ireturn, 1) := by decide +kernel
abbrev rm_X4_holds : Room := { frames := 0, cells := 0, slots := 0, locals := 0 }
abbrev jJ_X4_holds (l : Launch) (G : jx_G) (t : jx_T) (sz : Nat) (σ0 : jx_M) (out : Int32) (pc : Nat) (lv : List (Nat × Value)) (st : List Value) (σ : jx_M) : Prop := jx_J l (ll_env G t) (ll_dyn G t) (ll_rg G) sz RX4 "holds" cX4_holds 8 (some .boolean) rm_X4_holds (fun below args s => MQ below (jx_Qi (ll_dyn G t) σ0 out (jx_A (ll_rg G) sz)) args s 0 0 (jx_A (ll_rg G) sz)) 0 0 pc lv st σ
def b_X4_holds_125 (t : jx_T) (k24 : jx_M → Int32 → Nat → Int64 → Int32 → Option Int32) (σ : jx_M) (v1 : Int32) (v2 : Nat) (v3 : Int64) (v6 : Int32) : Option Int32 :=
  jx_lt (v6 + (1 : Int32)) (fun x1 => (k24 σ v1 v2 v3 x1))
set_option maxHeartbeats 4000000 in
set_option maxRecDepth 100000 in
theorem jb_X4_holds_125 (l : Launch) (G : jx_G) (t : jx_T) (hG : ll_ok G) (sz : Nat) (σ0 : jx_M) (out : Int32) (k24 : jx_M → Int32 → Nat → Int64 → Int32 → Option Int32) (h24 : ∀ (σ : jx_M) (v1 : Int32) (v2 : Nat) (v3 : Int64) (v6 : Int32), σ = σ0 → k24 σ v1 v2 v3 v6 = some out → jJ_X4_holds l G t sz σ0 out 24 [(0, .ref (t.1 0)), (1, .int v1), (2, .ref (G.2 (100 + v2))), (3, .long v3), (6, .int v6)] [] σ) (σ : jx_M) (v1 : Int32) (v2 : Nat) (v3 : Int64) (v6 : Int32) (e0 : σ = σ0) (h : b_X4_holds_125 t k24 σ v1 v2 v3 v6 = some out) : jJ_X4_holds l G t sz σ0 out 125 [(0, .ref (t.1 0)), (1, .int v1), (2, .ref (G.2 (100 + v2))), (3, .long v3), (6, .int v6)] [] σ := by
  unfold b_X4_holds_125 at h
  obtain ⟨x1, ex1, h⟩ := jx_lt_o h
  refine jx_iinc (pc := 125) (i := 6) (v := v6) rfl ex1 (n := 1) (by decide) (by decide) (lv' := [(6, .int x1), (0, .ref (t.1 0)), (1, .int v1), (2, .ref (G.2 (100 + v2))), (3, .long v3)]) rfl dX4_holds_125 ?_
  refine jx_goto (pc := 128) (tgt := 24) dX4_holds_128 (by decide) ?_
  exact jx_sub [1, 2, 3, 4, 0] rfl (h24 σ v1 v2 v3 x1 e0 h)
def b_X4_holds_131 (t : jx_T)  (σ : jx_M) (v3 : Int64) : Option Int32 :=
  if (lg_cmp (v3 &&& (1 : Int64)) (0 : Int64)) = 0 then some (0 : Int32) else some (1 : Int32)
set_option maxHeartbeats 4000000 in
set_option maxRecDepth 100000 in
theorem jb_X4_holds_131 (l : Launch) (G : jx_G) (t : jx_T) (hG : ll_ok G) (sz : Nat) (σ0 : jx_M) (out : Int32)  (σ : jx_M) (v3 : Int64) (e0 : σ = σ0) (h : b_X4_holds_131 t σ v3 = some out) : jJ_X4_holds l G t sz σ0 out 131 [(3, .long v3)] [] σ := by
  unfold b_X4_holds_131 at h
  refine jx_lload_n (pc := 131) (k0 := 3) rfl dX4_holds_131 ?_
  refine jx_lconst (pc := 132) (v := (1 : Int64)) (by decide) dX4_holds_132 ?_
  refine jx_land (pc := 133) dX4_holds_133 ?_
  refine jx_lconst (pc := 134) (v := (0 : Int64)) (by decide) dX4_holds_134 ?_
  refine jx_lcmp (pc := 135) dX4_holds_135 ?_
  refine jx_if_eq (pc := 136) (tgt := 143) dX4_holds_136 (by decide) (fun c1 => ?_) (fun c1 => ?_)
  · have h := jx_t c1 h
    refine jx_iconst (pc := 143) (v := (0 : Int32)) (by decide) dX4_holds_143 ?_
    subst e0
    have h := Option.some.inj h
    subst h
    exact jx_zret (pc := 144) (Or.inl rfl) dX4_holds_144
  · have h := jx_f c1 h
    refine jx_iconst (pc := 139) (v := (1 : Int32)) (by decide) dX4_holds_139 ?_
    refine jx_goto (pc := 140) (tgt := 144) dX4_holds_140 (by decide) ?_
    subst e0
    have h := Option.some.inj h
    subst h
    exact jx_zret (pc := 144) (Or.inr rfl) dX4_holds_144
def g_X4_holds_24 (t : jx_T) (k24 : jx_M → Int32 → Nat → Int64 → Int32 → Option Int32) (σ : jx_M) (v1 : Int32) (v2 : Nat) (v3 : Int64) (v6 : Int32) : Option Int32 :=
  jx_gd (jx_in v1 (t.2.1 3)) (if (t.2.2 3 v1.toNatClampNeg) ≤ v6 then (b_X4_holds_131 t σ v3) else if (Int32.ofNat (t.2.1 4)) ≤ v6 then (b_X4_holds_131 t σ v3) else jx_gd (jx_in v6 (t.2.1 4)) (jx_lt ((t.2.2 4 v6.toNatClampNeg)) (fun x5 => if x5 = (-1 : Int32) then jx_lt ((v3 ^^^ (1 : Int64))) (fun x13 => (b_X4_holds_125 t k24 σ v1 v2 x13 v6)) else if x5 = (-2 : Int32) then jx_lt (((v3 >>> ((1 : Int32).toInt64 &&& 63)) &&& (v3 ||| (-2 : Int64)))) (fun x12 => (b_X4_holds_125 t k24 σ v1 v2 x12 v6)) else if x5 = (-3 : Int32) then jx_lt (((v3 >>> ((1 : Int32).toInt64 &&& 63)) ||| (v3 &&& (1 : Int64)))) (fun x11 => (b_X4_holds_125 t k24 σ v1 v2 x11 v6)) else jx_gd (jx_in ((x5 >>> ((12 : Int32) &&& 31)) - (x5 >>> ((12 : Int32) &&& 31)) / (4 : Int32) * (4 : Int32)) (ll_len v2)) (jx_lt (((v3 <<< ((1 : Int32).toInt64 &&& 63)) ||| (((x5 >>> ((σ v2 ((x5 >>> ((12 : Int32) &&& 31)) - (x5 >>> ((12 : Int32) &&& 31)) / (4 : Int32) * (4 : Int32)).toNatClampNeg) &&& 31)) &&& (1 : Int32))).toInt64)) (fun x10 => (b_X4_holds_125 t k24 σ v1 v2 x10 v6))))))
set_option maxHeartbeats 4000000 in
set_option maxRecDepth 100000 in
theorem jg_X4_holds_24 (l : Launch) (G : jx_G) (t : jx_T) (hG : ll_ok G) (sz : Nat) (σ0 : jx_M) (out : Int32) (k24 : jx_M → Int32 → Nat → Int64 → Int32 → Option Int32) (h24 : ∀ (σ : jx_M) (v1 : Int32) (v2 : Nat) (v3 : Int64) (v6 : Int32), σ = σ0 → k24 σ v1 v2 v3 v6 = some out → jJ_X4_holds l G t sz σ0 out 24 [(0, .ref (t.1 0)), (1, .int v1), (2, .ref (G.2 (100 + v2))), (3, .long v3), (6, .int v6)] [] σ) (σ : jx_M) (v1 : Int32) (v2 : Nat) (v3 : Int64) (v6 : Int32) (e0 : σ = σ0) (h : g_X4_holds_24 t k24 σ v1 v2 v3 v6 = some out) : jJ_X4_holds l G t sz σ0 out 24 [(0, .ref (t.1 0)), (1, .int v1), (2, .ref (G.2 (100 + v2))), (3, .long v3), (6, .int v6)] [] σ := by
  unfold g_X4_holds_24 at h
  refine jx_iload (pc := 24) (i := 6) rfl dX4_holds_24 ?_
  refine jx_aload_n (pc := 26) (k0 := 0) rfl dX4_holds_26 ?_
  refine ll_gtide_ends (pc := 27) fl_X4_18 dX4_holds_27 ?_
  refine jx_iload_n (pc := 30) (k0 := 1) rfl dX4_holds_30 ?_
  obtain ⟨g1, h⟩ := jx_gd_o h
  refine ll_ltide_3 (pc := 31) (jx_in_o g1) rfl dX4_holds_31 ?_
  refine jx_icmp_ge (pc := 32) (tgt := 131) dX4_holds_32 (by decide) (fun c2 => ?_) (fun c2 => ?_)
  · have h := jx_t c2 h
    exact jx_sub [3] rfl (jb_X4_holds_131 l G t hG sz σ0 out σ v3 e0 h)
  · have h := jx_f c2 h
    refine jx_iload (pc := 35) (i := 6) rfl dX4_holds_35 ?_
    refine jx_aload_n (pc := 37) (k0 := 0) rfl dX4_holds_37 ?_
    refine ll_gtide_code (pc := 38) fl_X4_21 dX4_holds_38 ?_
    refine ll_ntide_4 (pc := 41) dX4_holds_41 ?_
    refine jx_icmp_ge (pc := 42) (tgt := 131) dX4_holds_42 (by decide) (fun c3 => ?_) (fun c3 => ?_)
    · have h := jx_t c3 h
      exact jx_sub [3] rfl (jb_X4_holds_131 l G t hG sz σ0 out σ v3 e0 h)
    · have h := jx_f c3 h
      refine jx_aload_n (pc := 45) (k0 := 0) rfl dX4_holds_45 ?_
      refine ll_gtide_code (pc := 46) fl_X4_21 dX4_holds_46 ?_
      refine jx_iload (pc := 49) (i := 6) rfl dX4_holds_49 ?_
      obtain ⟨g4, h⟩ := jx_gd_o h
      refine ll_ltide_4 (pc := 51) (jx_in_o g4) rfl dX4_holds_51 ?_
      obtain ⟨x5, ex5, h⟩ := jx_lt_o h
      refine jx_istore (pc := 52) (i := 7) ex5 (by decide) (lv' := [(7, .int x5), (0, .ref (t.1 0)), (1, .int v1), (2, .ref (G.2 (100 + v2))), (3, .long v3), (6, .int v6)]) rfl dX4_holds_52 ?_
      refine jx_iload (pc := 54) (i := 7) rfl dX4_holds_54 ?_
      refine jx_iconst (pc := 56) (v := (-1 : Int32)) (by decide) dX4_holds_56 ?_
      refine jx_icmp_ne (pc := 57) (tgt := 67) dX4_holds_57 (by decide) (fun c6 => ?_) (fun c6 => ?_)
      · have h := jx_f c6 h
        refine jx_iload (pc := 67) (i := 7) rfl dX4_holds_67 ?_
        refine jx_bipush (pc := 69) (v := (-2 : Int32)) (by decide) dX4_holds_69 ?_
        refine jx_icmp_ne (pc := 71) (tgt := 87) dX4_holds_71 (by decide) (fun c7 => ?_) (fun c7 => ?_)
        · have h := jx_f c7 h
          refine jx_iload (pc := 87) (i := 7) rfl dX4_holds_87 ?_
          refine jx_bipush (pc := 89) (v := (-3 : Int32)) (by decide) dX4_holds_89 ?_
          refine jx_icmp_ne (pc := 91) (tgt := 105) dX4_holds_91 (by decide) (fun c8 => ?_) (fun c8 => ?_)
          · have h := jx_f c8 h
            refine jx_lload_n (pc := 105) (k0 := 3) rfl dX4_holds_105 ?_
            refine jx_iconst (pc := 106) (v := (1 : Int32)) (by decide) dX4_holds_106 ?_
            refine jx_lshl (pc := 107) dX4_holds_107 ?_
            refine jx_iload (pc := 108) (i := 7) rfl dX4_holds_108 ?_
            refine jx_aload_n (pc := 110) (k0 := 2) rfl dX4_holds_110 ?_
            refine jx_iload (pc := 111) (i := 7) rfl dX4_holds_111 ?_
            refine jx_bipush (pc := 113) (v := (12 : Int32)) (by decide) dX4_holds_113 ?_
            refine jx_ishr (pc := 115) dX4_holds_115 ?_
            refine jx_iconst (pc := 116) (v := (4 : Int32)) (by decide) dX4_holds_116 ?_
            refine jx_irem (pc := 117) (by decide) dX4_holds_117 ?_
            obtain ⟨g9, h⟩ := jx_gd_o h
            refine ll_l (pc := 118) (k := v2) (jx_in_o g9) rfl dX4_holds_118 ?_
            refine jx_ishr (pc := 119) dX4_holds_119 ?_
            refine jx_iconst (pc := 120) (v := (1 : Int32)) (by decide) dX4_holds_120 ?_
            refine jx_iand (pc := 121) dX4_holds_121 ?_
            refine jx_i2l (pc := 122) dX4_holds_122 ?_
            refine jx_lor (pc := 123) dX4_holds_123 ?_
            obtain ⟨x10, ex10, h⟩ := jx_lt_o h
            refine jx_lstore_n (pc := 124) (i := 3) rfl ex10 (by decide) (lv' := [(3, .long x10), (7, .int x5), (0, .ref (t.1 0)), (1, .int v1), (2, .ref (G.2 (100 + v2))), (6, .int v6)]) rfl dX4_holds_124 ?_
            exact jx_sub [2, 3, 4, 0, 5] rfl (jb_X4_holds_125 l G t hG sz σ0 out k24 h24 σ v1 v2 x10 v6 e0 h)
          · have h := jx_t c8 h
            refine jx_lload_n (pc := 94) (k0 := 3) rfl dX4_holds_94 ?_
            refine jx_iconst (pc := 95) (v := (1 : Int32)) (by decide) dX4_holds_95 ?_
            refine jx_lshr (pc := 96) dX4_holds_96 ?_
            refine jx_lload_n (pc := 97) (k0 := 3) rfl dX4_holds_97 ?_
            refine jx_lconst (pc := 98) (v := (1 : Int64)) (by decide) dX4_holds_98 ?_
            refine jx_land (pc := 99) dX4_holds_99 ?_
            refine jx_lor (pc := 100) dX4_holds_100 ?_
            obtain ⟨x11, ex11, h⟩ := jx_lt_o h
            refine jx_lstore_n (pc := 101) (i := 3) rfl ex11 (by decide) (lv' := [(3, .long x11), (7, .int x5), (0, .ref (t.1 0)), (1, .int v1), (2, .ref (G.2 (100 + v2))), (6, .int v6)]) rfl dX4_holds_101 ?_
            refine jx_goto (pc := 102) (tgt := 125) dX4_holds_102 (by decide) ?_
            exact jx_sub [2, 3, 4, 0, 5] rfl (jb_X4_holds_125 l G t hG sz σ0 out k24 h24 σ v1 v2 x11 v6 e0 h)
        · have h := jx_t c7 h
          refine jx_lload_n (pc := 74) (k0 := 3) rfl dX4_holds_74 ?_
          refine jx_iconst (pc := 75) (v := (1 : Int32)) (by decide) dX4_holds_75 ?_
          refine jx_lshr (pc := 76) dX4_holds_76 ?_
          refine jx_lload_n (pc := 77) (k0 := 3) rfl dX4_holds_77 ?_
          refine jx_ldc2 (pc := 78) cn_X4_28 dX4_holds_78 ?_
          refine jx_lor (pc := 81) dX4_holds_81 ?_
          refine jx_land (pc := 82) dX4_holds_82 ?_
          obtain ⟨x12, ex12, h⟩ := jx_lt_o h
          refine jx_lstore_n (pc := 83) (i := 3) rfl ex12 (by decide) (lv' := [(3, .long x12), (7, .int x5), (0, .ref (t.1 0)), (1, .int v1), (2, .ref (G.2 (100 + v2))), (6, .int v6)]) rfl dX4_holds_83 ?_
          refine jx_goto (pc := 84) (tgt := 125) dX4_holds_84 (by decide) ?_
          exact jx_sub [2, 3, 4, 0, 5] rfl (jb_X4_holds_125 l G t hG sz σ0 out k24 h24 σ v1 v2 x12 v6 e0 h)
      · have h := jx_t c6 h
        refine jx_lload_n (pc := 60) (k0 := 3) rfl dX4_holds_60 ?_
        refine jx_lconst (pc := 61) (v := (1 : Int64)) (by decide) dX4_holds_61 ?_
        refine jx_lxor (pc := 62) dX4_holds_62 ?_
        obtain ⟨x13, ex13, h⟩ := jx_lt_o h
        refine jx_lstore_n (pc := 63) (i := 3) rfl ex13 (by decide) (lv' := [(3, .long x13), (7, .int x5), (0, .ref (t.1 0)), (1, .int v1), (2, .ref (G.2 (100 + v2))), (6, .int v6)]) rfl dX4_holds_63 ?_
        refine jx_goto (pc := 64) (tgt := 125) dX4_holds_64 (by decide) ?_
        exact jx_sub [2, 3, 4, 0, 5] rfl (jb_X4_holds_125 l G t hG sz σ0 out k24 h24 σ v1 v2 x13 v6 e0 h)
def b_X4_holds_24 (t : jx_T)  : Nat → jx_M → Int32 → Nat → Int64 → Int32 → Option Int32
  | 0, _, _, _, _, _ => none
  | n + 1, σ, v1, v2, v3, v6 => g_X4_holds_24 t (b_X4_holds_24 t n) σ v1 v2 v3 v6
theorem jb_X4_holds_24 (l : Launch) (G : jx_G) (t : jx_T) (hG : ll_ok G) (sz : Nat) (σ0 : jx_M) (out : Int32)  : ∀ (n : Nat) (σ : jx_M) (v1 : Int32) (v2 : Nat) (v3 : Int64) (v6 : Int32), σ = σ0 → b_X4_holds_24 t n σ v1 v2 v3 v6 = some out → jJ_X4_holds l G t sz σ0 out 24 [(0, .ref (t.1 0)), (1, .int v1), (2, .ref (G.2 (100 + v2))), (3, .long v3), (6, .int v6)] [] σ := by
  intro n
  induction n with
  | zero =>
    intro σ v1 v2 v3 v6 e0 h
    cases h
  | succ n ih =>
    intro σ v1 v2 v3 v6 e0 h
    exact jg_X4_holds_24 l G t hG sz σ0 out (b_X4_holds_24 t n) ih σ v1 v2 v3 v6 e0 h
def b_X4_holds_18 (t : jx_T)  (σ : jx_M) (v1 : Int32) (v2 : Nat) (v3 : Int64) (s0 : Int32) : Option Int32 :=
  (b_X4_holds_24 t jx_fuel σ v1 v2 v3 s0)
set_option maxHeartbeats 4000000 in
set_option maxRecDepth 100000 in
theorem jb_X4_holds_18 (l : Launch) (G : jx_G) (t : jx_T) (hG : ll_ok G) (sz : Nat) (σ0 : jx_M) (out : Int32)  (σ : jx_M) (v1 : Int32) (v2 : Nat) (v3 : Int64) (s0 : Int32) (e0 : σ = σ0) (h : b_X4_holds_18 t σ v1 v2 v3 s0 = some out) : jJ_X4_holds l G t sz σ0 out 18 [(0, .ref (t.1 0)), (1, .int v1), (2, .ref (G.2 (100 + v2))), (3, .long v3)] [.int s0] σ := by
  unfold b_X4_holds_18 at h
  refine jx_istore (pc := 18) (i := 5) rfl (by decide) (lv' := [(5, .int s0), (0, .ref (t.1 0)), (1, .int v1), (2, .ref (G.2 (100 + v2))), (3, .long v3)]) rfl dX4_holds_18 ?_
  refine jx_iload (pc := 20) (i := 5) rfl dX4_holds_20 ?_
  refine jx_istore (pc := 22) (i := 6) rfl (by decide) (lv' := [(6, .int s0), (5, .int s0), (0, .ref (t.1 0)), (1, .int v1), (2, .ref (G.2 (100 + v2))), (3, .long v3)]) rfl dX4_holds_22 ?_
  exact jx_sub [2, 3, 4, 5, 0] rfl (jb_X4_holds_24 l G t hG sz σ0 out jx_fuel σ v1 v2 v3 s0 e0 h)
def f_X4_holds (t : jx_T) (σ : jx_M) (a1 : Int32) (a2 : Nat) : Option Int32 :=
  if a1 ≤ 0 then (b_X4_holds_18 t σ a1 a2 (0 : Int64) (0 : Int32)) else jx_gd (jx_in (a1 - (1 : Int32)) (t.2.1 3)) ((b_X4_holds_18 t σ a1 a2 (0 : Int64) (t.2.2 3 (a1 - (1 : Int32)).toNatClampNeg)))
set_option maxHeartbeats 4000000 in
set_option maxRecDepth 100000 in
theorem k_X4_holds (l : Launch) (G : jx_G) (t : jx_T) (hG : ll_ok G) (sz : Nat) (σ : jx_M) (a1 : Int32) (a2 : Nat) (out : Int32) (h : f_X4_holds t σ a1 a2 = some out) : Met l yX4_holds (Cond.code yX4_holds cX4_holds 8 (some .boolean) :: jx_ws) rm_X4_holds (jx_Pc (ll_env G t) (ll_dyn G t) (ll_rg G) sz σ [.ref (t.1 0), .int a1, .ref (G.2 (100 + a2))]) (jx_Qi (ll_dyn G t) σ out (jx_A (ll_rg G) sz)) 0 0 (jx_A (ll_rg G) sz) := by
  unfold f_X4_holds at h
  refine jx_met (by decide) (Nat.le_of_ble_eq_true rfl) ?_
  refine jx_sub (lv' := [(0, .ref (t.1 0)), (1, .int a1), (2, .ref (G.2 (100 + a2)))]) [0, 1, 2] rfl ?_
  refine jx_lconst (pc := 0) (v := (0 : Int64)) (by decide) dX4_holds_0 ?_
  refine jx_lstore_n (pc := 1) (i := 3) rfl rfl (by decide) (lv' := [(3, .long (0 : Int64)), (0, .ref (t.1 0)), (1, .int a1), (2, .ref (G.2 (100 + a2)))]) rfl dX4_holds_1 ?_
  refine jx_iload_n (pc := 2) (k0 := 1) rfl dX4_holds_2 ?_
  refine jx_if_le (pc := 3) (tgt := 17) dX4_holds_3 (by decide) (fun c1 => ?_) (fun c1 => ?_)
  · have h := jx_t c1 h
    refine jx_iconst (pc := 17) (v := (0 : Int32)) (by decide) dX4_holds_17 ?_
    exact jx_sub [1, 2, 3, 0] rfl (jb_X4_holds_18 l G t hG sz σ out σ a1 a2 (0 : Int64) (0 : Int32) rfl h)
  · have h := jx_f c1 h
    refine jx_aload_n (pc := 6) (k0 := 0) rfl dX4_holds_6 ?_
    refine ll_gtide_ends (pc := 7) fl_X4_18 dX4_holds_7 ?_
    refine jx_iload_n (pc := 10) (k0 := 1) rfl dX4_holds_10 ?_
    refine jx_iconst (pc := 11) (v := (1 : Int32)) (by decide) dX4_holds_11 ?_
    refine jx_isub (pc := 12) dX4_holds_12 ?_
    obtain ⟨g2, h⟩ := jx_gd_o h
    refine ll_ltide_3 (pc := 13) (jx_in_o g2) rfl dX4_holds_13 ?_
    refine jx_goto (pc := 14) (tgt := 18) dX4_holds_14 (by decide) ?_
    exact jx_sub [1, 2, 3, 0] rfl (jb_X4_holds_18 l G t hG sz σ out σ a1 a2 (0 : Int64) (t.2.2 3 (a1 - (1 : Int32)).toNatClampNeg) rfl h)
theorem dX5_leastOf_0 : decode cX5_leastOf 0 = .ok (.iconst 0, 1) := by decide +kernel
theorem dX5_leastOf_1 : decode cX5_leastOf 1 = .ok (.istore_n 1, 1) := by decide +kernel
theorem dX5_leastOf_2 : decode cX5_leastOf 2 = .ok (.iload_n 1, 1) := by decide +kernel
theorem dX5_leastOf_3 : decode cX5_leastOf 3 = .ok (.bipush 7, 2) := by decide +kernel
theorem dX5_leastOf_5 : decode cX5_leastOf 5 = .ok (.if_icmp .ge 20, 3) := by decide +kernel
theorem dX5_leastOf_8 : decode cX5_leastOf 8 = .ok (.iload_n 0, 1) := by decide +kernel
theorem dX5_leastOf_9 : decode cX5_leastOf 9 = .ok (.iload_n 1, 1) := by decide +kernel
theorem dX5_leastOf_10 : decode cX5_leastOf 10 = .ok (.ishr, 1) := by decide +kernel
theorem dX5_leastOf_11 : decode cX5_leastOf 11 = .ok (.iconst 1, 1) := by decide +kernel
theorem dX5_leastOf_12 : decode cX5_leastOf 12 = .ok (.iand, 1) := by decide +kernel
theorem dX5_leastOf_13 : decode cX5_leastOf 13 = .ok (.iconst 1, 1) := by decide +kernel
theorem dX5_leastOf_14 : decode cX5_leastOf 14 = .ok (.if_icmp .ne 5, 3) := by decide +kernel
theorem dX5_leastOf_17 : decode cX5_leastOf 17 = .ok (.iload_n 1, 1) := by decide +kernel
theorem dX5_leastOf_18 : decode cX5_leastOf 18 = .ok (.ireturn, 1) := by decide +kernel
theorem dX5_leastOf_19 : decode cX5_leastOf 19 = .ok (.iinc 1 1, 3) := by decide +kernel
theorem dX5_leastOf_22 : decode cX5_leastOf 22 = .ok (.goto (-20), 3) := by decide +kernel
theorem dX5_leastOf_25 : decode cX5_leastOf 25 = .ok (.bipush (-5), 2) := by decide +kernel
theorem dX5_leastOf_27 : decode cX5_leastOf 27 = .ok (.ireturn, 1) := by decide +kernel
abbrev rm_X5_leastOf : Room := { frames := 0, cells := 0, slots := 0, locals := 0 }
abbrev jJ_X5_leastOf (l : Launch) (G : jx_G) (t : jx_T) (sz : Nat) (σ0 : jx_M) (out : Int32) (pc : Nat) (lv : List (Nat × Value)) (st : List Value) (σ : jx_M) : Prop := jx_J l (ll_env G t) (ll_dyn G t) (ll_rg G) sz RX5 "leastOf" cX5_leastOf 2 (some .int) rm_X5_leastOf (fun below args s => MQ below (jx_Qi (ll_dyn G t) σ0 out (jx_A (ll_rg G) sz)) args s 0 0 (jx_A (ll_rg G) sz)) 0 0 pc lv st σ
def g_X5_leastOf_2 (k2 : Int32 → Int32 → Option Int32) (v0 : Int32) (v1 : Int32) : Option Int32 :=
  if (7 : Int32) ≤ v1 then some (-5 : Int32) else if ((v0 >>> (v1 &&& 31)) &&& (1 : Int32)) = (1 : Int32) then some v1 else jx_lt (v1 + (1 : Int32)) (fun x3 => (k2 v0 x3))
set_option maxHeartbeats 4000000 in
set_option maxRecDepth 100000 in
theorem jg_X5_leastOf_2 (l : Launch) (G : jx_G) (t : jx_T) (hG : ll_ok G) (sz : Nat) (σ0 : jx_M) (out : Int32) (k2 : Int32 → Int32 → Option Int32) (h2 : ∀ (σ : jx_M) (v0 : Int32) (v1 : Int32), σ = σ0 → k2 v0 v1 = some out → jJ_X5_leastOf l G t sz σ0 out 2 [(0, .int v0), (1, .int v1)] [] σ) (σ : jx_M) (v0 : Int32) (v1 : Int32) (e0 : σ = σ0) (h : g_X5_leastOf_2 k2 v0 v1 = some out) : jJ_X5_leastOf l G t sz σ0 out 2 [(0, .int v0), (1, .int v1)] [] σ := by
  unfold g_X5_leastOf_2 at h
  refine jx_iload_n (pc := 2) (k0 := 1) rfl dX5_leastOf_2 ?_
  refine jx_bipush (pc := 3) (v := (7 : Int32)) (by decide) dX5_leastOf_3 ?_
  refine jx_icmp_ge (pc := 5) (tgt := 25) dX5_leastOf_5 (by decide) (fun c1 => ?_) (fun c1 => ?_)
  · have h := jx_t c1 h
    refine jx_bipush (pc := 25) (v := (-5 : Int32)) (by decide) dX5_leastOf_25 ?_
    subst e0
    have h := Option.some.inj h
    subst h
    exact jx_iret (pc := 27) dX5_leastOf_27
  · have h := jx_f c1 h
    refine jx_iload_n (pc := 8) (k0 := 0) rfl dX5_leastOf_8 ?_
    refine jx_iload_n (pc := 9) (k0 := 1) rfl dX5_leastOf_9 ?_
    refine jx_ishr (pc := 10) dX5_leastOf_10 ?_
    refine jx_iconst (pc := 11) (v := (1 : Int32)) (by decide) dX5_leastOf_11 ?_
    refine jx_iand (pc := 12) dX5_leastOf_12 ?_
    refine jx_iconst (pc := 13) (v := (1 : Int32)) (by decide) dX5_leastOf_13 ?_
    refine jx_icmp_ne (pc := 14) (tgt := 19) dX5_leastOf_14 (by decide) (fun c2 => ?_) (fun c2 => ?_)
    · have h := jx_f c2 h
      obtain ⟨x3, ex3, h⟩ := jx_lt_o h
      refine jx_iinc (pc := 19) (i := 1) (v := v1) rfl ex3 (n := 1) (by decide) (by decide) (lv' := [(1, .int x3), (0, .int v0)]) rfl dX5_leastOf_19 ?_
      refine jx_goto (pc := 22) (tgt := 2) dX5_leastOf_22 (by decide) ?_
      exact jx_sub [1, 0] rfl (h2 σ v0 x3 e0 h)
    · have h := jx_t c2 h
      refine jx_iload_n (pc := 17) (k0 := 1) rfl dX5_leastOf_17 ?_
      subst e0
      have h := Option.some.inj h
      subst h
      exact jx_iret (pc := 18) dX5_leastOf_18
def b_X5_leastOf_2  : Nat → Int32 → Int32 → Option Int32
  | 0, _, _ => none
  | n + 1, v0, v1 => g_X5_leastOf_2 (b_X5_leastOf_2 n) v0 v1
theorem jb_X5_leastOf_2 (l : Launch) (G : jx_G) (t : jx_T) (hG : ll_ok G) (sz : Nat) (σ0 : jx_M) (out : Int32)  : ∀ (n : Nat) (σ : jx_M) (v0 : Int32) (v1 : Int32), σ = σ0 → b_X5_leastOf_2 n v0 v1 = some out → jJ_X5_leastOf l G t sz σ0 out 2 [(0, .int v0), (1, .int v1)] [] σ := by
  intro n
  induction n with
  | zero =>
    intro σ v0 v1 e0 h
    cases h
  | succ n ih =>
    intro σ v0 v1 e0 h
    exact jg_X5_leastOf_2 l G t hG sz σ0 out (b_X5_leastOf_2 n) ih σ v0 v1 e0 h
def f_X5_leastOf (a0 : Int32) : Option Int32 :=
  (b_X5_leastOf_2 jx_fuel a0 (0 : Int32))
set_option maxHeartbeats 4000000 in
set_option maxRecDepth 100000 in
theorem k_X5_leastOf (l : Launch) (G : jx_G) (t : jx_T) (hG : ll_ok G) (sz : Nat) (σ : jx_M) (a0 : Int32) (out : Int32) (h : f_X5_leastOf a0 = some out) : Met l yX5_leastOf (Cond.code yX5_leastOf cX5_leastOf 2 (some .int) :: jx_ws) rm_X5_leastOf (jx_Pc (ll_env G t) (ll_dyn G t) (ll_rg G) sz σ [.int a0]) (jx_Qi (ll_dyn G t) σ out (jx_A (ll_rg G) sz)) 0 0 (jx_A (ll_rg G) sz) := by
  unfold f_X5_leastOf at h
  refine jx_met (by decide) (Nat.le_of_ble_eq_true rfl) ?_
  refine jx_sub (lv' := [(0, .int a0)]) [0] rfl ?_
  refine jx_iconst (pc := 0) (v := (0 : Int32)) (by decide) dX5_leastOf_0 ?_
  refine jx_istore_n (pc := 1) (i := 1) rfl rfl (by decide) (lv' := [(1, .int (0 : Int32)), (0, .int a0)]) rfl dX5_leastOf_1 ?_
  exact jx_sub [1, 0] rfl (jb_X5_leastOf_2 l G t hG sz σ out jx_fuel σ a0 (0 : Int32) rfl h)
theorem dX5_count_0 : decode cX5_count 0 = .ok (.iload_n 1, 1) := by decide +kernel
theorem dX5_count_1 : decode cX5_count 1 = .ok (.tableswitch 87 0 5 #[39, 47, 55, 63, 71, 79], 39) := by decide +kernel
theorem dX5_count_40 : decode cX5_count 40 = .ok (.aload_n 0, 1) := by decide +kernel
theorem dX5_count_41 : decode cX5_count 41 = .ok (.getfield 12, 3) := by decide +kernel
theorem dX5_count_44 : decode cX5_count 44 = .ok (.getfield 75, 3) := by decide +kernel
theorem dX5_count_47 : decode cX5_count 47 = .ok (.ireturn, 1) := by decide +kernel
theorem dX5_count_48 : decode cX5_count 48 = .ok (.aload_n 0, 1) := by decide +kernel
theorem dX5_count_49 : decode cX5_count 49 = .ok (.getfield 12, 3) := by decide +kernel
theorem dX5_count_52 : decode cX5_count 52 = .ok (.getfield 60, 3) := by decide +kernel
theorem dX5_count_55 : decode cX5_count 55 = .ok (.ireturn, 1) := by decide +kernel
theorem dX5_count_56 : decode cX5_count 56 = .ok (.aload_n 0, 1) := by decide +kernel
theorem dX5_count_57 : decode cX5_count 57 = .ok (.getfield 12, 3) := by decide +kernel
theorem dX5_count_60 : decode cX5_count 60 = .ok (.getfield 199, 3) := by decide +kernel
theorem dX5_count_63 : decode cX5_count 63 = .ok (.ireturn, 1) := by decide +kernel
theorem dX5_count_64 : decode cX5_count 64 = .ok (.aload_n 0, 1) := by decide +kernel
theorem dX5_count_65 : decode cX5_count 65 = .ok (.getfield 12, 3) := by decide +kernel
theorem dX5_count_68 : decode cX5_count 68 = .ok (.getfield 217, 3) := by decide +kernel
theorem dX5_count_71 : decode cX5_count 71 = .ok (.ireturn, 1) := by decide +kernel
theorem dX5_count_72 : decode cX5_count 72 = .ok (.aload_n 0, 1) := by decide +kernel
theorem dX5_count_73 : decode cX5_count 73 = .ok (.getfield 12, 3) := by decide +kernel
theorem dX5_count_76 : decode cX5_count 76 = .ok (.getfield 52, 3) := by decide +kernel
theorem dX5_count_79 : decode cX5_count 79 = .ok (.ireturn, 1) := by decide +kernel
theorem dX5_count_80 : decode cX5_count 80 = .ok (.aload_n 0, 1) := by decide +kernel
theorem dX5_count_81 : decode cX5_count 81 = .ok (.getfield 33, 3) := by decide +kernel
theorem dX5_count_84 : decode cX5_count 84 = .ok (.getfield 250, 3) := by decide +kernel
theorem dX5_count_87 : decode cX5_count 87 = .ok (.ireturn, 1) := by decide +kernel
theorem dX5_count_88 : decode cX5_count 88 = .ok (.iconst (-1), 1) := by decide +kernel
theorem dX5_count_89 : decode cX5_count 89 = .ok (.ireturn, 1) := by decide +kernel
abbrev rm_X5_count : Room := { frames := 0, cells := 0, slots := 0, locals := 0 }
abbrev jJ_X5_count (l : Launch) (G : jx_G) (t : jx_T) (sz : Nat) (σ0 : jx_M) (out : Int32) (pc : Nat) (lv : List (Nat × Value)) (st : List Value) (σ : jx_M) : Prop := jx_J l (ll_env G t) (ll_dyn G t) (ll_rg G) sz RX5 "count" cX5_count 2 (some .int) rm_X5_count (fun below args s => MQ below (jx_Qi (ll_dyn G t) σ0 out (jx_A (ll_rg G) sz)) args s 0 0 (jx_A (ll_rg G) sz)) 0 0 pc lv st σ
def f_X5_count (t : jx_T) (σ : jx_M) (a1 : Int32) : Option Int32 :=
  if a1 = (0 : Int32) then some (σ 0 2) else if a1 = (1 : Int32) then some (σ 0 4) else if a1 = (2 : Int32) then some (σ 0 5) else if a1 = (3 : Int32) then some (σ 0 6) else if a1 = (4 : Int32) then some (σ 0 3) else if a1 = (5 : Int32) then some (σ 0 21) else some (-1 : Int32)
set_option maxHeartbeats 4000000 in
set_option maxRecDepth 100000 in
theorem k_X5_count (l : Launch) (G : jx_G) (t : jx_T) (hG : ll_ok G) (sz : Nat) (σ : jx_M) (a1 : Int32) (out : Int32) (h : f_X5_count t σ a1 = some out) : Met l yX5_count (Cond.code yX5_count cX5_count 2 (some .int) :: jx_ws) rm_X5_count (jx_Pc (ll_env G t) (ll_dyn G t) (ll_rg G) sz σ [.ref (G.2 20), .int a1]) (jx_Qi (ll_dyn G t) σ out (jx_A (ll_rg G) sz)) 0 0 (jx_A (ll_rg G) sz) := by
  unfold f_X5_count at h
  refine jx_met (by decide) (Nat.le_of_ble_eq_true rfl) ?_
  refine jx_sub (lv' := [(0, .ref (G.2 20)), (1, .int a1)]) [0, 1] rfl ?_
  refine jx_iload_n (pc := 0) (k0 := 1) rfl dX5_count_0 ?_
  by_cases c1 : a1 = (0 : Int32)
  · have h := jx_t c1 h
    refine jx_tabIn (pc := 1) (tgt := 40) dX5_count_1 0 (by rw [c1]; rfl) (by decide) (by decide) rfl (by decide) ?_
    refine jx_aload_n (pc := 40) (k0 := 0) rfl dX5_count_40 ?_
    refine ll_glamp_now (pc := 41) fl_X5_12 dX5_count_41 ?_
    refine ll_gnow_voters (pc := 44) fl_X5_75 dX5_count_44 ?_
    have h := Option.some.inj h
    subst h
    exact jx_iret (pc := 47) dX5_count_47
  have h := jx_f c1 h
  by_cases c2 : a1 = (1 : Int32)
  · have h := jx_t c2 h
    refine jx_tabIn (pc := 1) (tgt := 48) dX5_count_1 1 (by rw [c2]; rfl) (by decide) (by decide) rfl (by decide) ?_
    refine jx_aload_n (pc := 48) (k0 := 0) rfl dX5_count_48 ?_
    refine ll_glamp_now (pc := 49) fl_X5_12 dX5_count_49 ?_
    refine ll_gnow_tides (pc := 52) fl_X5_60 dX5_count_52 ?_
    have h := Option.some.inj h
    subst h
    exact jx_iret (pc := 55) dX5_count_55
  have h := jx_f c2 h
  by_cases c3 : a1 = (2 : Int32)
  · have h := jx_t c3 h
    refine jx_tabIn (pc := 1) (tgt := 56) dX5_count_1 2 (by rw [c3]; rfl) (by decide) (by decide) rfl (by decide) ?_
    refine jx_aload_n (pc := 56) (k0 := 0) rfl dX5_count_56 ?_
    refine ll_glamp_now (pc := 57) fl_X5_12 dX5_count_57 ?_
    refine ll_gnow_seen (pc := 60) fl_X5_199 dX5_count_60 ?_
    have h := Option.some.inj h
    subst h
    exact jx_iret (pc := 63) dX5_count_63
  have h := jx_f c3 h
  by_cases c4 : a1 = (3 : Int32)
  · have h := jx_t c4 h
    refine jx_tabIn (pc := 1) (tgt := 64) dX5_count_1 3 (by rw [c4]; rfl) (by decide) (by decide) rfl (by decide) ?_
    refine jx_aload_n (pc := 64) (k0 := 0) rfl dX5_count_64 ?_
    refine ll_glamp_now (pc := 65) fl_X5_12 dX5_count_65 ?_
    refine ll_gnow_tales (pc := 68) fl_X5_217 dX5_count_68 ?_
    have h := Option.some.inj h
    subst h
    exact jx_iret (pc := 71) dX5_count_71
  have h := jx_f c4 h
  by_cases c5 : a1 = (4 : Int32)
  · have h := jx_t c5 h
    refine jx_tabIn (pc := 1) (tgt := 72) dX5_count_1 4 (by rw [c5]; rfl) (by decide) (by decide) rfl (by decide) ?_
    refine jx_aload_n (pc := 72) (k0 := 0) rfl dX5_count_72 ?_
    refine ll_glamp_now (pc := 73) fl_X5_12 dX5_count_73 ?_
    refine ll_gnow_signs (pc := 76) fl_X5_52 dX5_count_76 ?_
    have h := Option.some.inj h
    subst h
    exact jx_iret (pc := 79) dX5_count_79
  have h := jx_f c5 h
  by_cases c6 : a1 = (5 : Int32)
  · have h := jx_t c6 h
    refine jx_tabIn (pc := 1) (tgt := 80) dX5_count_1 5 (by rw [c6]; rfl) (by decide) (by decide) rfl (by decide) ?_
    refine jx_aload_n (pc := 80) (k0 := 0) rfl dX5_count_80 ?_
    refine ll_glamp_acts (pc := 81) fl_X5_33 dX5_count_81 ?_
    refine ll_gacts_ran (pc := 84) fl_X5_250 dX5_count_84 ?_
    have h := Option.some.inj h
    subst h
    exact jx_iret (pc := 87) dX5_count_87
  have h := jx_f c6 h
  refine jx_tabOut (pc := 1) (tgt := 88) dX5_count_1 (by have z0 := lv_neT c1 (show (0 : Int32).toInt = 0 from rfl); have z1 := lv_neT c2 (show (1 : Int32).toInt = 1 from rfl); have z2 := lv_neT c3 (show (2 : Int32).toInt = 2 from rfl); have z3 := lv_neT c4 (show (3 : Int32).toInt = 3 from rfl); have z4 := lv_neT c5 (show (4 : Int32).toInt = 4 from rfl); have z5 := lv_neT c6 (show (5 : Int32).toInt = 5 from rfl); omega) (by decide) ?_
  refine jx_iconst (pc := 88) (v := (-1 : Int32)) (by decide) dX5_count_88 ?_
  have h := Option.some.inj h
  subst h
  exact jx_iret (pc := 89) dX5_count_89
theorem dX5_within_0 : decode cX5_within 0 = .ok (.iload_n 1, 1) := by decide +kernel
theorem dX5_within_1 : decode cX5_within 1 = .ok (.iload_n 0, 1) := by decide +kernel
theorem dX5_within_2 : decode cX5_within 2 = .ok (.if_icmp .gt 12, 3) := by decide +kernel
theorem dX5_within_5 : decode cX5_within 5 = .ok (.iload_n 0, 1) := by decide +kernel
theorem dX5_within_6 : decode cX5_within 6 = .ok (.iload_n 2, 1) := by decide +kernel
theorem dX5_within_7 : decode cX5_within 7 = .ok (.if_icmp .gt 7, 3) := by decide +kernel
theorem dX5_within_10 : decode cX5_within 10 = .ok (.iconst 1, 1) := by decide +kernel
theorem dX5_within_11 : decode cX5_within 11 = .ok (.goto 4, 3) := by decide +kernel
theorem dX5_within_14 : decode cX5_within 14 = .ok (.iconst 0, 1) := by decide +kernel
theorem dX5_within_15 : decode cX5_within 15 = .ok (.ireturn, 1) := by decide +kernel
abbrev rm_X5_within : Room := { frames := 0, cells := 0, slots := 0, locals := 0 }
abbrev jJ_X5_within (l : Launch) (G : jx_G) (t : jx_T) (sz : Nat) (σ0 : jx_M) (out : Int32) (pc : Nat) (lv : List (Nat × Value)) (st : List Value) (σ : jx_M) : Prop := jx_J l (ll_env G t) (ll_dyn G t) (ll_rg G) sz RX5 "within" cX5_within 3 (some .boolean) rm_X5_within (fun below args s => MQ below (jx_Qi (ll_dyn G t) σ0 out (jx_A (ll_rg G) sz)) args s 0 0 (jx_A (ll_rg G) sz)) 0 0 pc lv st σ
def f_X5_within (a0 : Int32) (a1 : Int32) (a2 : Int32) : Option Int32 :=
  if a0 < a1 then some (0 : Int32) else if a2 < a0 then some (0 : Int32) else some (1 : Int32)
set_option maxHeartbeats 4000000 in
set_option maxRecDepth 100000 in
theorem k_X5_within (l : Launch) (G : jx_G) (t : jx_T) (hG : ll_ok G) (sz : Nat) (σ : jx_M) (a0 : Int32) (a1 : Int32) (a2 : Int32) (out : Int32) (h : f_X5_within a0 a1 a2 = some out) : Met l yX5_within (Cond.code yX5_within cX5_within 3 (some .boolean) :: jx_ws) rm_X5_within (jx_Pc (ll_env G t) (ll_dyn G t) (ll_rg G) sz σ [.int a0, .int a1, .int a2]) (jx_Qi (ll_dyn G t) σ out (jx_A (ll_rg G) sz)) 0 0 (jx_A (ll_rg G) sz) := by
  unfold f_X5_within at h
  refine jx_met (by decide) (Nat.le_of_ble_eq_true rfl) ?_
  refine jx_sub (lv' := [(0, .int a0), (1, .int a1), (2, .int a2)]) [0, 1, 2] rfl ?_
  refine jx_iload_n (pc := 0) (k0 := 1) rfl dX5_within_0 ?_
  refine jx_iload_n (pc := 1) (k0 := 0) rfl dX5_within_1 ?_
  refine jx_icmp_gt (pc := 2) (tgt := 14) dX5_within_2 (by decide) (fun c1 => ?_) (fun c1 => ?_)
  · have h := jx_t c1 h
    refine jx_iconst (pc := 14) (v := (0 : Int32)) (by decide) dX5_within_14 ?_
    have h := Option.some.inj h
    subst h
    exact jx_zret (pc := 15) (Or.inl rfl) dX5_within_15
  · have h := jx_f c1 h
    refine jx_iload_n (pc := 5) (k0 := 0) rfl dX5_within_5 ?_
    refine jx_iload_n (pc := 6) (k0 := 2) rfl dX5_within_6 ?_
    refine jx_icmp_gt (pc := 7) (tgt := 14) dX5_within_7 (by decide) (fun c2 => ?_) (fun c2 => ?_)
    · have h := jx_t c2 h
      refine jx_iconst (pc := 14) (v := (0 : Int32)) (by decide) dX5_within_14 ?_
      have h := Option.some.inj h
      subst h
      exact jx_zret (pc := 15) (Or.inl rfl) dX5_within_15
    · have h := jx_f c2 h
      refine jx_iconst (pc := 10) (v := (1 : Int32)) (by decide) dX5_within_10 ?_
      refine jx_goto (pc := 11) (tgt := 15) dX5_within_11 (by decide) ?_
      have h := Option.some.inj h
      subst h
      exact jx_zret (pc := 15) (Or.inr rfl) dX5_within_15
theorem dJ6_bitCount_0f7a4_0 : decode cJ6_bitCount_0f7a4 0 = .ok (.iload_n 0, 1) := by decide +kernel
theorem dJ6_bitCount_0f7a4_1 : decode cJ6_bitCount_0f7a4 1 = .ok (.iload_n 0, 1) := by decide +kernel
theorem dJ6_bitCount_0f7a4_2 : decode cJ6_bitCount_0f7a4 2 = .ok (.iconst 1, 1) := by decide +kernel
theorem dJ6_bitCount_0f7a4_3 : decode cJ6_bitCount_0f7a4 3 = .ok (.iushr, 1) := by decide +kernel
theorem dJ6_bitCount_0f7a4_4 : decode cJ6_bitCount_0f7a4 4 = .ok (.ldc_w 265, 3) := by decide +kernel
theorem dJ6_bitCount_0f7a4_7 : decode cJ6_bitCount_0f7a4 7 = .ok (.iand, 1) := by decide +kernel
theorem dJ6_bitCount_0f7a4_8 : decode cJ6_bitCount_0f7a4 8 = .ok (.isub, 1) := by decide +kernel
theorem dJ6_bitCount_0f7a4_9 : decode cJ6_bitCount_0f7a4 9 = .ok (.istore_n 0, 1) := by decide +kernel
theorem dJ6_bitCount_0f7a4_10 : decode cJ6_bitCount_0f7a4 10 = .ok (.iload_n 0, 1) := by decide +kernel
theorem dJ6_bitCount_0f7a4_11 : decode cJ6_bitCount_0f7a4 11 = .ok (.ldc_w 266, 3) := by decide +kernel
theorem dJ6_bitCount_0f7a4_14 : decode cJ6_bitCount_0f7a4 14 = .ok (.iand, 1) := by decide +kernel
theorem dJ6_bitCount_0f7a4_15 : decode cJ6_bitCount_0f7a4 15 = .ok (.iload_n 0, 1) := by decide +kernel
theorem dJ6_bitCount_0f7a4_16 : decode cJ6_bitCount_0f7a4 16 = .ok (.iconst 2, 1) := by decide +kernel
theorem dJ6_bitCount_0f7a4_17 : decode cJ6_bitCount_0f7a4 17 = .ok (.iushr, 1) := by decide +kernel
theorem dJ6_bitCount_0f7a4_18 : decode cJ6_bitCount_0f7a4 18 = .ok (.ldc_w 266, 3) := by decide +kernel
theorem dJ6_bitCount_0f7a4_21 : decode cJ6_bitCount_0f7a4 21 = .ok (.iand, 1) := by decide +kernel
theorem dJ6_bitCount_0f7a4_22 : decode cJ6_bitCount_0f7a4 22 = .ok (.iadd, 1) := by decide +kernel
theorem dJ6_bitCount_0f7a4_23 : decode cJ6_bitCount_0f7a4 23 = .ok (.istore_n 0, 1) := by decide +kernel
theorem dJ6_bitCount_0f7a4_24 : decode cJ6_bitCount_0f7a4 24 = .ok (.iload_n 0, 1) := by decide +kernel
theorem dJ6_bitCount_0f7a4_25 : decode cJ6_bitCount_0f7a4 25 = .ok (.iload_n 0, 1) := by decide +kernel
theorem dJ6_bitCount_0f7a4_26 : decode cJ6_bitCount_0f7a4 26 = .ok (.iconst 4, 1) := by decide +kernel
theorem dJ6_bitCount_0f7a4_27 : decode cJ6_bitCount_0f7a4 27 = .ok (.iushr, 1) := by decide +kernel
theorem dJ6_bitCount_0f7a4_28 : decode cJ6_bitCount_0f7a4 28 = .ok (.iadd, 1) := by decide +kernel
theorem dJ6_bitCount_0f7a4_29 : decode cJ6_bitCount_0f7a4 29 = .ok (.ldc_w 267, 3) := by decide +kernel
theorem dJ6_bitCount_0f7a4_32 : decode cJ6_bitCount_0f7a4 32 = .ok (.iand, 1) := by decide +kernel
theorem dJ6_bitCount_0f7a4_33 : decode cJ6_bitCount_0f7a4 33 = .ok (.istore_n 0, 1) := by decide +kernel
theorem dJ6_bitCount_0f7a4_34 : decode cJ6_bitCount_0f7a4 34 = .ok (.iload_n 0, 1) := by decide +kernel
theorem dJ6_bitCount_0f7a4_35 : decode cJ6_bitCount_0f7a4 35 = .ok (.iload_n 0, 1) := by decide +kernel
theorem dJ6_bitCount_0f7a4_36 : decode cJ6_bitCount_0f7a4 36 = .ok (.bipush 8, 2) := by decide +kernel
theorem dJ6_bitCount_0f7a4_38 : decode cJ6_bitCount_0f7a4 38 = .ok (.iushr, 1) := by decide +kernel
theorem dJ6_bitCount_0f7a4_39 : decode cJ6_bitCount_0f7a4 39 = .ok (.iadd, 1) := by decide +kernel
theorem dJ6_bitCount_0f7a4_40 : decode cJ6_bitCount_0f7a4 40 = .ok (.istore_n 0, 1) := by decide +kernel
theorem dJ6_bitCount_0f7a4_41 : decode cJ6_bitCount_0f7a4 41 = .ok (.iload_n 0, 1) := by decide +kernel
theorem dJ6_bitCount_0f7a4_42 : decode cJ6_bitCount_0f7a4 42 = .ok (.iload_n 0, 1) := by decide +kernel
theorem dJ6_bitCount_0f7a4_43 : decode cJ6_bitCount_0f7a4 43 = .ok (.bipush 16, 2) := by decide +kernel
theorem dJ6_bitCount_0f7a4_45 : decode cJ6_bitCount_0f7a4 45 = .ok (.iushr, 1) := by decide +kernel
theorem dJ6_bitCount_0f7a4_46 : decode cJ6_bitCount_0f7a4 46 = .ok (.iadd, 1) := by decide +kernel
theorem dJ6_bitCount_0f7a4_47 : decode cJ6_bitCount_0f7a4 47 = .ok (.istore_n 0, 1) := by decide +kernel
theorem dJ6_bitCount_0f7a4_48 : decode cJ6_bitCount_0f7a4 48 = .ok (.iload_n 0, 1) := by decide +kernel
theorem dJ6_bitCount_0f7a4_49 : decode cJ6_bitCount_0f7a4 49 = .ok (.bipush 63, 2) := by decide +kernel
theorem dJ6_bitCount_0f7a4_51 : decode cJ6_bitCount_0f7a4 51 = .ok (.iand, 1) := by decide +kernel
theorem dJ6_bitCount_0f7a4_52 : decode cJ6_bitCount_0f7a4 52 = .ok (.ireturn, 1) := by decide +kernel
abbrev rm_J6_bitCount_0f7a4 : Room := { frames := 0, cells := 0, slots := 0, locals := 0 }
abbrev jJ_J6_bitCount_0f7a4 (l : Launch) (G : jx_G) (t : jx_T) (sz : Nat) (σ0 : jx_M) (out : Int32) (pc : Nat) (lv : List (Nat × Value)) (st : List Value) (σ : jx_M) : Prop := jx_J l (ll_env G t) (ll_dyn G t) (ll_rg G) sz RJ6 "bitCount" cJ6_bitCount_0f7a4 1 (some .int) rm_J6_bitCount_0f7a4 (fun below args s => MQ below (jx_Qi (ll_dyn G t) σ0 out (jx_A (ll_rg G) sz)) args s 0 0 (jx_A (ll_rg G) sz)) 0 0 pc lv st σ
def f_J6_bitCount_0f7a4 (a0 : Int32) : Option Int32 :=
  jx_lt ((a0 - ((a0.toUInt32 >>> ((1 : Int32).toUInt32 &&& Int32.toUInt32 31)).toInt32 &&& (1431655765 : Int32)))) (fun x1 => jx_lt (((x1 &&& (858993459 : Int32)) + ((x1.toUInt32 >>> ((2 : Int32).toUInt32 &&& Int32.toUInt32 31)).toInt32 &&& (858993459 : Int32)))) (fun x2 => jx_lt (((x2 + (x2.toUInt32 >>> ((4 : Int32).toUInt32 &&& Int32.toUInt32 31)).toInt32) &&& (252645135 : Int32))) (fun x3 => jx_lt ((x3 + (x3.toUInt32 >>> ((8 : Int32).toUInt32 &&& Int32.toUInt32 31)).toInt32)) (fun x4 => jx_lt ((x4 + (x4.toUInt32 >>> ((16 : Int32).toUInt32 &&& Int32.toUInt32 31)).toInt32)) (fun x5 => some (x5 &&& (63 : Int32)))))))
set_option maxHeartbeats 4000000 in
set_option maxRecDepth 100000 in
theorem k_J6_bitCount_0f7a4 (l : Launch) (G : jx_G) (t : jx_T) (hG : ll_ok G) (sz : Nat) (σ : jx_M) (a0 : Int32) (out : Int32) (h : f_J6_bitCount_0f7a4 a0 = some out) : Met l yJ6_bitCount_0f7a4 (Cond.code yJ6_bitCount_0f7a4 cJ6_bitCount_0f7a4 1 (some .int) :: jx_ws) rm_J6_bitCount_0f7a4 (jx_Pc (ll_env G t) (ll_dyn G t) (ll_rg G) sz σ [.int a0]) (jx_Qi (ll_dyn G t) σ out (jx_A (ll_rg G) sz)) 0 0 (jx_A (ll_rg G) sz) := by
  unfold f_J6_bitCount_0f7a4 at h
  refine jx_met (by decide) (Nat.le_of_ble_eq_true rfl) ?_
  refine jx_sub (lv' := [(0, .int a0)]) [0] rfl ?_
  refine jx_iload_n (pc := 0) (k0 := 0) rfl dJ6_bitCount_0f7a4_0 ?_
  refine jx_iload_n (pc := 1) (k0 := 0) rfl dJ6_bitCount_0f7a4_1 ?_
  refine jx_iconst (pc := 2) (v := (1 : Int32)) (by decide) dJ6_bitCount_0f7a4_2 ?_
  refine jx_iushr (pc := 3) dJ6_bitCount_0f7a4_3 ?_
  refine jx_ldc_w (pc := 4) cn_J6_265 dJ6_bitCount_0f7a4_4 ?_
  refine jx_iand (pc := 7) dJ6_bitCount_0f7a4_7 ?_
  refine jx_isub (pc := 8) dJ6_bitCount_0f7a4_8 ?_
  obtain ⟨x1, ex1, h⟩ := jx_lt_o h
  refine jx_istore_n (pc := 9) (i := 0) rfl ex1 (by decide) (lv' := [(0, .int x1)]) rfl dJ6_bitCount_0f7a4_9 ?_
  refine jx_iload_n (pc := 10) (k0 := 0) rfl dJ6_bitCount_0f7a4_10 ?_
  refine jx_ldc_w (pc := 11) cn_J6_266 dJ6_bitCount_0f7a4_11 ?_
  refine jx_iand (pc := 14) dJ6_bitCount_0f7a4_14 ?_
  refine jx_iload_n (pc := 15) (k0 := 0) rfl dJ6_bitCount_0f7a4_15 ?_
  refine jx_iconst (pc := 16) (v := (2 : Int32)) (by decide) dJ6_bitCount_0f7a4_16 ?_
  refine jx_iushr (pc := 17) dJ6_bitCount_0f7a4_17 ?_
  refine jx_ldc_w (pc := 18) cn_J6_266 dJ6_bitCount_0f7a4_18 ?_
  refine jx_iand (pc := 21) dJ6_bitCount_0f7a4_21 ?_
  refine jx_iadd (pc := 22) dJ6_bitCount_0f7a4_22 ?_
  obtain ⟨x2, ex2, h⟩ := jx_lt_o h
  refine jx_istore_n (pc := 23) (i := 0) rfl ex2 (by decide) (lv' := [(0, .int x2)]) rfl dJ6_bitCount_0f7a4_23 ?_
  refine jx_iload_n (pc := 24) (k0 := 0) rfl dJ6_bitCount_0f7a4_24 ?_
  refine jx_iload_n (pc := 25) (k0 := 0) rfl dJ6_bitCount_0f7a4_25 ?_
  refine jx_iconst (pc := 26) (v := (4 : Int32)) (by decide) dJ6_bitCount_0f7a4_26 ?_
  refine jx_iushr (pc := 27) dJ6_bitCount_0f7a4_27 ?_
  refine jx_iadd (pc := 28) dJ6_bitCount_0f7a4_28 ?_
  refine jx_ldc_w (pc := 29) cn_J6_267 dJ6_bitCount_0f7a4_29 ?_
  refine jx_iand (pc := 32) dJ6_bitCount_0f7a4_32 ?_
  obtain ⟨x3, ex3, h⟩ := jx_lt_o h
  refine jx_istore_n (pc := 33) (i := 0) rfl ex3 (by decide) (lv' := [(0, .int x3)]) rfl dJ6_bitCount_0f7a4_33 ?_
  refine jx_iload_n (pc := 34) (k0 := 0) rfl dJ6_bitCount_0f7a4_34 ?_
  refine jx_iload_n (pc := 35) (k0 := 0) rfl dJ6_bitCount_0f7a4_35 ?_
  refine jx_bipush (pc := 36) (v := (8 : Int32)) (by decide) dJ6_bitCount_0f7a4_36 ?_
  refine jx_iushr (pc := 38) dJ6_bitCount_0f7a4_38 ?_
  refine jx_iadd (pc := 39) dJ6_bitCount_0f7a4_39 ?_
  obtain ⟨x4, ex4, h⟩ := jx_lt_o h
  refine jx_istore_n (pc := 40) (i := 0) rfl ex4 (by decide) (lv' := [(0, .int x4)]) rfl dJ6_bitCount_0f7a4_40 ?_
  refine jx_iload_n (pc := 41) (k0 := 0) rfl dJ6_bitCount_0f7a4_41 ?_
  refine jx_iload_n (pc := 42) (k0 := 0) rfl dJ6_bitCount_0f7a4_42 ?_
  refine jx_bipush (pc := 43) (v := (16 : Int32)) (by decide) dJ6_bitCount_0f7a4_43 ?_
  refine jx_iushr (pc := 45) dJ6_bitCount_0f7a4_45 ?_
  refine jx_iadd (pc := 46) dJ6_bitCount_0f7a4_46 ?_
  obtain ⟨x5, ex5, h⟩ := jx_lt_o h
  refine jx_istore_n (pc := 47) (i := 0) rfl ex5 (by decide) (lv' := [(0, .int x5)]) rfl dJ6_bitCount_0f7a4_47 ?_
  refine jx_iload_n (pc := 48) (k0 := 0) rfl dJ6_bitCount_0f7a4_48 ?_
  refine jx_bipush (pc := 49) (v := (63 : Int32)) (by decide) dJ6_bitCount_0f7a4_49 ?_
  refine jx_iand (pc := 51) dJ6_bitCount_0f7a4_51 ?_
  have h := Option.some.inj h
  subst h
  exact jx_iret (pc := 52) dJ6_bitCount_0f7a4_52
theorem dJ7_fill_53178_0 : decode cJ7_fill_53178 0 = .ok (.iconst 0, 1) := by decide +kernel
theorem dJ7_fill_53178_1 : decode cJ7_fill_53178 1 = .ok (.istore_n 2, 1) := by decide +kernel
theorem dJ7_fill_53178_2 : decode cJ7_fill_53178 2 = .ok (.aload_n 0, 1) := by decide +kernel
theorem dJ7_fill_53178_3 : decode cJ7_fill_53178 3 = .ok (.arraylength, 1) := by decide +kernel
theorem dJ7_fill_53178_4 : decode cJ7_fill_53178 4 = .ok (.istore_n 3, 1) := by decide +kernel
theorem dJ7_fill_53178_5 : decode cJ7_fill_53178 5 = .ok (.iload_n 2, 1) := by decide +kernel
theorem dJ7_fill_53178_6 : decode cJ7_fill_53178 6 = .ok (.iload_n 3, 1) := by decide +kernel
theorem dJ7_fill_53178_7 : decode cJ7_fill_53178 7 = .ok (.if_icmp .ge 13, 3) := by decide +kernel
theorem dJ7_fill_53178_10 : decode cJ7_fill_53178 10 = .ok (.aload_n 0, 1) := by decide +kernel
theorem dJ7_fill_53178_11 : decode cJ7_fill_53178 11 = .ok (.iload_n 2, 1) := by decide +kernel
theorem dJ7_fill_53178_12 : decode cJ7_fill_53178 12 = .ok (.iload_n 1, 1) := by decide +kernel
theorem dJ7_fill_53178_13 : decode cJ7_fill_53178 13 = .ok (.iastore, 1) := by decide +kernel
theorem dJ7_fill_53178_14 : decode cJ7_fill_53178 14 = .ok (.iinc 2 1, 3) := by decide +kernel
theorem dJ7_fill_53178_17 : decode cJ7_fill_53178 17 = .ok (.goto (-12), 3) := by decide +kernel
theorem dJ7_fill_53178_20 : decode cJ7_fill_53178 20 = .ok (.return_, 1) := by decide +kernel
abbrev rm_J7_fill_53178 : Room := { frames := 0, cells := 0, slots := 0, locals := 0 }
abbrev jJ_J7_fill_53178 (l : Launch) (G : jx_G) (t : jx_T) (sz : Nat) (out : jx_M) (pc : Nat) (lv : List (Nat × Value)) (st : List Value) (σ : jx_M) : Prop := jx_J l (ll_env G t) (ll_dyn G t) (ll_rg G) sz RJ7 "fill" cJ7_fill_53178 4 none rm_J7_fill_53178 (fun below args s => MQ below (jx_Qv (ll_dyn G t) out (jx_A (ll_rg G) sz)) args s 0 0 (jx_A (ll_rg G) sz)) 0 0 pc lv st σ
def g_J7_fill_53178_5 (t : jx_T) (k5 : jx_M → Nat → Int32 → Int32 → Int32 → Option jx_M) (σ : jx_M) (v0 : Nat) (v1 : Int32) (v2 : Int32) (v3 : Int32) : Option jx_M :=
  if v3 ≤ v2 then some σ else jx_gd (jx_in v2 (ll_len v0)) (jx_lt (jx_mu σ v0 v2.toNatClampNeg v1) (fun σ3 => jx_lt (v2 + (1 : Int32)) (fun x4 => (k5 σ3 v0 v1 x4 v3))))
set_option maxHeartbeats 4000000 in
set_option maxRecDepth 100000 in
theorem jg_J7_fill_53178_5 (l : Launch) (G : jx_G) (t : jx_T) (hG : ll_ok G) (sz : Nat) (out : jx_M) (k5 : jx_M → Nat → Int32 → Int32 → Int32 → Option jx_M) (h5 : ∀ (σ : jx_M) (v0 : Nat) (v1 : Int32) (v2 : Int32) (v3 : Int32), k5 σ v0 v1 v2 v3 = some out → jJ_J7_fill_53178 l G t sz out 5 [(0, .ref (G.2 (100 + v0))), (1, .int v1), (2, .int v2), (3, .int v3)] [] σ) (σ : jx_M) (v0 : Nat) (v1 : Int32) (v2 : Int32) (v3 : Int32) (h : g_J7_fill_53178_5 t k5 σ v0 v1 v2 v3 = some out) : jJ_J7_fill_53178 l G t sz out 5 [(0, .ref (G.2 (100 + v0))), (1, .int v1), (2, .int v2), (3, .int v3)] [] σ := by
  unfold g_J7_fill_53178_5 at h
  refine jx_iload_n (pc := 5) (k0 := 2) rfl dJ7_fill_53178_5 ?_
  refine jx_iload_n (pc := 6) (k0 := 3) rfl dJ7_fill_53178_6 ?_
  refine jx_icmp_ge (pc := 7) (tgt := 20) dJ7_fill_53178_7 (by decide) (fun c1 => ?_) (fun c1 => ?_)
  · have h := jx_t c1 h
    have h := Option.some.inj h
    subst h
    exact jx_vret (pc := 20) dJ7_fill_53178_20
  · have h := jx_f c1 h
    refine jx_aload_n (pc := 10) (k0 := 0) rfl dJ7_fill_53178_10 ?_
    refine jx_iload_n (pc := 11) (k0 := 2) rfl dJ7_fill_53178_11 ?_
    refine jx_iload_n (pc := 12) (k0 := 1) rfl dJ7_fill_53178_12 ?_
    obtain ⟨g2, h⟩ := jx_gd_o h
    obtain ⟨σ3, eσ3, h⟩ := jx_lt_o h
    refine ll_s (pc := 13) (k := v0) hG (jx_in_o g2) rfl eσ3 dJ7_fill_53178_13 ?_
    obtain ⟨x4, ex4, h⟩ := jx_lt_o h
    refine jx_iinc (pc := 14) (i := 2) (v := v2) rfl ex4 (n := 1) (by decide) (by decide) (lv' := [(2, .int x4), (0, .ref (G.2 (100 + v0))), (1, .int v1), (3, .int v3)]) rfl dJ7_fill_53178_14 ?_
    refine jx_goto (pc := 17) (tgt := 5) dJ7_fill_53178_17 (by decide) ?_
    exact jx_sub [1, 2, 0, 3] rfl (h5 σ3 v0 v1 x4 v3 h)
def b_J7_fill_53178_5 (t : jx_T)  : Nat → jx_M → Nat → Int32 → Int32 → Int32 → Option jx_M
  | 0, _, _, _, _, _ => none
  | n + 1, σ, v0, v1, v2, v3 => g_J7_fill_53178_5 t (b_J7_fill_53178_5 t n) σ v0 v1 v2 v3
theorem jb_J7_fill_53178_5 (l : Launch) (G : jx_G) (t : jx_T) (hG : ll_ok G) (sz : Nat) (out : jx_M)  : ∀ (n : Nat) (σ : jx_M) (v0 : Nat) (v1 : Int32) (v2 : Int32) (v3 : Int32), b_J7_fill_53178_5 t n σ v0 v1 v2 v3 = some out → jJ_J7_fill_53178 l G t sz out 5 [(0, .ref (G.2 (100 + v0))), (1, .int v1), (2, .int v2), (3, .int v3)] [] σ := by
  intro n
  induction n with
  | zero =>
    intro σ v0 v1 v2 v3 h
    cases h
  | succ n ih =>
    intro σ v0 v1 v2 v3 h
    exact jg_J7_fill_53178_5 l G t hG sz out (b_J7_fill_53178_5 t n) ih σ v0 v1 v2 v3 h
def f_J7_fill_53178 (t : jx_T) (σ : jx_M) (a0 : Nat) (a1 : Int32) : Option jx_M :=
  jx_gd (decide (1 ≤ a0 ∧ a0 ≤ 65)) (jx_lt ((Int32.ofNat (ll_len a0))) (fun x2 => (b_J7_fill_53178_5 t jx_fuel σ a0 a1 (0 : Int32) x2)))
set_option maxHeartbeats 4000000 in
set_option maxRecDepth 100000 in
theorem k_J7_fill_53178 (l : Launch) (G : jx_G) (t : jx_T) (hG : ll_ok G) (sz : Nat) (σ : jx_M) (a0 : Nat) (a1 : Int32) (out : jx_M) (h : f_J7_fill_53178 t σ a0 a1 = some out) : Met l yJ7_fill_53178 (Cond.code yJ7_fill_53178 cJ7_fill_53178 4 none :: jx_ws) rm_J7_fill_53178 (jx_Pc (ll_env G t) (ll_dyn G t) (ll_rg G) sz σ [.ref (G.2 (100 + a0)), .int a1]) (jx_Qv (ll_dyn G t) out (jx_A (ll_rg G) sz)) 0 0 (jx_A (ll_rg G) sz) := by
  unfold f_J7_fill_53178 at h
  refine jx_met (by decide) (Nat.le_of_ble_eq_true rfl) ?_
  refine jx_sub (lv' := [(0, .ref (G.2 (100 + a0))), (1, .int a1)]) [0, 1] rfl ?_
  refine jx_iconst (pc := 0) (v := (0 : Int32)) (by decide) dJ7_fill_53178_0 ?_
  refine jx_istore_n (pc := 1) (i := 2) rfl rfl (by decide) (lv' := [(2, .int (0 : Int32)), (0, .ref (G.2 (100 + a0))), (1, .int a1)]) rfl dJ7_fill_53178_1 ?_
  refine jx_aload_n (pc := 2) (k0 := 0) rfl dJ7_fill_53178_2 ?_
  obtain ⟨g1, h⟩ := jx_gd_o h
  refine ll_len1 (pc := 3) (k := a0) (of_decide_eq_true g1).1 (of_decide_eq_true g1).2 rfl dJ7_fill_53178_3 ?_
  obtain ⟨x2, ex2, h⟩ := jx_lt_o h
  refine jx_istore_n (pc := 4) (i := 3) rfl ex2 (by decide) (lv' := [(3, .int x2), (2, .int (0 : Int32)), (0, .ref (G.2 (100 + a0))), (1, .int a1)]) rfl dJ7_fill_53178_4 ?_
  exact jx_sub [2, 3, 1, 0] rfl (jb_J7_fill_53178_5 l G t hG sz out jx_fuel σ a0 a1 (0 : Int32) x2 h)
theorem dX0_run_0 : decode cX0_run 0 = .ok (.iload_n 2, 1) := by decide +kernel
theorem dX0_run_1 : decode cX0_run 1 = .ok (.iload_n 3, 1) := by decide +kernel
theorem dX0_run_2 : decode cX0_run 2 = .ok (.invokestatic 45, 3) := by decide +kernel
theorem dX0_run_5 : decode cX0_run 5 = .ok (.istore 6, 2) := by decide +kernel
theorem dX0_run_7 : decode cX0_run 7 = .ok (.iload 6, 2) := by decide +kernel
theorem dX0_run_9 : decode cX0_run 9 = .ok (.ifCond .lt 10, 3) := by decide +kernel
theorem dX0_run_12 : decode cX0_run 12 = .ok (.iload 5, 2) := by decide +kernel
theorem dX0_run_14 : decode cX0_run 14 = .ok (.bipush 20, 2) := by decide +kernel
theorem dX0_run_16 : decode cX0_run 16 = .ok (.if_icmp .le 5, 3) := by decide +kernel
theorem dX0_run_19 : decode cX0_run 19 = .ok (.iconst 0, 1) := by decide +kernel
theorem dX0_run_20 : decode cX0_run 20 = .ok (.ireturn, 1) := by decide +kernel
theorem dX0_run_21 : decode cX0_run 21 = .ok (.getstatic 32, 3) := by decide +kernel
theorem dX0_run_24 : decode cX0_run 24 = .ok (.iload 6, 2) := by decide +kernel
theorem dX0_run_26 : decode cX0_run 26 = .ok (.iconst 3, 1) := by decide +kernel
theorem dX0_run_27 : decode cX0_run 27 = .ok (.imul, 1) := by decide +kernel
theorem dX0_run_28 : decode cX0_run 28 = .ok (.iload_n 3, 1) := by decide +kernel
theorem dX0_run_29 : decode cX0_run 29 = .ok (.iadd, 1) := by decide +kernel
theorem dX0_run_30 : decode cX0_run 30 = .ok (.iaload, 1) := by decide +kernel
theorem dX0_run_31 : decode cX0_run 31 = .ok (.istore 7, 2) := by decide +kernel
theorem dX0_run_33 : decode cX0_run 33 = .ok (.aload_n 0, 1) := by decide +kernel
theorem dX0_run_34 : decode cX0_run 34 = .ok (.iload 7, 2) := by decide +kernel
theorem dX0_run_36 : decode cX0_run 36 = .ok (.invokevirtual 48, 3) := by decide +kernel
theorem dX0_run_39 : decode cX0_run 39 = .ok (.aload_n 0, 1) := by decide +kernel
theorem dX0_run_40 : decode cX0_run 40 = .ok (.getfield 19, 3) := by decide +kernel
theorem dX0_run_43 : decode cX0_run 43 = .ok (.getfield 35, 3) := by decide +kernel
theorem dX0_run_46 : decode cX0_run 46 = .ok (.iload_n 1, 1) := by decide +kernel
theorem dX0_run_47 : decode cX0_run 47 = .ok (.aaload, 1) := by decide +kernel
theorem dX0_run_48 : decode cX0_run 48 = .ok (.iconst 0, 1) := by decide +kernel
theorem dX0_run_49 : decode cX0_run 49 = .ok (.iaload, 1) := by decide +kernel
theorem dX0_run_50 : decode cX0_run 50 = .ok (.istore 8, 2) := by decide +kernel
theorem dX0_run_52 : decode cX0_run 52 = .ok (.getstatic 29, 3) := by decide +kernel
theorem dX0_run_55 : decode cX0_run 55 = .ok (.iload 6, 2) := by decide +kernel
theorem dX0_run_57 : decode cX0_run 57 = .ok (.iaload, 1) := by decide +kernel
theorem dX0_run_58 : decode cX0_run 58 = .ok (.istore 9, 2) := by decide +kernel
theorem dX0_run_60 : decode cX0_run 60 = .ok (.aload_n 0, 1) := by decide +kernel
theorem dX0_run_61 : decode cX0_run 61 = .ok (.getfield 19, 3) := by decide +kernel
theorem dX0_run_64 : decode cX0_run 64 = .ok (.getfield 35, 3) := by decide +kernel
theorem dX0_run_67 : decode cX0_run 67 = .ok (.iload_n 1, 1) := by decide +kernel
theorem dX0_run_68 : decode cX0_run 68 = .ok (.aaload, 1) := by decide +kernel
theorem dX0_run_69 : decode cX0_run 69 = .ok (.iconst 1, 1) := by decide +kernel
theorem dX0_run_70 : decode cX0_run 70 = .ok (.iaload, 1) := by decide +kernel
theorem dX0_run_71 : decode cX0_run 71 = .ok (.istore 10, 2) := by decide +kernel
theorem dX0_run_73 : decode cX0_run 73 = .ok (.iload 7, 2) := by decide +kernel
theorem dX0_run_75 : decode cX0_run 75 = .ok (.lookupswitch 238 #[(1, 81), (2, 86), (3, 104), (11, 121), (21, 138), (31, 154), (41, 172), (51, 203), (61, 220)], 81) := by decide +kernel
theorem dX0_run_156 : decode cX0_run 156 = .ok (.iload 4, 2) := by decide +kernel
theorem dX0_run_158 : decode cX0_run 158 = .ok (.iload_n 1, 1) := by decide +kernel
theorem dX0_run_159 : decode cX0_run 159 = .ok (.iadd, 1) := by decide +kernel
theorem dX0_run_160 : decode cX0_run 160 = .ok (.ireturn, 1) := by decide +kernel
theorem dX0_run_161 : decode cX0_run 161 = .ok (.aload_n 0, 1) := by decide +kernel
theorem dX0_run_162 : decode cX0_run 162 = .ok (.iload_n 1, 1) := by decide +kernel
theorem dX0_run_163 : decode cX0_run 163 = .ok (.iload 8, 2) := by decide +kernel
theorem dX0_run_165 : decode cX0_run 165 = .ok (.iconst 0, 1) := by decide +kernel
theorem dX0_run_166 : decode cX0_run 166 = .ok (.iload 4, 2) := by decide +kernel
theorem dX0_run_168 : decode cX0_run 168 = .ok (.iload 5, 2) := by decide +kernel
theorem dX0_run_170 : decode cX0_run 170 = .ok (.iconst 1, 1) := by decide +kernel
theorem dX0_run_171 : decode cX0_run 171 = .ok (.iadd, 1) := by decide +kernel
theorem dX0_run_172 : decode cX0_run 172 = .ok (.invokevirtual 41, 3) := by decide +kernel
theorem dX0_run_175 : decode cX0_run 175 = .ok (.iload 10, 2) := by decide +kernel
theorem dX0_run_177 : decode cX0_run 177 = .ok (.isub, 1) := by decide +kernel
theorem dX0_run_178 : decode cX0_run 178 = .ok (.ireturn, 1) := by decide +kernel
theorem dX0_run_179 : decode cX0_run 179 = .ok (.aload_n 0, 1) := by decide +kernel
theorem dX0_run_180 : decode cX0_run 180 = .ok (.iload_n 1, 1) := by decide +kernel
theorem dX0_run_181 : decode cX0_run 181 = .ok (.iload 8, 2) := by decide +kernel
theorem dX0_run_183 : decode cX0_run 183 = .ok (.iconst 1, 1) := by decide +kernel
theorem dX0_run_184 : decode cX0_run 184 = .ok (.iload 4, 2) := by decide +kernel
theorem dX0_run_186 : decode cX0_run 186 = .ok (.iload 5, 2) := by decide +kernel
theorem dX0_run_188 : decode cX0_run 188 = .ok (.iconst 1, 1) := by decide +kernel
theorem dX0_run_189 : decode cX0_run 189 = .ok (.iadd, 1) := by decide +kernel
theorem dX0_run_190 : decode cX0_run 190 = .ok (.invokevirtual 41, 3) := by decide +kernel
theorem dX0_run_193 : decode cX0_run 193 = .ok (.iconst 2, 1) := by decide +kernel
theorem dX0_run_194 : decode cX0_run 194 = .ok (.imul, 1) := by decide +kernel
theorem dX0_run_195 : decode cX0_run 195 = .ok (.ireturn, 1) := by decide +kernel
theorem dX0_run_196 : decode cX0_run 196 = .ok (.aload_n 0, 1) := by decide +kernel
theorem dX0_run_197 : decode cX0_run 197 = .ok (.iload_n 1, 1) := by decide +kernel
theorem dX0_run_198 : decode cX0_run 198 = .ok (.iload 9, 2) := by decide +kernel
theorem dX0_run_200 : decode cX0_run 200 = .ok (.iconst 0, 1) := by decide +kernel
theorem dX0_run_201 : decode cX0_run 201 = .ok (.iload 4, 2) := by decide +kernel
theorem dX0_run_203 : decode cX0_run 203 = .ok (.iconst 3, 1) := by decide +kernel
theorem dX0_run_204 : decode cX0_run 204 = .ok (.imul, 1) := by decide +kernel
theorem dX0_run_205 : decode cX0_run 205 = .ok (.iload 5, 2) := by decide +kernel
theorem dX0_run_207 : decode cX0_run 207 = .ok (.iconst 1, 1) := by decide +kernel
theorem dX0_run_208 : decode cX0_run 208 = .ok (.iadd, 1) := by decide +kernel
theorem dX0_run_209 : decode cX0_run 209 = .ok (.invokevirtual 41, 3) := by decide +kernel
theorem dX0_run_212 : decode cX0_run 212 = .ok (.ireturn, 1) := by decide +kernel
theorem dX0_run_213 : decode cX0_run 213 = .ok (.aload_n 0, 1) := by decide +kernel
theorem dX0_run_214 : decode cX0_run 214 = .ok (.iload_n 1, 1) := by decide +kernel
theorem dX0_run_215 : decode cX0_run 215 = .ok (.iload 9, 2) := by decide +kernel
theorem dX0_run_217 : decode cX0_run 217 = .ok (.iconst 1, 1) := by decide +kernel
theorem dX0_run_218 : decode cX0_run 218 = .ok (.iload 4, 2) := by decide +kernel
theorem dX0_run_220 : decode cX0_run 220 = .ok (.iload 5, 2) := by decide +kernel
theorem dX0_run_222 : decode cX0_run 222 = .ok (.iconst 1, 1) := by decide +kernel
theorem dX0_run_223 : decode cX0_run 223 = .ok (.iadd, 1) := by decide +kernel
theorem dX0_run_224 : decode cX0_run 224 = .ok (.invokevirtual 41, 3) := by decide +kernel
theorem dX0_run_227 : decode cX0_run 227 = .ok (.ineg, 1) := by decide +kernel
theorem dX0_run_228 : decode cX0_run 228 = .ok (.ireturn, 1) := by decide +kernel
theorem dX0_run_229 : decode cX0_run 229 = .ok (.aload_n 0, 1) := by decide +kernel
theorem dX0_run_230 : decode cX0_run 230 = .ok (.iload_n 1, 1) := by decide +kernel
theorem dX0_run_231 : decode cX0_run 231 = .ok (.iload 9, 2) := by decide +kernel
theorem dX0_run_233 : decode cX0_run 233 = .ok (.iconst 2, 1) := by decide +kernel
theorem dX0_run_234 : decode cX0_run 234 = .ok (.iload 4, 2) := by decide +kernel
theorem dX0_run_236 : decode cX0_run 236 = .ok (.iload 5, 2) := by decide +kernel
theorem dX0_run_238 : decode cX0_run 238 = .ok (.iconst 1, 1) := by decide +kernel
theorem dX0_run_239 : decode cX0_run 239 = .ok (.iadd, 1) := by decide +kernel
theorem dX0_run_240 : decode cX0_run 240 = .ok (.invokevirtual 41, 3) := by decide +kernel
theorem dX0_run_243 : decode cX0_run 243 = .ok (.bipush 7, 2) := by decide +kernel
theorem dX0_run_245 : decode cX0_run 245 = .ok (.ixor, 1) := by decide +kernel
theorem dX0_run_246 : decode cX0_run 246 = .ok (.ireturn, 1) := by decide +kernel
theorem dX0_run_247 : decode cX0_run 247 = .ok (.aload_n 0, 1) := by decide +kernel
theorem dX0_run_248 : decode cX0_run 248 = .ok (.iload_n 1, 1) := by decide +kernel
theorem dX0_run_249 : decode cX0_run 249 = .ok (.iload 9, 2) := by decide +kernel
theorem dX0_run_251 : decode cX0_run 251 = .ok (.iconst 2, 1) := by decide +kernel
theorem dX0_run_252 : decode cX0_run 252 = .ok (.iload 4, 2) := by decide +kernel
theorem dX0_run_254 : decode cX0_run 254 = .ok (.iconst 1, 1) := by decide +kernel
theorem dX0_run_255 : decode cX0_run 255 = .ok (.isub, 1) := by decide +kernel
theorem dX0_run_256 : decode cX0_run 256 = .ok (.iload 5, 2) := by decide +kernel
theorem dX0_run_258 : decode cX0_run 258 = .ok (.iconst 1, 1) := by decide +kernel
theorem dX0_run_259 : decode cX0_run 259 = .ok (.iadd, 1) := by decide +kernel
theorem dX0_run_260 : decode cX0_run 260 = .ok (.invokevirtual 41, 3) := by decide +kernel
theorem dX0_run_263 : decode cX0_run 263 = .ok (.aload_n 0, 1) := by decide +kernel
theorem dX0_run_264 : decode cX0_run 264 = .ok (.iload_n 1, 1) := by decide +kernel
theorem dX0_run_265 : decode cX0_run 265 = .ok (.iload 8, 2) := by decide +kernel
theorem dX0_run_267 : decode cX0_run 267 = .ok (.iconst 0, 1) := by decide +kernel
theorem dX0_run_268 : decode cX0_run 268 = .ok (.iconst 2, 1) := by decide +kernel
theorem dX0_run_269 : decode cX0_run 269 = .ok (.iload 5, 2) := by decide +kernel
theorem dX0_run_271 : decode cX0_run 271 = .ok (.iconst 1, 1) := by decide +kernel
theorem dX0_run_272 : decode cX0_run 272 = .ok (.iadd, 1) := by decide +kernel
theorem dX0_run_273 : decode cX0_run 273 = .ok (.invokevirtual 41, 3) := by decide +kernel
theorem dX0_run_276 : decode cX0_run 276 = .ok (.iadd, 1) := by decide +kernel
theorem dX0_run_277 : decode cX0_run 277 = .ok (.ireturn, 1) := by decide +kernel
theorem dX0_run_278 : decode cX0_run 278 = .ok (.aload_n 0, 1) := by decide +kernel
theorem dX0_run_279 : decode cX0_run 279 = .ok (.iload_n 1, 1) := by decide +kernel
theorem dX0_run_280 : decode cX0_run 280 = .ok (.iload 9, 2) := by decide +kernel
theorem dX0_run_282 : decode cX0_run 282 = .ok (.iconst 0, 1) := by decide +kernel
theorem dX0_run_283 : decode cX0_run 283 = .ok (.iload 4, 2) := by decide +kernel
theorem dX0_run_285 : decode cX0_run 285 = .ok (.iload 5, 2) := by decide +kernel
theorem dX0_run_287 : decode cX0_run 287 = .ok (.iconst 1, 1) := by decide +kernel
theorem dX0_run_288 : decode cX0_run 288 = .ok (.iadd, 1) := by decide +kernel
theorem dX0_run_289 : decode cX0_run 289 = .ok (.invokevirtual 41, 3) := by decide +kernel
theorem dX0_run_292 : decode cX0_run 292 = .ok (.iload_n 1, 1) := by decide +kernel
theorem dX0_run_293 : decode cX0_run 293 = .ok (.ixor, 1) := by decide +kernel
theorem dX0_run_294 : decode cX0_run 294 = .ok (.ireturn, 1) := by decide +kernel
theorem dX0_run_295 : decode cX0_run 295 = .ok (.aload_n 0, 1) := by decide +kernel
theorem dX0_run_296 : decode cX0_run 296 = .ok (.iload_n 1, 1) := by decide +kernel
theorem dX0_run_297 : decode cX0_run 297 = .ok (.iload 9, 2) := by decide +kernel
theorem dX0_run_299 : decode cX0_run 299 = .ok (.iconst 1, 1) := by decide +kernel
theorem dX0_run_300 : decode cX0_run 300 = .ok (.iload 4, 2) := by decide +kernel
theorem dX0_run_302 : decode cX0_run 302 = .ok (.iload 5, 2) := by decide +kernel
theorem dX0_run_304 : decode cX0_run 304 = .ok (.iconst 1, 1) := by decide +kernel
theorem dX0_run_305 : decode cX0_run 305 = .ok (.iadd, 1) := by decide +kernel
theorem dX0_run_306 : decode cX0_run 306 = .ok (.invokevirtual 41, 3) := by decide +kernel
theorem dX0_run_309 : decode cX0_run 309 = .ok (.iload 10, 2) := by decide +kernel
theorem dX0_run_311 : decode cX0_run 311 = .ok (.iadd, 1) := by decide +kernel
theorem dX0_run_312 : decode cX0_run 312 = .ok (.ireturn, 1) := by decide +kernel
theorem dX0_run_313 : decode cX0_run 313 = .ok (.iconst 0, 1) := by decide +kernel
theorem dX0_run_314 : decode cX0_run 314 = .ok (.ireturn, 1) := by decide +kernel
abbrev rm_X0_run (fr lo : Nat) : Room := { frames := fr + 1, cells := 0, slots := 0, locals := lo + 30 }
abbrev jJ_X0_run (l : Launch) (G : jx_G) (t : jx_T) (fr lo : Nat) (sz : Nat) (out : (Int32 × jx_M)) (pc : Nat) (lv : List (Nat × Value)) (st : List Value) (σ : jx_M) : Prop := jx_J l (ll_env G t) (ll_dyn G t) (ll_rg G) sz RX0 "run" cX0_run 11 (some .int) (rm_X0_run fr lo) (fun below args s => MQ below (jx_Qi (ll_dyn G t) out.2 out.1 (jx_A (ll_rg G) sz)) args s 0 0 (jx_A (ll_rg G) sz)) 0 0 pc lv st σ
def fB_X0_run (t : jx_T) (F : jx_M → Int32 → Int32 → Int32 → Int32 → Int32 → Option (Int32 × jx_M)) (σ : jx_M) (a1 : Int32) (a2 : Int32) (a3 : Int32) (a4 : Int32) (a5 : Int32) : Option (Int32 × jx_M) :=
  jx_bd (f_X0_doerOf t σ a2 a3) (fun q1 => if q1 < 0 then some ((0 : Int32), σ) else if a5 ≤ (20 : Int32) then jx_gd (jx_in ((q1 * (3 : Int32)) + a3) 21) (jx_lt ((zs_BODIES ((q1 * (3 : Int32)) + a3).toNatClampNeg)) (fun x5 => jx_bd (f_X0_begin t σ x5) (fun q6 => jx_gd (jx_in a1 6) (jx_gd (jx_in (0 : Int32) (ll_len (8 + a1.toNatClampNeg))) (jx_lt ((q6 (8 + a1.toNatClampNeg) 0)) (fun x9 => jx_gd (jx_in q1 7) (jx_lt ((zs_ABOVE q1.toNatClampNeg)) (fun x11 => jx_gd (jx_in a1 6) (jx_gd (jx_in (1 : Int32) (ll_len (8 + a1.toNatClampNeg))) (jx_lt ((q6 (8 + a1.toNatClampNeg) 1)) (fun x14 => if x5 = (1 : Int32) then some ((a4 + a1), q6) else if x5 = (2 : Int32) then jx_bd (F q6 a1 x9 (0 : Int32) a4 (a5 + (1 : Int32))) (fun q16 => some ((q16.1 - x14), q16.2)) else if x5 = (3 : Int32) then jx_bd (F q6 a1 x9 (1 : Int32) a4 (a5 + (1 : Int32))) (fun q18 => some ((q18.1 * (2 : Int32)), q18.2)) else if x5 = (11 : Int32) then jx_bd (F q6 a1 x11 (0 : Int32) (a4 * (3 : Int32)) (a5 + (1 : Int32))) (fun q20 => some (q20.1, q20.2)) else if x5 = (21 : Int32) then jx_bd (F q6 a1 x11 (1 : Int32) a4 (a5 + (1 : Int32))) (fun q22 => some ((-q22.1), q22.2)) else if x5 = (31 : Int32) then jx_bd (F q6 a1 x11 (2 : Int32) a4 (a5 + (1 : Int32))) (fun q24 => some ((q24.1 ^^^ (7 : Int32)), q24.2)) else if x5 = (41 : Int32) then jx_bd (F q6 a1 x11 (2 : Int32) (a4 - (1 : Int32)) (a5 + (1 : Int32))) (fun q26 => jx_bd (F q26.2 a1 x9 (0 : Int32) (2 : Int32) (a5 + (1 : Int32))) (fun q27 => some ((q26.1 + q27.1), q27.2))) else if x5 = (51 : Int32) then jx_bd (F q6 a1 x11 (0 : Int32) a4 (a5 + (1 : Int32))) (fun q29 => some ((q29.1 ^^^ a1), q29.2)) else if x5 = (61 : Int32) then jx_bd (F q6 a1 x11 (1 : Int32) a4 (a5 + (1 : Int32))) (fun q31 => some ((q31.1 + x14), q31.2)) else some ((0 : Int32), q6)))))))))))) else some ((0 : Int32), σ))
set_option maxHeartbeats 4000000 in
set_option maxRecDepth 100000 in
theorem kB_X0_run (l : Launch) (G : jx_G) (t : jx_T) (hG : ll_ok G) (F : jx_M → Int32 → Int32 → Int32 → Int32 → Int32 → Option (Int32 × jx_M)) (fr lo : Nat) (hF : ∀ (sz : Nat) (σ : jx_M) (a1 : Int32) (a2 : Int32) (a3 : Int32) (a4 : Int32) (a5 : Int32) (out : (Int32 × jx_M)) (_ : F σ a1 a2 a3 a4 a5 = some out), Met l yX0_run (Cond.code yX0_run cX0_run 11 (some .int) :: jx_ws) { frames := fr, cells := 0, slots := 0, locals := lo } (jx_Pc (ll_env G t) (ll_dyn G t) (ll_rg G) sz σ [.ref (G.2 24), .int a1, .int a2, .int a3, .int a4, .int a5]) (jx_Qi (ll_dyn G t) out.2 out.1 (jx_A (ll_rg G) sz)) 0 0 (jx_A (ll_rg G) sz)) (sz : Nat) (σ : jx_M) (a1 : Int32) (a2 : Int32) (a3 : Int32) (a4 : Int32) (a5 : Int32) (out : (Int32 × jx_M)) (h : fB_X0_run t F σ a1 a2 a3 a4 a5 = some out) : Met l yX0_run (Cond.code yX0_run cX0_run 11 (some .int) :: jx_ws) (rm_X0_run fr lo) (jx_Pc (ll_env G t) (ll_dyn G t) (ll_rg G) sz σ [.ref (G.2 24), .int a1, .int a2, .int a3, .int a4, .int a5]) (jx_Qi (ll_dyn G t) out.2 out.1 (jx_A (ll_rg G) sz)) 0 0 (jx_A (ll_rg G) sz) := by
  unfold fB_X0_run at h
  refine jx_met (by decide) (Nat.le_of_ble_eq_true rfl) ?_
  refine jx_sub (lv' := [(0, .ref (G.2 24)), (1, .int a1), (2, .int a2), (3, .int a3), (4, .int a4), (5, .int a5)]) [0, 1, 2, 3, 4, 5] rfl ?_
  refine jx_iload_n (pc := 0) (k0 := 2) rfl dX0_run_0 ?_
  refine jx_iload_n (pc := 1) (k0 := 3) rfl dX0_run_1 ?_
  obtain ⟨q1, eq1, h⟩ := jx_bd_o h
  refine jx_callSi (pc := 2) [.int a2, .int a3] (fun sz' => k_X0_doerOf l G t hG sz' σ a2 a3 q1 eq1) ks_X0_45 ll_jok rfl rfl (Nat.le_of_ble_eq_true rfl) ⟨⟨rfl, rfl⟩, ⟨(by show 0 + 1 ≤ fr + 1; omega), (by show 8 + (4 + 11) + 0 ≤ lo + 30; omega)⟩, Nat.zero_le _, Nat.zero_le _⟩ dX0_run_2 ?_
  refine jx_istore (pc := 5) (i := 6) rfl (by decide) (lv' := [(6, .int q1), (0, .ref (G.2 24)), (1, .int a1), (2, .int a2), (3, .int a3), (4, .int a4), (5, .int a5)]) rfl dX0_run_5 ?_
  refine jx_iload (pc := 7) (i := 6) rfl dX0_run_7 ?_
  refine jx_if_lt (pc := 9) (tgt := 19) dX0_run_9 (by decide) (fun c2 => ?_) (fun c2 => ?_)
  · have h := jx_t c2 h
    refine jx_iconst (pc := 19) (v := (0 : Int32)) (by decide) dX0_run_19 ?_
    have h := Option.some.inj h
    subst h
    exact jx_iret (pc := 20) dX0_run_20
  · have h := jx_f c2 h
    refine jx_iload (pc := 12) (i := 5) rfl dX0_run_12 ?_
    refine jx_bipush (pc := 14) (v := (20 : Int32)) (by decide) dX0_run_14 ?_
    refine jx_icmp_le (pc := 16) (tgt := 21) dX0_run_16 (by decide) (fun c3 => ?_) (fun c3 => ?_)
    · have h := jx_t c3 h
      refine ll_z_BODIES (pc := 21) fl_X0_32 dX0_run_21 ?_
      refine jx_iload (pc := 24) (i := 6) rfl dX0_run_24 ?_
      refine jx_iconst (pc := 26) (v := (3 : Int32)) (by decide) dX0_run_26 ?_
      refine jx_imul (pc := 27) dX0_run_27 ?_
      refine jx_iload_n (pc := 28) (k0 := 3) rfl dX0_run_28 ?_
      refine jx_iadd (pc := 29) dX0_run_29 ?_
      obtain ⟨g4, h⟩ := jx_gd_o h
      refine ll_zl_BODIES (pc := 30) (jx_in_o g4) rfl dX0_run_30 ?_
      obtain ⟨x5, ex5, h⟩ := jx_lt_o h
      refine jx_istore (pc := 31) (i := 7) ex5 (by decide) (lv' := [(7, .int x5), (6, .int q1), (0, .ref (G.2 24)), (1, .int a1), (2, .int a2), (3, .int a3), (4, .int a4), (5, .int a5)]) rfl dX0_run_31 ?_
      refine jx_aload_n (pc := 33) (k0 := 0) rfl dX0_run_33 ?_
      refine jx_iload (pc := 34) (i := 7) rfl dX0_run_34 ?_
      obtain ⟨q6, eq6, h⟩ := jx_bd_o h
      refine jx_callVv (pc := 36) [.int x5] (fun sz' => k_X0_begin l G t hG sz' σ x5 q6 eq6) kv_X0_48 ll_jok ll_rcacts rfl rfl (Nat.le_of_ble_eq_true rfl) ⟨⟨rfl, rfl⟩, ⟨(by show 0 + 1 ≤ fr + 1; omega), (by show 8 + (2 + 11) + 0 ≤ lo + 30; omega)⟩, Nat.zero_le _, Nat.zero_le _⟩ dX0_run_36 ?_
      refine jx_aload_n (pc := 39) (k0 := 0) rfl dX0_run_39 ?_
      refine ll_gacts_canal (pc := 40) fl_X0_19 dX0_run_40 ?_
      refine ll_gnow_voter (pc := 43) fl_X0_35 dX0_run_43 ?_
      refine jx_iload_n (pc := 46) (k0 := 1) rfl dX0_run_46 ?_
      obtain ⟨g7, h⟩ := jx_gd_o h
      refine ll_a_now_voter (pc := 47) (jx_in_o g7) dX0_run_47 ?_
      refine jx_iconst (pc := 48) (v := (0 : Int32)) (by decide) dX0_run_48 ?_
      obtain ⟨g8, h⟩ := jx_gd_o h
      refine ll_l (pc := 49) (k := (8 + a1.toNatClampNeg)) (j := 0) (jx_in_o g8) (by decide) dX0_run_49 ?_
      obtain ⟨x9, ex9, h⟩ := jx_lt_o h
      refine jx_istore (pc := 50) (i := 8) ex9 (by decide) (lv' := [(8, .int x9), (7, .int x5), (6, .int q1), (0, .ref (G.2 24)), (1, .int a1), (2, .int a2), (3, .int a3), (4, .int a4), (5, .int a5)]) rfl dX0_run_50 ?_
      refine ll_z_ABOVE (pc := 52) fl_X0_29 dX0_run_52 ?_
      refine jx_iload (pc := 55) (i := 6) rfl dX0_run_55 ?_
      obtain ⟨g10, h⟩ := jx_gd_o h
      refine ll_zl_ABOVE (pc := 57) (jx_in_o g10) rfl dX0_run_57 ?_
      obtain ⟨x11, ex11, h⟩ := jx_lt_o h
      refine jx_istore (pc := 58) (i := 9) ex11 (by decide) (lv' := [(9, .int x11), (8, .int x9), (7, .int x5), (6, .int q1), (0, .ref (G.2 24)), (1, .int a1), (2, .int a2), (3, .int a3), (4, .int a4), (5, .int a5)]) rfl dX0_run_58 ?_
      refine jx_aload_n (pc := 60) (k0 := 0) rfl dX0_run_60 ?_
      refine ll_gacts_canal (pc := 61) fl_X0_19 dX0_run_61 ?_
      refine ll_gnow_voter (pc := 64) fl_X0_35 dX0_run_64 ?_
      refine jx_iload_n (pc := 67) (k0 := 1) rfl dX0_run_67 ?_
      obtain ⟨g12, h⟩ := jx_gd_o h
      refine ll_a_now_voter (pc := 68) (jx_in_o g12) dX0_run_68 ?_
      refine jx_iconst (pc := 69) (v := (1 : Int32)) (by decide) dX0_run_69 ?_
      obtain ⟨g13, h⟩ := jx_gd_o h
      refine ll_l (pc := 70) (k := (8 + a1.toNatClampNeg)) (j := 1) (jx_in_o g13) (by decide) dX0_run_70 ?_
      obtain ⟨x14, ex14, h⟩ := jx_lt_o h
      refine jx_istore (pc := 71) (i := 10) ex14 (by decide) (lv' := [(10, .int x14), (9, .int x11), (8, .int x9), (7, .int x5), (6, .int q1), (0, .ref (G.2 24)), (1, .int a1), (2, .int a2), (3, .int a3), (4, .int a4), (5, .int a5)]) rfl dX0_run_71 ?_
      refine jx_iload (pc := 73) (i := 7) rfl dX0_run_73 ?_
      by_cases c15 : x5 = (1 : Int32)
      · have h := jx_t c15 h
        refine jx_look (pc := 75) (tgt := 156) dX0_run_75 (by decide) (off := 81) (by rw [c15]; decide) (by decide) ?_
        refine jx_iload (pc := 156) (i := 4) rfl dX0_run_156 ?_
        refine jx_iload_n (pc := 158) (k0 := 1) rfl dX0_run_158 ?_
        refine jx_iadd (pc := 159) dX0_run_159 ?_
        have h := Option.some.inj h
        subst h
        exact jx_iret (pc := 160) dX0_run_160
      have h := jx_f c15 h
      by_cases c17 : x5 = (2 : Int32)
      · have h := jx_t c17 h
        refine jx_look (pc := 75) (tgt := 161) dX0_run_75 (by decide) (off := 86) (by rw [c17]; decide) (by decide) ?_
        refine jx_aload_n (pc := 161) (k0 := 0) rfl dX0_run_161 ?_
        refine jx_iload_n (pc := 162) (k0 := 1) rfl dX0_run_162 ?_
        refine jx_iload (pc := 163) (i := 8) rfl dX0_run_163 ?_
        refine jx_iconst (pc := 165) (v := (0 : Int32)) (by decide) dX0_run_165 ?_
        refine jx_iload (pc := 166) (i := 4) rfl dX0_run_166 ?_
        refine jx_iload (pc := 168) (i := 5) rfl dX0_run_168 ?_
        refine jx_iconst (pc := 170) (v := (1 : Int32)) (by decide) dX0_run_170 ?_
        refine jx_iadd (pc := 171) dX0_run_171 ?_
        obtain ⟨q16, eq16, h⟩ := jx_bd_o h
        refine jx_callVi (pc := 172) [.int a1, .int x9, .int (0 : Int32), .int a4, .int (a5 + (1 : Int32))] (fun sz' => hF sz' q6 a1 x9 (0 : Int32) a4 (a5 + (1 : Int32)) q16 eq16) kv_X0_41 ll_jok ll_rcacts rfl rfl (Nat.le_of_ble_eq_true rfl) ⟨⟨rfl, rfl⟩, ⟨(by show fr + 1 ≤ fr + 1; omega), (by show 8 + (11 + 11) + lo ≤ lo + 30; omega)⟩, Nat.zero_le _, Nat.zero_le _⟩ dX0_run_172 ?_
        refine jx_iload (pc := 175) (i := 10) rfl dX0_run_175 ?_
        refine jx_isub (pc := 177) dX0_run_177 ?_
        have h := Option.some.inj h
        subst h
        exact jx_iret (pc := 178) dX0_run_178
      have h := jx_f c17 h
      by_cases c19 : x5 = (3 : Int32)
      · have h := jx_t c19 h
        refine jx_look (pc := 75) (tgt := 179) dX0_run_75 (by decide) (off := 104) (by rw [c19]; decide) (by decide) ?_
        refine jx_aload_n (pc := 179) (k0 := 0) rfl dX0_run_179 ?_
        refine jx_iload_n (pc := 180) (k0 := 1) rfl dX0_run_180 ?_
        refine jx_iload (pc := 181) (i := 8) rfl dX0_run_181 ?_
        refine jx_iconst (pc := 183) (v := (1 : Int32)) (by decide) dX0_run_183 ?_
        refine jx_iload (pc := 184) (i := 4) rfl dX0_run_184 ?_
        refine jx_iload (pc := 186) (i := 5) rfl dX0_run_186 ?_
        refine jx_iconst (pc := 188) (v := (1 : Int32)) (by decide) dX0_run_188 ?_
        refine jx_iadd (pc := 189) dX0_run_189 ?_
        obtain ⟨q18, eq18, h⟩ := jx_bd_o h
        refine jx_callVi (pc := 190) [.int a1, .int x9, .int (1 : Int32), .int a4, .int (a5 + (1 : Int32))] (fun sz' => hF sz' q6 a1 x9 (1 : Int32) a4 (a5 + (1 : Int32)) q18 eq18) kv_X0_41 ll_jok ll_rcacts rfl rfl (Nat.le_of_ble_eq_true rfl) ⟨⟨rfl, rfl⟩, ⟨(by show fr + 1 ≤ fr + 1; omega), (by show 8 + (11 + 11) + lo ≤ lo + 30; omega)⟩, Nat.zero_le _, Nat.zero_le _⟩ dX0_run_190 ?_
        refine jx_iconst (pc := 193) (v := (2 : Int32)) (by decide) dX0_run_193 ?_
        refine jx_imul (pc := 194) dX0_run_194 ?_
        have h := Option.some.inj h
        subst h
        exact jx_iret (pc := 195) dX0_run_195
      have h := jx_f c19 h
      by_cases c21 : x5 = (11 : Int32)
      · have h := jx_t c21 h
        refine jx_look (pc := 75) (tgt := 196) dX0_run_75 (by decide) (off := 121) (by rw [c21]; decide) (by decide) ?_
        refine jx_aload_n (pc := 196) (k0 := 0) rfl dX0_run_196 ?_
        refine jx_iload_n (pc := 197) (k0 := 1) rfl dX0_run_197 ?_
        refine jx_iload (pc := 198) (i := 9) rfl dX0_run_198 ?_
        refine jx_iconst (pc := 200) (v := (0 : Int32)) (by decide) dX0_run_200 ?_
        refine jx_iload (pc := 201) (i := 4) rfl dX0_run_201 ?_
        refine jx_iconst (pc := 203) (v := (3 : Int32)) (by decide) dX0_run_203 ?_
        refine jx_imul (pc := 204) dX0_run_204 ?_
        refine jx_iload (pc := 205) (i := 5) rfl dX0_run_205 ?_
        refine jx_iconst (pc := 207) (v := (1 : Int32)) (by decide) dX0_run_207 ?_
        refine jx_iadd (pc := 208) dX0_run_208 ?_
        obtain ⟨q20, eq20, h⟩ := jx_bd_o h
        refine jx_callVi (pc := 209) [.int a1, .int x11, .int (0 : Int32), .int (a4 * (3 : Int32)), .int (a5 + (1 : Int32))] (fun sz' => hF sz' q6 a1 x11 (0 : Int32) (a4 * (3 : Int32)) (a5 + (1 : Int32)) q20 eq20) kv_X0_41 ll_jok ll_rcacts rfl rfl (Nat.le_of_ble_eq_true rfl) ⟨⟨rfl, rfl⟩, ⟨(by show fr + 1 ≤ fr + 1; omega), (by show 8 + (11 + 11) + lo ≤ lo + 30; omega)⟩, Nat.zero_le _, Nat.zero_le _⟩ dX0_run_209 ?_
        have h := Option.some.inj h
        subst h
        exact jx_iret (pc := 212) dX0_run_212
      have h := jx_f c21 h
      by_cases c23 : x5 = (21 : Int32)
      · have h := jx_t c23 h
        refine jx_look (pc := 75) (tgt := 213) dX0_run_75 (by decide) (off := 138) (by rw [c23]; decide) (by decide) ?_
        refine jx_aload_n (pc := 213) (k0 := 0) rfl dX0_run_213 ?_
        refine jx_iload_n (pc := 214) (k0 := 1) rfl dX0_run_214 ?_
        refine jx_iload (pc := 215) (i := 9) rfl dX0_run_215 ?_
        refine jx_iconst (pc := 217) (v := (1 : Int32)) (by decide) dX0_run_217 ?_
        refine jx_iload (pc := 218) (i := 4) rfl dX0_run_218 ?_
        refine jx_iload (pc := 220) (i := 5) rfl dX0_run_220 ?_
        refine jx_iconst (pc := 222) (v := (1 : Int32)) (by decide) dX0_run_222 ?_
        refine jx_iadd (pc := 223) dX0_run_223 ?_
        obtain ⟨q22, eq22, h⟩ := jx_bd_o h
        refine jx_callVi (pc := 224) [.int a1, .int x11, .int (1 : Int32), .int a4, .int (a5 + (1 : Int32))] (fun sz' => hF sz' q6 a1 x11 (1 : Int32) a4 (a5 + (1 : Int32)) q22 eq22) kv_X0_41 ll_jok ll_rcacts rfl rfl (Nat.le_of_ble_eq_true rfl) ⟨⟨rfl, rfl⟩, ⟨(by show fr + 1 ≤ fr + 1; omega), (by show 8 + (11 + 11) + lo ≤ lo + 30; omega)⟩, Nat.zero_le _, Nat.zero_le _⟩ dX0_run_224 ?_
        refine jx_ineg (pc := 227) dX0_run_227 ?_
        have h := Option.some.inj h
        subst h
        exact jx_iret (pc := 228) dX0_run_228
      have h := jx_f c23 h
      by_cases c25 : x5 = (31 : Int32)
      · have h := jx_t c25 h
        refine jx_look (pc := 75) (tgt := 229) dX0_run_75 (by decide) (off := 154) (by rw [c25]; decide) (by decide) ?_
        refine jx_aload_n (pc := 229) (k0 := 0) rfl dX0_run_229 ?_
        refine jx_iload_n (pc := 230) (k0 := 1) rfl dX0_run_230 ?_
        refine jx_iload (pc := 231) (i := 9) rfl dX0_run_231 ?_
        refine jx_iconst (pc := 233) (v := (2 : Int32)) (by decide) dX0_run_233 ?_
        refine jx_iload (pc := 234) (i := 4) rfl dX0_run_234 ?_
        refine jx_iload (pc := 236) (i := 5) rfl dX0_run_236 ?_
        refine jx_iconst (pc := 238) (v := (1 : Int32)) (by decide) dX0_run_238 ?_
        refine jx_iadd (pc := 239) dX0_run_239 ?_
        obtain ⟨q24, eq24, h⟩ := jx_bd_o h
        refine jx_callVi (pc := 240) [.int a1, .int x11, .int (2 : Int32), .int a4, .int (a5 + (1 : Int32))] (fun sz' => hF sz' q6 a1 x11 (2 : Int32) a4 (a5 + (1 : Int32)) q24 eq24) kv_X0_41 ll_jok ll_rcacts rfl rfl (Nat.le_of_ble_eq_true rfl) ⟨⟨rfl, rfl⟩, ⟨(by show fr + 1 ≤ fr + 1; omega), (by show 8 + (11 + 11) + lo ≤ lo + 30; omega)⟩, Nat.zero_le _, Nat.zero_le _⟩ dX0_run_240 ?_
        refine jx_bipush (pc := 243) (v := (7 : Int32)) (by decide) dX0_run_243 ?_
        refine jx_ixor (pc := 245) dX0_run_245 ?_
        have h := Option.some.inj h
        subst h
        exact jx_iret (pc := 246) dX0_run_246
      have h := jx_f c25 h
      by_cases c28 : x5 = (41 : Int32)
      · have h := jx_t c28 h
        refine jx_look (pc := 75) (tgt := 247) dX0_run_75 (by decide) (off := 172) (by rw [c28]; decide) (by decide) ?_
        refine jx_aload_n (pc := 247) (k0 := 0) rfl dX0_run_247 ?_
        refine jx_iload_n (pc := 248) (k0 := 1) rfl dX0_run_248 ?_
        refine jx_iload (pc := 249) (i := 9) rfl dX0_run_249 ?_
        refine jx_iconst (pc := 251) (v := (2 : Int32)) (by decide) dX0_run_251 ?_
        refine jx_iload (pc := 252) (i := 4) rfl dX0_run_252 ?_
        refine jx_iconst (pc := 254) (v := (1 : Int32)) (by decide) dX0_run_254 ?_
        refine jx_isub (pc := 255) dX0_run_255 ?_
        refine jx_iload (pc := 256) (i := 5) rfl dX0_run_256 ?_
        refine jx_iconst (pc := 258) (v := (1 : Int32)) (by decide) dX0_run_258 ?_
        refine jx_iadd (pc := 259) dX0_run_259 ?_
        obtain ⟨q26, eq26, h⟩ := jx_bd_o h
        refine jx_callVi (pc := 260) [.int a1, .int x11, .int (2 : Int32), .int (a4 - (1 : Int32)), .int (a5 + (1 : Int32))] (fun sz' => hF sz' q6 a1 x11 (2 : Int32) (a4 - (1 : Int32)) (a5 + (1 : Int32)) q26 eq26) kv_X0_41 ll_jok ll_rcacts rfl rfl (Nat.le_of_ble_eq_true rfl) ⟨⟨rfl, rfl⟩, ⟨(by show fr + 1 ≤ fr + 1; omega), (by show 8 + (11 + 11) + lo ≤ lo + 30; omega)⟩, Nat.zero_le _, Nat.zero_le _⟩ dX0_run_260 ?_
        refine jx_aload_n (pc := 263) (k0 := 0) rfl dX0_run_263 ?_
        refine jx_iload_n (pc := 264) (k0 := 1) rfl dX0_run_264 ?_
        refine jx_iload (pc := 265) (i := 8) rfl dX0_run_265 ?_
        refine jx_iconst (pc := 267) (v := (0 : Int32)) (by decide) dX0_run_267 ?_
        refine jx_iconst (pc := 268) (v := (2 : Int32)) (by decide) dX0_run_268 ?_
        refine jx_iload (pc := 269) (i := 5) rfl dX0_run_269 ?_
        refine jx_iconst (pc := 271) (v := (1 : Int32)) (by decide) dX0_run_271 ?_
        refine jx_iadd (pc := 272) dX0_run_272 ?_
        obtain ⟨q27, eq27, h⟩ := jx_bd_o h
        refine jx_callVi (pc := 273) [.int a1, .int x9, .int (0 : Int32), .int (2 : Int32), .int (a5 + (1 : Int32))] (fun sz' => hF sz' q26.2 a1 x9 (0 : Int32) (2 : Int32) (a5 + (1 : Int32)) q27 eq27) kv_X0_41 ll_jok ll_rcacts rfl rfl (Nat.le_of_ble_eq_true rfl) ⟨⟨rfl, rfl⟩, ⟨(by show fr + 1 ≤ fr + 1; omega), (by show 8 + (11 + 11) + lo ≤ lo + 30; omega)⟩, Nat.zero_le _, Nat.zero_le _⟩ dX0_run_273 ?_
        refine jx_iadd (pc := 276) dX0_run_276 ?_
        have h := Option.some.inj h
        subst h
        exact jx_iret (pc := 277) dX0_run_277
      have h := jx_f c28 h
      by_cases c30 : x5 = (51 : Int32)
      · have h := jx_t c30 h
        refine jx_look (pc := 75) (tgt := 278) dX0_run_75 (by decide) (off := 203) (by rw [c30]; decide) (by decide) ?_
        refine jx_aload_n (pc := 278) (k0 := 0) rfl dX0_run_278 ?_
        refine jx_iload_n (pc := 279) (k0 := 1) rfl dX0_run_279 ?_
        refine jx_iload (pc := 280) (i := 9) rfl dX0_run_280 ?_
        refine jx_iconst (pc := 282) (v := (0 : Int32)) (by decide) dX0_run_282 ?_
        refine jx_iload (pc := 283) (i := 4) rfl dX0_run_283 ?_
        refine jx_iload (pc := 285) (i := 5) rfl dX0_run_285 ?_
        refine jx_iconst (pc := 287) (v := (1 : Int32)) (by decide) dX0_run_287 ?_
        refine jx_iadd (pc := 288) dX0_run_288 ?_
        obtain ⟨q29, eq29, h⟩ := jx_bd_o h
        refine jx_callVi (pc := 289) [.int a1, .int x11, .int (0 : Int32), .int a4, .int (a5 + (1 : Int32))] (fun sz' => hF sz' q6 a1 x11 (0 : Int32) a4 (a5 + (1 : Int32)) q29 eq29) kv_X0_41 ll_jok ll_rcacts rfl rfl (Nat.le_of_ble_eq_true rfl) ⟨⟨rfl, rfl⟩, ⟨(by show fr + 1 ≤ fr + 1; omega), (by show 8 + (11 + 11) + lo ≤ lo + 30; omega)⟩, Nat.zero_le _, Nat.zero_le _⟩ dX0_run_289 ?_
        refine jx_iload_n (pc := 292) (k0 := 1) rfl dX0_run_292 ?_
        refine jx_ixor (pc := 293) dX0_run_293 ?_
        have h := Option.some.inj h
        subst h
        exact jx_iret (pc := 294) dX0_run_294
      have h := jx_f c30 h
      by_cases c32 : x5 = (61 : Int32)
      · have h := jx_t c32 h
        refine jx_look (pc := 75) (tgt := 295) dX0_run_75 (by decide) (off := 220) (by rw [c32]; decide) (by decide) ?_
        refine jx_aload_n (pc := 295) (k0 := 0) rfl dX0_run_295 ?_
        refine jx_iload_n (pc := 296) (k0 := 1) rfl dX0_run_296 ?_
        refine jx_iload (pc := 297) (i := 9) rfl dX0_run_297 ?_
        refine jx_iconst (pc := 299) (v := (1 : Int32)) (by decide) dX0_run_299 ?_
        refine jx_iload (pc := 300) (i := 4) rfl dX0_run_300 ?_
        refine jx_iload (pc := 302) (i := 5) rfl dX0_run_302 ?_
        refine jx_iconst (pc := 304) (v := (1 : Int32)) (by decide) dX0_run_304 ?_
        refine jx_iadd (pc := 305) dX0_run_305 ?_
        obtain ⟨q31, eq31, h⟩ := jx_bd_o h
        refine jx_callVi (pc := 306) [.int a1, .int x11, .int (1 : Int32), .int a4, .int (a5 + (1 : Int32))] (fun sz' => hF sz' q6 a1 x11 (1 : Int32) a4 (a5 + (1 : Int32)) q31 eq31) kv_X0_41 ll_jok ll_rcacts rfl rfl (Nat.le_of_ble_eq_true rfl) ⟨⟨rfl, rfl⟩, ⟨(by show fr + 1 ≤ fr + 1; omega), (by show 8 + (11 + 11) + lo ≤ lo + 30; omega)⟩, Nat.zero_le _, Nat.zero_le _⟩ dX0_run_306 ?_
        refine jx_iload (pc := 309) (i := 10) rfl dX0_run_309 ?_
        refine jx_iadd (pc := 311) dX0_run_311 ?_
        have h := Option.some.inj h
        subst h
        exact jx_iret (pc := 312) dX0_run_312
      have h := jx_f c32 h
      refine jx_look (pc := 75) (tgt := 313) (off := 238) dX0_run_75 (by decide) ((lv_osw c15 (by decide)).trans ((lv_osw c17 (by decide)).trans ((lv_osw c19 (by decide)).trans ((lv_osw c21 (by decide)).trans ((lv_osw c23 (by decide)).trans ((lv_osw c25 (by decide)).trans ((lv_osw c28 (by decide)).trans ((lv_osw c30 (by decide)).trans ((lv_osw c32 (by decide)).trans rfl))))))))) (by decide) ?_
      refine jx_iconst (pc := 313) (v := (0 : Int32)) (by decide) dX0_run_313 ?_
      have h := Option.some.inj h
      subst h
      exact jx_iret (pc := 314) dX0_run_314
    · have h := jx_f c3 h
      refine jx_iconst (pc := 19) (v := (0 : Int32)) (by decide) dX0_run_19 ?_
      have h := Option.some.inj h
      subst h
      exact jx_iret (pc := 20) dX0_run_20
def f_X0_run (t : jx_T) : Nat → jx_M → Int32 → Int32 → Int32 → Int32 → Int32 → Option (Int32 × jx_M)
  | 0, _, _, _, _, _, _ => none
  | n + 1, σ, a1, a2, a3, a4, a5 => fB_X0_run t (f_X0_run t n) σ a1 a2 a3 a4 a5
theorem k_X0_run (l : Launch) (G : jx_G) (t : jx_T) (hG : ll_ok G) : ∀ (n sz : Nat) (σ : jx_M) (a1 : Int32) (a2 : Int32) (a3 : Int32) (a4 : Int32) (a5 : Int32) (out : (Int32 × jx_M)) (_ : f_X0_run t n σ a1 a2 a3 a4 a5 = some out), Met l yX0_run (Cond.code yX0_run cX0_run 11 (some .int) :: jx_ws) { frames := 1 * n, cells := 0, slots := 0, locals := 30 * n } (jx_Pc (ll_env G t) (ll_dyn G t) (ll_rg G) sz σ [.ref (G.2 24), .int a1, .int a2, .int a3, .int a4, .int a5]) (jx_Qi (ll_dyn G t) out.2 out.1 (jx_A (ll_rg G) sz)) 0 0 (jx_A (ll_rg G) sz) := by
  intro n
  induction n with
  | zero =>
    intro sz σ a1 a2 a3 a4 a5 out h
    cases h
  | succ n ih =>
    intro sz σ a1 a2 a3 a4 a5 out h
    exact kB_X0_run l G t hG (f_X0_run t n) (1 * n) (30 * n) ih sz σ a1 a2 a3 a4 a5 out h
