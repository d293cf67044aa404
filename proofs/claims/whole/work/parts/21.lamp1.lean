/-! the class's methods: a function on the memory each, and its contract -/
theorem dX0_forget_0 : decode cX0_forget 0 = .ok (.aload_n 0, 1) := by decide +kernel
theorem dX0_forget_1 : decode cX0_forget 1 = .ok (.iconst 0, 1) := by decide +kernel
theorem dX0_forget_2 : decode cX0_forget 2 = .ok (.putfield 15, 3) := by decide +kernel
theorem dX0_forget_5 : decode cX0_forget 5 = .ok (.return_, 1) := by decide +kernel
abbrev rm_X0_forget : Room := { frames := 0, cells := 0, slots := 0, locals := 0 }
abbrev jJ_X0_forget (l : Launch) (G : jx_G) (t : jx_T) (sz : Nat) (out : jx_M) (pc : Nat) (lv : List (Nat × Value)) (st : List Value) (σ : jx_M) : Prop := jx_J l (ll_env G t) (ll_dyn G t) (ll_rg G) sz RX0 "forget" cX0_forget 1 none rm_X0_forget (fun below args s => MQ below (jx_Qv (ll_dyn G t) out (jx_A (ll_rg G) sz)) args s 0 0 (jx_A (ll_rg G) sz)) 0 0 pc lv st σ
def f_X0_forget (t : jx_T) (σ : jx_M)  : Option jx_M :=
  jx_lt (jx_mu σ 0 21 (0 : Int32)) (fun σ1 => some σ1)
set_option maxHeartbeats 4000000 in
set_option maxRecDepth 100000 in
theorem k_X0_forget (l : Launch) (G : jx_G) (t : jx_T) (hG : ll_ok G) (sz : Nat) (σ : jx_M)  (out : jx_M) (h : f_X0_forget t σ = some out) : Met l yX0_forget (Cond.code yX0_forget cX0_forget 1 none :: jx_ws) rm_X0_forget (jx_Pc (ll_env G t) (ll_dyn G t) (ll_rg G) sz σ [.ref (G.2 24)]) (jx_Qv (ll_dyn G t) out (jx_A (ll_rg G) sz)) 0 0 (jx_A (ll_rg G) sz) := by
  unfold f_X0_forget at h
  refine jx_met (by decide) (Nat.le_of_ble_eq_true rfl) ?_
  refine jx_sub (lv' := [(0, .ref (G.2 24))]) [0] rfl ?_
  refine jx_aload_n (pc := 0) (k0 := 0) rfl dX0_forget_0 ?_
  refine jx_iconst (pc := 1) (v := (0 : Int32)) (by decide) dX0_forget_1 ?_
  obtain ⟨σ1, eσ1, h⟩ := jx_lt_o h
  refine ll_pacts_ran (pc := 2) hG fl_X0_15 eσ1 dX0_forget_2 ?_
  have h := Option.some.inj h
  subst h
  exact jx_vret (pc := 5) dX0_forget_5
theorem dX0_kept_0 : decode cX0_kept 0 = .ok (.aload_n 0, 1) := by decide +kernel
theorem dX0_kept_1 : decode cX0_kept 1 = .ok (.getfield 15, 3) := by decide +kernel
theorem dX0_kept_4 : decode cX0_kept 4 = .ok (.bipush 20, 2) := by decide +kernel
theorem dX0_kept_6 : decode cX0_kept 6 = .ok (.invokestatic 23, 3) := by decide +kernel
theorem dX0_kept_9 : decode cX0_kept 9 = .ok (.ireturn, 1) := by decide +kernel
abbrev rm_X0_kept : Room := { frames := 1, cells := 0, slots := 0, locals := 21 }
abbrev jJ_X0_kept (l : Launch) (G : jx_G) (t : jx_T) (sz : Nat) (σ0 : jx_M) (out : Int32) (pc : Nat) (lv : List (Nat × Value)) (st : List Value) (σ : jx_M) : Prop := jx_J l (ll_env G t) (ll_dyn G t) (ll_rg G) sz RX0 "kept" cX0_kept 1 (some .int) rm_X0_kept (fun below args s => MQ below (jx_Qi (ll_dyn G t) σ0 out (jx_A (ll_rg G) sz)) args s 0 0 (jx_A (ll_rg G) sz)) 0 0 pc lv st σ
def f_X0_kept (t : jx_T) (σ : jx_M)  : Option Int32 :=
  some (if (20 : Int32) < (σ 0 21) then (20 : Int32) else (σ 0 21))
set_option maxHeartbeats 4000000 in
set_option maxRecDepth 100000 in
theorem k_X0_kept (l : Launch) (G : jx_G) (t : jx_T) (hG : ll_ok G) (sz : Nat) (σ : jx_M)  (out : Int32) (h : f_X0_kept t σ = some out) : Met l yX0_kept (Cond.code yX0_kept cX0_kept 1 (some .int) :: jx_ws) rm_X0_kept (jx_Pc (ll_env G t) (ll_dyn G t) (ll_rg G) sz σ [.ref (G.2 24)]) (jx_Qi (ll_dyn G t) σ out (jx_A (ll_rg G) sz)) 0 0 (jx_A (ll_rg G) sz) := by
  unfold f_X0_kept at h
  refine jx_met (by decide) (Nat.le_of_ble_eq_true rfl) ?_
  refine jx_sub (lv' := [(0, .ref (G.2 24))]) [0] rfl ?_
  refine jx_aload_n (pc := 0) (k0 := 0) rfl dX0_kept_0 ?_
  refine ll_gacts_ran (pc := 1) fl_X0_15 dX0_kept_1 ?_
  refine jx_bipush (pc := 4) (v := (20 : Int32)) (by decide) dX0_kept_4 ?_
  refine jx_mmin (pc := 6) km_X0_23.1 km_X0_23.2.1 km_X0_23.2.2.1 km_X0_23.2.2.2 (Nat.le_of_ble_eq_true rfl) (Nat.le_of_ble_eq_true rfl) (Nat.zero_le _) (Nat.zero_le _) dX0_kept_6 ?_
  have h := Option.some.inj h
  subst h
  exact jx_iret (pc := 9) dX0_kept_9
theorem dX0_isUnder_0 : decode cX0_isUnder 0 = .ok (.iload_n 0, 1) := by decide +kernel
theorem dX0_isUnder_1 : decode cX0_isUnder 1 = .ok (.istore_n 2, 1) := by decide +kernel
theorem dX0_isUnder_2 : decode cX0_isUnder 2 = .ok (.iconst 0, 1) := by decide +kernel
theorem dX0_isUnder_3 : decode cX0_isUnder 3 = .ok (.istore_n 3, 1) := by decide +kernel
theorem dX0_isUnder_4 : decode cX0_isUnder 4 = .ok (.iload_n 3, 1) := by decide +kernel
theorem dX0_isUnder_5 : decode cX0_isUnder 5 = .ok (.bipush 7, 2) := by decide +kernel
theorem dX0_isUnder_7 : decode cX0_isUnder 7 = .ok (.if_icmp .ge 24, 3) := by decide +kernel
theorem dX0_isUnder_10 : decode cX0_isUnder 10 = .ok (.iload_n 2, 1) := by decide +kernel
theorem dX0_isUnder_11 : decode cX0_isUnder 11 = .ok (.ifCond .lt 20, 3) := by decide +kernel
theorem dX0_isUnder_14 : decode cX0_isUnder 14 = .ok (.iload_n 2, 1) := by decide +kernel
theorem dX0_isUnder_15 : decode cX0_isUnder 15 = .ok (.iload_n 1, 1) := by decide +kernel
theorem dX0_isUnder_16 : decode cX0_isUnder 16 = .ok (.if_icmp .eq 15, 3) := by decide +kernel
theorem dX0_isUnder_19 : decode cX0_isUnder 19 = .ok (.getstatic 29, 3) := by decide +kernel
theorem dX0_isUnder_22 : decode cX0_isUnder 22 = .ok (.iload_n 2, 1) := by decide +kernel
theorem dX0_isUnder_23 : decode cX0_isUnder 23 = .ok (.iaload, 1) := by decide +kernel
theorem dX0_isUnder_24 : decode cX0_isUnder 24 = .ok (.istore_n 2, 1) := by decide +kernel
theorem dX0_isUnder_25 : decode cX0_isUnder 25 = .ok (.iinc 3 1, 3) := by decide +kernel
theorem dX0_isUnder_28 : decode cX0_isUnder 28 = .ok (.goto (-24), 3) := by decide +kernel
theorem dX0_isUnder_31 : decode cX0_isUnder 31 = .ok (.iload_n 2, 1) := by decide +kernel
theorem dX0_isUnder_32 : decode cX0_isUnder 32 = .ok (.iload_n 1, 1) := by decide +kernel
theorem dX0_isUnder_33 : decode cX0_isUnder 33 = .ok (.if_icmp .ne 7, 3) := by decide +kernel
theorem dX0_isUnder_36 : decode cX0_isUnder 36 = .ok (.iconst 1, 1) := by decide +kernel
theorem dX0_isUnder_37 : decode cX0_isUnder 37 = .ok (.goto 4, 3) := by decide +kernel
theorem dX0_isUnder_40 : decode cX0_isUnder 40 = .ok (.iconst 0, 1) := by decide +kernel
theorem dX0_isUnder_41 : decode cX0_isUnder 41 = .ok (.ireturn, 1) := by decide +kernel
abbrev rm_X0_isUnder : Room := { frames := 0, cells := 0, slots := 0, locals := 0 }
abbrev jJ_X0_isUnder (l : Launch) (G : jx_G) (t : jx_T) (sz : Nat) (σ0 : jx_M) (out : Int32) (pc : Nat) (lv : List (Nat × Value)) (st : List Value) (σ : jx_M) : Prop := jx_J l (ll_env G t) (ll_dyn G t) (ll_rg G) sz RX0 "isUnder" cX0_isUnder 4 (some .boolean) rm_X0_isUnder (fun below args s => MQ below (jx_Qi (ll_dyn G t) σ0 out (jx_A (ll_rg G) sz)) args s 0 0 (jx_A (ll_rg G) sz)) 0 0 pc lv st σ
def b_X0_isUnder_31 (t : jx_T)  (σ : jx_M) (v1 : Int32) (v2 : Int32) : Option Int32 :=
  if v2 = v1 then some (1 : Int32) else some (0 : Int32)
set_option maxHeartbeats 4000000 in
set_option maxRecDepth 100000 in
theorem jb_X0_isUnder_31 (l : Launch) (G : jx_G) (t : jx_T) (hG : ll_ok G) (sz : Nat) (σ0 : jx_M) (out : Int32)  (σ : jx_M) (v1 : Int32) (v2 : Int32) (e0 : σ = σ0) (h : b_X0_isUnder_31 t σ v1 v2 = some out) : jJ_X0_isUnder l G t sz σ0 out 31 [(1, .int v1), (2, .int v2)] [] σ := by
  unfold b_X0_isUnder_31 at h
  refine jx_iload_n (pc := 31) (k0 := 2) rfl dX0_isUnder_31 ?_
  refine jx_iload_n (pc := 32) (k0 := 1) rfl dX0_isUnder_32 ?_
  refine jx_icmp_ne (pc := 33) (tgt := 40) dX0_isUnder_33 (by decide) (fun c1 => ?_) (fun c1 => ?_)
  · have h := jx_f c1 h
    refine jx_iconst (pc := 40) (v := (0 : Int32)) (by decide) dX0_isUnder_40 ?_
    subst e0
    have h := Option.some.inj h
    subst h
    exact jx_zret (pc := 41) (Or.inl rfl) dX0_isUnder_41
  · have h := jx_t c1 h
    refine jx_iconst (pc := 36) (v := (1 : Int32)) (by decide) dX0_isUnder_36 ?_
    refine jx_goto (pc := 37) (tgt := 41) dX0_isUnder_37 (by decide) ?_
    subst e0
    have h := Option.some.inj h
    subst h
    exact jx_zret (pc := 41) (Or.inr rfl) dX0_isUnder_41
def g_X0_isUnder_4 (t : jx_T) (k4 : jx_M → Int32 → Int32 → Int32 → Option Int32) (σ : jx_M) (v1 : Int32) (v2 : Int32) (v3 : Int32) : Option Int32 :=
  if (7 : Int32) ≤ v3 then (b_X0_isUnder_31 t σ v1 v2) else if v2 < 0 then (b_X0_isUnder_31 t σ v1 v2) else if v2 = v1 then (b_X0_isUnder_31 t σ v1 v2) else jx_gd (jx_in v2 7) (jx_lt ((zs_ABOVE v2.toNatClampNeg)) (fun x5 => jx_lt (v3 + (1 : Int32)) (fun x6 => (k4 σ v1 x5 x6))))
set_option maxHeartbeats 4000000 in
set_option maxRecDepth 100000 in
theorem jg_X0_isUnder_4 (l : Launch) (G : jx_G) (t : jx_T) (hG : ll_ok G) (sz : Nat) (σ0 : jx_M) (out : Int32) (k4 : jx_M → Int32 → Int32 → Int32 → Option Int32) (h4 : ∀ (σ : jx_M) (v1 : Int32) (v2 : Int32) (v3 : Int32), σ = σ0 → k4 σ v1 v2 v3 = some out → jJ_X0_isUnder l G t sz σ0 out 4 [(1, .int v1), (2, .int v2), (3, .int v3)] [] σ) (σ : jx_M) (v1 : Int32) (v2 : Int32) (v3 : Int32) (e0 : σ = σ0) (h : g_X0_isUnder_4 t k4 σ v1 v2 v3 = some out) : jJ_X0_isUnder l G t sz σ0 out 4 [(1, .int v1), (2, .int v2), (3, .int v3)] [] σ := by
  unfold g_X0_isUnder_4 at h
  refine jx_iload_n (pc := 4) (k0 := 3) rfl dX0_isUnder_4 ?_
  refine jx_bipush (pc := 5) (v := (7 : Int32)) (by decide) dX0_isUnder_5 ?_
  refine jx_icmp_ge (pc := 7) (tgt := 31) dX0_isUnder_7 (by decide) (fun c1 => ?_) (fun c1 => ?_)
  · have h := jx_t c1 h
    exact jx_sub [0, 1] rfl (jb_X0_isUnder_31 l G t hG sz σ0 out σ v1 v2 e0 h)
  · have h := jx_f c1 h
    refine jx_iload_n (pc := 10) (k0 := 2) rfl dX0_isUnder_10 ?_
    refine jx_if_lt (pc := 11) (tgt := 31) dX0_isUnder_11 (by decide) (fun c2 => ?_) (fun c2 => ?_)
    · have h := jx_t c2 h
      exact jx_sub [0, 1] rfl (jb_X0_isUnder_31 l G t hG sz σ0 out σ v1 v2 e0 h)
    · have h := jx_f c2 h
      refine jx_iload_n (pc := 14) (k0 := 2) rfl dX0_isUnder_14 ?_
      refine jx_iload_n (pc := 15) (k0 := 1) rfl dX0_isUnder_15 ?_
      refine jx_icmp_eq (pc := 16) (tgt := 31) dX0_isUnder_16 (by decide) (fun c3 => ?_) (fun c3 => ?_)
      · have h := jx_t c3 h
        exact jx_sub [0, 1] rfl (jb_X0_isUnder_31 l G t hG sz σ0 out σ v1 v2 e0 h)
      · have h := jx_f c3 h
        refine ll_z_ABOVE (pc := 19) fl_X0_29 dX0_isUnder_19 ?_
        refine jx_iload_n (pc := 22) (k0 := 2) rfl dX0_isUnder_22 ?_
        obtain ⟨g4, h⟩ := jx_gd_o h
        refine ll_zl_ABOVE (pc := 23) (jx_in_o g4) rfl dX0_isUnder_23 ?_
        obtain ⟨x5, ex5, h⟩ := jx_lt_o h
        refine jx_istore_n (pc := 24) (i := 2) rfl ex5 (by decide) (lv' := [(2, .int x5), (1, .int v1), (3, .int v3)]) rfl dX0_isUnder_24 ?_
        obtain ⟨x6, ex6, h⟩ := jx_lt_o h
        refine jx_iinc (pc := 25) (i := 3) (v := v3) rfl ex6 (n := 1) (by decide) (by decide) (lv' := [(3, .int x6), (2, .int x5), (1, .int v1)]) rfl dX0_isUnder_25 ?_
        refine jx_goto (pc := 28) (tgt := 4) dX0_isUnder_28 (by decide) ?_
        exact jx_sub [2, 1, 0] rfl (h4 σ v1 x5 x6 e0 h)
def b_X0_isUnder_4 (t : jx_T)  : Nat → jx_M → Int32 → Int32 → Int32 → Option Int32
  | 0, _, _, _, _ => none
  | n + 1, σ, v1, v2, v3 => g_X0_isUnder_4 t (b_X0_isUnder_4 t n) σ v1 v2 v3
theorem jb_X0_isUnder_4 (l : Launch) (G : jx_G) (t : jx_T) (hG : ll_ok G) (sz : Nat) (σ0 : jx_M) (out : Int32)  : ∀ (n : Nat) (σ : jx_M) (v1 : Int32) (v2 : Int32) (v3 : Int32), σ = σ0 → b_X0_isUnder_4 t n σ v1 v2 v3 = some out → jJ_X0_isUnder l G t sz σ0 out 4 [(1, .int v1), (2, .int v2), (3, .int v3)] [] σ := by
  intro n
  induction n with
  | zero =>
    intro σ v1 v2 v3 e0 h
    cases h
  | succ n ih =>
    intro σ v1 v2 v3 e0 h
    exact jg_X0_isUnder_4 l G t hG sz σ0 out (b_X0_isUnder_4 t n) ih σ v1 v2 v3 e0 h
def f_X0_isUnder (t : jx_T) (σ : jx_M) (a0 : Int32) (a1 : Int32) : Option Int32 :=
  (b_X0_isUnder_4 t jx_fuel σ a1 a0 (0 : Int32))
set_option maxHeartbeats 4000000 in
set_option maxRecDepth 100000 in
theorem k_X0_isUnder (l : Launch) (G : jx_G) (t : jx_T) (hG : ll_ok G) (sz : Nat) (σ : jx_M) (a0 : Int32) (a1 : Int32) (out : Int32) (h : f_X0_isUnder t σ a0 a1 = some out) : Met l yX0_isUnder (Cond.code yX0_isUnder cX0_isUnder 4 (some .boolean) :: jx_ws) rm_X0_isUnder (jx_Pc (ll_env G t) (ll_dyn G t) (ll_rg G) sz σ [.int a0, .int a1]) (jx_Qi (ll_dyn G t) σ out (jx_A (ll_rg G) sz)) 0 0 (jx_A (ll_rg G) sz) := by
  unfold f_X0_isUnder at h
  refine jx_met (by decide) (Nat.le_of_ble_eq_true rfl) ?_
  refine jx_sub (lv' := [(0, .int a0), (1, .int a1)]) [0, 1] rfl ?_
  refine jx_iload_n (pc := 0) (k0 := 0) rfl dX0_isUnder_0 ?_
  refine jx_istore_n (pc := 1) (i := 2) rfl rfl (by decide) (lv' := [(2, .int a0), (0, .int a0), (1, .int a1)]) rfl dX0_isUnder_1 ?_
  refine jx_iconst (pc := 2) (v := (0 : Int32)) (by decide) dX0_isUnder_2 ?_
  refine jx_istore_n (pc := 3) (i := 3) rfl rfl (by decide) (lv' := [(3, .int (0 : Int32)), (2, .int a0), (0, .int a0), (1, .int a1)]) rfl dX0_isUnder_3 ?_
  exact jx_sub [3, 1, 0] rfl (jb_X0_isUnder_4 l G t hG sz σ out jx_fuel σ a1 a0 (0 : Int32) rfl h)
theorem dX0_doerOf_0 : decode cX0_doerOf 0 = .ok (.iload_n 0, 1) := by decide +kernel
theorem dX0_doerOf_1 : decode cX0_doerOf 1 = .ok (.istore_n 2, 1) := by decide +kernel
theorem dX0_doerOf_2 : decode cX0_doerOf 2 = .ok (.iconst 0, 1) := by decide +kernel
theorem dX0_doerOf_3 : decode cX0_doerOf 3 = .ok (.istore_n 3, 1) := by decide +kernel
theorem dX0_doerOf_4 : decode cX0_doerOf 4 = .ok (.iload_n 3, 1) := by decide +kernel
theorem dX0_doerOf_5 : decode cX0_doerOf 5 = .ok (.bipush 7, 2) := by decide +kernel
theorem dX0_doerOf_7 : decode cX0_doerOf 7 = .ok (.if_icmp .ge 31, 3) := by decide +kernel
theorem dX0_doerOf_10 : decode cX0_doerOf 10 = .ok (.iload_n 2, 1) := by decide +kernel
theorem dX0_doerOf_11 : decode cX0_doerOf 11 = .ok (.ifCond .le 27, 3) := by decide +kernel
theorem dX0_doerOf_14 : decode cX0_doerOf 14 = .ok (.getstatic 32, 3) := by decide +kernel
theorem dX0_doerOf_17 : decode cX0_doerOf 17 = .ok (.iload_n 2, 1) := by decide +kernel
theorem dX0_doerOf_18 : decode cX0_doerOf 18 = .ok (.iconst 3, 1) := by decide +kernel
theorem dX0_doerOf_19 : decode cX0_doerOf 19 = .ok (.imul, 1) := by decide +kernel
theorem dX0_doerOf_20 : decode cX0_doerOf 20 = .ok (.iload_n 1, 1) := by decide +kernel
theorem dX0_doerOf_21 : decode cX0_doerOf 21 = .ok (.iadd, 1) := by decide +kernel
theorem dX0_doerOf_22 : decode cX0_doerOf 22 = .ok (.iaload, 1) := by decide +kernel
theorem dX0_doerOf_23 : decode cX0_doerOf 23 = .ok (.ifCond .ne 15, 3) := by decide +kernel
theorem dX0_doerOf_26 : decode cX0_doerOf 26 = .ok (.getstatic 29, 3) := by decide +kernel
theorem dX0_doerOf_29 : decode cX0_doerOf 29 = .ok (.iload_n 2, 1) := by decide +kernel
theorem dX0_doerOf_30 : decode cX0_doerOf 30 = .ok (.iaload, 1) := by decide +kernel
theorem dX0_doerOf_31 : decode cX0_doerOf 31 = .ok (.istore_n 2, 1) := by decide +kernel
theorem dX0_doerOf_32 : decode cX0_doerOf 32 = .ok (.iinc 3 1, 3) := by decide +kernel
theorem dX0_doerOf_35 : decode cX0_doerOf 35 = .ok (.goto (-31), 3) := by decide +kernel
theorem dX0_doerOf_38 : decode cX0_doerOf 38 = .ok (.iload_n 2, 1) := by decide +kernel
theorem dX0_doerOf_39 : decode cX0_doerOf 39 = .ok (.ireturn, 1) := by decide +kernel
abbrev rm_X0_doerOf : Room := { frames := 0, cells := 0, slots := 0, locals := 0 }
abbrev jJ_X0_doerOf (l : Launch) (G : jx_G) (t : jx_T) (sz : Nat) (σ0 : jx_M) (out : Int32) (pc : Nat) (lv : List (Nat × Value)) (st : List Value) (σ : jx_M) : Prop := jx_J l (ll_env G t) (ll_dyn G t) (ll_rg G) sz RX0 "doerOf" cX0_doerOf 4 (some .int) rm_X0_doerOf (fun below args s => MQ below (jx_Qi (ll_dyn G t) σ0 out (jx_A (ll_rg G) sz)) args s 0 0 (jx_A (ll_rg G) sz)) 0 0 pc lv st σ
def g_X0_doerOf_4 (t : jx_T) (k4 : jx_M → Int32 → Int32 → Int32 → Option Int32) (σ : jx_M) (v1 : Int32) (v2 : Int32) (v3 : Int32) : Option Int32 :=
  if (7 : Int32) ≤ v3 then some v2 else if v2 ≤ 0 then some v2 else jx_gd (jx_in ((v2 * (3 : Int32)) + v1) 21) (if (zs_BODIES ((v2 * (3 : Int32)) + v1).toNatClampNeg) = 0 then jx_gd (jx_in v2 7) (jx_lt ((zs_ABOVE v2.toNatClampNeg)) (fun x6 => jx_lt (v3 + (1 : Int32)) (fun x7 => (k4 σ v1 x6 x7)))) else some v2)
set_option maxHeartbeats 4000000 in
set_option maxRecDepth 100000 in
theorem jg_X0_doerOf_4 (l : Launch) (G : jx_G) (t : jx_T) (hG : ll_ok G) (sz : Nat) (σ0 : jx_M) (out : Int32) (k4 : jx_M → Int32 → Int32 → Int32 → Option Int32) (h4 : ∀ (σ : jx_M) (v1 : Int32) (v2 : Int32) (v3 : Int32), σ = σ0 → k4 σ v1 v2 v3 = some out → jJ_X0_doerOf l G t sz σ0 out 4 [(1, .int v1), (2, .int v2), (3, .int v3)] [] σ) (σ : jx_M) (v1 : Int32) (v2 : Int32) (v3 : Int32) (e0 : σ = σ0) (h : g_X0_doerOf_4 t k4 σ v1 v2 v3 = some out) : jJ_X0_doerOf l G t sz σ0 out 4 [(1, .int v1), (2, .int v2), (3, .int v3)] [] σ := by
  unfold g_X0_doerOf_4 at h
  refine jx_iload_n (pc := 4) (k0 := 3) rfl dX0_doerOf_4 ?_
  refine jx_bipush (pc := 5) (v := (7 : Int32)) (by decide) dX0_doerOf_5 ?_
  refine jx_icmp_ge (pc := 7) (tgt := 38) dX0_doerOf_7 (by decide) (fun c1 => ?_) (fun c1 => ?_)
  · have h := jx_t c1 h
    refine jx_iload_n (pc := 38) (k0 := 2) rfl dX0_doerOf_38 ?_
    subst e0
    have h := Option.some.inj h
    subst h
    exact jx_iret (pc := 39) dX0_doerOf_39
  · have h := jx_f c1 h
    refine jx_iload_n (pc := 10) (k0 := 2) rfl dX0_doerOf_10 ?_
    refine jx_if_le (pc := 11) (tgt := 38) dX0_doerOf_11 (by decide) (fun c2 => ?_) (fun c2 => ?_)
    · have h := jx_t c2 h
      refine jx_iload_n (pc := 38) (k0 := 2) rfl dX0_doerOf_38 ?_
      subst e0
      have h := Option.some.inj h
      subst h
      exact jx_iret (pc := 39) dX0_doerOf_39
    · have h := jx_f c2 h
      refine ll_z_BODIES (pc := 14) fl_X0_32 dX0_doerOf_14 ?_
      refine jx_iload_n (pc := 17) (k0 := 2) rfl dX0_doerOf_17 ?_
      refine jx_iconst (pc := 18) (v := (3 : Int32)) (by decide) dX0_doerOf_18 ?_
      refine jx_imul (pc := 19) dX0_doerOf_19 ?_
      refine jx_iload_n (pc := 20) (k0 := 1) rfl dX0_doerOf_20 ?_
      refine jx_iadd (pc := 21) dX0_doerOf_21 ?_
      obtain ⟨g3, h⟩ := jx_gd_o h
      refine ll_zl_BODIES (pc := 22) (jx_in_o g3) rfl dX0_doerOf_22 ?_
      refine jx_if_ne (pc := 23) (tgt := 38) dX0_doerOf_23 (by decide) (fun c4 => ?_) (fun c4 => ?_)
      · have h := jx_f c4 h
        refine jx_iload_n (pc := 38) (k0 := 2) rfl dX0_doerOf_38 ?_
        subst e0
        have h := Option.some.inj h
        subst h
        exact jx_iret (pc := 39) dX0_doerOf_39
      · have h := jx_t c4 h
        refine ll_z_ABOVE (pc := 26) fl_X0_29 dX0_doerOf_26 ?_
        refine jx_iload_n (pc := 29) (k0 := 2) rfl dX0_doerOf_29 ?_
        obtain ⟨g5, h⟩ := jx_gd_o h
        refine ll_zl_ABOVE (pc := 30) (jx_in_o g5) rfl dX0_doerOf_30 ?_
        obtain ⟨x6, ex6, h⟩ := jx_lt_o h
        refine jx_istore_n (pc := 31) (i := 2) rfl ex6 (by decide) (lv' := [(2, .int x6), (1, .int v1), (3, .int v3)]) rfl dX0_doerOf_31 ?_
        obtain ⟨x7, ex7, h⟩ := jx_lt_o h
        refine jx_iinc (pc := 32) (i := 3) (v := v3) rfl ex7 (n := 1) (by decide) (by decide) (lv' := [(3, .int x7), (2, .int x6), (1, .int v1)]) rfl dX0_doerOf_32 ?_
        refine jx_goto (pc := 35) (tgt := 4) dX0_doerOf_35 (by decide) ?_
        exact jx_sub [2, 1, 0] rfl (h4 σ v1 x6 x7 e0 h)
def b_X0_doerOf_4 (t : jx_T)  : Nat → jx_M → Int32 → Int32 → Int32 → Option Int32
  | 0, _, _, _, _ => none
  | n + 1, σ, v1, v2, v3 => g_X0_doerOf_4 t (b_X0_doerOf_4 t n) σ v1 v2 v3
theorem jb_X0_doerOf_4 (l : Launch) (G : jx_G) (t : jx_T) (hG : ll_ok G) (sz : Nat) (σ0 : jx_M) (out : Int32)  : ∀ (n : Nat) (σ : jx_M) (v1 : Int32) (v2 : Int32) (v3 : Int32), σ = σ0 → b_X0_doerOf_4 t n σ v1 v2 v3 = some out → jJ_X0_doerOf l G t sz σ0 out 4 [(1, .int v1), (2, .int v2), (3, .int v3)] [] σ := by
  intro n
  induction n with
  | zero =>
    intro σ v1 v2 v3 e0 h
    cases h
  | succ n ih =>
    intro σ v1 v2 v3 e0 h
    exact jg_X0_doerOf_4 l G t hG sz σ0 out (b_X0_doerOf_4 t n) ih σ v1 v2 v3 e0 h
def f_X0_doerOf (t : jx_T) (σ : jx_M) (a0 : Int32) (a1 : Int32) : Option Int32 :=
  (b_X0_doerOf_4 t jx_fuel σ a1 a0 (0 : Int32))
set_option maxHeartbeats 4000000 in
set_option maxRecDepth 100000 in
theorem k_X0_doerOf (l : Launch) (G : jx_G) (t : jx_T) (hG : ll_ok G) (sz : Nat) (σ : jx_M) (a0 : Int32) (a1 : Int32) (out : Int32) (h : f_X0_doerOf t σ a0 a1 = some out) : Met l yX0_doerOf (Cond.code yX0_doerOf cX0_doerOf 4 (some .int) :: jx_ws) rm_X0_doerOf (jx_Pc (ll_env G t) (ll_dyn G t) (ll_rg G) sz σ [.int a0, .int a1]) (jx_Qi (ll_dyn G t) σ out (jx_A (ll_rg G) sz)) 0 0 (jx_A (ll_rg G) sz) := by
  unfold f_X0_doerOf at h
  refine jx_met (by decide) (Nat.le_of_ble_eq_true rfl) ?_
  refine jx_sub (lv' := [(0, .int a0), (1, .int a1)]) [0, 1] rfl ?_
  refine jx_iload_n (pc := 0) (k0 := 0) rfl dX0_doerOf_0 ?_
  refine jx_istore_n (pc := 1) (i := 2) rfl rfl (by decide) (lv' := [(2, .int a0), (0, .int a0), (1, .int a1)]) rfl dX0_doerOf_1 ?_
  refine jx_iconst (pc := 2) (v := (0 : Int32)) (by decide) dX0_doerOf_2 ?_
  refine jx_istore_n (pc := 3) (i := 3) rfl rfl (by decide) (lv' := [(3, .int (0 : Int32)), (2, .int a0), (0, .int a0), (1, .int a1)]) rfl dX0_doerOf_3 ?_
  exact jx_sub [3, 1, 0] rfl (jb_X0_doerOf_4 l G t hG sz σ out jx_fuel σ a1 a0 (0 : Int32) rfl h)
theorem dX0_begin_0 : decode cX0_begin 0 = .ok (.aload_n 0, 1) := by decide +kernel
theorem dX0_begin_1 : decode cX0_begin 1 = .ok (.getfield 15, 3) := by decide +kernel
theorem dX0_begin_4 : decode cX0_begin 4 = .ok (.bipush 20, 2) := by decide +kernel
theorem dX0_begin_6 : decode cX0_begin 6 = .ok (.if_icmp .ge 13, 3) := by decide +kernel
theorem dX0_begin_9 : decode cX0_begin 9 = .ok (.aload_n 0, 1) := by decide +kernel
theorem dX0_begin_10 : decode cX0_begin 10 = .ok (.getfield 11, 3) := by decide +kernel
theorem dX0_begin_13 : decode cX0_begin 13 = .ok (.aload_n 0, 1) := by decide +kernel
theorem dX0_begin_14 : decode cX0_begin 14 = .ok (.getfield 15, 3) := by decide +kernel
theorem dX0_begin_17 : decode cX0_begin 17 = .ok (.iload_n 1, 1) := by decide +kernel
theorem dX0_begin_18 : decode cX0_begin 18 = .ok (.iastore, 1) := by decide +kernel
theorem dX0_begin_19 : decode cX0_begin 19 = .ok (.aload_n 0, 1) := by decide +kernel
theorem dX0_begin_20 : decode cX0_begin 20 = .ok (.dup, 1) := by decide +kernel
theorem dX0_begin_21 : decode cX0_begin 21 = .ok (.getfield 15, 3) := by decide +kernel
theorem dX0_begin_24 : decode cX0_begin 24 = .ok (.iconst 1, 1) := by decide +kernel
theorem dX0_begin_25 : decode cX0_begin 25 = .ok (.iadd, 1) := by decide +kernel
theorem dX0_begin_26 : decode cX0_begin 26 = .ok (.putfield 15, 3) := by decide +kernel
theorem dX0_begin_29 : decode cX0_begin 29 = .ok (.return_, 1) := by decide +kernel
abbrev rm_X0_begin : Room := { frames := 0, cells := 0, slots := 0, locals := 0 }
abbrev jJ_X0_begin (l : Launch) (G : jx_G) (t : jx_T) (sz : Nat) (out : jx_M) (pc : Nat) (lv : List (Nat × Value)) (st : List Value) (σ : jx_M) : Prop := jx_J l (ll_env G t) (ll_dyn G t) (ll_rg G) sz RX0 "begin" cX0_begin 2 none rm_X0_begin (fun below args s => MQ below (jx_Qv (ll_dyn G t) out (jx_A (ll_rg G) sz)) args s 0 0 (jx_A (ll_rg G) sz)) 0 0 pc lv st σ
def b_X0_begin_19 (t : jx_T)  (σ : jx_M)  : Option jx_M :=
  jx_lt (jx_mu σ 0 21 ((σ 0 21) + (1 : Int32))) (fun σ1 => some σ1)
set_option maxHeartbeats 4000000 in
set_option maxRecDepth 100000 in
theorem jb_X0_begin_19 (l : Launch) (G : jx_G) (t : jx_T) (hG : ll_ok G) (sz : Nat) (out : jx_M)  (σ : jx_M)  (h : b_X0_begin_19 t σ = some out) : jJ_X0_begin l G t sz out 19 [(0, .ref (G.2 24))] [] σ := by
  unfold b_X0_begin_19 at h
  refine jx_aload_n (pc := 19) (k0 := 0) rfl dX0_begin_19 ?_
  refine jx_dup (pc := 20) rfl dX0_begin_20 ?_
  refine ll_gacts_ran (pc := 21) fl_X0_15 dX0_begin_21 ?_
  refine jx_iconst (pc := 24) (v := (1 : Int32)) (by decide) dX0_begin_24 ?_
  refine jx_iadd (pc := 25) dX0_begin_25 ?_
  obtain ⟨σ1, eσ1, h⟩ := jx_lt_o h
  refine ll_pacts_ran (pc := 26) hG fl_X0_15 eσ1 dX0_begin_26 ?_
  have h := Option.some.inj h
  subst h
  exact jx_vret (pc := 29) dX0_begin_29
def f_X0_begin (t : jx_T) (σ : jx_M) (a1 : Int32) : Option jx_M :=
  if (20 : Int32) ≤ (σ 0 21) then (b_X0_begin_19 t σ) else jx_gd (jx_in (σ 0 21) 20) (jx_lt (jx_mu σ 60 (σ 0 21).toNatClampNeg a1) (fun σ3 => (b_X0_begin_19 t σ3)))
set_option maxHeartbeats 4000000 in
set_option maxRecDepth 100000 in
theorem k_X0_begin (l : Launch) (G : jx_G) (t : jx_T) (hG : ll_ok G) (sz : Nat) (σ : jx_M) (a1 : Int32) (out : jx_M) (h : f_X0_begin t σ a1 = some out) : Met l yX0_begin (Cond.code yX0_begin cX0_begin 2 none :: jx_ws) rm_X0_begin (jx_Pc (ll_env G t) (ll_dyn G t) (ll_rg G) sz σ [.ref (G.2 24), .int a1]) (jx_Qv (ll_dyn G t) out (jx_A (ll_rg G) sz)) 0 0 (jx_A (ll_rg G) sz) := by
  unfold f_X0_begin at h
  refine jx_met (by decide) (Nat.le_of_ble_eq_true rfl) ?_
  refine jx_sub (lv' := [(0, .ref (G.2 24)), (1, .int a1)]) [0, 1] rfl ?_
  refine jx_aload_n (pc := 0) (k0 := 0) rfl dX0_begin_0 ?_
  refine ll_gacts_ran (pc := 1) fl_X0_15 dX0_begin_1 ?_
  refine jx_bipush (pc := 4) (v := (20 : Int32)) (by decide) dX0_begin_4 ?_
  refine jx_icmp_ge (pc := 6) (tgt := 19) dX0_begin_6 (by decide) (fun c1 => ?_) (fun c1 => ?_)
  · have h := jx_t c1 h
    exact jx_sub [0] rfl (jb_X0_begin_19 l G t hG sz out σ h)
  · have h := jx_f c1 h
    refine jx_aload_n (pc := 9) (k0 := 0) rfl dX0_begin_9 ?_
    refine ll_gacts_bodies (pc := 10) fl_X0_11 dX0_begin_10 ?_
    refine jx_aload_n (pc := 13) (k0 := 0) rfl dX0_begin_13 ?_
    refine ll_gacts_ran (pc := 14) fl_X0_15 dX0_begin_14 ?_
    refine jx_iload_n (pc := 17) (k0 := 1) rfl dX0_begin_17 ?_
    obtain ⟨g2, h⟩ := jx_gd_o h
    obtain ⟨σ3, eσ3, h⟩ := jx_lt_o h
    refine ll_s (pc := 18) (k := 60) hG (jx_in_o g2) rfl eσ3 dX0_begin_18 ?_
    exact jx_sub [0] rfl (jb_X0_begin_19 l G t hG sz out σ3 h)
theorem dX1_dig_0 : decode cX1_dig 0 = .ok (.aload_n 0, 1) := by decide +kernel
theorem dX1_dig_1 : decode cX1_dig 1 = .ok (.iload_n 1, 1) := by decide +kernel
theorem dX1_dig_2 : decode cX1_dig 2 = .ok (.putfield 71, 3) := by decide +kernel
theorem dX1_dig_5 : decode cX1_dig 5 = .ok (.iconst 0, 1) := by decide +kernel
theorem dX1_dig_6 : decode cX1_dig 6 = .ok (.istore_n 2, 1) := by decide +kernel
theorem dX1_dig_7 : decode cX1_dig 7 = .ok (.iload_n 2, 1) := by decide +kernel
theorem dX1_dig_8 : decode cX1_dig 8 = .ok (.bipush 7, 2) := by decide +kernel
theorem dX1_dig_10 : decode cX1_dig 10 = .ok (.if_icmp .ge 49, 3) := by decide +kernel
theorem dX1_dig_13 : decode cX1_dig 13 = .ok (.aload_n 0, 1) := by decide +kernel
theorem dX1_dig_14 : decode cX1_dig 14 = .ok (.getfield 11, 3) := by decide +kernel
theorem dX1_dig_17 : decode cX1_dig 17 = .ok (.iload_n 2, 1) := by decide +kernel
theorem dX1_dig_18 : decode cX1_dig 18 = .ok (.aaload, 1) := by decide +kernel
theorem dX1_dig_19 : decode cX1_dig 19 = .ok (.iconst 0, 1) := by decide +kernel
theorem dX1_dig_20 : decode cX1_dig 20 = .ok (.iload_n 2, 1) := by decide +kernel
theorem dX1_dig_21 : decode cX1_dig 21 = .ok (.iconst 1, 1) := by decide +kernel
theorem dX1_dig_22 : decode cX1_dig 22 = .ok (.iadd, 1) := by decide +kernel
theorem dX1_dig_23 : decode cX1_dig 23 = .ok (.iload_n 1, 1) := by decide +kernel
theorem dX1_dig_24 : decode cX1_dig 24 = .ok (.if_icmp .ge 9, 3) := by decide +kernel
theorem dX1_dig_27 : decode cX1_dig 27 = .ok (.iload_n 2, 1) := by decide +kernel
theorem dX1_dig_28 : decode cX1_dig 28 = .ok (.iconst 1, 1) := by decide +kernel
theorem dX1_dig_29 : decode cX1_dig 29 = .ok (.iadd, 1) := by decide +kernel
theorem dX1_dig_30 : decode cX1_dig 30 = .ok (.goto 4, 3) := by decide +kernel
theorem dX1_dig_33 : decode cX1_dig 33 = .ok (.iload_n 2, 1) := by decide +kernel
theorem dX1_dig_34 : decode cX1_dig 34 = .ok (.iastore, 1) := by decide +kernel
theorem dX1_dig_35 : decode cX1_dig 35 = .ok (.aload_n 0, 1) := by decide +kernel
theorem dX1_dig_36 : decode cX1_dig 36 = .ok (.getfield 11, 3) := by decide +kernel
theorem dX1_dig_39 : decode cX1_dig 39 = .ok (.iload_n 2, 1) := by decide +kernel
theorem dX1_dig_40 : decode cX1_dig 40 = .ok (.aaload, 1) := by decide +kernel
theorem dX1_dig_41 : decode cX1_dig 41 = .ok (.iconst 1, 1) := by decide +kernel
theorem dX1_dig_42 : decode cX1_dig 42 = .ok (.iconst (-1), 1) := by decide +kernel
theorem dX1_dig_43 : decode cX1_dig 43 = .ok (.iastore, 1) := by decide +kernel
theorem dX1_dig_44 : decode cX1_dig 44 = .ok (.aload_n 0, 1) := by decide +kernel
theorem dX1_dig_45 : decode cX1_dig 45 = .ok (.getfield 11, 3) := by decide +kernel
theorem dX1_dig_48 : decode cX1_dig 48 = .ok (.iload_n 2, 1) := by decide +kernel
theorem dX1_dig_49 : decode cX1_dig 49 = .ok (.aaload, 1) := by decide +kernel
theorem dX1_dig_50 : decode cX1_dig 50 = .ok (.iconst 2, 1) := by decide +kernel
theorem dX1_dig_51 : decode cX1_dig 51 = .ok (.iconst 0, 1) := by decide +kernel
theorem dX1_dig_52 : decode cX1_dig 52 = .ok (.iastore, 1) := by decide +kernel
theorem dX1_dig_53 : decode cX1_dig 53 = .ok (.iinc 2 1, 3) := by decide +kernel
theorem dX1_dig_56 : decode cX1_dig 56 = .ok (.goto (-49), 3) := by decide +kernel
theorem dX1_dig_59 : decode cX1_dig 59 = .ok (.return_, 1) := by decide +kernel
abbrev rm_X1_dig : Room := { frames := 0, cells := 0, slots := 0, locals := 0 }
abbrev jJ_X1_dig (l : Launch) (G : jx_G) (t : jx_T) (sz : Nat) (out : jx_M) (pc : Nat) (lv : List (Nat × Value)) (st : List Value) (σ : jx_M) : Prop := jx_J l (ll_env G t) (ll_dyn G t) (ll_rg G) sz RX1 "dig" cX1_dig 3 none rm_X1_dig (fun below args s => MQ below (jx_Qv (ll_dyn G t) out (jx_A (ll_rg G) sz)) args s 0 0 (jx_A (ll_rg G) sz)) 0 0 pc lv st σ
def b_X1_dig_34 (t : jx_T) (k7 : jx_M → Int32 → Int32 → Option jx_M) (σ : jx_M) (v1 : Int32) (v2 : Int32) (s0 : Int32) (s1 : Int32) (s2 : Nat) : Option jx_M :=
  jx_gd (jx_in s1 (ll_len s2)) (jx_lt (jx_mu σ s2 s1.toNatClampNeg s0) (fun σ2 => jx_gd (jx_in v2 7) (jx_gd (jx_in (1 : Int32) (ll_len (1 + v2.toNatClampNeg))) (jx_lt (jx_mu σ2 (1 + v2.toNatClampNeg) 1 (-1 : Int32)) (fun σ5 => jx_gd (jx_in v2 7) (jx_gd (jx_in (2 : Int32) (ll_len (1 + v2.toNatClampNeg))) (jx_lt (jx_mu σ5 (1 + v2.toNatClampNeg) 2 (0 : Int32)) (fun σ8 => jx_lt (v2 + (1 : Int32)) (fun x9 => (k7 σ8 v1 x9))))))))))
set_option maxHeartbeats 4000000 in
set_option maxRecDepth 100000 in
theorem jb_X1_dig_34 (l : Launch) (G : jx_G) (t : jx_T) (hG : ll_ok G) (sz : Nat) (out : jx_M) (k7 : jx_M → Int32 → Int32 → Option jx_M) (h7 : ∀ (σ : jx_M) (v1 : Int32) (v2 : Int32), k7 σ v1 v2 = some out → jJ_X1_dig l G t sz out 7 [(0, .ref (G.2 21)), (1, .int v1), (2, .int v2)] [] σ) (σ : jx_M) (v1 : Int32) (v2 : Int32) (s0 : Int32) (s1 : Int32) (s2 : Nat) (h : b_X1_dig_34 t k7 σ v1 v2 s0 s1 s2 = some out) : jJ_X1_dig l G t sz out 34 [(0, .ref (G.2 21)), (1, .int v1), (2, .int v2)] [.int s0, .int s1, .ref (G.2 (100 + s2))] σ := by
  unfold b_X1_dig_34 at h
  obtain ⟨g1, h⟩ := jx_gd_o h
  obtain ⟨σ2, eσ2, h⟩ := jx_lt_o h
  refine ll_s (pc := 34) (k := s2) hG (jx_in_o g1) rfl eσ2 dX1_dig_34 ?_
  refine jx_aload_n (pc := 35) (k0 := 0) rfl dX1_dig_35 ?_
  refine ll_gnow_place (pc := 36) fl_X1_11 dX1_dig_36 ?_
  refine jx_iload_n (pc := 39) (k0 := 2) rfl dX1_dig_39 ?_
  obtain ⟨g3, h⟩ := jx_gd_o h
  refine ll_a_now_place (pc := 40) (jx_in_o g3) dX1_dig_40 ?_
  refine jx_iconst (pc := 41) (v := (1 : Int32)) (by decide) dX1_dig_41 ?_
  refine jx_iconst (pc := 42) (v := (-1 : Int32)) (by decide) dX1_dig_42 ?_
  obtain ⟨g4, h⟩ := jx_gd_o h
  obtain ⟨σ5, eσ5, h⟩ := jx_lt_o h
  refine ll_s (pc := 43) (k := (1 + v2.toNatClampNeg)) hG (jx_in_o g4) (by decide) eσ5 dX1_dig_43 ?_
  refine jx_aload_n (pc := 44) (k0 := 0) rfl dX1_dig_44 ?_
  refine ll_gnow_place (pc := 45) fl_X1_11 dX1_dig_45 ?_
  refine jx_iload_n (pc := 48) (k0 := 2) rfl dX1_dig_48 ?_
  obtain ⟨g6, h⟩ := jx_gd_o h
  refine ll_a_now_place (pc := 49) (jx_in_o g6) dX1_dig_49 ?_
  refine jx_iconst (pc := 50) (v := (2 : Int32)) (by decide) dX1_dig_50 ?_
  refine jx_iconst (pc := 51) (v := (0 : Int32)) (by decide) dX1_dig_51 ?_
  obtain ⟨g7, h⟩ := jx_gd_o h
  obtain ⟨σ8, eσ8, h⟩ := jx_lt_o h
  refine ll_s (pc := 52) (k := (1 + v2.toNatClampNeg)) hG (jx_in_o g7) (by decide) eσ8 dX1_dig_52 ?_
  obtain ⟨x9, ex9, h⟩ := jx_lt_o h
  refine jx_iinc (pc := 53) (i := 2) (v := v2) rfl ex9 (n := 1) (by decide) (by decide) (lv' := [(2, .int x9), (0, .ref (G.2 21)), (1, .int v1)]) rfl dX1_dig_53 ?_
  refine jx_goto (pc := 56) (tgt := 7) dX1_dig_56 (by decide) ?_
  exact jx_sub [1, 2, 0] rfl (h7 σ8 v1 x9 h)
def g_X1_dig_7 (t : jx_T) (k7 : jx_M → Int32 → Int32 → Option jx_M) (σ : jx_M) (v1 : Int32) (v2 : Int32) : Option jx_M :=
  if (7 : Int32) ≤ v2 then some σ else jx_gd (jx_in v2 7) (if v1 ≤ (v2 + (1 : Int32)) then (b_X1_dig_34 t k7 σ v1 v2 v2 (0 : Int32) (1 + v2.toNatClampNeg)) else (b_X1_dig_34 t k7 σ v1 v2 (v2 + (1 : Int32)) (0 : Int32) (1 + v2.toNatClampNeg)))
set_option maxHeartbeats 4000000 in
set_option maxRecDepth 100000 in
theorem jg_X1_dig_7 (l : Launch) (G : jx_G) (t : jx_T) (hG : ll_ok G) (sz : Nat) (out : jx_M) (k7 : jx_M → Int32 → Int32 → Option jx_M) (h7 : ∀ (σ : jx_M) (v1 : Int32) (v2 : Int32), k7 σ v1 v2 = some out → jJ_X1_dig l G t sz out 7 [(0, .ref (G.2 21)), (1, .int v1), (2, .int v2)] [] σ) (σ : jx_M) (v1 : Int32) (v2 : Int32) (h : g_X1_dig_7 t k7 σ v1 v2 = some out) : jJ_X1_dig l G t sz out 7 [(0, .ref (G.2 21)), (1, .int v1), (2, .int v2)] [] σ := by
  unfold g_X1_dig_7 at h
  refine jx_iload_n (pc := 7) (k0 := 2) rfl dX1_dig_7 ?_
  refine jx_bipush (pc := 8) (v := (7 : Int32)) (by decide) dX1_dig_8 ?_
  refine jx_icmp_ge (pc := 10) (tgt := 59) dX1_dig_10 (by decide) (fun c1 => ?_) (fun c1 => ?_)
  · have h := jx_t c1 h
    have h := Option.some.inj h
    subst h
    exact jx_vret (pc := 59) dX1_dig_59
  · have h := jx_f c1 h
    refine jx_aload_n (pc := 13) (k0 := 0) rfl dX1_dig_13 ?_
    refine ll_gnow_place (pc := 14) fl_X1_11 dX1_dig_14 ?_
    refine jx_iload_n (pc := 17) (k0 := 2) rfl dX1_dig_17 ?_
    obtain ⟨g2, h⟩ := jx_gd_o h
    refine ll_a_now_place (pc := 18) (jx_in_o g2) dX1_dig_18 ?_
    refine jx_iconst (pc := 19) (v := (0 : Int32)) (by decide) dX1_dig_19 ?_
    refine jx_iload_n (pc := 20) (k0 := 2) rfl dX1_dig_20 ?_
    refine jx_iconst (pc := 21) (v := (1 : Int32)) (by decide) dX1_dig_21 ?_
    refine jx_iadd (pc := 22) dX1_dig_22 ?_
    refine jx_iload_n (pc := 23) (k0 := 1) rfl dX1_dig_23 ?_
    refine jx_icmp_ge (pc := 24) (tgt := 33) dX1_dig_24 (by decide) (fun c3 => ?_) (fun c3 => ?_)
    · have h := jx_t c3 h
      refine jx_iload_n (pc := 33) (k0 := 2) rfl dX1_dig_33 ?_
      exact jx_sub [0, 1, 2] rfl (jb_X1_dig_34 l G t hG sz out k7 h7 σ v1 v2 v2 (0 : Int32) (1 + v2.toNatClampNeg) h)
    · have h := jx_f c3 h
      refine jx_iload_n (pc := 27) (k0 := 2) rfl dX1_dig_27 ?_
      refine jx_iconst (pc := 28) (v := (1 : Int32)) (by decide) dX1_dig_28 ?_
      refine jx_iadd (pc := 29) dX1_dig_29 ?_
      refine jx_goto (pc := 30) (tgt := 34) dX1_dig_30 (by decide) ?_
      exact jx_sub [0, 1, 2] rfl (jb_X1_dig_34 l G t hG sz out k7 h7 σ v1 v2 (v2 + (1 : Int32)) (0 : Int32) (1 + v2.toNatClampNeg) h)
def b_X1_dig_7 (t : jx_T)  : Nat → jx_M → Int32 → Int32 → Option jx_M
  | 0, _, _, _ => none
  | n + 1, σ, v1, v2 => g_X1_dig_7 t (b_X1_dig_7 t n) σ v1 v2
theorem jb_X1_dig_7 (l : Launch) (G : jx_G) (t : jx_T) (hG : ll_ok G) (sz : Nat) (out : jx_M)  : ∀ (n : Nat) (σ : jx_M) (v1 : Int32) (v2 : Int32), b_X1_dig_7 t n σ v1 v2 = some out → jJ_X1_dig l G t sz out 7 [(0, .ref (G.2 21)), (1, .int v1), (2, .int v2)] [] σ := by
  intro n
  induction n with
  | zero =>
    intro σ v1 v2 h
    cases h
  | succ n ih =>
    intro σ v1 v2 h
    exact jg_X1_dig_7 l G t hG sz out (b_X1_dig_7 t n) ih σ v1 v2 h
def f_X1_dig (t : jx_T) (σ : jx_M) (a1 : Int32) : Option jx_M :=
  jx_lt (jx_mu σ 0 0 a1) (fun σ1 => (b_X1_dig_7 t jx_fuel σ1 a1 (0 : Int32)))
set_option maxHeartbeats 4000000 in
set_option maxRecDepth 100000 in
theorem k_X1_dig (l : Launch) (G : jx_G) (t : jx_T) (hG : ll_ok G) (sz : Nat) (σ : jx_M) (a1 : Int32) (out : jx_M) (h : f_X1_dig t σ a1 = some out) : Met l yX1_dig (Cond.code yX1_dig cX1_dig 3 none :: jx_ws) rm_X1_dig (jx_Pc (ll_env G t) (ll_dyn G t) (ll_rg G) sz σ [.ref (G.2 21), .int a1]) (jx_Qv (ll_dyn G t) out (jx_A (ll_rg G) sz)) 0 0 (jx_A (ll_rg G) sz) := by
  unfold f_X1_dig at h
  refine jx_met (by decide) (Nat.le_of_ble_eq_true rfl) ?_
  refine jx_sub (lv' := [(0, .ref (G.2 21)), (1, .int a1)]) [0, 1] rfl ?_
  refine jx_aload_n (pc := 0) (k0 := 0) rfl dX1_dig_0 ?_
  refine jx_iload_n (pc := 1) (k0 := 1) rfl dX1_dig_1 ?_
  obtain ⟨σ1, eσ1, h⟩ := jx_lt_o h
  refine ll_pnow_places (pc := 2) hG fl_X1_71 eσ1 dX1_dig_2 ?_
  refine jx_iconst (pc := 5) (v := (0 : Int32)) (by decide) dX1_dig_5 ?_
  refine jx_istore_n (pc := 6) (i := 2) rfl rfl (by decide) (lv' := [(2, .int (0 : Int32)), (0, .ref (G.2 21)), (1, .int a1)]) rfl dX1_dig_6 ?_
  exact jx_sub [1, 2, 0] rfl (jb_X1_dig_7 l G t hG sz out jx_fuel σ1 a1 (0 : Int32) h)
theorem dX1_hasPlace_0 : decode cX1_hasPlace 0 = .ok (.iconst 0, 1) := by decide +kernel
theorem dX1_hasPlace_1 : decode cX1_hasPlace 1 = .ok (.iload_n 1, 1) := by decide +kernel
theorem dX1_hasPlace_2 : decode cX1_hasPlace 2 = .ok (.if_icmp .gt 15, 3) := by decide +kernel
theorem dX1_hasPlace_5 : decode cX1_hasPlace 5 = .ok (.iload_n 1, 1) := by decide +kernel
theorem dX1_hasPlace_6 : decode cX1_hasPlace 6 = .ok (.aload_n 0, 1) := by decide +kernel
theorem dX1_hasPlace_7 : decode cX1_hasPlace 7 = .ok (.getfield 71, 3) := by decide +kernel
theorem dX1_hasPlace_10 : decode cX1_hasPlace 10 = .ok (.if_icmp .ge 7, 3) := by decide +kernel
theorem dX1_hasPlace_13 : decode cX1_hasPlace 13 = .ok (.iconst 1, 1) := by decide +kernel
theorem dX1_hasPlace_14 : decode cX1_hasPlace 14 = .ok (.goto 4, 3) := by decide +kernel
theorem dX1_hasPlace_17 : decode cX1_hasPlace 17 = .ok (.iconst 0, 1) := by decide +kernel
theorem dX1_hasPlace_18 : decode cX1_hasPlace 18 = .ok (.ireturn, 1) := by decide +kernel
abbrev rm_X1_hasPlace : Room := { frames := 0, cells := 0, slots := 0, locals := 0 }
abbrev jJ_X1_hasPlace (l : Launch) (G : jx_G) (t : jx_T) (sz : Nat) (σ0 : jx_M) (out : Int32) (pc : Nat) (lv : List (Nat × Value)) (st : List Value) (σ : jx_M) : Prop := jx_J l (ll_env G t) (ll_dyn G t) (ll_rg G) sz RX1 "hasPlace" cX1_hasPlace 2 (some .boolean) rm_X1_hasPlace (fun below args s => MQ below (jx_Qi (ll_dyn G t) σ0 out (jx_A (ll_rg G) sz)) args s 0 0 (jx_A (ll_rg G) sz)) 0 0 pc lv st σ
def f_X1_hasPlace (t : jx_T) (σ : jx_M) (a1 : Int32) : Option Int32 :=
  if a1 < (0 : Int32) then some (0 : Int32) else if (σ 0 0) ≤ a1 then some (0 : Int32) else some (1 : Int32)
set_option maxHeartbeats 4000000 in
set_option maxRecDepth 100000 in
theorem k_X1_hasPlace (l : Launch) (G : jx_G) (t : jx_T) (hG : ll_ok G) (sz : Nat) (σ : jx_M) (a1 : Int32) (out : Int32) (h : f_X1_hasPlace t σ a1 = some out) : Met l yX1_hasPlace (Cond.code yX1_hasPlace cX1_hasPlace 2 (some .boolean) :: jx_ws) rm_X1_hasPlace (jx_Pc (ll_env G t) (ll_dyn G t) (ll_rg G) sz σ [.ref (G.2 21), .int a1]) (jx_Qi (ll_dyn G t) σ out (jx_A (ll_rg G) sz)) 0 0 (jx_A (ll_rg G) sz) := by
  unfold f_X1_hasPlace at h
  refine jx_met (by decide) (Nat.le_of_ble_eq_true rfl) ?_
  refine jx_sub (lv' := [(0, .ref (G.2 21)), (1, .int a1)]) [0, 1] rfl ?_
  refine jx_iconst (pc := 0) (v := (0 : Int32)) (by decide) dX1_hasPlace_0 ?_
  refine jx_iload_n (pc := 1) (k0 := 1) rfl dX1_hasPlace_1 ?_
  refine jx_icmp_gt (pc := 2) (tgt := 17) dX1_hasPlace_2 (by decide) (fun c1 => ?_) (fun c1 => ?_)
  · have h := jx_t c1 h
    refine jx_iconst (pc := 17) (v := (0 : Int32)) (by decide) dX1_hasPlace_17 ?_
    have h := Option.some.inj h
    subst h
    exact jx_zret (pc := 18) (Or.inl rfl) dX1_hasPlace_18
  · have h := jx_f c1 h
    refine jx_iload_n (pc := 5) (k0 := 1) rfl dX1_hasPlace_5 ?_
    refine jx_aload_n (pc := 6) (k0 := 0) rfl dX1_hasPlace_6 ?_
    refine ll_gnow_places (pc := 7) fl_X1_71 dX1_hasPlace_7 ?_
    refine jx_icmp_ge (pc := 10) (tgt := 17) dX1_hasPlace_10 (by decide) (fun c2 => ?_) (fun c2 => ?_)
    · have h := jx_t c2 h
      refine jx_iconst (pc := 17) (v := (0 : Int32)) (by decide) dX1_hasPlace_17 ?_
      have h := Option.some.inj h
      subst h
      exact jx_zret (pc := 18) (Or.inl rfl) dX1_hasPlace_18
    · have h := jx_f c2 h
      refine jx_iconst (pc := 13) (v := (1 : Int32)) (by decide) dX1_hasPlace_13 ?_
      refine jx_goto (pc := 14) (tgt := 18) dX1_hasPlace_14 (by decide) ?_
      have h := Option.some.inj h
      subst h
      exact jx_zret (pc := 18) (Or.inr rfl) dX1_hasPlace_18
theorem dX1_hasVoter_0 : decode cX1_hasVoter 0 = .ok (.iconst 0, 1) := by decide +kernel
theorem dX1_hasVoter_1 : decode cX1_hasVoter 1 = .ok (.iload_n 1, 1) := by decide +kernel
theorem dX1_hasVoter_2 : decode cX1_hasVoter 2 = .ok (.if_icmp .gt 15, 3) := by decide +kernel
theorem dX1_hasVoter_5 : decode cX1_hasVoter 5 = .ok (.iload_n 1, 1) := by decide +kernel
theorem dX1_hasVoter_6 : decode cX1_hasVoter 6 = .ok (.aload_n 0, 1) := by decide +kernel
theorem dX1_hasVoter_7 : decode cX1_hasVoter 7 = .ok (.getfield 20, 3) := by decide +kernel
theorem dX1_hasVoter_10 : decode cX1_hasVoter 10 = .ok (.if_icmp .ge 7, 3) := by decide +kernel
theorem dX1_hasVoter_13 : decode cX1_hasVoter 13 = .ok (.iconst 1, 1) := by decide +kernel
theorem dX1_hasVoter_14 : decode cX1_hasVoter 14 = .ok (.goto 4, 3) := by decide +kernel
theorem dX1_hasVoter_17 : decode cX1_hasVoter 17 = .ok (.iconst 0, 1) := by decide +kernel
theorem dX1_hasVoter_18 : decode cX1_hasVoter 18 = .ok (.ireturn, 1) := by decide +kernel
abbrev rm_X1_hasVoter : Room := { frames := 0, cells := 0, slots := 0, locals := 0 }
abbrev jJ_X1_hasVoter (l : Launch) (G : jx_G) (t : jx_T) (sz : Nat) (σ0 : jx_M) (out : Int32) (pc : Nat) (lv : List (Nat × Value)) (st : List Value) (σ : jx_M) : Prop := jx_J l (ll_env G t) (ll_dyn G t) (ll_rg G) sz RX1 "hasVoter" cX1_hasVoter 2 (some .boolean) rm_X1_hasVoter (fun below args s => MQ below (jx_Qi (ll_dyn G t) σ0 out (jx_A (ll_rg G) sz)) args s 0 0 (jx_A (ll_rg G) sz)) 0 0 pc lv st σ
def f_X1_hasVoter (t : jx_T) (σ : jx_M) (a1 : Int32) : Option Int32 :=
  if a1 < (0 : Int32) then some (0 : Int32) else if (σ 0 2) ≤ a1 then some (0 : Int32) else some (1 : Int32)
set_option maxHeartbeats 4000000 in
set_option maxRecDepth 100000 in
theorem k_X1_hasVoter (l : Launch) (G : jx_G) (t : jx_T) (hG : ll_ok G) (sz : Nat) (σ : jx_M) (a1 : Int32) (out : Int32) (h : f_X1_hasVoter t σ a1 = some out) : Met l yX1_hasVoter (Cond.code yX1_hasVoter cX1_hasVoter 2 (some .boolean) :: jx_ws) rm_X1_hasVoter (jx_Pc (ll_env G t) (ll_dyn G t) (ll_rg G) sz σ [.ref (G.2 21), .int a1]) (jx_Qi (ll_dyn G t) σ out (jx_A (ll_rg G) sz)) 0 0 (jx_A (ll_rg G) sz) := by
  unfold f_X1_hasVoter at h
  refine jx_met (by decide) (Nat.le_of_ble_eq_true rfl) ?_
  refine jx_sub (lv' := [(0, .ref (G.2 21)), (1, .int a1)]) [0, 1] rfl ?_
  refine jx_iconst (pc := 0) (v := (0 : Int32)) (by decide) dX1_hasVoter_0 ?_
  refine jx_iload_n (pc := 1) (k0 := 1) rfl dX1_hasVoter_1 ?_
  refine jx_icmp_gt (pc := 2) (tgt := 17) dX1_hasVoter_2 (by decide) (fun c1 => ?_) (fun c1 => ?_)
  · have h := jx_t c1 h
    refine jx_iconst (pc := 17) (v := (0 : Int32)) (by decide) dX1_hasVoter_17 ?_
    have h := Option.some.inj h
    subst h
    exact jx_zret (pc := 18) (Or.inl rfl) dX1_hasVoter_18
  · have h := jx_f c1 h
    refine jx_iload_n (pc := 5) (k0 := 1) rfl dX1_hasVoter_5 ?_
    refine jx_aload_n (pc := 6) (k0 := 0) rfl dX1_hasVoter_6 ?_
    refine ll_gnow_voters (pc := 7) fl_X1_20 dX1_hasVoter_7 ?_
    refine jx_icmp_ge (pc := 10) (tgt := 17) dX1_hasVoter_10 (by decide) (fun c2 => ?_) (fun c2 => ?_)
    · have h := jx_t c2 h
      refine jx_iconst (pc := 17) (v := (0 : Int32)) (by decide) dX1_hasVoter_17 ?_
      have h := Option.some.inj h
      subst h
      exact jx_zret (pc := 18) (Or.inl rfl) dX1_hasVoter_18
    · have h := jx_f c2 h
      refine jx_iconst (pc := 13) (v := (1 : Int32)) (by decide) dX1_hasVoter_13 ?_
      refine jx_goto (pc := 14) (tgt := 18) dX1_hasVoter_14 (by decide) ?_
      have h := Option.some.inj h
      subst h
      exact jx_zret (pc := 18) (Or.inr rfl) dX1_hasVoter_18
theorem dX1_look_0 : decode cX1_look 0 = .ok (.aload_n 0, 1) := by decide +kernel
theorem dX1_look_1 : decode cX1_look 1 = .ok (.getfield 64, 3) := by decide +kernel
theorem dX1_look_4 : decode cX1_look 4 = .ok (.iconst 0, 1) := by decide +kernel
theorem dX1_look_5 : decode cX1_look 5 = .ok (.iload_n 1, 1) := by decide +kernel
theorem dX1_look_6 : decode cX1_look 6 = .ok (.iastore, 1) := by decide +kernel
theorem dX1_look_7 : decode cX1_look 7 = .ok (.aload_n 0, 1) := by decide +kernel
theorem dX1_look_8 : decode cX1_look 8 = .ok (.getfield 64, 3) := by decide +kernel
theorem dX1_look_11 : decode cX1_look 11 = .ok (.iconst 1, 1) := by decide +kernel
theorem dX1_look_12 : decode cX1_look 12 = .ok (.aload_n 0, 1) := by decide +kernel
theorem dX1_look_13 : decode cX1_look 13 = .ok (.getfield 11, 3) := by decide +kernel
theorem dX1_look_16 : decode cX1_look 16 = .ok (.iload_n 1, 1) := by decide +kernel
theorem dX1_look_17 : decode cX1_look 17 = .ok (.aaload, 1) := by decide +kernel
theorem dX1_look_18 : decode cX1_look 18 = .ok (.iconst 0, 1) := by decide +kernel
theorem dX1_look_19 : decode cX1_look 19 = .ok (.iaload, 1) := by decide +kernel
theorem dX1_look_20 : decode cX1_look 20 = .ok (.iastore, 1) := by decide +kernel
theorem dX1_look_21 : decode cX1_look 21 = .ok (.aload_n 0, 1) := by decide +kernel
theorem dX1_look_22 : decode cX1_look 22 = .ok (.getfield 64, 3) := by decide +kernel
theorem dX1_look_25 : decode cX1_look 25 = .ok (.iconst 2, 1) := by decide +kernel
theorem dX1_look_26 : decode cX1_look 26 = .ok (.iload_n 2, 1) := by decide +kernel
theorem dX1_look_27 : decode cX1_look 27 = .ok (.bipush 12, 2) := by decide +kernel
theorem dX1_look_29 : decode cX1_look 29 = .ok (.irem, 1) := by decide +kernel
theorem dX1_look_30 : decode cX1_look 30 = .ok (.iastore, 1) := by decide +kernel
theorem dX1_look_31 : decode cX1_look 31 = .ok (.aload_n 0, 1) := by decide +kernel
theorem dX1_look_32 : decode cX1_look 32 = .ok (.getfield 64, 3) := by decide +kernel
theorem dX1_look_35 : decode cX1_look 35 = .ok (.iconst 3, 1) := by decide +kernel
theorem dX1_look_36 : decode cX1_look 36 = .ok (.aload_n 0, 1) := by decide +kernel
theorem dX1_look_37 : decode cX1_look 37 = .ok (.getfield 11, 3) := by decide +kernel
theorem dX1_look_40 : decode cX1_look 40 = .ok (.iload_n 1, 1) := by decide +kernel
theorem dX1_look_41 : decode cX1_look 41 = .ok (.aaload, 1) := by decide +kernel
theorem dX1_look_42 : decode cX1_look 42 = .ok (.iconst 2, 1) := by decide +kernel
theorem dX1_look_43 : decode cX1_look 43 = .ok (.iaload, 1) := by decide +kernel
theorem dX1_look_44 : decode cX1_look 44 = .ok (.iastore, 1) := by decide +kernel
theorem dX1_look_45 : decode cX1_look 45 = .ok (.aload_n 0, 1) := by decide +kernel
theorem dX1_look_46 : decode cX1_look 46 = .ok (.getfield 64, 3) := by decide +kernel
theorem dX1_look_49 : decode cX1_look 49 = .ok (.areturn, 1) := by decide +kernel
abbrev rm_X1_look : Room := { frames := 0, cells := 0, slots := 0, locals := 0 }
abbrev jJ_X1_look (l : Launch) (G : jx_G) (t : jx_T) (sz : Nat) (out : (Nat × jx_M)) (pc : Nat) (lv : List (Nat × Value)) (st : List Value) (σ : jx_M) : Prop := jx_J l (ll_env G t) (ll_dyn G t) (ll_rg G) sz RX1 "look" cX1_look 3 (some (.array .int)) rm_X1_look (fun below args s => MQ below (jx_Qr (ll_dyn G t) out.2 (G.2 (100 + out.1)) (jx_A (ll_rg G) sz)) args s 0 0 (jx_A (ll_rg G) sz)) 0 0 pc lv st σ
def f_X1_look (t : jx_T) (σ : jx_M) (a1 : Int32) (a2 : Int32) : Option (Nat × jx_M) :=
  jx_lt (jx_mu σ 20 0 a1) (fun σ1 => jx_gd (jx_in a1 7) (jx_gd (jx_in (0 : Int32) (ll_len (1 + a1.toNatClampNeg))) (jx_lt (jx_mu σ1 20 1 (σ1 (1 + a1.toNatClampNeg) 0)) (fun σ4 => jx_lt (jx_mu σ4 20 2 (a2 - a2 / (12 : Int32) * (12 : Int32))) (fun σ5 => jx_gd (jx_in a1 7) (jx_gd (jx_in (2 : Int32) (ll_len (1 + a1.toNatClampNeg))) (jx_lt (jx_mu σ5 20 3 (σ5 (1 + a1.toNatClampNeg) 2)) (fun σ8 => some (20, σ8)))))))))
set_option maxHeartbeats 4000000 in
set_option maxRecDepth 100000 in
theorem k_X1_look (l : Launch) (G : jx_G) (t : jx_T) (hG : ll_ok G) (sz : Nat) (σ : jx_M) (a1 : Int32) (a2 : Int32) (out : (Nat × jx_M)) (h : f_X1_look t σ a1 a2 = some out) : Met l yX1_look (Cond.code yX1_look cX1_look 3 (some (.array .int)) :: jx_ws) rm_X1_look (jx_Pc (ll_env G t) (ll_dyn G t) (ll_rg G) sz σ [.ref (G.2 21), .int a1, .int a2]) (jx_Qr (ll_dyn G t) out.2 (G.2 (100 + out.1)) (jx_A (ll_rg G) sz)) 0 0 (jx_A (ll_rg G) sz) := by
  unfold f_X1_look at h
  refine jx_met (by decide) (Nat.le_of_ble_eq_true rfl) ?_
  refine jx_sub (lv' := [(0, .ref (G.2 21)), (1, .int a1), (2, .int a2)]) [0, 1, 2] rfl ?_
  refine jx_aload_n (pc := 0) (k0 := 0) rfl dX1_look_0 ?_
  refine ll_gnow_here (pc := 1) fl_X1_64 dX1_look_1 ?_
  refine jx_iconst (pc := 4) (v := (0 : Int32)) (by decide) dX1_look_4 ?_
  refine jx_iload_n (pc := 5) (k0 := 1) rfl dX1_look_5 ?_
  obtain ⟨σ1, eσ1, h⟩ := jx_lt_o h
  refine ll_s (pc := 6) (k := 20) hG (jx_in_o (by decide)) (by decide) eσ1 dX1_look_6 ?_
  refine jx_aload_n (pc := 7) (k0 := 0) rfl dX1_look_7 ?_
  refine ll_gnow_here (pc := 8) fl_X1_64 dX1_look_8 ?_
  refine jx_iconst (pc := 11) (v := (1 : Int32)) (by decide) dX1_look_11 ?_
  refine jx_aload_n (pc := 12) (k0 := 0) rfl dX1_look_12 ?_
  refine ll_gnow_place (pc := 13) fl_X1_11 dX1_look_13 ?_
  refine jx_iload_n (pc := 16) (k0 := 1) rfl dX1_look_16 ?_
  obtain ⟨g2, h⟩ := jx_gd_o h
  refine ll_a_now_place (pc := 17) (jx_in_o g2) dX1_look_17 ?_
  refine jx_iconst (pc := 18) (v := (0 : Int32)) (by decide) dX1_look_18 ?_
  obtain ⟨g3, h⟩ := jx_gd_o h
  refine ll_l (pc := 19) (k := (1 + a1.toNatClampNeg)) (j := 0) (jx_in_o g3) (by decide) dX1_look_19 ?_
  obtain ⟨σ4, eσ4, h⟩ := jx_lt_o h
  refine ll_s (pc := 20) (k := 20) hG (jx_in_o (by decide)) (by decide) eσ4 dX1_look_20 ?_
  refine jx_aload_n (pc := 21) (k0 := 0) rfl dX1_look_21 ?_
  refine ll_gnow_here (pc := 22) fl_X1_64 dX1_look_22 ?_
  refine jx_iconst (pc := 25) (v := (2 : Int32)) (by decide) dX1_look_25 ?_
  refine jx_iload_n (pc := 26) (k0 := 2) rfl dX1_look_26 ?_
  refine jx_bipush (pc := 27) (v := (12 : Int32)) (by decide) dX1_look_27 ?_
  refine jx_irem (pc := 29) (by decide) dX1_look_29 ?_
  obtain ⟨σ5, eσ5, h⟩ := jx_lt_o h
  refine ll_s (pc := 30) (k := 20) hG (jx_in_o (by decide)) (by decide) eσ5 dX1_look_30 ?_
  refine jx_aload_n (pc := 31) (k0 := 0) rfl dX1_look_31 ?_
  refine ll_gnow_here (pc := 32) fl_X1_64 dX1_look_32 ?_
  refine jx_iconst (pc := 35) (v := (3 : Int32)) (by decide) dX1_look_35 ?_
  refine jx_aload_n (pc := 36) (k0 := 0) rfl dX1_look_36 ?_
  refine ll_gnow_place (pc := 37) fl_X1_11 dX1_look_37 ?_
  refine jx_iload_n (pc := 40) (k0 := 1) rfl dX1_look_40 ?_
  obtain ⟨g6, h⟩ := jx_gd_o h
  refine ll_a_now_place (pc := 41) (jx_in_o g6) dX1_look_41 ?_
  refine jx_iconst (pc := 42) (v := (2 : Int32)) (by decide) dX1_look_42 ?_
  obtain ⟨g7, h⟩ := jx_gd_o h
  refine ll_l (pc := 43) (k := (1 + a1.toNatClampNeg)) (j := 2) (jx_in_o g7) (by decide) dX1_look_43 ?_
  obtain ⟨σ8, eσ8, h⟩ := jx_lt_o h
  refine ll_s (pc := 44) (k := 20) hG (jx_in_o (by decide)) (by decide) eσ8 dX1_look_44 ?_
  refine jx_aload_n (pc := 45) (k0 := 0) rfl dX1_look_45 ?_
  refine ll_gnow_here (pc := 46) fl_X1_64 dX1_look_46 ?_
  have h := Option.some.inj h
  subst h
  exact jx_aret (pc := 49) (Or.inr ⟨_, rfl⟩) dX1_look_49
theorem dX1_delay_0 : decode cX1_delay 0 = .ok (.aload_n 0, 1) := by decide +kernel
theorem dX1_delay_1 : decode cX1_delay 1 = .ok (.getfield 23, 3) := by decide +kernel
theorem dX1_delay_4 : decode cX1_delay 4 = .ok (.iload_n 1, 1) := by decide +kernel
theorem dX1_delay_5 : decode cX1_delay 5 = .ok (.aaload, 1) := by decide +kernel
theorem dX1_delay_6 : decode cX1_delay 6 = .ok (.iconst 0, 1) := by decide +kernel
theorem dX1_delay_7 : decode cX1_delay 7 = .ok (.iaload, 1) := by decide +kernel
theorem dX1_delay_8 : decode cX1_delay 8 = .ok (.istore_n 2, 1) := by decide +kernel
theorem dX1_delay_9 : decode cX1_delay 9 = .ok (.iload_n 2, 1) := by decide +kernel
theorem dX1_delay_10 : decode cX1_delay 10 = .ok (.iconst 2, 1) := by decide +kernel
theorem dX1_delay_11 : decode cX1_delay 11 = .ok (.if_icmp .eq 8, 3) := by decide +kernel
theorem dX1_delay_14 : decode cX1_delay 14 = .ok (.iload_n 2, 1) := by decide +kernel
theorem dX1_delay_15 : decode cX1_delay 15 = .ok (.iconst 5, 1) := by decide +kernel
theorem dX1_delay_16 : decode cX1_delay 16 = .ok (.if_icmp .ne 7, 3) := by decide +kernel
theorem dX1_delay_19 : decode cX1_delay 19 = .ok (.iconst 0, 1) := by decide +kernel
theorem dX1_delay_20 : decode cX1_delay 20 = .ok (.goto 13, 3) := by decide +kernel
theorem dX1_delay_23 : decode cX1_delay 23 = .ok (.aload_n 0, 1) := by decide +kernel
theorem dX1_delay_24 : decode cX1_delay 24 = .ok (.getfield 23, 3) := by decide +kernel
theorem dX1_delay_27 : decode cX1_delay 27 = .ok (.iload_n 1, 1) := by decide +kernel
theorem dX1_delay_28 : decode cX1_delay 28 = .ok (.aaload, 1) := by decide +kernel
theorem dX1_delay_29 : decode cX1_delay 29 = .ok (.iconst 1, 1) := by decide +kernel
theorem dX1_delay_30 : decode cX1_delay 30 = .ok (.iaload, 1) := by decide +kernel
theorem dX1_delay_31 : decode cX1_delay 31 = .ok (.iconst 3, 1) := by decide +kernel
theorem dX1_delay_32 : decode cX1_delay 32 = .ok (.irem, 1) := by decide +kernel
theorem dX1_delay_33 : decode cX1_delay 33 = .ok (.ireturn, 1) := by decide +kernel
abbrev rm_X1_delay : Room := { frames := 0, cells := 0, slots := 0, locals := 0 }
abbrev jJ_X1_delay (l : Launch) (G : jx_G) (t : jx_T) (sz : Nat) (σ0 : jx_M) (out : Int32) (pc : Nat) (lv : List (Nat × Value)) (st : List Value) (σ : jx_M) : Prop := jx_J l (ll_env G t) (ll_dyn G t) (ll_rg G) sz RX1 "delay" cX1_delay 3 (some .int) rm_X1_delay (fun below args s => MQ below (jx_Qi (ll_dyn G t) σ0 out (jx_A (ll_rg G) sz)) args s 0 0 (jx_A (ll_rg G) sz)) 0 0 pc lv st σ
def f_X1_delay (t : jx_T) (σ : jx_M) (a1 : Int32) : Option Int32 :=
  jx_gd (jx_in a1 6) (jx_gd (jx_in (0 : Int32) (ll_len (8 + a1.toNatClampNeg))) (jx_lt ((σ (8 + a1.toNatClampNeg) 0)) (fun x3 => if x3 = (2 : Int32) then some (0 : Int32) else if x3 = (5 : Int32) then some (0 : Int32) else jx_gd (jx_in a1 6) (jx_gd (jx_in (1 : Int32) (ll_len (8 + a1.toNatClampNeg))) (some ((σ (8 + a1.toNatClampNeg) 1) - (σ (8 + a1.toNatClampNeg) 1) / (3 : Int32) * (3 : Int32)))))))
set_option maxHeartbeats 4000000 in
set_option maxRecDepth 100000 in
theorem k_X1_delay (l : Launch) (G : jx_G) (t : jx_T) (hG : ll_ok G) (sz : Nat) (σ : jx_M) (a1 : Int32) (out : Int32) (h : f_X1_delay t σ a1 = some out) : Met l yX1_delay (Cond.code yX1_delay cX1_delay 3 (some .int) :: jx_ws) rm_X1_delay (jx_Pc (ll_env G t) (ll_dyn G t) (ll_rg G) sz σ [.ref (G.2 21), .int a1]) (jx_Qi (ll_dyn G t) σ out (jx_A (ll_rg G) sz)) 0 0 (jx_A (ll_rg G) sz) := by
  unfold f_X1_delay at h
  refine jx_met (by decide) (Nat.le_of_ble_eq_true rfl) ?_
  refine jx_sub (lv' := [(0, .ref (G.2 21)), (1, .int a1)]) [0, 1] rfl ?_
  refine jx_aload_n (pc := 0) (k0 := 0) rfl dX1_delay_0 ?_
  refine ll_gnow_voter (pc := 1) fl_X1_23 dX1_delay_1 ?_
  refine jx_iload_n (pc := 4) (k0 := 1) rfl dX1_delay_4 ?_
  obtain ⟨g1, h⟩ := jx_gd_o h
  refine ll_a_now_voter (pc := 5) (jx_in_o g1) dX1_delay_5 ?_
  refine jx_iconst (pc := 6) (v := (0 : Int32)) (by decide) dX1_delay_6 ?_
  obtain ⟨g2, h⟩ := jx_gd_o h
  refine ll_l (pc := 7) (k := (8 + a1.toNatClampNeg)) (j := 0) (jx_in_o g2) (by decide) dX1_delay_7 ?_
  obtain ⟨x3, ex3, h⟩ := jx_lt_o h
  refine jx_istore_n (pc := 8) (i := 2) rfl ex3 (by decide) (lv' := [(2, .int x3), (0, .ref (G.2 21)), (1, .int a1)]) rfl dX1_delay_8 ?_
  refine jx_iload_n (pc := 9) (k0 := 2) rfl dX1_delay_9 ?_
  refine jx_iconst (pc := 10) (v := (2 : Int32)) (by decide) dX1_delay_10 ?_
  refine jx_icmp_eq (pc := 11) (tgt := 19) dX1_delay_11 (by decide) (fun c4 => ?_) (fun c4 => ?_)
  · have h := jx_t c4 h
    refine jx_iconst (pc := 19) (v := (0 : Int32)) (by decide) dX1_delay_19 ?_
    refine jx_goto (pc := 20) (tgt := 33) dX1_delay_20 (by decide) ?_
    have h := Option.some.inj h
    subst h
    exact jx_iret (pc := 33) dX1_delay_33
  · have h := jx_f c4 h
    refine jx_iload_n (pc := 14) (k0 := 2) rfl dX1_delay_14 ?_
    refine jx_iconst (pc := 15) (v := (5 : Int32)) (by decide) dX1_delay_15 ?_
    refine jx_icmp_ne (pc := 16) (tgt := 23) dX1_delay_16 (by decide) (fun c5 => ?_) (fun c5 => ?_)
    · have h := jx_f c5 h
      refine jx_aload_n (pc := 23) (k0 := 0) rfl dX1_delay_23 ?_
      refine ll_gnow_voter (pc := 24) fl_X1_23 dX1_delay_24 ?_
      refine jx_iload_n (pc := 27) (k0 := 1) rfl dX1_delay_27 ?_
      obtain ⟨g6, h⟩ := jx_gd_o h
      refine ll_a_now_voter (pc := 28) (jx_in_o g6) dX1_delay_28 ?_
      refine jx_iconst (pc := 29) (v := (1 : Int32)) (by decide) dX1_delay_29 ?_
      obtain ⟨g7, h⟩ := jx_gd_o h
      refine ll_l (pc := 30) (k := (8 + a1.toNatClampNeg)) (j := 1) (jx_in_o g7) (by decide) dX1_delay_30 ?_
      refine jx_iconst (pc := 31) (v := (3 : Int32)) (by decide) dX1_delay_31 ?_
      refine jx_irem (pc := 32) (by decide) dX1_delay_32 ?_
      have h := Option.some.inj h
      subst h
      exact jx_iret (pc := 33) dX1_delay_33
    · have h := jx_t c5 h
      refine jx_iconst (pc := 19) (v := (0 : Int32)) (by decide) dX1_delay_19 ?_
      refine jx_goto (pc := 20) (tgt := 33) dX1_delay_20 (by decide) ?_
      have h := Option.some.inj h
      subst h
      exact jx_iret (pc := 33) dX1_delay_33
theorem dX1_wishes_0 : decode cX1_wishes 0 = .ok (.iconst 0, 1) := by decide +kernel
theorem dX1_wishes_1 : decode cX1_wishes 1 = .ok (.istore_n 1, 1) := by decide +kernel
theorem dX1_wishes_2 : decode cX1_wishes 2 = .ok (.iconst 0, 1) := by decide +kernel
theorem dX1_wishes_3 : decode cX1_wishes 3 = .ok (.istore_n 2, 1) := by decide +kernel
theorem dX1_wishes_4 : decode cX1_wishes 4 = .ok (.iload_n 2, 1) := by decide +kernel
theorem dX1_wishes_5 : decode cX1_wishes 5 = .ok (.aload_n 0, 1) := by decide +kernel
theorem dX1_wishes_6 : decode cX1_wishes 6 = .ok (.getfield 20, 3) := by decide +kernel
theorem dX1_wishes_9 : decode cX1_wishes 9 = .ok (.if_icmp .ge 22, 3) := by decide +kernel
theorem dX1_wishes_12 : decode cX1_wishes 12 = .ok (.iload_n 1, 1) := by decide +kernel
theorem dX1_wishes_13 : decode cX1_wishes 13 = .ok (.aload_n 0, 1) := by decide +kernel
theorem dX1_wishes_14 : decode cX1_wishes 14 = .ok (.getfield 23, 3) := by decide +kernel
theorem dX1_wishes_17 : decode cX1_wishes 17 = .ok (.iload_n 2, 1) := by decide +kernel
theorem dX1_wishes_18 : decode cX1_wishes 18 = .ok (.aaload, 1) := by decide +kernel
theorem dX1_wishes_19 : decode cX1_wishes 19 = .ok (.iconst 3, 1) := by decide +kernel
theorem dX1_wishes_20 : decode cX1_wishes 20 = .ok (.iaload, 1) := by decide +kernel
theorem dX1_wishes_21 : decode cX1_wishes 21 = .ok (.iload_n 2, 1) := by decide +kernel
theorem dX1_wishes_22 : decode cX1_wishes 22 = .ok (.ishl, 1) := by decide +kernel
theorem dX1_wishes_23 : decode cX1_wishes 23 = .ok (.ior, 1) := by decide +kernel
theorem dX1_wishes_24 : decode cX1_wishes 24 = .ok (.istore_n 1, 1) := by decide +kernel
theorem dX1_wishes_25 : decode cX1_wishes 25 = .ok (.iinc 2 1, 3) := by decide +kernel
theorem dX1_wishes_28 : decode cX1_wishes 28 = .ok (.goto (-24), 3) := by decide +kernel
theorem dX1_wishes_31 : decode cX1_wishes 31 = .ok (.iload_n 1, 1) := by decide +kernel
theorem dX1_wishes_32 : decode cX1_wishes 32 = .ok (.ireturn, 1) := by decide +kernel
abbrev rm_X1_wishes : Room := { frames := 0, cells := 0, slots := 0, locals := 0 }
abbrev jJ_X1_wishes (l : Launch) (G : jx_G) (t : jx_T) (sz : Nat) (σ0 : jx_M) (out : Int32) (pc : Nat) (lv : List (Nat × Value)) (st : List Value) (σ : jx_M) : Prop := jx_J l (ll_env G t) (ll_dyn G t) (ll_rg G) sz RX1 "wishes" cX1_wishes 3 (some .int) rm_X1_wishes (fun below args s => MQ below (jx_Qi (ll_dyn G t) σ0 out (jx_A (ll_rg G) sz)) args s 0 0 (jx_A (ll_rg G) sz)) 0 0 pc lv st σ
def g_X1_wishes_4 (t : jx_T) (k4 : jx_M → Int32 → Int32 → Option Int32) (σ : jx_M) (v1 : Int32) (v2 : Int32) : Option Int32 :=
  if (σ 0 2) ≤ v2 then some v1 else jx_gd (jx_in v2 6) (jx_gd (jx_in (3 : Int32) (ll_len (8 + v2.toNatClampNeg))) (jx_lt ((v1 ||| ((σ (8 + v2.toNatClampNeg) 3) <<< (v2 &&& 31)))) (fun x4 => jx_lt (v2 + (1 : Int32)) (fun x5 => (k4 σ x4 x5)))))
set_option maxHeartbeats 4000000 in
set_option maxRecDepth 100000 in
theorem jg_X1_wishes_4 (l : Launch) (G : jx_G) (t : jx_T) (hG : ll_ok G) (sz : Nat) (σ0 : jx_M) (out : Int32) (k4 : jx_M → Int32 → Int32 → Option Int32) (h4 : ∀ (σ : jx_M) (v1 : Int32) (v2 : Int32), σ = σ0 → k4 σ v1 v2 = some out → jJ_X1_wishes l G t sz σ0 out 4 [(0, .ref (G.2 21)), (1, .int v1), (2, .int v2)] [] σ) (σ : jx_M) (v1 : Int32) (v2 : Int32) (e0 : σ = σ0) (h : g_X1_wishes_4 t k4 σ v1 v2 = some out) : jJ_X1_wishes l G t sz σ0 out 4 [(0, .ref (G.2 21)), (1, .int v1), (2, .int v2)] [] σ := by
  unfold g_X1_wishes_4 at h
  refine jx_iload_n (pc := 4) (k0 := 2) rfl dX1_wishes_4 ?_
  refine jx_aload_n (pc := 5) (k0 := 0) rfl dX1_wishes_5 ?_
  refine ll_gnow_voters (pc := 6) fl_X1_20 dX1_wishes_6 ?_
  refine jx_icmp_ge (pc := 9) (tgt := 31) dX1_wishes_9 (by decide) (fun c1 => ?_) (fun c1 => ?_)
  · have h := jx_t c1 h
    refine jx_iload_n (pc := 31) (k0 := 1) rfl dX1_wishes_31 ?_
    subst e0
    have h := Option.some.inj h
    subst h
    exact jx_iret (pc := 32) dX1_wishes_32
  · have h := jx_f c1 h
    refine jx_iload_n (pc := 12) (k0 := 1) rfl dX1_wishes_12 ?_
    refine jx_aload_n (pc := 13) (k0 := 0) rfl dX1_wishes_13 ?_
    refine ll_gnow_voter (pc := 14) fl_X1_23 dX1_wishes_14 ?_
    refine jx_iload_n (pc := 17) (k0 := 2) rfl dX1_wishes_17 ?_
    obtain ⟨g2, h⟩ := jx_gd_o h
    refine ll_a_now_voter (pc := 18) (jx_in_o g2) dX1_wishes_18 ?_
    refine jx_iconst (pc := 19) (v := (3 : Int32)) (by decide) dX1_wishes_19 ?_
    obtain ⟨g3, h⟩ := jx_gd_o h
    refine ll_l (pc := 20) (k := (8 + v2.toNatClampNeg)) (j := 3) (jx_in_o g3) (by decide) dX1_wishes_20 ?_
    refine jx_iload_n (pc := 21) (k0 := 2) rfl dX1_wishes_21 ?_
    refine jx_ishl (pc := 22) dX1_wishes_22 ?_
    refine jx_ior (pc := 23) dX1_wishes_23 ?_
    obtain ⟨x4, ex4, h⟩ := jx_lt_o h
    refine jx_istore_n (pc := 24) (i := 1) rfl ex4 (by decide) (lv' := [(1, .int x4), (0, .ref (G.2 21)), (2, .int v2)]) rfl dX1_wishes_24 ?_
    obtain ⟨x5, ex5, h⟩ := jx_lt_o h
    refine jx_iinc (pc := 25) (i := 2) (v := v2) rfl ex5 (n := 1) (by decide) (by decide) (lv' := [(2, .int x5), (1, .int x4), (0, .ref (G.2 21))]) rfl dX1_wishes_25 ?_
    refine jx_goto (pc := 28) (tgt := 4) dX1_wishes_28 (by decide) ?_
    exact jx_sub [2, 1, 0] rfl (h4 σ x4 x5 e0 h)
def b_X1_wishes_4 (t : jx_T)  : Nat → jx_M → Int32 → Int32 → Option Int32
  | 0, _, _, _ => none
  | n + 1, σ, v1, v2 => g_X1_wishes_4 t (b_X1_wishes_4 t n) σ v1 v2
theorem jb_X1_wishes_4 (l : Launch) (G : jx_G) (t : jx_T) (hG : ll_ok G) (sz : Nat) (σ0 : jx_M) (out : Int32)  : ∀ (n : Nat) (σ : jx_M) (v1 : Int32) (v2 : Int32), σ = σ0 → b_X1_wishes_4 t n σ v1 v2 = some out → jJ_X1_wishes l G t sz σ0 out 4 [(0, .ref (G.2 21)), (1, .int v1), (2, .int v2)] [] σ := by
  intro n
  induction n with
  | zero =>
    intro σ v1 v2 e0 h
    cases h
  | succ n ih =>
    intro σ v1 v2 e0 h
    exact jg_X1_wishes_4 l G t hG sz σ0 out (b_X1_wishes_4 t n) ih σ v1 v2 e0 h
def f_X1_wishes (t : jx_T) (σ : jx_M)  : Option Int32 :=
  (b_X1_wishes_4 t jx_fuel σ (0 : Int32) (0 : Int32))
set_option maxHeartbeats 4000000 in
set_option maxRecDepth 100000 in
theorem k_X1_wishes (l : Launch) (G : jx_G) (t : jx_T) (hG : ll_ok G) (sz : Nat) (σ : jx_M)  (out : Int32) (h : f_X1_wishes t σ = some out) : Met l yX1_wishes (Cond.code yX1_wishes cX1_wishes 3 (some .int) :: jx_ws) rm_X1_wishes (jx_Pc (ll_env G t) (ll_dyn G t) (ll_rg G) sz σ [.ref (G.2 21)]) (jx_Qi (ll_dyn G t) σ out (jx_A (ll_rg G) sz)) 0 0 (jx_A (ll_rg G) sz) := by
  unfold f_X1_wishes at h
  refine jx_met (by decide) (Nat.le_of_ble_eq_true rfl) ?_
  refine jx_sub (lv' := [(0, .ref (G.2 21))]) [0] rfl ?_
  refine jx_iconst (pc := 0) (v := (0 : Int32)) (by decide) dX1_wishes_0 ?_
  refine jx_istore_n (pc := 1) (i := 1) rfl rfl (by decide) (lv' := [(1, .int (0 : Int32)), (0, .ref (G.2 21))]) rfl dX1_wishes_1 ?_
  refine jx_iconst (pc := 2) (v := (0 : Int32)) (by decide) dX1_wishes_2 ?_
  refine jx_istore_n (pc := 3) (i := 2) rfl rfl (by decide) (lv' := [(2, .int (0 : Int32)), (1, .int (0 : Int32)), (0, .ref (G.2 21))]) rfl dX1_wishes_3 ?_
  exact jx_sub [2, 1, 0] rfl (jb_X1_wishes_4 l G t hG sz σ out jx_fuel σ (0 : Int32) (0 : Int32) rfl h)
theorem dX1_upstream_0 : decode cX1_upstream 0 = .ok (.iconst 0, 1) := by decide +kernel
theorem dX1_upstream_1 : decode cX1_upstream 1 = .ok (.istore_n 2, 1) := by decide +kernel
theorem dX1_upstream_2 : decode cX1_upstream 2 = .ok (.iload_n 2, 1) := by decide +kernel
theorem dX1_upstream_3 : decode cX1_upstream 3 = .ok (.aload_n 0, 1) := by decide +kernel
theorem dX1_upstream_4 : decode cX1_upstream 4 = .ok (.getfield 71, 3) := by decide +kernel
theorem dX1_upstream_7 : decode cX1_upstream 7 = .ok (.if_icmp .ge 28, 3) := by decide +kernel
theorem dX1_upstream_10 : decode cX1_upstream 10 = .ok (.iload_n 2, 1) := by decide +kernel
theorem dX1_upstream_11 : decode cX1_upstream 11 = .ok (.iload_n 1, 1) := by decide +kernel
theorem dX1_upstream_12 : decode cX1_upstream 12 = .ok (.if_icmp .eq 17, 3) := by decide +kernel
theorem dX1_upstream_15 : decode cX1_upstream 15 = .ok (.aload_n 0, 1) := by decide +kernel
theorem dX1_upstream_16 : decode cX1_upstream 16 = .ok (.getfield 11, 3) := by decide +kernel
theorem dX1_upstream_19 : decode cX1_upstream 19 = .ok (.iload_n 2, 1) := by decide +kernel
theorem dX1_upstream_20 : decode cX1_upstream 20 = .ok (.aaload, 1) := by decide +kernel
theorem dX1_upstream_21 : decode cX1_upstream 21 = .ok (.iconst 0, 1) := by decide +kernel
theorem dX1_upstream_22 : decode cX1_upstream 22 = .ok (.iaload, 1) := by decide +kernel
theorem dX1_upstream_23 : decode cX1_upstream 23 = .ok (.iload_n 1, 1) := by decide +kernel
theorem dX1_upstream_24 : decode cX1_upstream 24 = .ok (.if_icmp .ne 5, 3) := by decide +kernel
theorem dX1_upstream_27 : decode cX1_upstream 27 = .ok (.iload_n 2, 1) := by decide +kernel
theorem dX1_upstream_28 : decode cX1_upstream 28 = .ok (.ireturn, 1) := by decide +kernel
theorem dX1_upstream_29 : decode cX1_upstream 29 = .ok (.iinc 2 1, 3) := by decide +kernel
theorem dX1_upstream_32 : decode cX1_upstream 32 = .ok (.goto (-30), 3) := by decide +kernel
theorem dX1_upstream_35 : decode cX1_upstream 35 = .ok (.iload_n 1, 1) := by decide +kernel
theorem dX1_upstream_36 : decode cX1_upstream 36 = .ok (.ireturn, 1) := by decide +kernel
abbrev rm_X1_upstream : Room := { frames := 0, cells := 0, slots := 0, locals := 0 }
abbrev jJ_X1_upstream (l : Launch) (G : jx_G) (t : jx_T) (sz : Nat) (σ0 : jx_M) (out : Int32) (pc : Nat) (lv : List (Nat × Value)) (st : List Value) (σ : jx_M) : Prop := jx_J l (ll_env G t) (ll_dyn G t) (ll_rg G) sz RX1 "upstream" cX1_upstream 3 (some .int) rm_X1_upstream (fun below args s => MQ below (jx_Qi (ll_dyn G t) σ0 out (jx_A (ll_rg G) sz)) args s 0 0 (jx_A (ll_rg G) sz)) 0 0 pc lv st σ
def b_X1_upstream_29 (t : jx_T) (k2 : jx_M → Int32 → Int32 → Option Int32) (σ : jx_M) (v1 : Int32) (v2 : Int32) : Option Int32 :=
  jx_lt (v2 + (1 : Int32)) (fun x1 => (k2 σ v1 x1))
set_option maxHeartbeats 4000000 in
set_option maxRecDepth 100000 in
theorem jb_X1_upstream_29 (l : Launch) (G : jx_G) (t : jx_T) (hG : ll_ok G) (sz : Nat) (σ0 : jx_M) (out : Int32) (k2 : jx_M → Int32 → Int32 → Option Int32) (h2 : ∀ (σ : jx_M) (v1 : Int32) (v2 : Int32), σ = σ0 → k2 σ v1 v2 = some out → jJ_X1_upstream l G t sz σ0 out 2 [(0, .ref (G.2 21)), (1, .int v1), (2, .int v2)] [] σ) (σ : jx_M) (v1 : Int32) (v2 : Int32) (e0 : σ = σ0) (h : b_X1_upstream_29 t k2 σ v1 v2 = some out) : jJ_X1_upstream l G t sz σ0 out 29 [(0, .ref (G.2 21)), (1, .int v1), (2, .int v2)] [] σ := by
  unfold b_X1_upstream_29 at h
  obtain ⟨x1, ex1, h⟩ := jx_lt_o h
  refine jx_iinc (pc := 29) (i := 2) (v := v2) rfl ex1 (n := 1) (by decide) (by decide) (lv' := [(2, .int x1), (0, .ref (G.2 21)), (1, .int v1)]) rfl dX1_upstream_29 ?_
  refine jx_goto (pc := 32) (tgt := 2) dX1_upstream_32 (by decide) ?_
  exact jx_sub [1, 2, 0] rfl (h2 σ v1 x1 e0 h)
def g_X1_upstream_2 (t : jx_T) (k2 : jx_M → Int32 → Int32 → Option Int32) (σ : jx_M) (v1 : Int32) (v2 : Int32) : Option Int32 :=
  if (σ 0 0) ≤ v2 then some v1 else if v2 = v1 then (b_X1_upstream_29 t k2 σ v1 v2) else jx_gd (jx_in v2 7) (jx_gd (jx_in (0 : Int32) (ll_len (1 + v2.toNatClampNeg))) (if (σ (1 + v2.toNatClampNeg) 0) = v1 then some v2 else (b_X1_upstream_29 t k2 σ v1 v2)))
set_option maxHeartbeats 4000000 in
set_option maxRecDepth 100000 in
theorem jg_X1_upstream_2 (l : Launch) (G : jx_G) (t : jx_T) (hG : ll_ok G) (sz : Nat) (σ0 : jx_M) (out : Int32) (k2 : jx_M → Int32 → Int32 → Option Int32) (h2 : ∀ (σ : jx_M) (v1 : Int32) (v2 : Int32), σ = σ0 → k2 σ v1 v2 = some out → jJ_X1_upstream l G t sz σ0 out 2 [(0, .ref (G.2 21)), (1, .int v1), (2, .int v2)] [] σ) (σ : jx_M) (v1 : Int32) (v2 : Int32) (e0 : σ = σ0) (h : g_X1_upstream_2 t k2 σ v1 v2 = some out) : jJ_X1_upstream l G t sz σ0 out 2 [(0, .ref (G.2 21)), (1, .int v1), (2, .int v2)] [] σ := by
  unfold g_X1_upstream_2 at h
  refine jx_iload_n (pc := 2) (k0 := 2) rfl dX1_upstream_2 ?_
  refine jx_aload_n (pc := 3) (k0 := 0) rfl dX1_upstream_3 ?_
  refine ll_gnow_places (pc := 4) fl_X1_71 dX1_upstream_4 ?_
  refine jx_icmp_ge (pc := 7) (tgt := 35) dX1_upstream_7 (by decide) (fun c1 => ?_) (fun c1 => ?_)
  · have h := jx_t c1 h
    refine jx_iload_n (pc := 35) (k0 := 1) rfl dX1_upstream_35 ?_
    subst e0
    have h := Option.some.inj h
    subst h
    exact jx_iret (pc := 36) dX1_upstream_36
  · have h := jx_f c1 h
    refine jx_iload_n (pc := 10) (k0 := 2) rfl dX1_upstream_10 ?_
    refine jx_iload_n (pc := 11) (k0 := 1) rfl dX1_upstream_11 ?_
    refine jx_icmp_eq (pc := 12) (tgt := 29) dX1_upstream_12 (by decide) (fun c2 => ?_) (fun c2 => ?_)
    · have h := jx_t c2 h
      exact jx_sub [0, 1, 2] rfl (jb_X1_upstream_29 l G t hG sz σ0 out k2 h2 σ v1 v2 e0 h)
    · have h := jx_f c2 h
      refine jx_aload_n (pc := 15) (k0 := 0) rfl dX1_upstream_15 ?_
      refine ll_gnow_place (pc := 16) fl_X1_11 dX1_upstream_16 ?_
      refine jx_iload_n (pc := 19) (k0 := 2) rfl dX1_upstream_19 ?_
      obtain ⟨g3, h⟩ := jx_gd_o h
      refine ll_a_now_place (pc := 20) (jx_in_o g3) dX1_upstream_20 ?_
      refine jx_iconst (pc := 21) (v := (0 : Int32)) (by decide) dX1_upstream_21 ?_
      obtain ⟨g4, h⟩ := jx_gd_o h
      refine ll_l (pc := 22) (k := (1 + v2.toNatClampNeg)) (j := 0) (jx_in_o g4) (by decide) dX1_upstream_22 ?_
      refine jx_iload_n (pc := 23) (k0 := 1) rfl dX1_upstream_23 ?_
      refine jx_icmp_ne (pc := 24) (tgt := 29) dX1_upstream_24 (by decide) (fun c5 => ?_) (fun c5 => ?_)
      · have h := jx_f c5 h
        exact jx_sub [0, 1, 2] rfl (jb_X1_upstream_29 l G t hG sz σ0 out k2 h2 σ v1 v2 e0 h)
      · have h := jx_t c5 h
        refine jx_iload_n (pc := 27) (k0 := 2) rfl dX1_upstream_27 ?_
        subst e0
        have h := Option.some.inj h
        subst h
        exact jx_iret (pc := 28) dX1_upstream_28
def b_X1_upstream_2 (t : jx_T)  : Nat → jx_M → Int32 → Int32 → Option Int32
  | 0, _, _, _ => none
  | n + 1, σ, v1, v2 => g_X1_upstream_2 t (b_X1_upstream_2 t n) σ v1 v2
theorem jb_X1_upstream_2 (l : Launch) (G : jx_G) (t : jx_T) (hG : ll_ok G) (sz : Nat) (σ0 : jx_M) (out : Int32)  : ∀ (n : Nat) (σ : jx_M) (v1 : Int32) (v2 : Int32), σ = σ0 → b_X1_upstream_2 t n σ v1 v2 = some out → jJ_X1_upstream l G t sz σ0 out 2 [(0, .ref (G.2 21)), (1, .int v1), (2, .int v2)] [] σ := by
  intro n
  induction n with
  | zero =>
    intro σ v1 v2 e0 h
    cases h
  | succ n ih =>
    intro σ v1 v2 e0 h
    exact jg_X1_upstream_2 l G t hG sz σ0 out (b_X1_upstream_2 t n) ih σ v1 v2 e0 h
def f_X1_upstream (t : jx_T) (σ : jx_M) (a1 : Int32) : Option Int32 :=
  (b_X1_upstream_2 t jx_fuel σ a1 (0 : Int32))
set_option maxHeartbeats 4000000 in
set_option maxRecDepth 100000 in
theorem k_X1_upstream (l : Launch) (G : jx_G) (t : jx_T) (hG : ll_ok G) (sz : Nat) (σ : jx_M) (a1 : Int32) (out : Int32) (h : f_X1_upstream t σ a1 = some out) : Met l yX1_upstream (Cond.code yX1_upstream cX1_upstream 3 (some .int) :: jx_ws) rm_X1_upstream (jx_Pc (ll_env G t) (ll_dyn G t) (ll_rg G) sz σ [.ref (G.2 21), .int a1]) (jx_Qi (ll_dyn G t) σ out (jx_A (ll_rg G) sz)) 0 0 (jx_A (ll_rg G) sz) := by
  unfold f_X1_upstream at h
  refine jx_met (by decide) (Nat.le_of_ble_eq_true rfl) ?_
  refine jx_sub (lv' := [(0, .ref (G.2 21)), (1, .int a1)]) [0, 1] rfl ?_
  refine jx_iconst (pc := 0) (v := (0 : Int32)) (by decide) dX1_upstream_0 ?_
  refine jx_istore_n (pc := 1) (i := 2) rfl rfl (by decide) (lv' := [(2, .int (0 : Int32)), (0, .ref (G.2 21)), (1, .int a1)]) rfl dX1_upstream_1 ?_
  exact jx_sub [1, 2, 0] rfl (jb_X1_upstream_2 l G t hG sz σ out jx_fuel σ a1 (0 : Int32) rfl h)
theorem dX1_living_0 : decode cX1_living 0 = .ok (.iconst 0, 1) := by decide +kernel
theorem dX1_living_1 : decode cX1_living 1 = .ok (.istore_n 2, 1) := by decide +kernel
theorem dX1_living_2 : decode cX1_living 2 = .ok (.iconst 0, 1) := by decide +kernel
theorem dX1_living_3 : decode cX1_living 3 = .ok (.istore_n 3, 1) := by decide +kernel
theorem dX1_living_4 : decode cX1_living 4 = .ok (.iload_n 3, 1) := by decide +kernel
theorem dX1_living_5 : decode cX1_living 5 = .ok (.aload_n 0, 1) := by decide +kernel
theorem dX1_living_6 : decode cX1_living 6 = .ok (.getfield 20, 3) := by decide +kernel
theorem dX1_living_9 : decode cX1_living 9 = .ok (.if_icmp .ge 24, 3) := by decide +kernel
theorem dX1_living_12 : decode cX1_living 12 = .ok (.aload_n 0, 1) := by decide +kernel
theorem dX1_living_13 : decode cX1_living 13 = .ok (.getfield 23, 3) := by decide +kernel
theorem dX1_living_16 : decode cX1_living 16 = .ok (.iload_n 3, 1) := by decide +kernel
theorem dX1_living_17 : decode cX1_living 17 = .ok (.aaload, 1) := by decide +kernel
theorem dX1_living_18 : decode cX1_living 18 = .ok (.iconst 2, 1) := by decide +kernel
theorem dX1_living_19 : decode cX1_living 19 = .ok (.iaload, 1) := by decide +kernel
theorem dX1_living_20 : decode cX1_living 20 = .ok (.iload_n 1, 1) := by decide +kernel
theorem dX1_living_21 : decode cX1_living 21 = .ok (.if_icmp .ne 6, 3) := by decide +kernel
theorem dX1_living_24 : decode cX1_living 24 = .ok (.iinc 2 1, 3) := by decide +kernel
theorem dX1_living_27 : decode cX1_living 27 = .ok (.iinc 3 1, 3) := by decide +kernel
theorem dX1_living_30 : decode cX1_living 30 = .ok (.goto (-26), 3) := by decide +kernel
theorem dX1_living_33 : decode cX1_living 33 = .ok (.iload_n 2, 1) := by decide +kernel
theorem dX1_living_34 : decode cX1_living 34 = .ok (.ireturn, 1) := by decide +kernel
abbrev rm_X1_living : Room := { frames := 0, cells := 0, slots := 0, locals := 0 }
abbrev jJ_X1_living (l : Launch) (G : jx_G) (t : jx_T) (sz : Nat) (σ0 : jx_M) (out : Int32) (pc : Nat) (lv : List (Nat × Value)) (st : List Value) (σ : jx_M) : Prop := jx_J l (ll_env G t) (ll_dyn G t) (ll_rg G) sz RX1 "living" cX1_living 4 (some .int) rm_X1_living (fun below args s => MQ below (jx_Qi (ll_dyn G t) σ0 out (jx_A (ll_rg G) sz)) args s 0 0 (jx_A (ll_rg G) sz)) 0 0 pc lv st σ
def b_X1_living_27 (t : jx_T) (k4 : jx_M → Int32 → Int32 → Int32 → Option Int32) (σ : jx_M) (v1 : Int32) (v2 : Int32) (v3 : Int32) : Option Int32 :=
  jx_lt (v3 + (1 : Int32)) (fun x1 => (k4 σ v1 v2 x1))
set_option maxHeartbeats 4000000 in
set_option maxRecDepth 100000 in
theorem jb_X1_living_27 (l : Launch) (G : jx_G) (t : jx_T) (hG : ll_ok G) (sz : Nat) (σ0 : jx_M) (out : Int32) (k4 : jx_M → Int32 → Int32 → Int32 → Option Int32) (h4 : ∀ (σ : jx_M) (v1 : Int32) (v2 : Int32) (v3 : Int32), σ = σ0 → k4 σ v1 v2 v3 = some out → jJ_X1_living l G t sz σ0 out 4 [(0, .ref (G.2 21)), (1, .int v1), (2, .int v2), (3, .int v3)] [] σ) (σ : jx_M) (v1 : Int32) (v2 : Int32) (v3 : Int32) (e0 : σ = σ0) (h : b_X1_living_27 t k4 σ v1 v2 v3 = some out) : jJ_X1_living l G t sz σ0 out 27 [(0, .ref (G.2 21)), (1, .int v1), (2, .int v2), (3, .int v3)] [] σ := by
  unfold b_X1_living_27 at h
  obtain ⟨x1, ex1, h⟩ := jx_lt_o h
  refine jx_iinc (pc := 27) (i := 3) (v := v3) rfl ex1 (n := 1) (by decide) (by decide) (lv' := [(3, .int x1), (0, .ref (G.2 21)), (1, .int v1), (2, .int v2)]) rfl dX1_living_27 ?_
  refine jx_goto (pc := 30) (tgt := 4) dX1_living_30 (by decide) ?_
  exact jx_sub [1, 2, 3, 0] rfl (h4 σ v1 v2 x1 e0 h)
def g_X1_living_4 (t : jx_T) (k4 : jx_M → Int32 → Int32 → Int32 → Option Int32) (σ : jx_M) (v1 : Int32) (v2 : Int32) (v3 : Int32) : Option Int32 :=
  if (σ 0 2) ≤ v3 then some v2 else jx_gd (jx_in v3 6) (jx_gd (jx_in (2 : Int32) (ll_len (8 + v3.toNatClampNeg))) (if (σ (8 + v3.toNatClampNeg) 2) = v1 then jx_lt (v2 + (1 : Int32)) (fun x5 => (b_X1_living_27 t k4 σ v1 x5 v3)) else (b_X1_living_27 t k4 σ v1 v2 v3)))
set_option maxHeartbeats 4000000 in
set_option maxRecDepth 100000 in
theorem jg_X1_living_4 (l : Launch) (G : jx_G) (t : jx_T) (hG : ll_ok G) (sz : Nat) (σ0 : jx_M) (out : Int32) (k4 : jx_M → Int32 → Int32 → Int32 → Option Int32) (h4 : ∀ (σ : jx_M) (v1 : Int32) (v2 : Int32) (v3 : Int32), σ = σ0 → k4 σ v1 v2 v3 = some out → jJ_X1_living l G t sz σ0 out 4 [(0, .ref (G.2 21)), (1, .int v1), (2, .int v2), (3, .int v3)] [] σ) (σ : jx_M) (v1 : Int32) (v2 : Int32) (v3 : Int32) (e0 : σ = σ0) (h : g_X1_living_4 t k4 σ v1 v2 v3 = some out) : jJ_X1_living l G t sz σ0 out 4 [(0, .ref (G.2 21)), (1, .int v1), (2, .int v2), (3, .int v3)] [] σ := by
  unfold g_X1_living_4 at h
  refine jx_iload_n (pc := 4) (k0 := 3) rfl dX1_living_4 ?_
  refine jx_aload_n (pc := 5) (k0 := 0) rfl dX1_living_5 ?_
  refine ll_gnow_voters (pc := 6) fl_X1_20 dX1_living_6 ?_
  refine jx_icmp_ge (pc := 9) (tgt := 33) dX1_living_9 (by decide) (fun c1 => ?_) (fun c1 => ?_)
  · have h := jx_t c1 h
    refine jx_iload_n (pc := 33) (k0 := 2) rfl dX1_living_33 ?_
    subst e0
    have h := Option.some.inj h
    subst h
    exact jx_iret (pc := 34) dX1_living_34
  · have h := jx_f c1 h
    refine jx_aload_n (pc := 12) (k0 := 0) rfl dX1_living_12 ?_
    refine ll_gnow_voter (pc := 13) fl_X1_23 dX1_living_13 ?_
    refine jx_iload_n (pc := 16) (k0 := 3) rfl dX1_living_16 ?_
    obtain ⟨g2, h⟩ := jx_gd_o h
    refine ll_a_now_voter (pc := 17) (jx_in_o g2) dX1_living_17 ?_
    refine jx_iconst (pc := 18) (v := (2 : Int32)) (by decide) dX1_living_18 ?_
    obtain ⟨g3, h⟩ := jx_gd_o h
    refine ll_l (pc := 19) (k := (8 + v3.toNatClampNeg)) (j := 2) (jx_in_o g3) (by decide) dX1_living_19 ?_
    refine jx_iload_n (pc := 20) (k0 := 1) rfl dX1_living_20 ?_
    refine jx_icmp_ne (pc := 21) (tgt := 27) dX1_living_21 (by decide) (fun c4 => ?_) (fun c4 => ?_)
    · have h := jx_f c4 h
      exact jx_sub [0, 1, 2, 3] rfl (jb_X1_living_27 l G t hG sz σ0 out k4 h4 σ v1 v2 v3 e0 h)
    · have h := jx_t c4 h
      obtain ⟨x5, ex5, h⟩ := jx_lt_o h
      refine jx_iinc (pc := 24) (i := 2) (v := v2) rfl ex5 (n := 1) (by decide) (by decide) (lv' := [(2, .int x5), (0, .ref (G.2 21)), (1, .int v1), (3, .int v3)]) rfl dX1_living_24 ?_
      exact jx_sub [1, 2, 0, 3] rfl (jb_X1_living_27 l G t hG sz σ0 out k4 h4 σ v1 x5 v3 e0 h)
def b_X1_living_4 (t : jx_T)  : Nat → jx_M → Int32 → Int32 → Int32 → Option Int32
  | 0, _, _, _, _ => none
  | n + 1, σ, v1, v2, v3 => g_X1_living_4 t (b_X1_living_4 t n) σ v1 v2 v3
theorem jb_X1_living_4 (l : Launch) (G : jx_G) (t : jx_T) (hG : ll_ok G) (sz : Nat) (σ0 : jx_M) (out : Int32)  : ∀ (n : Nat) (σ : jx_M) (v1 : Int32) (v2 : Int32) (v3 : Int32), σ = σ0 → b_X1_living_4 t n σ v1 v2 v3 = some out → jJ_X1_living l G t sz σ0 out 4 [(0, .ref (G.2 21)), (1, .int v1), (2, .int v2), (3, .int v3)] [] σ := by
  intro n
  induction n with
  | zero =>
    intro σ v1 v2 v3 e0 h
    cases h
  | succ n ih =>
    intro σ v1 v2 v3 e0 h
    exact jg_X1_living_4 l G t hG sz σ0 out (b_X1_living_4 t n) ih σ v1 v2 v3 e0 h
def f_X1_living (t : jx_T) (σ : jx_M) (a1 : Int32) : Option Int32 :=
  (b_X1_living_4 t jx_fuel σ a1 (0 : Int32) (0 : Int32))
set_option maxHeartbeats 4000000 in
set_option maxRecDepth 100000 in
theorem k_X1_living (l : Launch) (G : jx_G) (t : jx_T) (hG : ll_ok G) (sz : Nat) (σ : jx_M) (a1 : Int32) (out : Int32) (h : f_X1_living t σ a1 = some out) : Met l yX1_living (Cond.code yX1_living cX1_living 4 (some .int) :: jx_ws) rm_X1_living (jx_Pc (ll_env G t) (ll_dyn G t) (ll_rg G) sz σ [.ref (G.2 21), .int a1]) (jx_Qi (ll_dyn G t) σ out (jx_A (ll_rg G) sz)) 0 0 (jx_A (ll_rg G) sz) := by
  unfold f_X1_living at h
  refine jx_met (by decide) (Nat.le_of_ble_eq_true rfl) ?_
  refine jx_sub (lv' := [(0, .ref (G.2 21)), (1, .int a1)]) [0, 1] rfl ?_
  refine jx_iconst (pc := 0) (v := (0 : Int32)) (by decide) dX1_living_0 ?_
  refine jx_istore_n (pc := 1) (i := 2) rfl rfl (by decide) (lv' := [(2, .int (0 : Int32)), (0, .ref (G.2 21)), (1, .int a1)]) rfl dX1_living_1 ?_
  refine jx_iconst (pc := 2) (v := (0 : Int32)) (by decide) dX1_living_2 ?_
  refine jx_istore_n (pc := 3) (i := 3) rfl rfl (by decide) (lv' := [(3, .int (0 : Int32)), (2, .int (0 : Int32)), (0, .ref (G.2 21)), (1, .int a1)]) rfl dX1_living_3 ?_
  exact jx_sub [2, 3, 1, 0] rfl (jb_X1_living_4 l G t hG sz σ out jx_fuel σ a1 (0 : Int32) (0 : Int32) rfl h)
theorem dX2_afloat_0 : decode cX2_afloat 0 = .ok (.iload_n 1, 1) := by decide +kernel
theorem dX2_afloat_1 : decode cX2_afloat 1 = .ok (.istore 4, 2) := by decide +kernel
theorem dX2_afloat_3 : decode cX2_afloat 3 = .ok (.iload_n 2, 1) := by decide +kernel
theorem dX2_afloat_4 : decode cX2_afloat 4 = .ok (.istore 5, 2) := by decide +kernel
theorem dX2_afloat_6 : decode cX2_afloat 6 = .ok (.iload 5, 2) := by decide +kernel
theorem dX2_afloat_8 : decode cX2_afloat 8 = .ok (.iload_n 3, 1) := by decide +kernel
theorem dX2_afloat_9 : decode cX2_afloat 9 = .ok (.if_icmp .ge 37, 3) := by decide +kernel
theorem dX2_afloat_12 : decode cX2_afloat 12 = .ok (.iload 5, 2) := by decide +kernel
theorem dX2_afloat_14 : decode cX2_afloat 14 = .ok (.bipush 12, 2) := by decide +kernel
theorem dX2_afloat_16 : decode cX2_afloat 16 = .ok (.if_icmp .ge 30, 3) := by decide +kernel
theorem dX2_afloat_19 : decode cX2_afloat 19 = .ok (.iload 4, 2) := by decide +kernel
theorem dX2_afloat_21 : decode cX2_afloat 21 = .ok (.aload_n 0, 1) := by decide +kernel
theorem dX2_afloat_22 : decode cX2_afloat 22 = .ok (.getfield 26, 3) := by decide +kernel
theorem dX2_afloat_25 : decode cX2_afloat 25 = .ok (.if_icmp .eq 21, 3) := by decide +kernel
theorem dX2_afloat_28 : decode cX2_afloat 28 = .ok (.aload_n 0, 1) := by decide +kernel
theorem dX2_afloat_29 : decode cX2_afloat 29 = .ok (.getfield 11, 3) := by decide +kernel
theorem dX2_afloat_32 : decode cX2_afloat 32 = .ok (.iload 5, 2) := by decide +kernel
theorem dX2_afloat_34 : decode cX2_afloat 34 = .ok (.aaload, 1) := by decide +kernel
theorem dX2_afloat_35 : decode cX2_afloat 35 = .ok (.iload 4, 2) := by decide +kernel
theorem dX2_afloat_37 : decode cX2_afloat 37 = .ok (.iaload, 1) := by decide +kernel
theorem dX2_afloat_38 : decode cX2_afloat 38 = .ok (.istore 4, 2) := by decide +kernel
theorem dX2_afloat_40 : decode cX2_afloat 40 = .ok (.iinc 5 1, 3) := by decide +kernel
theorem dX2_afloat_43 : decode cX2_afloat 43 = .ok (.goto (-37), 3) := by decide +kernel
theorem dX2_afloat_46 : decode cX2_afloat 46 = .ok (.iload 4, 2) := by decide +kernel
theorem dX2_afloat_48 : decode cX2_afloat 48 = .ok (.ireturn, 1) := by decide +kernel
abbrev rm_X2_afloat : Room := { frames := 0, cells := 0, slots := 0, locals := 0 }
abbrev jJ_X2_afloat (l : Launch) (G : jx_G) (t : jx_T) (sz : Nat) (σ0 : jx_M) (out : Int32) (pc : Nat) (lv : List (Nat × Value)) (st : List Value) (σ : jx_M) : Prop := jx_J l (ll_env G t) (ll_dyn G t) (ll_rg G) sz RX2 "afloat" cX2_afloat 6 (some .int) rm_X2_afloat (fun below args s => MQ below (jx_Qi (ll_dyn G t) σ0 out (jx_A (ll_rg G) sz)) args s 0 0 (jx_A (ll_rg G) sz)) 0 0 pc lv st σ
def g_X2_afloat_6 (t : jx_T) (k6 : jx_M → Int32 → Int32 → Int32 → Option Int32) (σ : jx_M) (v3 : Int32) (v4 : Int32) (v5 : Int32) : Option Int32 :=
  if v3 ≤ v5 then some v4 else if (12 : Int32) ≤ v5 then some v4 else if v4 = (σ 0 20) then some v4 else jx_gd (jx_in v5 12) (jx_gd (jx_in v4 (ll_len (41 + v5.toNatClampNeg))) (jx_lt ((σ (41 + v5.toNatClampNeg) v4.toNatClampNeg)) (fun x6 => jx_lt (v5 + (1 : Int32)) (fun x7 => (k6 σ v3 x6 x7)))))
set_option maxHeartbeats 4000000 in
set_option maxRecDepth 100000 in
theorem jg_X2_afloat_6 (l : Launch) (G : jx_G) (t : jx_T) (hG : ll_ok G) (sz : Nat) (σ0 : jx_M) (out : Int32) (k6 : jx_M → Int32 → Int32 → Int32 → Option Int32) (h6 : ∀ (σ : jx_M) (v3 : Int32) (v4 : Int32) (v5 : Int32), σ = σ0 → k6 σ v3 v4 v5 = some out → jJ_X2_afloat l G t sz σ0 out 6 [(0, .ref (G.2 23)), (3, .int v3), (4, .int v4), (5, .int v5)] [] σ) (σ : jx_M) (v3 : Int32) (v4 : Int32) (v5 : Int32) (e0 : σ = σ0) (h : g_X2_afloat_6 t k6 σ v3 v4 v5 = some out) : jJ_X2_afloat l G t sz σ0 out 6 [(0, .ref (G.2 23)), (3, .int v3), (4, .int v4), (5, .int v5)] [] σ := by
  unfold g_X2_afloat_6 at h
  refine jx_iload (pc := 6) (i := 5) rfl dX2_afloat_6 ?_
  refine jx_iload_n (pc := 8) (k0 := 3) rfl dX2_afloat_8 ?_
  refine jx_icmp_ge (pc := 9) (tgt := 46) dX2_afloat_9 (by decide) (fun c1 => ?_) (fun c1 => ?_)
  · have h := jx_t c1 h
    refine jx_iload (pc := 46) (i := 4) rfl dX2_afloat_46 ?_
    subst e0
    have h := Option.some.inj h
    subst h
    exact jx_iret (pc := 48) dX2_afloat_48
  · have h := jx_f c1 h
    refine jx_iload (pc := 12) (i := 5) rfl dX2_afloat_12 ?_
    refine jx_bipush (pc := 14) (v := (12 : Int32)) (by decide) dX2_afloat_14 ?_
    refine jx_icmp_ge (pc := 16) (tgt := 46) dX2_afloat_16 (by decide) (fun c2 => ?_) (fun c2 => ?_)
    · have h := jx_t c2 h
      refine jx_iload (pc := 46) (i := 4) rfl dX2_afloat_46 ?_
      subst e0
      have h := Option.some.inj h
      subst h
      exact jx_iret (pc := 48) dX2_afloat_48
    · have h := jx_f c2 h
      refine jx_iload (pc := 19) (i := 4) rfl dX2_afloat_19 ?_
      refine jx_aload_n (pc := 21) (k0 := 0) rfl dX2_afloat_21 ?_
      refine ll_gnight_stick (pc := 22) fl_X2_26 dX2_afloat_22 ?_
      refine jx_icmp_eq (pc := 25) (tgt := 46) dX2_afloat_25 (by decide) (fun c3 => ?_) (fun c3 => ?_)
      · have h := jx_t c3 h
        refine jx_iload (pc := 46) (i := 4) rfl dX2_afloat_46 ?_
        subst e0
        have h := Option.some.inj h
        subst h
        exact jx_iret (pc := 48) dX2_afloat_48
      · have h := jx_f c3 h
        refine jx_aload_n (pc := 28) (k0 := 0) rfl dX2_afloat_28 ?_
        refine ll_gnight_goal (pc := 29) fl_X2_11 dX2_afloat_29 ?_
        refine jx_iload (pc := 32) (i := 5) rfl dX2_afloat_32 ?_
        obtain ⟨g4, h⟩ := jx_gd_o h
        refine ll_a_night_goal (pc := 34) (jx_in_o g4) dX2_afloat_34 ?_
        refine jx_iload (pc := 35) (i := 4) rfl dX2_afloat_35 ?_
        obtain ⟨g5, h⟩ := jx_gd_o h
        refine ll_l (pc := 37) (k := (41 + v5.toNatClampNeg)) (jx_in_o g5) rfl dX2_afloat_37 ?_
        obtain ⟨x6, ex6, h⟩ := jx_lt_o h
        refine jx_istore (pc := 38) (i := 4) ex6 (by decide) (lv' := [(4, .int x6), (0, .ref (G.2 23)), (3, .int v3), (5, .int v5)]) rfl dX2_afloat_38 ?_
        obtain ⟨x7, ex7, h⟩ := jx_lt_o h
        refine jx_iinc (pc := 40) (i := 5) (v := v5) rfl ex7 (n := 1) (by decide) (by decide) (lv' := [(5, .int x7), (4, .int x6), (0, .ref (G.2 23)), (3, .int v3)]) rfl dX2_afloat_40 ?_
        refine jx_goto (pc := 43) (tgt := 6) dX2_afloat_43 (by decide) ?_
        exact jx_sub [2, 3, 1, 0] rfl (h6 σ v3 x6 x7 e0 h)
def b_X2_afloat_6 (t : jx_T)  : Nat → jx_M → Int32 → Int32 → Int32 → Option Int32
  | 0, _, _, _, _ => none
  | n + 1, σ, v3, v4, v5 => g_X2_afloat_6 t (b_X2_afloat_6 t n) σ v3 v4 v5
theorem jb_X2_afloat_6 (l : Launch) (G : jx_G) (t : jx_T) (hG : ll_ok G) (sz : Nat) (σ0 : jx_M) (out : Int32)  : ∀ (n : Nat) (σ : jx_M) (v3 : Int32) (v4 : Int32) (v5 : Int32), σ = σ0 → b_X2_afloat_6 t n σ v3 v4 v5 = some out → jJ_X2_afloat l G t sz σ0 out 6 [(0, .ref (G.2 23)), (3, .int v3), (4, .int v4), (5, .int v5)] [] σ := by
  intro n
  induction n with
  | zero =>
    intro σ v3 v4 v5 e0 h
    cases h
  | succ n ih =>
    intro σ v3 v4 v5 e0 h
    exact jg_X2_afloat_6 l G t hG sz σ0 out (b_X2_afloat_6 t n) ih σ v3 v4 v5 e0 h
def f_X2_afloat (t : jx_T) (σ : jx_M) (a1 : Int32) (a2 : Int32) (a3 : Int32) : Option Int32 :=
  (b_X2_afloat_6 t jx_fuel σ a3 a1 a2)
set_option maxHeartbeats 4000000 in
set_option maxRecDepth 100000 in
theorem k_X2_afloat (l : Launch) (G : jx_G) (t : jx_T) (hG : ll_ok G) (sz : Nat) (σ : jx_M) (a1 : Int32) (a2 : Int32) (a3 : Int32) (out : Int32) (h : f_X2_afloat t σ a1 a2 a3 = some out) : Met l yX2_afloat (Cond.code yX2_afloat cX2_afloat 6 (some .int) :: jx_ws) rm_X2_afloat (jx_Pc (ll_env G t) (ll_dyn G t) (ll_rg G) sz σ [.ref (G.2 23), .int a1, .int a2, .int a3]) (jx_Qi (ll_dyn G t) σ out (jx_A (ll_rg G) sz)) 0 0 (jx_A (ll_rg G) sz) := by
  unfold f_X2_afloat at h
  refine jx_met (by decide) (Nat.le_of_ble_eq_true rfl) ?_
  refine jx_sub (lv' := [(0, .ref (G.2 23)), (1, .int a1), (2, .int a2), (3, .int a3)]) [0, 1, 2, 3] rfl ?_
  refine jx_iload_n (pc := 0) (k0 := 1) rfl dX2_afloat_0 ?_
  refine jx_istore (pc := 1) (i := 4) rfl (by decide) (lv' := [(4, .int a1), (0, .ref (G.2 23)), (1, .int a1), (2, .int a2), (3, .int a3)]) rfl dX2_afloat_1 ?_
  refine jx_iload_n (pc := 3) (k0 := 2) rfl dX2_afloat_3 ?_
  refine jx_istore (pc := 4) (i := 5) rfl (by decide) (lv' := [(5, .int a2), (4, .int a1), (0, .ref (G.2 23)), (1, .int a1), (2, .int a2), (3, .int a3)]) rfl dX2_afloat_4 ?_
  exact jx_sub [2, 5, 1, 0] rfl (jb_X2_afloat_6 l G t hG sz σ out jx_fuel σ a3 a1 a2 rfl h)
theorem dX2_votes_0 : decode cX2_votes 0 = .ok (.iconst 0, 1) := by decide +kernel
theorem dX2_votes_1 : decode cX2_votes 1 = .ok (.istore_n 2, 1) := by decide +kernel
theorem dX2_votes_2 : decode cX2_votes 2 = .ok (.iconst 0, 1) := by decide +kernel
theorem dX2_votes_3 : decode cX2_votes 3 = .ok (.istore_n 3, 1) := by decide +kernel
theorem dX2_votes_4 : decode cX2_votes 4 = .ok (.iload_n 3, 1) := by decide +kernel
theorem dX2_votes_5 : decode cX2_votes 5 = .ok (.aload_n 0, 1) := by decide +kernel
theorem dX2_votes_6 : decode cX2_votes 6 = .ok (.getfield 36, 3) := by decide +kernel
theorem dX2_votes_9 : decode cX2_votes 9 = .ok (.getfield 74, 3) := by decide +kernel
theorem dX2_votes_12 : decode cX2_votes 12 = .ok (.if_icmp .ge 33, 3) := by decide +kernel
theorem dX2_votes_15 : decode cX2_votes 15 = .ok (.aload_n 0, 1) := by decide +kernel
theorem dX2_votes_16 : decode cX2_votes 16 = .ok (.getfield 36, 3) := by decide +kernel
theorem dX2_votes_19 : decode cX2_votes 19 = .ok (.getfield 55, 3) := by decide +kernel
theorem dX2_votes_22 : decode cX2_votes 22 = .ok (.iload_n 3, 1) := by decide +kernel
theorem dX2_votes_23 : decode cX2_votes 23 = .ok (.aaload, 1) := by decide +kernel
theorem dX2_votes_24 : decode cX2_votes 24 = .ok (.iconst 3, 1) := by decide +kernel
theorem dX2_votes_25 : decode cX2_votes 25 = .ok (.iaload, 1) := by decide +kernel
theorem dX2_votes_26 : decode cX2_votes 26 = .ok (.iload_n 1, 1) := by decide +kernel
theorem dX2_votes_27 : decode cX2_votes 27 = .ok (.if_icmp .ne 12, 3) := by decide +kernel
theorem dX2_votes_30 : decode cX2_votes 30 = .ok (.iload_n 2, 1) := by decide +kernel
theorem dX2_votes_31 : decode cX2_votes 31 = .ok (.aload_n 0, 1) := by decide +kernel
theorem dX2_votes_32 : decode cX2_votes 32 = .ok (.getfield 33, 3) := by decide +kernel
theorem dX2_votes_35 : decode cX2_votes 35 = .ok (.iload_n 3, 1) := by decide +kernel
theorem dX2_votes_36 : decode cX2_votes 36 = .ok (.iaload, 1) := by decide +kernel
theorem dX2_votes_37 : decode cX2_votes 37 = .ok (.iadd, 1) := by decide +kernel
theorem dX2_votes_38 : decode cX2_votes 38 = .ok (.istore_n 2, 1) := by decide +kernel
theorem dX2_votes_39 : decode cX2_votes 39 = .ok (.iinc 3 1, 3) := by decide +kernel
theorem dX2_votes_42 : decode cX2_votes 42 = .ok (.goto (-38), 3) := by decide +kernel
theorem dX2_votes_45 : decode cX2_votes 45 = .ok (.iload_n 2, 1) := by decide +kernel
theorem dX2_votes_46 : decode cX2_votes 46 = .ok (.ireturn, 1) := by decide +kernel
abbrev rm_X2_votes : Room := { frames := 0, cells := 0, slots := 0, locals := 0 }
abbrev jJ_X2_votes (l : Launch) (G : jx_G) (t : jx_T) (sz : Nat) (σ0 : jx_M) (out : Int32) (pc : Nat) (lv : List (Nat × Value)) (st : List Value) (σ : jx_M) : Prop := jx_J l (ll_env G t) (ll_dyn G t) (ll_rg G) sz RX2 "votes" cX2_votes 4 (some .int) rm_X2_votes (fun below args s => MQ below (jx_Qi (ll_dyn G t) σ0 out (jx_A (ll_rg G) sz)) args s 0 0 (jx_A (ll_rg G) sz)) 0 0 pc lv st σ
def b_X2_votes_39 (t : jx_T) (k4 : jx_M → Int32 → Int32 → Int32 → Option Int32) (σ : jx_M) (v1 : Int32) (v2 : Int32) (v3 : Int32) : Option Int32 :=
  jx_lt (v3 + (1 : Int32)) (fun x1 => (k4 σ v1 v2 x1))
set_option maxHeartbeats 4000000 in
set_option maxRecDepth 100000 in
theorem jb_X2_votes_39 (l : Launch) (G : jx_G) (t : jx_T) (hG : ll_ok G) (sz : Nat) (σ0 : jx_M) (out : Int32) (k4 : jx_M → Int32 → Int32 → Int32 → Option Int32) (h4 : ∀ (σ : jx_M) (v1 : Int32) (v2 : Int32) (v3 : Int32), σ = σ0 → k4 σ v1 v2 v3 = some out → jJ_X2_votes l G t sz σ0 out 4 [(0, .ref (G.2 23)), (1, .int v1), (2, .int v2), (3, .int v3)] [] σ) (σ : jx_M) (v1 : Int32) (v2 : Int32) (v3 : Int32) (e0 : σ = σ0) (h : b_X2_votes_39 t k4 σ v1 v2 v3 = some out) : jJ_X2_votes l G t sz σ0 out 39 [(0, .ref (G.2 23)), (1, .int v1), (2, .int v2), (3, .int v3)] [] σ := by
  unfold b_X2_votes_39 at h
  obtain ⟨x1, ex1, h⟩ := jx_lt_o h
  refine jx_iinc (pc := 39) (i := 3) (v := v3) rfl ex1 (n := 1) (by decide) (by decide) (lv' := [(3, .int x1), (0, .ref (G.2 23)), (1, .int v1), (2, .int v2)]) rfl dX2_votes_39 ?_
  refine jx_goto (pc := 42) (tgt := 4) dX2_votes_42 (by decide) ?_
  exact jx_sub [1, 2, 3, 0] rfl (h4 σ v1 v2 x1 e0 h)
def g_X2_votes_4 (t : jx_T) (k4 : jx_M → Int32 → Int32 → Int32 → Option Int32) (σ : jx_M) (v1 : Int32) (v2 : Int32) (v3 : Int32) : Option Int32 :=
  if (σ 0 2) ≤ v3 then some v2 else jx_gd (jx_in v3 6) (jx_gd (jx_in (3 : Int32) (ll_len (8 + v3.toNatClampNeg))) (if (σ (8 + v3.toNatClampNeg) 3) = v1 then jx_gd (jx_in v3 6) (jx_lt ((v2 + (σ 59 v3.toNatClampNeg))) (fun x6 => (b_X2_votes_39 t k4 σ v1 x6 v3))) else (b_X2_votes_39 t k4 σ v1 v2 v3)))
set_option maxHeartbeats 4000000 in
set_option maxRecDepth 100000 in
theorem jg_X2_votes_4 (l : Launch) (G : jx_G) (t : jx_T) (hG : ll_ok G) (sz : Nat) (σ0 : jx_M) (out : Int32) (k4 : jx_M → Int32 → Int32 → Int32 → Option Int32) (h4 : ∀ (σ : jx_M) (v1 : Int32) (v2 : Int32) (v3 : Int32), σ = σ0 → k4 σ v1 v2 v3 = some out → jJ_X2_votes l G t sz σ0 out 4 [(0, .ref (G.2 23)), (1, .int v1), (2, .int v2), (3, .int v3)] [] σ) (σ : jx_M) (v1 : Int32) (v2 : Int32) (v3 : Int32) (e0 : σ = σ0) (h : g_X2_votes_4 t k4 σ v1 v2 v3 = some out) : jJ_X2_votes l G t sz σ0 out 4 [(0, .ref (G.2 23)), (1, .int v1), (2, .int v2), (3, .int v3)] [] σ := by
  unfold g_X2_votes_4 at h
  refine jx_iload_n (pc := 4) (k0 := 3) rfl dX2_votes_4 ?_
  refine jx_aload_n (pc := 5) (k0 := 0) rfl dX2_votes_5 ?_
  refine ll_gnight_canal (pc := 6) fl_X2_36 dX2_votes_6 ?_
  refine ll_gnow_voters (pc := 9) fl_X2_74 dX2_votes_9 ?_
  refine jx_icmp_ge (pc := 12) (tgt := 45) dX2_votes_12 (by decide) (fun c1 => ?_) (fun c1 => ?_)
  · have h := jx_t c1 h
    refine jx_iload_n (pc := 45) (k0 := 2) rfl dX2_votes_45 ?_
    subst e0
    have h := Option.some.inj h
    subst h
    exact jx_iret (pc := 46) dX2_votes_46
  · have h := jx_f c1 h
    refine jx_aload_n (pc := 15) (k0 := 0) rfl dX2_votes_15 ?_
    refine ll_gnight_canal (pc := 16) fl_X2_36 dX2_votes_16 ?_
    refine ll_gnow_voter (pc := 19) fl_X2_55 dX2_votes_19 ?_
    refine jx_iload_n (pc := 22) (k0 := 3) rfl dX2_votes_22 ?_
    obtain ⟨g2, h⟩ := jx_gd_o h
    refine ll_a_now_voter (pc := 23) (jx_in_o g2) dX2_votes_23 ?_
    refine jx_iconst (pc := 24) (v := (3 : Int32)) (by decide) dX2_votes_24 ?_
    obtain ⟨g3, h⟩ := jx_gd_o h
    refine ll_l (pc := 25) (k := (8 + v3.toNatClampNeg)) (j := 3) (jx_in_o g3) (by decide) dX2_votes_25 ?_
    refine jx_iload_n (pc := 26) (k0 := 1) rfl dX2_votes_26 ?_
    refine jx_icmp_ne (pc := 27) (tgt := 39) dX2_votes_27 (by decide) (fun c4 => ?_) (fun c4 => ?_)
    · have h := jx_f c4 h
      exact jx_sub [0, 1, 2, 3] rfl (jb_X2_votes_39 l G t hG sz σ0 out k4 h4 σ v1 v2 v3 e0 h)
    · have h := jx_t c4 h
      refine jx_iload_n (pc := 30) (k0 := 2) rfl dX2_votes_30 ?_
      refine jx_aload_n (pc := 31) (k0 := 0) rfl dX2_votes_31 ?_
      refine ll_gnight_worth (pc := 32) fl_X2_33 dX2_votes_32 ?_
      refine jx_iload_n (pc := 35) (k0 := 3) rfl dX2_votes_35 ?_
      obtain ⟨g5, h⟩ := jx_gd_o h
      refine ll_l (pc := 36) (k := 59) (jx_in_o g5) rfl dX2_votes_36 ?_
      refine jx_iadd (pc := 37) dX2_votes_37 ?_
      obtain ⟨x6, ex6, h⟩ := jx_lt_o h
      refine jx_istore_n (pc := 38) (i := 2) rfl ex6 (by decide) (lv' := [(2, .int x6), (0, .ref (G.2 23)), (1, .int v1), (3, .int v3)]) rfl dX2_votes_38 ?_
      exact jx_sub [1, 2, 0, 3] rfl (jb_X2_votes_39 l G t hG sz σ0 out k4 h4 σ v1 x6 v3 e0 h)
def b_X2_votes_4 (t : jx_T)  : Nat → jx_M → Int32 → Int32 → Int32 → Option Int32
  | 0, _, _, _, _ => none
  | n + 1, σ, v1, v2, v3 => g_X2_votes_4 t (b_X2_votes_4 t n) σ v1 v2 v3
theorem jb_X2_votes_4 (l : Launch) (G : jx_G) (t : jx_T) (hG : ll_ok G) (sz : Nat) (σ0 : jx_M) (out : Int32)  : ∀ (n : Nat) (σ : jx_M) (v1 : Int32) (v2 : Int32) (v3 : Int32), σ = σ0 → b_X2_votes_4 t n σ v1 v2 v3 = some out → jJ_X2_votes l G t sz σ0 out 4 [(0, .ref (G.2 23)), (1, .int v1), (2, .int v2), (3, .int v3)] [] σ := by
  intro n
  induction n with
  | zero =>
    intro σ v1 v2 v3 e0 h
    cases h
  | succ n ih =>
    intro σ v1 v2 v3 e0 h
    exact jg_X2_votes_4 l G t hG sz σ0 out (b_X2_votes_4 t n) ih σ v1 v2 v3 e0 h
def f_X2_votes (t : jx_T) (σ : jx_M) (a1 : Int32) : Option Int32 :=
  (b_X2_votes_4 t jx_fuel σ a1 (0 : Int32) (0 : Int32))
set_option maxHeartbeats 4000000 in
set_option maxRecDepth 100000 in
theorem k_X2_votes (l : Launch) (G : jx_G) (t : jx_T) (hG : ll_ok G) (sz : Nat) (σ : jx_M) (a1 : Int32) (out : Int32) (h : f_X2_votes t σ a1 = some out) : Met l yX2_votes (Cond.code yX2_votes cX2_votes 4 (some .int) :: jx_ws) rm_X2_votes (jx_Pc (ll_env G t) (ll_dyn G t) (ll_rg G) sz σ [.ref (G.2 23), .int a1]) (jx_Qi (ll_dyn G t) σ out (jx_A (ll_rg G) sz)) 0 0 (jx_A (ll_rg G) sz) := by
  unfold f_X2_votes at h
  refine jx_met (by decide) (Nat.le_of_ble_eq_true rfl) ?_
  refine jx_sub (lv' := [(0, .ref (G.2 23)), (1, .int a1)]) [0, 1] rfl ?_
  refine jx_iconst (pc := 0) (v := (0 : Int32)) (by decide) dX2_votes_0 ?_
  refine jx_istore_n (pc := 1) (i := 2) rfl rfl (by decide) (lv' := [(2, .int (0 : Int32)), (0, .ref (G.2 23)), (1, .int a1)]) rfl dX2_votes_1 ?_
  refine jx_iconst (pc := 2) (v := (0 : Int32)) (by decide) dX2_votes_2 ?_
  refine jx_istore_n (pc := 3) (i := 3) rfl rfl (by decide) (lv' := [(3, .int (0 : Int32)), (2, .int (0 : Int32)), (0, .ref (G.2 23)), (1, .int a1)]) rfl dX2_votes_3 ?_
  exact jx_sub [2, 3, 1, 0] rfl (jb_X2_votes_4 l G t hG sz σ out jx_fuel σ a1 (0 : Int32) (0 : Int32) rfl h)
theorem dX2_lead_0 : decode cX2_lead 0 = .ok (.iconst 0, 1) := by decide +kernel
theorem dX2_lead_1 : decode cX2_lead 1 = .ok (.istore_n 2, 1) := by decide +kernel
theorem dX2_lead_2 : decode cX2_lead 2 = .ok (.iconst 0, 1) := by decide +kernel
theorem dX2_lead_3 : decode cX2_lead 3 = .ok (.istore_n 3, 1) := by decide +kernel
theorem dX2_lead_4 : decode cX2_lead 4 = .ok (.iload_n 3, 1) := by decide +kernel
theorem dX2_lead_5 : decode cX2_lead 5 = .ok (.aload_n 0, 1) := by decide +kernel
theorem dX2_lead_6 : decode cX2_lead 6 = .ok (.getfield 36, 3) := by decide +kernel
theorem dX2_lead_9 : decode cX2_lead 9 = .ok (.getfield 74, 3) := by decide +kernel
theorem dX2_lead_12 : decode cX2_lead 12 = .ok (.if_icmp .ge 37, 3) := by decide +kernel
theorem dX2_lead_15 : decode cX2_lead 15 = .ok (.iload_n 2, 1) := by decide +kernel
theorem dX2_lead_16 : decode cX2_lead 16 = .ok (.iload_n 1, 1) := by decide +kernel
theorem dX2_lead_17 : decode cX2_lead 17 = .ok (.iload_n 3, 1) := by decide +kernel
theorem dX2_lead_18 : decode cX2_lead 18 = .ok (.ishr, 1) := by decide +kernel
theorem dX2_lead_19 : decode cX2_lead 19 = .ok (.iconst 1, 1) := by decide +kernel
theorem dX2_lead_20 : decode cX2_lead 20 = .ok (.iand, 1) := by decide +kernel
theorem dX2_lead_21 : decode cX2_lead 21 = .ok (.iconst 1, 1) := by decide +kernel
theorem dX2_lead_22 : decode cX2_lead 22 = .ok (.if_icmp .ne 12, 3) := by decide +kernel
theorem dX2_lead_25 : decode cX2_lead 25 = .ok (.aload_n 0, 1) := by decide +kernel
theorem dX2_lead_26 : decode cX2_lead 26 = .ok (.getfield 33, 3) := by decide +kernel
theorem dX2_lead_29 : decode cX2_lead 29 = .ok (.iload_n 3, 1) := by decide +kernel
theorem dX2_lead_30 : decode cX2_lead 30 = .ok (.iaload, 1) := by decide +kernel
theorem dX2_lead_31 : decode cX2_lead 31 = .ok (.goto 10, 3) := by decide +kernel
theorem dX2_lead_34 : decode cX2_lead 34 = .ok (.aload_n 0, 1) := by decide +kernel
theorem dX2_lead_35 : decode cX2_lead 35 = .ok (.getfield 33, 3) := by decide +kernel
theorem dX2_lead_38 : decode cX2_lead 38 = .ok (.iload_n 3, 1) := by decide +kernel
theorem dX2_lead_39 : decode cX2_lead 39 = .ok (.iaload, 1) := by decide +kernel
theorem dX2_lead_40 : decode cX2_lead 40 = .ok (.ineg, 1) := by decide +kernel
theorem dX2_lead_41 : decode cX2_lead 41 = .ok (.iadd, 1) := by decide +kernel
theorem dX2_lead_42 : decode cX2_lead 42 = .ok (.istore_n 2, 1) := by decide +kernel
theorem dX2_lead_43 : decode cX2_lead 43 = .ok (.iinc 3 1, 3) := by decide +kernel
theorem dX2_lead_46 : decode cX2_lead 46 = .ok (.goto (-42), 3) := by decide +kernel
theorem dX2_lead_49 : decode cX2_lead 49 = .ok (.iload_n 2, 1) := by decide +kernel
theorem dX2_lead_50 : decode cX2_lead 50 = .ok (.ireturn, 1) := by decide +kernel
abbrev rm_X2_lead : Room := { frames := 0, cells := 0, slots := 0, locals := 0 }
abbrev jJ_X2_lead (l : Launch) (G : jx_G) (t : jx_T) (sz : Nat) (σ0 : jx_M) (out : Int32) (pc : Nat) (lv : List (Nat × Value)) (st : List Value) (σ : jx_M) : Prop := jx_J l (ll_env G t) (ll_dyn G t) (ll_rg G) sz RX2 "lead" cX2_lead 4 (some .int) rm_X2_lead (fun below args s => MQ below (jx_Qi (ll_dyn G t) σ0 out (jx_A (ll_rg G) sz)) args s 0 0 (jx_A (ll_rg G) sz)) 0 0 pc lv st σ
def b_X2_lead_41 (t : jx_T) (k4 : jx_M → Int32 → Int32 → Int32 → Option Int32) (σ : jx_M) (v1 : Int32) (v3 : Int32) (s0 : Int32) (s1 : Int32) : Option Int32 :=
  jx_lt ((s1 + s0)) (fun x1 => jx_lt (v3 + (1 : Int32)) (fun x2 => (k4 σ v1 x1 x2)))
set_option maxHeartbeats 4000000 in
set_option maxRecDepth 100000 in
theorem jb_X2_lead_41 (l : Launch) (G : jx_G) (t : jx_T) (hG : ll_ok G) (sz : Nat) (σ0 : jx_M) (out : Int32) (k4 : jx_M → Int32 → Int32 → Int32 → Option Int32) (h4 : ∀ (σ : jx_M) (v1 : Int32) (v2 : Int32) (v3 : Int32), σ = σ0 → k4 σ v1 v2 v3 = some out → jJ_X2_lead l G t sz σ0 out 4 [(0, .ref (G.2 23)), (1, .int v1), (2, .int v2), (3, .int v3)] [] σ) (σ : jx_M) (v1 : Int32) (v3 : Int32) (s0 : Int32) (s1 : Int32) (e0 : σ = σ0) (h : b_X2_lead_41 t k4 σ v1 v3 s0 s1 = some out) : jJ_X2_lead l G t sz σ0 out 41 [(0, .ref (G.2 23)), (1, .int v1), (3, .int v3)] [.int s0, .int s1] σ := by
  unfold b_X2_lead_41 at h
  refine jx_iadd (pc := 41) dX2_lead_41 ?_
  obtain ⟨x1, ex1, h⟩ := jx_lt_o h
  refine jx_istore_n (pc := 42) (i := 2) rfl ex1 (by decide) (lv' := [(2, .int x1), (0, .ref (G.2 23)), (1, .int v1), (3, .int v3)]) rfl dX2_lead_42 ?_
  obtain ⟨x2, ex2, h⟩ := jx_lt_o h
  refine jx_iinc (pc := 43) (i := 3) (v := v3) rfl ex2 (n := 1) (by decide) (by decide) (lv' := [(3, .int x2), (2, .int x1), (0, .ref (G.2 23)), (1, .int v1)]) rfl dX2_lead_43 ?_
  refine jx_goto (pc := 46) (tgt := 4) dX2_lead_46 (by decide) ?_
  exact jx_sub [2, 3, 1, 0] rfl (h4 σ v1 x1 x2 e0 h)
def g_X2_lead_4 (t : jx_T) (k4 : jx_M → Int32 → Int32 → Int32 → Option Int32) (σ : jx_M) (v1 : Int32) (v2 : Int32) (v3 : Int32) : Option Int32 :=
  if (σ 0 2) ≤ v3 then some v2 else if ((v1 >>> (v3 &&& 31)) &&& (1 : Int32)) = (1 : Int32) then jx_gd (jx_in v3 6) ((b_X2_lead_41 t k4 σ v1 v3 (σ 59 v3.toNatClampNeg) v2)) else jx_gd (jx_in v3 6) ((b_X2_lead_41 t k4 σ v1 v3 (-(σ 59 v3.toNatClampNeg)) v2))
set_option maxHeartbeats 4000000 in
set_option maxRecDepth 100000 in
theorem jg_X2_lead_4 (l : Launch) (G : jx_G) (t : jx_T) (hG : ll_ok G) (sz : Nat) (σ0 : jx_M) (out : Int32) (k4 : jx_M → Int32 → Int32 → Int32 → Option Int32) (h4 : ∀ (σ : jx_M) (v1 : Int32) (v2 : Int32) (v3 : Int32), σ = σ0 → k4 σ v1 v2 v3 = some out → jJ_X2_lead l G t sz σ0 out 4 [(0, .ref (G.2 23)), (1, .int v1), (2, .int v2), (3, .int v3)] [] σ) (σ : jx_M) (v1 : Int32) (v2 : Int32) (v3 : Int32) (e0 : σ = σ0) (h : g_X2_lead_4 t k4 σ v1 v2 v3 = some out) : jJ_X2_lead l G t sz σ0 out 4 [(0, .ref (G.2 23)), (1, .int v1), (2, .int v2), (3, .int v3)] [] σ := by
  unfold g_X2_lead_4 at h
  refine jx_iload_n (pc := 4) (k0 := 3) rfl dX2_lead_4 ?_
  refine jx_aload_n (pc := 5) (k0 := 0) rfl dX2_lead_5 ?_
  refine ll_gnight_canal (pc := 6) fl_X2_36 dX2_lead_6 ?_
  refine ll_gnow_voters (pc := 9) fl_X2_74 dX2_lead_9 ?_
  refine jx_icmp_ge (pc := 12) (tgt := 49) dX2_lead_12 (by decide) (fun c1 => ?_) (fun c1 => ?_)
  · have h := jx_t c1 h
    refine jx_iload_n (pc := 49) (k0 := 2) rfl dX2_lead_49 ?_
    subst e0
    have h := Option.some.inj h
    subst h
    exact jx_iret (pc := 50) dX2_lead_50
  · have h := jx_f c1 h
    refine jx_iload_n (pc := 15) (k0 := 2) rfl dX2_lead_15 ?_
    refine jx_iload_n (pc := 16) (k0 := 1) rfl dX2_lead_16 ?_
    refine jx_iload_n (pc := 17) (k0 := 3) rfl dX2_lead_17 ?_
    refine jx_ishr (pc := 18) dX2_lead_18 ?_
    refine jx_iconst (pc := 19) (v := (1 : Int32)) (by decide) dX2_lead_19 ?_
    refine jx_iand (pc := 20) dX2_lead_20 ?_
    refine jx_iconst (pc := 21) (v := (1 : Int32)) (by decide) dX2_lead_21 ?_
    refine jx_icmp_ne (pc := 22) (tgt := 34) dX2_lead_22 (by decide) (fun c2 => ?_) (fun c2 => ?_)
    · have h := jx_f c2 h
      refine jx_aload_n (pc := 34) (k0 := 0) rfl dX2_lead_34 ?_
      refine ll_gnight_worth (pc := 35) fl_X2_33 dX2_lead_35 ?_
      refine jx_iload_n (pc := 38) (k0 := 3) rfl dX2_lead_38 ?_
      obtain ⟨g3, h⟩ := jx_gd_o h
      refine ll_l (pc := 39) (k := 59) (jx_in_o g3) rfl dX2_lead_39 ?_
      refine jx_ineg (pc := 40) dX2_lead_40 ?_
      exact jx_sub [0, 1, 3] rfl (jb_X2_lead_41 l G t hG sz σ0 out k4 h4 σ v1 v3 (-(σ 59 v3.toNatClampNeg)) v2 e0 h)
    · have h := jx_t c2 h
      refine jx_aload_n (pc := 25) (k0 := 0) rfl dX2_lead_25 ?_
      refine ll_gnight_worth (pc := 26) fl_X2_33 dX2_lead_26 ?_
      refine jx_iload_n (pc := 29) (k0 := 3) rfl dX2_lead_29 ?_
      obtain ⟨g4, h⟩ := jx_gd_o h
      refine ll_l (pc := 30) (k := 59) (jx_in_o g4) rfl dX2_lead_30 ?_
      refine jx_goto (pc := 31) (tgt := 41) dX2_lead_31 (by decide) ?_
      exact jx_sub [0, 1, 3] rfl (jb_X2_lead_41 l G t hG sz σ0 out k4 h4 σ v1 v3 (σ 59 v3.toNatClampNeg) v2 e0 h)
def b_X2_lead_4 (t : jx_T)  : Nat → jx_M → Int32 → Int32 → Int32 → Option Int32
  | 0, _, _, _, _ => none
  | n + 1, σ, v1, v2, v3 => g_X2_lead_4 t (b_X2_lead_4 t n) σ v1 v2 v3
theorem jb_X2_lead_4 (l : Launch) (G : jx_G) (t : jx_T) (hG : ll_ok G) (sz : Nat) (σ0 : jx_M) (out : Int32)  : ∀ (n : Nat) (σ : jx_M) (v1 : Int32) (v2 : Int32) (v3 : Int32), σ = σ0 → b_X2_lead_4 t n σ v1 v2 v3 = some out → jJ_X2_lead l G t sz σ0 out 4 [(0, .ref (G.2 23)), (1, .int v1), (2, .int v2), (3, .int v3)] [] σ := by
  intro n
  induction n with
  | zero =>
    intro σ v1 v2 v3 e0 h
    cases h
  | succ n ih =>
    intro σ v1 v2 v3 e0 h
    exact jg_X2_lead_4 l G t hG sz σ0 out (b_X2_lead_4 t n) ih σ v1 v2 v3 e0 h
def f_X2_lead (t : jx_T) (σ : jx_M) (a1 : Int32) : Option Int32 :=
  (b_X2_lead_4 t jx_fuel σ a1 (0 : Int32) (0 : Int32))
set_option maxHeartbeats 4000000 in
set_option maxRecDepth 100000 in
theorem k_X2_lead (l : Launch) (G : jx_G) (t : jx_T) (hG : ll_ok G) (sz : Nat) (σ : jx_M) (a1 : Int32) (out : Int32) (h : f_X2_lead t σ a1 = some out) : Met l yX2_lead (Cond.code yX2_lead cX2_lead 4 (some .int) :: jx_ws) rm_X2_lead (jx_Pc (ll_env G t) (ll_dyn G t) (ll_rg G) sz σ [.ref (G.2 23), .int a1]) (jx_Qi (ll_dyn G t) σ out (jx_A (ll_rg G) sz)) 0 0 (jx_A (ll_rg G) sz) := by
  unfold f_X2_lead at h
  refine jx_met (by decide) (Nat.le_of_ble_eq_true rfl) ?_
  refine jx_sub (lv' := [(0, .ref (G.2 23)), (1, .int a1)]) [0, 1] rfl ?_
  refine jx_iconst (pc := 0) (v := (0 : Int32)) (by decide) dX2_lead_0 ?_
  refine jx_istore_n (pc := 1) (i := 2) rfl rfl (by decide) (lv' := [(2, .int (0 : Int32)), (0, .ref (G.2 23)), (1, .int a1)]) rfl dX2_lead_1 ?_
  refine jx_iconst (pc := 2) (v := (0 : Int32)) (by decide) dX2_lead_2 ?_
  refine jx_istore_n (pc := 3) (i := 3) rfl rfl (by decide) (lv' := [(3, .int (0 : Int32)), (2, .int (0 : Int32)), (0, .ref (G.2 23)), (1, .int a1)]) rfl dX2_lead_3 ?_
  exact jx_sub [2, 3, 1, 0] rfl (jb_X2_lead_4 l G t hG sz σ out jx_fuel σ a1 (0 : Int32) (0 : Int32) rfl h)
theorem dX2_winnerBy_0 : decode cX2_winnerBy 0 = .ok (.iload_n 0, 1) := by decide +kernel
theorem dX2_winnerBy_1 : decode cX2_winnerBy 1 = .ok (.ifCond .le 7, 3) := by decide +kernel
theorem dX2_winnerBy_4 : decode cX2_winnerBy 4 = .ok (.iconst 1, 1) := by decide +kernel
theorem dX2_winnerBy_5 : decode cX2_winnerBy 5 = .ok (.goto 13, 3) := by decide +kernel
theorem dX2_winnerBy_8 : decode cX2_winnerBy 8 = .ok (.iload_n 0, 1) := by decide +kernel
theorem dX2_winnerBy_9 : decode cX2_winnerBy 9 = .ok (.ifCond .ge 7, 3) := by decide +kernel
theorem dX2_winnerBy_12 : decode cX2_winnerBy 12 = .ok (.iconst 0, 1) := by decide +kernel
theorem dX2_winnerBy_13 : decode cX2_winnerBy 13 = .ok (.goto 5, 3) := by decide +kernel
theorem dX2_winnerBy_16 : decode cX2_winnerBy 16 = .ok (.bipush (-5), 2) := by decide +kernel
theorem dX2_winnerBy_18 : decode cX2_winnerBy 18 = .ok (.ireturn, 1) := by decide +kernel
abbrev rm_X2_winnerBy : Room := { frames := 0, cells := 0, slots := 0, locals := 0 }
abbrev jJ_X2_winnerBy (l : Launch) (G : jx_G) (t : jx_T) (sz : Nat) (σ0 : jx_M) (out : Int32) (pc : Nat) (lv : List (Nat × Value)) (st : List Value) (σ : jx_M) : Prop := jx_J l (ll_env G t) (ll_dyn G t) (ll_rg G) sz RX2 "winnerBy" cX2_winnerBy 1 (some .int) rm_X2_winnerBy (fun below args s => MQ below (jx_Qi (ll_dyn G t) σ0 out (jx_A (ll_rg G) sz)) args s 0 0 (jx_A (ll_rg G) sz)) 0 0 pc lv st σ
def f_X2_winnerBy (a0 : Int32) : Option Int32 :=
  if a0 ≤ 0 then if 0 ≤ a0 then some (-5 : Int32) else some (0 : Int32) else some (1 : Int32)
set_option maxHeartbeats 4000000 in
set_option maxRecDepth 100000 in
theorem k_X2_winnerBy (l : Launch) (G : jx_G) (t : jx_T) (hG : ll_ok G) (sz : Nat) (σ : jx_M) (a0 : Int32) (out : Int32) (h : f_X2_winnerBy a0 = some out) : Met l yX2_winnerBy (Cond.code yX2_winnerBy cX2_winnerBy 1 (some .int) :: jx_ws) rm_X2_winnerBy (jx_Pc (ll_env G t) (ll_dyn G t) (ll_rg G) sz σ [.int a0]) (jx_Qi (ll_dyn G t) σ out (jx_A (ll_rg G) sz)) 0 0 (jx_A (ll_rg G) sz) := by
  unfold f_X2_winnerBy at h
  refine jx_met (by decide) (Nat.le_of_ble_eq_true rfl) ?_
  refine jx_sub (lv' := [(0, .int a0)]) [0] rfl ?_
  refine jx_iload_n (pc := 0) (k0 := 0) rfl dX2_winnerBy_0 ?_
  refine jx_if_le (pc := 1) (tgt := 8) dX2_winnerBy_1 (by decide) (fun c1 => ?_) (fun c1 => ?_)
  · have h := jx_t c1 h
    refine jx_iload_n (pc := 8) (k0 := 0) rfl dX2_winnerBy_8 ?_
    refine jx_if_ge (pc := 9) (tgt := 16) dX2_winnerBy_9 (by decide) (fun c2 => ?_) (fun c2 => ?_)
    · have h := jx_t c2 h
      refine jx_bipush (pc := 16) (v := (-5 : Int32)) (by decide) dX2_winnerBy_16 ?_
      have h := Option.some.inj h
      subst h
      exact jx_iret (pc := 18) dX2_winnerBy_18
    · have h := jx_f c2 h
      refine jx_iconst (pc := 12) (v := (0 : Int32)) (by decide) dX2_winnerBy_12 ?_
      refine jx_goto (pc := 13) (tgt := 18) dX2_winnerBy_13 (by decide) ?_
      have h := Option.some.inj h
      subst h
      exact jx_iret (pc := 18) dX2_winnerBy_18
  · have h := jx_f c1 h
    refine jx_iconst (pc := 4) (v := (1 : Int32)) (by decide) dX2_winnerBy_4 ?_
    refine jx_goto (pc := 5) (tgt := 18) dX2_winnerBy_5 (by decide) ?_
    have h := Option.some.inj h
    subst h
    exact jx_iret (pc := 18) dX2_winnerBy_18
theorem dX2_isAsSeen_0 : decode cX2_isAsSeen 0 = .ok (.iconst 0, 1) := by decide +kernel
theorem dX2_isAsSeen_1 : decode cX2_isAsSeen 1 = .ok (.istore_n 1, 1) := by decide +kernel
theorem dX2_isAsSeen_2 : decode cX2_isAsSeen 2 = .ok (.iload_n 1, 1) := by decide +kernel
theorem dX2_isAsSeen_3 : decode cX2_isAsSeen 3 = .ok (.aload_n 0, 1) := by decide +kernel
theorem dX2_isAsSeen_4 : decode cX2_isAsSeen 4 = .ok (.getfield 36, 3) := by decide +kernel
theorem dX2_isAsSeen_7 : decode cX2_isAsSeen 7 = .ok (.getfield 136, 3) := by decide +kernel
theorem dX2_isAsSeen_10 : decode cX2_isAsSeen 10 = .ok (.if_icmp .ge 37, 3) := by decide +kernel
theorem dX2_isAsSeen_13 : decode cX2_isAsSeen 13 = .ok (.aload_n 0, 1) := by decide +kernel
theorem dX2_isAsSeen_14 : decode cX2_isAsSeen 14 = .ok (.getfield 23, 3) := by decide +kernel
theorem dX2_isAsSeen_17 : decode cX2_isAsSeen 17 = .ok (.aload_n 0, 1) := by decide +kernel
theorem dX2_isAsSeen_18 : decode cX2_isAsSeen 18 = .ok (.getfield 36, 3) := by decide +kernel
theorem dX2_isAsSeen_21 : decode cX2_isAsSeen 21 = .ok (.getfield 139, 3) := by decide +kernel
theorem dX2_isAsSeen_24 : decode cX2_isAsSeen 24 = .ok (.iload_n 1, 1) := by decide +kernel
theorem dX2_isAsSeen_25 : decode cX2_isAsSeen 25 = .ok (.iaload, 1) := by decide +kernel
theorem dX2_isAsSeen_26 : decode cX2_isAsSeen 26 = .ok (.iaload, 1) := by decide +kernel
theorem dX2_isAsSeen_27 : decode cX2_isAsSeen 27 = .ok (.aload_n 0, 1) := by decide +kernel
theorem dX2_isAsSeen_28 : decode cX2_isAsSeen 28 = .ok (.getfield 36, 3) := by decide +kernel
theorem dX2_isAsSeen_31 : decode cX2_isAsSeen 31 = .ok (.getfield 142, 3) := by decide +kernel
theorem dX2_isAsSeen_34 : decode cX2_isAsSeen 34 = .ok (.iload_n 1, 1) := by decide +kernel
theorem dX2_isAsSeen_35 : decode cX2_isAsSeen 35 = .ok (.iaload, 1) := by decide +kernel
theorem dX2_isAsSeen_36 : decode cX2_isAsSeen 36 = .ok (.if_icmp .eq 5, 3) := by decide +kernel
theorem dX2_isAsSeen_39 : decode cX2_isAsSeen 39 = .ok (.iconst 0, 1) := by decide +kernel
theorem dX2_isAsSeen_40 : decode cX2_isAsSeen 40 = .ok (.ireturn, 1) := by decide +kernel
theorem dX2_isAsSeen_41 : decode cX2_isAsSeen 41 = .ok (.iinc 1 1, 3) := by decide +kernel
theorem dX2_isAsSeen_44 : decode cX2_isAsSeen 44 = .ok (.goto (-42), 3) := by decide +kernel
theorem dX2_isAsSeen_47 : decode cX2_isAsSeen 47 = .ok (.iconst 1, 1) := by decide +kernel
theorem dX2_isAsSeen_48 : decode cX2_isAsSeen 48 = .ok (.ireturn, 1) := by decide +kernel
abbrev rm_X2_isAsSeen : Room := { frames := 0, cells := 0, slots := 0, locals := 0 }
abbrev jJ_X2_isAsSeen (l : Launch) (G : jx_G) (t : jx_T) (sz : Nat) (σ0 : jx_M) (out : Int32) (pc : Nat) (lv : List (Nat × Value)) (st : List Value) (σ : jx_M) : Prop := jx_J l (ll_env G t) (ll_dyn G t) (ll_rg G) sz RX2 "isAsSeen" cX2_isAsSeen 2 (some .boolean) rm_X2_isAsSeen (fun below args s => MQ below (jx_Qi (ll_dyn G t) σ0 out (jx_A (ll_rg G) sz)) args s 0 0 (jx_A (ll_rg G) sz)) 0 0 pc lv st σ
def g_X2_isAsSeen_2 (t : jx_T) (k2 : jx_M → Int32 → Option Int32) (σ : jx_M) (v1 : Int32) : Option Int32 :=
  if (σ 0 5) ≤ v1 then some (1 : Int32) else jx_gd (jx_in v1 6) (jx_gd (jx_in (σ 15 v1.toNatClampNeg) 7) (jx_gd (jx_in v1 6) (if (σ 57 (σ 15 v1.toNatClampNeg).toNatClampNeg) = (σ 16 v1.toNatClampNeg) then jx_lt (v1 + (1 : Int32)) (fun x6 => (k2 σ x6)) else some (0 : Int32))))
set_option maxHeartbeats 4000000 in
set_option maxRecDepth 100000 in
theorem jg_X2_isAsSeen_2 (l : Launch) (G : jx_G) (t : jx_T) (hG : ll_ok G) (sz : Nat) (σ0 : jx_M) (out : Int32) (k2 : jx_M → Int32 → Option Int32) (h2 : ∀ (σ : jx_M) (v1 : Int32), σ = σ0 → k2 σ v1 = some out → jJ_X2_isAsSeen l G t sz σ0 out 2 [(0, .ref (G.2 23)), (1, .int v1)] [] σ) (σ : jx_M) (v1 : Int32) (e0 : σ = σ0) (h : g_X2_isAsSeen_2 t k2 σ v1 = some out) : jJ_X2_isAsSeen l G t sz σ0 out 2 [(0, .ref (G.2 23)), (1, .int v1)] [] σ := by
  unfold g_X2_isAsSeen_2 at h
  refine jx_iload_n (pc := 2) (k0 := 1) rfl dX2_isAsSeen_2 ?_
  refine jx_aload_n (pc := 3) (k0 := 0) rfl dX2_isAsSeen_3 ?_
  refine ll_gnight_canal (pc := 4) fl_X2_36 dX2_isAsSeen_4 ?_
  refine ll_gnow_seen (pc := 7) fl_X2_136 dX2_isAsSeen_7 ?_
  refine jx_icmp_ge (pc := 10) (tgt := 47) dX2_isAsSeen_10 (by decide) (fun c1 => ?_) (fun c1 => ?_)
  · have h := jx_t c1 h
    refine jx_iconst (pc := 47) (v := (1 : Int32)) (by decide) dX2_isAsSeen_47 ?_
    subst e0
    have h := Option.some.inj h
    subst h
    exact jx_zret (pc := 48) (Or.inr rfl) dX2_isAsSeen_48
  · have h := jx_f c1 h
    refine jx_aload_n (pc := 13) (k0 := 0) rfl dX2_isAsSeen_13 ?_
    refine ll_gnight_lamps (pc := 14) fl_X2_23 dX2_isAsSeen_14 ?_
    refine jx_aload_n (pc := 17) (k0 := 0) rfl dX2_isAsSeen_17 ?_
    refine ll_gnight_canal (pc := 18) fl_X2_36 dX2_isAsSeen_18 ?_
    refine ll_gnow_seenPlace (pc := 21) fl_X2_139 dX2_isAsSeen_21 ?_
    refine jx_iload_n (pc := 24) (k0 := 1) rfl dX2_isAsSeen_24 ?_
    obtain ⟨g2, h⟩ := jx_gd_o h
    refine ll_l (pc := 25) (k := 15) (jx_in_o g2) rfl dX2_isAsSeen_25 ?_
    obtain ⟨g3, h⟩ := jx_gd_o h
    refine ll_l (pc := 26) (k := 57) (jx_in_o g3) rfl dX2_isAsSeen_26 ?_
    refine jx_aload_n (pc := 27) (k0 := 0) rfl dX2_isAsSeen_27 ?_
    refine ll_gnight_canal (pc := 28) fl_X2_36 dX2_isAsSeen_28 ?_
    refine ll_gnow_seenLamps (pc := 31) fl_X2_142 dX2_isAsSeen_31 ?_
    refine jx_iload_n (pc := 34) (k0 := 1) rfl dX2_isAsSeen_34 ?_
    obtain ⟨g4, h⟩ := jx_gd_o h
    refine ll_l (pc := 35) (k := 16) (jx_in_o g4) rfl dX2_isAsSeen_35 ?_
    refine jx_icmp_eq (pc := 36) (tgt := 41) dX2_isAsSeen_36 (by decide) (fun c5 => ?_) (fun c5 => ?_)
    · have h := jx_t c5 h
      obtain ⟨x6, ex6, h⟩ := jx_lt_o h
      refine jx_iinc (pc := 41) (i := 1) (v := v1) rfl ex6 (n := 1) (by decide) (by decide) (lv' := [(1, .int x6), (0, .ref (G.2 23))]) rfl dX2_isAsSeen_41 ?_
      refine jx_goto (pc := 44) (tgt := 2) dX2_isAsSeen_44 (by decide) ?_
      exact jx_sub [1, 0] rfl (h2 σ x6 e0 h)
    · have h := jx_f c5 h
      refine jx_iconst (pc := 39) (v := (0 : Int32)) (by decide) dX2_isAsSeen_39 ?_
      subst e0
      have h := Option.some.inj h
      subst h
      exact jx_zret (pc := 40) (Or.inl rfl) dX2_isAsSeen_40
def b_X2_isAsSeen_2 (t : jx_T)  : Nat → jx_M → Int32 → Option Int32
  | 0, _, _ => none
  | n + 1, σ, v1 => g_X2_isAsSeen_2 t (b_X2_isAsSeen_2 t n) σ v1
theorem jb_X2_isAsSeen_2 (l : Launch) (G : jx_G) (t : jx_T) (hG : ll_ok G) (sz : Nat) (σ0 : jx_M) (out : Int32)  : ∀ (n : Nat) (σ : jx_M) (v1 : Int32), σ = σ0 → b_X2_isAsSeen_2 t n σ v1 = some out → jJ_X2_isAsSeen l G t sz σ0 out 2 [(0, .ref (G.2 23)), (1, .int v1)] [] σ := by
  intro n
  induction n with
  | zero =>
    intro σ v1 e0 h
    cases h
  | succ n ih =>
    intro σ v1 e0 h
    exact jg_X2_isAsSeen_2 l G t hG sz σ0 out (b_X2_isAsSeen_2 t n) ih σ v1 e0 h
def f_X2_isAsSeen (t : jx_T) (σ : jx_M)  : Option Int32 :=
  (b_X2_isAsSeen_2 t jx_fuel σ (0 : Int32))
set_option maxHeartbeats 4000000 in
set_option maxRecDepth 100000 in
theorem k_X2_isAsSeen (l : Launch) (G : jx_G) (t : jx_T) (hG : ll_ok G) (sz : Nat) (σ : jx_M)  (out : Int32) (h : f_X2_isAsSeen t σ = some out) : Met l yX2_isAsSeen (Cond.code yX2_isAsSeen cX2_isAsSeen 2 (some .boolean) :: jx_ws) rm_X2_isAsSeen (jx_Pc (ll_env G t) (ll_dyn G t) (ll_rg G) sz σ [.ref (G.2 23)]) (jx_Qi (ll_dyn G t) σ out (jx_A (ll_rg G) sz)) 0 0 (jx_A (ll_rg G) sz) := by
  unfold f_X2_isAsSeen at h
  refine jx_met (by decide) (Nat.le_of_ble_eq_true rfl) ?_
  refine jx_sub (lv' := [(0, .ref (G.2 23))]) [0] rfl ?_
  refine jx_iconst (pc := 0) (v := (0 : Int32)) (by decide) dX2_isAsSeen_0 ?_
  refine jx_istore_n (pc := 1) (i := 1) rfl rfl (by decide) (lv' := [(1, .int (0 : Int32)), (0, .ref (G.2 23))]) rfl dX2_isAsSeen_1 ?_
  exact jx_sub [1, 0] rfl (jb_X2_isAsSeen_2 l G t hG sz σ out jx_fuel σ (0 : Int32) rfl h)
theorem dX2_unfairness_0 : decode cX2_unfairness 0 = .ok (.iconst 0, 1) := by decide +kernel
theorem dX2_unfairness_1 : decode cX2_unfairness 1 = .ok (.istore_n 2, 1) := by decide +kernel
theorem dX2_unfairness_2 : decode cX2_unfairness 2 = .ok (.iconst 0, 1) := by decide +kernel
theorem dX2_unfairness_3 : decode cX2_unfairness 3 = .ok (.istore_n 3, 1) := by decide +kernel
theorem dX2_unfairness_4 : decode cX2_unfairness 4 = .ok (.iload_n 3, 1) := by decide +kernel
theorem dX2_unfairness_5 : decode cX2_unfairness 5 = .ok (.aload_n 0, 1) := by decide +kernel
theorem dX2_unfairness_6 : decode cX2_unfairness 6 = .ok (.getfield 36, 3) := by decide +kernel
theorem dX2_unfairness_9 : decode cX2_unfairness 9 = .ok (.getfield 74, 3) := by decide +kernel
theorem dX2_unfairness_12 : decode cX2_unfairness 12 = .ok (.if_icmp .ge 31, 3) := by decide +kernel
theorem dX2_unfairness_15 : decode cX2_unfairness 15 = .ok (.iload_n 2, 1) := by decide +kernel
theorem dX2_unfairness_16 : decode cX2_unfairness 16 = .ok (.iload_n 1, 1) := by decide +kernel
theorem dX2_unfairness_17 : decode cX2_unfairness 17 = .ok (.aload_n 0, 1) := by decide +kernel
theorem dX2_unfairness_18 : decode cX2_unfairness 18 = .ok (.getfield 30, 3) := by decide +kernel
theorem dX2_unfairness_21 : decode cX2_unfairness 21 = .ok (.iload_n 3, 1) := by decide +kernel
theorem dX2_unfairness_22 : decode cX2_unfairness 22 = .ok (.iaload, 1) := by decide +kernel
theorem dX2_unfairness_23 : decode cX2_unfairness 23 = .ok (.ishr, 1) := by decide +kernel
theorem dX2_unfairness_24 : decode cX2_unfairness 24 = .ok (.iconst 1, 1) := by decide +kernel
theorem dX2_unfairness_25 : decode cX2_unfairness 25 = .ok (.iand, 1) := by decide +kernel
theorem dX2_unfairness_26 : decode cX2_unfairness 26 = .ok (.iconst 1, 1) := by decide +kernel
theorem dX2_unfairness_27 : decode cX2_unfairness 27 = .ok (.if_icmp .ne 7, 3) := by decide +kernel
theorem dX2_unfairness_30 : decode cX2_unfairness 30 = .ok (.iconst 1, 1) := by decide +kernel
theorem dX2_unfairness_31 : decode cX2_unfairness 31 = .ok (.goto 4, 3) := by decide +kernel
theorem dX2_unfairness_34 : decode cX2_unfairness 34 = .ok (.iconst (-1), 1) := by decide +kernel
theorem dX2_unfairness_35 : decode cX2_unfairness 35 = .ok (.iadd, 1) := by decide +kernel
theorem dX2_unfairness_36 : decode cX2_unfairness 36 = .ok (.istore_n 2, 1) := by decide +kernel
theorem dX2_unfairness_37 : decode cX2_unfairness 37 = .ok (.iinc 3 1, 3) := by decide +kernel
theorem dX2_unfairness_40 : decode cX2_unfairness 40 = .ok (.goto (-36), 3) := by decide +kernel
theorem dX2_unfairness_43 : decode cX2_unfairness 43 = .ok (.iload_n 2, 1) := by decide +kernel
theorem dX2_unfairness_44 : decode cX2_unfairness 44 = .ok (.invokestatic 148, 3) := by decide +kernel
theorem dX2_unfairness_47 : decode cX2_unfairness 47 = .ok (.ireturn, 1) := by decide +kernel
abbrev rm_X2_unfairness : Room := { frames := 1, cells := 0, slots := 0, locals := 21 }
abbrev jJ_X2_unfairness (l : Launch) (G : jx_G) (t : jx_T) (sz : Nat) (σ0 : jx_M) (out : Int32) (pc : Nat) (lv : List (Nat × Value)) (st : List Value) (σ : jx_M) : Prop := jx_J l (ll_env G t) (ll_dyn G t) (ll_rg G) sz RX2 "unfairness" cX2_unfairness 4 (some .int) rm_X2_unfairness (fun below args s => MQ below (jx_Qi (ll_dyn G t) σ0 out (jx_A (ll_rg G) sz)) args s 0 0 (jx_A (ll_rg G) sz)) 0 0 pc lv st σ
def b_X2_unfairness_35 (t : jx_T) (k4 : jx_M → Int32 → Int32 → Int32 → Option Int32) (σ : jx_M) (v1 : Int32) (v3 : Int32) (s0 : Int32) (s1 : Int32) : Option Int32 :=
  jx_lt ((s1 + s0)) (fun x1 => jx_lt (v3 + (1 : Int32)) (fun x2 => (k4 σ v1 x1 x2)))
set_option maxHeartbeats 4000000 in
set_option maxRecDepth 100000 in
theorem jb_X2_unfairness_35 (l : Launch) (G : jx_G) (t : jx_T) (hG : ll_ok G) (sz : Nat) (σ0 : jx_M) (out : Int32) (k4 : jx_M → Int32 → Int32 → Int32 → Option Int32) (h4 : ∀ (σ : jx_M) (v1 : Int32) (v2 : Int32) (v3 : Int32), σ = σ0 → k4 σ v1 v2 v3 = some out → jJ_X2_unfairness l G t sz σ0 out 4 [(0, .ref (G.2 23)), (1, .int v1), (2, .int v2), (3, .int v3)] [] σ) (σ : jx_M) (v1 : Int32) (v3 : Int32) (s0 : Int32) (s1 : Int32) (e0 : σ = σ0) (h : b_X2_unfairness_35 t k4 σ v1 v3 s0 s1 = some out) : jJ_X2_unfairness l G t sz σ0 out 35 [(0, .ref (G.2 23)), (1, .int v1), (3, .int v3)] [.int s0, .int s1] σ := by
  unfold b_X2_unfairness_35 at h
  refine jx_iadd (pc := 35) dX2_unfairness_35 ?_
  obtain ⟨x1, ex1, h⟩ := jx_lt_o h
  refine jx_istore_n (pc := 36) (i := 2) rfl ex1 (by decide) (lv' := [(2, .int x1), (0, .ref (G.2 23)), (1, .int v1), (3, .int v3)]) rfl dX2_unfairness_36 ?_
  obtain ⟨x2, ex2, h⟩ := jx_lt_o h
  refine jx_iinc (pc := 37) (i := 3) (v := v3) rfl ex2 (n := 1) (by decide) (by decide) (lv' := [(3, .int x2), (2, .int x1), (0, .ref (G.2 23)), (1, .int v1)]) rfl dX2_unfairness_37 ?_
  refine jx_goto (pc := 40) (tgt := 4) dX2_unfairness_40 (by decide) ?_
  exact jx_sub [2, 3, 1, 0] rfl (h4 σ v1 x1 x2 e0 h)
def g_X2_unfairness_4 (t : jx_T) (k4 : jx_M → Int32 → Int32 → Int32 → Option Int32) (σ : jx_M) (v1 : Int32) (v2 : Int32) (v3 : Int32) : Option Int32 :=
  if (σ 0 2) ≤ v3 then some (if 0 ≤ v2 then v2 else 0 - v2) else jx_gd (jx_in v3 6) (if ((v1 >>> ((σ 58 v3.toNatClampNeg) &&& 31)) &&& (1 : Int32)) = (1 : Int32) then (b_X2_unfairness_35 t k4 σ v1 v3 (1 : Int32) v2) else (b_X2_unfairness_35 t k4 σ v1 v3 (-1 : Int32) v2))
set_option maxHeartbeats 4000000 in
set_option maxRecDepth 100000 in
theorem jg_X2_unfairness_4 (l : Launch) (G : jx_G) (t : jx_T) (hG : ll_ok G) (sz : Nat) (σ0 : jx_M) (out : Int32) (k4 : jx_M → Int32 → Int32 → Int32 → Option Int32) (h4 : ∀ (σ : jx_M) (v1 : Int32) (v2 : Int32) (v3 : Int32), σ = σ0 → k4 σ v1 v2 v3 = some out → jJ_X2_unfairness l G t sz σ0 out 4 [(0, .ref (G.2 23)), (1, .int v1), (2, .int v2), (3, .int v3)] [] σ) (σ : jx_M) (v1 : Int32) (v2 : Int32) (v3 : Int32) (e0 : σ = σ0) (h : g_X2_unfairness_4 t k4 σ v1 v2 v3 = some out) : jJ_X2_unfairness l G t sz σ0 out 4 [(0, .ref (G.2 23)), (1, .int v1), (2, .int v2), (3, .int v3)] [] σ := by
  unfold g_X2_unfairness_4 at h
  refine jx_iload_n (pc := 4) (k0 := 3) rfl dX2_unfairness_4 ?_
  refine jx_aload_n (pc := 5) (k0 := 0) rfl dX2_unfairness_5 ?_
  refine ll_gnight_canal (pc := 6) fl_X2_36 dX2_unfairness_6 ?_
  refine ll_gnow_voters (pc := 9) fl_X2_74 dX2_unfairness_9 ?_
  refine jx_icmp_ge (pc := 12) (tgt := 43) dX2_unfairness_12 (by decide) (fun c1 => ?_) (fun c1 => ?_)
  · have h := jx_t c1 h
    refine jx_iload_n (pc := 43) (k0 := 2) rfl dX2_unfairness_43 ?_
    refine jx_mabs (pc := 44) km_X2_148.1 km_X2_148.2.1 km_X2_148.2.2.1 km_X2_148.2.2.2 (Nat.le_of_ble_eq_true rfl) (Nat.le_of_ble_eq_true rfl) (Nat.zero_le _) (Nat.zero_le _) dX2_unfairness_44 ?_
    subst e0
    have h := Option.some.inj h
    subst h
    exact jx_iret (pc := 47) dX2_unfairness_47
  · have h := jx_f c1 h
    refine jx_iload_n (pc := 15) (k0 := 2) rfl dX2_unfairness_15 ?_
    refine jx_iload_n (pc := 16) (k0 := 1) rfl dX2_unfairness_16 ?_
    refine jx_aload_n (pc := 17) (k0 := 0) rfl dX2_unfairness_17 ?_
    refine ll_gnight_lie (pc := 18) fl_X2_30 dX2_unfairness_18 ?_
    refine jx_iload_n (pc := 21) (k0 := 3) rfl dX2_unfairness_21 ?_
    obtain ⟨g2, h⟩ := jx_gd_o h
    refine ll_l (pc := 22) (k := 58) (jx_in_o g2) rfl dX2_unfairness_22 ?_
    refine jx_ishr (pc := 23) dX2_unfairness_23 ?_
    refine jx_iconst (pc := 24) (v := (1 : Int32)) (by decide) dX2_unfairness_24 ?_
    refine jx_iand (pc := 25) dX2_unfairness_25 ?_
    refine jx_iconst (pc := 26) (v := (1 : Int32)) (by decide) dX2_unfairness_26 ?_
    refine jx_icmp_ne (pc := 27) (tgt := 34) dX2_unfairness_27 (by decide) (fun c3 => ?_) (fun c3 => ?_)
    · have h := jx_f c3 h
      refine jx_iconst (pc := 34) (v := (-1 : Int32)) (by decide) dX2_unfairness_34 ?_
      exact jx_sub [0, 1, 3] rfl (jb_X2_unfairness_35 l G t hG sz σ0 out k4 h4 σ v1 v3 (-1 : Int32) v2 e0 h)
    · have h := jx_t c3 h
      refine jx_iconst (pc := 30) (v := (1 : Int32)) (by decide) dX2_unfairness_30 ?_
      refine jx_goto (pc := 31) (tgt := 35) dX2_unfairness_31 (by decide) ?_
      exact jx_sub [0, 1, 3] rfl (jb_X2_unfairness_35 l G t hG sz σ0 out k4 h4 σ v1 v3 (1 : Int32) v2 e0 h)
def b_X2_unfairness_4 (t : jx_T)  : Nat → jx_M → Int32 → Int32 → Int32 → Option Int32
  | 0, _, _, _, _ => none
  | n + 1, σ, v1, v2, v3 => g_X2_unfairness_4 t (b_X2_unfairness_4 t n) σ v1 v2 v3
theorem jb_X2_unfairness_4 (l : Launch) (G : jx_G) (t : jx_T) (hG : ll_ok G) (sz : Nat) (σ0 : jx_M) (out : Int32)  : ∀ (n : Nat) (σ : jx_M) (v1 : Int32) (v2 : Int32) (v3 : Int32), σ = σ0 → b_X2_unfairness_4 t n σ v1 v2 v3 = some out → jJ_X2_unfairness l G t sz σ0 out 4 [(0, .ref (G.2 23)), (1, .int v1), (2, .int v2), (3, .int v3)] [] σ := by
  intro n
  induction n with
  | zero =>
    intro σ v1 v2 v3 e0 h
    cases h
  | succ n ih =>
    intro σ v1 v2 v3 e0 h
    exact jg_X2_unfairness_4 l G t hG sz σ0 out (b_X2_unfairness_4 t n) ih σ v1 v2 v3 e0 h
def f_X2_unfairness (t : jx_T) (σ : jx_M) (a1 : Int32) : Option Int32 :=
  (b_X2_unfairness_4 t jx_fuel σ a1 (0 : Int32) (0 : Int32))
set_option maxHeartbeats 4000000 in
set_option maxRecDepth 100000 in
theorem k_X2_unfairness (l : Launch) (G : jx_G) (t : jx_T) (hG : ll_ok G) (sz : Nat) (σ : jx_M) (a1 : Int32) (out : Int32) (h : f_X2_unfairness t σ a1 = some out) : Met l yX2_unfairness (Cond.code yX2_unfairness cX2_unfairness 4 (some .int) :: jx_ws) rm_X2_unfairness (jx_Pc (ll_env G t) (ll_dyn G t) (ll_rg G) sz σ [.ref (G.2 23), .int a1]) (jx_Qi (ll_dyn G t) σ out (jx_A (ll_rg G) sz)) 0 0 (jx_A (ll_rg G) sz) := by
  unfold f_X2_unfairness at h
  refine jx_met (by decide) (Nat.le_of_ble_eq_true rfl) ?_
  refine jx_sub (lv' := [(0, .ref (G.2 23)), (1, .int a1)]) [0, 1] rfl ?_
  refine jx_iconst (pc := 0) (v := (0 : Int32)) (by decide) dX2_unfairness_0 ?_
  refine jx_istore_n (pc := 1) (i := 2) rfl rfl (by decide) (lv' := [(2, .int (0 : Int32)), (0, .ref (G.2 23)), (1, .int a1)]) rfl dX2_unfairness_1 ?_
  refine jx_iconst (pc := 2) (v := (0 : Int32)) (by decide) dX2_unfairness_2 ?_
  refine jx_istore_n (pc := 3) (i := 3) rfl rfl (by decide) (lv' := [(3, .int (0 : Int32)), (2, .int (0 : Int32)), (0, .ref (G.2 23)), (1, .int a1)]) rfl dX2_unfairness_3 ?_
  exact jx_sub [2, 3, 1, 0] rfl (jb_X2_unfairness_4 l G t hG sz σ out jx_fuel σ a1 (0 : Int32) (0 : Int32) rfl h)
theorem dX3_takesWord_0 : decode cX3_takesWord 0 = .ok (.iconst 0, 1) := by decide +kernel
theorem dX3_takesWord_1 : decode cX3_takesWord 1 = .ok (.istore_n 2, 1) := by decide +kernel
theorem dX3_takesWord_2 : decode cX3_takesWord 2 = .ok (.iload_n 2, 1) := by decide +kernel
theorem dX3_takesWord_3 : decode cX3_takesWord 3 = .ok (.getstatic 90, 3) := by decide +kernel
theorem dX3_takesWord_6 : decode cX3_takesWord 6 = .ok (.arraylength, 1) := by decide +kernel
theorem dX3_takesWord_7 : decode cX3_takesWord 7 = .ok (.if_icmp .ge 46, 3) := by decide +kernel
theorem dX3_takesWord_10 : decode cX3_takesWord 10 = .ok (.ldc 93, 2) := by decide +kernel
theorem dX3_takesWord_12 : decode cX3_takesWord 12 = .ok (.getstatic 90, 3) := by decide +kernel
theorem dX3_takesWord_15 : decode cX3_takesWord 15 = .ok (.iload_n 2, 1) := by decide +kernel
theorem dX3_takesWord_16 : decode cX3_takesWord 16 = .ok (.iaload, 1) := by decide +kernel
theorem dX3_takesWord_17 : decode cX3_takesWord 17 = .ok (.invokevirtual 95, 3) := by decide +kernel
theorem dX3_takesWord_20 : decode cX3_takesWord 20 = .ok (.iload_n 1, 1) := by decide +kernel
theorem dX3_takesWord_21 : decode cX3_takesWord 21 = .ok (.if_icmp .ne 26, 3) := by decide +kernel
theorem dX3_takesWord_24 : decode cX3_takesWord 24 = .ok (.aload_n 0, 1) := by decide +kernel
theorem dX3_takesWord_25 : decode cX3_takesWord 25 = .ok (.iload_n 2, 1) := by decide +kernel
theorem dX3_takesWord_26 : decode cX3_takesWord 26 = .ok (.putfield 101, 3) := by decide +kernel
theorem dX3_takesWord_29 : decode cX3_takesWord 29 = .ok (.aload_n 0, 1) := by decide +kernel
theorem dX3_takesWord_30 : decode cX3_takesWord 30 = .ok (.getstatic 90, 3) := by decide +kernel
theorem dX3_takesWord_33 : decode cX3_takesWord 33 = .ok (.iload_n 2, 1) := by decide +kernel
theorem dX3_takesWord_34 : decode cX3_takesWord 34 = .ok (.iaload, 1) := by decide +kernel
theorem dX3_takesWord_35 : decode cX3_takesWord 35 = .ok (.iconst 1, 1) := by decide +kernel
theorem dX3_takesWord_36 : decode cX3_takesWord 36 = .ok (.iadd, 1) := by decide +kernel
theorem dX3_takesWord_37 : decode cX3_takesWord 37 = .ok (.putfield 104, 3) := by decide +kernel
theorem dX3_takesWord_40 : decode cX3_takesWord 40 = .ok (.aload_n 0, 1) := by decide +kernel
theorem dX3_takesWord_41 : decode cX3_takesWord 41 = .ok (.iconst 1, 1) := by decide +kernel
theorem dX3_takesWord_42 : decode cX3_takesWord 42 = .ok (.putfield 40, 3) := by decide +kernel
theorem dX3_takesWord_45 : decode cX3_takesWord 45 = .ok (.iconst 1, 1) := by decide +kernel
theorem dX3_takesWord_46 : decode cX3_takesWord 46 = .ok (.ireturn, 1) := by decide +kernel
theorem dX3_takesWord_47 : decode cX3_takesWord 47 = .ok (.iinc 2 1, 3) := by decide +kernel
theorem dX3_takesWord_50 : decode cX3_takesWord 50 = .ok (.goto (-48), 3) := by decide +kernel
theorem dX3_takesWord_53 : decode cX3_takesWord 53 = .ok (.iconst 0, 1) := by decide +kernel
theorem dX3_takesWord_54 : decode cX3_takesWord 54 = .ok (.ireturn, 1) := by decide +kernel
abbrev rm_X3_takesWord : Room := { frames := 4, cells := 0, slots := 0, locals := 85 }
abbrev jJ_X3_takesWord (l : Launch) (G : jx_G) (t : jx_T) (sz : Nat) (out : (Int32 × jx_M)) (pc : Nat) (lv : List (Nat × Value)) (st : List Value) (σ : jx_M) : Prop := jx_J l (ll_env G t) (ll_dyn G t) (ll_rg G) sz RX3 "takesWord" cX3_takesWord 3 (some .boolean) rm_X3_takesWord (fun below args s => MQ below (jx_Qi (ll_dyn G t) out.2 out.1 (jx_A (ll_rg G) sz)) args s 0 0 (jx_A (ll_rg G) sz)) 0 0 pc lv st σ
def g_X3_takesWord_2 (t : jx_T) (k2 : jx_M → Int32 → Int32 → Option (Int32 × jx_M)) (σ : jx_M) (v1 : Int32) (v2 : Int32) : Option (Int32 × jx_M) :=
  if (4 : Int32) ≤ v2 then some ((0 : Int32), σ) else jx_gd (jx_in v2 4) (jx_bd (f_J0_charAt_5068e 0 (zs_STARTS v2.toNatClampNeg)) (fun q3 => if q3 = v1 then jx_lt (jx_mu σ 0 35 v2) (fun σ6 => jx_gd (jx_in v2 4) (jx_lt (jx_mu σ6 0 36 ((zs_STARTS v2.toNatClampNeg) + (1 : Int32))) (fun σ8 => jx_lt (jx_mu σ8 0 34 (1 : Int32)) (fun σ9 => some ((1 : Int32), σ9))))) else jx_lt (v2 + (1 : Int32)) (fun x5 => (k2 σ v1 x5))))
set_option maxHeartbeats 4000000 in
set_option maxRecDepth 100000 in
theorem jg_X3_takesWord_2 (l : Launch) (G : jx_G) (t : jx_T) (hG : ll_ok G) (sz : Nat) (out : (Int32 × jx_M)) (k2 : jx_M → Int32 → Int32 → Option (Int32 × jx_M)) (h2 : ∀ (σ : jx_M) (v1 : Int32) (v2 : Int32), k2 σ v1 v2 = some out → jJ_X3_takesWord l G t sz out 2 [(0, .ref (G.2 25)), (1, .int v1), (2, .int v2)] [] σ) (σ : jx_M) (v1 : Int32) (v2 : Int32) (h : g_X3_takesWord_2 t k2 σ v1 v2 = some out) : jJ_X3_takesWord l G t sz out 2 [(0, .ref (G.2 25)), (1, .int v1), (2, .int v2)] [] σ := by
  unfold g_X3_takesWord_2 at h
  refine jx_iload_n (pc := 2) (k0 := 2) rfl dX3_takesWord_2 ?_
  refine ll_z_STARTS (pc := 3) fl_X3_90 dX3_takesWord_3 ?_
  refine ll_zn_STARTS (pc := 6) dX3_takesWord_6 ?_
  refine jx_icmp_ge (pc := 7) (tgt := 53) dX3_takesWord_7 (by decide) (fun c1 => ?_) (fun c1 => ?_)
  · have h := jx_t c1 h
    refine jx_iconst (pc := 53) (v := (0 : Int32)) (by decide) dX3_takesWord_53 ?_
    have h := Option.some.inj h
    subst h
    exact jx_zret (pc := 54) (Or.inl rfl) dX3_takesWord_54
  · have h := jx_f c1 h
    refine st_ldc_X3_93 (pc := 10) ll_hex dX3_takesWord_10 ?_
    refine ll_z_STARTS (pc := 12) fl_X3_90 dX3_takesWord_12 ?_
    refine jx_iload_n (pc := 15) (k0 := 2) rfl dX3_takesWord_15 ?_
    obtain ⟨g2, h⟩ := jx_gd_o h
    refine ll_zl_STARTS (pc := 16) (jx_in_o g2) rfl dX3_takesWord_16 ?_
    obtain ⟨q3, eq3, h⟩ := jx_bd_o h
    refine jx_callVi (pc := 17) [.int (zs_STARTS v2.toNatClampNeg)] (fun sz' => k_J0_charAt_5068e l (ll_env G t) (ll_dyn G t) (ll_rg G) G ll_jok ll_hex sz' σ 0 (zs_STARTS v2.toNatClampNeg) q3 eq3) kv_X3_95 ll_jok (st_rc ll_hex (i := 0) (by decide)) rfl rfl (Nat.le_of_ble_eq_true rfl) ⟨⟨rfl, rfl⟩, ⟨Nat.le_of_ble_eq_true rfl, Nat.le_of_ble_eq_true rfl⟩, Nat.zero_le _, Nat.zero_le _⟩ dX3_takesWord_17 ?_
    refine jx_iload_n (pc := 20) (k0 := 1) rfl dX3_takesWord_20 ?_
    refine jx_icmp_ne (pc := 21) (tgt := 47) dX3_takesWord_21 (by decide) (fun c4 => ?_) (fun c4 => ?_)
    · have h := jx_f c4 h
      obtain ⟨x5, ex5, h⟩ := jx_lt_o h
      refine jx_iinc (pc := 47) (i := 2) (v := v2) rfl ex5 (n := 1) (by decide) (by decide) (lv' := [(2, .int x5), (0, .ref (G.2 25)), (1, .int v1)]) rfl dX3_takesWord_47 ?_
      refine jx_goto (pc := 50) (tgt := 2) dX3_takesWord_50 (by decide) ?_
      exact jx_sub [1, 2, 0] rfl (h2 σ v1 x5 h)
    · have h := jx_t c4 h
      refine jx_aload_n (pc := 24) (k0 := 0) rfl dX3_takesWord_24 ?_
      refine jx_iload_n (pc := 25) (k0 := 2) rfl dX3_takesWord_25 ?_
      obtain ⟨σ6, eσ6, h⟩ := jx_lt_o h
      refine ll_preader_word (pc := 26) hG fl_X3_101 eσ6 dX3_takesWord_26 ?_
      refine jx_aload_n (pc := 29) (k0 := 0) rfl dX3_takesWord_29 ?_
      refine ll_z_STARTS (pc := 30) fl_X3_90 dX3_takesWord_30 ?_
      refine jx_iload_n (pc := 33) (k0 := 2) rfl dX3_takesWord_33 ?_
      obtain ⟨g7, h⟩ := jx_gd_o h
      refine ll_zl_STARTS (pc := 34) (jx_in_o g7) rfl dX3_takesWord_34 ?_
      refine jx_iconst (pc := 35) (v := (1 : Int32)) (by decide) dX3_takesWord_35 ?_
      refine jx_iadd (pc := 36) dX3_takesWord_36 ?_
      obtain ⟨σ8, eσ8, h⟩ := jx_lt_o h
      refine ll_preader_letter (pc := 37) hG fl_X3_104 eσ8 dX3_takesWord_37 ?_
      refine jx_aload_n (pc := 40) (k0 := 0) rfl dX3_takesWord_40 ?_
      refine jx_iconst (pc := 41) (v := (1 : Int32)) (by decide) dX3_takesWord_41 ?_
      obtain ⟨σ9, eσ9, h⟩ := jx_lt_o h
      refine ll_preader_due (pc := 42) hG fl_X3_40 eσ9 dX3_takesWord_42 ?_
      refine jx_iconst (pc := 45) (v := (1 : Int32)) (by decide) dX3_takesWord_45 ?_
      have h := Option.some.inj h
      subst h
      exact jx_zret (pc := 46) (Or.inr rfl) dX3_takesWord_46
def b_X3_takesWord_2 (t : jx_T)  : Nat → jx_M → Int32 → Int32 → Option (Int32 × jx_M)
  | 0, _, _, _ => none
  | n + 1, σ, v1, v2 => g_X3_takesWord_2 t (b_X3_takesWord_2 t n) σ v1 v2
theorem jb_X3_takesWord_2 (l : Launch) (G : jx_G) (t : jx_T) (hG : ll_ok G) (sz : Nat) (out : (Int32 × jx_M))  : ∀ (n : Nat) (σ : jx_M) (v1 : Int32) (v2 : Int32), b_X3_takesWord_2 t n σ v1 v2 = some out → jJ_X3_takesWord l G t sz out 2 [(0, .ref (G.2 25)), (1, .int v1), (2, .int v2)] [] σ := by
  intro n
  induction n with
  | zero =>
    intro σ v1 v2 h
    cases h
  | succ n ih =>
    intro σ v1 v2 h
    exact jg_X3_takesWord_2 l G t hG sz out (b_X3_takesWord_2 t n) ih σ v1 v2 h
def f_X3_takesWord (t : jx_T) (σ : jx_M) (a1 : Int32) : Option (Int32 × jx_M) :=
  (b_X3_takesWord_2 t jx_fuel σ a1 (0 : Int32))
set_option maxHeartbeats 4000000 in
set_option maxRecDepth 100000 in
theorem k_X3_takesWord (l : Launch) (G : jx_G) (t : jx_T) (hG : ll_ok G) (sz : Nat) (σ : jx_M) (a1 : Int32) (out : (Int32 × jx_M)) (h : f_X3_takesWord t σ a1 = some out) : Met l yX3_takesWord (Cond.code yX3_takesWord cX3_takesWord 3 (some .boolean) :: jx_ws) rm_X3_takesWord (jx_Pc (ll_env G t) (ll_dyn G t) (ll_rg G) sz σ [.ref (G.2 25), .int a1]) (jx_Qi (ll_dyn G t) out.2 out.1 (jx_A (ll_rg G) sz)) 0 0 (jx_A (ll_rg G) sz) := by
  unfold f_X3_takesWord at h
  refine jx_met (by decide) (Nat.le_of_ble_eq_true rfl) ?_
  refine jx_sub (lv' := [(0, .ref (G.2 25)), (1, .int a1)]) [0, 1] rfl ?_
  refine jx_iconst (pc := 0) (v := (0 : Int32)) (by decide) dX3_takesWord_0 ?_
  refine jx_istore_n (pc := 1) (i := 2) rfl rfl (by decide) (lv' := [(2, .int (0 : Int32)), (0, .ref (G.2 25)), (1, .int a1)]) rfl dX3_takesWord_1 ?_
  exact jx_sub [1, 2, 0] rfl (jb_X3_takesWord_2 l G t hG sz out jx_fuel σ a1 (0 : Int32) h)
