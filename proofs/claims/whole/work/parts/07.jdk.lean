/-! the JDK's methods over the String constants (a constant is its place i < 7) -/
theorem dJ3_checkIndex_8e157_0 : decode cJ3_checkIndex_8e157 0 = .ok (.iload_n 0, 1) := by decide +kernel
theorem dJ3_checkIndex_8e157_1 : decode cJ3_checkIndex_8e157 1 = .ok (.ifCond .lt 8, 3) := by decide +kernel
theorem dJ3_checkIndex_8e157_4 : decode cJ3_checkIndex_8e157 4 = .ok (.iload_n 0, 1) := by decide +kernel
theorem dJ3_checkIndex_8e157_5 : decode cJ3_checkIndex_8e157 5 = .ok (.iload_n 1, 1) := by decide +kernel
theorem dJ3_checkIndex_8e157_6 : decode cJ3_checkIndex_8e157 6 = .ok (.if_icmp .lt 10, 3) := by decide +kernel
theorem dJ3_checkIndex_8e157_9 : decode cJ3_checkIndex_8e157 9 = .ok (.aload_n 2, 1) := by decide +kernel
theorem dJ3_checkIndex_8e157_10 : decode cJ3_checkIndex_8e157 10 = .ok (.iload_n 0, 1) := by decide +kernel
theorem dJ3_checkIndex_8e157_11 : decode cJ3_checkIndex_8e157 11 = .ok (.iload_n 1, 1) := by decide +kernel
theorem dJ3_checkIndex_8e157_12 : decode cJ3_checkIndex_8e157 12 = .ok (.invokestatic 95, 3) := by decide +kernel
theorem dJ3_checkIndex_8e157_15 : decode cJ3_checkIndex_8e157 15 = .ok (.athrow, 1) := by decide +kernel
theorem dJ3_checkIndex_8e157_16 : decode cJ3_checkIndex_8e157 16 = .ok (.iload_n 0, 1) := by decide +kernel
theorem dJ3_checkIndex_8e157_17 : decode cJ3_checkIndex_8e157 17 = .ok (.ireturn, 1) := by decide +kernel
abbrev rm_J3_checkIndex_8e157 : Room := { frames := 0, cells := 0, slots := 0, locals := 0 }
abbrev jJ_J3_checkIndex_8e157 (l : Launch) {X : Type} (env : (Nat → Prop) → State → Prop) (dyn : X → Heap → Prop) (rg : Nat → Prop) (G : jx_G) (sz : Nat) (σ0 : X) (out : Int32) (pc : Nat) (lv : List (Nat × Value)) (st : List Value) (σ : X) : Prop := jx_J l (env) (dyn) (rg) sz RJ3 "checkIndex" cJ3_checkIndex_8e157 3 (some .int) rm_J3_checkIndex_8e157 (fun below args s => MQ below (jx_Qi (dyn) σ0 out (jx_A (rg) sz)) args s 0 0 (jx_A (rg) sz)) 0 0 pc lv st σ
def b_J3_checkIndex_8e157_9  (v0 : Int32) (v1 : Int32) : Option Int32 :=
  none
set_option maxHeartbeats 4000000 in
set_option maxRecDepth 100000 in
theorem jb_J3_checkIndex_8e157_9 (l : Launch) {X : Type} (env : (Nat → Prop) → State → Prop) (dyn : X → Heap → Prop) (rg : Nat → Prop) (G : jx_G) (hok : jx_ok rg env) (hex : ∀ A s, env A s → jx_ex G A s) (sz : Nat) (σ0 : X) (out : Int32)  (σ : X) (v0 : Int32) (v1 : Int32) (e0 : σ = σ0) (h : b_J3_checkIndex_8e157_9 v0 v1 = some out) : jJ_J3_checkIndex_8e157 l env dyn rg G sz σ0 out 9 [(0, .int v0), (1, .int v1)] [] σ := by
  unfold b_J3_checkIndex_8e157_9 at h
  cases h
def f_J3_checkIndex_8e157 (a0 : Int32) (a1 : Int32) : Option Int32 :=
  if a0 < 0 then (b_J3_checkIndex_8e157_9 a0 a1) else if a0 < a1 then some a0 else (b_J3_checkIndex_8e157_9 a0 a1)
set_option maxHeartbeats 4000000 in
set_option maxRecDepth 100000 in
theorem k_J3_checkIndex_8e157 (l : Launch) {X : Type} (env : (Nat → Prop) → State → Prop) (dyn : X → Heap → Prop) (rg : Nat → Prop) (G : jx_G) (hok : jx_ok rg env) (hex : ∀ A s, env A s → jx_ex G A s) (sz : Nat) (σ : X) (a0 : Int32) (a1 : Int32) (a2 : Value) (hc2 : a2.category = 1) (out : Int32) (h : f_J3_checkIndex_8e157 a0 a1 = some out) : Met l yJ3_checkIndex_8e157 (Cond.code yJ3_checkIndex_8e157 cJ3_checkIndex_8e157 3 (some .int) :: jx_ws) rm_J3_checkIndex_8e157 (jx_Pc (env) (dyn) (rg) sz σ [.int a0, .int a1, a2]) (jx_Qi (dyn) σ out (jx_A (rg) sz)) 0 0 (jx_A (rg) sz) := by
  unfold f_J3_checkIndex_8e157 at h
  refine jx_met (by decide) (by simp [lg_sl, hc2, show ∀ i : Int32, (Value.int i).category = 1 from fun _ => rfl]) ?_
  refine jx_sub (lv' := [(0, .int a0), (1, .int a1), (2, a2)]) [0, 1, 2] rfl ?_
  refine jx_iload_n (pc := 0) (k0 := 0) rfl dJ3_checkIndex_8e157_0 ?_
  refine jx_if_lt (pc := 1) (tgt := 9) dJ3_checkIndex_8e157_1 (by decide) (fun c1 => ?_) (fun c1 => ?_)
  · have h := jx_t c1 h
    exact jx_sub [0, 1] rfl (jb_J3_checkIndex_8e157_9 l env dyn rg G hok hex sz σ out σ a0 a1 rfl h)
  · have h := jx_f c1 h
    refine jx_iload_n (pc := 4) (k0 := 0) rfl dJ3_checkIndex_8e157_4 ?_
    refine jx_iload_n (pc := 5) (k0 := 1) rfl dJ3_checkIndex_8e157_5 ?_
    refine jx_icmp_lt (pc := 6) (tgt := 16) dJ3_checkIndex_8e157_6 (by decide) (fun c2 => ?_) (fun c2 => ?_)
    · have h := jx_t c2 h
      refine jx_iload_n (pc := 16) (k0 := 0) rfl dJ3_checkIndex_8e157_16 ?_
      have h := Option.some.inj h
      subst h
      exact jx_iret (pc := 17) dJ3_checkIndex_8e157_17
    · have h := jx_f c2 h
      exact jx_sub [0, 1] rfl (jb_J3_checkIndex_8e157_9 l env dyn rg G hok hex sz σ out σ a0 a1 rfl h)
theorem dJ0_checkIndex_df160_0 : decode cJ0_checkIndex_df160 0 = .ok (.iload_n 0, 1) := by decide +kernel
theorem dJ0_checkIndex_df160_1 : decode cJ0_checkIndex_df160 1 = .ok (.iload_n 1, 1) := by decide +kernel
theorem dJ0_checkIndex_df160_2 : decode cJ0_checkIndex_df160 2 = .ok (.getstatic 1053, 3) := by decide +kernel
theorem dJ0_checkIndex_df160_5 : decode cJ0_checkIndex_df160 5 = .ok (.invokestatic 1059, 3) := by decide +kernel
theorem dJ0_checkIndex_df160_8 : decode cJ0_checkIndex_df160 8 = .ok (.pop, 1) := by decide +kernel
theorem dJ0_checkIndex_df160_9 : decode cJ0_checkIndex_df160 9 = .ok (.return_, 1) := by decide +kernel
abbrev rm_J0_checkIndex_df160 : Room := { frames := 1, cells := 0, slots := 0, locals := 22 }
abbrev jJ_J0_checkIndex_df160 (l : Launch) {X : Type} (env : (Nat → Prop) → State → Prop) (dyn : X → Heap → Prop) (rg : Nat → Prop) (G : jx_G) (sz : Nat) (σ0 : X) (out : Unit) (pc : Nat) (lv : List (Nat × Value)) (st : List Value) (σ : X) : Prop := jx_J l (env) (dyn) (rg) sz RJ0 "checkIndex" cJ0_checkIndex_df160 2 none rm_J0_checkIndex_df160 (fun below args s => MQ below (jx_Qv (dyn) σ0 (jx_A (rg) sz)) args s 0 0 (jx_A (rg) sz)) 0 0 pc lv st σ
def f_J0_checkIndex_df160 (a0 : Int32) (a1 : Int32) : Option Unit :=
  jx_bd (f_J3_checkIndex_8e157 a0 a1) (fun q1 => some ())
set_option maxHeartbeats 4000000 in
set_option maxRecDepth 100000 in
theorem k_J0_checkIndex_df160 (l : Launch) {X : Type} (env : (Nat → Prop) → State → Prop) (dyn : X → Heap → Prop) (rg : Nat → Prop) (G : jx_G) (hok : jx_ok rg env) (hex : ∀ A s, env A s → jx_ex G A s) (sz : Nat) (σ : X) (a0 : Int32) (a1 : Int32) (out : Unit) (h : f_J0_checkIndex_df160 a0 a1 = some out) : Met l yJ0_checkIndex_df160 (Cond.code yJ0_checkIndex_df160 cJ0_checkIndex_df160 2 none :: jx_ws) rm_J0_checkIndex_df160 (jx_Pc (env) (dyn) (rg) sz σ [.int a0, .int a1]) (jx_Qv (dyn) σ (jx_A (rg) sz)) 0 0 (jx_A (rg) sz) := by
  unfold f_J0_checkIndex_df160 at h
  refine jx_met (by decide) (Nat.le_of_ble_eq_true rfl) ?_
  refine jx_sub (lv' := [(0, .int a0), (1, .int a1)]) [0, 1] rfl ?_
  refine jx_iload_n (pc := 0) (k0 := 0) rfl dJ0_checkIndex_df160_0 ?_
  refine jx_iload_n (pc := 1) (k0 := 1) rfl dJ0_checkIndex_df160_1 ?_
  refine st_fv (pc := 2) hex fl_J0_1053 dJ0_checkIndex_df160_2 ?_
  by_cases hfv : G.2 950 = 0
  · rw [show jx_fv G = Value.null from if_pos hfv]
    obtain ⟨q1, eq1, h⟩ := jx_bd_o h
    refine jx_callSi (pc := 5) [.int a0, .int a1, Value.null] (fun sz' => k_J3_checkIndex_8e157 l env dyn rg G hok hex sz' σ a0 a1 (Value.null) rfl q1 eq1) ks_J0_1059 hok rfl rfl (Nat.le_of_ble_eq_true rfl) ⟨⟨rfl, rfl⟩, ⟨Nat.le_of_ble_eq_true rfl, Nat.le_of_ble_eq_true rfl⟩, Nat.zero_le _, Nat.zero_le _⟩ dJ0_checkIndex_df160_5 ?_
    refine jx_pop (pc := 8) rfl dJ0_checkIndex_df160_8 ?_
    have h := Option.some.inj h
    subst h
    exact jx_vret (pc := 9) dJ0_checkIndex_df160_9
  · rw [show jx_fv G = Value.ref (G.2 951) from if_neg hfv]
    obtain ⟨q2, eq2, h⟩ := jx_bd_o h
    refine jx_callSi (pc := 5) [.int a0, .int a1, Value.ref (G.2 951)] (fun sz' => k_J3_checkIndex_8e157 l env dyn rg G hok hex sz' σ a0 a1 (Value.ref (G.2 951)) rfl q2 eq2) ks_J0_1059 hok rfl rfl (Nat.le_of_ble_eq_true rfl) ⟨⟨rfl, rfl⟩, ⟨Nat.le_of_ble_eq_true rfl, Nat.le_of_ble_eq_true rfl⟩, Nat.zero_le _, Nat.zero_le _⟩ dJ0_checkIndex_df160_5 ?_
    refine jx_pop (pc := 8) rfl dJ0_checkIndex_df160_8 ?_
    have h := Option.some.inj h
    subst h
    exact jx_vret (pc := 9) dJ0_checkIndex_df160_9
theorem dJ0_coder_7d493_0 : decode cJ0_coder_7d493 0 = .ok (.getstatic 38, 3) := by decide +kernel
theorem dJ0_coder_7d493_3 : decode cJ0_coder_7d493 3 = .ok (.ifCond .eq 10, 3) := by decide +kernel
theorem dJ0_coder_7d493_6 : decode cJ0_coder_7d493 6 = .ok (.aload_n 0, 1) := by decide +kernel
theorem dJ0_coder_7d493_7 : decode cJ0_coder_7d493 7 = .ok (.getfield 15, 3) := by decide +kernel
theorem dJ0_coder_7d493_10 : decode cJ0_coder_7d493 10 = .ok (.goto 4, 3) := by decide +kernel
theorem dJ0_coder_7d493_13 : decode cJ0_coder_7d493 13 = .ok (.iconst 1, 1) := by decide +kernel
theorem dJ0_coder_7d493_14 : decode cJ0_coder_7d493 14 = .ok (.ireturn, 1) := by decide +kernel
abbrev rm_J0_coder_7d493 : Room := { frames := 0, cells := 0, slots := 0, locals := 0 }
abbrev jJ_J0_coder_7d493 (l : Launch) {X : Type} (env : (Nat → Prop) → State → Prop) (dyn : X → Heap → Prop) (rg : Nat → Prop) (G : jx_G) (sz : Nat) (σ0 : X) (out : Int32) (pc : Nat) (lv : List (Nat × Value)) (st : List Value) (σ : X) : Prop := jx_J l (env) (dyn) (rg) sz RJ0 "coder" cJ0_coder_7d493 1 (some .byte) rm_J0_coder_7d493 (fun below args s => MQ below (jx_Qi (dyn) σ0 out (jx_A (rg) sz)) args s 0 0 (jx_A (rg) sz)) 0 0 pc lv st σ
def f_J0_coder_7d493 (a0 : Nat) : Option Int32 :=
  if (1 : Int32) = 0 then some (1 : Int32) else jx_gd (decide (a0 < 7)) (some (0 : Int32))
set_option maxHeartbeats 4000000 in
set_option maxRecDepth 100000 in
theorem k_J0_coder_7d493 (l : Launch) {X : Type} (env : (Nat → Prop) → State → Prop) (dyn : X → Heap → Prop) (rg : Nat → Prop) (G : jx_G) (hok : jx_ok rg env) (hex : ∀ A s, env A s → jx_ex G A s) (sz : Nat) (σ : X) (a0 : Nat) (out : Int32) (h : f_J0_coder_7d493 a0 = some out) : Met l yJ0_coder_7d493 (Cond.code yJ0_coder_7d493 cJ0_coder_7d493 1 (some .byte) :: jx_ws) rm_J0_coder_7d493 (jx_Pc (env) (dyn) (rg) sz σ [.ref (G.2 (1000 + a0))]) (jx_Qi (dyn) σ out (jx_A (rg) sz)) 0 0 (jx_A (rg) sz) := by
  unfold f_J0_coder_7d493 at h
  refine jx_met (by decide) (Nat.le_of_ble_eq_true rfl) ?_
  refine jx_sub (lv' := [(0, .ref (G.2 (1000 + a0)))]) [0] rfl ?_
  refine st_cs (pc := 0) hex fl_J0_38 dJ0_coder_7d493_0 ?_
  refine jx_if_eq (pc := 3) (tgt := 13) dJ0_coder_7d493_3 (by decide) (fun c1 => ?_) (fun c1 => ?_)
  · have h := jx_t c1 h
    refine jx_iconst (pc := 13) (v := (1 : Int32)) (by decide) dJ0_coder_7d493_13 ?_
    have h := Option.some.inj h
    subst h
    exact jx_nret (pc := 14) (by rfl) dJ0_coder_7d493_14
  · have h := jx_f c1 h
    refine jx_aload_n (pc := 6) (k0 := 0) rfl dJ0_coder_7d493_6 ?_
    obtain ⟨g2, h⟩ := jx_gd_o h
    refine st_coder (pc := 7) hex (i := a0) (of_decide_eq_true g2) fl_J0_15 dJ0_coder_7d493_7 ?_
    refine jx_goto (pc := 10) (tgt := 14) dJ0_coder_7d493_10 (by decide) ?_
    have h := Option.some.inj h
    subst h
    exact jx_nret (pc := 14) (by rfl) dJ0_coder_7d493_14
theorem dJ0_isLatin1_aae02_0 : decode cJ0_isLatin1_aae02 0 = .ok (.getstatic 38, 3) := by decide +kernel
theorem dJ0_isLatin1_aae02_3 : decode cJ0_isLatin1_aae02 3 = .ok (.ifCond .eq 14, 3) := by decide +kernel
theorem dJ0_isLatin1_aae02_6 : decode cJ0_isLatin1_aae02 6 = .ok (.aload_n 0, 1) := by decide +kernel
theorem dJ0_isLatin1_aae02_7 : decode cJ0_isLatin1_aae02 7 = .ok (.getfield 15, 3) := by decide +kernel
theorem dJ0_isLatin1_aae02_10 : decode cJ0_isLatin1_aae02 10 = .ok (.ifCond .ne 7, 3) := by decide +kernel
theorem dJ0_isLatin1_aae02_13 : decode cJ0_isLatin1_aae02 13 = .ok (.iconst 1, 1) := by decide +kernel
theorem dJ0_isLatin1_aae02_14 : decode cJ0_isLatin1_aae02 14 = .ok (.goto 4, 3) := by decide +kernel
theorem dJ0_isLatin1_aae02_17 : decode cJ0_isLatin1_aae02 17 = .ok (.iconst 0, 1) := by decide +kernel
theorem dJ0_isLatin1_aae02_18 : decode cJ0_isLatin1_aae02 18 = .ok (.ireturn, 1) := by decide +kernel
abbrev rm_J0_isLatin1_aae02 : Room := { frames := 0, cells := 0, slots := 0, locals := 0 }
abbrev jJ_J0_isLatin1_aae02 (l : Launch) {X : Type} (env : (Nat → Prop) → State → Prop) (dyn : X → Heap → Prop) (rg : Nat → Prop) (G : jx_G) (sz : Nat) (σ0 : X) (out : Int32) (pc : Nat) (lv : List (Nat × Value)) (st : List Value) (σ : X) : Prop := jx_J l (env) (dyn) (rg) sz RJ0 "isLatin1" cJ0_isLatin1_aae02 1 (some .boolean) rm_J0_isLatin1_aae02 (fun below args s => MQ below (jx_Qi (dyn) σ0 out (jx_A (rg) sz)) args s 0 0 (jx_A (rg) sz)) 0 0 pc lv st σ
def f_J0_isLatin1_aae02 (a0 : Nat) : Option Int32 :=
  if (1 : Int32) = 0 then some (0 : Int32) else jx_gd (decide (a0 < 7)) (if (0 : Int32) = 0 then some (1 : Int32) else some (0 : Int32))
set_option maxHeartbeats 4000000 in
set_option maxRecDepth 100000 in
theorem k_J0_isLatin1_aae02 (l : Launch) {X : Type} (env : (Nat → Prop) → State → Prop) (dyn : X → Heap → Prop) (rg : Nat → Prop) (G : jx_G) (hok : jx_ok rg env) (hex : ∀ A s, env A s → jx_ex G A s) (sz : Nat) (σ : X) (a0 : Nat) (out : Int32) (h : f_J0_isLatin1_aae02 a0 = some out) : Met l yJ0_isLatin1_aae02 (Cond.code yJ0_isLatin1_aae02 cJ0_isLatin1_aae02 1 (some .boolean) :: jx_ws) rm_J0_isLatin1_aae02 (jx_Pc (env) (dyn) (rg) sz σ [.ref (G.2 (1000 + a0))]) (jx_Qi (dyn) σ out (jx_A (rg) sz)) 0 0 (jx_A (rg) sz) := by
  unfold f_J0_isLatin1_aae02 at h
  refine jx_met (by decide) (Nat.le_of_ble_eq_true rfl) ?_
  refine jx_sub (lv' := [(0, .ref (G.2 (1000 + a0)))]) [0] rfl ?_
  refine st_cs (pc := 0) hex fl_J0_38 dJ0_isLatin1_aae02_0 ?_
  refine jx_if_eq (pc := 3) (tgt := 17) dJ0_isLatin1_aae02_3 (by decide) (fun c1 => ?_) (fun c1 => ?_)
  · have h := jx_t c1 h
    refine jx_iconst (pc := 17) (v := (0 : Int32)) (by decide) dJ0_isLatin1_aae02_17 ?_
    have h := Option.some.inj h
    subst h
    exact jx_zret (pc := 18) (Or.inl rfl) dJ0_isLatin1_aae02_18
  · have h := jx_f c1 h
    refine jx_aload_n (pc := 6) (k0 := 0) rfl dJ0_isLatin1_aae02_6 ?_
    obtain ⟨g2, h⟩ := jx_gd_o h
    refine st_coder (pc := 7) hex (i := a0) (of_decide_eq_true g2) fl_J0_15 dJ0_isLatin1_aae02_7 ?_
    refine jx_if_ne (pc := 10) (tgt := 17) dJ0_isLatin1_aae02_10 (by decide) (fun c3 => ?_) (fun c3 => ?_)
    · have h := jx_f c3 h
      refine jx_iconst (pc := 17) (v := (0 : Int32)) (by decide) dJ0_isLatin1_aae02_17 ?_
      have h := Option.some.inj h
      subst h
      exact jx_zret (pc := 18) (Or.inl rfl) dJ0_isLatin1_aae02_18
    · have h := jx_t c3 h
      refine jx_iconst (pc := 13) (v := (1 : Int32)) (by decide) dJ0_isLatin1_aae02_13 ?_
      refine jx_goto (pc := 14) (tgt := 18) dJ0_isLatin1_aae02_14 (by decide) ?_
      have h := Option.some.inj h
      subst h
      exact jx_zret (pc := 18) (Or.inr rfl) dJ0_isLatin1_aae02_18
theorem dJ0_length_8abf5_0 : decode cJ0_length_8abf5 0 = .ok (.aload_n 0, 1) := by decide +kernel
theorem dJ0_length_8abf5_1 : decode cJ0_length_8abf5 1 = .ok (.getfield 9, 3) := by decide +kernel
theorem dJ0_length_8abf5_4 : decode cJ0_length_8abf5 4 = .ok (.arraylength, 1) := by decide +kernel
theorem dJ0_length_8abf5_5 : decode cJ0_length_8abf5 5 = .ok (.aload_n 0, 1) := by decide +kernel
theorem dJ0_length_8abf5_6 : decode cJ0_length_8abf5 6 = .ok (.invokevirtual 335, 3) := by decide +kernel
theorem dJ0_length_8abf5_9 : decode cJ0_length_8abf5 9 = .ok (.ishr, 1) := by decide +kernel
theorem dJ0_length_8abf5_10 : decode cJ0_length_8abf5 10 = .ok (.ireturn, 1) := by decide +kernel
abbrev rm_J0_length_8abf5 : Room := { frames := 1, cells := 0, slots := 0, locals := 20 }
abbrev jJ_J0_length_8abf5 (l : Launch) {X : Type} (env : (Nat → Prop) → State → Prop) (dyn : X → Heap → Prop) (rg : Nat → Prop) (G : jx_G) (sz : Nat) (σ0 : X) (out : Int32) (pc : Nat) (lv : List (Nat × Value)) (st : List Value) (σ : X) : Prop := jx_J l (env) (dyn) (rg) sz RJ0 "length" cJ0_length_8abf5 1 (some .int) rm_J0_length_8abf5 (fun below args s => MQ below (jx_Qi (dyn) σ0 out (jx_A (rg) sz)) args s 0 0 (jx_A (rg) sz)) 0 0 pc lv st σ
def f_J0_length_8abf5 (a0 : Nat) : Option Int32 :=
  jx_gd (decide (a0 < 7)) (jx_gd (decide (a0 < 7)) (jx_bd (f_J0_coder_7d493 a0) (fun q3 => jx_gd (decide (a0 < 7)) (some ((Int32.ofNat (st_len a0)) >>> (q3 &&& 31))))))
set_option maxHeartbeats 4000000 in
set_option maxRecDepth 100000 in
theorem k_J0_length_8abf5 (l : Launch) {X : Type} (env : (Nat → Prop) → State → Prop) (dyn : X → Heap → Prop) (rg : Nat → Prop) (G : jx_G) (hok : jx_ok rg env) (hex : ∀ A s, env A s → jx_ex G A s) (sz : Nat) (σ : X) (a0 : Nat) (out : Int32) (h : f_J0_length_8abf5 a0 = some out) : Met l yJ0_length_8abf5 (Cond.code yJ0_length_8abf5 cJ0_length_8abf5 1 (some .int) :: jx_ws) rm_J0_length_8abf5 (jx_Pc (env) (dyn) (rg) sz σ [.ref (G.2 (1000 + a0))]) (jx_Qi (dyn) σ out (jx_A (rg) sz)) 0 0 (jx_A (rg) sz) := by
  unfold f_J0_length_8abf5 at h
  refine jx_met (by decide) (Nat.le_of_ble_eq_true rfl) ?_
  refine jx_sub (lv' := [(0, .ref (G.2 (1000 + a0)))]) [0] rfl ?_
  refine jx_aload_n (pc := 0) (k0 := 0) rfl dJ0_length_8abf5_0 ?_
  obtain ⟨g1, h⟩ := jx_gd_o h
  refine st_value (pc := 1) hex (i := a0) (of_decide_eq_true g1) fl_J0_9 dJ0_length_8abf5_1 ?_
  obtain ⟨g2, h⟩ := jx_gd_o h
  refine st_bn (pc := 4) hex (i := a0) (of_decide_eq_true g2) dJ0_length_8abf5_4 ?_
  refine jx_aload_n (pc := 5) (k0 := 0) rfl dJ0_length_8abf5_5 ?_
  obtain ⟨q3, eq3, h⟩ := jx_bd_o h
  obtain ⟨g4, h⟩ := jx_gd_o h
  refine jx_callVi (pc := 6) [] (fun sz' => k_J0_coder_7d493 l env dyn rg G hok hex sz' σ a0 q3 eq3) kv_J0_335 hok (st_rc hex (i := a0) (of_decide_eq_true g4)) rfl rfl (Nat.le_of_ble_eq_true rfl) ⟨⟨rfl, rfl⟩, ⟨Nat.le_of_ble_eq_true rfl, Nat.le_of_ble_eq_true rfl⟩, Nat.zero_le _, Nat.zero_le _⟩ dJ0_length_8abf5_6 ?_
  refine jx_ishr (pc := 9) dJ0_length_8abf5_9 ?_
  have h := Option.some.inj h
  subst h
  exact jx_iret (pc := 10) dJ0_length_8abf5_10
theorem dJ1_charAt_3b067_0 : decode cJ1_charAt_3b067 0 = .ok (.iload_n 1, 1) := by decide +kernel
theorem dJ1_charAt_3b067_1 : decode cJ1_charAt_3b067 1 = .ok (.aload_n 0, 1) := by decide +kernel
theorem dJ1_charAt_3b067_2 : decode cJ1_charAt_3b067 2 = .ok (.arraylength, 1) := by decide +kernel
theorem dJ1_charAt_3b067_3 : decode cJ1_charAt_3b067 3 = .ok (.invokestatic 9, 3) := by decide +kernel
theorem dJ1_charAt_3b067_6 : decode cJ1_charAt_3b067 6 = .ok (.aload_n 0, 1) := by decide +kernel
theorem dJ1_charAt_3b067_7 : decode cJ1_charAt_3b067 7 = .ok (.iload_n 1, 1) := by decide +kernel
theorem dJ1_charAt_3b067_8 : decode cJ1_charAt_3b067 8 = .ok (.baload, 1) := by decide +kernel
theorem dJ1_charAt_3b067_9 : decode cJ1_charAt_3b067 9 = .ok (.sipush 255, 3) := by decide +kernel
theorem dJ1_charAt_3b067_12 : decode cJ1_charAt_3b067 12 = .ok (.iand, 1) := by decide +kernel
theorem dJ1_charAt_3b067_13 : decode cJ1_charAt_3b067 13 = .ok (.i2c, 1) := by decide +kernel
theorem dJ1_charAt_3b067_14 : decode cJ1_charAt_3b067 14 = .ok (.ireturn, 1) := by decide +kernel
abbrev rm_J1_charAt_3b067 : Room := { frames := 2, cells := 0, slots := 0, locals := 43 }
abbrev jJ_J1_charAt_3b067 (l : Launch) {X : Type} (env : (Nat → Prop) → State → Prop) (dyn : X → Heap → Prop) (rg : Nat → Prop) (G : jx_G) (sz : Nat) (σ0 : X) (out : Int32) (pc : Nat) (lv : List (Nat × Value)) (st : List Value) (σ : X) : Prop := jx_J l (env) (dyn) (rg) sz RJ1 "charAt" cJ1_charAt_3b067 2 (some .char) rm_J1_charAt_3b067 (fun below args s => MQ below (jx_Qi (dyn) σ0 out (jx_A (rg) sz)) args s 0 0 (jx_A (rg) sz)) 0 0 pc lv st σ
def f_J1_charAt_3b067 (a0 : Nat) (a1 : Int32) : Option Int32 :=
  jx_gd (decide (a0 < 7)) (jx_bd (f_J0_checkIndex_df160 a1 (Int32.ofNat (st_len a0))) (fun q2 => jx_gd (decide (a0 < 7)) (jx_gd (jx_in a1 (st_len a0)) (jx_gd (decide (vp_nar .char (((st_b a0 a1.toNatClampNeg) &&& (255 : Int32)).toUInt32 % 65536).toInt32 = (((st_b a0 a1.toNatClampNeg) &&& (255 : Int32)).toUInt32 % 65536).toInt32)) (some (((st_b a0 a1.toNatClampNeg) &&& (255 : Int32)).toUInt32 % 65536).toInt32)))))
set_option maxHeartbeats 4000000 in
set_option maxRecDepth 100000 in
theorem k_J1_charAt_3b067 (l : Launch) {X : Type} (env : (Nat → Prop) → State → Prop) (dyn : X → Heap → Prop) (rg : Nat → Prop) (G : jx_G) (hok : jx_ok rg env) (hex : ∀ A s, env A s → jx_ex G A s) (sz : Nat) (σ : X) (a0 : Nat) (a1 : Int32) (out : Int32) (h : f_J1_charAt_3b067 a0 a1 = some out) : Met l yJ1_charAt_3b067 (Cond.code yJ1_charAt_3b067 cJ1_charAt_3b067 2 (some .char) :: jx_ws) rm_J1_charAt_3b067 (jx_Pc (env) (dyn) (rg) sz σ [.ref (G.2 (1100 + a0)), .int a1]) (jx_Qi (dyn) σ out (jx_A (rg) sz)) 0 0 (jx_A (rg) sz) := by
  unfold f_J1_charAt_3b067 at h
  refine jx_met (by decide) (Nat.le_of_ble_eq_true rfl) ?_
  refine jx_sub (lv' := [(0, .ref (G.2 (1100 + a0))), (1, .int a1)]) [0, 1] rfl ?_
  refine jx_iload_n (pc := 0) (k0 := 1) rfl dJ1_charAt_3b067_0 ?_
  refine jx_aload_n (pc := 1) (k0 := 0) rfl dJ1_charAt_3b067_1 ?_
  obtain ⟨g1, h⟩ := jx_gd_o h
  refine st_bn (pc := 2) hex (i := a0) (of_decide_eq_true g1) dJ1_charAt_3b067_2 ?_
  obtain ⟨q2, eq2, h⟩ := jx_bd_o h
  refine jx_callSv (pc := 3) [.int a1, .int (Int32.ofNat (st_len a0))] (fun sz' => k_J0_checkIndex_df160 l env dyn rg G hok hex sz' σ a1 (Int32.ofNat (st_len a0)) q2 eq2) ks_J1_9 hok rfl rfl (Nat.le_of_ble_eq_true rfl) ⟨⟨rfl, rfl⟩, ⟨Nat.le_of_ble_eq_true rfl, Nat.le_of_ble_eq_true rfl⟩, Nat.zero_le _, Nat.zero_le _⟩ dJ1_charAt_3b067_3 ?_
  refine jx_aload_n (pc := 6) (k0 := 0) rfl dJ1_charAt_3b067_6 ?_
  refine jx_iload_n (pc := 7) (k0 := 1) rfl dJ1_charAt_3b067_7 ?_
  obtain ⟨g3, h⟩ := jx_gd_o h
  obtain ⟨g4, h⟩ := jx_gd_o h
  refine st_bl (pc := 8) hex (i := a0) (of_decide_eq_true g3) (jx_in_o g4) rfl dJ1_charAt_3b067_8 ?_
  refine jx_sipush (pc := 9) (v := (255 : Int32)) (by decide) dJ1_charAt_3b067_9 ?_
  refine jx_iand (pc := 12) dJ1_charAt_3b067_12 ?_
  refine jx_i2c (pc := 13) dJ1_charAt_3b067_13 ?_
  obtain ⟨g5, h⟩ := jx_gd_o h
  have h := Option.some.inj h
  subst h
  exact jx_nret (pc := 14) (jx_narc (of_decide_eq_true g5)) dJ1_charAt_3b067_14
theorem dJ0_charAt_5068e_0 : decode cJ0_charAt_5068e 0 = .ok (.aload_n 0, 1) := by decide +kernel
theorem dJ0_charAt_5068e_1 : decode cJ0_charAt_5068e 1 = .ok (.invokevirtual 492, 3) := by decide +kernel
theorem dJ0_charAt_5068e_4 : decode cJ0_charAt_5068e 4 = .ok (.ifCond .eq 12, 3) := by decide +kernel
theorem dJ0_charAt_5068e_7 : decode cJ0_charAt_5068e 7 = .ok (.aload_n 0, 1) := by decide +kernel
theorem dJ0_charAt_5068e_8 : decode cJ0_charAt_5068e 8 = .ok (.getfield 9, 3) := by decide +kernel
theorem dJ0_charAt_5068e_11 : decode cJ0_charAt_5068e 11 = .ok (.iload_n 1, 1) := by decide +kernel
theorem dJ0_charAt_5068e_12 : decode cJ0_charAt_5068e 12 = .ok (.invokestatic 495, 3) := by decide +kernel
theorem dJ0_charAt_5068e_15 : decode cJ0_charAt_5068e 15 = .ok (.ireturn, 1) := by decide +kernel
theorem dJ0_charAt_5068e_16 : decode cJ0_charAt_5068e 16 = .ok (.aload_n 0, 1) := by decide +kernel
theorem dJ0_charAt_5068e_17 : decode cJ0_charAt_5068e 17 = .ok (.getfield 9, 3) := by decide +kernel
theorem dJ0_charAt_5068e_20 : decode cJ0_charAt_5068e 20 = .ok (.iload_n 1, 1) := by decide +kernel
theorem dJ0_charAt_5068e_21 : decode cJ0_charAt_5068e 21 = .ok (.invokestatic 498, 3) := by decide +kernel
theorem dJ0_charAt_5068e_24 : decode cJ0_charAt_5068e 24 = .ok (.ireturn, 1) := by decide +kernel
abbrev rm_J0_charAt_5068e : Room := { frames := 3, cells := 0, slots := 0, locals := 64 }
abbrev jJ_J0_charAt_5068e (l : Launch) {X : Type} (env : (Nat → Prop) → State → Prop) (dyn : X → Heap → Prop) (rg : Nat → Prop) (G : jx_G) (sz : Nat) (σ0 : X) (out : Int32) (pc : Nat) (lv : List (Nat × Value)) (st : List Value) (σ : X) : Prop := jx_J l (env) (dyn) (rg) sz RJ0 "charAt" cJ0_charAt_5068e 2 (some .char) rm_J0_charAt_5068e (fun below args s => MQ below (jx_Qi (dyn) σ0 out (jx_A (rg) sz)) args s 0 0 (jx_A (rg) sz)) 0 0 pc lv st σ
def f_J0_charAt_5068e (a0 : Nat) (a1 : Int32) : Option Int32 :=
  jx_bd (f_J0_isLatin1_aae02 a0) (fun q1 => jx_gd (decide (a0 < 7)) (if q1 = 0 then jx_gd (decide (a0 < 7)) (none) else jx_gd (decide (a0 < 7)) (jx_bd (f_J1_charAt_3b067 a0 a1) (fun q6 => jx_gd (decide (vp_nar .char q6 = q6)) (some q6)))))
set_option maxHeartbeats 4000000 in
set_option maxRecDepth 100000 in
theorem k_J0_charAt_5068e (l : Launch) {X : Type} (env : (Nat → Prop) → State → Prop) (dyn : X → Heap → Prop) (rg : Nat → Prop) (G : jx_G) (hok : jx_ok rg env) (hex : ∀ A s, env A s → jx_ex G A s) (sz : Nat) (σ : X) (a0 : Nat) (a1 : Int32) (out : Int32) (h : f_J0_charAt_5068e a0 a1 = some out) : Met l yJ0_charAt_5068e (Cond.code yJ0_charAt_5068e cJ0_charAt_5068e 2 (some .char) :: jx_ws) rm_J0_charAt_5068e (jx_Pc (env) (dyn) (rg) sz σ [.ref (G.2 (1000 + a0)), .int a1]) (jx_Qi (dyn) σ out (jx_A (rg) sz)) 0 0 (jx_A (rg) sz) := by
  unfold f_J0_charAt_5068e at h
  refine jx_met (by decide) (Nat.le_of_ble_eq_true rfl) ?_
  refine jx_sub (lv' := [(0, .ref (G.2 (1000 + a0))), (1, .int a1)]) [0, 1] rfl ?_
  refine jx_aload_n (pc := 0) (k0 := 0) rfl dJ0_charAt_5068e_0 ?_
  obtain ⟨q1, eq1, h⟩ := jx_bd_o h
  obtain ⟨g2, h⟩ := jx_gd_o h
  refine jx_callVi (pc := 1) [] (fun sz' => k_J0_isLatin1_aae02 l env dyn rg G hok hex sz' σ a0 q1 eq1) kv_J0_492 hok (st_rc hex (i := a0) (of_decide_eq_true g2)) rfl rfl (Nat.le_of_ble_eq_true rfl) ⟨⟨rfl, rfl⟩, ⟨Nat.le_of_ble_eq_true rfl, Nat.le_of_ble_eq_true rfl⟩, Nat.zero_le _, Nat.zero_le _⟩ dJ0_charAt_5068e_1 ?_
  refine jx_if_eq (pc := 4) (tgt := 16) dJ0_charAt_5068e_4 (by decide) (fun c3 => ?_) (fun c3 => ?_)
  · have h := jx_t c3 h
    refine jx_aload_n (pc := 16) (k0 := 0) rfl dJ0_charAt_5068e_16 ?_
    obtain ⟨g4, h⟩ := jx_gd_o h
    refine st_value (pc := 17) hex (i := a0) (of_decide_eq_true g4) fl_J0_9 dJ0_charAt_5068e_17 ?_
    refine jx_iload_n (pc := 20) (k0 := 1) rfl dJ0_charAt_5068e_20 ?_
    cases h
  · have h := jx_f c3 h
    refine jx_aload_n (pc := 7) (k0 := 0) rfl dJ0_charAt_5068e_7 ?_
    obtain ⟨g5, h⟩ := jx_gd_o h
    refine st_value (pc := 8) hex (i := a0) (of_decide_eq_true g5) fl_J0_9 dJ0_charAt_5068e_8 ?_
    refine jx_iload_n (pc := 11) (k0 := 1) rfl dJ0_charAt_5068e_11 ?_
    obtain ⟨q6, eq6, h⟩ := jx_bd_o h
    refine jx_callSi (pc := 12) [.ref (G.2 (1100 + a0)), .int a1] (fun sz' => k_J1_charAt_3b067 l env dyn rg G hok hex sz' σ a0 a1 q6 eq6) ks_J0_495 hok rfl rfl (Nat.le_of_ble_eq_true rfl) ⟨⟨rfl, rfl⟩, ⟨Nat.le_of_ble_eq_true rfl, Nat.le_of_ble_eq_true rfl⟩, Nat.zero_le _, Nat.zero_le _⟩ dJ0_charAt_5068e_12 ?_
    obtain ⟨g7, h⟩ := jx_gd_o h
    have h := Option.some.inj h
    subst h
    exact jx_nret (pc := 15) (jx_narc (of_decide_eq_true g7)) dJ0_charAt_5068e_15
theorem dJ1_canEncode_9a6ad_0 : decode cJ1_canEncode_9a6ad 0 = .ok (.iload_n 0, 1) := by decide +kernel
theorem dJ1_canEncode_9a6ad_1 : decode cJ1_canEncode_9a6ad 1 = .ok (.ifCond .lt 14, 3) := by decide +kernel
theorem dJ1_canEncode_9a6ad_4 : decode cJ1_canEncode_9a6ad 4 = .ok (.iload_n 0, 1) := by decide +kernel
theorem dJ1_canEncode_9a6ad_5 : decode cJ1_canEncode_9a6ad 5 = .ok (.sipush 255, 3) := by decide +kernel
theorem dJ1_canEncode_9a6ad_8 : decode cJ1_canEncode_9a6ad 8 = .ok (.if_icmp .gt 7, 3) := by decide +kernel
theorem dJ1_canEncode_9a6ad_11 : decode cJ1_canEncode_9a6ad 11 = .ok (.iconst 1, 1) := by decide +kernel
theorem dJ1_canEncode_9a6ad_12 : decode cJ1_canEncode_9a6ad 12 = .ok (.goto 4, 3) := by decide +kernel
theorem dJ1_canEncode_9a6ad_15 : decode cJ1_canEncode_9a6ad 15 = .ok (.iconst 0, 1) := by decide +kernel
theorem dJ1_canEncode_9a6ad_16 : decode cJ1_canEncode_9a6ad 16 = .ok (.ireturn, 1) := by decide +kernel
abbrev rm_J1_canEncode_9a6ad : Room := { frames := 0, cells := 0, slots := 0, locals := 0 }
abbrev jJ_J1_canEncode_9a6ad (l : Launch) {X : Type} (env : (Nat → Prop) → State → Prop) (dyn : X → Heap → Prop) (rg : Nat → Prop) (G : jx_G) (sz : Nat) (σ0 : X) (out : Int32) (pc : Nat) (lv : List (Nat × Value)) (st : List Value) (σ : X) : Prop := jx_J l (env) (dyn) (rg) sz RJ1 "canEncode" cJ1_canEncode_9a6ad 1 (some .boolean) rm_J1_canEncode_9a6ad (fun below args s => MQ below (jx_Qi (dyn) σ0 out (jx_A (rg) sz)) args s 0 0 (jx_A (rg) sz)) 0 0 pc lv st σ
def f_J1_canEncode_9a6ad (a0 : Int32) : Option Int32 :=
  if a0 < 0 then some (0 : Int32) else if (255 : Int32) < a0 then some (0 : Int32) else some (1 : Int32)
set_option maxHeartbeats 4000000 in
set_option maxRecDepth 100000 in
theorem k_J1_canEncode_9a6ad (l : Launch) {X : Type} (env : (Nat → Prop) → State → Prop) (dyn : X → Heap → Prop) (rg : Nat → Prop) (G : jx_G) (hok : jx_ok rg env) (hex : ∀ A s, env A s → jx_ex G A s) (sz : Nat) (σ : X) (a0 : Int32) (out : Int32) (h : f_J1_canEncode_9a6ad a0 = some out) : Met l yJ1_canEncode_9a6ad (Cond.code yJ1_canEncode_9a6ad cJ1_canEncode_9a6ad 1 (some .boolean) :: jx_ws) rm_J1_canEncode_9a6ad (jx_Pc (env) (dyn) (rg) sz σ [.int a0]) (jx_Qi (dyn) σ out (jx_A (rg) sz)) 0 0 (jx_A (rg) sz) := by
  unfold f_J1_canEncode_9a6ad at h
  refine jx_met (by decide) (Nat.le_of_ble_eq_true rfl) ?_
  refine jx_sub (lv' := [(0, .int a0)]) [0] rfl ?_
  refine jx_iload_n (pc := 0) (k0 := 0) rfl dJ1_canEncode_9a6ad_0 ?_
  refine jx_if_lt (pc := 1) (tgt := 15) dJ1_canEncode_9a6ad_1 (by decide) (fun c1 => ?_) (fun c1 => ?_)
  · have h := jx_t c1 h
    refine jx_iconst (pc := 15) (v := (0 : Int32)) (by decide) dJ1_canEncode_9a6ad_15 ?_
    have h := Option.some.inj h
    subst h
    exact jx_zret (pc := 16) (Or.inl rfl) dJ1_canEncode_9a6ad_16
  · have h := jx_f c1 h
    refine jx_iload_n (pc := 4) (k0 := 0) rfl dJ1_canEncode_9a6ad_4 ?_
    refine jx_sipush (pc := 5) (v := (255 : Int32)) (by decide) dJ1_canEncode_9a6ad_5 ?_
    refine jx_icmp_gt (pc := 8) (tgt := 15) dJ1_canEncode_9a6ad_8 (by decide) (fun c2 => ?_) (fun c2 => ?_)
    · have h := jx_t c2 h
      refine jx_iconst (pc := 15) (v := (0 : Int32)) (by decide) dJ1_canEncode_9a6ad_15 ?_
      have h := Option.some.inj h
      subst h
      exact jx_zret (pc := 16) (Or.inl rfl) dJ1_canEncode_9a6ad_16
    · have h := jx_f c2 h
      refine jx_iconst (pc := 11) (v := (1 : Int32)) (by decide) dJ1_canEncode_9a6ad_11 ?_
      refine jx_goto (pc := 12) (tgt := 16) dJ1_canEncode_9a6ad_12 (by decide) ?_
      have h := Option.some.inj h
      subst h
      exact jx_zret (pc := 16) (Or.inr rfl) dJ1_canEncode_9a6ad_16
theorem dJ1_indexOfChar_4cfef_0 : decode cJ1_indexOfChar_4cfef 0 = .ok (.iload_n 1, 1) := by decide +kernel
theorem dJ1_indexOfChar_4cfef_1 : decode cJ1_indexOfChar_4cfef 1 = .ok (.i2b, 1) := by decide +kernel
theorem dJ1_indexOfChar_4cfef_2 : decode cJ1_indexOfChar_4cfef 2 = .ok (.istore 4, 2) := by decide +kernel
theorem dJ1_indexOfChar_4cfef_4 : decode cJ1_indexOfChar_4cfef 4 = .ok (.iload_n 2, 1) := by decide +kernel
theorem dJ1_indexOfChar_4cfef_5 : decode cJ1_indexOfChar_4cfef 5 = .ok (.istore 5, 2) := by decide +kernel
theorem dJ1_indexOfChar_4cfef_7 : decode cJ1_indexOfChar_4cfef 7 = .ok (.iload 5, 2) := by decide +kernel
theorem dJ1_indexOfChar_4cfef_9 : decode cJ1_indexOfChar_4cfef 9 = .ok (.iload_n 3, 1) := by decide +kernel
theorem dJ1_indexOfChar_4cfef_10 : decode cJ1_indexOfChar_4cfef 10 = .ok (.if_icmp .ge 21, 3) := by decide +kernel
theorem dJ1_indexOfChar_4cfef_13 : decode cJ1_indexOfChar_4cfef 13 = .ok (.aload_n 0, 1) := by decide +kernel
theorem dJ1_indexOfChar_4cfef_14 : decode cJ1_indexOfChar_4cfef 14 = .ok (.iload 5, 2) := by decide +kernel
theorem dJ1_indexOfChar_4cfef_16 : decode cJ1_indexOfChar_4cfef 16 = .ok (.baload, 1) := by decide +kernel
theorem dJ1_indexOfChar_4cfef_17 : decode cJ1_indexOfChar_4cfef 17 = .ok (.iload 4, 2) := by decide +kernel
theorem dJ1_indexOfChar_4cfef_19 : decode cJ1_indexOfChar_4cfef 19 = .ok (.if_icmp .ne 6, 3) := by decide +kernel
theorem dJ1_indexOfChar_4cfef_22 : decode cJ1_indexOfChar_4cfef 22 = .ok (.iload 5, 2) := by decide +kernel
theorem dJ1_indexOfChar_4cfef_24 : decode cJ1_indexOfChar_4cfef 24 = .ok (.ireturn, 1) := by decide +kernel
theorem dJ1_indexOfChar_4cfef_25 : decode cJ1_indexOfChar_4cfef 25 = .ok (.iinc 5 1, 3) := by decide +kernel
theorem dJ1_indexOfChar_4cfef_28 : decode cJ1_indexOfChar_4cfef 28 = .ok (.goto (-21), 3) := by decide +kernel
theorem dJ1_indexOfChar_4cfef_31 : decode cJ1_indexOfChar_4cfef 31 = .ok (.iconst (-1), 1) := by decide +kernel
theorem dJ1_indexOfChar_4cfef_32 : decode cJ1_indexOfChar_4cfef 32 = .ok (.ireturn, 1) := by decide +kernel
abbrev rm_J1_indexOfChar_4cfef : Room := { frames := 0, cells := 0, slots := 0, locals := 0 }
abbrev jJ_J1_indexOfChar_4cfef (l : Launch) {X : Type} (env : (Nat → Prop) → State → Prop) (dyn : X → Heap → Prop) (rg : Nat → Prop) (G : jx_G) (sz : Nat) (σ0 : X) (out : Int32) (pc : Nat) (lv : List (Nat × Value)) (st : List Value) (σ : X) : Prop := jx_J l (env) (dyn) (rg) sz RJ1 "indexOfChar" cJ1_indexOfChar_4cfef 6 (some .int) rm_J1_indexOfChar_4cfef (fun below args s => MQ below (jx_Qi (dyn) σ0 out (jx_A (rg) sz)) args s 0 0 (jx_A (rg) sz)) 0 0 pc lv st σ
def g_J1_indexOfChar_4cfef_7 (k7 : Nat → Int32 → Int32 → Int32 → Option Int32) (v0 : Nat) (v3 : Int32) (v4 : Int32) (v5 : Int32) : Option Int32 :=
  if v3 ≤ v5 then some (-1 : Int32) else jx_gd (decide (v0 < 7)) (jx_gd (jx_in v5 (st_len v0)) (if (st_b v0 v5.toNatClampNeg) = v4 then some v5 else jx_lt (v5 + (1 : Int32)) (fun x5 => (k7 v0 v3 v4 x5))))
set_option maxHeartbeats 4000000 in
set_option maxRecDepth 100000 in
theorem jg_J1_indexOfChar_4cfef_7 (l : Launch) {X : Type} (env : (Nat → Prop) → State → Prop) (dyn : X → Heap → Prop) (rg : Nat → Prop) (G : jx_G) (hok : jx_ok rg env) (hex : ∀ A s, env A s → jx_ex G A s) (sz : Nat) (σ0 : X) (out : Int32) (k7 : Nat → Int32 → Int32 → Int32 → Option Int32) (h7 : ∀ (σ : X) (v0 : Nat) (v3 : Int32) (v4 : Int32) (v5 : Int32), σ = σ0 → k7 v0 v3 v4 v5 = some out → jJ_J1_indexOfChar_4cfef l env dyn rg G sz σ0 out 7 [(0, .ref (G.2 (1100 + v0))), (3, .int v3), (4, .int v4), (5, .int v5)] [] σ) (σ : X) (v0 : Nat) (v3 : Int32) (v4 : Int32) (v5 : Int32) (e0 : σ = σ0) (h : g_J1_indexOfChar_4cfef_7 k7 v0 v3 v4 v5 = some out) : jJ_J1_indexOfChar_4cfef l env dyn rg G sz σ0 out 7 [(0, .ref (G.2 (1100 + v0))), (3, .int v3), (4, .int v4), (5, .int v5)] [] σ := by
  unfold g_J1_indexOfChar_4cfef_7 at h
  refine jx_iload (pc := 7) (i := 5) rfl dJ1_indexOfChar_4cfef_7 ?_
  refine jx_iload_n (pc := 9) (k0 := 3) rfl dJ1_indexOfChar_4cfef_9 ?_
  refine jx_icmp_ge (pc := 10) (tgt := 31) dJ1_indexOfChar_4cfef_10 (by decide) (fun c1 => ?_) (fun c1 => ?_)
  · have h := jx_t c1 h
    refine jx_iconst (pc := 31) (v := (-1 : Int32)) (by decide) dJ1_indexOfChar_4cfef_31 ?_
    subst e0
    have h := Option.some.inj h
    subst h
    exact jx_iret (pc := 32) dJ1_indexOfChar_4cfef_32
  · have h := jx_f c1 h
    refine jx_aload_n (pc := 13) (k0 := 0) rfl dJ1_indexOfChar_4cfef_13 ?_
    refine jx_iload (pc := 14) (i := 5) rfl dJ1_indexOfChar_4cfef_14 ?_
    obtain ⟨g2, h⟩ := jx_gd_o h
    obtain ⟨g3, h⟩ := jx_gd_o h
    refine st_bl (pc := 16) hex (i := v0) (of_decide_eq_true g2) (jx_in_o g3) rfl dJ1_indexOfChar_4cfef_16 ?_
    refine jx_iload (pc := 17) (i := 4) rfl dJ1_indexOfChar_4cfef_17 ?_
    refine jx_icmp_ne (pc := 19) (tgt := 25) dJ1_indexOfChar_4cfef_19 (by decide) (fun c4 => ?_) (fun c4 => ?_)
    · have h := jx_f c4 h
      obtain ⟨x5, ex5, h⟩ := jx_lt_o h
      refine jx_iinc (pc := 25) (i := 5) (v := v5) rfl ex5 (n := 1) (by decide) (by decide) (lv' := [(5, .int x5), (0, .ref (G.2 (1100 + v0))), (3, .int v3), (4, .int v4)]) rfl dJ1_indexOfChar_4cfef_25 ?_
      refine jx_goto (pc := 28) (tgt := 7) dJ1_indexOfChar_4cfef_28 (by decide) ?_
      exact jx_sub [1, 2, 3, 0] rfl (h7 σ v0 v3 v4 x5 e0 h)
    · have h := jx_t c4 h
      refine jx_iload (pc := 22) (i := 5) rfl dJ1_indexOfChar_4cfef_22 ?_
      subst e0
      have h := Option.some.inj h
      subst h
      exact jx_iret (pc := 24) dJ1_indexOfChar_4cfef_24
def b_J1_indexOfChar_4cfef_7  : Nat → Nat → Int32 → Int32 → Int32 → Option Int32
  | 0, _, _, _, _ => none
  | n + 1, v0, v3, v4, v5 => g_J1_indexOfChar_4cfef_7 (b_J1_indexOfChar_4cfef_7 n) v0 v3 v4 v5
theorem jb_J1_indexOfChar_4cfef_7 (l : Launch) {X : Type} (env : (Nat → Prop) → State → Prop) (dyn : X → Heap → Prop) (rg : Nat → Prop) (G : jx_G) (hok : jx_ok rg env) (hex : ∀ A s, env A s → jx_ex G A s) (sz : Nat) (σ0 : X) (out : Int32)  : ∀ (n : Nat) (σ : X) (v0 : Nat) (v3 : Int32) (v4 : Int32) (v5 : Int32), σ = σ0 → b_J1_indexOfChar_4cfef_7 n v0 v3 v4 v5 = some out → jJ_J1_indexOfChar_4cfef l env dyn rg G sz σ0 out 7 [(0, .ref (G.2 (1100 + v0))), (3, .int v3), (4, .int v4), (5, .int v5)] [] σ := by
  intro n
  induction n with
  | zero =>
    intro σ v0 v3 v4 v5 e0 h
    cases h
  | succ n ih =>
    intro σ v0 v3 v4 v5 e0 h
    exact jg_J1_indexOfChar_4cfef_7 l env dyn rg G hok hex sz σ0 out (b_J1_indexOfChar_4cfef_7 n) ih σ v0 v3 v4 v5 e0 h
def f_J1_indexOfChar_4cfef (a0 : Nat) (a1 : Int32) (a2 : Int32) (a3 : Int32) : Option Int32 :=
  (b_J1_indexOfChar_4cfef_7 jx_fuel a0 a3 a1.toInt8.toInt32 a2)
set_option maxHeartbeats 4000000 in
set_option maxRecDepth 100000 in
theorem k_J1_indexOfChar_4cfef (l : Launch) {X : Type} (env : (Nat → Prop) → State → Prop) (dyn : X → Heap → Prop) (rg : Nat → Prop) (G : jx_G) (hok : jx_ok rg env) (hex : ∀ A s, env A s → jx_ex G A s) (sz : Nat) (σ : X) (a0 : Nat) (a1 : Int32) (a2 : Int32) (a3 : Int32) (out : Int32) (h : f_J1_indexOfChar_4cfef a0 a1 a2 a3 = some out) : Met l yJ1_indexOfChar_4cfef (Cond.code yJ1_indexOfChar_4cfef cJ1_indexOfChar_4cfef 6 (some .int) :: jx_ws) rm_J1_indexOfChar_4cfef (jx_Pc (env) (dyn) (rg) sz σ [.ref (G.2 (1100 + a0)), .int a1, .int a2, .int a3]) (jx_Qi (dyn) σ out (jx_A (rg) sz)) 0 0 (jx_A (rg) sz) := by
  unfold f_J1_indexOfChar_4cfef at h
  refine jx_met (by decide) (Nat.le_of_ble_eq_true rfl) ?_
  refine jx_sub (lv' := [(0, .ref (G.2 (1100 + a0))), (1, .int a1), (2, .int a2), (3, .int a3)]) [0, 1, 2, 3] rfl ?_
  refine jx_iload_n (pc := 0) (k0 := 1) rfl dJ1_indexOfChar_4cfef_0 ?_
  refine jx_i2b (pc := 1) dJ1_indexOfChar_4cfef_1 ?_
  refine jx_istore (pc := 2) (i := 4) rfl (by decide) (lv' := [(4, .int a1.toInt8.toInt32), (0, .ref (G.2 (1100 + a0))), (1, .int a1), (2, .int a2), (3, .int a3)]) rfl dJ1_indexOfChar_4cfef_2 ?_
  refine jx_iload_n (pc := 4) (k0 := 2) rfl dJ1_indexOfChar_4cfef_4 ?_
  refine jx_istore (pc := 5) (i := 5) rfl (by decide) (lv' := [(5, .int a2), (4, .int a1.toInt8.toInt32), (0, .ref (G.2 (1100 + a0))), (1, .int a1), (2, .int a2), (3, .int a3)]) rfl dJ1_indexOfChar_4cfef_5 ?_
  exact jx_sub [2, 5, 1, 0] rfl (jb_J1_indexOfChar_4cfef_7 l env dyn rg G hok hex sz σ out jx_fuel σ a0 a3 a1.toInt8.toInt32 a2 rfl h)
theorem dJ1_indexOf_4cfef_0 : decode cJ1_indexOf_4cfef 0 = .ok (.iload_n 1, 1) := by decide +kernel
theorem dJ1_indexOf_4cfef_1 : decode cJ1_indexOf_4cfef 1 = .ok (.invokestatic 88, 3) := by decide +kernel
theorem dJ1_indexOf_4cfef_4 : decode cJ1_indexOf_4cfef 4 = .ok (.ifCond .ne 5, 3) := by decide +kernel
theorem dJ1_indexOf_4cfef_7 : decode cJ1_indexOf_4cfef 7 = .ok (.iconst (-1), 1) := by decide +kernel
theorem dJ1_indexOf_4cfef_8 : decode cJ1_indexOf_4cfef 8 = .ok (.ireturn, 1) := by decide +kernel
theorem dJ1_indexOf_4cfef_9 : decode cJ1_indexOf_4cfef 9 = .ok (.iload_n 2, 1) := by decide +kernel
theorem dJ1_indexOf_4cfef_10 : decode cJ1_indexOf_4cfef 10 = .ok (.iconst 0, 1) := by decide +kernel
theorem dJ1_indexOf_4cfef_11 : decode cJ1_indexOf_4cfef 11 = .ok (.invokestatic 92, 3) := by decide +kernel
theorem dJ1_indexOf_4cfef_14 : decode cJ1_indexOf_4cfef 14 = .ok (.istore_n 2, 1) := by decide +kernel
theorem dJ1_indexOf_4cfef_15 : decode cJ1_indexOf_4cfef 15 = .ok (.iload_n 3, 1) := by decide +kernel
theorem dJ1_indexOf_4cfef_16 : decode cJ1_indexOf_4cfef 16 = .ok (.aload_n 0, 1) := by decide +kernel
theorem dJ1_indexOf_4cfef_17 : decode cJ1_indexOf_4cfef 17 = .ok (.arraylength, 1) := by decide +kernel
theorem dJ1_indexOf_4cfef_18 : decode cJ1_indexOf_4cfef 18 = .ok (.invokestatic 38, 3) := by decide +kernel
theorem dJ1_indexOf_4cfef_21 : decode cJ1_indexOf_4cfef 21 = .ok (.istore_n 3, 1) := by decide +kernel
theorem dJ1_indexOf_4cfef_22 : decode cJ1_indexOf_4cfef 22 = .ok (.iload_n 2, 1) := by decide +kernel
theorem dJ1_indexOf_4cfef_23 : decode cJ1_indexOf_4cfef 23 = .ok (.iload_n 3, 1) := by decide +kernel
theorem dJ1_indexOf_4cfef_24 : decode cJ1_indexOf_4cfef 24 = .ok (.if_icmp .lt 5, 3) := by decide +kernel
theorem dJ1_indexOf_4cfef_27 : decode cJ1_indexOf_4cfef 27 = .ok (.iconst (-1), 1) := by decide +kernel
theorem dJ1_indexOf_4cfef_28 : decode cJ1_indexOf_4cfef 28 = .ok (.ireturn, 1) := by decide +kernel
theorem dJ1_indexOf_4cfef_29 : decode cJ1_indexOf_4cfef 29 = .ok (.aload_n 0, 1) := by decide +kernel
theorem dJ1_indexOf_4cfef_30 : decode cJ1_indexOf_4cfef 30 = .ok (.iload_n 1, 1) := by decide +kernel
theorem dJ1_indexOf_4cfef_31 : decode cJ1_indexOf_4cfef 31 = .ok (.iload_n 2, 1) := by decide +kernel
theorem dJ1_indexOf_4cfef_32 : decode cJ1_indexOf_4cfef 32 = .ok (.iload_n 3, 1) := by decide +kernel
theorem dJ1_indexOf_4cfef_33 : decode cJ1_indexOf_4cfef 33 = .ok (.invokestatic 95, 3) := by decide +kernel
theorem dJ1_indexOf_4cfef_36 : decode cJ1_indexOf_4cfef 36 = .ok (.ireturn, 1) := by decide +kernel
abbrev rm_J1_indexOf_4cfef : Room := { frames := 1, cells := 0, slots := 0, locals := 25 }
abbrev jJ_J1_indexOf_4cfef (l : Launch) {X : Type} (env : (Nat → Prop) → State → Prop) (dyn : X → Heap → Prop) (rg : Nat → Prop) (G : jx_G) (sz : Nat) (σ0 : X) (out : Int32) (pc : Nat) (lv : List (Nat × Value)) (st : List Value) (σ : X) : Prop := jx_J l (env) (dyn) (rg) sz RJ1 "indexOf" cJ1_indexOf_4cfef 4 (some .int) rm_J1_indexOf_4cfef (fun below args s => MQ below (jx_Qi (dyn) σ0 out (jx_A (rg) sz)) args s 0 0 (jx_A (rg) sz)) 0 0 pc lv st σ
def f_J1_indexOf_4cfef (a0 : Nat) (a1 : Int32) (a2 : Int32) (a3 : Int32) : Option Int32 :=
  jx_bd (f_J1_canEncode_9a6ad a1) (fun q1 => if q1 = 0 then some (-1 : Int32) else jx_lt ((if a2 < (0 : Int32) then (0 : Int32) else a2)) (fun x3 => jx_gd (decide (a0 < 7)) (jx_lt ((if (Int32.ofNat (st_len a0)) < a3 then (Int32.ofNat (st_len a0)) else a3)) (fun x5 => if x3 < x5 then jx_bd (f_J1_indexOfChar_4cfef a0 a1 x3 x5) (fun q7 => some q7) else some (-1 : Int32)))))
set_option maxHeartbeats 4000000 in
set_option maxRecDepth 100000 in
theorem k_J1_indexOf_4cfef (l : Launch) {X : Type} (env : (Nat → Prop) → State → Prop) (dyn : X → Heap → Prop) (rg : Nat → Prop) (G : jx_G) (hok : jx_ok rg env) (hex : ∀ A s, env A s → jx_ex G A s) (sz : Nat) (σ : X) (a0 : Nat) (a1 : Int32) (a2 : Int32) (a3 : Int32) (out : Int32) (h : f_J1_indexOf_4cfef a0 a1 a2 a3 = some out) : Met l yJ1_indexOf_4cfef (Cond.code yJ1_indexOf_4cfef cJ1_indexOf_4cfef 4 (some .int) :: jx_ws) rm_J1_indexOf_4cfef (jx_Pc (env) (dyn) (rg) sz σ [.ref (G.2 (1100 + a0)), .int a1, .int a2, .int a3]) (jx_Qi (dyn) σ out (jx_A (rg) sz)) 0 0 (jx_A (rg) sz) := by
  unfold f_J1_indexOf_4cfef at h
  refine jx_met (by decide) (Nat.le_of_ble_eq_true rfl) ?_
  refine jx_sub (lv' := [(0, .ref (G.2 (1100 + a0))), (1, .int a1), (2, .int a2), (3, .int a3)]) [0, 1, 2, 3] rfl ?_
  refine jx_iload_n (pc := 0) (k0 := 1) rfl dJ1_indexOf_4cfef_0 ?_
  obtain ⟨q1, eq1, h⟩ := jx_bd_o h
  refine jx_callSi (pc := 1) [.int a1] (fun sz' => k_J1_canEncode_9a6ad l env dyn rg G hok hex sz' σ a1 q1 eq1) ks_J1_88 hok rfl rfl (Nat.le_of_ble_eq_true rfl) ⟨⟨rfl, rfl⟩, ⟨Nat.le_of_ble_eq_true rfl, Nat.le_of_ble_eq_true rfl⟩, Nat.zero_le _, Nat.zero_le _⟩ dJ1_indexOf_4cfef_1 ?_
  refine jx_if_ne (pc := 4) (tgt := 9) dJ1_indexOf_4cfef_4 (by decide) (fun c2 => ?_) (fun c2 => ?_)
  · have h := jx_f c2 h
    refine jx_iload_n (pc := 9) (k0 := 2) rfl dJ1_indexOf_4cfef_9 ?_
    refine jx_iconst (pc := 10) (v := (0 : Int32)) (by decide) dJ1_indexOf_4cfef_10 ?_
    refine jx_mmax (pc := 11) km_J1_92.1 km_J1_92.2.1 km_J1_92.2.2.1 km_J1_92.2.2.2 (Nat.le_of_ble_eq_true rfl) (Nat.le_of_ble_eq_true rfl) (Nat.zero_le _) (Nat.zero_le _) dJ1_indexOf_4cfef_11 ?_
    obtain ⟨x3, ex3, h⟩ := jx_lt_o h
    refine jx_istore_n (pc := 14) (i := 2) rfl ex3 (by decide) (lv' := [(2, .int x3), (0, .ref (G.2 (1100 + a0))), (1, .int a1), (3, .int a3)]) rfl dJ1_indexOf_4cfef_14 ?_
    refine jx_iload_n (pc := 15) (k0 := 3) rfl dJ1_indexOf_4cfef_15 ?_
    refine jx_aload_n (pc := 16) (k0 := 0) rfl dJ1_indexOf_4cfef_16 ?_
    obtain ⟨g4, h⟩ := jx_gd_o h
    refine st_bn (pc := 17) hex (i := a0) (of_decide_eq_true g4) dJ1_indexOf_4cfef_17 ?_
    refine jx_mmin (pc := 18) km_J1_38.1 km_J1_38.2.1 km_J1_38.2.2.1 km_J1_38.2.2.2 (Nat.le_of_ble_eq_true rfl) (Nat.le_of_ble_eq_true rfl) (Nat.zero_le _) (Nat.zero_le _) dJ1_indexOf_4cfef_18 ?_
    obtain ⟨x5, ex5, h⟩ := jx_lt_o h
    refine jx_istore_n (pc := 21) (i := 3) rfl ex5 (by decide) (lv' := [(3, .int x5), (2, .int x3), (0, .ref (G.2 (1100 + a0))), (1, .int a1)]) rfl dJ1_indexOf_4cfef_21 ?_
    refine jx_iload_n (pc := 22) (k0 := 2) rfl dJ1_indexOf_4cfef_22 ?_
    refine jx_iload_n (pc := 23) (k0 := 3) rfl dJ1_indexOf_4cfef_23 ?_
    refine jx_icmp_lt (pc := 24) (tgt := 29) dJ1_indexOf_4cfef_24 (by decide) (fun c6 => ?_) (fun c6 => ?_)
    · have h := jx_t c6 h
      refine jx_aload_n (pc := 29) (k0 := 0) rfl dJ1_indexOf_4cfef_29 ?_
      refine jx_iload_n (pc := 30) (k0 := 1) rfl dJ1_indexOf_4cfef_30 ?_
      refine jx_iload_n (pc := 31) (k0 := 2) rfl dJ1_indexOf_4cfef_31 ?_
      refine jx_iload_n (pc := 32) (k0 := 3) rfl dJ1_indexOf_4cfef_32 ?_
      obtain ⟨q7, eq7, h⟩ := jx_bd_o h
      refine jx_callSi (pc := 33) [.ref (G.2 (1100 + a0)), .int a1, .int x3, .int x5] (fun sz' => k_J1_indexOfChar_4cfef l env dyn rg G hok hex sz' σ a0 a1 x3 x5 q7 eq7) ks_J1_95 hok rfl rfl (Nat.le_of_ble_eq_true rfl) ⟨⟨rfl, rfl⟩, ⟨Nat.le_of_ble_eq_true rfl, Nat.le_of_ble_eq_true rfl⟩, Nat.zero_le _, Nat.zero_le _⟩ dJ1_indexOf_4cfef_33 ?_
      have h := Option.some.inj h
      subst h
      exact jx_iret (pc := 36) dJ1_indexOf_4cfef_36
    · have h := jx_f c6 h
      refine jx_iconst (pc := 27) (v := (-1 : Int32)) (by decide) dJ1_indexOf_4cfef_27 ?_
      have h := Option.some.inj h
      subst h
      exact jx_iret (pc := 28) dJ1_indexOf_4cfef_28
  · have h := jx_t c2 h
    refine jx_iconst (pc := 7) (v := (-1 : Int32)) (by decide) dJ1_indexOf_4cfef_7 ?_
    have h := Option.some.inj h
    subst h
    exact jx_iret (pc := 8) dJ1_indexOf_4cfef_8
theorem dJ0_indexOf_7cf53_0 : decode cJ0_indexOf_7cf53 0 = .ok (.aload_n 0, 1) := by decide +kernel
theorem dJ0_indexOf_7cf53_1 : decode cJ0_indexOf_7cf53 1 = .ok (.invokevirtual 492, 3) := by decide +kernel
theorem dJ0_indexOf_7cf53_4 : decode cJ0_indexOf_7cf53 4 = .ok (.ifCond .eq 19, 3) := by decide +kernel
theorem dJ0_indexOf_7cf53_7 : decode cJ0_indexOf_7cf53 7 = .ok (.aload_n 0, 1) := by decide +kernel
theorem dJ0_indexOf_7cf53_8 : decode cJ0_indexOf_7cf53 8 = .ok (.getfield 9, 3) := by decide +kernel
theorem dJ0_indexOf_7cf53_11 : decode cJ0_indexOf_7cf53 11 = .ok (.iload_n 1, 1) := by decide +kernel
theorem dJ0_indexOf_7cf53_12 : decode cJ0_indexOf_7cf53 12 = .ok (.iload_n 2, 1) := by decide +kernel
theorem dJ0_indexOf_7cf53_13 : decode cJ0_indexOf_7cf53 13 = .ok (.aload_n 0, 1) := by decide +kernel
theorem dJ0_indexOf_7cf53_14 : decode cJ0_indexOf_7cf53 14 = .ok (.invokevirtual 505, 3) := by decide +kernel
theorem dJ0_indexOf_7cf53_17 : decode cJ0_indexOf_7cf53 17 = .ok (.invokestatic 637, 3) := by decide +kernel
theorem dJ0_indexOf_7cf53_20 : decode cJ0_indexOf_7cf53 20 = .ok (.goto 16, 3) := by decide +kernel
theorem dJ0_indexOf_7cf53_23 : decode cJ0_indexOf_7cf53 23 = .ok (.aload_n 0, 1) := by decide +kernel
theorem dJ0_indexOf_7cf53_24 : decode cJ0_indexOf_7cf53 24 = .ok (.getfield 9, 3) := by decide +kernel
theorem dJ0_indexOf_7cf53_27 : decode cJ0_indexOf_7cf53 27 = .ok (.iload_n 1, 1) := by decide +kernel
theorem dJ0_indexOf_7cf53_28 : decode cJ0_indexOf_7cf53 28 = .ok (.iload_n 2, 1) := by decide +kernel
theorem dJ0_indexOf_7cf53_29 : decode cJ0_indexOf_7cf53 29 = .ok (.aload_n 0, 1) := by decide +kernel
theorem dJ0_indexOf_7cf53_30 : decode cJ0_indexOf_7cf53 30 = .ok (.invokevirtual 505, 3) := by decide +kernel
theorem dJ0_indexOf_7cf53_33 : decode cJ0_indexOf_7cf53 33 = .ok (.invokestatic 640, 3) := by decide +kernel
theorem dJ0_indexOf_7cf53_36 : decode cJ0_indexOf_7cf53 36 = .ok (.ireturn, 1) := by decide +kernel
abbrev rm_J0_indexOf_7cf53 : Room := { frames := 2, cells := 0, slots := 0, locals := 48 }
abbrev jJ_J0_indexOf_7cf53 (l : Launch) {X : Type} (env : (Nat → Prop) → State → Prop) (dyn : X → Heap → Prop) (rg : Nat → Prop) (G : jx_G) (sz : Nat) (σ0 : X) (out : Int32) (pc : Nat) (lv : List (Nat × Value)) (st : List Value) (σ : X) : Prop := jx_J l (env) (dyn) (rg) sz RJ0 "indexOf" cJ0_indexOf_7cf53 3 (some .int) rm_J0_indexOf_7cf53 (fun below args s => MQ below (jx_Qi (dyn) σ0 out (jx_A (rg) sz)) args s 0 0 (jx_A (rg) sz)) 0 0 pc lv st σ
def f_J0_indexOf_7cf53 (a0 : Nat) (a1 : Int32) (a2 : Int32) : Option Int32 :=
  jx_bd (f_J0_isLatin1_aae02 a0) (fun q1 => jx_gd (decide (a0 < 7)) (if q1 = 0 then jx_gd (decide (a0 < 7)) (jx_bd (f_J0_length_8abf5 a0) (fun q5 => jx_gd (decide (a0 < 7)) (none))) else jx_gd (decide (a0 < 7)) (jx_bd (f_J0_length_8abf5 a0) (fun q8 => jx_gd (decide (a0 < 7)) (jx_bd (f_J1_indexOf_4cfef a0 a1 a2 q8) (fun q10 => some q10))))))
set_option maxHeartbeats 4000000 in
set_option maxRecDepth 100000 in
theorem k_J0_indexOf_7cf53 (l : Launch) {X : Type} (env : (Nat → Prop) → State → Prop) (dyn : X → Heap → Prop) (rg : Nat → Prop) (G : jx_G) (hok : jx_ok rg env) (hex : ∀ A s, env A s → jx_ex G A s) (sz : Nat) (σ : X) (a0 : Nat) (a1 : Int32) (a2 : Int32) (out : Int32) (h : f_J0_indexOf_7cf53 a0 a1 a2 = some out) : Met l yJ0_indexOf_7cf53 (Cond.code yJ0_indexOf_7cf53 cJ0_indexOf_7cf53 3 (some .int) :: jx_ws) rm_J0_indexOf_7cf53 (jx_Pc (env) (dyn) (rg) sz σ [.ref (G.2 (1000 + a0)), .int a1, .int a2]) (jx_Qi (dyn) σ out (jx_A (rg) sz)) 0 0 (jx_A (rg) sz) := by
  unfold f_J0_indexOf_7cf53 at h
  refine jx_met (by decide) (Nat.le_of_ble_eq_true rfl) ?_
  refine jx_sub (lv' := [(0, .ref (G.2 (1000 + a0))), (1, .int a1), (2, .int a2)]) [0, 1, 2] rfl ?_
  refine jx_aload_n (pc := 0) (k0 := 0) rfl dJ0_indexOf_7cf53_0 ?_
  obtain ⟨q1, eq1, h⟩ := jx_bd_o h
  obtain ⟨g2, h⟩ := jx_gd_o h
  refine jx_callVi (pc := 1) [] (fun sz' => k_J0_isLatin1_aae02 l env dyn rg G hok hex sz' σ a0 q1 eq1) kv_J0_492 hok (st_rc hex (i := a0) (of_decide_eq_true g2)) rfl rfl (Nat.le_of_ble_eq_true rfl) ⟨⟨rfl, rfl⟩, ⟨Nat.le_of_ble_eq_true rfl, Nat.le_of_ble_eq_true rfl⟩, Nat.zero_le _, Nat.zero_le _⟩ dJ0_indexOf_7cf53_1 ?_
  refine jx_if_eq (pc := 4) (tgt := 23) dJ0_indexOf_7cf53_4 (by decide) (fun c3 => ?_) (fun c3 => ?_)
  · have h := jx_t c3 h
    refine jx_aload_n (pc := 23) (k0 := 0) rfl dJ0_indexOf_7cf53_23 ?_
    obtain ⟨g4, h⟩ := jx_gd_o h
    refine st_value (pc := 24) hex (i := a0) (of_decide_eq_true g4) fl_J0_9 dJ0_indexOf_7cf53_24 ?_
    refine jx_iload_n (pc := 27) (k0 := 1) rfl dJ0_indexOf_7cf53_27 ?_
    refine jx_iload_n (pc := 28) (k0 := 2) rfl dJ0_indexOf_7cf53_28 ?_
    refine jx_aload_n (pc := 29) (k0 := 0) rfl dJ0_indexOf_7cf53_29 ?_
    obtain ⟨q5, eq5, h⟩ := jx_bd_o h
    obtain ⟨g6, h⟩ := jx_gd_o h
    refine jx_callVi (pc := 30) [] (fun sz' => k_J0_length_8abf5 l env dyn rg G hok hex sz' σ a0 q5 eq5) kv_J0_505 hok (st_rc hex (i := a0) (of_decide_eq_true g6)) rfl rfl (Nat.le_of_ble_eq_true rfl) ⟨⟨rfl, rfl⟩, ⟨Nat.le_of_ble_eq_true rfl, Nat.le_of_ble_eq_true rfl⟩, Nat.zero_le _, Nat.zero_le _⟩ dJ0_indexOf_7cf53_30 ?_
    cases h
  · have h := jx_f c3 h
    refine jx_aload_n (pc := 7) (k0 := 0) rfl dJ0_indexOf_7cf53_7 ?_
    obtain ⟨g7, h⟩ := jx_gd_o h
    refine st_value (pc := 8) hex (i := a0) (of_decide_eq_true g7) fl_J0_9 dJ0_indexOf_7cf53_8 ?_
    refine jx_iload_n (pc := 11) (k0 := 1) rfl dJ0_indexOf_7cf53_11 ?_
    refine jx_iload_n (pc := 12) (k0 := 2) rfl dJ0_indexOf_7cf53_12 ?_
    refine jx_aload_n (pc := 13) (k0 := 0) rfl dJ0_indexOf_7cf53_13 ?_
    obtain ⟨q8, eq8, h⟩ := jx_bd_o h
    obtain ⟨g9, h⟩ := jx_gd_o h
    refine jx_callVi (pc := 14) [] (fun sz' => k_J0_length_8abf5 l env dyn rg G hok hex sz' σ a0 q8 eq8) kv_J0_505 hok (st_rc hex (i := a0) (of_decide_eq_true g9)) rfl rfl (Nat.le_of_ble_eq_true rfl) ⟨⟨rfl, rfl⟩, ⟨Nat.le_of_ble_eq_true rfl, Nat.le_of_ble_eq_true rfl⟩, Nat.zero_le _, Nat.zero_le _⟩ dJ0_indexOf_7cf53_14 ?_
    obtain ⟨q10, eq10, h⟩ := jx_bd_o h
    refine jx_callSi (pc := 17) [.ref (G.2 (1100 + a0)), .int a1, .int a2, .int q8] (fun sz' => k_J1_indexOf_4cfef l env dyn rg G hok hex sz' σ a0 a1 a2 q8 q10 eq10) ks_J0_637 hok rfl rfl (Nat.le_of_ble_eq_true rfl) ⟨⟨rfl, rfl⟩, ⟨Nat.le_of_ble_eq_true rfl, Nat.le_of_ble_eq_true rfl⟩, Nat.zero_le _, Nat.zero_le _⟩ dJ0_indexOf_7cf53_17 ?_
    refine jx_goto (pc := 20) (tgt := 36) dJ0_indexOf_7cf53_20 (by decide) ?_
    have h := Option.some.inj h
    subst h
    exact jx_iret (pc := 36) dJ0_indexOf_7cf53_36
theorem dJ0_indexOf_0f7a4_0 : decode cJ0_indexOf_0f7a4 0 = .ok (.aload_n 0, 1) := by decide +kernel
theorem dJ0_indexOf_0f7a4_1 : decode cJ0_indexOf_0f7a4 1 = .ok (.iload_n 1, 1) := by decide +kernel
theorem dJ0_indexOf_0f7a4_2 : decode cJ0_indexOf_0f7a4 2 = .ok (.iconst 0, 1) := by decide +kernel
theorem dJ0_indexOf_0f7a4_3 : decode cJ0_indexOf_0f7a4 3 = .ok (.invokevirtual 633, 3) := by decide +kernel
theorem dJ0_indexOf_0f7a4_6 : decode cJ0_indexOf_0f7a4 6 = .ok (.ireturn, 1) := by decide +kernel
abbrev rm_J0_indexOf_0f7a4 : Room := { frames := 3, cells := 0, slots := 0, locals := 70 }
abbrev jJ_J0_indexOf_0f7a4 (l : Launch) {X : Type} (env : (Nat → Prop) → State → Prop) (dyn : X → Heap → Prop) (rg : Nat → Prop) (G : jx_G) (sz : Nat) (σ0 : X) (out : Int32) (pc : Nat) (lv : List (Nat × Value)) (st : List Value) (σ : X) : Prop := jx_J l (env) (dyn) (rg) sz RJ0 "indexOf" cJ0_indexOf_0f7a4 2 (some .int) rm_J0_indexOf_0f7a4 (fun below args s => MQ below (jx_Qi (dyn) σ0 out (jx_A (rg) sz)) args s 0 0 (jx_A (rg) sz)) 0 0 pc lv st σ
def f_J0_indexOf_0f7a4 (a0 : Nat) (a1 : Int32) : Option Int32 :=
  jx_bd (f_J0_indexOf_7cf53 a0 a1 (0 : Int32)) (fun q1 => jx_gd (decide (a0 < 7)) (some q1))
set_option maxHeartbeats 4000000 in
set_option maxRecDepth 100000 in
theorem k_J0_indexOf_0f7a4 (l : Launch) {X : Type} (env : (Nat → Prop) → State → Prop) (dyn : X → Heap → Prop) (rg : Nat → Prop) (G : jx_G) (hok : jx_ok rg env) (hex : ∀ A s, env A s → jx_ex G A s) (sz : Nat) (σ : X) (a0 : Nat) (a1 : Int32) (out : Int32) (h : f_J0_indexOf_0f7a4 a0 a1 = some out) : Met l yJ0_indexOf_0f7a4 (Cond.code yJ0_indexOf_0f7a4 cJ0_indexOf_0f7a4 2 (some .int) :: jx_ws) rm_J0_indexOf_0f7a4 (jx_Pc (env) (dyn) (rg) sz σ [.ref (G.2 (1000 + a0)), .int a1]) (jx_Qi (dyn) σ out (jx_A (rg) sz)) 0 0 (jx_A (rg) sz) := by
  unfold f_J0_indexOf_0f7a4 at h
  refine jx_met (by decide) (Nat.le_of_ble_eq_true rfl) ?_
  refine jx_sub (lv' := [(0, .ref (G.2 (1000 + a0))), (1, .int a1)]) [0, 1] rfl ?_
  refine jx_aload_n (pc := 0) (k0 := 0) rfl dJ0_indexOf_0f7a4_0 ?_
  refine jx_iload_n (pc := 1) (k0 := 1) rfl dJ0_indexOf_0f7a4_1 ?_
  refine jx_iconst (pc := 2) (v := (0 : Int32)) (by decide) dJ0_indexOf_0f7a4_2 ?_
  obtain ⟨q1, eq1, h⟩ := jx_bd_o h
  obtain ⟨g2, h⟩ := jx_gd_o h
  refine jx_callVi (pc := 3) [.int a1, .int (0 : Int32)] (fun sz' => k_J0_indexOf_7cf53 l env dyn rg G hok hex sz' σ a0 a1 (0 : Int32) q1 eq1) kv_J0_633 hok (st_rc hex (i := a0) (of_decide_eq_true g2)) rfl rfl (Nat.le_of_ble_eq_true rfl) ⟨⟨rfl, rfl⟩, ⟨Nat.le_of_ble_eq_true rfl, Nat.le_of_ble_eq_true rfl⟩, Nat.zero_le _, Nat.zero_le _⟩ dJ0_indexOf_0f7a4_3 ?_
  have h := Option.some.inj h
  subst h
  exact jx_iret (pc := 6) dJ0_indexOf_0f7a4_6
