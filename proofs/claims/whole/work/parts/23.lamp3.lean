/-! the class's methods: a function on the memory each, and its contract -/
theorem dX3_endTest_0 : decode cX3_endTest 0 = .ok (.iconst 0, 1) := by decide +kernel
theorem dX3_endTest_1 : decode cX3_endTest 1 = .ok (.istore_n 1, 1) := by decide +kernel
theorem dX3_endTest_2 : decode cX3_endTest 2 = .ok (.iconst 0, 1) := by decide +kernel
theorem dX3_endTest_3 : decode cX3_endTest 3 = .ok (.istore_n 2, 1) := by decide +kernel
theorem dX3_endTest_4 : decode cX3_endTest 4 = .ok (.iload_n 2, 1) := by decide +kernel
theorem dX3_endTest_5 : decode cX3_endTest 5 = .ok (.bipush 12, 2) := by decide +kernel
theorem dX3_endTest_7 : decode cX3_endTest 7 = .ok (.if_icmp .ge 23, 3) := by decide +kernel
theorem dX3_endTest_10 : decode cX3_endTest 10 = .ok (.aload_n 0, 1) := by decide +kernel
theorem dX3_endTest_11 : decode cX3_endTest 11 = .ok (.iload_n 2, 1) := by decide +kernel
theorem dX3_endTest_12 : decode cX3_endTest 12 = .ok (.invokevirtual 135, 3) := by decide +kernel
theorem dX3_endTest_15 : decode cX3_endTest 15 = .ok (.ifCond .eq 9, 3) := by decide +kernel
theorem dX3_endTest_18 : decode cX3_endTest 18 = .ok (.iload_n 1, 1) := by decide +kernel
theorem dX3_endTest_19 : decode cX3_endTest 19 = .ok (.iconst 1, 1) := by decide +kernel
theorem dX3_endTest_20 : decode cX3_endTest 20 = .ok (.iload_n 2, 1) := by decide +kernel
theorem dX3_endTest_21 : decode cX3_endTest 21 = .ok (.ishl, 1) := by decide +kernel
theorem dX3_endTest_22 : decode cX3_endTest 22 = .ok (.ior, 1) := by decide +kernel
theorem dX3_endTest_23 : decode cX3_endTest 23 = .ok (.istore_n 1, 1) := by decide +kernel
theorem dX3_endTest_24 : decode cX3_endTest 24 = .ok (.iinc 2 1, 3) := by decide +kernel
theorem dX3_endTest_27 : decode cX3_endTest 27 = .ok (.goto (-23), 3) := by decide +kernel
theorem dX3_endTest_30 : decode cX3_endTest 30 = .ok (.aload_n 0, 1) := by decide +kernel
theorem dX3_endTest_31 : decode cX3_endTest 31 = .ok (.aload_n 0, 1) := by decide +kernel
theorem dX3_endTest_32 : decode cX3_endTest 32 = .ok (.getfield 127, 3) := by decide +kernel
theorem dX3_endTest_35 : decode cX3_endTest 35 = .ok (.bipush 12, 2) := by decide +kernel
theorem dX3_endTest_37 : decode cX3_endTest 37 = .ok (.ishl, 1) := by decide +kernel
theorem dX3_endTest_38 : decode cX3_endTest 38 = .ok (.iload_n 1, 1) := by decide +kernel
theorem dX3_endTest_39 : decode cX3_endTest 39 = .ok (.ior, 1) := by decide +kernel
theorem dX3_endTest_40 : decode cX3_endTest 40 = .ok (.invokevirtual 138, 3) := by decide +kernel
theorem dX3_endTest_43 : decode cX3_endTest 43 = .ok (.aload_n 0, 1) := by decide +kernel
theorem dX3_endTest_44 : decode cX3_endTest 44 = .ok (.bipush 8, 2) := by decide +kernel
theorem dX3_endTest_46 : decode cX3_endTest 46 = .ok (.putfield 40, 3) := by decide +kernel
theorem dX3_endTest_49 : decode cX3_endTest 49 = .ok (.return_, 1) := by decide +kernel
abbrev rm_X3_endTest : Room := { frames := 1, cells := 0, slots := 0, locals := 21 }
abbrev jJ_X3_endTest (l : Launch) (G : jx_G) (t : jx_T) (sz : Nat) (out : jx_M) (pc : Nat) (lv : List (Nat × Value)) (st : List Value) (σ : jx_M) : Prop := jx_J l (ll_env G t) (ll_dyn G t) (ll_rg G) sz RX3 "endTest" cX3_endTest 3 none rm_X3_endTest (fun below args s => MQ below (jx_Qv (ll_dyn G t) out (jx_A (ll_rg G) sz)) args s 0 0 (jx_A (ll_rg G) sz)) 0 0 pc lv st σ
def b_X3_endTest_24 (t : jx_T) (k4 : jx_M → Int32 → Int32 → Option jx_M) (σ : jx_M) (v1 : Int32) (v2 : Int32) : Option jx_M :=
  jx_lt (v2 + (1 : Int32)) (fun x1 => (k4 σ v1 x1))
set_option maxHeartbeats 4000000 in
set_option maxRecDepth 100000 in
theorem jb_X3_endTest_24 (l : Launch) (G : jx_G) (t : jx_T) (hG : ll_ok G) (sz : Nat) (out : jx_M) (k4 : jx_M → Int32 → Int32 → Option jx_M) (h4 : ∀ (σ : jx_M) (v1 : Int32) (v2 : Int32), k4 σ v1 v2 = some out → jJ_X3_endTest l G t sz out 4 [(0, .ref (G.2 25)), (1, .int v1), (2, .int v2)] [] σ) (σ : jx_M) (v1 : Int32) (v2 : Int32) (h : b_X3_endTest_24 t k4 σ v1 v2 = some out) : jJ_X3_endTest l G t sz out 24 [(0, .ref (G.2 25)), (1, .int v1), (2, .int v2)] [] σ := by
  unfold b_X3_endTest_24 at h
  obtain ⟨x1, ex1, h⟩ := jx_lt_o h
  refine jx_iinc (pc := 24) (i := 2) (v := v2) rfl ex1 (n := 1) (by decide) (by decide) (lv' := [(2, .int x1), (0, .ref (G.2 25)), (1, .int v1)]) rfl dX3_endTest_24 ?_
  refine jx_goto (pc := 27) (tgt := 4) dX3_endTest_27 (by decide) ?_
  exact jx_sub [1, 2, 0] rfl (h4 σ v1 x1 h)
def g_X3_endTest_4 (t : jx_T) (k4 : jx_M → Int32 → Int32 → Option jx_M) (σ : jx_M) (v1 : Int32) (v2 : Int32) : Option jx_M :=
  if (12 : Int32) ≤ v2 then jx_bd (f_X3_write t σ (((σ 0 37) <<< ((12 : Int32) &&& 31)) ||| v1)) (fun q2 => jx_lt (jx_mu q2 0 34 (8 : Int32)) (fun σ3 => some σ3)) else jx_bd (f_X3_isSo t σ v2) (fun q4 => if q4 = 0 then (b_X3_endTest_24 t k4 σ v1 v2) else jx_lt ((v1 ||| ((1 : Int32) <<< (v2 &&& 31)))) (fun x6 => (b_X3_endTest_24 t k4 σ x6 v2)))
set_option maxHeartbeats 4000000 in
set_option maxRecDepth 100000 in
theorem jg_X3_endTest_4 (l : Launch) (G : jx_G) (t : jx_T) (hG : ll_ok G) (sz : Nat) (out : jx_M) (k4 : jx_M → Int32 → Int32 → Option jx_M) (h4 : ∀ (σ : jx_M) (v1 : Int32) (v2 : Int32), k4 σ v1 v2 = some out → jJ_X3_endTest l G t sz out 4 [(0, .ref (G.2 25)), (1, .int v1), (2, .int v2)] [] σ) (σ : jx_M) (v1 : Int32) (v2 : Int32) (h : g_X3_endTest_4 t k4 σ v1 v2 = some out) : jJ_X3_endTest l G t sz out 4 [(0, .ref (G.2 25)), (1, .int v1), (2, .int v2)] [] σ := by
  unfold g_X3_endTest_4 at h
  refine jx_iload_n (pc := 4) (k0 := 2) rfl dX3_endTest_4 ?_
  refine jx_bipush (pc := 5) (v := (12 : Int32)) (by decide) dX3_endTest_5 ?_
  refine jx_icmp_ge (pc := 7) (tgt := 30) dX3_endTest_7 (by decide) (fun c1 => ?_) (fun c1 => ?_)
  · have h := jx_t c1 h
    refine jx_aload_n (pc := 30) (k0 := 0) rfl dX3_endTest_30 ?_
    refine jx_aload_n (pc := 31) (k0 := 0) rfl dX3_endTest_31 ?_
    refine ll_greader_subject (pc := 32) fl_X3_127 dX3_endTest_32 ?_
    refine jx_bipush (pc := 35) (v := (12 : Int32)) (by decide) dX3_endTest_35 ?_
    refine jx_ishl (pc := 37) dX3_endTest_37 ?_
    refine jx_iload_n (pc := 38) (k0 := 1) rfl dX3_endTest_38 ?_
    refine jx_ior (pc := 39) dX3_endTest_39 ?_
    obtain ⟨q2, eq2, h⟩ := jx_bd_o h
    refine jx_callVv (pc := 40) [.int (((σ 0 37) <<< ((12 : Int32) &&& 31)) ||| v1)] (fun sz' => k_X3_write l G t hG sz' σ (((σ 0 37) <<< ((12 : Int32) &&& 31)) ||| v1) q2 eq2) kv_X3_138 ll_jok ll_rcreader rfl rfl (Nat.le_of_ble_eq_true rfl) ⟨⟨rfl, rfl⟩, ⟨Nat.le_of_ble_eq_true rfl, Nat.le_of_ble_eq_true rfl⟩, Nat.zero_le _, Nat.zero_le _⟩ dX3_endTest_40 ?_
    refine jx_aload_n (pc := 43) (k0 := 0) rfl dX3_endTest_43 ?_
    refine jx_bipush (pc := 44) (v := (8 : Int32)) (by decide) dX3_endTest_44 ?_
    obtain ⟨σ3, eσ3, h⟩ := jx_lt_o h
    refine ll_preader_due (pc := 46) hG fl_X3_40 eσ3 dX3_endTest_46 ?_
    cases h
    exact jx_vret (pc := 49) dX3_endTest_49
  · have h := jx_f c1 h
    refine jx_aload_n (pc := 10) (k0 := 0) rfl dX3_endTest_10 ?_
    refine jx_iload_n (pc := 11) (k0 := 2) rfl dX3_endTest_11 ?_
    obtain ⟨q4, eq4, h⟩ := jx_bd_o h
    refine jx_callVi (pc := 12) [.int v2] (fun sz' => k_X3_isSo l G t hG sz' σ v2 q4 eq4) kv_X3_135 ll_jok ll_rcreader rfl rfl (Nat.le_of_ble_eq_true rfl) ⟨⟨rfl, rfl⟩, ⟨Nat.le_of_ble_eq_true rfl, Nat.le_of_ble_eq_true rfl⟩, Nat.zero_le _, Nat.zero_le _⟩ dX3_endTest_12 ?_
    refine jx_if_eq (pc := 15) (tgt := 24) dX3_endTest_15 (by decide) (fun c5 => ?_) (fun c5 => ?_)
    · have h := jx_t c5 h
      exact jx_sub [0, 1, 2] rfl (jb_X3_endTest_24 l G t hG sz out k4 h4 σ v1 v2 h)
    · have h := jx_f c5 h
      refine jx_iload_n (pc := 18) (k0 := 1) rfl dX3_endTest_18 ?_
      refine jx_iconst (pc := 19) (v := (1 : Int32)) (by decide) dX3_endTest_19 ?_
      refine jx_iload_n (pc := 20) (k0 := 2) rfl dX3_endTest_20 ?_
      refine jx_ishl (pc := 21) dX3_endTest_21 ?_
      refine jx_ior (pc := 22) dX3_endTest_22 ?_
      obtain ⟨x6, ex6, h⟩ := jx_lt_o h
      refine jx_istore_n (pc := 23) (i := 1) rfl ex6 (by decide) (lv' := [(1, .int x6), (0, .ref (G.2 25)), (2, .int v2)]) rfl dX3_endTest_23 ?_
      exact jx_sub [1, 0, 2] rfl (jb_X3_endTest_24 l G t hG sz out k4 h4 σ x6 v2 h)
def b_X3_endTest_4 (t : jx_T)  : Nat → jx_M → Int32 → Int32 → Option jx_M
  | 0, _, _, _ => none
  | n + 1, σ, v1, v2 => g_X3_endTest_4 t (b_X3_endTest_4 t n) σ v1 v2
theorem jb_X3_endTest_4 (l : Launch) (G : jx_G) (t : jx_T) (hG : ll_ok G) (sz : Nat) (out : jx_M)  : ∀ (n : Nat) (σ : jx_M) (v1 : Int32) (v2 : Int32), b_X3_endTest_4 t n σ v1 v2 = some out → jJ_X3_endTest l G t sz out 4 [(0, .ref (G.2 25)), (1, .int v1), (2, .int v2)] [] σ := by
  intro n
  induction n with
  | zero =>
    intro σ v1 v2 h
    cases h
  | succ n ih =>
    intro σ v1 v2 h
    exact jg_X3_endTest_4 l G t hG sz out (b_X3_endTest_4 t n) ih σ v1 v2 h
def f_X3_endTest (t : jx_T) (σ : jx_M)  : Option jx_M :=
  (b_X3_endTest_4 t jx_fuel σ (0 : Int32) (0 : Int32))
set_option maxHeartbeats 4000000 in
set_option maxRecDepth 100000 in
theorem k_X3_endTest (l : Launch) (G : jx_G) (t : jx_T) (hG : ll_ok G) (sz : Nat) (σ : jx_M)  (out : jx_M) (h : f_X3_endTest t σ = some out) : Met l yX3_endTest (Cond.code yX3_endTest cX3_endTest 3 none :: jx_ws) rm_X3_endTest (jx_Pc (ll_env G t) (ll_dyn G t) (ll_rg G) sz σ [.ref (G.2 25)]) (jx_Qv (ll_dyn G t) out (jx_A (ll_rg G) sz)) 0 0 (jx_A (ll_rg G) sz) := by
  unfold f_X3_endTest at h
  refine jx_met (by decide) (Nat.le_of_ble_eq_true rfl) ?_
  refine jx_sub (lv' := [(0, .ref (G.2 25))]) [0] rfl ?_
  refine jx_iconst (pc := 0) (v := (0 : Int32)) (by decide) dX3_endTest_0 ?_
  refine jx_istore_n (pc := 1) (i := 1) rfl rfl (by decide) (lv' := [(1, .int (0 : Int32)), (0, .ref (G.2 25))]) rfl dX3_endTest_1 ?_
  refine jx_iconst (pc := 2) (v := (0 : Int32)) (by decide) dX3_endTest_2 ?_
  refine jx_istore_n (pc := 3) (i := 2) rfl rfl (by decide) (lv' := [(2, .int (0 : Int32)), (1, .int (0 : Int32)), (0, .ref (G.2 25))]) rfl dX3_endTest_3 ?_
  exact jx_sub [2, 1, 0] rfl (jb_X3_endTest_4 l G t hG sz out jx_fuel σ (0 : Int32) (0 : Int32) h)
theorem dX3_writePending_0 : decode cX3_writePending 0 = .ok (.aload_n 0, 1) := by decide +kernel
theorem dX3_writePending_1 : decode cX3_writePending 1 = .ok (.getfield 34, 3) := by decide +kernel
theorem dX3_writePending_4 : decode cX3_writePending 4 = .ok (.ifCond .le 71, 3) := by decide +kernel
theorem dX3_writePending_7 : decode cX3_writePending 7 = .ok (.aload_n 0, 1) := by decide +kernel
theorem dX3_writePending_8 : decode cX3_writePending 8 = .ok (.getfield 24, 3) := by decide +kernel
theorem dX3_writePending_11 : decode cX3_writePending 11 = .ok (.aload_n 0, 1) := by decide +kernel
theorem dX3_writePending_12 : decode cX3_writePending 12 = .ok (.getfield 34, 3) := by decide +kernel
theorem dX3_writePending_15 : decode cX3_writePending 15 = .ok (.iconst 1, 1) := by decide +kernel
theorem dX3_writePending_16 : decode cX3_writePending 16 = .ok (.isub, 1) := by decide +kernel
theorem dX3_writePending_17 : decode cX3_writePending 17 = .ok (.iaload, 1) := by decide +kernel
theorem dX3_writePending_18 : decode cX3_writePending 18 = .ok (.iload_n 1, 1) := by decide +kernel
theorem dX3_writePending_19 : decode cX3_writePending 19 = .ok (.if_icmp .lt 56, 3) := by decide +kernel
theorem dX3_writePending_22 : decode cX3_writePending 22 = .ok (.aload_n 0, 1) := by decide +kernel
theorem dX3_writePending_23 : decode cX3_writePending 23 = .ok (.getfield 24, 3) := by decide +kernel
theorem dX3_writePending_26 : decode cX3_writePending 26 = .ok (.aload_n 0, 1) := by decide +kernel
theorem dX3_writePending_27 : decode cX3_writePending 27 = .ok (.getfield 34, 3) := by decide +kernel
theorem dX3_writePending_30 : decode cX3_writePending 30 = .ok (.iconst 1, 1) := by decide +kernel
theorem dX3_writePending_31 : decode cX3_writePending 31 = .ok (.isub, 1) := by decide +kernel
theorem dX3_writePending_32 : decode cX3_writePending 32 = .ok (.iaload, 1) := by decide +kernel
theorem dX3_writePending_33 : decode cX3_writePending 33 = .ok (.iconst (-1), 1) := by decide +kernel
theorem dX3_writePending_34 : decode cX3_writePending 34 = .ok (.if_icmp .ne 13, 3) := by decide +kernel
theorem dX3_writePending_37 : decode cX3_writePending 37 = .ok (.aload_n 0, 1) := by decide +kernel
theorem dX3_writePending_38 : decode cX3_writePending 38 = .ok (.dup, 1) := by decide +kernel
theorem dX3_writePending_39 : decode cX3_writePending 39 = .ok (.getfield 37, 3) := by decide +kernel
theorem dX3_writePending_42 : decode cX3_writePending 42 = .ok (.iconst 1, 1) := by decide +kernel
theorem dX3_writePending_43 : decode cX3_writePending 43 = .ok (.isub, 1) := by decide +kernel
theorem dX3_writePending_44 : decode cX3_writePending 44 = .ok (.putfield 37, 3) := by decide +kernel
theorem dX3_writePending_47 : decode cX3_writePending 47 = .ok (.aload_n 0, 1) := by decide +kernel
theorem dX3_writePending_48 : decode cX3_writePending 48 = .ok (.aload_n 0, 1) := by decide +kernel
theorem dX3_writePending_49 : decode cX3_writePending 49 = .ok (.getfield 24, 3) := by decide +kernel
theorem dX3_writePending_52 : decode cX3_writePending 52 = .ok (.aload_n 0, 1) := by decide +kernel
theorem dX3_writePending_53 : decode cX3_writePending 53 = .ok (.getfield 34, 3) := by decide +kernel
theorem dX3_writePending_56 : decode cX3_writePending 56 = .ok (.iconst 1, 1) := by decide +kernel
theorem dX3_writePending_57 : decode cX3_writePending 57 = .ok (.isub, 1) := by decide +kernel
theorem dX3_writePending_58 : decode cX3_writePending 58 = .ok (.iaload, 1) := by decide +kernel
theorem dX3_writePending_59 : decode cX3_writePending 59 = .ok (.invokevirtual 138, 3) := by decide +kernel
theorem dX3_writePending_62 : decode cX3_writePending 62 = .ok (.aload_n 0, 1) := by decide +kernel
theorem dX3_writePending_63 : decode cX3_writePending 63 = .ok (.dup, 1) := by decide +kernel
theorem dX3_writePending_64 : decode cX3_writePending 64 = .ok (.getfield 34, 3) := by decide +kernel
theorem dX3_writePending_67 : decode cX3_writePending 67 = .ok (.iconst 1, 1) := by decide +kernel
theorem dX3_writePending_68 : decode cX3_writePending 68 = .ok (.isub, 1) := by decide +kernel
theorem dX3_writePending_69 : decode cX3_writePending 69 = .ok (.putfield 34, 3) := by decide +kernel
theorem dX3_writePending_72 : decode cX3_writePending 72 = .ok (.goto (-72), 3) := by decide +kernel
theorem dX3_writePending_75 : decode cX3_writePending 75 = .ok (.return_, 1) := by decide +kernel
abbrev rm_X3_writePending : Room := { frames := 1, cells := 0, slots := 0, locals := 21 }
abbrev jJ_X3_writePending (l : Launch) (G : jx_G) (t : jx_T) (sz : Nat) (out : jx_M) (pc : Nat) (lv : List (Nat × Value)) (st : List Value) (σ : jx_M) : Prop := jx_J l (ll_env G t) (ll_dyn G t) (ll_rg G) sz RX3 "writePending" cX3_writePending 2 none rm_X3_writePending (fun below args s => MQ below (jx_Qv (ll_dyn G t) out (jx_A (ll_rg G) sz)) args s 0 0 (jx_A (ll_rg G) sz)) 0 0 pc lv st σ
def b_X3_writePending_47 (t : jx_T) (k0 : jx_M → Int32 → Option jx_M) (σ : jx_M) (v1 : Int32) : Option jx_M :=
  jx_gd (jx_in ((σ 0 32) - (1 : Int32)) 17) (jx_bd (f_X3_write t σ (σ 65 ((σ 0 32) - (1 : Int32)).toNatClampNeg)) (fun q2 => jx_lt (jx_mu q2 0 32 ((q2 0 32) - (1 : Int32))) (fun σ3 => (k0 σ3 v1))))
set_option maxHeartbeats 4000000 in
set_option maxRecDepth 100000 in
theorem jb_X3_writePending_47 (l : Launch) (G : jx_G) (t : jx_T) (hG : ll_ok G) (sz : Nat) (out : jx_M) (k0 : jx_M → Int32 → Option jx_M) (h0 : ∀ (σ : jx_M) (v1 : Int32), k0 σ v1 = some out → jJ_X3_writePending l G t sz out 0 [(0, .ref (G.2 25)), (1, .int v1)] [] σ) (σ : jx_M) (v1 : Int32) (h : b_X3_writePending_47 t k0 σ v1 = some out) : jJ_X3_writePending l G t sz out 47 [(0, .ref (G.2 25)), (1, .int v1)] [] σ := by
  unfold b_X3_writePending_47 at h
  refine jx_aload_n (pc := 47) (k0 := 0) rfl dX3_writePending_47 ?_
  refine jx_aload_n (pc := 48) (k0 := 0) rfl dX3_writePending_48 ?_
  refine ll_greader_pending (pc := 49) fl_X3_24 dX3_writePending_49 ?_
  refine jx_aload_n (pc := 52) (k0 := 0) rfl dX3_writePending_52 ?_
  refine ll_greader_pended (pc := 53) fl_X3_34 dX3_writePending_53 ?_
  refine jx_iconst (pc := 56) (v := (1 : Int32)) (by decide) dX3_writePending_56 ?_
  refine jx_isub (pc := 57) dX3_writePending_57 ?_
  obtain ⟨g1, h⟩ := jx_gd_o h
  refine ll_l (pc := 58) (k := 65) (jx_in_o g1) rfl dX3_writePending_58 ?_
  obtain ⟨q2, eq2, h⟩ := jx_bd_o h
  refine jx_callVv (pc := 59) [.int (σ 65 ((σ 0 32) - (1 : Int32)).toNatClampNeg)] (fun sz' => k_X3_write l G t hG sz' σ (σ 65 ((σ 0 32) - (1 : Int32)).toNatClampNeg) q2 eq2) kv_X3_138 ll_jok ll_rcreader rfl rfl (Nat.le_of_ble_eq_true rfl) ⟨⟨rfl, rfl⟩, ⟨Nat.le_of_ble_eq_true rfl, Nat.le_of_ble_eq_true rfl⟩, Nat.zero_le _, Nat.zero_le _⟩ dX3_writePending_59 ?_
  refine jx_aload_n (pc := 62) (k0 := 0) rfl dX3_writePending_62 ?_
  refine jx_dup (pc := 63) rfl dX3_writePending_63 ?_
  refine ll_greader_pended (pc := 64) fl_X3_34 dX3_writePending_64 ?_
  refine jx_iconst (pc := 67) (v := (1 : Int32)) (by decide) dX3_writePending_67 ?_
  refine jx_isub (pc := 68) dX3_writePending_68 ?_
  obtain ⟨σ3, eσ3, h⟩ := jx_lt_o h
  refine ll_preader_pended (pc := 69) hG fl_X3_34 eσ3 dX3_writePending_69 ?_
  refine jx_goto (pc := 72) (tgt := 0) dX3_writePending_72 (by decide) ?_
  exact jx_sub [0, 1] rfl (h0 σ3 v1 h)
def g_X3_writePending_0 (t : jx_T) (k0 : jx_M → Int32 → Option jx_M) (σ : jx_M) (v1 : Int32) : Option jx_M :=
  if (σ 0 32) ≤ 0 then some σ else jx_gd (jx_in ((σ 0 32) - (1 : Int32)) 17) (if (σ 65 ((σ 0 32) - (1 : Int32)).toNatClampNeg) < v1 then some σ else jx_gd (jx_in ((σ 0 32) - (1 : Int32)) 17) (if (σ 65 ((σ 0 32) - (1 : Int32)).toNatClampNeg) = (-1 : Int32) then jx_lt (jx_mu σ 0 33 ((σ 0 33) - (1 : Int32))) (fun σ6 => (b_X3_writePending_47 t k0 σ6 v1)) else (b_X3_writePending_47 t k0 σ v1)))
set_option maxHeartbeats 4000000 in
set_option maxRecDepth 100000 in
theorem jg_X3_writePending_0 (l : Launch) (G : jx_G) (t : jx_T) (hG : ll_ok G) (sz : Nat) (out : jx_M) (k0 : jx_M → Int32 → Option jx_M) (h0 : ∀ (σ : jx_M) (v1 : Int32), k0 σ v1 = some out → jJ_X3_writePending l G t sz out 0 [(0, .ref (G.2 25)), (1, .int v1)] [] σ) (σ : jx_M) (v1 : Int32) (h : g_X3_writePending_0 t k0 σ v1 = some out) : jJ_X3_writePending l G t sz out 0 [(0, .ref (G.2 25)), (1, .int v1)] [] σ := by
  unfold g_X3_writePending_0 at h
  refine jx_aload_n (pc := 0) (k0 := 0) rfl dX3_writePending_0 ?_
  refine ll_greader_pended (pc := 1) fl_X3_34 dX3_writePending_1 ?_
  refine jx_if_le (pc := 4) (tgt := 75) dX3_writePending_4 (by decide) (fun c1 => ?_) (fun c1 => ?_)
  · have h := jx_t c1 h
    cases h
    exact jx_vret (pc := 75) dX3_writePending_75
  · have h := jx_f c1 h
    refine jx_aload_n (pc := 7) (k0 := 0) rfl dX3_writePending_7 ?_
    refine ll_greader_pending (pc := 8) fl_X3_24 dX3_writePending_8 ?_
    refine jx_aload_n (pc := 11) (k0 := 0) rfl dX3_writePending_11 ?_
    refine ll_greader_pended (pc := 12) fl_X3_34 dX3_writePending_12 ?_
    refine jx_iconst (pc := 15) (v := (1 : Int32)) (by decide) dX3_writePending_15 ?_
    refine jx_isub (pc := 16) dX3_writePending_16 ?_
    obtain ⟨g2, h⟩ := jx_gd_o h
    refine ll_l (pc := 17) (k := 65) (jx_in_o g2) rfl dX3_writePending_17 ?_
    refine jx_iload_n (pc := 18) (k0 := 1) rfl dX3_writePending_18 ?_
    refine jx_icmp_lt (pc := 19) (tgt := 75) dX3_writePending_19 (by decide) (fun c3 => ?_) (fun c3 => ?_)
    · have h := jx_t c3 h
      cases h
      exact jx_vret (pc := 75) dX3_writePending_75
    · have h := jx_f c3 h
      refine jx_aload_n (pc := 22) (k0 := 0) rfl dX3_writePending_22 ?_
      refine ll_greader_pending (pc := 23) fl_X3_24 dX3_writePending_23 ?_
      refine jx_aload_n (pc := 26) (k0 := 0) rfl dX3_writePending_26 ?_
      refine ll_greader_pended (pc := 27) fl_X3_34 dX3_writePending_27 ?_
      refine jx_iconst (pc := 30) (v := (1 : Int32)) (by decide) dX3_writePending_30 ?_
      refine jx_isub (pc := 31) dX3_writePending_31 ?_
      obtain ⟨g4, h⟩ := jx_gd_o h
      refine ll_l (pc := 32) (k := 65) (jx_in_o g4) rfl dX3_writePending_32 ?_
      refine jx_iconst (pc := 33) (v := (-1 : Int32)) (by decide) dX3_writePending_33 ?_
      refine jx_icmp_ne (pc := 34) (tgt := 47) dX3_writePending_34 (by decide) (fun c5 => ?_) (fun c5 => ?_)
      · have h := jx_f c5 h
        exact jx_sub [0, 1] rfl (jb_X3_writePending_47 l G t hG sz out k0 h0 σ v1 h)
      · have h := jx_t c5 h
        refine jx_aload_n (pc := 37) (k0 := 0) rfl dX3_writePending_37 ?_
        refine jx_dup (pc := 38) rfl dX3_writePending_38 ?_
        refine ll_greader_open (pc := 39) fl_X3_37 dX3_writePending_39 ?_
        refine jx_iconst (pc := 42) (v := (1 : Int32)) (by decide) dX3_writePending_42 ?_
        refine jx_isub (pc := 43) dX3_writePending_43 ?_
        obtain ⟨σ6, eσ6, h⟩ := jx_lt_o h
        refine ll_preader_open (pc := 44) hG fl_X3_37 eσ6 dX3_writePending_44 ?_
        exact jx_sub [0, 1] rfl (jb_X3_writePending_47 l G t hG sz out k0 h0 σ6 v1 h)
def b_X3_writePending_0 (t : jx_T)  : Nat → jx_M → Int32 → Option jx_M
  | 0, _, _ => none
  | n + 1, σ, v1 => g_X3_writePending_0 t (b_X3_writePending_0 t n) σ v1
theorem jb_X3_writePending_0 (l : Launch) (G : jx_G) (t : jx_T) (hG : ll_ok G) (sz : Nat) (out : jx_M)  : ∀ (n : Nat) (σ : jx_M) (v1 : Int32), b_X3_writePending_0 t n σ v1 = some out → jJ_X3_writePending l G t sz out 0 [(0, .ref (G.2 25)), (1, .int v1)] [] σ := by
  intro n
  induction n with
  | zero =>
    intro σ v1 h
    cases h
  | succ n ih =>
    intro σ v1 h
    exact jg_X3_writePending_0 l G t hG sz out (b_X3_writePending_0 t n) ih σ v1 h
def f_X3_writePending (t : jx_T) (σ : jx_M) (a1 : Int32) : Option jx_M :=
  (b_X3_writePending_0 t jx_fuel σ a1)
set_option maxHeartbeats 4000000 in
set_option maxRecDepth 100000 in
theorem k_X3_writePending (l : Launch) (G : jx_G) (t : jx_T) (hG : ll_ok G) (sz : Nat) (σ : jx_M) (a1 : Int32) (out : jx_M) (h : f_X3_writePending t σ a1 = some out) : Met l yX3_writePending (Cond.code yX3_writePending cX3_writePending 2 none :: jx_ws) rm_X3_writePending (jx_Pc (ll_env G t) (ll_dyn G t) (ll_rg G) sz σ [.ref (G.2 25), .int a1]) (jx_Qv (ll_dyn G t) out (jx_A (ll_rg G) sz)) 0 0 (jx_A (ll_rg G) sz) := by
  unfold f_X3_writePending at h
  refine jx_met (by decide) (Nat.le_of_ble_eq_true rfl) ?_
  refine jx_sub (lv' := [(0, .ref (G.2 25)), (1, .int a1)]) [0, 1] rfl ?_
  exact jx_sub [0, 1] rfl (jb_X3_writePending_0 l G t hG sz out jx_fuel σ a1 h)
theorem dX4_any_0 : decode cX4_any 0 = .ok (.iconst 0, 1) := by decide +kernel
theorem dX4_any_1 : decode cX4_any 1 = .ok (.istore_n 3, 1) := by decide +kernel
theorem dX4_any_2 : decode cX4_any 2 = .ok (.iload_n 3, 1) := by decide +kernel
theorem dX4_any_3 : decode cX4_any 3 = .ok (.aload_n 0, 1) := by decide +kernel
theorem dX4_any_4 : decode cX4_any 4 = .ok (.getfield 9, 3) := by decide +kernel
theorem dX4_any_7 : decode cX4_any 7 = .ok (.arraylength, 1) := by decide +kernel
theorem dX4_any_8 : decode cX4_any 8 = .ok (.if_icmp .ge 30, 3) := by decide +kernel
theorem dX4_any_11 : decode cX4_any 11 = .ok (.aload_n 0, 1) := by decide +kernel
theorem dX4_any_12 : decode cX4_any 12 = .ok (.getfield 9, 3) := by decide +kernel
theorem dX4_any_15 : decode cX4_any 15 = .ok (.iload_n 3, 1) := by decide +kernel
theorem dX4_any_16 : decode cX4_any 16 = .ok (.iaload, 1) := by decide +kernel
theorem dX4_any_17 : decode cX4_any 17 = .ok (.iload_n 1, 1) := by decide +kernel
theorem dX4_any_18 : decode cX4_any 18 = .ok (.if_icmp .ne 14, 3) := by decide +kernel
theorem dX4_any_21 : decode cX4_any 21 = .ok (.aload_n 0, 1) := by decide +kernel
theorem dX4_any_22 : decode cX4_any 22 = .ok (.iload_n 3, 1) := by decide +kernel
theorem dX4_any_23 : decode cX4_any 23 = .ok (.aload_n 2, 1) := by decide +kernel
theorem dX4_any_24 : decode cX4_any 24 = .ok (.invokevirtual 24, 3) := by decide +kernel
theorem dX4_any_27 : decode cX4_any 27 = .ok (.ifCond .eq 5, 3) := by decide +kernel
theorem dX4_any_30 : decode cX4_any 30 = .ok (.iconst 1, 1) := by decide +kernel
theorem dX4_any_31 : decode cX4_any 31 = .ok (.ireturn, 1) := by decide +kernel
theorem dX4_any_32 : decode cX4_any 32 = .ok (.iinc 3 1, 3) := by decide +kernel
theorem dX4_any_35 : decode cX4_any 35 = .ok (.goto (-33), 3) := by decide +kernel
theorem dX4_any_38 : decode cX4_any 38 = .ok (.iconst 0, 1) := by decide +kernel
theorem dX4_any_39 : decode cX4_any 39 = .ok (.ireturn, 1) := by decide +kernel
abbrev rm_X4_any : Room := { frames := 1, cells := 0, slots := 0, locals := 27 }
abbrev jJ_X4_any (l : Launch) (G : jx_G) (t : jx_T) (sz : Nat) (σ0 : jx_M) (out : Int32) (pc : Nat) (lv : List (Nat × Value)) (st : List Value) (σ : jx_M) : Prop := jx_J l (ll_env G t) (ll_dyn G t) (ll_rg G) sz RX4 "any" cX4_any 4 (some .boolean) rm_X4_any (fun below args s => MQ below (jx_Qi (ll_dyn G t) σ0 out (jx_A (ll_rg G) sz)) args s 0 0 (jx_A (ll_rg G) sz)) 0 0 pc lv st σ
def b_X4_any_32 (t : jx_T) (k2 : jx_M → Int32 → Nat → Int32 → Option Int32) (σ : jx_M) (v1 : Int32) (v2 : Nat) (v3 : Int32) : Option Int32 :=
  jx_lt (v3 + (1 : Int32)) (fun x1 => (k2 σ v1 v2 x1))
set_option maxHeartbeats 4000000 in
set_option maxRecDepth 100000 in
theorem jb_X4_any_32 (l : Launch) (G : jx_G) (t : jx_T) (hG : ll_ok G) (sz : Nat) (σ0 : jx_M) (out : Int32) (k2 : jx_M → Int32 → Nat → Int32 → Option Int32) (h2 : ∀ (σ : jx_M) (v1 : Int32) (v2 : Nat) (v3 : Int32), σ = σ0 → k2 σ v1 v2 v3 = some out → jJ_X4_any l G t sz σ0 out 2 [(0, .ref (t.1 0)), (1, .int v1), (2, .ref (G.2 (100 + v2))), (3, .int v3)] [] σ) (σ : jx_M) (v1 : Int32) (v2 : Nat) (v3 : Int32) (e0 : σ = σ0) (h : b_X4_any_32 t k2 σ v1 v2 v3 = some out) : jJ_X4_any l G t sz σ0 out 32 [(0, .ref (t.1 0)), (1, .int v1), (2, .ref (G.2 (100 + v2))), (3, .int v3)] [] σ := by
  unfold b_X4_any_32 at h
  obtain ⟨x1, ex1, h⟩ := jx_lt_o h
  refine jx_iinc (pc := 32) (i := 3) (v := v3) rfl ex1 (n := 1) (by decide) (by decide) (lv' := [(3, .int x1), (0, .ref (t.1 0)), (1, .int v1), (2, .ref (G.2 (100 + v2)))]) rfl dX4_any_32 ?_
  refine jx_goto (pc := 35) (tgt := 2) dX4_any_35 (by decide) ?_
  exact jx_sub [1, 2, 3, 0] rfl (h2 σ v1 v2 x1 e0 h)
def g_X4_any_2 (t : jx_T) (k2 : jx_M → Int32 → Nat → Int32 → Option Int32) (σ : jx_M) (v1 : Int32) (v2 : Nat) (v3 : Int32) : Option Int32 :=
  if (Int32.ofNat (t.2.1 1)) ≤ v3 then some (0 : Int32) else jx_gd (jx_in v3 (t.2.1 1)) (if (t.2.2 1 v3.toNatClampNeg) = v1 then jx_bd (f_X4_holds t σ v3 v2) (fun q4 => if q4 = 0 then (b_X4_any_32 t k2 σ v1 v2 v3) else some (1 : Int32)) else (b_X4_any_32 t k2 σ v1 v2 v3))
set_option maxHeartbeats 4000000 in
set_option maxRecDepth 100000 in
theorem jg_X4_any_2 (l : Launch) (G : jx_G) (t : jx_T) (hG : ll_ok G) (sz : Nat) (σ0 : jx_M) (out : Int32) (k2 : jx_M → Int32 → Nat → Int32 → Option Int32) (h2 : ∀ (σ : jx_M) (v1 : Int32) (v2 : Nat) (v3 : Int32), σ = σ0 → k2 σ v1 v2 v3 = some out → jJ_X4_any l G t sz σ0 out 2 [(0, .ref (t.1 0)), (1, .int v1), (2, .ref (G.2 (100 + v2))), (3, .int v3)] [] σ) (σ : jx_M) (v1 : Int32) (v2 : Nat) (v3 : Int32) (e0 : σ = σ0) (h : g_X4_any_2 t k2 σ v1 v2 v3 = some out) : jJ_X4_any l G t sz σ0 out 2 [(0, .ref (t.1 0)), (1, .int v1), (2, .ref (G.2 (100 + v2))), (3, .int v3)] [] σ := by
  unfold g_X4_any_2 at h
  refine jx_iload_n (pc := 2) (k0 := 3) rfl dX4_any_2 ?_
  refine jx_aload_n (pc := 3) (k0 := 0) rfl dX4_any_3 ?_
  refine ll_gtide_words (pc := 4) fl_X4_9 dX4_any_4 ?_
  refine ll_ntide_1 (pc := 7) dX4_any_7 ?_
  refine jx_icmp_ge (pc := 8) (tgt := 38) dX4_any_8 (by decide) (fun c1 => ?_) (fun c1 => ?_)
  · have h := jx_t c1 h
    refine jx_iconst (pc := 38) (v := (0 : Int32)) (by decide) dX4_any_38 ?_
    subst e0
    cases h
    exact jx_zret (pc := 39) (Or.inl rfl) dX4_any_39
  · have h := jx_f c1 h
    refine jx_aload_n (pc := 11) (k0 := 0) rfl dX4_any_11 ?_
    refine ll_gtide_words (pc := 12) fl_X4_9 dX4_any_12 ?_
    refine jx_iload_n (pc := 15) (k0 := 3) rfl dX4_any_15 ?_
    obtain ⟨g2, h⟩ := jx_gd_o h
    refine ll_ltide_1 (pc := 16) (jx_in_o g2) rfl dX4_any_16 ?_
    refine jx_iload_n (pc := 17) (k0 := 1) rfl dX4_any_17 ?_
    refine jx_icmp_ne (pc := 18) (tgt := 32) dX4_any_18 (by decide) (fun c3 => ?_) (fun c3 => ?_)
    · have h := jx_f c3 h
      exact jx_sub [0, 1, 2, 3] rfl (jb_X4_any_32 l G t hG sz σ0 out k2 h2 σ v1 v2 v3 e0 h)
    · have h := jx_t c3 h
      refine jx_aload_n (pc := 21) (k0 := 0) rfl dX4_any_21 ?_
      refine jx_iload_n (pc := 22) (k0 := 3) rfl dX4_any_22 ?_
      refine jx_aload_n (pc := 23) (k0 := 2) rfl dX4_any_23 ?_
      obtain ⟨q4, eq4, h⟩ := jx_bd_o h
      refine jx_callVi (pc := 24) [.int v3, .ref (G.2 (100 + v2))] (fun sz' => k_X4_holds l G t hG sz' σ v3 v2 q4 eq4) kv_X4_24 ll_jok ll_rctide rfl rfl (Nat.le_of_ble_eq_true rfl) ⟨⟨rfl, rfl⟩, ⟨Nat.le_of_ble_eq_true rfl, Nat.le_of_ble_eq_true rfl⟩, Nat.zero_le _, Nat.zero_le _⟩ dX4_any_24 ?_
      refine jx_if_eq (pc := 27) (tgt := 32) dX4_any_27 (by decide) (fun c5 => ?_) (fun c5 => ?_)
      · have h := jx_t c5 h
        exact jx_sub [0, 1, 2, 3] rfl (jb_X4_any_32 l G t hG sz σ0 out k2 h2 σ v1 v2 v3 e0 h)
      · have h := jx_f c5 h
        refine jx_iconst (pc := 30) (v := (1 : Int32)) (by decide) dX4_any_30 ?_
        subst e0
        cases h
        exact jx_zret (pc := 31) (Or.inr rfl) dX4_any_31
def b_X4_any_2 (t : jx_T)  : Nat → jx_M → Int32 → Nat → Int32 → Option Int32
  | 0, _, _, _, _ => none
  | n + 1, σ, v1, v2, v3 => g_X4_any_2 t (b_X4_any_2 t n) σ v1 v2 v3
theorem jb_X4_any_2 (l : Launch) (G : jx_G) (t : jx_T) (hG : ll_ok G) (sz : Nat) (σ0 : jx_M) (out : Int32)  : ∀ (n : Nat) (σ : jx_M) (v1 : Int32) (v2 : Nat) (v3 : Int32), σ = σ0 → b_X4_any_2 t n σ v1 v2 v3 = some out → jJ_X4_any l G t sz σ0 out 2 [(0, .ref (t.1 0)), (1, .int v1), (2, .ref (G.2 (100 + v2))), (3, .int v3)] [] σ := by
  intro n
  induction n with
  | zero =>
    intro σ v1 v2 v3 e0 h
    cases h
  | succ n ih =>
    intro σ v1 v2 v3 e0 h
    exact jg_X4_any_2 l G t hG sz σ0 out (b_X4_any_2 t n) ih σ v1 v2 v3 e0 h
def f_X4_any (t : jx_T) (σ : jx_M) (a1 : Int32) (a2 : Nat) : Option Int32 :=
  (b_X4_any_2 t jx_fuel σ a1 a2 (0 : Int32))
set_option maxHeartbeats 4000000 in
set_option maxRecDepth 100000 in
theorem k_X4_any (l : Launch) (G : jx_G) (t : jx_T) (hG : ll_ok G) (sz : Nat) (σ : jx_M) (a1 : Int32) (a2 : Nat) (out : Int32) (h : f_X4_any t σ a1 a2 = some out) : Met l yX4_any (Cond.code yX4_any cX4_any 4 (some .boolean) :: jx_ws) rm_X4_any (jx_Pc (ll_env G t) (ll_dyn G t) (ll_rg G) sz σ [.ref (t.1 0), .int a1, .ref (G.2 (100 + a2))]) (jx_Qi (ll_dyn G t) σ out (jx_A (ll_rg G) sz)) 0 0 (jx_A (ll_rg G) sz) := by
  unfold f_X4_any at h
  refine jx_met (by decide) (Nat.le_of_ble_eq_true rfl) ?_
  refine jx_sub (lv' := [(0, .ref (t.1 0)), (1, .int a1), (2, .ref (G.2 (100 + a2)))]) [0, 1, 2] rfl ?_
  refine jx_iconst (pc := 0) (v := (0 : Int32)) (by decide) dX4_any_0 ?_
  refine jx_istore_n (pc := 1) (i := 3) rfl rfl (by decide) (lv' := [(3, .int (0 : Int32)), (0, .ref (t.1 0)), (1, .int a1), (2, .ref (G.2 (100 + a2)))]) rfl dX4_any_1 ?_
  exact jx_sub [1, 2, 3, 0] rfl (jb_X4_any_2 l G t hG sz σ out jx_fuel σ a1 a2 (0 : Int32) rfl h)
theorem dX4_sum_0 : decode cX4_sum 0 = .ok (.iconst 0, 1) := by decide +kernel
theorem dX4_sum_1 : decode cX4_sum 1 = .ok (.istore_n 3, 1) := by decide +kernel
theorem dX4_sum_2 : decode cX4_sum 2 = .ok (.iconst 0, 1) := by decide +kernel
theorem dX4_sum_3 : decode cX4_sum 3 = .ok (.istore 4, 2) := by decide +kernel
theorem dX4_sum_5 : decode cX4_sum 5 = .ok (.iload 4, 2) := by decide +kernel
theorem dX4_sum_7 : decode cX4_sum 7 = .ok (.aload_n 0, 1) := by decide +kernel
theorem dX4_sum_8 : decode cX4_sum 8 = .ok (.getfield 9, 3) := by decide +kernel
theorem dX4_sum_11 : decode cX4_sum 11 = .ok (.arraylength, 1) := by decide +kernel
theorem dX4_sum_12 : decode cX4_sum 12 = .ok (.if_icmp .ge 40, 3) := by decide +kernel
theorem dX4_sum_15 : decode cX4_sum 15 = .ok (.aload_n 0, 1) := by decide +kernel
theorem dX4_sum_16 : decode cX4_sum 16 = .ok (.getfield 9, 3) := by decide +kernel
theorem dX4_sum_19 : decode cX4_sum 19 = .ok (.iload 4, 2) := by decide +kernel
theorem dX4_sum_21 : decode cX4_sum 21 = .ok (.iaload, 1) := by decide +kernel
theorem dX4_sum_22 : decode cX4_sum 22 = .ok (.iload_n 1, 1) := by decide +kernel
theorem dX4_sum_23 : decode cX4_sum 23 = .ok (.if_icmp .ne 23, 3) := by decide +kernel
theorem dX4_sum_26 : decode cX4_sum 26 = .ok (.aload_n 0, 1) := by decide +kernel
theorem dX4_sum_27 : decode cX4_sum 27 = .ok (.iload 4, 2) := by decide +kernel
theorem dX4_sum_29 : decode cX4_sum 29 = .ok (.aload_n 2, 1) := by decide +kernel
theorem dX4_sum_30 : decode cX4_sum 30 = .ok (.invokevirtual 24, 3) := by decide +kernel
theorem dX4_sum_33 : decode cX4_sum 33 = .ok (.ifCond .eq 13, 3) := by decide +kernel
theorem dX4_sum_36 : decode cX4_sum 36 = .ok (.iload_n 3, 1) := by decide +kernel
theorem dX4_sum_37 : decode cX4_sum 37 = .ok (.aload_n 0, 1) := by decide +kernel
theorem dX4_sum_38 : decode cX4_sum 38 = .ok (.getfield 15, 3) := by decide +kernel
theorem dX4_sum_41 : decode cX4_sum 41 = .ok (.iload 4, 2) := by decide +kernel
theorem dX4_sum_43 : decode cX4_sum 43 = .ok (.iaload, 1) := by decide +kernel
theorem dX4_sum_44 : decode cX4_sum 44 = .ok (.iadd, 1) := by decide +kernel
theorem dX4_sum_45 : decode cX4_sum 45 = .ok (.istore_n 3, 1) := by decide +kernel
theorem dX4_sum_46 : decode cX4_sum 46 = .ok (.iinc 4 1, 3) := by decide +kernel
theorem dX4_sum_49 : decode cX4_sum 49 = .ok (.goto (-44), 3) := by decide +kernel
theorem dX4_sum_52 : decode cX4_sum 52 = .ok (.iload_n 3, 1) := by decide +kernel
theorem dX4_sum_53 : decode cX4_sum 53 = .ok (.ireturn, 1) := by decide +kernel
abbrev rm_X4_sum : Room := { frames := 1, cells := 0, slots := 0, locals := 27 }
abbrev jJ_X4_sum (l : Launch) (G : jx_G) (t : jx_T) (sz : Nat) (σ0 : jx_M) (out : Int32) (pc : Nat) (lv : List (Nat × Value)) (st : List Value) (σ : jx_M) : Prop := jx_J l (ll_env G t) (ll_dyn G t) (ll_rg G) sz RX4 "sum" cX4_sum 5 (some .int) rm_X4_sum (fun below args s => MQ below (jx_Qi (ll_dyn G t) σ0 out (jx_A (ll_rg G) sz)) args s 0 0 (jx_A (ll_rg G) sz)) 0 0 pc lv st σ
def b_X4_sum_46 (t : jx_T) (k5 : jx_M → Int32 → Nat → Int32 → Int32 → Option Int32) (σ : jx_M) (v1 : Int32) (v2 : Nat) (v3 : Int32) (v4 : Int32) : Option Int32 :=
  jx_lt (v4 + (1 : Int32)) (fun x1 => (k5 σ v1 v2 v3 x1))
set_option maxHeartbeats 4000000 in
set_option maxRecDepth 100000 in
theorem jb_X4_sum_46 (l : Launch) (G : jx_G) (t : jx_T) (hG : ll_ok G) (sz : Nat) (σ0 : jx_M) (out : Int32) (k5 : jx_M → Int32 → Nat → Int32 → Int32 → Option Int32) (h5 : ∀ (σ : jx_M) (v1 : Int32) (v2 : Nat) (v3 : Int32) (v4 : Int32), σ = σ0 → k5 σ v1 v2 v3 v4 = some out → jJ_X4_sum l G t sz σ0 out 5 [(0, .ref (t.1 0)), (1, .int v1), (2, .ref (G.2 (100 + v2))), (3, .int v3), (4, .int v4)] [] σ) (σ : jx_M) (v1 : Int32) (v2 : Nat) (v3 : Int32) (v4 : Int32) (e0 : σ = σ0) (h : b_X4_sum_46 t k5 σ v1 v2 v3 v4 = some out) : jJ_X4_sum l G t sz σ0 out 46 [(0, .ref (t.1 0)), (1, .int v1), (2, .ref (G.2 (100 + v2))), (3, .int v3), (4, .int v4)] [] σ := by
  unfold b_X4_sum_46 at h
  obtain ⟨x1, ex1, h⟩ := jx_lt_o h
  refine jx_iinc (pc := 46) (i := 4) (v := v4) rfl ex1 (n := 1) (by decide) (by decide) (lv' := [(4, .int x1), (0, .ref (t.1 0)), (1, .int v1), (2, .ref (G.2 (100 + v2))), (3, .int v3)]) rfl dX4_sum_46 ?_
  refine jx_goto (pc := 49) (tgt := 5) dX4_sum_49 (by decide) ?_
  exact jx_sub [1, 2, 3, 4, 0] rfl (h5 σ v1 v2 v3 x1 e0 h)
def g_X4_sum_5 (t : jx_T) (k5 : jx_M → Int32 → Nat → Int32 → Int32 → Option Int32) (σ : jx_M) (v1 : Int32) (v2 : Nat) (v3 : Int32) (v4 : Int32) : Option Int32 :=
  if (Int32.ofNat (t.2.1 1)) ≤ v4 then some v3 else jx_gd (jx_in v4 (t.2.1 1)) (if (t.2.2 1 v4.toNatClampNeg) = v1 then jx_bd (f_X4_holds t σ v4 v2) (fun q4 => if q4 = 0 then (b_X4_sum_46 t k5 σ v1 v2 v3 v4) else jx_gd (jx_in v4 (t.2.1 2)) (jx_lt ((v3 + (t.2.2 2 v4.toNatClampNeg))) (fun x7 => (b_X4_sum_46 t k5 σ v1 v2 x7 v4)))) else (b_X4_sum_46 t k5 σ v1 v2 v3 v4))
set_option maxHeartbeats 4000000 in
set_option maxRecDepth 100000 in
theorem jg_X4_sum_5 (l : Launch) (G : jx_G) (t : jx_T) (hG : ll_ok G) (sz : Nat) (σ0 : jx_M) (out : Int32) (k5 : jx_M → Int32 → Nat → Int32 → Int32 → Option Int32) (h5 : ∀ (σ : jx_M) (v1 : Int32) (v2 : Nat) (v3 : Int32) (v4 : Int32), σ = σ0 → k5 σ v1 v2 v3 v4 = some out → jJ_X4_sum l G t sz σ0 out 5 [(0, .ref (t.1 0)), (1, .int v1), (2, .ref (G.2 (100 + v2))), (3, .int v3), (4, .int v4)] [] σ) (σ : jx_M) (v1 : Int32) (v2 : Nat) (v3 : Int32) (v4 : Int32) (e0 : σ = σ0) (h : g_X4_sum_5 t k5 σ v1 v2 v3 v4 = some out) : jJ_X4_sum l G t sz σ0 out 5 [(0, .ref (t.1 0)), (1, .int v1), (2, .ref (G.2 (100 + v2))), (3, .int v3), (4, .int v4)] [] σ := by
  unfold g_X4_sum_5 at h
  refine jx_iload (pc := 5) (i := 4) rfl dX4_sum_5 ?_
  refine jx_aload_n (pc := 7) (k0 := 0) rfl dX4_sum_7 ?_
  refine ll_gtide_words (pc := 8) fl_X4_9 dX4_sum_8 ?_
  refine ll_ntide_1 (pc := 11) dX4_sum_11 ?_
  refine jx_icmp_ge (pc := 12) (tgt := 52) dX4_sum_12 (by decide) (fun c1 => ?_) (fun c1 => ?_)
  · have h := jx_t c1 h
    refine jx_iload_n (pc := 52) (k0 := 3) rfl dX4_sum_52 ?_
    subst e0
    cases h
    exact jx_iret (pc := 53) dX4_sum_53
  · have h := jx_f c1 h
    refine jx_aload_n (pc := 15) (k0 := 0) rfl dX4_sum_15 ?_
    refine ll_gtide_words (pc := 16) fl_X4_9 dX4_sum_16 ?_
    refine jx_iload (pc := 19) (i := 4) rfl dX4_sum_19 ?_
    obtain ⟨g2, h⟩ := jx_gd_o h
    refine ll_ltide_1 (pc := 21) (jx_in_o g2) rfl dX4_sum_21 ?_
    refine jx_iload_n (pc := 22) (k0 := 1) rfl dX4_sum_22 ?_
    refine jx_icmp_ne (pc := 23) (tgt := 46) dX4_sum_23 (by decide) (fun c3 => ?_) (fun c3 => ?_)
    · have h := jx_f c3 h
      exact jx_sub [0, 1, 2, 3, 4] rfl (jb_X4_sum_46 l G t hG sz σ0 out k5 h5 σ v1 v2 v3 v4 e0 h)
    · have h := jx_t c3 h
      refine jx_aload_n (pc := 26) (k0 := 0) rfl dX4_sum_26 ?_
      refine jx_iload (pc := 27) (i := 4) rfl dX4_sum_27 ?_
      refine jx_aload_n (pc := 29) (k0 := 2) rfl dX4_sum_29 ?_
      obtain ⟨q4, eq4, h⟩ := jx_bd_o h
      refine jx_callVi (pc := 30) [.int v4, .ref (G.2 (100 + v2))] (fun sz' => k_X4_holds l G t hG sz' σ v4 v2 q4 eq4) kv_X4_24 ll_jok ll_rctide rfl rfl (Nat.le_of_ble_eq_true rfl) ⟨⟨rfl, rfl⟩, ⟨Nat.le_of_ble_eq_true rfl, Nat.le_of_ble_eq_true rfl⟩, Nat.zero_le _, Nat.zero_le _⟩ dX4_sum_30 ?_
      refine jx_if_eq (pc := 33) (tgt := 46) dX4_sum_33 (by decide) (fun c5 => ?_) (fun c5 => ?_)
      · have h := jx_t c5 h
        exact jx_sub [0, 1, 2, 3, 4] rfl (jb_X4_sum_46 l G t hG sz σ0 out k5 h5 σ v1 v2 v3 v4 e0 h)
      · have h := jx_f c5 h
        refine jx_iload_n (pc := 36) (k0 := 3) rfl dX4_sum_36 ?_
        refine jx_aload_n (pc := 37) (k0 := 0) rfl dX4_sum_37 ?_
        refine ll_gtide_amounts (pc := 38) fl_X4_15 dX4_sum_38 ?_
        refine jx_iload (pc := 41) (i := 4) rfl dX4_sum_41 ?_
        obtain ⟨g6, h⟩ := jx_gd_o h
        refine ll_ltide_2 (pc := 43) (jx_in_o g6) rfl dX4_sum_43 ?_
        refine jx_iadd (pc := 44) dX4_sum_44 ?_
        obtain ⟨x7, ex7, h⟩ := jx_lt_o h
        refine jx_istore_n (pc := 45) (i := 3) rfl ex7 (by decide) (lv' := [(3, .int x7), (0, .ref (t.1 0)), (1, .int v1), (2, .ref (G.2 (100 + v2))), (4, .int v4)]) rfl dX4_sum_45 ?_
        exact jx_sub [1, 2, 3, 0, 4] rfl (jb_X4_sum_46 l G t hG sz σ0 out k5 h5 σ v1 v2 x7 v4 e0 h)
def b_X4_sum_5 (t : jx_T)  : Nat → jx_M → Int32 → Nat → Int32 → Int32 → Option Int32
  | 0, _, _, _, _, _ => none
  | n + 1, σ, v1, v2, v3, v4 => g_X4_sum_5 t (b_X4_sum_5 t n) σ v1 v2 v3 v4
theorem jb_X4_sum_5 (l : Launch) (G : jx_G) (t : jx_T) (hG : ll_ok G) (sz : Nat) (σ0 : jx_M) (out : Int32)  : ∀ (n : Nat) (σ : jx_M) (v1 : Int32) (v2 : Nat) (v3 : Int32) (v4 : Int32), σ = σ0 → b_X4_sum_5 t n σ v1 v2 v3 v4 = some out → jJ_X4_sum l G t sz σ0 out 5 [(0, .ref (t.1 0)), (1, .int v1), (2, .ref (G.2 (100 + v2))), (3, .int v3), (4, .int v4)] [] σ := by
  intro n
  induction n with
  | zero =>
    intro σ v1 v2 v3 v4 e0 h
    cases h
  | succ n ih =>
    intro σ v1 v2 v3 v4 e0 h
    exact jg_X4_sum_5 l G t hG sz σ0 out (b_X4_sum_5 t n) ih σ v1 v2 v3 v4 e0 h
def f_X4_sum (t : jx_T) (σ : jx_M) (a1 : Int32) (a2 : Nat) : Option Int32 :=
  (b_X4_sum_5 t jx_fuel σ a1 a2 (0 : Int32) (0 : Int32))
set_option maxHeartbeats 4000000 in
set_option maxRecDepth 100000 in
theorem k_X4_sum (l : Launch) (G : jx_G) (t : jx_T) (hG : ll_ok G) (sz : Nat) (σ : jx_M) (a1 : Int32) (a2 : Nat) (out : Int32) (h : f_X4_sum t σ a1 a2 = some out) : Met l yX4_sum (Cond.code yX4_sum cX4_sum 5 (some .int) :: jx_ws) rm_X4_sum (jx_Pc (ll_env G t) (ll_dyn G t) (ll_rg G) sz σ [.ref (t.1 0), .int a1, .ref (G.2 (100 + a2))]) (jx_Qi (ll_dyn G t) σ out (jx_A (ll_rg G) sz)) 0 0 (jx_A (ll_rg G) sz) := by
  unfold f_X4_sum at h
  refine jx_met (by decide) (Nat.le_of_ble_eq_true rfl) ?_
  refine jx_sub (lv' := [(0, .ref (t.1 0)), (1, .int a1), (2, .ref (G.2 (100 + a2)))]) [0, 1, 2] rfl ?_
  refine jx_iconst (pc := 0) (v := (0 : Int32)) (by decide) dX4_sum_0 ?_
  refine jx_istore_n (pc := 1) (i := 3) rfl rfl (by decide) (lv' := [(3, .int (0 : Int32)), (0, .ref (t.1 0)), (1, .int a1), (2, .ref (G.2 (100 + a2)))]) rfl dX4_sum_1 ?_
  refine jx_iconst (pc := 2) (v := (0 : Int32)) (by decide) dX4_sum_2 ?_
  refine jx_istore (pc := 3) (i := 4) rfl (by decide) (lv' := [(4, .int (0 : Int32)), (3, .int (0 : Int32)), (0, .ref (t.1 0)), (1, .int a1), (2, .ref (G.2 (100 + a2)))]) rfl dX4_sum_3 ?_
  exact jx_sub [2, 3, 4, 1, 0] rfl (jb_X4_sum_5 l G t hG sz σ out jx_fuel σ a1 a2 (0 : Int32) (0 : Int32) rfl h)
theorem dX5_feed_0 : decode cX5_feed 0 = .ok (.iload_n 1, 1) := by decide +kernel
theorem dX5_feed_1 : decode cX5_feed 1 = .ok (.iconst 0, 1) := by decide +kernel
theorem dX5_feed_2 : decode cX5_feed 2 = .ok (.bipush 127, 2) := by decide +kernel
theorem dX5_feed_4 : decode cX5_feed 4 = .ok (.invokestatic 48, 3) := by decide +kernel
theorem dX5_feed_7 : decode cX5_feed 7 = .ok (.ifCond .ne 6, 3) := by decide +kernel
theorem dX5_feed_10 : decode cX5_feed 10 = .ok (.bipush (-2), 2) := by decide +kernel
theorem dX5_feed_12 : decode cX5_feed 12 = .ok (.ireturn, 1) := by decide +kernel
theorem dX5_feed_13 : decode cX5_feed 13 = .ok (.aload_n 0, 1) := by decide +kernel
theorem dX5_feed_14 : decode cX5_feed 14 = .ok (.getfield 12, 3) := by decide +kernel
theorem dX5_feed_17 : decode cX5_feed 17 = .ok (.getfield 52, 3) := by decide +kernel
theorem dX5_feed_20 : decode cX5_feed 20 = .ok (.bipush 100, 2) := by decide +kernel
theorem dX5_feed_22 : decode cX5_feed 22 = .ok (.if_icmp .lt 6, 3) := by decide +kernel
theorem dX5_feed_25 : decode cX5_feed 25 = .ok (.bipush (-4), 2) := by decide +kernel
theorem dX5_feed_27 : decode cX5_feed 27 = .ok (.ireturn, 1) := by decide +kernel
theorem dX5_feed_28 : decode cX5_feed 28 = .ok (.aload_n 0, 1) := by decide +kernel
theorem dX5_feed_29 : decode cX5_feed 29 = .ok (.getfield 12, 3) := by decide +kernel
theorem dX5_feed_32 : decode cX5_feed 32 = .ok (.getfield 56, 3) := by decide +kernel
theorem dX5_feed_35 : decode cX5_feed 35 = .ok (.aload_n 0, 1) := by decide +kernel
theorem dX5_feed_36 : decode cX5_feed 36 = .ok (.getfield 12, 3) := by decide +kernel
theorem dX5_feed_39 : decode cX5_feed 39 = .ok (.getfield 52, 3) := by decide +kernel
theorem dX5_feed_42 : decode cX5_feed 42 = .ok (.iload_n 1, 1) := by decide +kernel
theorem dX5_feed_43 : decode cX5_feed 43 = .ok (.iastore, 1) := by decide +kernel
theorem dX5_feed_44 : decode cX5_feed 44 = .ok (.aload_n 0, 1) := by decide +kernel
theorem dX5_feed_45 : decode cX5_feed 45 = .ok (.getfield 12, 3) := by decide +kernel
theorem dX5_feed_48 : decode cX5_feed 48 = .ok (.dup, 1) := by decide +kernel
theorem dX5_feed_49 : decode cX5_feed 49 = .ok (.getfield 52, 3) := by decide +kernel
theorem dX5_feed_52 : decode cX5_feed 52 = .ok (.iconst 1, 1) := by decide +kernel
theorem dX5_feed_53 : decode cX5_feed 53 = .ok (.iadd, 1) := by decide +kernel
theorem dX5_feed_54 : decode cX5_feed 54 = .ok (.putfield 52, 3) := by decide +kernel
theorem dX5_feed_57 : decode cX5_feed 57 = .ok (.aload_n 0, 1) := by decide +kernel
theorem dX5_feed_58 : decode cX5_feed 58 = .ok (.getfield 12, 3) := by decide +kernel
theorem dX5_feed_61 : decode cX5_feed 61 = .ok (.getfield 52, 3) := by decide +kernel
theorem dX5_feed_64 : decode cX5_feed 64 = .ok (.ireturn, 1) := by decide +kernel
abbrev rm_X5_feed : Room := { frames := 1, cells := 0, slots := 0, locals := 22 }
abbrev jJ_X5_feed (l : Launch) (G : jx_G) (t : jx_T) (sz : Nat) (out : (Int32 × jx_M)) (pc : Nat) (lv : List (Nat × Value)) (st : List Value) (σ : jx_M) : Prop := jx_J l (ll_env G t) (ll_dyn G t) (ll_rg G) sz RX5 "feed" cX5_feed 2 (some .int) rm_X5_feed (fun below args s => MQ below (jx_Qi (ll_dyn G t) out.2 out.1 (jx_A (ll_rg G) sz)) args s 0 0 (jx_A (ll_rg G) sz)) 0 0 pc lv st σ
def f_X5_feed (t : jx_T) (σ : jx_M) (a1 : Int32) : Option (Int32 × jx_M) :=
  jx_bd (f_X5_within a1 (0 : Int32) (127 : Int32)) (fun q1 => if q1 = 0 then some ((-2 : Int32), σ) else if (σ 0 3) < (100 : Int32) then jx_gd (jx_in (σ 0 3) 100) (jx_lt (jx_mu σ 14 (σ 0 3).toNatClampNeg a1) (fun σ5 => jx_lt (jx_mu σ5 0 3 ((σ5 0 3) + (1 : Int32))) (fun σ6 => some ((σ6 0 3), σ6)))) else some ((-4 : Int32), σ))
set_option maxHeartbeats 4000000 in
set_option maxRecDepth 100000 in
theorem k_X5_feed (l : Launch) (G : jx_G) (t : jx_T) (hG : ll_ok G) (sz : Nat) (σ : jx_M) (a1 : Int32) (out : (Int32 × jx_M)) (h : f_X5_feed t σ a1 = some out) : Met l yX5_feed (Cond.code yX5_feed cX5_feed 2 (some .int) :: jx_ws) rm_X5_feed (jx_Pc (ll_env G t) (ll_dyn G t) (ll_rg G) sz σ [.ref (G.2 20), .int a1]) (jx_Qi (ll_dyn G t) out.2 out.1 (jx_A (ll_rg G) sz)) 0 0 (jx_A (ll_rg G) sz) := by
  unfold f_X5_feed at h
  refine jx_met (by decide) (Nat.le_of_ble_eq_true rfl) ?_
  refine jx_sub (lv' := [(0, .ref (G.2 20)), (1, .int a1)]) [0, 1] rfl ?_
  refine jx_iload_n (pc := 0) (k0 := 1) rfl dX5_feed_0 ?_
  refine jx_iconst (pc := 1) (v := (0 : Int32)) (by decide) dX5_feed_1 ?_
  refine jx_bipush (pc := 2) (v := (127 : Int32)) (by decide) dX5_feed_2 ?_
  obtain ⟨q1, eq1, h⟩ := jx_bd_o h
  refine jx_callSi (pc := 4) [.int a1, .int (0 : Int32), .int (127 : Int32)] (fun sz' => k_X5_within l G t hG sz' σ a1 (0 : Int32) (127 : Int32) q1 eq1) ks_X5_48 ll_jok rfl rfl (Nat.le_of_ble_eq_true rfl) ⟨⟨rfl, rfl⟩, ⟨Nat.le_of_ble_eq_true rfl, Nat.le_of_ble_eq_true rfl⟩, Nat.zero_le _, Nat.zero_le _⟩ dX5_feed_4 ?_
  refine jx_if_ne (pc := 7) (tgt := 13) dX5_feed_7 (by decide) (fun c2 => ?_) (fun c2 => ?_)
  · have h := jx_f c2 h
    refine jx_aload_n (pc := 13) (k0 := 0) rfl dX5_feed_13 ?_
    refine ll_glamp_now (pc := 14) fl_X5_12 dX5_feed_14 ?_
    refine ll_gnow_signs (pc := 17) fl_X5_52 dX5_feed_17 ?_
    refine jx_bipush (pc := 20) (v := (100 : Int32)) (by decide) dX5_feed_20 ?_
    refine jx_icmp_lt (pc := 22) (tgt := 28) dX5_feed_22 (by decide) (fun c3 => ?_) (fun c3 => ?_)
    · have h := jx_t c3 h
      refine jx_aload_n (pc := 28) (k0 := 0) rfl dX5_feed_28 ?_
      refine ll_glamp_now (pc := 29) fl_X5_12 dX5_feed_29 ?_
      refine ll_gnow_tape (pc := 32) fl_X5_56 dX5_feed_32 ?_
      refine jx_aload_n (pc := 35) (k0 := 0) rfl dX5_feed_35 ?_
      refine ll_glamp_now (pc := 36) fl_X5_12 dX5_feed_36 ?_
      refine ll_gnow_signs (pc := 39) fl_X5_52 dX5_feed_39 ?_
      refine jx_iload_n (pc := 42) (k0 := 1) rfl dX5_feed_42 ?_
      obtain ⟨g4, h⟩ := jx_gd_o h
      obtain ⟨σ5, eσ5, h⟩ := jx_lt_o h
      refine ll_s (pc := 43) (k := 14) hG (jx_in_o g4) rfl eσ5 dX5_feed_43 ?_
      refine jx_aload_n (pc := 44) (k0 := 0) rfl dX5_feed_44 ?_
      refine ll_glamp_now (pc := 45) fl_X5_12 dX5_feed_45 ?_
      refine jx_dup (pc := 48) rfl dX5_feed_48 ?_
      refine ll_gnow_signs (pc := 49) fl_X5_52 dX5_feed_49 ?_
      refine jx_iconst (pc := 52) (v := (1 : Int32)) (by decide) dX5_feed_52 ?_
      refine jx_iadd (pc := 53) dX5_feed_53 ?_
      obtain ⟨σ6, eσ6, h⟩ := jx_lt_o h
      refine ll_pnow_signs (pc := 54) hG fl_X5_52 eσ6 dX5_feed_54 ?_
      refine jx_aload_n (pc := 57) (k0 := 0) rfl dX5_feed_57 ?_
      refine ll_glamp_now (pc := 58) fl_X5_12 dX5_feed_58 ?_
      refine ll_gnow_signs (pc := 61) fl_X5_52 dX5_feed_61 ?_
      cases h
      exact jx_iret (pc := 64) dX5_feed_64
    · have h := jx_f c3 h
      refine jx_bipush (pc := 25) (v := (-4 : Int32)) (by decide) dX5_feed_25 ?_
      cases h
      exact jx_iret (pc := 27) dX5_feed_27
  · have h := jx_t c2 h
    refine jx_bipush (pc := 10) (v := (-2 : Int32)) (by decide) dX5_feed_10 ?_
    cases h
    exact jx_iret (pc := 12) dX5_feed_12
theorem dX5_places_0 : decode cX5_places 0 = .ok (.iload_n 1, 1) := by decide +kernel
theorem dX5_places_1 : decode cX5_places 1 = .ok (.iconst 2, 1) := by decide +kernel
theorem dX5_places_2 : decode cX5_places 2 = .ok (.bipush 7, 2) := by decide +kernel
theorem dX5_places_4 : decode cX5_places 4 = .ok (.invokestatic 48, 3) := by decide +kernel
theorem dX5_places_7 : decode cX5_places 7 = .ok (.ifCond .ne 6, 3) := by decide +kernel
theorem dX5_places_10 : decode cX5_places 10 = .ok (.bipush (-2), 2) := by decide +kernel
theorem dX5_places_12 : decode cX5_places 12 = .ok (.ireturn, 1) := by decide +kernel
theorem dX5_places_13 : decode cX5_places 13 = .ok (.aload_n 0, 1) := by decide +kernel
theorem dX5_places_14 : decode cX5_places 14 = .ok (.getfield 12, 3) := by decide +kernel
theorem dX5_places_17 : decode cX5_places 17 = .ok (.getfield 75, 3) := by decide +kernel
theorem dX5_places_20 : decode cX5_places 20 = .ok (.ifCond .le 6, 3) := by decide +kernel
theorem dX5_places_23 : decode cX5_places 23 = .ok (.bipush (-3), 2) := by decide +kernel
theorem dX5_places_25 : decode cX5_places 25 = .ok (.ireturn, 1) := by decide +kernel
theorem dX5_places_26 : decode cX5_places 26 = .ok (.aload_n 0, 1) := by decide +kernel
theorem dX5_places_27 : decode cX5_places 27 = .ok (.getfield 12, 3) := by decide +kernel
theorem dX5_places_30 : decode cX5_places 30 = .ok (.getfield 78, 3) := by decide +kernel
theorem dX5_places_33 : decode cX5_places 33 = .ok (.istore_n 2, 1) := by decide +kernel
theorem dX5_places_34 : decode cX5_places 34 = .ok (.aload_n 0, 1) := by decide +kernel
theorem dX5_places_35 : decode cX5_places 35 = .ok (.getfield 12, 3) := by decide +kernel
theorem dX5_places_38 : decode cX5_places 38 = .ok (.iload_n 1, 1) := by decide +kernel
theorem dX5_places_39 : decode cX5_places 39 = .ok (.invokevirtual 81, 3) := by decide +kernel
theorem dX5_places_42 : decode cX5_places 42 = .ok (.iload_n 2, 1) := by decide +kernel
theorem dX5_places_43 : decode cX5_places 43 = .ok (.ireturn, 1) := by decide +kernel
abbrev rm_X5_places : Room := { frames := 1, cells := 0, slots := 0, locals := 22 }
abbrev jJ_X5_places (l : Launch) (G : jx_G) (t : jx_T) (sz : Nat) (out : (Int32 × jx_M)) (pc : Nat) (lv : List (Nat × Value)) (st : List Value) (σ : jx_M) : Prop := jx_J l (ll_env G t) (ll_dyn G t) (ll_rg G) sz RX5 "places" cX5_places 3 (some .int) rm_X5_places (fun below args s => MQ below (jx_Qi (ll_dyn G t) out.2 out.1 (jx_A (ll_rg G) sz)) args s 0 0 (jx_A (ll_rg G) sz)) 0 0 pc lv st σ
def f_X5_places (t : jx_T) (σ : jx_M) (a1 : Int32) : Option (Int32 × jx_M) :=
  jx_bd (f_X5_within a1 (2 : Int32) (7 : Int32)) (fun q1 => if q1 = 0 then some ((-2 : Int32), σ) else if (σ 0 2) ≤ 0 then jx_lt ((σ 0 0)) (fun x4 => jx_bd (f_X1_dig t σ a1) (fun q5 => some (x4, q5))) else some ((-3 : Int32), σ))
set_option maxHeartbeats 4000000 in
set_option maxRecDepth 100000 in
theorem k_X5_places (l : Launch) (G : jx_G) (t : jx_T) (hG : ll_ok G) (sz : Nat) (σ : jx_M) (a1 : Int32) (out : (Int32 × jx_M)) (h : f_X5_places t σ a1 = some out) : Met l yX5_places (Cond.code yX5_places cX5_places 3 (some .int) :: jx_ws) rm_X5_places (jx_Pc (ll_env G t) (ll_dyn G t) (ll_rg G) sz σ [.ref (G.2 20), .int a1]) (jx_Qi (ll_dyn G t) out.2 out.1 (jx_A (ll_rg G) sz)) 0 0 (jx_A (ll_rg G) sz) := by
  unfold f_X5_places at h
  refine jx_met (by decide) (Nat.le_of_ble_eq_true rfl) ?_
  refine jx_sub (lv' := [(0, .ref (G.2 20)), (1, .int a1)]) [0, 1] rfl ?_
  refine jx_iload_n (pc := 0) (k0 := 1) rfl dX5_places_0 ?_
  refine jx_iconst (pc := 1) (v := (2 : Int32)) (by decide) dX5_places_1 ?_
  refine jx_bipush (pc := 2) (v := (7 : Int32)) (by decide) dX5_places_2 ?_
  obtain ⟨q1, eq1, h⟩ := jx_bd_o h
  refine jx_callSi (pc := 4) [.int a1, .int (2 : Int32), .int (7 : Int32)] (fun sz' => k_X5_within l G t hG sz' σ a1 (2 : Int32) (7 : Int32) q1 eq1) ks_X5_48 ll_jok rfl rfl (Nat.le_of_ble_eq_true rfl) ⟨⟨rfl, rfl⟩, ⟨Nat.le_of_ble_eq_true rfl, Nat.le_of_ble_eq_true rfl⟩, Nat.zero_le _, Nat.zero_le _⟩ dX5_places_4 ?_
  refine jx_if_ne (pc := 7) (tgt := 13) dX5_places_7 (by decide) (fun c2 => ?_) (fun c2 => ?_)
  · have h := jx_f c2 h
    refine jx_aload_n (pc := 13) (k0 := 0) rfl dX5_places_13 ?_
    refine ll_glamp_now (pc := 14) fl_X5_12 dX5_places_14 ?_
    refine ll_gnow_voters (pc := 17) fl_X5_75 dX5_places_17 ?_
    refine jx_if_le (pc := 20) (tgt := 26) dX5_places_20 (by decide) (fun c3 => ?_) (fun c3 => ?_)
    · have h := jx_t c3 h
      refine jx_aload_n (pc := 26) (k0 := 0) rfl dX5_places_26 ?_
      refine ll_glamp_now (pc := 27) fl_X5_12 dX5_places_27 ?_
      refine ll_gnow_places (pc := 30) fl_X5_78 dX5_places_30 ?_
      obtain ⟨x4, ex4, h⟩ := jx_lt_o h
      refine jx_istore_n (pc := 33) (i := 2) rfl ex4 (by decide) (lv' := [(2, .int x4), (0, .ref (G.2 20)), (1, .int a1)]) rfl dX5_places_33 ?_
      refine jx_aload_n (pc := 34) (k0 := 0) rfl dX5_places_34 ?_
      refine ll_glamp_now (pc := 35) fl_X5_12 dX5_places_35 ?_
      refine jx_iload_n (pc := 38) (k0 := 1) rfl dX5_places_38 ?_
      obtain ⟨q5, eq5, h⟩ := jx_bd_o h
      refine jx_callVv (pc := 39) [.int a1] (fun sz' => k_X1_dig l G t hG sz' σ a1 q5 eq5) kv_X5_81 ll_jok ll_rcnow rfl rfl (Nat.le_of_ble_eq_true rfl) ⟨⟨rfl, rfl⟩, ⟨Nat.le_of_ble_eq_true rfl, Nat.le_of_ble_eq_true rfl⟩, Nat.zero_le _, Nat.zero_le _⟩ dX5_places_39 ?_
      refine jx_iload_n (pc := 42) (k0 := 2) rfl dX5_places_42 ?_
      cases h
      exact jx_iret (pc := 43) dX5_places_43
    · have h := jx_f c3 h
      refine jx_bipush (pc := 23) (v := (-3 : Int32)) (by decide) dX5_places_23 ?_
      cases h
      exact jx_iret (pc := 25) dX5_places_25
  · have h := jx_t c2 h
    refine jx_bipush (pc := 10) (v := (-2 : Int32)) (by decide) dX5_places_10 ?_
    cases h
    exact jx_iret (pc := 12) dX5_places_12
theorem dX5_mayBecome_0 : decode cX5_mayBecome 0 = .ok (.iload_n 1, 1) := by decide +kernel
theorem dX5_mayBecome_1 : decode cX5_mayBecome 1 = .ok (.iconst 2, 1) := by decide +kernel
theorem dX5_mayBecome_2 : decode cX5_mayBecome 2 = .ok (.if_icmp .ne 10, 3) := by decide +kernel
theorem dX5_mayBecome_5 : decode cX5_mayBecome 5 = .ok (.iload_n 2, 1) := by decide +kernel
theorem dX5_mayBecome_6 : decode cX5_mayBecome 6 = .ok (.iconst 0, 1) := by decide +kernel
theorem dX5_mayBecome_7 : decode cX5_mayBecome 7 = .ok (.iconst 2, 1) := by decide +kernel
theorem dX5_mayBecome_8 : decode cX5_mayBecome 8 = .ok (.invokestatic 48, 3) := by decide +kernel
theorem dX5_mayBecome_11 : decode cX5_mayBecome 11 = .ok (.ireturn, 1) := by decide +kernel
theorem dX5_mayBecome_12 : decode cX5_mayBecome 12 = .ok (.aload_n 0, 1) := by decide +kernel
theorem dX5_mayBecome_13 : decode cX5_mayBecome 13 = .ok (.getfield 12, 3) := by decide +kernel
theorem dX5_mayBecome_16 : decode cX5_mayBecome 16 = .ok (.iload_n 2, 1) := by decide +kernel
theorem dX5_mayBecome_17 : decode cX5_mayBecome 17 = .ok (.invokevirtual 85, 3) := by decide +kernel
theorem dX5_mayBecome_20 : decode cX5_mayBecome 20 = .ok (.ifCond .ne 13, 3) := by decide +kernel
theorem dX5_mayBecome_23 : decode cX5_mayBecome 23 = .ok (.iload_n 1, 1) := by decide +kernel
theorem dX5_mayBecome_24 : decode cX5_mayBecome 24 = .ok (.iconst 1, 1) := by decide +kernel
theorem dX5_mayBecome_25 : decode cX5_mayBecome 25 = .ok (.if_icmp .ne 12, 3) := by decide +kernel
theorem dX5_mayBecome_28 : decode cX5_mayBecome 28 = .ok (.iload_n 2, 1) := by decide +kernel
theorem dX5_mayBecome_29 : decode cX5_mayBecome 29 = .ok (.iconst (-1), 1) := by decide +kernel
theorem dX5_mayBecome_30 : decode cX5_mayBecome 30 = .ok (.if_icmp .ne 7, 3) := by decide +kernel
theorem dX5_mayBecome_33 : decode cX5_mayBecome 33 = .ok (.iconst 1, 1) := by decide +kernel
theorem dX5_mayBecome_34 : decode cX5_mayBecome 34 = .ok (.goto 4, 3) := by decide +kernel
theorem dX5_mayBecome_37 : decode cX5_mayBecome 37 = .ok (.iconst 0, 1) := by decide +kernel
theorem dX5_mayBecome_38 : decode cX5_mayBecome 38 = .ok (.ireturn, 1) := by decide +kernel
abbrev rm_X5_mayBecome : Room := { frames := 1, cells := 0, slots := 0, locals := 22 }
abbrev jJ_X5_mayBecome (l : Launch) (G : jx_G) (t : jx_T) (sz : Nat) (σ0 : jx_M) (out : Int32) (pc : Nat) (lv : List (Nat × Value)) (st : List Value) (σ : jx_M) : Prop := jx_J l (ll_env G t) (ll_dyn G t) (ll_rg G) sz RX5 "mayBecome" cX5_mayBecome 3 (some .boolean) rm_X5_mayBecome (fun below args s => MQ below (jx_Qi (ll_dyn G t) σ0 out (jx_A (ll_rg G) sz)) args s 0 0 (jx_A (ll_rg G) sz)) 0 0 pc lv st σ
def f_X5_mayBecome (t : jx_T) (σ : jx_M) (a1 : Int32) (a2 : Int32) : Option Int32 :=
  if a1 = (2 : Int32) then jx_bd (f_X5_within a2 (0 : Int32) (2 : Int32)) (fun q6 => jx_gd (decide (q6 = 0 ∨ q6 = 1)) (some q6)) else jx_bd (f_X1_hasPlace t σ a2) (fun q2 => if q2 = 0 then if a1 = (1 : Int32) then if a2 = (-1 : Int32) then some (1 : Int32) else some (0 : Int32) else some (0 : Int32) else some (1 : Int32))
set_option maxHeartbeats 4000000 in
set_option maxRecDepth 100000 in
theorem k_X5_mayBecome (l : Launch) (G : jx_G) (t : jx_T) (hG : ll_ok G) (sz : Nat) (σ : jx_M) (a1 : Int32) (a2 : Int32) (out : Int32) (h : f_X5_mayBecome t σ a1 a2 = some out) : Met l yX5_mayBecome (Cond.code yX5_mayBecome cX5_mayBecome 3 (some .boolean) :: jx_ws) rm_X5_mayBecome (jx_Pc (ll_env G t) (ll_dyn G t) (ll_rg G) sz σ [.ref (G.2 20), .int a1, .int a2]) (jx_Qi (ll_dyn G t) σ out (jx_A (ll_rg G) sz)) 0 0 (jx_A (ll_rg G) sz) := by
  unfold f_X5_mayBecome at h
  refine jx_met (by decide) (Nat.le_of_ble_eq_true rfl) ?_
  refine jx_sub (lv' := [(0, .ref (G.2 20)), (1, .int a1), (2, .int a2)]) [0, 1, 2] rfl ?_
  refine jx_iload_n (pc := 0) (k0 := 1) rfl dX5_mayBecome_0 ?_
  refine jx_iconst (pc := 1) (v := (2 : Int32)) (by decide) dX5_mayBecome_1 ?_
  refine jx_icmp_ne (pc := 2) (tgt := 12) dX5_mayBecome_2 (by decide) (fun c1 => ?_) (fun c1 => ?_)
  · have h := jx_f c1 h
    refine jx_aload_n (pc := 12) (k0 := 0) rfl dX5_mayBecome_12 ?_
    refine ll_glamp_now (pc := 13) fl_X5_12 dX5_mayBecome_13 ?_
    refine jx_iload_n (pc := 16) (k0 := 2) rfl dX5_mayBecome_16 ?_
    obtain ⟨q2, eq2, h⟩ := jx_bd_o h
    refine jx_callVi (pc := 17) [.int a2] (fun sz' => k_X1_hasPlace l G t hG sz' σ a2 q2 eq2) kv_X5_85 ll_jok ll_rcnow rfl rfl (Nat.le_of_ble_eq_true rfl) ⟨⟨rfl, rfl⟩, ⟨Nat.le_of_ble_eq_true rfl, Nat.le_of_ble_eq_true rfl⟩, Nat.zero_le _, Nat.zero_le _⟩ dX5_mayBecome_17 ?_
    refine jx_if_ne (pc := 20) (tgt := 33) dX5_mayBecome_20 (by decide) (fun c3 => ?_) (fun c3 => ?_)
    · have h := jx_f c3 h
      refine jx_iconst (pc := 33) (v := (1 : Int32)) (by decide) dX5_mayBecome_33 ?_
      refine jx_goto (pc := 34) (tgt := 38) dX5_mayBecome_34 (by decide) ?_
      cases h
      exact jx_zret (pc := 38) (Or.inr rfl) dX5_mayBecome_38
    · have h := jx_t c3 h
      refine jx_iload_n (pc := 23) (k0 := 1) rfl dX5_mayBecome_23 ?_
      refine jx_iconst (pc := 24) (v := (1 : Int32)) (by decide) dX5_mayBecome_24 ?_
      refine jx_icmp_ne (pc := 25) (tgt := 37) dX5_mayBecome_25 (by decide) (fun c4 => ?_) (fun c4 => ?_)
      · have h := jx_f c4 h
        refine jx_iconst (pc := 37) (v := (0 : Int32)) (by decide) dX5_mayBecome_37 ?_
        cases h
        exact jx_zret (pc := 38) (Or.inl rfl) dX5_mayBecome_38
      · have h := jx_t c4 h
        refine jx_iload_n (pc := 28) (k0 := 2) rfl dX5_mayBecome_28 ?_
        refine jx_iconst (pc := 29) (v := (-1 : Int32)) (by decide) dX5_mayBecome_29 ?_
        refine jx_icmp_ne (pc := 30) (tgt := 37) dX5_mayBecome_30 (by decide) (fun c5 => ?_) (fun c5 => ?_)
        · have h := jx_f c5 h
          refine jx_iconst (pc := 37) (v := (0 : Int32)) (by decide) dX5_mayBecome_37 ?_
          cases h
          exact jx_zret (pc := 38) (Or.inl rfl) dX5_mayBecome_38
        · have h := jx_t c5 h
          refine jx_iconst (pc := 33) (v := (1 : Int32)) (by decide) dX5_mayBecome_33 ?_
          refine jx_goto (pc := 34) (tgt := 38) dX5_mayBecome_34 (by decide) ?_
          cases h
          exact jx_zret (pc := 38) (Or.inr rfl) dX5_mayBecome_38
  · have h := jx_t c1 h
    refine jx_iload_n (pc := 5) (k0 := 2) rfl dX5_mayBecome_5 ?_
    refine jx_iconst (pc := 6) (v := (0 : Int32)) (by decide) dX5_mayBecome_6 ?_
    refine jx_iconst (pc := 7) (v := (2 : Int32)) (by decide) dX5_mayBecome_7 ?_
    obtain ⟨q6, eq6, h⟩ := jx_bd_o h
    refine jx_callSi (pc := 8) [.int a2, .int (0 : Int32), .int (2 : Int32)] (fun sz' => k_X5_within l G t hG sz' σ a2 (0 : Int32) (2 : Int32) q6 eq6) ks_X5_48 ll_jok rfl rfl (Nat.le_of_ble_eq_true rfl) ⟨⟨rfl, rfl⟩, ⟨Nat.le_of_ble_eq_true rfl, Nat.le_of_ble_eq_true rfl⟩, Nat.zero_le _, Nat.zero_le _⟩ dX5_mayBecome_8 ?_
    obtain ⟨g7, h⟩ := jx_gd_o h
    cases h
    exact jx_zret (pc := 11) (of_decide_eq_true g7) dX5_mayBecome_11
theorem dX5_voter_0 : decode cX5_voter 0 = .ok (.iload_n 1, 1) := by decide +kernel
theorem dX5_voter_1 : decode cX5_voter 1 = .ok (.iconst 0, 1) := by decide +kernel
theorem dX5_voter_2 : decode cX5_voter 2 = .ok (.bipush 6, 2) := by decide +kernel
theorem dX5_voter_4 : decode cX5_voter 4 = .ok (.invokestatic 48, 3) := by decide +kernel
theorem dX5_voter_7 : decode cX5_voter 7 = .ok (.ifCond .eq 14, 3) := by decide +kernel
theorem dX5_voter_10 : decode cX5_voter 10 = .ok (.aload_n 0, 1) := by decide +kernel
theorem dX5_voter_11 : decode cX5_voter 11 = .ok (.getfield 12, 3) := by decide +kernel
theorem dX5_voter_14 : decode cX5_voter 14 = .ok (.iload_n 3, 1) := by decide +kernel
theorem dX5_voter_15 : decode cX5_voter 15 = .ok (.invokevirtual 85, 3) := by decide +kernel
theorem dX5_voter_18 : decode cX5_voter 18 = .ok (.ifCond .ne 5, 3) := by decide +kernel
theorem dX5_voter_21 : decode cX5_voter 21 = .ok (.iconst (-1), 1) := by decide +kernel
theorem dX5_voter_22 : decode cX5_voter 22 = .ok (.ireturn, 1) := by decide +kernel
theorem dX5_voter_23 : decode cX5_voter 23 = .ok (.iload_n 2, 1) := by decide +kernel
theorem dX5_voter_24 : decode cX5_voter 24 = .ok (.iconst 0, 1) := by decide +kernel
theorem dX5_voter_25 : decode cX5_voter 25 = .ok (.bipush 9, 2) := by decide +kernel
theorem dX5_voter_27 : decode cX5_voter 27 = .ok (.invokestatic 48, 3) := by decide +kernel
theorem dX5_voter_30 : decode cX5_voter 30 = .ok (.ifCond .eq 24, 3) := by decide +kernel
theorem dX5_voter_33 : decode cX5_voter 33 = .ok (.iload 4, 2) := by decide +kernel
theorem dX5_voter_35 : decode cX5_voter 35 = .ok (.iconst 0, 1) := by decide +kernel
theorem dX5_voter_36 : decode cX5_voter 36 = .ok (.iconst 1, 1) := by decide +kernel
theorem dX5_voter_37 : decode cX5_voter 37 = .ok (.invokestatic 48, 3) := by decide +kernel
theorem dX5_voter_40 : decode cX5_voter 40 = .ok (.ifCond .eq 14, 3) := by decide +kernel
theorem dX5_voter_43 : decode cX5_voter 43 = .ok (.iload 5, 2) := by decide +kernel
theorem dX5_voter_45 : decode cX5_voter 45 = .ok (.iconst 0, 1) := by decide +kernel
theorem dX5_voter_46 : decode cX5_voter 46 = .ok (.bipush 12, 2) := by decide +kernel
theorem dX5_voter_48 : decode cX5_voter 48 = .ok (.invokestatic 48, 3) := by decide +kernel
theorem dX5_voter_51 : decode cX5_voter 51 = .ok (.ifCond .ne 6, 3) := by decide +kernel
theorem dX5_voter_54 : decode cX5_voter 54 = .ok (.bipush (-2), 2) := by decide +kernel
theorem dX5_voter_56 : decode cX5_voter 56 = .ok (.ireturn, 1) := by decide +kernel
theorem dX5_voter_57 : decode cX5_voter 57 = .ok (.aload_n 0, 1) := by decide +kernel
theorem dX5_voter_58 : decode cX5_voter 58 = .ok (.getfield 12, 3) := by decide +kernel
theorem dX5_voter_61 : decode cX5_voter 61 = .ok (.getfield 75, 3) := by decide +kernel
theorem dX5_voter_64 : decode cX5_voter 64 = .ok (.bipush 6, 2) := by decide +kernel
theorem dX5_voter_66 : decode cX5_voter 66 = .ok (.if_icmp .lt 6, 3) := by decide +kernel
theorem dX5_voter_69 : decode cX5_voter 69 = .ok (.bipush (-4), 2) := by decide +kernel
theorem dX5_voter_71 : decode cX5_voter 71 = .ok (.ireturn, 1) := by decide +kernel
theorem dX5_voter_72 : decode cX5_voter 72 = .ok (.aload_n 0, 1) := by decide +kernel
theorem dX5_voter_73 : decode cX5_voter 73 = .ok (.getfield 12, 3) := by decide +kernel
theorem dX5_voter_76 : decode cX5_voter 76 = .ok (.getfield 110, 3) := by decide +kernel
theorem dX5_voter_79 : decode cX5_voter 79 = .ok (.aload_n 0, 1) := by decide +kernel
theorem dX5_voter_80 : decode cX5_voter 80 = .ok (.getfield 12, 3) := by decide +kernel
theorem dX5_voter_83 : decode cX5_voter 83 = .ok (.getfield 75, 3) := by decide +kernel
theorem dX5_voter_86 : decode cX5_voter 86 = .ok (.aaload, 1) := by decide +kernel
theorem dX5_voter_87 : decode cX5_voter 87 = .ok (.astore 6, 2) := by decide +kernel
theorem dX5_voter_89 : decode cX5_voter 89 = .ok (.aload 6, 2) := by decide +kernel
theorem dX5_voter_91 : decode cX5_voter 91 = .ok (.iconst 0, 1) := by decide +kernel
theorem dX5_voter_92 : decode cX5_voter 92 = .ok (.invokestatic 113, 3) := by decide +kernel
theorem dX5_voter_95 : decode cX5_voter 95 = .ok (.aload 6, 2) := by decide +kernel
theorem dX5_voter_97 : decode cX5_voter 97 = .ok (.iconst 0, 1) := by decide +kernel
theorem dX5_voter_98 : decode cX5_voter 98 = .ok (.iload_n 1, 1) := by decide +kernel
theorem dX5_voter_99 : decode cX5_voter 99 = .ok (.iastore, 1) := by decide +kernel
theorem dX5_voter_100 : decode cX5_voter 100 = .ok (.aload 6, 2) := by decide +kernel
theorem dX5_voter_102 : decode cX5_voter 102 = .ok (.iconst 1, 1) := by decide +kernel
theorem dX5_voter_103 : decode cX5_voter 103 = .ok (.iload_n 2, 1) := by decide +kernel
theorem dX5_voter_104 : decode cX5_voter 104 = .ok (.iastore, 1) := by decide +kernel
theorem dX5_voter_105 : decode cX5_voter 105 = .ok (.aload 6, 2) := by decide +kernel
theorem dX5_voter_107 : decode cX5_voter 107 = .ok (.iconst 2, 1) := by decide +kernel
theorem dX5_voter_108 : decode cX5_voter 108 = .ok (.iload_n 3, 1) := by decide +kernel
theorem dX5_voter_109 : decode cX5_voter 109 = .ok (.iastore, 1) := by decide +kernel
theorem dX5_voter_110 : decode cX5_voter 110 = .ok (.aload 6, 2) := by decide +kernel
theorem dX5_voter_112 : decode cX5_voter 112 = .ok (.iconst 3, 1) := by decide +kernel
theorem dX5_voter_113 : decode cX5_voter 113 = .ok (.iload 4, 2) := by decide +kernel
theorem dX5_voter_115 : decode cX5_voter 115 = .ok (.iastore, 1) := by decide +kernel
theorem dX5_voter_116 : decode cX5_voter 116 = .ok (.aload 6, 2) := by decide +kernel
theorem dX5_voter_118 : decode cX5_voter 118 = .ok (.iconst 4, 1) := by decide +kernel
theorem dX5_voter_119 : decode cX5_voter 119 = .ok (.iload 5, 2) := by decide +kernel
theorem dX5_voter_121 : decode cX5_voter 121 = .ok (.iastore, 1) := by decide +kernel
theorem dX5_voter_122 : decode cX5_voter 122 = .ok (.aload_n 0, 1) := by decide +kernel
theorem dX5_voter_123 : decode cX5_voter 123 = .ok (.getfield 12, 3) := by decide +kernel
theorem dX5_voter_126 : decode cX5_voter 126 = .ok (.dup, 1) := by decide +kernel
theorem dX5_voter_127 : decode cX5_voter 127 = .ok (.getfield 75, 3) := by decide +kernel
theorem dX5_voter_130 : decode cX5_voter 130 = .ok (.iconst 1, 1) := by decide +kernel
theorem dX5_voter_131 : decode cX5_voter 131 = .ok (.iadd, 1) := by decide +kernel
theorem dX5_voter_132 : decode cX5_voter 132 = .ok (.putfield 75, 3) := by decide +kernel
theorem dX5_voter_135 : decode cX5_voter 135 = .ok (.aload_n 0, 1) := by decide +kernel
theorem dX5_voter_136 : decode cX5_voter 136 = .ok (.getfield 12, 3) := by decide +kernel
theorem dX5_voter_139 : decode cX5_voter 139 = .ok (.getfield 75, 3) := by decide +kernel
theorem dX5_voter_142 : decode cX5_voter 142 = .ok (.iconst 1, 1) := by decide +kernel
theorem dX5_voter_143 : decode cX5_voter 143 = .ok (.isub, 1) := by decide +kernel
theorem dX5_voter_144 : decode cX5_voter 144 = .ok (.ireturn, 1) := by decide +kernel
abbrev rm_X5_voter : Room := { frames := 1, cells := 0, slots := 0, locals := 23 }
abbrev jJ_X5_voter (l : Launch) (G : jx_G) (t : jx_T) (sz : Nat) (out : (Int32 × jx_M)) (pc : Nat) (lv : List (Nat × Value)) (st : List Value) (σ : jx_M) : Prop := jx_J l (ll_env G t) (ll_dyn G t) (ll_rg G) sz RX5 "voter" cX5_voter 7 (some .int) rm_X5_voter (fun below args s => MQ below (jx_Qi (ll_dyn G t) out.2 out.1 (jx_A (ll_rg G) sz)) args s 0 0 (jx_A (ll_rg G) sz)) 0 0 pc lv st σ
def f_X5_voter (t : jx_T) (σ : jx_M) (a1 : Int32) (a2 : Int32) (a3 : Int32) (a4 : Int32) (a5 : Int32) : Option (Int32 × jx_M) :=
  jx_bd (f_X5_within a1 (0 : Int32) (6 : Int32)) (fun q1 => if q1 = 0 then some ((-1 : Int32), σ) else jx_bd (f_X1_hasPlace t σ a3) (fun q3 => if q3 = 0 then some ((-1 : Int32), σ) else jx_bd (f_X5_within a2 (0 : Int32) (9 : Int32)) (fun q5 => if q5 = 0 then some ((-2 : Int32), σ) else jx_bd (f_X5_within a4 (0 : Int32) (1 : Int32)) (fun q7 => if q7 = 0 then some ((-2 : Int32), σ) else jx_bd (f_X5_within a5 (0 : Int32) (12 : Int32)) (fun q9 => if q9 = 0 then some ((-2 : Int32), σ) else if (σ 0 2) < (6 : Int32) then jx_gd (jx_in (σ 0 2) 6) (jx_bd (f_J7_fill_53178 t σ (8 + (σ 0 2).toNatClampNeg) (0 : Int32)) (fun q13 => jx_gd (jx_in (0 : Int32) (ll_len (8 + (σ 0 2).toNatClampNeg))) (jx_lt (jx_mu q13 (8 + (σ 0 2).toNatClampNeg) 0 a1) (fun σ15 => jx_gd (jx_in (1 : Int32) (ll_len (8 + (σ 0 2).toNatClampNeg))) (jx_lt (jx_mu σ15 (8 + (σ 0 2).toNatClampNeg) 1 a2) (fun σ17 => jx_gd (jx_in (2 : Int32) (ll_len (8 + (σ 0 2).toNatClampNeg))) (jx_lt (jx_mu σ17 (8 + (σ 0 2).toNatClampNeg) 2 a3) (fun σ19 => jx_gd (jx_in (3 : Int32) (ll_len (8 + (σ 0 2).toNatClampNeg))) (jx_lt (jx_mu σ19 (8 + (σ 0 2).toNatClampNeg) 3 a4) (fun σ21 => jx_gd (jx_in (4 : Int32) (ll_len (8 + (σ 0 2).toNatClampNeg))) (jx_lt (jx_mu σ21 (8 + (σ 0 2).toNatClampNeg) 4 a5) (fun σ23 => jx_lt (jx_mu σ23 0 2 ((σ23 0 2) + (1 : Int32))) (fun σ24 => some (((σ24 0 2) - (1 : Int32)), σ24)))))))))))))) else some ((-4 : Int32), σ))))))
set_option maxHeartbeats 4000000 in
set_option maxRecDepth 100000 in
theorem k_X5_voter (l : Launch) (G : jx_G) (t : jx_T) (hG : ll_ok G) (sz : Nat) (σ : jx_M) (a1 : Int32) (a2 : Int32) (a3 : Int32) (a4 : Int32) (a5 : Int32) (out : (Int32 × jx_M)) (h : f_X5_voter t σ a1 a2 a3 a4 a5 = some out) : Met l yX5_voter (Cond.code yX5_voter cX5_voter 7 (some .int) :: jx_ws) rm_X5_voter (jx_Pc (ll_env G t) (ll_dyn G t) (ll_rg G) sz σ [.ref (G.2 20), .int a1, .int a2, .int a3, .int a4, .int a5]) (jx_Qi (ll_dyn G t) out.2 out.1 (jx_A (ll_rg G) sz)) 0 0 (jx_A (ll_rg G) sz) := by
  unfold f_X5_voter at h
  refine jx_met (by decide) (Nat.le_of_ble_eq_true rfl) ?_
  refine jx_sub (lv' := [(0, .ref (G.2 20)), (1, .int a1), (2, .int a2), (3, .int a3), (4, .int a4), (5, .int a5)]) [0, 1, 2, 3, 4, 5] rfl ?_
  refine jx_iload_n (pc := 0) (k0 := 1) rfl dX5_voter_0 ?_
  refine jx_iconst (pc := 1) (v := (0 : Int32)) (by decide) dX5_voter_1 ?_
  refine jx_bipush (pc := 2) (v := (6 : Int32)) (by decide) dX5_voter_2 ?_
  obtain ⟨q1, eq1, h⟩ := jx_bd_o h
  refine jx_callSi (pc := 4) [.int a1, .int (0 : Int32), .int (6 : Int32)] (fun sz' => k_X5_within l G t hG sz' σ a1 (0 : Int32) (6 : Int32) q1 eq1) ks_X5_48 ll_jok rfl rfl (Nat.le_of_ble_eq_true rfl) ⟨⟨rfl, rfl⟩, ⟨Nat.le_of_ble_eq_true rfl, Nat.le_of_ble_eq_true rfl⟩, Nat.zero_le _, Nat.zero_le _⟩ dX5_voter_4 ?_
  refine jx_if_eq (pc := 7) (tgt := 21) dX5_voter_7 (by decide) (fun c2 => ?_) (fun c2 => ?_)
  · have h := jx_t c2 h
    refine jx_iconst (pc := 21) (v := (-1 : Int32)) (by decide) dX5_voter_21 ?_
    cases h
    exact jx_iret (pc := 22) dX5_voter_22
  · have h := jx_f c2 h
    refine jx_aload_n (pc := 10) (k0 := 0) rfl dX5_voter_10 ?_
    refine ll_glamp_now (pc := 11) fl_X5_12 dX5_voter_11 ?_
    refine jx_iload_n (pc := 14) (k0 := 3) rfl dX5_voter_14 ?_
    obtain ⟨q3, eq3, h⟩ := jx_bd_o h
    refine jx_callVi (pc := 15) [.int a3] (fun sz' => k_X1_hasPlace l G t hG sz' σ a3 q3 eq3) kv_X5_85 ll_jok ll_rcnow rfl rfl (Nat.le_of_ble_eq_true rfl) ⟨⟨rfl, rfl⟩, ⟨Nat.le_of_ble_eq_true rfl, Nat.le_of_ble_eq_true rfl⟩, Nat.zero_le _, Nat.zero_le _⟩ dX5_voter_15 ?_
    refine jx_if_ne (pc := 18) (tgt := 23) dX5_voter_18 (by decide) (fun c4 => ?_) (fun c4 => ?_)
    · have h := jx_f c4 h
      refine jx_iload_n (pc := 23) (k0 := 2) rfl dX5_voter_23 ?_
      refine jx_iconst (pc := 24) (v := (0 : Int32)) (by decide) dX5_voter_24 ?_
      refine jx_bipush (pc := 25) (v := (9 : Int32)) (by decide) dX5_voter_25 ?_
      obtain ⟨q5, eq5, h⟩ := jx_bd_o h
      refine jx_callSi (pc := 27) [.int a2, .int (0 : Int32), .int (9 : Int32)] (fun sz' => k_X5_within l G t hG sz' σ a2 (0 : Int32) (9 : Int32) q5 eq5) ks_X5_48 ll_jok rfl rfl (Nat.le_of_ble_eq_true rfl) ⟨⟨rfl, rfl⟩, ⟨Nat.le_of_ble_eq_true rfl, Nat.le_of_ble_eq_true rfl⟩, Nat.zero_le _, Nat.zero_le _⟩ dX5_voter_27 ?_
      refine jx_if_eq (pc := 30) (tgt := 54) dX5_voter_30 (by decide) (fun c6 => ?_) (fun c6 => ?_)
      · have h := jx_t c6 h
        refine jx_bipush (pc := 54) (v := (-2 : Int32)) (by decide) dX5_voter_54 ?_
        cases h
        exact jx_iret (pc := 56) dX5_voter_56
      · have h := jx_f c6 h
        refine jx_iload (pc := 33) (i := 4) rfl dX5_voter_33 ?_
        refine jx_iconst (pc := 35) (v := (0 : Int32)) (by decide) dX5_voter_35 ?_
        refine jx_iconst (pc := 36) (v := (1 : Int32)) (by decide) dX5_voter_36 ?_
        obtain ⟨q7, eq7, h⟩ := jx_bd_o h
        refine jx_callSi (pc := 37) [.int a4, .int (0 : Int32), .int (1 : Int32)] (fun sz' => k_X5_within l G t hG sz' σ a4 (0 : Int32) (1 : Int32) q7 eq7) ks_X5_48 ll_jok rfl rfl (Nat.le_of_ble_eq_true rfl) ⟨⟨rfl, rfl⟩, ⟨Nat.le_of_ble_eq_true rfl, Nat.le_of_ble_eq_true rfl⟩, Nat.zero_le _, Nat.zero_le _⟩ dX5_voter_37 ?_
        refine jx_if_eq (pc := 40) (tgt := 54) dX5_voter_40 (by decide) (fun c8 => ?_) (fun c8 => ?_)
        · have h := jx_t c8 h
          refine jx_bipush (pc := 54) (v := (-2 : Int32)) (by decide) dX5_voter_54 ?_
          cases h
          exact jx_iret (pc := 56) dX5_voter_56
        · have h := jx_f c8 h
          refine jx_iload (pc := 43) (i := 5) rfl dX5_voter_43 ?_
          refine jx_iconst (pc := 45) (v := (0 : Int32)) (by decide) dX5_voter_45 ?_
          refine jx_bipush (pc := 46) (v := (12 : Int32)) (by decide) dX5_voter_46 ?_
          obtain ⟨q9, eq9, h⟩ := jx_bd_o h
          refine jx_callSi (pc := 48) [.int a5, .int (0 : Int32), .int (12 : Int32)] (fun sz' => k_X5_within l G t hG sz' σ a5 (0 : Int32) (12 : Int32) q9 eq9) ks_X5_48 ll_jok rfl rfl (Nat.le_of_ble_eq_true rfl) ⟨⟨rfl, rfl⟩, ⟨Nat.le_of_ble_eq_true rfl, Nat.le_of_ble_eq_true rfl⟩, Nat.zero_le _, Nat.zero_le _⟩ dX5_voter_48 ?_
          refine jx_if_ne (pc := 51) (tgt := 57) dX5_voter_51 (by decide) (fun c10 => ?_) (fun c10 => ?_)
          · have h := jx_f c10 h
            refine jx_aload_n (pc := 57) (k0 := 0) rfl dX5_voter_57 ?_
            refine ll_glamp_now (pc := 58) fl_X5_12 dX5_voter_58 ?_
            refine ll_gnow_voters (pc := 61) fl_X5_75 dX5_voter_61 ?_
            refine jx_bipush (pc := 64) (v := (6 : Int32)) (by decide) dX5_voter_64 ?_
            refine jx_icmp_lt (pc := 66) (tgt := 72) dX5_voter_66 (by decide) (fun c11 => ?_) (fun c11 => ?_)
            · have h := jx_t c11 h
              refine jx_aload_n (pc := 72) (k0 := 0) rfl dX5_voter_72 ?_
              refine ll_glamp_now (pc := 73) fl_X5_12 dX5_voter_73 ?_
              refine ll_gnow_voter (pc := 76) fl_X5_110 dX5_voter_76 ?_
              refine jx_aload_n (pc := 79) (k0 := 0) rfl dX5_voter_79 ?_
              refine ll_glamp_now (pc := 80) fl_X5_12 dX5_voter_80 ?_
              refine ll_gnow_voters (pc := 83) fl_X5_75 dX5_voter_83 ?_
              obtain ⟨g12, h⟩ := jx_gd_o h
              refine ll_a_now_voter (pc := 86) (jx_in_o g12) dX5_voter_86 ?_
              refine jx_astore (pc := 87) (i := 6) rfl (by decide) (lv' := [(6, .ref (G.2 (100 + (8 + (σ 0 2).toNatClampNeg)))), (0, .ref (G.2 20)), (1, .int a1), (2, .int a2), (3, .int a3), (4, .int a4), (5, .int a5)]) rfl dX5_voter_87 ?_
              refine jx_aload (pc := 89) (i := 6) rfl dX5_voter_89 ?_
              refine jx_iconst (pc := 91) (v := (0 : Int32)) (by decide) dX5_voter_91 ?_
              obtain ⟨q13, eq13, h⟩ := jx_bd_o h
              refine jx_callSv (pc := 92) [.ref (G.2 (100 + (8 + (σ 0 2).toNatClampNeg))), .int (0 : Int32)] (fun sz' => k_J7_fill_53178 l G t hG sz' σ (8 + (σ 0 2).toNatClampNeg) (0 : Int32) q13 eq13) ks_X5_113 ll_jok rfl rfl (Nat.le_of_ble_eq_true rfl) ⟨⟨rfl, rfl⟩, ⟨Nat.le_of_ble_eq_true rfl, Nat.le_of_ble_eq_true rfl⟩, Nat.zero_le _, Nat.zero_le _⟩ dX5_voter_92 ?_
              refine jx_aload (pc := 95) (i := 6) rfl dX5_voter_95 ?_
              refine jx_iconst (pc := 97) (v := (0 : Int32)) (by decide) dX5_voter_97 ?_
              refine jx_iload_n (pc := 98) (k0 := 1) rfl dX5_voter_98 ?_
              obtain ⟨g14, h⟩ := jx_gd_o h
              obtain ⟨σ15, eσ15, h⟩ := jx_lt_o h
              refine ll_s (pc := 99) (k := (8 + (σ 0 2).toNatClampNeg)) hG (jx_in_o g14) (by decide) eσ15 dX5_voter_99 ?_
              refine jx_aload (pc := 100) (i := 6) rfl dX5_voter_100 ?_
              refine jx_iconst (pc := 102) (v := (1 : Int32)) (by decide) dX5_voter_102 ?_
              refine jx_iload_n (pc := 103) (k0 := 2) rfl dX5_voter_103 ?_
              obtain ⟨g16, h⟩ := jx_gd_o h
              obtain ⟨σ17, eσ17, h⟩ := jx_lt_o h
              refine ll_s (pc := 104) (k := (8 + (σ 0 2).toNatClampNeg)) hG (jx_in_o g16) (by decide) eσ17 dX5_voter_104 ?_
              refine jx_aload (pc := 105) (i := 6) rfl dX5_voter_105 ?_
              refine jx_iconst (pc := 107) (v := (2 : Int32)) (by decide) dX5_voter_107 ?_
              refine jx_iload_n (pc := 108) (k0 := 3) rfl dX5_voter_108 ?_
              obtain ⟨g18, h⟩ := jx_gd_o h
              obtain ⟨σ19, eσ19, h⟩ := jx_lt_o h
              refine ll_s (pc := 109) (k := (8 + (σ 0 2).toNatClampNeg)) hG (jx_in_o g18) (by decide) eσ19 dX5_voter_109 ?_
              refine jx_aload (pc := 110) (i := 6) rfl dX5_voter_110 ?_
              refine jx_iconst (pc := 112) (v := (3 : Int32)) (by decide) dX5_voter_112 ?_
              refine jx_iload (pc := 113) (i := 4) rfl dX5_voter_113 ?_
              obtain ⟨g20, h⟩ := jx_gd_o h
              obtain ⟨σ21, eσ21, h⟩ := jx_lt_o h
              refine ll_s (pc := 115) (k := (8 + (σ 0 2).toNatClampNeg)) hG (jx_in_o g20) (by decide) eσ21 dX5_voter_115 ?_
              refine jx_aload (pc := 116) (i := 6) rfl dX5_voter_116 ?_
              refine jx_iconst (pc := 118) (v := (4 : Int32)) (by decide) dX5_voter_118 ?_
              refine jx_iload (pc := 119) (i := 5) rfl dX5_voter_119 ?_
              obtain ⟨g22, h⟩ := jx_gd_o h
              obtain ⟨σ23, eσ23, h⟩ := jx_lt_o h
              refine ll_s (pc := 121) (k := (8 + (σ 0 2).toNatClampNeg)) hG (jx_in_o g22) (by decide) eσ23 dX5_voter_121 ?_
              refine jx_aload_n (pc := 122) (k0 := 0) rfl dX5_voter_122 ?_
              refine ll_glamp_now (pc := 123) fl_X5_12 dX5_voter_123 ?_
              refine jx_dup (pc := 126) rfl dX5_voter_126 ?_
              refine ll_gnow_voters (pc := 127) fl_X5_75 dX5_voter_127 ?_
              refine jx_iconst (pc := 130) (v := (1 : Int32)) (by decide) dX5_voter_130 ?_
              refine jx_iadd (pc := 131) dX5_voter_131 ?_
              obtain ⟨σ24, eσ24, h⟩ := jx_lt_o h
              refine ll_pnow_voters (pc := 132) hG fl_X5_75 eσ24 dX5_voter_132 ?_
              refine jx_aload_n (pc := 135) (k0 := 0) rfl dX5_voter_135 ?_
              refine ll_glamp_now (pc := 136) fl_X5_12 dX5_voter_136 ?_
              refine ll_gnow_voters (pc := 139) fl_X5_75 dX5_voter_139 ?_
              refine jx_iconst (pc := 142) (v := (1 : Int32)) (by decide) dX5_voter_142 ?_
              refine jx_isub (pc := 143) dX5_voter_143 ?_
              cases h
              exact jx_iret (pc := 144) dX5_voter_144
            · have h := jx_f c11 h
              refine jx_bipush (pc := 69) (v := (-4 : Int32)) (by decide) dX5_voter_69 ?_
              cases h
              exact jx_iret (pc := 71) dX5_voter_71
          · have h := jx_t c10 h
            refine jx_bipush (pc := 54) (v := (-2 : Int32)) (by decide) dX5_voter_54 ?_
            cases h
            exact jx_iret (pc := 56) dX5_voter_56
    · have h := jx_t c4 h
      refine jx_iconst (pc := 21) (v := (-1 : Int32)) (by decide) dX5_voter_21 ?_
      cases h
      exact jx_iret (pc := 22) dX5_voter_22
theorem dX5_wish_0 : decode cX5_wish 0 = .ok (.aload_n 0, 1) := by decide +kernel
theorem dX5_wish_1 : decode cX5_wish 1 = .ok (.getfield 12, 3) := by decide +kernel
theorem dX5_wish_4 : decode cX5_wish 4 = .ok (.iload_n 1, 1) := by decide +kernel
theorem dX5_wish_5 : decode cX5_wish 5 = .ok (.invokevirtual 119, 3) := by decide +kernel
theorem dX5_wish_8 : decode cX5_wish 8 = .ok (.ifCond .ne 5, 3) := by decide +kernel
theorem dX5_wish_11 : decode cX5_wish 11 = .ok (.iconst (-1), 1) := by decide +kernel
theorem dX5_wish_12 : decode cX5_wish 12 = .ok (.ireturn, 1) := by decide +kernel
theorem dX5_wish_13 : decode cX5_wish 13 = .ok (.iload_n 2, 1) := by decide +kernel
theorem dX5_wish_14 : decode cX5_wish 14 = .ok (.iconst 0, 1) := by decide +kernel
theorem dX5_wish_15 : decode cX5_wish 15 = .ok (.iconst 1, 1) := by decide +kernel
theorem dX5_wish_16 : decode cX5_wish 16 = .ok (.invokestatic 48, 3) := by decide +kernel
theorem dX5_wish_19 : decode cX5_wish 19 = .ok (.ifCond .ne 6, 3) := by decide +kernel
theorem dX5_wish_22 : decode cX5_wish 22 = .ok (.bipush (-2), 2) := by decide +kernel
theorem dX5_wish_24 : decode cX5_wish 24 = .ok (.ireturn, 1) := by decide +kernel
theorem dX5_wish_25 : decode cX5_wish 25 = .ok (.aload_n 0, 1) := by decide +kernel
theorem dX5_wish_26 : decode cX5_wish 26 = .ok (.getfield 12, 3) := by decide +kernel
theorem dX5_wish_29 : decode cX5_wish 29 = .ok (.getfield 110, 3) := by decide +kernel
theorem dX5_wish_32 : decode cX5_wish 32 = .ok (.iload_n 1, 1) := by decide +kernel
theorem dX5_wish_33 : decode cX5_wish 33 = .ok (.aaload, 1) := by decide +kernel
theorem dX5_wish_34 : decode cX5_wish 34 = .ok (.iconst 3, 1) := by decide +kernel
theorem dX5_wish_35 : decode cX5_wish 35 = .ok (.iaload, 1) := by decide +kernel
theorem dX5_wish_36 : decode cX5_wish 36 = .ok (.istore_n 3, 1) := by decide +kernel
theorem dX5_wish_37 : decode cX5_wish 37 = .ok (.aload_n 0, 1) := by decide +kernel
theorem dX5_wish_38 : decode cX5_wish 38 = .ok (.getfield 12, 3) := by decide +kernel
theorem dX5_wish_41 : decode cX5_wish 41 = .ok (.getfield 110, 3) := by decide +kernel
theorem dX5_wish_44 : decode cX5_wish 44 = .ok (.iload_n 1, 1) := by decide +kernel
theorem dX5_wish_45 : decode cX5_wish 45 = .ok (.aaload, 1) := by decide +kernel
theorem dX5_wish_46 : decode cX5_wish 46 = .ok (.iconst 3, 1) := by decide +kernel
theorem dX5_wish_47 : decode cX5_wish 47 = .ok (.iload_n 2, 1) := by decide +kernel
theorem dX5_wish_48 : decode cX5_wish 48 = .ok (.iastore, 1) := by decide +kernel
theorem dX5_wish_49 : decode cX5_wish 49 = .ok (.iload_n 3, 1) := by decide +kernel
theorem dX5_wish_50 : decode cX5_wish 50 = .ok (.ireturn, 1) := by decide +kernel
abbrev rm_X5_wish : Room := { frames := 1, cells := 0, slots := 0, locals := 22 }
abbrev jJ_X5_wish (l : Launch) (G : jx_G) (t : jx_T) (sz : Nat) (out : (Int32 × jx_M)) (pc : Nat) (lv : List (Nat × Value)) (st : List Value) (σ : jx_M) : Prop := jx_J l (ll_env G t) (ll_dyn G t) (ll_rg G) sz RX5 "wish" cX5_wish 4 (some .int) rm_X5_wish (fun below args s => MQ below (jx_Qi (ll_dyn G t) out.2 out.1 (jx_A (ll_rg G) sz)) args s 0 0 (jx_A (ll_rg G) sz)) 0 0 pc lv st σ
def f_X5_wish (t : jx_T) (σ : jx_M) (a1 : Int32) (a2 : Int32) : Option (Int32 × jx_M) :=
  jx_bd (f_X1_hasVoter t σ a1) (fun q1 => if q1 = 0 then some ((-1 : Int32), σ) else jx_bd (f_X5_within a2 (0 : Int32) (1 : Int32)) (fun q3 => if q3 = 0 then some ((-2 : Int32), σ) else jx_gd (jx_in a1 6) (jx_gd (jx_in (3 : Int32) (ll_len (8 + a1.toNatClampNeg))) (jx_lt ((σ (8 + a1.toNatClampNeg) 3)) (fun x7 => jx_gd (jx_in a1 6) (jx_gd (jx_in (3 : Int32) (ll_len (8 + a1.toNatClampNeg))) (jx_lt (jx_mu σ (8 + a1.toNatClampNeg) 3 a2) (fun σ10 => some (x7, σ10)))))))))
set_option maxHeartbeats 4000000 in
set_option maxRecDepth 100000 in
theorem k_X5_wish (l : Launch) (G : jx_G) (t : jx_T) (hG : ll_ok G) (sz : Nat) (σ : jx_M) (a1 : Int32) (a2 : Int32) (out : (Int32 × jx_M)) (h : f_X5_wish t σ a1 a2 = some out) : Met l yX5_wish (Cond.code yX5_wish cX5_wish 4 (some .int) :: jx_ws) rm_X5_wish (jx_Pc (ll_env G t) (ll_dyn G t) (ll_rg G) sz σ [.ref (G.2 20), .int a1, .int a2]) (jx_Qi (ll_dyn G t) out.2 out.1 (jx_A (ll_rg G) sz)) 0 0 (jx_A (ll_rg G) sz) := by
  unfold f_X5_wish at h
  refine jx_met (by decide) (Nat.le_of_ble_eq_true rfl) ?_
  refine jx_sub (lv' := [(0, .ref (G.2 20)), (1, .int a1), (2, .int a2)]) [0, 1, 2] rfl ?_
  refine jx_aload_n (pc := 0) (k0 := 0) rfl dX5_wish_0 ?_
  refine ll_glamp_now (pc := 1) fl_X5_12 dX5_wish_1 ?_
  refine jx_iload_n (pc := 4) (k0 := 1) rfl dX5_wish_4 ?_
  obtain ⟨q1, eq1, h⟩ := jx_bd_o h
  refine jx_callVi (pc := 5) [.int a1] (fun sz' => k_X1_hasVoter l G t hG sz' σ a1 q1 eq1) kv_X5_119 ll_jok ll_rcnow rfl rfl (Nat.le_of_ble_eq_true rfl) ⟨⟨rfl, rfl⟩, ⟨Nat.le_of_ble_eq_true rfl, Nat.le_of_ble_eq_true rfl⟩, Nat.zero_le _, Nat.zero_le _⟩ dX5_wish_5 ?_
  refine jx_if_ne (pc := 8) (tgt := 13) dX5_wish_8 (by decide) (fun c2 => ?_) (fun c2 => ?_)
  · have h := jx_f c2 h
    refine jx_iload_n (pc := 13) (k0 := 2) rfl dX5_wish_13 ?_
    refine jx_iconst (pc := 14) (v := (0 : Int32)) (by decide) dX5_wish_14 ?_
    refine jx_iconst (pc := 15) (v := (1 : Int32)) (by decide) dX5_wish_15 ?_
    obtain ⟨q3, eq3, h⟩ := jx_bd_o h
    refine jx_callSi (pc := 16) [.int a2, .int (0 : Int32), .int (1 : Int32)] (fun sz' => k_X5_within l G t hG sz' σ a2 (0 : Int32) (1 : Int32) q3 eq3) ks_X5_48 ll_jok rfl rfl (Nat.le_of_ble_eq_true rfl) ⟨⟨rfl, rfl⟩, ⟨Nat.le_of_ble_eq_true rfl, Nat.le_of_ble_eq_true rfl⟩, Nat.zero_le _, Nat.zero_le _⟩ dX5_wish_16 ?_
    refine jx_if_ne (pc := 19) (tgt := 25) dX5_wish_19 (by decide) (fun c4 => ?_) (fun c4 => ?_)
    · have h := jx_f c4 h
      refine jx_aload_n (pc := 25) (k0 := 0) rfl dX5_wish_25 ?_
      refine ll_glamp_now (pc := 26) fl_X5_12 dX5_wish_26 ?_
      refine ll_gnow_voter (pc := 29) fl_X5_110 dX5_wish_29 ?_
      refine jx_iload_n (pc := 32) (k0 := 1) rfl dX5_wish_32 ?_
      obtain ⟨g5, h⟩ := jx_gd_o h
      refine ll_a_now_voter (pc := 33) (jx_in_o g5) dX5_wish_33 ?_
      refine jx_iconst (pc := 34) (v := (3 : Int32)) (by decide) dX5_wish_34 ?_
      obtain ⟨g6, h⟩ := jx_gd_o h
      refine ll_l (pc := 35) (k := (8 + a1.toNatClampNeg)) (j := 3) (jx_in_o g6) (by decide) dX5_wish_35 ?_
      obtain ⟨x7, ex7, h⟩ := jx_lt_o h
      refine jx_istore_n (pc := 36) (i := 3) rfl ex7 (by decide) (lv' := [(3, .int x7), (0, .ref (G.2 20)), (1, .int a1), (2, .int a2)]) rfl dX5_wish_36 ?_
      refine jx_aload_n (pc := 37) (k0 := 0) rfl dX5_wish_37 ?_
      refine ll_glamp_now (pc := 38) fl_X5_12 dX5_wish_38 ?_
      refine ll_gnow_voter (pc := 41) fl_X5_110 dX5_wish_41 ?_
      refine jx_iload_n (pc := 44) (k0 := 1) rfl dX5_wish_44 ?_
      obtain ⟨g8, h⟩ := jx_gd_o h
      refine ll_a_now_voter (pc := 45) (jx_in_o g8) dX5_wish_45 ?_
      refine jx_iconst (pc := 46) (v := (3 : Int32)) (by decide) dX5_wish_46 ?_
      refine jx_iload_n (pc := 47) (k0 := 2) rfl dX5_wish_47 ?_
      obtain ⟨g9, h⟩ := jx_gd_o h
      obtain ⟨σ10, eσ10, h⟩ := jx_lt_o h
      refine ll_s (pc := 48) (k := (8 + a1.toNatClampNeg)) hG (jx_in_o g9) (by decide) eσ10 dX5_wish_48 ?_
      refine jx_iload_n (pc := 49) (k0 := 3) rfl dX5_wish_49 ?_
      cases h
      exact jx_iret (pc := 50) dX5_wish_50
    · have h := jx_t c4 h
      refine jx_bipush (pc := 22) (v := (-2 : Int32)) (by decide) dX5_wish_22 ?_
      cases h
      exact jx_iret (pc := 24) dX5_wish_24
  · have h := jx_t c2 h
    refine jx_iconst (pc := 11) (v := (-1 : Int32)) (by decide) dX5_wish_11 ?_
    cases h
    exact jx_iret (pc := 12) dX5_wish_12
theorem dX5_row_0 : decode cX5_row 0 = .ok (.aload_n 0, 1) := by decide +kernel
theorem dX5_row_1 : decode cX5_row 1 = .ok (.getfield 12, 3) := by decide +kernel
theorem dX5_row_4 : decode cX5_row 4 = .ok (.iload_n 1, 1) := by decide +kernel
theorem dX5_row_5 : decode cX5_row 5 = .ok (.invokevirtual 119, 3) := by decide +kernel
theorem dX5_row_8 : decode cX5_row 8 = .ok (.ifCond .eq 23, 3) := by decide +kernel
theorem dX5_row_11 : decode cX5_row 11 = .ok (.iload_n 2, 1) := by decide +kernel
theorem dX5_row_12 : decode cX5_row 12 = .ok (.iconst 0, 1) := by decide +kernel
theorem dX5_row_13 : decode cX5_row 13 = .ok (.iconst 2, 1) := by decide +kernel
theorem dX5_row_14 : decode cX5_row 14 = .ok (.invokestatic 48, 3) := by decide +kernel
theorem dX5_row_17 : decode cX5_row 17 = .ok (.ifCond .eq 14, 3) := by decide +kernel
theorem dX5_row_20 : decode cX5_row 20 = .ok (.aload_n 0, 1) := by decide +kernel
theorem dX5_row_21 : decode cX5_row 21 = .ok (.getfield 12, 3) := by decide +kernel
theorem dX5_row_24 : decode cX5_row 24 = .ok (.iload_n 3, 1) := by decide +kernel
theorem dX5_row_25 : decode cX5_row 25 = .ok (.invokevirtual 85, 3) := by decide +kernel
theorem dX5_row_28 : decode cX5_row 28 = .ok (.ifCond .ne 5, 3) := by decide +kernel
theorem dX5_row_31 : decode cX5_row 31 = .ok (.iconst (-1), 1) := by decide +kernel
theorem dX5_row_32 : decode cX5_row 32 = .ok (.ireturn, 1) := by decide +kernel
theorem dX5_row_33 : decode cX5_row 33 = .ok (.aload_n 0, 1) := by decide +kernel
theorem dX5_row_34 : decode cX5_row 34 = .ok (.getfield 12, 3) := by decide +kernel
theorem dX5_row_37 : decode cX5_row 37 = .ok (.getfield 110, 3) := by decide +kernel
theorem dX5_row_40 : decode cX5_row 40 = .ok (.iload_n 1, 1) := by decide +kernel
theorem dX5_row_41 : decode cX5_row 41 = .ok (.aaload, 1) := by decide +kernel
theorem dX5_row_42 : decode cX5_row 42 = .ok (.astore 4, 2) := by decide +kernel
theorem dX5_row_44 : decode cX5_row 44 = .ok (.aload 4, 2) := by decide +kernel
theorem dX5_row_46 : decode cX5_row 46 = .ok (.iconst 0, 1) := by decide +kernel
theorem dX5_row_47 : decode cX5_row 47 = .ok (.iaload, 1) := by decide +kernel
theorem dX5_row_48 : decode cX5_row 48 = .ok (.bipush 6, 2) := by decide +kernel
theorem dX5_row_50 : decode cX5_row 50 = .ok (.if_icmp .eq 6, 3) := by decide +kernel
theorem dX5_row_53 : decode cX5_row 53 = .ok (.bipush (-3), 2) := by decide +kernel
theorem dX5_row_55 : decode cX5_row 55 = .ok (.ireturn, 1) := by decide +kernel
theorem dX5_row_56 : decode cX5_row 56 = .ok (.aload 4, 2) := by decide +kernel
theorem dX5_row_58 : decode cX5_row 58 = .ok (.iconst 5, 1) := by decide +kernel
theorem dX5_row_59 : decode cX5_row 59 = .ok (.iload_n 2, 1) := by decide +kernel
theorem dX5_row_60 : decode cX5_row 60 = .ok (.iadd, 1) := by decide +kernel
theorem dX5_row_61 : decode cX5_row 61 = .ok (.iaload, 1) := by decide +kernel
theorem dX5_row_62 : decode cX5_row 62 = .ok (.istore 5, 2) := by decide +kernel
theorem dX5_row_64 : decode cX5_row 64 = .ok (.aload 4, 2) := by decide +kernel
theorem dX5_row_66 : decode cX5_row 66 = .ok (.iconst 5, 1) := by decide +kernel
theorem dX5_row_67 : decode cX5_row 67 = .ok (.iload_n 2, 1) := by decide +kernel
theorem dX5_row_68 : decode cX5_row 68 = .ok (.iadd, 1) := by decide +kernel
theorem dX5_row_69 : decode cX5_row 69 = .ok (.iload_n 3, 1) := by decide +kernel
theorem dX5_row_70 : decode cX5_row 70 = .ok (.iastore, 1) := by decide +kernel
theorem dX5_row_71 : decode cX5_row 71 = .ok (.iload 5, 2) := by decide +kernel
theorem dX5_row_73 : decode cX5_row 73 = .ok (.ireturn, 1) := by decide +kernel
abbrev rm_X5_row : Room := { frames := 1, cells := 0, slots := 0, locals := 22 }
abbrev jJ_X5_row (l : Launch) (G : jx_G) (t : jx_T) (sz : Nat) (out : (Int32 × jx_M)) (pc : Nat) (lv : List (Nat × Value)) (st : List Value) (σ : jx_M) : Prop := jx_J l (ll_env G t) (ll_dyn G t) (ll_rg G) sz RX5 "row" cX5_row 6 (some .int) rm_X5_row (fun below args s => MQ below (jx_Qi (ll_dyn G t) out.2 out.1 (jx_A (ll_rg G) sz)) args s 0 0 (jx_A (ll_rg G) sz)) 0 0 pc lv st σ
def f_X5_row (t : jx_T) (σ : jx_M) (a1 : Int32) (a2 : Int32) (a3 : Int32) : Option (Int32 × jx_M) :=
  jx_bd (f_X1_hasVoter t σ a1) (fun q1 => if q1 = 0 then some ((-1 : Int32), σ) else jx_bd (f_X5_within a2 (0 : Int32) (2 : Int32)) (fun q3 => if q3 = 0 then some ((-1 : Int32), σ) else jx_bd (f_X1_hasPlace t σ a3) (fun q5 => if q5 = 0 then some ((-1 : Int32), σ) else jx_gd (jx_in a1 6) (jx_gd (jx_in (0 : Int32) (ll_len (8 + a1.toNatClampNeg))) (if (σ (8 + a1.toNatClampNeg) 0) = (6 : Int32) then jx_gd (jx_in ((5 : Int32) + a2) (ll_len (8 + a1.toNatClampNeg))) (jx_lt ((σ (8 + a1.toNatClampNeg) ((5 : Int32) + a2).toNatClampNeg)) (fun x11 => jx_gd (jx_in ((5 : Int32) + a2) (ll_len (8 + a1.toNatClampNeg))) (jx_lt (jx_mu σ (8 + a1.toNatClampNeg) ((5 : Int32) + a2).toNatClampNeg a3) (fun σ13 => some (x11, σ13))))) else some ((-3 : Int32), σ))))))
set_option maxHeartbeats 4000000 in
set_option maxRecDepth 100000 in
theorem k_X5_row (l : Launch) (G : jx_G) (t : jx_T) (hG : ll_ok G) (sz : Nat) (σ : jx_M) (a1 : Int32) (a2 : Int32) (a3 : Int32) (out : (Int32 × jx_M)) (h : f_X5_row t σ a1 a2 a3 = some out) : Met l yX5_row (Cond.code yX5_row cX5_row 6 (some .int) :: jx_ws) rm_X5_row (jx_Pc (ll_env G t) (ll_dyn G t) (ll_rg G) sz σ [.ref (G.2 20), .int a1, .int a2, .int a3]) (jx_Qi (ll_dyn G t) out.2 out.1 (jx_A (ll_rg G) sz)) 0 0 (jx_A (ll_rg G) sz) := by
  unfold f_X5_row at h
  refine jx_met (by decide) (Nat.le_of_ble_eq_true rfl) ?_
  refine jx_sub (lv' := [(0, .ref (G.2 20)), (1, .int a1), (2, .int a2), (3, .int a3)]) [0, 1, 2, 3] rfl ?_
  refine jx_aload_n (pc := 0) (k0 := 0) rfl dX5_row_0 ?_
  refine ll_glamp_now (pc := 1) fl_X5_12 dX5_row_1 ?_
  refine jx_iload_n (pc := 4) (k0 := 1) rfl dX5_row_4 ?_
  obtain ⟨q1, eq1, h⟩ := jx_bd_o h
  refine jx_callVi (pc := 5) [.int a1] (fun sz' => k_X1_hasVoter l G t hG sz' σ a1 q1 eq1) kv_X5_119 ll_jok ll_rcnow rfl rfl (Nat.le_of_ble_eq_true rfl) ⟨⟨rfl, rfl⟩, ⟨Nat.le_of_ble_eq_true rfl, Nat.le_of_ble_eq_true rfl⟩, Nat.zero_le _, Nat.zero_le _⟩ dX5_row_5 ?_
  refine jx_if_eq (pc := 8) (tgt := 31) dX5_row_8 (by decide) (fun c2 => ?_) (fun c2 => ?_)
  · have h := jx_t c2 h
    refine jx_iconst (pc := 31) (v := (-1 : Int32)) (by decide) dX5_row_31 ?_
    cases h
    exact jx_iret (pc := 32) dX5_row_32
  · have h := jx_f c2 h
    refine jx_iload_n (pc := 11) (k0 := 2) rfl dX5_row_11 ?_
    refine jx_iconst (pc := 12) (v := (0 : Int32)) (by decide) dX5_row_12 ?_
    refine jx_iconst (pc := 13) (v := (2 : Int32)) (by decide) dX5_row_13 ?_
    obtain ⟨q3, eq3, h⟩ := jx_bd_o h
    refine jx_callSi (pc := 14) [.int a2, .int (0 : Int32), .int (2 : Int32)] (fun sz' => k_X5_within l G t hG sz' σ a2 (0 : Int32) (2 : Int32) q3 eq3) ks_X5_48 ll_jok rfl rfl (Nat.le_of_ble_eq_true rfl) ⟨⟨rfl, rfl⟩, ⟨Nat.le_of_ble_eq_true rfl, Nat.le_of_ble_eq_true rfl⟩, Nat.zero_le _, Nat.zero_le _⟩ dX5_row_14 ?_
    refine jx_if_eq (pc := 17) (tgt := 31) dX5_row_17 (by decide) (fun c4 => ?_) (fun c4 => ?_)
    · have h := jx_t c4 h
      refine jx_iconst (pc := 31) (v := (-1 : Int32)) (by decide) dX5_row_31 ?_
      cases h
      exact jx_iret (pc := 32) dX5_row_32
    · have h := jx_f c4 h
      refine jx_aload_n (pc := 20) (k0 := 0) rfl dX5_row_20 ?_
      refine ll_glamp_now (pc := 21) fl_X5_12 dX5_row_21 ?_
      refine jx_iload_n (pc := 24) (k0 := 3) rfl dX5_row_24 ?_
      obtain ⟨q5, eq5, h⟩ := jx_bd_o h
      refine jx_callVi (pc := 25) [.int a3] (fun sz' => k_X1_hasPlace l G t hG sz' σ a3 q5 eq5) kv_X5_85 ll_jok ll_rcnow rfl rfl (Nat.le_of_ble_eq_true rfl) ⟨⟨rfl, rfl⟩, ⟨Nat.le_of_ble_eq_true rfl, Nat.le_of_ble_eq_true rfl⟩, Nat.zero_le _, Nat.zero_le _⟩ dX5_row_25 ?_
      refine jx_if_ne (pc := 28) (tgt := 33) dX5_row_28 (by decide) (fun c6 => ?_) (fun c6 => ?_)
      · have h := jx_f c6 h
        refine jx_aload_n (pc := 33) (k0 := 0) rfl dX5_row_33 ?_
        refine ll_glamp_now (pc := 34) fl_X5_12 dX5_row_34 ?_
        refine ll_gnow_voter (pc := 37) fl_X5_110 dX5_row_37 ?_
        refine jx_iload_n (pc := 40) (k0 := 1) rfl dX5_row_40 ?_
        obtain ⟨g7, h⟩ := jx_gd_o h
        refine ll_a_now_voter (pc := 41) (jx_in_o g7) dX5_row_41 ?_
        refine jx_astore (pc := 42) (i := 4) rfl (by decide) (lv' := [(4, .ref (G.2 (100 + (8 + a1.toNatClampNeg)))), (0, .ref (G.2 20)), (1, .int a1), (2, .int a2), (3, .int a3)]) rfl dX5_row_42 ?_
        refine jx_aload (pc := 44) (i := 4) rfl dX5_row_44 ?_
        refine jx_iconst (pc := 46) (v := (0 : Int32)) (by decide) dX5_row_46 ?_
        obtain ⟨g8, h⟩ := jx_gd_o h
        refine ll_l (pc := 47) (k := (8 + a1.toNatClampNeg)) (j := 0) (jx_in_o g8) (by decide) dX5_row_47 ?_
        refine jx_bipush (pc := 48) (v := (6 : Int32)) (by decide) dX5_row_48 ?_
        refine jx_icmp_eq (pc := 50) (tgt := 56) dX5_row_50 (by decide) (fun c9 => ?_) (fun c9 => ?_)
        · have h := jx_t c9 h
          refine jx_aload (pc := 56) (i := 4) rfl dX5_row_56 ?_
          refine jx_iconst (pc := 58) (v := (5 : Int32)) (by decide) dX5_row_58 ?_
          refine jx_iload_n (pc := 59) (k0 := 2) rfl dX5_row_59 ?_
          refine jx_iadd (pc := 60) dX5_row_60 ?_
          obtain ⟨g10, h⟩ := jx_gd_o h
          refine ll_l (pc := 61) (k := (8 + a1.toNatClampNeg)) (jx_in_o g10) rfl dX5_row_61 ?_
          obtain ⟨x11, ex11, h⟩ := jx_lt_o h
          refine jx_istore (pc := 62) (i := 5) ex11 (by decide) (lv' := [(5, .int x11), (4, .ref (G.2 (100 + (8 + a1.toNatClampNeg)))), (0, .ref (G.2 20)), (1, .int a1), (2, .int a2), (3, .int a3)]) rfl dX5_row_62 ?_
          refine jx_aload (pc := 64) (i := 4) rfl dX5_row_64 ?_
          refine jx_iconst (pc := 66) (v := (5 : Int32)) (by decide) dX5_row_66 ?_
          refine jx_iload_n (pc := 67) (k0 := 2) rfl dX5_row_67 ?_
          refine jx_iadd (pc := 68) dX5_row_68 ?_
          refine jx_iload_n (pc := 69) (k0 := 3) rfl dX5_row_69 ?_
          obtain ⟨g12, h⟩ := jx_gd_o h
          obtain ⟨σ13, eσ13, h⟩ := jx_lt_o h
          refine ll_s (pc := 70) (k := (8 + a1.toNatClampNeg)) hG (jx_in_o g12) rfl eσ13 dX5_row_70 ?_
          refine jx_iload (pc := 71) (i := 5) rfl dX5_row_71 ?_
          cases h
          exact jx_iret (pc := 73) dX5_row_73
        · have h := jx_f c9 h
          refine jx_bipush (pc := 53) (v := (-3 : Int32)) (by decide) dX5_row_53 ?_
          cases h
          exact jx_iret (pc := 55) dX5_row_55
      · have h := jx_t c6 h
        refine jx_iconst (pc := 31) (v := (-1 : Int32)) (by decide) dX5_row_31 ?_
        cases h
        exact jx_iret (pc := 32) dX5_row_32
theorem dX5_minutes_0 : decode cX5_minutes 0 = .ok (.iload_n 1, 1) := by decide +kernel
theorem dX5_minutes_1 : decode cX5_minutes 1 = .ok (.iconst 0, 1) := by decide +kernel
theorem dX5_minutes_2 : decode cX5_minutes 2 = .ok (.bipush 60, 2) := by decide +kernel
theorem dX5_minutes_4 : decode cX5_minutes 4 = .ok (.invokestatic 48, 3) := by decide +kernel
theorem dX5_minutes_7 : decode cX5_minutes 7 = .ok (.ifCond .ne 6, 3) := by decide +kernel
theorem dX5_minutes_10 : decode cX5_minutes 10 = .ok (.bipush (-2), 2) := by decide +kernel
theorem dX5_minutes_12 : decode cX5_minutes 12 = .ok (.ireturn, 1) := by decide +kernel
theorem dX5_minutes_13 : decode cX5_minutes 13 = .ok (.aload_n 0, 1) := by decide +kernel
theorem dX5_minutes_14 : decode cX5_minutes 14 = .ok (.getfield 12, 3) := by decide +kernel
theorem dX5_minutes_17 : decode cX5_minutes 17 = .ok (.getfield 97, 3) := by decide +kernel
theorem dX5_minutes_20 : decode cX5_minutes 20 = .ok (.iload_n 1, 1) := by decide +kernel
theorem dX5_minutes_21 : decode cX5_minutes 21 = .ok (.iadd, 1) := by decide +kernel
theorem dX5_minutes_22 : decode cX5_minutes 22 = .ok (.sipush 9999, 3) := by decide +kernel
theorem dX5_minutes_25 : decode cX5_minutes 25 = .ok (.if_icmp .le 6, 3) := by decide +kernel
theorem dX5_minutes_28 : decode cX5_minutes 28 = .ok (.bipush (-3), 2) := by decide +kernel
theorem dX5_minutes_30 : decode cX5_minutes 30 = .ok (.ireturn, 1) := by decide +kernel
theorem dX5_minutes_31 : decode cX5_minutes 31 = .ok (.aload_n 0, 1) := by decide +kernel
theorem dX5_minutes_32 : decode cX5_minutes 32 = .ok (.getfield 12, 3) := by decide +kernel
theorem dX5_minutes_35 : decode cX5_minutes 35 = .ok (.dup, 1) := by decide +kernel
theorem dX5_minutes_36 : decode cX5_minutes 36 = .ok (.getfield 97, 3) := by decide +kernel
theorem dX5_minutes_39 : decode cX5_minutes 39 = .ok (.iload_n 1, 1) := by decide +kernel
theorem dX5_minutes_40 : decode cX5_minutes 40 = .ok (.iadd, 1) := by decide +kernel
theorem dX5_minutes_41 : decode cX5_minutes 41 = .ok (.putfield 97, 3) := by decide +kernel
theorem dX5_minutes_44 : decode cX5_minutes 44 = .ok (.aload_n 0, 1) := by decide +kernel
theorem dX5_minutes_45 : decode cX5_minutes 45 = .ok (.getfield 12, 3) := by decide +kernel
theorem dX5_minutes_48 : decode cX5_minutes 48 = .ok (.getfield 97, 3) := by decide +kernel
theorem dX5_minutes_51 : decode cX5_minutes 51 = .ok (.ireturn, 1) := by decide +kernel
abbrev rm_X5_minutes : Room := { frames := 1, cells := 0, slots := 0, locals := 22 }
abbrev jJ_X5_minutes (l : Launch) (G : jx_G) (t : jx_T) (sz : Nat) (out : (Int32 × jx_M)) (pc : Nat) (lv : List (Nat × Value)) (st : List Value) (σ : jx_M) : Prop := jx_J l (ll_env G t) (ll_dyn G t) (ll_rg G) sz RX5 "minutes" cX5_minutes 2 (some .int) rm_X5_minutes (fun below args s => MQ below (jx_Qi (ll_dyn G t) out.2 out.1 (jx_A (ll_rg G) sz)) args s 0 0 (jx_A (ll_rg G) sz)) 0 0 pc lv st σ
def f_X5_minutes (t : jx_T) (σ : jx_M) (a1 : Int32) : Option (Int32 × jx_M) :=
  jx_bd (f_X5_within a1 (0 : Int32) (60 : Int32)) (fun q1 => if q1 = 0 then some ((-2 : Int32), σ) else if ((σ 0 1) + a1) ≤ (9999 : Int32) then jx_lt (jx_mu σ 0 1 ((σ 0 1) + a1)) (fun σ4 => some ((σ4 0 1), σ4)) else some ((-3 : Int32), σ))
set_option maxHeartbeats 4000000 in
set_option maxRecDepth 100000 in
theorem k_X5_minutes (l : Launch) (G : jx_G) (t : jx_T) (hG : ll_ok G) (sz : Nat) (σ : jx_M) (a1 : Int32) (out : (Int32 × jx_M)) (h : f_X5_minutes t σ a1 = some out) : Met l yX5_minutes (Cond.code yX5_minutes cX5_minutes 2 (some .int) :: jx_ws) rm_X5_minutes (jx_Pc (ll_env G t) (ll_dyn G t) (ll_rg G) sz σ [.ref (G.2 20), .int a1]) (jx_Qi (ll_dyn G t) out.2 out.1 (jx_A (ll_rg G) sz)) 0 0 (jx_A (ll_rg G) sz) := by
  unfold f_X5_minutes at h
  refine jx_met (by decide) (Nat.le_of_ble_eq_true rfl) ?_
  refine jx_sub (lv' := [(0, .ref (G.2 20)), (1, .int a1)]) [0, 1] rfl ?_
  refine jx_iload_n (pc := 0) (k0 := 1) rfl dX5_minutes_0 ?_
  refine jx_iconst (pc := 1) (v := (0 : Int32)) (by decide) dX5_minutes_1 ?_
  refine jx_bipush (pc := 2) (v := (60 : Int32)) (by decide) dX5_minutes_2 ?_
  obtain ⟨q1, eq1, h⟩ := jx_bd_o h
  refine jx_callSi (pc := 4) [.int a1, .int (0 : Int32), .int (60 : Int32)] (fun sz' => k_X5_within l G t hG sz' σ a1 (0 : Int32) (60 : Int32) q1 eq1) ks_X5_48 ll_jok rfl rfl (Nat.le_of_ble_eq_true rfl) ⟨⟨rfl, rfl⟩, ⟨Nat.le_of_ble_eq_true rfl, Nat.le_of_ble_eq_true rfl⟩, Nat.zero_le _, Nat.zero_le _⟩ dX5_minutes_4 ?_
  refine jx_if_ne (pc := 7) (tgt := 13) dX5_minutes_7 (by decide) (fun c2 => ?_) (fun c2 => ?_)
  · have h := jx_f c2 h
    refine jx_aload_n (pc := 13) (k0 := 0) rfl dX5_minutes_13 ?_
    refine ll_glamp_now (pc := 14) fl_X5_12 dX5_minutes_14 ?_
    refine ll_gnow_minute (pc := 17) fl_X5_97 dX5_minutes_17 ?_
    refine jx_iload_n (pc := 20) (k0 := 1) rfl dX5_minutes_20 ?_
    refine jx_iadd (pc := 21) dX5_minutes_21 ?_
    refine jx_sipush (pc := 22) (v := (9999 : Int32)) (by decide) dX5_minutes_22 ?_
    refine jx_icmp_le (pc := 25) (tgt := 31) dX5_minutes_25 (by decide) (fun c3 => ?_) (fun c3 => ?_)
    · have h := jx_t c3 h
      refine jx_aload_n (pc := 31) (k0 := 0) rfl dX5_minutes_31 ?_
      refine ll_glamp_now (pc := 32) fl_X5_12 dX5_minutes_32 ?_
      refine jx_dup (pc := 35) rfl dX5_minutes_35 ?_
      refine ll_gnow_minute (pc := 36) fl_X5_97 dX5_minutes_36 ?_
      refine jx_iload_n (pc := 39) (k0 := 1) rfl dX5_minutes_39 ?_
      refine jx_iadd (pc := 40) dX5_minutes_40 ?_
      obtain ⟨σ4, eσ4, h⟩ := jx_lt_o h
      refine ll_pnow_minute (pc := 41) hG fl_X5_97 eσ4 dX5_minutes_41 ?_
      refine jx_aload_n (pc := 44) (k0 := 0) rfl dX5_minutes_44 ?_
      refine ll_glamp_now (pc := 45) fl_X5_12 dX5_minutes_45 ?_
      refine ll_gnow_minute (pc := 48) fl_X5_97 dX5_minutes_48 ?_
      cases h
      exact jx_iret (pc := 51) dX5_minutes_51
    · have h := jx_f c3 h
      refine jx_bipush (pc := 28) (v := (-3 : Int32)) (by decide) dX5_minutes_28 ?_
      cases h
      exact jx_iret (pc := 30) dX5_minutes_30
  · have h := jx_t c2 h
    refine jx_bipush (pc := 10) (v := (-2 : Int32)) (by decide) dX5_minutes_10 ?_
    cases h
    exact jx_iret (pc := 12) dX5_minutes_12
theorem dX5_see_0 : decode cX5_see 0 = .ok (.iload_n 1, 1) := by decide +kernel
theorem dX5_see_1 : decode cX5_see 1 = .ok (.iconst (-1), 1) := by decide +kernel
theorem dX5_see_2 : decode cX5_see 2 = .ok (.if_icmp .ne 13, 3) := by decide +kernel
theorem dX5_see_5 : decode cX5_see 5 = .ok (.aload_n 0, 1) := by decide +kernel
theorem dX5_see_6 : decode cX5_see 6 = .ok (.getfield 12, 3) := by decide +kernel
theorem dX5_see_9 : decode cX5_see 9 = .ok (.iconst 0, 1) := by decide +kernel
theorem dX5_see_10 : decode cX5_see 10 = .ok (.putfield 199, 3) := by decide +kernel
theorem dX5_see_13 : decode cX5_see 13 = .ok (.iconst 0, 1) := by decide +kernel
theorem dX5_see_14 : decode cX5_see 14 = .ok (.ireturn, 1) := by decide +kernel
theorem dX5_see_15 : decode cX5_see 15 = .ok (.aload_n 0, 1) := by decide +kernel
theorem dX5_see_16 : decode cX5_see 16 = .ok (.getfield 12, 3) := by decide +kernel
theorem dX5_see_19 : decode cX5_see 19 = .ok (.iload_n 1, 1) := by decide +kernel
theorem dX5_see_20 : decode cX5_see 20 = .ok (.invokevirtual 85, 3) := by decide +kernel
theorem dX5_see_23 : decode cX5_see 23 = .ok (.ifCond .ne 5, 3) := by decide +kernel
theorem dX5_see_26 : decode cX5_see 26 = .ok (.iconst (-1), 1) := by decide +kernel
theorem dX5_see_27 : decode cX5_see 27 = .ok (.ireturn, 1) := by decide +kernel
theorem dX5_see_28 : decode cX5_see 28 = .ok (.iload_n 2, 1) := by decide +kernel
theorem dX5_see_29 : decode cX5_see 29 = .ok (.iconst 0, 1) := by decide +kernel
theorem dX5_see_30 : decode cX5_see 30 = .ok (.bipush 6, 2) := by decide +kernel
theorem dX5_see_32 : decode cX5_see 32 = .ok (.invokestatic 48, 3) := by decide +kernel
theorem dX5_see_35 : decode cX5_see 35 = .ok (.ifCond .ne 6, 3) := by decide +kernel
theorem dX5_see_38 : decode cX5_see 38 = .ok (.bipush (-2), 2) := by decide +kernel
theorem dX5_see_40 : decode cX5_see 40 = .ok (.ireturn, 1) := by decide +kernel
theorem dX5_see_41 : decode cX5_see 41 = .ok (.aload_n 0, 1) := by decide +kernel
theorem dX5_see_42 : decode cX5_see 42 = .ok (.getfield 12, 3) := by decide +kernel
theorem dX5_see_45 : decode cX5_see 45 = .ok (.getfield 199, 3) := by decide +kernel
theorem dX5_see_48 : decode cX5_see 48 = .ok (.bipush 6, 2) := by decide +kernel
theorem dX5_see_50 : decode cX5_see 50 = .ok (.if_icmp .lt 6, 3) := by decide +kernel
theorem dX5_see_53 : decode cX5_see 53 = .ok (.bipush (-4), 2) := by decide +kernel
theorem dX5_see_55 : decode cX5_see 55 = .ok (.ireturn, 1) := by decide +kernel
theorem dX5_see_56 : decode cX5_see 56 = .ok (.aload_n 0, 1) := by decide +kernel
theorem dX5_see_57 : decode cX5_see 57 = .ok (.getfield 12, 3) := by decide +kernel
theorem dX5_see_60 : decode cX5_see 60 = .ok (.getfield 202, 3) := by decide +kernel
theorem dX5_see_63 : decode cX5_see 63 = .ok (.aload_n 0, 1) := by decide +kernel
theorem dX5_see_64 : decode cX5_see 64 = .ok (.getfield 12, 3) := by decide +kernel
theorem dX5_see_67 : decode cX5_see 67 = .ok (.getfield 199, 3) := by decide +kernel
theorem dX5_see_70 : decode cX5_see 70 = .ok (.iload_n 1, 1) := by decide +kernel
theorem dX5_see_71 : decode cX5_see 71 = .ok (.iastore, 1) := by decide +kernel
theorem dX5_see_72 : decode cX5_see 72 = .ok (.aload_n 0, 1) := by decide +kernel
theorem dX5_see_73 : decode cX5_see 73 = .ok (.getfield 12, 3) := by decide +kernel
theorem dX5_see_76 : decode cX5_see 76 = .ok (.getfield 205, 3) := by decide +kernel
theorem dX5_see_79 : decode cX5_see 79 = .ok (.aload_n 0, 1) := by decide +kernel
theorem dX5_see_80 : decode cX5_see 80 = .ok (.getfield 12, 3) := by decide +kernel
theorem dX5_see_83 : decode cX5_see 83 = .ok (.getfield 199, 3) := by decide +kernel
theorem dX5_see_86 : decode cX5_see 86 = .ok (.iload_n 2, 1) := by decide +kernel
theorem dX5_see_87 : decode cX5_see 87 = .ok (.iastore, 1) := by decide +kernel
theorem dX5_see_88 : decode cX5_see 88 = .ok (.aload_n 0, 1) := by decide +kernel
theorem dX5_see_89 : decode cX5_see 89 = .ok (.getfield 12, 3) := by decide +kernel
theorem dX5_see_92 : decode cX5_see 92 = .ok (.dup, 1) := by decide +kernel
theorem dX5_see_93 : decode cX5_see 93 = .ok (.getfield 199, 3) := by decide +kernel
theorem dX5_see_96 : decode cX5_see 96 = .ok (.iconst 1, 1) := by decide +kernel
theorem dX5_see_97 : decode cX5_see 97 = .ok (.iadd, 1) := by decide +kernel
theorem dX5_see_98 : decode cX5_see 98 = .ok (.putfield 199, 3) := by decide +kernel
theorem dX5_see_101 : decode cX5_see 101 = .ok (.aload_n 0, 1) := by decide +kernel
theorem dX5_see_102 : decode cX5_see 102 = .ok (.getfield 12, 3) := by decide +kernel
theorem dX5_see_105 : decode cX5_see 105 = .ok (.getfield 199, 3) := by decide +kernel
theorem dX5_see_108 : decode cX5_see 108 = .ok (.ireturn, 1) := by decide +kernel
abbrev rm_X5_see : Room := { frames := 1, cells := 0, slots := 0, locals := 22 }
abbrev jJ_X5_see (l : Launch) (G : jx_G) (t : jx_T) (sz : Nat) (out : (Int32 × jx_M)) (pc : Nat) (lv : List (Nat × Value)) (st : List Value) (σ : jx_M) : Prop := jx_J l (ll_env G t) (ll_dyn G t) (ll_rg G) sz RX5 "see" cX5_see 3 (some .int) rm_X5_see (fun below args s => MQ below (jx_Qi (ll_dyn G t) out.2 out.1 (jx_A (ll_rg G) sz)) args s 0 0 (jx_A (ll_rg G) sz)) 0 0 pc lv st σ
def f_X5_see (t : jx_T) (σ : jx_M) (a1 : Int32) (a2 : Int32) : Option (Int32 × jx_M) :=
  if a1 = (-1 : Int32) then jx_lt (jx_mu σ 0 5 (0 : Int32)) (fun σ12 => some ((0 : Int32), σ12)) else jx_bd (f_X1_hasPlace t σ a1) (fun q2 => if q2 = 0 then some ((-1 : Int32), σ) else jx_bd (f_X5_within a2 (0 : Int32) (6 : Int32)) (fun q4 => if q4 = 0 then some ((-2 : Int32), σ) else if (σ 0 5) < (6 : Int32) then jx_gd (jx_in (σ 0 5) 6) (jx_lt (jx_mu σ 15 (σ 0 5).toNatClampNeg a1) (fun σ8 => jx_gd (jx_in (σ8 0 5) 6) (jx_lt (jx_mu σ8 16 (σ8 0 5).toNatClampNeg a2) (fun σ10 => jx_lt (jx_mu σ10 0 5 ((σ10 0 5) + (1 : Int32))) (fun σ11 => some ((σ11 0 5), σ11)))))) else some ((-4 : Int32), σ)))
set_option maxHeartbeats 4000000 in
set_option maxRecDepth 100000 in
theorem k_X5_see (l : Launch) (G : jx_G) (t : jx_T) (hG : ll_ok G) (sz : Nat) (σ : jx_M) (a1 : Int32) (a2 : Int32) (out : (Int32 × jx_M)) (h : f_X5_see t σ a1 a2 = some out) : Met l yX5_see (Cond.code yX5_see cX5_see 3 (some .int) :: jx_ws) rm_X5_see (jx_Pc (ll_env G t) (ll_dyn G t) (ll_rg G) sz σ [.ref (G.2 20), .int a1, .int a2]) (jx_Qi (ll_dyn G t) out.2 out.1 (jx_A (ll_rg G) sz)) 0 0 (jx_A (ll_rg G) sz) := by
  unfold f_X5_see at h
  refine jx_met (by decide) (Nat.le_of_ble_eq_true rfl) ?_
  refine jx_sub (lv' := [(0, .ref (G.2 20)), (1, .int a1), (2, .int a2)]) [0, 1, 2] rfl ?_
  refine jx_iload_n (pc := 0) (k0 := 1) rfl dX5_see_0 ?_
  refine jx_iconst (pc := 1) (v := (-1 : Int32)) (by decide) dX5_see_1 ?_
  refine jx_icmp_ne (pc := 2) (tgt := 15) dX5_see_2 (by decide) (fun c1 => ?_) (fun c1 => ?_)
  · have h := jx_f c1 h
    refine jx_aload_n (pc := 15) (k0 := 0) rfl dX5_see_15 ?_
    refine ll_glamp_now (pc := 16) fl_X5_12 dX5_see_16 ?_
    refine jx_iload_n (pc := 19) (k0 := 1) rfl dX5_see_19 ?_
    obtain ⟨q2, eq2, h⟩ := jx_bd_o h
    refine jx_callVi (pc := 20) [.int a1] (fun sz' => k_X1_hasPlace l G t hG sz' σ a1 q2 eq2) kv_X5_85 ll_jok ll_rcnow rfl rfl (Nat.le_of_ble_eq_true rfl) ⟨⟨rfl, rfl⟩, ⟨Nat.le_of_ble_eq_true rfl, Nat.le_of_ble_eq_true rfl⟩, Nat.zero_le _, Nat.zero_le _⟩ dX5_see_20 ?_
    refine jx_if_ne (pc := 23) (tgt := 28) dX5_see_23 (by decide) (fun c3 => ?_) (fun c3 => ?_)
    · have h := jx_f c3 h
      refine jx_iload_n (pc := 28) (k0 := 2) rfl dX5_see_28 ?_
      refine jx_iconst (pc := 29) (v := (0 : Int32)) (by decide) dX5_see_29 ?_
      refine jx_bipush (pc := 30) (v := (6 : Int32)) (by decide) dX5_see_30 ?_
      obtain ⟨q4, eq4, h⟩ := jx_bd_o h
      refine jx_callSi (pc := 32) [.int a2, .int (0 : Int32), .int (6 : Int32)] (fun sz' => k_X5_within l G t hG sz' σ a2 (0 : Int32) (6 : Int32) q4 eq4) ks_X5_48 ll_jok rfl rfl (Nat.le_of_ble_eq_true rfl) ⟨⟨rfl, rfl⟩, ⟨Nat.le_of_ble_eq_true rfl, Nat.le_of_ble_eq_true rfl⟩, Nat.zero_le _, Nat.zero_le _⟩ dX5_see_32 ?_
      refine jx_if_ne (pc := 35) (tgt := 41) dX5_see_35 (by decide) (fun c5 => ?_) (fun c5 => ?_)
      · have h := jx_f c5 h
        refine jx_aload_n (pc := 41) (k0 := 0) rfl dX5_see_41 ?_
        refine ll_glamp_now (pc := 42) fl_X5_12 dX5_see_42 ?_
        refine ll_gnow_seen (pc := 45) fl_X5_199 dX5_see_45 ?_
        refine jx_bipush (pc := 48) (v := (6 : Int32)) (by decide) dX5_see_48 ?_
        refine jx_icmp_lt (pc := 50) (tgt := 56) dX5_see_50 (by decide) (fun c6 => ?_) (fun c6 => ?_)
        · have h := jx_t c6 h
          refine jx_aload_n (pc := 56) (k0 := 0) rfl dX5_see_56 ?_
          refine ll_glamp_now (pc := 57) fl_X5_12 dX5_see_57 ?_
          refine ll_gnow_seenPlace (pc := 60) fl_X5_202 dX5_see_60 ?_
          refine jx_aload_n (pc := 63) (k0 := 0) rfl dX5_see_63 ?_
          refine ll_glamp_now (pc := 64) fl_X5_12 dX5_see_64 ?_
          refine ll_gnow_seen (pc := 67) fl_X5_199 dX5_see_67 ?_
          refine jx_iload_n (pc := 70) (k0 := 1) rfl dX5_see_70 ?_
          obtain ⟨g7, h⟩ := jx_gd_o h
          obtain ⟨σ8, eσ8, h⟩ := jx_lt_o h
          refine ll_s (pc := 71) (k := 15) hG (jx_in_o g7) rfl eσ8 dX5_see_71 ?_
          refine jx_aload_n (pc := 72) (k0 := 0) rfl dX5_see_72 ?_
          refine ll_glamp_now (pc := 73) fl_X5_12 dX5_see_73 ?_
          refine ll_gnow_seenLamps (pc := 76) fl_X5_205 dX5_see_76 ?_
          refine jx_aload_n (pc := 79) (k0 := 0) rfl dX5_see_79 ?_
          refine ll_glamp_now (pc := 80) fl_X5_12 dX5_see_80 ?_
          refine ll_gnow_seen (pc := 83) fl_X5_199 dX5_see_83 ?_
          refine jx_iload_n (pc := 86) (k0 := 2) rfl dX5_see_86 ?_
          obtain ⟨g9, h⟩ := jx_gd_o h
          obtain ⟨σ10, eσ10, h⟩ := jx_lt_o h
          refine ll_s (pc := 87) (k := 16) hG (jx_in_o g9) rfl eσ10 dX5_see_87 ?_
          refine jx_aload_n (pc := 88) (k0 := 0) rfl dX5_see_88 ?_
          refine ll_glamp_now (pc := 89) fl_X5_12 dX5_see_89 ?_
          refine jx_dup (pc := 92) rfl dX5_see_92 ?_
          refine ll_gnow_seen (pc := 93) fl_X5_199 dX5_see_93 ?_
          refine jx_iconst (pc := 96) (v := (1 : Int32)) (by decide) dX5_see_96 ?_
          refine jx_iadd (pc := 97) dX5_see_97 ?_
          obtain ⟨σ11, eσ11, h⟩ := jx_lt_o h
          refine ll_pnow_seen (pc := 98) hG fl_X5_199 eσ11 dX5_see_98 ?_
          refine jx_aload_n (pc := 101) (k0 := 0) rfl dX5_see_101 ?_
          refine ll_glamp_now (pc := 102) fl_X5_12 dX5_see_102 ?_
          refine ll_gnow_seen (pc := 105) fl_X5_199 dX5_see_105 ?_
          cases h
          exact jx_iret (pc := 108) dX5_see_108
        · have h := jx_f c6 h
          refine jx_bipush (pc := 53) (v := (-4 : Int32)) (by decide) dX5_see_53 ?_
          cases h
          exact jx_iret (pc := 55) dX5_see_55
      · have h := jx_t c5 h
        refine jx_bipush (pc := 38) (v := (-2 : Int32)) (by decide) dX5_see_38 ?_
        cases h
        exact jx_iret (pc := 40) dX5_see_40
    · have h := jx_t c3 h
      refine jx_iconst (pc := 26) (v := (-1 : Int32)) (by decide) dX5_see_26 ?_
      cases h
      exact jx_iret (pc := 27) dX5_see_27
  · have h := jx_t c1 h
    refine jx_aload_n (pc := 5) (k0 := 0) rfl dX5_see_5 ?_
    refine ll_glamp_now (pc := 6) fl_X5_12 dX5_see_6 ?_
    refine jx_iconst (pc := 9) (v := (0 : Int32)) (by decide) dX5_see_9 ?_
    obtain ⟨σ12, eσ12, h⟩ := jx_lt_o h
    refine ll_pnow_seen (pc := 10) hG fl_X5_199 eσ12 dX5_see_10 ?_
    refine jx_iconst (pc := 13) (v := (0 : Int32)) (by decide) dX5_see_13 ?_
    cases h
    exact jx_iret (pc := 14) dX5_see_14
theorem dX5_tale_0 : decode cX5_tale 0 = .ok (.iload_n 1, 1) := by decide +kernel
theorem dX5_tale_1 : decode cX5_tale 1 = .ok (.iconst (-1), 1) := by decide +kernel
theorem dX5_tale_2 : decode cX5_tale 2 = .ok (.if_icmp .ne 13, 3) := by decide +kernel
theorem dX5_tale_5 : decode cX5_tale 5 = .ok (.aload_n 0, 1) := by decide +kernel
theorem dX5_tale_6 : decode cX5_tale 6 = .ok (.getfield 12, 3) := by decide +kernel
theorem dX5_tale_9 : decode cX5_tale 9 = .ok (.iconst 0, 1) := by decide +kernel
theorem dX5_tale_10 : decode cX5_tale 10 = .ok (.putfield 217, 3) := by decide +kernel
theorem dX5_tale_13 : decode cX5_tale 13 = .ok (.iconst 0, 1) := by decide +kernel
theorem dX5_tale_14 : decode cX5_tale 14 = .ok (.ireturn, 1) := by decide +kernel
theorem dX5_tale_15 : decode cX5_tale 15 = .ok (.aload_n 0, 1) := by decide +kernel
theorem dX5_tale_16 : decode cX5_tale 16 = .ok (.getfield 12, 3) := by decide +kernel
theorem dX5_tale_19 : decode cX5_tale 19 = .ok (.iload_n 1, 1) := by decide +kernel
theorem dX5_tale_20 : decode cX5_tale 20 = .ok (.invokevirtual 119, 3) := by decide +kernel
theorem dX5_tale_23 : decode cX5_tale 23 = .ok (.ifCond .eq 14, 3) := by decide +kernel
theorem dX5_tale_26 : decode cX5_tale 26 = .ok (.aload_n 0, 1) := by decide +kernel
theorem dX5_tale_27 : decode cX5_tale 27 = .ok (.getfield 12, 3) := by decide +kernel
theorem dX5_tale_30 : decode cX5_tale 30 = .ok (.iload_n 3, 1) := by decide +kernel
theorem dX5_tale_31 : decode cX5_tale 31 = .ok (.invokevirtual 85, 3) := by decide +kernel
theorem dX5_tale_34 : decode cX5_tale 34 = .ok (.ifCond .ne 5, 3) := by decide +kernel
theorem dX5_tale_37 : decode cX5_tale 37 = .ok (.iconst (-1), 1) := by decide +kernel
theorem dX5_tale_38 : decode cX5_tale 38 = .ok (.ireturn, 1) := by decide +kernel
theorem dX5_tale_39 : decode cX5_tale 39 = .ok (.iload_n 2, 1) := by decide +kernel
theorem dX5_tale_40 : decode cX5_tale 40 = .ok (.iconst 0, 1) := by decide +kernel
theorem dX5_tale_41 : decode cX5_tale 41 = .ok (.bipush 12, 2) := by decide +kernel
theorem dX5_tale_43 : decode cX5_tale 43 = .ok (.invokestatic 48, 3) := by decide +kernel
theorem dX5_tale_46 : decode cX5_tale 46 = .ok (.ifCond .ne 6, 3) := by decide +kernel
theorem dX5_tale_49 : decode cX5_tale 49 = .ok (.bipush (-2), 2) := by decide +kernel
theorem dX5_tale_51 : decode cX5_tale 51 = .ok (.ireturn, 1) := by decide +kernel
theorem dX5_tale_52 : decode cX5_tale 52 = .ok (.aload_n 0, 1) := by decide +kernel
theorem dX5_tale_53 : decode cX5_tale 53 = .ok (.getfield 12, 3) := by decide +kernel
theorem dX5_tale_56 : decode cX5_tale 56 = .ok (.getfield 217, 3) := by decide +kernel
theorem dX5_tale_59 : decode cX5_tale 59 = .ok (.bipush 8, 2) := by decide +kernel
theorem dX5_tale_61 : decode cX5_tale 61 = .ok (.if_icmp .lt 6, 3) := by decide +kernel
theorem dX5_tale_64 : decode cX5_tale 64 = .ok (.bipush (-4), 2) := by decide +kernel
theorem dX5_tale_66 : decode cX5_tale 66 = .ok (.ireturn, 1) := by decide +kernel
theorem dX5_tale_67 : decode cX5_tale 67 = .ok (.aload_n 0, 1) := by decide +kernel
theorem dX5_tale_68 : decode cX5_tale 68 = .ok (.getfield 12, 3) := by decide +kernel
theorem dX5_tale_71 : decode cX5_tale 71 = .ok (.getfield 220, 3) := by decide +kernel
theorem dX5_tale_74 : decode cX5_tale 74 = .ok (.aload_n 0, 1) := by decide +kernel
theorem dX5_tale_75 : decode cX5_tale 75 = .ok (.getfield 12, 3) := by decide +kernel
theorem dX5_tale_78 : decode cX5_tale 78 = .ok (.getfield 217, 3) := by decide +kernel
theorem dX5_tale_81 : decode cX5_tale 81 = .ok (.iload_n 1, 1) := by decide +kernel
theorem dX5_tale_82 : decode cX5_tale 82 = .ok (.iastore, 1) := by decide +kernel
theorem dX5_tale_83 : decode cX5_tale 83 = .ok (.aload_n 0, 1) := by decide +kernel
theorem dX5_tale_84 : decode cX5_tale 84 = .ok (.getfield 12, 3) := by decide +kernel
theorem dX5_tale_87 : decode cX5_tale 87 = .ok (.getfield 223, 3) := by decide +kernel
theorem dX5_tale_90 : decode cX5_tale 90 = .ok (.aload_n 0, 1) := by decide +kernel
theorem dX5_tale_91 : decode cX5_tale 91 = .ok (.getfield 12, 3) := by decide +kernel
theorem dX5_tale_94 : decode cX5_tale 94 = .ok (.getfield 217, 3) := by decide +kernel
theorem dX5_tale_97 : decode cX5_tale 97 = .ok (.iload_n 2, 1) := by decide +kernel
theorem dX5_tale_98 : decode cX5_tale 98 = .ok (.iastore, 1) := by decide +kernel
theorem dX5_tale_99 : decode cX5_tale 99 = .ok (.aload_n 0, 1) := by decide +kernel
theorem dX5_tale_100 : decode cX5_tale 100 = .ok (.getfield 12, 3) := by decide +kernel
theorem dX5_tale_103 : decode cX5_tale 103 = .ok (.getfield 226, 3) := by decide +kernel
theorem dX5_tale_106 : decode cX5_tale 106 = .ok (.aload_n 0, 1) := by decide +kernel
theorem dX5_tale_107 : decode cX5_tale 107 = .ok (.getfield 12, 3) := by decide +kernel
theorem dX5_tale_110 : decode cX5_tale 110 = .ok (.getfield 217, 3) := by decide +kernel
theorem dX5_tale_113 : decode cX5_tale 113 = .ok (.iload_n 3, 1) := by decide +kernel
theorem dX5_tale_114 : decode cX5_tale 114 = .ok (.iastore, 1) := by decide +kernel
theorem dX5_tale_115 : decode cX5_tale 115 = .ok (.aload_n 0, 1) := by decide +kernel
theorem dX5_tale_116 : decode cX5_tale 116 = .ok (.getfield 12, 3) := by decide +kernel
theorem dX5_tale_119 : decode cX5_tale 119 = .ok (.dup, 1) := by decide +kernel
theorem dX5_tale_120 : decode cX5_tale 120 = .ok (.getfield 217, 3) := by decide +kernel
theorem dX5_tale_123 : decode cX5_tale 123 = .ok (.iconst 1, 1) := by decide +kernel
theorem dX5_tale_124 : decode cX5_tale 124 = .ok (.iadd, 1) := by decide +kernel
theorem dX5_tale_125 : decode cX5_tale 125 = .ok (.putfield 217, 3) := by decide +kernel
theorem dX5_tale_128 : decode cX5_tale 128 = .ok (.aload_n 0, 1) := by decide +kernel
theorem dX5_tale_129 : decode cX5_tale 129 = .ok (.getfield 12, 3) := by decide +kernel
theorem dX5_tale_132 : decode cX5_tale 132 = .ok (.getfield 217, 3) := by decide +kernel
theorem dX5_tale_135 : decode cX5_tale 135 = .ok (.ireturn, 1) := by decide +kernel
abbrev rm_X5_tale : Room := { frames := 1, cells := 0, slots := 0, locals := 22 }
abbrev jJ_X5_tale (l : Launch) (G : jx_G) (t : jx_T) (sz : Nat) (out : (Int32 × jx_M)) (pc : Nat) (lv : List (Nat × Value)) (st : List Value) (σ : jx_M) : Prop := jx_J l (ll_env G t) (ll_dyn G t) (ll_rg G) sz RX5 "tale" cX5_tale 4 (some .int) rm_X5_tale (fun below args s => MQ below (jx_Qi (ll_dyn G t) out.2 out.1 (jx_A (ll_rg G) sz)) args s 0 0 (jx_A (ll_rg G) sz)) 0 0 pc lv st σ
def f_X5_tale (t : jx_T) (σ : jx_M) (a1 : Int32) (a2 : Int32) (a3 : Int32) : Option (Int32 × jx_M) :=
  if a1 = (-1 : Int32) then jx_lt (jx_mu σ 0 6 (0 : Int32)) (fun σ16 => some ((0 : Int32), σ16)) else jx_bd (f_X1_hasVoter t σ a1) (fun q2 => if q2 = 0 then some ((-1 : Int32), σ) else jx_bd (f_X1_hasPlace t σ a3) (fun q4 => if q4 = 0 then some ((-1 : Int32), σ) else jx_bd (f_X5_within a2 (0 : Int32) (12 : Int32)) (fun q6 => if q6 = 0 then some ((-2 : Int32), σ) else if (σ 0 6) < (8 : Int32) then jx_gd (jx_in (σ 0 6) 8) (jx_lt (jx_mu σ 17 (σ 0 6).toNatClampNeg a1) (fun σ10 => jx_gd (jx_in (σ10 0 6) 8) (jx_lt (jx_mu σ10 18 (σ10 0 6).toNatClampNeg a2) (fun σ12 => jx_gd (jx_in (σ12 0 6) 8) (jx_lt (jx_mu σ12 19 (σ12 0 6).toNatClampNeg a3) (fun σ14 => jx_lt (jx_mu σ14 0 6 ((σ14 0 6) + (1 : Int32))) (fun σ15 => some ((σ15 0 6), σ15)))))))) else some ((-4 : Int32), σ))))
set_option maxHeartbeats 4000000 in
set_option maxRecDepth 100000 in
theorem k_X5_tale (l : Launch) (G : jx_G) (t : jx_T) (hG : ll_ok G) (sz : Nat) (σ : jx_M) (a1 : Int32) (a2 : Int32) (a3 : Int32) (out : (Int32 × jx_M)) (h : f_X5_tale t σ a1 a2 a3 = some out) : Met l yX5_tale (Cond.code yX5_tale cX5_tale 4 (some .int) :: jx_ws) rm_X5_tale (jx_Pc (ll_env G t) (ll_dyn G t) (ll_rg G) sz σ [.ref (G.2 20), .int a1, .int a2, .int a3]) (jx_Qi (ll_dyn G t) out.2 out.1 (jx_A (ll_rg G) sz)) 0 0 (jx_A (ll_rg G) sz) := by
  unfold f_X5_tale at h
  refine jx_met (by decide) (Nat.le_of_ble_eq_true rfl) ?_
  refine jx_sub (lv' := [(0, .ref (G.2 20)), (1, .int a1), (2, .int a2), (3, .int a3)]) [0, 1, 2, 3] rfl ?_
  refine jx_iload_n (pc := 0) (k0 := 1) rfl dX5_tale_0 ?_
  refine jx_iconst (pc := 1) (v := (-1 : Int32)) (by decide) dX5_tale_1 ?_
  refine jx_icmp_ne (pc := 2) (tgt := 15) dX5_tale_2 (by decide) (fun c1 => ?_) (fun c1 => ?_)
  · have h := jx_f c1 h
    refine jx_aload_n (pc := 15) (k0 := 0) rfl dX5_tale_15 ?_
    refine ll_glamp_now (pc := 16) fl_X5_12 dX5_tale_16 ?_
    refine jx_iload_n (pc := 19) (k0 := 1) rfl dX5_tale_19 ?_
    obtain ⟨q2, eq2, h⟩ := jx_bd_o h
    refine jx_callVi (pc := 20) [.int a1] (fun sz' => k_X1_hasVoter l G t hG sz' σ a1 q2 eq2) kv_X5_119 ll_jok ll_rcnow rfl rfl (Nat.le_of_ble_eq_true rfl) ⟨⟨rfl, rfl⟩, ⟨Nat.le_of_ble_eq_true rfl, Nat.le_of_ble_eq_true rfl⟩, Nat.zero_le _, Nat.zero_le _⟩ dX5_tale_20 ?_
    refine jx_if_eq (pc := 23) (tgt := 37) dX5_tale_23 (by decide) (fun c3 => ?_) (fun c3 => ?_)
    · have h := jx_t c3 h
      refine jx_iconst (pc := 37) (v := (-1 : Int32)) (by decide) dX5_tale_37 ?_
      cases h
      exact jx_iret (pc := 38) dX5_tale_38
    · have h := jx_f c3 h
      refine jx_aload_n (pc := 26) (k0 := 0) rfl dX5_tale_26 ?_
      refine ll_glamp_now (pc := 27) fl_X5_12 dX5_tale_27 ?_
      refine jx_iload_n (pc := 30) (k0 := 3) rfl dX5_tale_30 ?_
      obtain ⟨q4, eq4, h⟩ := jx_bd_o h
      refine jx_callVi (pc := 31) [.int a3] (fun sz' => k_X1_hasPlace l G t hG sz' σ a3 q4 eq4) kv_X5_85 ll_jok ll_rcnow rfl rfl (Nat.le_of_ble_eq_true rfl) ⟨⟨rfl, rfl⟩, ⟨Nat.le_of_ble_eq_true rfl, Nat.le_of_ble_eq_true rfl⟩, Nat.zero_le _, Nat.zero_le _⟩ dX5_tale_31 ?_
      refine jx_if_ne (pc := 34) (tgt := 39) dX5_tale_34 (by decide) (fun c5 => ?_) (fun c5 => ?_)
      · have h := jx_f c5 h
        refine jx_iload_n (pc := 39) (k0 := 2) rfl dX5_tale_39 ?_
        refine jx_iconst (pc := 40) (v := (0 : Int32)) (by decide) dX5_tale_40 ?_
        refine jx_bipush (pc := 41) (v := (12 : Int32)) (by decide) dX5_tale_41 ?_
        obtain ⟨q6, eq6, h⟩ := jx_bd_o h
        refine jx_callSi (pc := 43) [.int a2, .int (0 : Int32), .int (12 : Int32)] (fun sz' => k_X5_within l G t hG sz' σ a2 (0 : Int32) (12 : Int32) q6 eq6) ks_X5_48 ll_jok rfl rfl (Nat.le_of_ble_eq_true rfl) ⟨⟨rfl, rfl⟩, ⟨Nat.le_of_ble_eq_true rfl, Nat.le_of_ble_eq_true rfl⟩, Nat.zero_le _, Nat.zero_le _⟩ dX5_tale_43 ?_
        refine jx_if_ne (pc := 46) (tgt := 52) dX5_tale_46 (by decide) (fun c7 => ?_) (fun c7 => ?_)
        · have h := jx_f c7 h
          refine jx_aload_n (pc := 52) (k0 := 0) rfl dX5_tale_52 ?_
          refine ll_glamp_now (pc := 53) fl_X5_12 dX5_tale_53 ?_
          refine ll_gnow_tales (pc := 56) fl_X5_217 dX5_tale_56 ?_
          refine jx_bipush (pc := 59) (v := (8 : Int32)) (by decide) dX5_tale_59 ?_
          refine jx_icmp_lt (pc := 61) (tgt := 67) dX5_tale_61 (by decide) (fun c8 => ?_) (fun c8 => ?_)
          · have h := jx_t c8 h
            refine jx_aload_n (pc := 67) (k0 := 0) rfl dX5_tale_67 ?_
            refine ll_glamp_now (pc := 68) fl_X5_12 dX5_tale_68 ?_
            refine ll_gnow_taleVoter (pc := 71) fl_X5_220 dX5_tale_71 ?_
            refine jx_aload_n (pc := 74) (k0 := 0) rfl dX5_tale_74 ?_
            refine ll_glamp_now (pc := 75) fl_X5_12 dX5_tale_75 ?_
            refine ll_gnow_tales (pc := 78) fl_X5_217 dX5_tale_78 ?_
            refine jx_iload_n (pc := 81) (k0 := 1) rfl dX5_tale_81 ?_
            obtain ⟨g9, h⟩ := jx_gd_o h
            obtain ⟨σ10, eσ10, h⟩ := jx_lt_o h
            refine ll_s (pc := 82) (k := 17) hG (jx_in_o g9) rfl eσ10 dX5_tale_82 ?_
            refine jx_aload_n (pc := 83) (k0 := 0) rfl dX5_tale_83 ?_
            refine ll_glamp_now (pc := 84) fl_X5_12 dX5_tale_84 ?_
            refine ll_gnow_taleMinute (pc := 87) fl_X5_223 dX5_tale_87 ?_
            refine jx_aload_n (pc := 90) (k0 := 0) rfl dX5_tale_90 ?_
            refine ll_glamp_now (pc := 91) fl_X5_12 dX5_tale_91 ?_
            refine ll_gnow_tales (pc := 94) fl_X5_217 dX5_tale_94 ?_
            refine jx_iload_n (pc := 97) (k0 := 2) rfl dX5_tale_97 ?_
            obtain ⟨g11, h⟩ := jx_gd_o h
            obtain ⟨σ12, eσ12, h⟩ := jx_lt_o h
            refine ll_s (pc := 98) (k := 18) hG (jx_in_o g11) rfl eσ12 dX5_tale_98 ?_
            refine jx_aload_n (pc := 99) (k0 := 0) rfl dX5_tale_99 ?_
            refine ll_glamp_now (pc := 100) fl_X5_12 dX5_tale_100 ?_
            refine ll_gnow_talePlace (pc := 103) fl_X5_226 dX5_tale_103 ?_
            refine jx_aload_n (pc := 106) (k0 := 0) rfl dX5_tale_106 ?_
            refine ll_glamp_now (pc := 107) fl_X5_12 dX5_tale_107 ?_
            refine ll_gnow_tales (pc := 110) fl_X5_217 dX5_tale_110 ?_
            refine jx_iload_n (pc := 113) (k0 := 3) rfl dX5_tale_113 ?_
            obtain ⟨g13, h⟩ := jx_gd_o h
            obtain ⟨σ14, eσ14, h⟩ := jx_lt_o h
            refine ll_s (pc := 114) (k := 19) hG (jx_in_o g13) rfl eσ14 dX5_tale_114 ?_
            refine jx_aload_n (pc := 115) (k0 := 0) rfl dX5_tale_115 ?_
            refine ll_glamp_now (pc := 116) fl_X5_12 dX5_tale_116 ?_
            refine jx_dup (pc := 119) rfl dX5_tale_119 ?_
            refine ll_gnow_tales (pc := 120) fl_X5_217 dX5_tale_120 ?_
            refine jx_iconst (pc := 123) (v := (1 : Int32)) (by decide) dX5_tale_123 ?_
            refine jx_iadd (pc := 124) dX5_tale_124 ?_
            obtain ⟨σ15, eσ15, h⟩ := jx_lt_o h
            refine ll_pnow_tales (pc := 125) hG fl_X5_217 eσ15 dX5_tale_125 ?_
            refine jx_aload_n (pc := 128) (k0 := 0) rfl dX5_tale_128 ?_
            refine ll_glamp_now (pc := 129) fl_X5_12 dX5_tale_129 ?_
            refine ll_gnow_tales (pc := 132) fl_X5_217 dX5_tale_132 ?_
            cases h
            exact jx_iret (pc := 135) dX5_tale_135
          · have h := jx_f c8 h
            refine jx_bipush (pc := 64) (v := (-4 : Int32)) (by decide) dX5_tale_64 ?_
            cases h
            exact jx_iret (pc := 66) dX5_tale_66
        · have h := jx_t c7 h
          refine jx_bipush (pc := 49) (v := (-2 : Int32)) (by decide) dX5_tale_49 ?_
          cases h
          exact jx_iret (pc := 51) dX5_tale_51
      · have h := jx_t c5 h
        refine jx_iconst (pc := 37) (v := (-1 : Int32)) (by decide) dX5_tale_37 ?_
        cases h
        exact jx_iret (pc := 38) dX5_tale_38
  · have h := jx_t c1 h
    refine jx_aload_n (pc := 5) (k0 := 0) rfl dX5_tale_5 ?_
    refine ll_glamp_now (pc := 6) fl_X5_12 dX5_tale_6 ?_
    refine jx_iconst (pc := 9) (v := (0 : Int32)) (by decide) dX5_tale_9 ?_
    obtain ⟨σ16, eσ16, h⟩ := jx_lt_o h
    refine ll_pnow_tales (pc := 10) hG fl_X5_217 eσ16 dX5_tale_10 ?_
    refine jx_iconst (pc := 13) (v := (0 : Int32)) (by decide) dX5_tale_13 ?_
    cases h
    exact jx_iret (pc := 14) dX5_tale_14
