/-! image() and undo() -/
def ll_tU (t : jx_T) (σ : jx_M) : jx_T := if σ 0 40 = 0 then t else ll_tN t
theorem dX5_image_0 : decode cX5_image 0 = .ok (.aload_n 0, 1) := by decide +kernel
theorem dX5_image_1 : decode cX5_image 1 = .ok (.getfield 18, 3) := by decide +kernel
theorem dX5_image_4 : decode cX5_image 4 = .ok (.aload_n 0, 1) := by decide +kernel
theorem dX5_image_5 : decode cX5_image 5 = .ok (.getfield 12, 3) := by decide +kernel
theorem dX5_image_8 : decode cX5_image 8 = .ok (.invokevirtual 247, 3) := by decide +kernel
theorem dX5_image_11 : decode cX5_image 11 = .ok (.aload_n 0, 1) := by decide +kernel
theorem dX5_image_12 : decode cX5_image 12 = .ok (.iconst 1, 1) := by decide +kernel
theorem dX5_image_13 : decode cX5_image 13 = .ok (.putfield 44, 3) := by decide +kernel
theorem dX5_image_16 : decode cX5_image 16 = .ok (.aload_n 0, 1) := by decide +kernel
theorem dX5_image_17 : decode cX5_image 17 = .ok (.getfield 12, 3) := by decide +kernel
theorem dX5_image_20 : decode cX5_image 20 = .ok (.getfield 75, 3) := by decide +kernel
theorem dX5_image_23 : decode cX5_image 23 = .ok (.ireturn, 1) := by decide +kernel
abbrev rm_X5_image : Room := { frames := 4, cells := 0, slots := 0, locals := 135 }
abbrev jJ_X5_image (l : Launch) (G : jx_G) (t : jx_T) (sz : Nat) (out : (Int32 × jx_M)) (pc : Nat) (lv : List (Nat × Value)) (st : List Value) (σ : jx_M) : Prop := jx_J l (ll_env G t) (ll_dyn G t) (ll_rg G) sz RX5 "image" cX5_image 1 (some .int) rm_X5_image (fun below args s => MQ below (jx_Qi (ll_dyn G (ll_tI t)) out.2 out.1 (jx_A (ll_rg G) sz)) args s 0 0 (jx_A (ll_rg G) sz)) 0 0 pc lv st σ
def f_X5_image (t : jx_T) (σ : jx_M)  : Option (Int32 × jx_M) :=
  jx_bd (f_X1_copy_I t σ) (fun q1 => jx_lt (jx_mu q1 0 40 (1 : Int32)) (fun σ2 => some ((σ2 0 2), σ2)))
set_option maxHeartbeats 4000000 in
set_option maxRecDepth 100000 in
theorem k_X5_image (l : Launch) (G : jx_G) (t : jx_T) (hG : ll_ok G) (sz : Nat) (σ : jx_M)  (out : (Int32 × jx_M)) (h : f_X5_image t σ = some out) : Met l yX5_image (Cond.code yX5_image cX5_image 1 (some .int) :: jx_ws) rm_X5_image (jx_Pc (ll_env G t) (ll_dyn G t) (ll_rg G) sz σ [.ref (G.2 20)]) (jx_Qi (ll_dyn G (ll_tI t)) out.2 out.1 (jx_A (ll_rg G) sz)) 0 0 (jx_A (ll_rg G) sz) := by
  unfold f_X5_image at h
  refine jx_met (by decide) (Nat.le_of_ble_eq_true rfl) ?_
  refine jx_sub (lv' := [(0, .ref (G.2 20))]) [0] rfl ?_
  refine jx_aload_n (pc := 0) (k0 := 0) rfl dX5_image_0 ?_
  refine ll_glamp_image (pc := 1) fl_X5_18 dX5_image_1 ?_
  refine jx_aload_n (pc := 4) (k0 := 0) rfl dX5_image_4 ?_
  refine ll_glamp_now (pc := 5) fl_X5_12 dX5_image_5 ?_
  obtain ⟨q1, eq1, h⟩ := jx_bd_o h
  refine jx_callVw (pc := 8) (fun _ _ h => ll_eI h) [.ref (G.2 21)] (fun sz' => k_X1_copy_I l G t hG sz' σ q1 eq1) kv_X5_247 ll_jok ll_rcimage rfl rfl (Nat.le_of_ble_eq_true rfl) ⟨⟨rfl, rfl⟩, ⟨Nat.le_of_ble_eq_true rfl, Nat.le_of_ble_eq_true rfl⟩, Nat.zero_le _, Nat.zero_le _⟩ dX5_image_8 ?_
  refine jx_aload_n (pc := 11) (k0 := 0) rfl dX5_image_11 ?_
  refine jx_iconst (pc := 12) (v := (1 : Int32)) (by decide) dX5_image_12 ?_
  obtain ⟨σ2, eσ2, h⟩ := jx_lt_o h
  refine ll_plamp_imaged (pc := 13) hG (by decide) fl_X5_44 eσ2 dX5_image_13 ?_
  refine jx_aload_n (pc := 16) (k0 := 0) rfl dX5_image_16 ?_
  refine ll_glamp_now (pc := 17) fl_X5_12 dX5_image_17 ?_
  refine ll_gnow_voters (pc := 20) fl_X5_75 dX5_image_20 ?_
  have h := Option.some.inj h
  subst h
  exact jx_iret (pc := 23) dX5_image_23
theorem dX5_undo_0 : decode cX5_undo 0 = .ok (.aload_n 0, 1) := by decide +kernel
theorem dX5_undo_1 : decode cX5_undo 1 = .ok (.getfield 44, 3) := by decide +kernel
theorem dX5_undo_4 : decode cX5_undo 4 = .ok (.ifCond .ne 6, 3) := by decide +kernel
theorem dX5_undo_7 : decode cX5_undo 7 = .ok (.bipush (-3), 2) := by decide +kernel
theorem dX5_undo_9 : decode cX5_undo 9 = .ok (.ireturn, 1) := by decide +kernel
theorem dX5_undo_10 : decode cX5_undo 10 = .ok (.aload_n 0, 1) := by decide +kernel
theorem dX5_undo_11 : decode cX5_undo 11 = .ok (.getfield 12, 3) := by decide +kernel
theorem dX5_undo_14 : decode cX5_undo 14 = .ok (.aload_n 0, 1) := by decide +kernel
theorem dX5_undo_15 : decode cX5_undo 15 = .ok (.getfield 18, 3) := by decide +kernel
theorem dX5_undo_18 : decode cX5_undo 18 = .ok (.invokevirtual 247, 3) := by decide +kernel
theorem dX5_undo_21 : decode cX5_undo 21 = .ok (.aload_n 0, 1) := by decide +kernel
theorem dX5_undo_22 : decode cX5_undo 22 = .ok (.getfield 12, 3) := by decide +kernel
theorem dX5_undo_25 : decode cX5_undo 25 = .ok (.getfield 75, 3) := by decide +kernel
theorem dX5_undo_28 : decode cX5_undo 28 = .ok (.ireturn, 1) := by decide +kernel
abbrev rm_X5_undo : Room := { frames := 4, cells := 0, slots := 0, locals := 135 }
abbrev jJ_X5_undo (l : Launch) (G : jx_G) (t : jx_T) (sz : Nat) (out : (Int32 × jx_M)) (pc : Nat) (lv : List (Nat × Value)) (st : List Value) (σ : jx_M) : Prop := jx_J l (ll_env G t) (ll_dyn G t) (ll_rg G) sz RX5 "undo" cX5_undo 1 (some .int) rm_X5_undo (fun below args s => MQ below (jx_Qi (ll_dyn G (ll_tU t σ)) out.2 out.1 (jx_A (ll_rg G) sz)) args s 0 0 (jx_A (ll_rg G) sz)) 0 0 pc lv st σ
def f_X5_undo (t : jx_T) (σ : jx_M)  : Option (Int32 × jx_M) :=
  if (σ 0 40) = 0 then some ((-3 : Int32), σ) else jx_bd (f_X1_copy_N t σ) (fun q2 => some ((q2 0 2), q2))
set_option maxHeartbeats 4000000 in
set_option maxRecDepth 100000 in
theorem k_X5_undo (l : Launch) (G : jx_G) (t : jx_T) (hG : ll_ok G) (sz : Nat) (σ : jx_M)  (out : (Int32 × jx_M)) (h : f_X5_undo t σ = some out) : Met l yX5_undo (Cond.code yX5_undo cX5_undo 1 (some .int) :: jx_ws) rm_X5_undo (jx_Pc (ll_env G t) (ll_dyn G t) (ll_rg G) sz σ [.ref (G.2 20)]) (jx_Qi (ll_dyn G (ll_tU t σ)) out.2 out.1 (jx_A (ll_rg G) sz)) 0 0 (jx_A (ll_rg G) sz) := by
  unfold f_X5_undo at h
  refine jx_met (by decide) (Nat.le_of_ble_eq_true rfl) ?_
  refine jx_sub (lv' := [(0, .ref (G.2 20))]) [0] rfl ?_
  refine jx_aload_n (pc := 0) (k0 := 0) rfl dX5_undo_0 ?_
  refine ll_glamp_imaged (pc := 1) fl_X5_44 dX5_undo_1 ?_
  refine jx_if_ne (pc := 4) (tgt := 10) dX5_undo_4 (by decide) (fun c1 => ?_) (fun c1 => ?_)
  · have h := jx_f c1 h
    rw [show ll_tU t σ = ll_tN t from if_neg c1]
    refine jx_aload_n (pc := 10) (k0 := 0) rfl dX5_undo_10 ?_
    refine ll_glamp_now (pc := 11) fl_X5_12 dX5_undo_11 ?_
    refine jx_aload_n (pc := 14) (k0 := 0) rfl dX5_undo_14 ?_
    refine ll_glamp_image (pc := 15) fl_X5_18 dX5_undo_15 ?_
    obtain ⟨q2, eq2, h⟩ := jx_bd_o h
    refine jx_callVw (pc := 18) (fun _ _ h => ll_eN h) [.ref (G.2 22)] (fun sz' => k_X1_copy_N l G t hG sz' σ q2 eq2) kv_X5_247 ll_jok ll_rcnow rfl rfl (Nat.le_of_ble_eq_true rfl) ⟨⟨rfl, rfl⟩, ⟨Nat.le_of_ble_eq_true rfl, Nat.le_of_ble_eq_true rfl⟩, Nat.zero_le _, Nat.zero_le _⟩ dX5_undo_18 ?_
    refine jx_aload_n (pc := 21) (k0 := 0) rfl dX5_undo_21 ?_
    refine ll_glamp_now (pc := 22) fl_X5_12 dX5_undo_22 ?_
    refine ll_gnow_voters (pc := 25) fl_X5_75 dX5_undo_25 ?_
    have h := Option.some.inj h
    subst h
    exact jx_iret (pc := 28) dX5_undo_28
  · have h := jx_t c1 h
    rw [show ll_tU t σ = t from if_pos c1]
    refine jx_bipush (pc := 7) (v := (-3 : Int32)) (by decide) dX5_undo_7 ?_
    have h := Option.some.inj h
    subst h
    exact jx_iret (pc := 9) dX5_undo_9
