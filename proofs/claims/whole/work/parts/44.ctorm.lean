/-! the reference's constructor -/
abbrev rm_X6_asAtFirst5 : Room := { frames := 1, cells := 0, slots := 0, locals := 20 }
set_option maxHeartbeats 40000000 in
set_option maxRecDepth 100000 in
theorem k_X6_asAtFirst5 (l : Launch) (G : jx_G) (sz : Nat) (o : Nat) (F : Nat → Int32) (v_s : Nat) (v_image : Nat) (v_by : Nat) (v_truths : Nat) (v_going : Nat) (v_weights : Nat) (v_lying : Nat) (v_counts : Nat) (v_bodies : Nat) : Met l yX6_asAtFirst (Cond.code yX6_asAtFirst cX6_asAtFirst 3 none :: jx_ws) rm_X6_asAtFirst5 (jx_Pc (je_env G []) (je_dyn G [(o, .inr (6, [.int 0, .ref v_s, .ref v_image, .int 0, .int 0, .int 0, .int 0, .int 0, .int 0, .ref v_by, .ref v_truths, .int 0, .int 0, .int 0, .int 0, .ref v_going, .ref v_weights, .ref v_lying, .ref v_counts, .int 0, .int 0, .ref v_bodies, .int 0, .int 0, .int 0, .int 0])), (v_s, .inl (G.2 0, 920, .inl (F)))] sz) (je_rg [(o, .inr (6, [.int 0, .ref v_s, .ref v_image, .int 0, .int 0, .int 0, .int 0, .int 0, .int 0, .ref v_by, .ref v_truths, .int 0, .int 0, .int 0, .int 0, .ref v_going, .ref v_weights, .ref v_lying, .ref v_counts, .int 0, .int 0, .ref v_bodies, .int 0, .int 0, .int 0, .int 0])), (v_s, .inl (G.2 0, 920, .inl (F)))]) sz [(o, .inr (6, [.int 0, .ref v_s, .ref v_image, .int 0, .int 0, .int 0, .int 0, .int 0, .int 0, .ref v_by, .ref v_truths, .int 0, .int 0, .int 0, .int 0, .ref v_going, .ref v_weights, .ref v_lying, .ref v_counts, .int 0, .int 0, .ref v_bodies, .int 0, .int 0, .int 0, .int 0])), (v_s, .inl (G.2 0, 920, .inl (F)))] [.ref o, .int (5 : Int32)]) (je_Qv G [(o, .inr (6, [.int 0, .ref v_s, .ref v_image, .int 0, .int 0, .int 0, .int 0, .int 0, .int 0, .ref v_by, .ref v_truths, .int 0, .int 0, .int 0, .int 0, .ref v_going, .ref v_weights, .ref v_lying, .ref v_counts, .int 0, .int 0, .ref v_bodies, .int 0, .int 0, .int 0, .int 0])), (v_s, .inl (G.2 0, 920, .inl (F)))] sz (fun u => ∃ f : Nat → Nat, u = [(o, .inr (6, [.int 0, .ref v_s, .ref v_image, .int 0, .int 0, .int 0, .int 0, .int 0, .int 0, .ref v_by, .ref v_truths, .int 0, .int 0, .int 0, .int 0, .ref v_going, .ref v_weights, .ref v_lying, .ref v_counts, .int 0, .int 0, .ref v_bodies, .int 0, .int 0, .int 0, .int 0])), (v_s, .inl (G.2 0, 920, .inl (upd (upd (upd (upd (upd (upd (upd (upd (upd (upd (upd (upd (upd (upd (upd (upd (upd (upd (upd (upd (upd (upd (F) 6 (5)) 10 (1)) 17 (-1)) 24 (0)) 11 (2)) 18 (-1)) 25 (0)) 12 (3)) 19 (-1)) 26 (0)) 13 (4)) 20 (-1)) 27 (0)) 14 (4)) 21 (-1)) 28 (0)) 15 (5)) 22 (-1)) 29 (0)) 16 (6)) 23 (-1)) 30 (0))))])) 0 0 (jx_A (je_rg [(o, .inr (6, [.int 0, .ref v_s, .ref v_image, .int 0, .int 0, .int 0, .int 0, .int 0, .int 0, .ref v_by, .ref v_truths, .int 0, .int 0, .int 0, .int 0, .ref v_going, .ref v_weights, .ref v_lying, .ref v_counts, .int 0, .int 0, .ref v_bodies, .int 0, .int 0, .int 0, .int 0])), (v_s, .inl (G.2 0, 920, .inl (F)))]) sz) := by
  refine jx_met (by decide) (Nat.le_of_ble_eq_true rfl) ?_
  refine jx_sub (lv' := [(0, .ref o), (1, .int (5 : Int32))]) [0, 1] rfl ?_
  refine jx_aload_n (pc := 0) (k0 := 0) rfl dX6_asAtFirst_0 ?_
  refine je_get (pc := 1) 0 1 il_X6 rfl rfl (by decide) rfl fl_X6_9 rfl dX6_asAtFirst_1 ?_
  refine jx_bipush (pc := 4) (v := (6 : Int32)) (by decide) dX6_asAtFirst_4 ?_
  refine jx_iload_n (pc := 6) (k0 := 1) rfl dX6_asAtFirst_6 ?_
  refine je_iast (pc := 7) (x2 := [(o, .inr (6, [.int 0, .ref v_s, .ref v_image, .int 0, .int 0, .int 0, .int 0, .int 0, .int 0, .ref v_by, .ref v_truths, .int 0, .int 0, .int 0, .int 0, .ref v_going, .ref v_weights, .ref v_lying, .ref v_counts, .int 0, .int 0, .ref v_bodies, .int 0, .int 0, .int 0, .int 0])), (v_s, .inl (G.2 0, 920, .inl (upd (F) 6 (5))))]) 1 rfl (jx_in_o (by decide)) rfl dX6_asAtFirst_7 ?_
  refine jx_iconst (pc := 8) (v := (0 : Int32)) (by decide) dX6_asAtFirst_8 ?_
  refine jx_istore_n (pc := 9) (i := 2) rfl (v2 := (0 : Int32)) (by decide) (by decide) (lv' := [(2, .int (0 : Int32)), (0, .ref o), (1, .int (5 : Int32))]) rfl dX6_asAtFirst_9 ?_
  refine jx_iload_n (pc := 10) (k0 := 2) rfl dX6_asAtFirst_10 ?_
  refine jx_bipush (pc := 11) (v := (7 : Int32)) (by decide) dX6_asAtFirst_11 ?_
  refine jx_icmp_ge (pc := 13) (tgt := 65) dX6_asAtFirst_13 (by decide) (fun c => absurd c (by decide)) (fun _ => ?_)
  refine jx_aload_n (pc := 16) (k0 := 0) rfl dX6_asAtFirst_16 ?_
  refine je_get (pc := 17) 0 1 il_X6 rfl rfl (by decide) rfl fl_X6_9 rfl dX6_asAtFirst_17 ?_
  refine jx_bipush (pc := 20) (v := (10 : Int32)) (by decide) dX6_asAtFirst_20 ?_
  refine jx_iload_n (pc := 22) (k0 := 2) rfl dX6_asAtFirst_22 ?_
  refine jx_iadd (pc := 23) dX6_asAtFirst_23 ?_
  refine jx_iload_n (pc := 24) (k0 := 2) rfl dX6_asAtFirst_24 ?_
  refine jx_iload_n (pc := 25) (k0 := 1) rfl dX6_asAtFirst_25 ?_
  refine jx_iconst (pc := 26) (v := (1 : Int32)) (by decide) dX6_asAtFirst_26 ?_
  refine jx_isub (pc := 27) dX6_asAtFirst_27 ?_
  refine jx_icmp_ge (pc := 28) (tgt := 37) dX6_asAtFirst_28 (by decide) (fun c => absurd c (by decide)) (fun _ => ?_)
  refine jx_iload_n (pc := 31) (k0 := 2) rfl dX6_asAtFirst_31 ?_
  refine jx_iconst (pc := 32) (v := (1 : Int32)) (by decide) dX6_asAtFirst_32 ?_
  refine jx_iadd (pc := 33) dX6_asAtFirst_33 ?_
  refine jx_goto (pc := 34) (tgt := 38) dX6_asAtFirst_34 (by decide) ?_
  refine je_iast (pc := 38) (x2 := [(o, .inr (6, [.int 0, .ref v_s, .ref v_image, .int 0, .int 0, .int 0, .int 0, .int 0, .int 0, .ref v_by, .ref v_truths, .int 0, .int 0, .int 0, .int 0, .ref v_going, .ref v_weights, .ref v_lying, .ref v_counts, .int 0, .int 0, .ref v_bodies, .int 0, .int 0, .int 0, .int 0])), (v_s, .inl (G.2 0, 920, .inl (upd (upd (F) 6 (5)) 10 (1))))]) 1 rfl (jx_in_o (by decide)) rfl dX6_asAtFirst_38 ?_
  refine jx_aload_n (pc := 39) (k0 := 0) rfl dX6_asAtFirst_39 ?_
  refine je_get (pc := 40) 0 1 il_X6 rfl rfl (by decide) rfl fl_X6_9 rfl dX6_asAtFirst_40 ?_
  refine jx_bipush (pc := 43) (v := (17 : Int32)) (by decide) dX6_asAtFirst_43 ?_
  refine jx_iload_n (pc := 45) (k0 := 2) rfl dX6_asAtFirst_45 ?_
  refine jx_iadd (pc := 46) dX6_asAtFirst_46 ?_
  refine jx_iconst (pc := 47) (v := (-1 : Int32)) (by decide) dX6_asAtFirst_47 ?_
  refine je_iast (pc := 48) (x2 := [(o, .inr (6, [.int 0, .ref v_s, .ref v_image, .int 0, .int 0, .int 0, .int 0, .int 0, .int 0, .ref v_by, .ref v_truths, .int 0, .int 0, .int 0, .int 0, .ref v_going, .ref v_weights, .ref v_lying, .ref v_counts, .int 0, .int 0, .ref v_bodies, .int 0, .int 0, .int 0, .int 0])), (v_s, .inl (G.2 0, 920, .inl (upd (upd (upd (F) 6 (5)) 10 (1)) 17 (-1))))]) 1 rfl (jx_in_o (by decide)) rfl dX6_asAtFirst_48 ?_
  refine jx_aload_n (pc := 49) (k0 := 0) rfl dX6_asAtFirst_49 ?_
  refine je_get (pc := 50) 0 1 il_X6 rfl rfl (by decide) rfl fl_X6_9 rfl dX6_asAtFirst_50 ?_
  refine jx_bipush (pc := 53) (v := (24 : Int32)) (by decide) dX6_asAtFirst_53 ?_
  refine jx_iload_n (pc := 55) (k0 := 2) rfl dX6_asAtFirst_55 ?_
  refine jx_iadd (pc := 56) dX6_asAtFirst_56 ?_
  refine jx_iconst (pc := 57) (v := (0 : Int32)) (by decide) dX6_asAtFirst_57 ?_
  refine je_iast (pc := 58) (x2 := [(o, .inr (6, [.int 0, .ref v_s, .ref v_image, .int 0, .int 0, .int 0, .int 0, .int 0, .int 0, .ref v_by, .ref v_truths, .int 0, .int 0, .int 0, .int 0, .ref v_going, .ref v_weights, .ref v_lying, .ref v_counts, .int 0, .int 0, .ref v_bodies, .int 0, .int 0, .int 0, .int 0])), (v_s, .inl (G.2 0, 920, .inl (upd (upd (upd (upd (F) 6 (5)) 10 (1)) 17 (-1)) 24 (0))))]) 1 rfl (jx_in_o (by decide)) rfl dX6_asAtFirst_58 ?_
  refine jx_iinc (pc := 59) (i := 2) (v := (0 : Int32)) (v2 := (1 : Int32)) (w := (1 : Int32)) rfl (by decide) (n := 1) (by decide) (by decide) (lv' := [(2, .int (1 : Int32)), (0, .ref o), (1, .int (5 : Int32))]) rfl dX6_asAtFirst_59 ?_
  refine jx_goto (pc := 62) (tgt := 10) dX6_asAtFirst_62 (by decide) ?_
  refine jx_iload_n (pc := 10) (k0 := 2) rfl dX6_asAtFirst_10 ?_
  refine jx_bipush (pc := 11) (v := (7 : Int32)) (by decide) dX6_asAtFirst_11 ?_
  refine jx_icmp_ge (pc := 13) (tgt := 65) dX6_asAtFirst_13 (by decide) (fun c => absurd c (by decide)) (fun _ => ?_)
  refine jx_aload_n (pc := 16) (k0 := 0) rfl dX6_asAtFirst_16 ?_
  refine je_get (pc := 17) 0 1 il_X6 rfl rfl (by decide) rfl fl_X6_9 rfl dX6_asAtFirst_17 ?_
  refine jx_bipush (pc := 20) (v := (10 : Int32)) (by decide) dX6_asAtFirst_20 ?_
  refine jx_iload_n (pc := 22) (k0 := 2) rfl dX6_asAtFirst_22 ?_
  refine jx_iadd (pc := 23) dX6_asAtFirst_23 ?_
  refine jx_iload_n (pc := 24) (k0 := 2) rfl dX6_asAtFirst_24 ?_
  refine jx_iload_n (pc := 25) (k0 := 1) rfl dX6_asAtFirst_25 ?_
  refine jx_iconst (pc := 26) (v := (1 : Int32)) (by decide) dX6_asAtFirst_26 ?_
  refine jx_isub (pc := 27) dX6_asAtFirst_27 ?_
  refine jx_icmp_ge (pc := 28) (tgt := 37) dX6_asAtFirst_28 (by decide) (fun c => absurd c (by decide)) (fun _ => ?_)
  refine jx_iload_n (pc := 31) (k0 := 2) rfl dX6_asAtFirst_31 ?_
  refine jx_iconst (pc := 32) (v := (1 : Int32)) (by decide) dX6_asAtFirst_32 ?_
  refine jx_iadd (pc := 33) dX6_asAtFirst_33 ?_
  refine jx_goto (pc := 34) (tgt := 38) dX6_asAtFirst_34 (by decide) ?_
  refine je_iast (pc := 38) (x2 := [(o, .inr (6, [.int 0, .ref v_s, .ref v_image, .int 0, .int 0, .int 0, .int 0, .int 0, .int 0, .ref v_by, .ref v_truths, .int 0, .int 0, .int 0, .int 0, .ref v_going, .ref v_weights, .ref v_lying, .ref v_counts, .int 0, .int 0, .ref v_bodies, .int 0, .int 0, .int 0, .int 0])), (v_s, .inl (G.2 0, 920, .inl (upd (upd (upd (upd (upd (F) 6 (5)) 10 (1)) 17 (-1)) 24 (0)) 11 (2))))]) 1 rfl (jx_in_o (by decide)) rfl dX6_asAtFirst_38 ?_
  refine jx_aload_n (pc := 39) (k0 := 0) rfl dX6_asAtFirst_39 ?_
  refine je_get (pc := 40) 0 1 il_X6 rfl rfl (by decide) rfl fl_X6_9 rfl dX6_asAtFirst_40 ?_
  refine jx_bipush (pc := 43) (v := (17 : Int32)) (by decide) dX6_asAtFirst_43 ?_
  refine jx_iload_n (pc := 45) (k0 := 2) rfl dX6_asAtFirst_45 ?_
  refine jx_iadd (pc := 46) dX6_asAtFirst_46 ?_
  refine jx_iconst (pc := 47) (v := (-1 : Int32)) (by decide) dX6_asAtFirst_47 ?_
  refine je_iast (pc := 48) (x2 := [(o, .inr (6, [.int 0, .ref v_s, .ref v_image, .int 0, .int 0, .int 0, .int 0, .int 0, .int 0, .ref v_by, .ref v_truths, .int 0, .int 0, .int 0, .int 0, .ref v_going, .ref v_weights, .ref v_lying, .ref v_counts, .int 0, .int 0, .ref v_bodies, .int 0, .int 0, .int 0, .int 0])), (v_s, .inl (G.2 0, 920, .inl (upd (upd (upd (upd (upd (upd (F) 6 (5)) 10 (1)) 17 (-1)) 24 (0)) 11 (2)) 18 (-1))))]) 1 rfl (jx_in_o (by decide)) rfl dX6_asAtFirst_48 ?_
  refine jx_aload_n (pc := 49) (k0 := 0) rfl dX6_asAtFirst_49 ?_
  refine je_get (pc := 50) 0 1 il_X6 rfl rfl (by decide) rfl fl_X6_9 rfl dX6_asAtFirst_50 ?_
  refine jx_bipush (pc := 53) (v := (24 : Int32)) (by decide) dX6_asAtFirst_53 ?_
  refine jx_iload_n (pc := 55) (k0 := 2) rfl dX6_asAtFirst_55 ?_
  refine jx_iadd (pc := 56) dX6_asAtFirst_56 ?_
  refine jx_iconst (pc := 57) (v := (0 : Int32)) (by decide) dX6_asAtFirst_57 ?_
  refine je_iast (pc := 58) (x2 := [(o, .inr (6, [.int 0, .ref v_s, .ref v_image, .int 0, .int 0, .int 0, .int 0, .int 0, .int 0, .ref v_by, .ref v_truths, .int 0, .int 0, .int 0, .int 0, .ref v_going, .ref v_weights, .ref v_lying, .ref v_counts, .int 0, .int 0, .ref v_bodies, .int 0, .int 0, .int 0, .int 0])), (v_s, .inl (G.2 0, 920, .inl (upd (upd (upd (upd (upd (upd (upd (F) 6 (5)) 10 (1)) 17 (-1)) 24 (0)) 11 (2)) 18 (-1)) 25 (0))))]) 1 rfl (jx_in_o (by decide)) rfl dX6_asAtFirst_58 ?_
  refine jx_iinc (pc := 59) (i := 2) (v := (1 : Int32)) (v2 := (2 : Int32)) (w := (1 : Int32)) rfl (by decide) (n := 1) (by decide) (by decide) (lv' := [(2, .int (2 : Int32)), (0, .ref o), (1, .int (5 : Int32))]) rfl dX6_asAtFirst_59 ?_
  refine jx_goto (pc := 62) (tgt := 10) dX6_asAtFirst_62 (by decide) ?_
  refine jx_iload_n (pc := 10) (k0 := 2) rfl dX6_asAtFirst_10 ?_
  refine jx_bipush (pc := 11) (v := (7 : Int32)) (by decide) dX6_asAtFirst_11 ?_
  refine jx_icmp_ge (pc := 13) (tgt := 65) dX6_asAtFirst_13 (by decide) (fun c => absurd c (by decide)) (fun _ => ?_)
  refine jx_aload_n (pc := 16) (k0 := 0) rfl dX6_asAtFirst_16 ?_
  refine je_get (pc := 17) 0 1 il_X6 rfl rfl (by decide) rfl fl_X6_9 rfl dX6_asAtFirst_17 ?_
  refine jx_bipush (pc := 20) (v := (10 : Int32)) (by decide) dX6_asAtFirst_20 ?_
  refine jx_iload_n (pc := 22) (k0 := 2) rfl dX6_asAtFirst_22 ?_
  refine jx_iadd (pc := 23) dX6_asAtFirst_23 ?_
  refine jx_iload_n (pc := 24) (k0 := 2) rfl dX6_asAtFirst_24 ?_
  refine jx_iload_n (pc := 25) (k0 := 1) rfl dX6_asAtFirst_25 ?_
  refine jx_iconst (pc := 26) (v := (1 : Int32)) (by decide) dX6_asAtFirst_26 ?_
  refine jx_isub (pc := 27) dX6_asAtFirst_27 ?_
  refine jx_icmp_ge (pc := 28) (tgt := 37) dX6_asAtFirst_28 (by decide) (fun c => absurd c (by decide)) (fun _ => ?_)
  refine jx_iload_n (pc := 31) (k0 := 2) rfl dX6_asAtFirst_31 ?_
  refine jx_iconst (pc := 32) (v := (1 : Int32)) (by decide) dX6_asAtFirst_32 ?_
  refine jx_iadd (pc := 33) dX6_asAtFirst_33 ?_
  refine jx_goto (pc := 34) (tgt := 38) dX6_asAtFirst_34 (by decide) ?_
  refine je_iast (pc := 38) (x2 := [(o, .inr (6, [.int 0, .ref v_s, .ref v_image, .int 0, .int 0, .int 0, .int 0, .int 0, .int 0, .ref v_by, .ref v_truths, .int 0, .int 0, .int 0, .int 0, .ref v_going, .ref v_weights, .ref v_lying, .ref v_counts, .int 0, .int 0, .ref v_bodies, .int 0, .int 0, .int 0, .int 0])), (v_s, .inl (G.2 0, 920, .inl (upd (upd (upd (upd (upd (upd (upd (upd (F) 6 (5)) 10 (1)) 17 (-1)) 24 (0)) 11 (2)) 18 (-1)) 25 (0)) 12 (3))))]) 1 rfl (jx_in_o (by decide)) rfl dX6_asAtFirst_38 ?_
  refine jx_aload_n (pc := 39) (k0 := 0) rfl dX6_asAtFirst_39 ?_
  refine je_get (pc := 40) 0 1 il_X6 rfl rfl (by decide) rfl fl_X6_9 rfl dX6_asAtFirst_40 ?_
  refine jx_bipush (pc := 43) (v := (17 : Int32)) (by decide) dX6_asAtFirst_43 ?_
  refine jx_iload_n (pc := 45) (k0 := 2) rfl dX6_asAtFirst_45 ?_
  refine jx_iadd (pc := 46) dX6_asAtFirst_46 ?_
  refine jx_iconst (pc := 47) (v := (-1 : Int32)) (by decide) dX6_asAtFirst_47 ?_
  refine je_iast (pc := 48) (x2 := [(o, .inr (6, [.int 0, .ref v_s, .ref v_image, .int 0, .int 0, .int 0, .int 0, .int 0, .int 0, .ref v_by, .ref v_truths, .int 0, .int 0, .int 0, .int 0, .ref v_going, .ref v_weights, .ref v_lying, .ref v_counts, .int 0, .int 0, .ref v_bodies, .int 0, .int 0, .int 0, .int 0])), (v_s, .inl (G.2 0, 920, .inl (upd (upd (upd (upd (upd (upd (upd (upd (upd (F) 6 (5)) 10 (1)) 17 (-1)) 24 (0)) 11 (2)) 18 (-1)) 25 (0)) 12 (3)) 19 (-1))))]) 1 rfl (jx_in_o (by decide)) rfl dX6_asAtFirst_48 ?_
  refine jx_aload_n (pc := 49) (k0 := 0) rfl dX6_asAtFirst_49 ?_
  refine je_get (pc := 50) 0 1 il_X6 rfl rfl (by decide) rfl fl_X6_9 rfl dX6_asAtFirst_50 ?_
  refine jx_bipush (pc := 53) (v := (24 : Int32)) (by decide) dX6_asAtFirst_53 ?_
  refine jx_iload_n (pc := 55) (k0 := 2) rfl dX6_asAtFirst_55 ?_
  refine jx_iadd (pc := 56) dX6_asAtFirst_56 ?_
  refine jx_iconst (pc := 57) (v := (0 : Int32)) (by decide) dX6_asAtFirst_57 ?_
  refine je_iast (pc := 58) (x2 := [(o, .inr (6, [.int 0, .ref v_s, .ref v_image, .int 0, .int 0, .int 0, .int 0, .int 0, .int 0, .ref v_by, .ref v_truths, .int 0, .int 0, .int 0, .int 0, .ref v_going, .ref v_weights, .ref v_lying, .ref v_counts, .int 0, .int 0, .ref v_bodies, .int 0, .int 0, .int 0, .int 0])), (v_s, .inl (G.2 0, 920, .inl (upd (upd (upd (upd (upd (upd (upd (upd (upd (upd (F) 6 (5)) 10 (1)) 17 (-1)) 24 (0)) 11 (2)) 18 (-1)) 25 (0)) 12 (3)) 19 (-1)) 26 (0))))]) 1 rfl (jx_in_o (by decide)) rfl dX6_asAtFirst_58 ?_
  refine jx_iinc (pc := 59) (i := 2) (v := (2 : Int32)) (v2 := (3 : Int32)) (w := (1 : Int32)) rfl (by decide) (n := 1) (by decide) (by decide) (lv' := [(2, .int (3 : Int32)), (0, .ref o), (1, .int (5 : Int32))]) rfl dX6_asAtFirst_59 ?_
  refine jx_goto (pc := 62) (tgt := 10) dX6_asAtFirst_62 (by decide) ?_
  refine jx_iload_n (pc := 10) (k0 := 2) rfl dX6_asAtFirst_10 ?_
  refine jx_bipush (pc := 11) (v := (7 : Int32)) (by decide) dX6_asAtFirst_11 ?_
  refine jx_icmp_ge (pc := 13) (tgt := 65) dX6_asAtFirst_13 (by decide) (fun c => absurd c (by decide)) (fun _ => ?_)
  refine jx_aload_n (pc := 16) (k0 := 0) rfl dX6_asAtFirst_16 ?_
  refine je_get (pc := 17) 0 1 il_X6 rfl rfl (by decide) rfl fl_X6_9 rfl dX6_asAtFirst_17 ?_
  refine jx_bipush (pc := 20) (v := (10 : Int32)) (by decide) dX6_asAtFirst_20 ?_
  refine jx_iload_n (pc := 22) (k0 := 2) rfl dX6_asAtFirst_22 ?_
  refine jx_iadd (pc := 23) dX6_asAtFirst_23 ?_
  refine jx_iload_n (pc := 24) (k0 := 2) rfl dX6_asAtFirst_24 ?_
  refine jx_iload_n (pc := 25) (k0 := 1) rfl dX6_asAtFirst_25 ?_
  refine jx_iconst (pc := 26) (v := (1 : Int32)) (by decide) dX6_asAtFirst_26 ?_
  refine jx_isub (pc := 27) dX6_asAtFirst_27 ?_
  refine jx_icmp_ge (pc := 28) (tgt := 37) dX6_asAtFirst_28 (by decide) (fun c => absurd c (by decide)) (fun _ => ?_)
  refine jx_iload_n (pc := 31) (k0 := 2) rfl dX6_asAtFirst_31 ?_
  refine jx_iconst (pc := 32) (v := (1 : Int32)) (by decide) dX6_asAtFirst_32 ?_
  refine jx_iadd (pc := 33) dX6_asAtFirst_33 ?_
  refine jx_goto (pc := 34) (tgt := 38) dX6_asAtFirst_34 (by decide) ?_
  refine je_iast (pc := 38) (x2 := [(o, .inr (6, [.int 0, .ref v_s, .ref v_image, .int 0, .int 0, .int 0, .int 0, .int 0, .int 0, .ref v_by, .ref v_truths, .int 0, .int 0, .int 0, .int 0, .ref v_going, .ref v_weights, .ref v_lying, .ref v_counts, .int 0, .int 0, .ref v_bodies, .int 0, .int 0, .int 0, .int 0])), (v_s, .inl (G.2 0, 920, .inl (upd (upd (upd (upd (upd (upd (upd (upd (upd (upd (upd (F) 6 (5)) 10 (1)) 17 (-1)) 24 (0)) 11 (2)) 18 (-1)) 25 (0)) 12 (3)) 19 (-1)) 26 (0)) 13 (4))))]) 1 rfl (jx_in_o (by decide)) rfl dX6_asAtFirst_38 ?_
  refine jx_aload_n (pc := 39) (k0 := 0) rfl dX6_asAtFirst_39 ?_
  refine je_get (pc := 40) 0 1 il_X6 rfl rfl (by decide) rfl fl_X6_9 rfl dX6_asAtFirst_40 ?_
  refine jx_bipush (pc := 43) (v := (17 : Int32)) (by decide) dX6_asAtFirst_43 ?_
  refine jx_iload_n (pc := 45) (k0 := 2) rfl dX6_asAtFirst_45 ?_
  refine jx_iadd (pc := 46) dX6_asAtFirst_46 ?_
  refine jx_iconst (pc := 47) (v := (-1 : Int32)) (by decide) dX6_asAtFirst_47 ?_
  refine je_iast (pc := 48) (x2 := [(o, .inr (6, [.int 0, .ref v_s, .ref v_image, .int 0, .int 0, .int 0, .int 0, .int 0, .int 0, .ref v_by, .ref v_truths, .int 0, .int 0, .int 0, .int 0, .ref v_going, .ref v_weights, .ref v_lying, .ref v_counts, .int 0, .int 0, .ref v_bodies, .int 0, .int 0, .int 0, .int 0])), (v_s, .inl (G.2 0, 920, .inl (upd (upd (upd (upd (upd (upd (upd (upd (upd (upd (upd (upd (F) 6 (5)) 10 (1)) 17 (-1)) 24 (0)) 11 (2)) 18 (-1)) 25 (0)) 12 (3)) 19 (-1)) 26 (0)) 13 (4)) 20 (-1))))]) 1 rfl (jx_in_o (by decide)) rfl dX6_asAtFirst_48 ?_
  refine jx_aload_n (pc := 49) (k0 := 0) rfl dX6_asAtFirst_49 ?_
  refine je_get (pc := 50) 0 1 il_X6 rfl rfl (by decide) rfl fl_X6_9 rfl dX6_asAtFirst_50 ?_
  refine jx_bipush (pc := 53) (v := (24 : Int32)) (by decide) dX6_asAtFirst_53 ?_
  refine jx_iload_n (pc := 55) (k0 := 2) rfl dX6_asAtFirst_55 ?_
  refine jx_iadd (pc := 56) dX6_asAtFirst_56 ?_
  refine jx_iconst (pc := 57) (v := (0 : Int32)) (by decide) dX6_asAtFirst_57 ?_
  refine je_iast (pc := 58) (x2 := [(o, .inr (6, [.int 0, .ref v_s, .ref v_image, .int 0, .int 0, .int 0, .int 0, .int 0, .int 0, .ref v_by, .ref v_truths, .int 0, .int 0, .int 0, .int 0, .ref v_going, .ref v_weights, .ref v_lying, .ref v_counts, .int 0, .int 0, .ref v_bodies, .int 0, .int 0, .int 0, .int 0])), (v_s, .inl (G.2 0, 920, .inl (upd (upd (upd (upd (upd (upd (upd (upd (upd (upd (upd (upd (upd (F) 6 (5)) 10 (1)) 17 (-1)) 24 (0)) 11 (2)) 18 (-1)) 25 (0)) 12 (3)) 19 (-1)) 26 (0)) 13 (4)) 20 (-1)) 27 (0))))]) 1 rfl (jx_in_o (by decide)) rfl dX6_asAtFirst_58 ?_
  refine jx_iinc (pc := 59) (i := 2) (v := (3 : Int32)) (v2 := (4 : Int32)) (w := (1 : Int32)) rfl (by decide) (n := 1) (by decide) (by decide) (lv' := [(2, .int (4 : Int32)), (0, .ref o), (1, .int (5 : Int32))]) rfl dX6_asAtFirst_59 ?_
  refine jx_goto (pc := 62) (tgt := 10) dX6_asAtFirst_62 (by decide) ?_
  refine jx_iload_n (pc := 10) (k0 := 2) rfl dX6_asAtFirst_10 ?_
  refine jx_bipush (pc := 11) (v := (7 : Int32)) (by decide) dX6_asAtFirst_11 ?_
  refine jx_icmp_ge (pc := 13) (tgt := 65) dX6_asAtFirst_13 (by decide) (fun c => absurd c (by decide)) (fun _ => ?_)
  refine jx_aload_n (pc := 16) (k0 := 0) rfl dX6_asAtFirst_16 ?_
  refine je_get (pc := 17) 0 1 il_X6 rfl rfl (by decide) rfl fl_X6_9 rfl dX6_asAtFirst_17 ?_
  refine jx_bipush (pc := 20) (v := (10 : Int32)) (by decide) dX6_asAtFirst_20 ?_
  refine jx_iload_n (pc := 22) (k0 := 2) rfl dX6_asAtFirst_22 ?_
  refine jx_iadd (pc := 23) dX6_asAtFirst_23 ?_
  refine jx_iload_n (pc := 24) (k0 := 2) rfl dX6_asAtFirst_24 ?_
  refine jx_iload_n (pc := 25) (k0 := 1) rfl dX6_asAtFirst_25 ?_
  refine jx_iconst (pc := 26) (v := (1 : Int32)) (by decide) dX6_asAtFirst_26 ?_
  refine jx_isub (pc := 27) dX6_asAtFirst_27 ?_
  refine jx_icmp_ge (pc := 28) (tgt := 37) dX6_asAtFirst_28 (by decide) (fun _ => ?_) (fun c => absurd c (by decide))
  refine jx_iload_n (pc := 37) (k0 := 2) rfl dX6_asAtFirst_37 ?_
  refine je_iast (pc := 38) (x2 := [(o, .inr (6, [.int 0, .ref v_s, .ref v_image, .int 0, .int 0, .int 0, .int 0, .int 0, .int 0, .ref v_by, .ref v_truths, .int 0, .int 0, .int 0, .int 0, .ref v_going, .ref v_weights, .ref v_lying, .ref v_counts, .int 0, .int 0, .ref v_bodies, .int 0, .int 0, .int 0, .int 0])), (v_s, .inl (G.2 0, 920, .inl (upd (upd (upd (upd (upd (upd (upd (upd (upd (upd (upd (upd (upd (upd (F) 6 (5)) 10 (1)) 17 (-1)) 24 (0)) 11 (2)) 18 (-1)) 25 (0)) 12 (3)) 19 (-1)) 26 (0)) 13 (4)) 20 (-1)) 27 (0)) 14 (4))))]) 1 rfl (jx_in_o (by decide)) rfl dX6_asAtFirst_38 ?_
  refine jx_aload_n (pc := 39) (k0 := 0) rfl dX6_asAtFirst_39 ?_
  refine je_get (pc := 40) 0 1 il_X6 rfl rfl (by decide) rfl fl_X6_9 rfl dX6_asAtFirst_40 ?_
  refine jx_bipush (pc := 43) (v := (17 : Int32)) (by decide) dX6_asAtFirst_43 ?_
  refine jx_iload_n (pc := 45) (k0 := 2) rfl dX6_asAtFirst_45 ?_
  refine jx_iadd (pc := 46) dX6_asAtFirst_46 ?_
  refine jx_iconst (pc := 47) (v := (-1 : Int32)) (by decide) dX6_asAtFirst_47 ?_
  refine je_iast (pc := 48) (x2 := [(o, .inr (6, [.int 0, .ref v_s, .ref v_image, .int 0, .int 0, .int 0, .int 0, .int 0, .int 0, .ref v_by, .ref v_truths, .int 0, .int 0, .int 0, .int 0, .ref v_going, .ref v_weights, .ref v_lying, .ref v_counts, .int 0, .int 0, .ref v_bodies, .int 0, .int 0, .int 0, .int 0])), (v_s, .inl (G.2 0, 920, .inl (upd (upd (upd (upd (upd (upd (upd (upd (upd (upd (upd (upd (upd (upd (upd (F) 6 (5)) 10 (1)) 17 (-1)) 24 (0)) 11 (2)) 18 (-1)) 25 (0)) 12 (3)) 19 (-1)) 26 (0)) 13 (4)) 20 (-1)) 27 (0)) 14 (4)) 21 (-1))))]) 1 rfl (jx_in_o (by decide)) rfl dX6_asAtFirst_48 ?_
  refine jx_aload_n (pc := 49) (k0 := 0) rfl dX6_asAtFirst_49 ?_
  refine je_get (pc := 50) 0 1 il_X6 rfl rfl (by decide) rfl fl_X6_9 rfl dX6_asAtFirst_50 ?_
  refine jx_bipush (pc := 53) (v := (24 : Int32)) (by decide) dX6_asAtFirst_53 ?_
  refine jx_iload_n (pc := 55) (k0 := 2) rfl dX6_asAtFirst_55 ?_
  refine jx_iadd (pc := 56) dX6_asAtFirst_56 ?_
  refine jx_iconst (pc := 57) (v := (0 : Int32)) (by decide) dX6_asAtFirst_57 ?_
  refine je_iast (pc := 58) (x2 := [(o, .inr (6, [.int 0, .ref v_s, .ref v_image, .int 0, .int 0, .int 0, .int 0, .int 0, .int 0, .ref v_by, .ref v_truths, .int 0, .int 0, .int 0, .int 0, .ref v_going, .ref v_weights, .ref v_lying, .ref v_counts, .int 0, .int 0, .ref v_bodies, .int 0, .int 0, .int 0, .int 0])), (v_s, .inl (G.2 0, 920, .inl (upd (upd (upd (upd (upd (upd (upd (upd (upd (upd (upd (upd (upd (upd (upd (upd (F) 6 (5)) 10 (1)) 17 (-1)) 24 (0)) 11 (2)) 18 (-1)) 25 (0)) 12 (3)) 19 (-1)) 26 (0)) 13 (4)) 20 (-1)) 27 (0)) 14 (4)) 21 (-1)) 28 (0))))]) 1 rfl (jx_in_o (by decide)) rfl dX6_asAtFirst_58 ?_
  refine jx_iinc (pc := 59) (i := 2) (v := (4 : Int32)) (v2 := (5 : Int32)) (w := (1 : Int32)) rfl (by decide) (n := 1) (by decide) (by decide) (lv' := [(2, .int (5 : Int32)), (0, .ref o), (1, .int (5 : Int32))]) rfl dX6_asAtFirst_59 ?_
  refine jx_goto (pc := 62) (tgt := 10) dX6_asAtFirst_62 (by decide) ?_
  refine jx_iload_n (pc := 10) (k0 := 2) rfl dX6_asAtFirst_10 ?_
  refine jx_bipush (pc := 11) (v := (7 : Int32)) (by decide) dX6_asAtFirst_11 ?_
  refine jx_icmp_ge (pc := 13) (tgt := 65) dX6_asAtFirst_13 (by decide) (fun c => absurd c (by decide)) (fun _ => ?_)
  refine jx_aload_n (pc := 16) (k0 := 0) rfl dX6_asAtFirst_16 ?_
  refine je_get (pc := 17) 0 1 il_X6 rfl rfl (by decide) rfl fl_X6_9 rfl dX6_asAtFirst_17 ?_
  refine jx_bipush (pc := 20) (v := (10 : Int32)) (by decide) dX6_asAtFirst_20 ?_
  refine jx_iload_n (pc := 22) (k0 := 2) rfl dX6_asAtFirst_22 ?_
  refine jx_iadd (pc := 23) dX6_asAtFirst_23 ?_
  refine jx_iload_n (pc := 24) (k0 := 2) rfl dX6_asAtFirst_24 ?_
  refine jx_iload_n (pc := 25) (k0 := 1) rfl dX6_asAtFirst_25 ?_
  refine jx_iconst (pc := 26) (v := (1 : Int32)) (by decide) dX6_asAtFirst_26 ?_
  refine jx_isub (pc := 27) dX6_asAtFirst_27 ?_
  refine jx_icmp_ge (pc := 28) (tgt := 37) dX6_asAtFirst_28 (by decide) (fun _ => ?_) (fun c => absurd c (by decide))
  refine jx_iload_n (pc := 37) (k0 := 2) rfl dX6_asAtFirst_37 ?_
  refine je_iast (pc := 38) (x2 := [(o, .inr (6, [.int 0, .ref v_s, .ref v_image, .int 0, .int 0, .int 0, .int 0, .int 0, .int 0, .ref v_by, .ref v_truths, .int 0, .int 0, .int 0, .int 0, .ref v_going, .ref v_weights, .ref v_lying, .ref v_counts, .int 0, .int 0, .ref v_bodies, .int 0, .int 0, .int 0, .int 0])), (v_s, .inl (G.2 0, 920, .inl (upd (upd (upd (upd (upd (upd (upd (upd (upd (upd (upd (upd (upd (upd (upd (upd (upd (F) 6 (5)) 10 (1)) 17 (-1)) 24 (0)) 11 (2)) 18 (-1)) 25 (0)) 12 (3)) 19 (-1)) 26 (0)) 13 (4)) 20 (-1)) 27 (0)) 14 (4)) 21 (-1)) 28 (0)) 15 (5))))]) 1 rfl (jx_in_o (by decide)) rfl dX6_asAtFirst_38 ?_
  refine jx_aload_n (pc := 39) (k0 := 0) rfl dX6_asAtFirst_39 ?_
  refine je_get (pc := 40) 0 1 il_X6 rfl rfl (by decide) rfl fl_X6_9 rfl dX6_asAtFirst_40 ?_
  refine jx_bipush (pc := 43) (v := (17 : Int32)) (by decide) dX6_asAtFirst_43 ?_
  refine jx_iload_n (pc := 45) (k0 := 2) rfl dX6_asAtFirst_45 ?_
  refine jx_iadd (pc := 46) dX6_asAtFirst_46 ?_
  refine jx_iconst (pc := 47) (v := (-1 : Int32)) (by decide) dX6_asAtFirst_47 ?_
  refine je_iast (pc := 48) (x2 := [(o, .inr (6, [.int 0, .ref v_s, .ref v_image, .int 0, .int 0, .int 0, .int 0, .int 0, .int 0, .ref v_by, .ref v_truths, .int 0, .int 0, .int 0, .int 0, .ref v_going, .ref v_weights, .ref v_lying, .ref v_counts, .int 0, .int 0, .ref v_bodies, .int 0, .int 0, .int 0, .int 0])), (v_s, .inl (G.2 0, 920, .inl (upd (upd (upd (upd (upd (upd (upd (upd (upd (upd (upd (upd (upd (upd (upd (upd (upd (upd (F) 6 (5)) 10 (1)) 17 (-1)) 24 (0)) 11 (2)) 18 (-1)) 25 (0)) 12 (3)) 19 (-1)) 26 (0)) 13 (4)) 20 (-1)) 27 (0)) 14 (4)) 21 (-1)) 28 (0)) 15 (5)) 22 (-1))))]) 1 rfl (jx_in_o (by decide)) rfl dX6_asAtFirst_48 ?_
  refine jx_aload_n (pc := 49) (k0 := 0) rfl dX6_asAtFirst_49 ?_
  refine je_get (pc := 50) 0 1 il_X6 rfl rfl (by decide) rfl fl_X6_9 rfl dX6_asAtFirst_50 ?_
  refine jx_bipush (pc := 53) (v := (24 : Int32)) (by decide) dX6_asAtFirst_53 ?_
  refine jx_iload_n (pc := 55) (k0 := 2) rfl dX6_asAtFirst_55 ?_
  refine jx_iadd (pc := 56) dX6_asAtFirst_56 ?_
  refine jx_iconst (pc := 57) (v := (0 : Int32)) (by decide) dX6_asAtFirst_57 ?_
  refine je_iast (pc := 58) (x2 := [(o, .inr (6, [.int 0, .ref v_s, .ref v_image, .int 0, .int 0, .int 0, .int 0, .int 0, .int 0, .ref v_by, .ref v_truths, .int 0, .int 0, .int 0, .int 0, .ref v_going, .ref v_weights, .ref v_lying, .ref v_counts, .int 0, .int 0, .ref v_bodies, .int 0, .int 0, .int 0, .int 0])), (v_s, .inl (G.2 0, 920, .inl (upd (upd (upd (upd (upd (upd (upd (upd (upd (upd (upd (upd (upd (upd (upd (upd (upd (upd (upd (F) 6 (5)) 10 (1)) 17 (-1)) 24 (0)) 11 (2)) 18 (-1)) 25 (0)) 12 (3)) 19 (-1)) 26 (0)) 13 (4)) 20 (-1)) 27 (0)) 14 (4)) 21 (-1)) 28 (0)) 15 (5)) 22 (-1)) 29 (0))))]) 1 rfl (jx_in_o (by decide)) rfl dX6_asAtFirst_58 ?_
  refine jx_iinc (pc := 59) (i := 2) (v := (5 : Int32)) (v2 := (6 : Int32)) (w := (1 : Int32)) rfl (by decide) (n := 1) (by decide) (by decide) (lv' := [(2, .int (6 : Int32)), (0, .ref o), (1, .int (5 : Int32))]) rfl dX6_asAtFirst_59 ?_
  refine jx_goto (pc := 62) (tgt := 10) dX6_asAtFirst_62 (by decide) ?_
  refine jx_iload_n (pc := 10) (k0 := 2) rfl dX6_asAtFirst_10 ?_
  refine jx_bipush (pc := 11) (v := (7 : Int32)) (by decide) dX6_asAtFirst_11 ?_
  refine jx_icmp_ge (pc := 13) (tgt := 65) dX6_asAtFirst_13 (by decide) (fun c => absurd c (by decide)) (fun _ => ?_)
  refine jx_aload_n (pc := 16) (k0 := 0) rfl dX6_asAtFirst_16 ?_
  refine je_get (pc := 17) 0 1 il_X6 rfl rfl (by decide) rfl fl_X6_9 rfl dX6_asAtFirst_17 ?_
  refine jx_bipush (pc := 20) (v := (10 : Int32)) (by decide) dX6_asAtFirst_20 ?_
  refine jx_iload_n (pc := 22) (k0 := 2) rfl dX6_asAtFirst_22 ?_
  refine jx_iadd (pc := 23) dX6_asAtFirst_23 ?_
  refine jx_iload_n (pc := 24) (k0 := 2) rfl dX6_asAtFirst_24 ?_
  refine jx_iload_n (pc := 25) (k0 := 1) rfl dX6_asAtFirst_25 ?_
  refine jx_iconst (pc := 26) (v := (1 : Int32)) (by decide) dX6_asAtFirst_26 ?_
  refine jx_isub (pc := 27) dX6_asAtFirst_27 ?_
  refine jx_icmp_ge (pc := 28) (tgt := 37) dX6_asAtFirst_28 (by decide) (fun _ => ?_) (fun c => absurd c (by decide))
  refine jx_iload_n (pc := 37) (k0 := 2) rfl dX6_asAtFirst_37 ?_
  refine je_iast (pc := 38) (x2 := [(o, .inr (6, [.int 0, .ref v_s, .ref v_image, .int 0, .int 0, .int 0, .int 0, .int 0, .int 0, .ref v_by, .ref v_truths, .int 0, .int 0, .int 0, .int 0, .ref v_going, .ref v_weights, .ref v_lying, .ref v_counts, .int 0, .int 0, .ref v_bodies, .int 0, .int 0, .int 0, .int 0])), (v_s, .inl (G.2 0, 920, .inl (upd (upd (upd (upd (upd (upd (upd (upd (upd (upd (upd (upd (upd (upd (upd (upd (upd (upd (upd (upd (F) 6 (5)) 10 (1)) 17 (-1)) 24 (0)) 11 (2)) 18 (-1)) 25 (0)) 12 (3)) 19 (-1)) 26 (0)) 13 (4)) 20 (-1)) 27 (0)) 14 (4)) 21 (-1)) 28 (0)) 15 (5)) 22 (-1)) 29 (0)) 16 (6))))]) 1 rfl (jx_in_o (by decide)) rfl dX6_asAtFirst_38 ?_
  refine jx_aload_n (pc := 39) (k0 := 0) rfl dX6_asAtFirst_39 ?_
  refine je_get (pc := 40) 0 1 il_X6 rfl rfl (by decide) rfl fl_X6_9 rfl dX6_asAtFirst_40 ?_
  refine jx_bipush (pc := 43) (v := (17 : Int32)) (by decide) dX6_asAtFirst_43 ?_
  refine jx_iload_n (pc := 45) (k0 := 2) rfl dX6_asAtFirst_45 ?_
  refine jx_iadd (pc := 46) dX6_asAtFirst_46 ?_
  refine jx_iconst (pc := 47) (v := (-1 : Int32)) (by decide) dX6_asAtFirst_47 ?_
  refine je_iast (pc := 48) (x2 := [(o, .inr (6, [.int 0, .ref v_s, .ref v_image, .int 0, .int 0, .int 0, .int 0, .int 0, .int 0, .ref v_by, .ref v_truths, .int 0, .int 0, .int 0, .int 0, .ref v_going, .ref v_weights, .ref v_lying, .ref v_counts, .int 0, .int 0, .ref v_bodies, .int 0, .int 0, .int 0, .int 0])), (v_s, .inl (G.2 0, 920, .inl (upd (upd (upd (upd (upd (upd (upd (upd (upd (upd (upd (upd (upd (upd (upd (upd (upd (upd (upd (upd (upd (F) 6 (5)) 10 (1)) 17 (-1)) 24 (0)) 11 (2)) 18 (-1)) 25 (0)) 12 (3)) 19 (-1)) 26 (0)) 13 (4)) 20 (-1)) 27 (0)) 14 (4)) 21 (-1)) 28 (0)) 15 (5)) 22 (-1)) 29 (0)) 16 (6)) 23 (-1))))]) 1 rfl (jx_in_o (by decide)) rfl dX6_asAtFirst_48 ?_
  refine jx_aload_n (pc := 49) (k0 := 0) rfl dX6_asAtFirst_49 ?_
  refine je_get (pc := 50) 0 1 il_X6 rfl rfl (by decide) rfl fl_X6_9 rfl dX6_asAtFirst_50 ?_
  refine jx_bipush (pc := 53) (v := (24 : Int32)) (by decide) dX6_asAtFirst_53 ?_
  refine jx_iload_n (pc := 55) (k0 := 2) rfl dX6_asAtFirst_55 ?_
  refine jx_iadd (pc := 56) dX6_asAtFirst_56 ?_
  refine jx_iconst (pc := 57) (v := (0 : Int32)) (by decide) dX6_asAtFirst_57 ?_
  refine je_iast (pc := 58) (x2 := [(o, .inr (6, [.int 0, .ref v_s, .ref v_image, .int 0, .int 0, .int 0, .int 0, .int 0, .int 0, .ref v_by, .ref v_truths, .int 0, .int 0, .int 0, .int 0, .ref v_going, .ref v_weights, .ref v_lying, .ref v_counts, .int 0, .int 0, .ref v_bodies, .int 0, .int 0, .int 0, .int 0])), (v_s, .inl (G.2 0, 920, .inl (upd (upd (upd (upd (upd (upd (upd (upd (upd (upd (upd (upd (upd (upd (upd (upd (upd (upd (upd (upd (upd (upd (F) 6 (5)) 10 (1)) 17 (-1)) 24 (0)) 11 (2)) 18 (-1)) 25 (0)) 12 (3)) 19 (-1)) 26 (0)) 13 (4)) 20 (-1)) 27 (0)) 14 (4)) 21 (-1)) 28 (0)) 15 (5)) 22 (-1)) 29 (0)) 16 (6)) 23 (-1)) 30 (0))))]) 1 rfl (jx_in_o (by decide)) rfl dX6_asAtFirst_58 ?_
  refine jx_iinc (pc := 59) (i := 2) (v := (6 : Int32)) (v2 := (7 : Int32)) (w := (1 : Int32)) rfl (by decide) (n := 1) (by decide) (by decide) (lv' := [(2, .int (7 : Int32)), (0, .ref o), (1, .int (5 : Int32))]) rfl dX6_asAtFirst_59 ?_
  refine jx_goto (pc := 62) (tgt := 10) dX6_asAtFirst_62 (by decide) ?_
  refine jx_iload_n (pc := 10) (k0 := 2) rfl dX6_asAtFirst_10 ?_
  refine jx_bipush (pc := 11) (v := (7 : Int32)) (by decide) dX6_asAtFirst_11 ?_
  refine jx_icmp_ge (pc := 13) (tgt := 65) dX6_asAtFirst_13 (by decide) (fun _ => ?_) (fun c => absurd c (by decide))
  exact je_vret (pc := 65) ⟨fun k => ([] : List Nat).getD k 0, rfl⟩ dX6_asAtFirst_65
theorem dX6_init_0 : decode cX6_init 0 = .ok (.aload_n 0, 1) := by decide +kernel
theorem dX6_init_1 : decode cX6_init 1 = .ok (.invokespecial 3, 3) := by decide +kernel
theorem dX6_init_4 : decode cX6_init 4 = .ok (.aload_n 0, 1) := by decide +kernel
theorem dX6_init_5 : decode cX6_init 5 = .ok (.sipush 920, 3) := by decide +kernel
theorem dX6_init_8 : decode cX6_init 8 = .ok (.newarray .int, 2) := by decide +kernel
theorem dX6_init_10 : decode cX6_init 10 = .ok (.putfield 9, 3) := by decide +kernel
theorem dX6_init_13 : decode cX6_init 13 = .ok (.aload_n 0, 1) := by decide +kernel
theorem dX6_init_14 : decode cX6_init 14 = .ok (.sipush 920, 3) := by decide +kernel
theorem dX6_init_17 : decode cX6_init 17 = .ok (.newarray .int, 2) := by decide +kernel
theorem dX6_init_19 : decode cX6_init 19 = .ok (.putfield 15, 3) := by decide +kernel
theorem dX6_init_22 : decode cX6_init 22 = .ok (.aload_n 0, 1) := by decide +kernel
theorem dX6_init_23 : decode cX6_init 23 = .ok (.iconst 4, 1) := by decide +kernel
theorem dX6_init_24 : decode cX6_init 24 = .ok (.newarray .int, 2) := by decide +kernel
theorem dX6_init_26 : decode cX6_init 26 = .ok (.putfield 18, 3) := by decide +kernel
theorem dX6_init_29 : decode cX6_init 29 = .ok (.aload_n 0, 1) := by decide +kernel
theorem dX6_init_30 : decode cX6_init 30 = .ok (.bipush 64, 2) := by decide +kernel
theorem dX6_init_32 : decode cX6_init 32 = .ok (.newarray .boolean, 2) := by decide +kernel
theorem dX6_init_34 : decode cX6_init 34 = .ok (.putfield 21, 3) := by decide +kernel
theorem dX6_init_37 : decode cX6_init 37 = .ok (.aload_n 0, 1) := by decide +kernel
theorem dX6_init_38 : decode cX6_init 38 = .ok (.bipush 84, 2) := by decide +kernel
theorem dX6_init_40 : decode cX6_init 40 = .ok (.newarray .int, 2) := by decide +kernel
theorem dX6_init_42 : decode cX6_init 42 = .ok (.putfield 25, 3) := by decide +kernel
theorem dX6_init_45 : decode cX6_init 45 = .ok (.aload_n 0, 1) := by decide +kernel
theorem dX6_init_46 : decode cX6_init 46 = .ok (.bipush 7, 2) := by decide +kernel
theorem dX6_init_48 : decode cX6_init 48 = .ok (.newarray .int, 2) := by decide +kernel
theorem dX6_init_50 : decode cX6_init 50 = .ok (.putfield 28, 3) := by decide +kernel
theorem dX6_init_53 : decode cX6_init 53 = .ok (.aload_n 0, 1) := by decide +kernel
theorem dX6_init_54 : decode cX6_init 54 = .ok (.bipush 6, 2) := by decide +kernel
theorem dX6_init_56 : decode cX6_init 56 = .ok (.newarray .int, 2) := by decide +kernel
theorem dX6_init_58 : decode cX6_init 58 = .ok (.putfield 31, 3) := by decide +kernel
theorem dX6_init_61 : decode cX6_init 61 = .ok (.aload_n 0, 1) := by decide +kernel
theorem dX6_init_62 : decode cX6_init 62 = .ok (.bipush 6, 2) := by decide +kernel
theorem dX6_init_64 : decode cX6_init 64 = .ok (.newarray .boolean, 2) := by decide +kernel
theorem dX6_init_66 : decode cX6_init 66 = .ok (.putfield 34, 3) := by decide +kernel
theorem dX6_init_69 : decode cX6_init 69 = .ok (.aload_n 0, 1) := by decide +kernel
theorem dX6_init_70 : decode cX6_init 70 = .ok (.bipush 20, 2) := by decide +kernel
theorem dX6_init_72 : decode cX6_init 72 = .ok (.newarray .int, 2) := by decide +kernel
theorem dX6_init_74 : decode cX6_init 74 = .ok (.putfield 37, 3) := by decide +kernel
theorem dX6_init_77 : decode cX6_init 77 = .ok (.aload_n 0, 1) := by decide +kernel
theorem dX6_init_78 : decode cX6_init 78 = .ok (.getfield 9, 3) := by decide +kernel
theorem dX6_init_81 : decode cX6_init 81 = .ok (.iconst 5, 1) := by decide +kernel
theorem dX6_init_82 : decode cX6_init 82 = .ok (.iconst (-1), 1) := by decide +kernel
theorem dX6_init_83 : decode cX6_init 83 = .ok (.iastore, 1) := by decide +kernel
theorem dX6_init_84 : decode cX6_init 84 = .ok (.aload_n 0, 1) := by decide +kernel
theorem dX6_init_85 : decode cX6_init 85 = .ok (.iconst 5, 1) := by decide +kernel
theorem dX6_init_86 : decode cX6_init 86 = .ok (.invokevirtual 40, 3) := by decide +kernel
theorem dX6_init_89 : decode cX6_init 89 = .ok (.return_, 1) := by decide +kernel
abbrev rm_X6_init : Room := { frames := 3, cells := 9, slots := 2031, locals := 42 }
set_option maxHeartbeats 40000000 in
set_option maxRecDepth 100000 in
theorem k_X6_init (l : Launch) (G : jx_G) (sz : Nat) (o : Nat) : Met l yX6_init (Cond.code yX6_init cX6_init 1 none :: jx_ws) rm_X6_init (jx_Pc (je_env G []) (je_dyn G [(o, .inr (6, [.int 0, .null, .null, .int 0, .int 0, .int 0, .int 0, .int 0, .int 0, .null, .null, .int 0, .int 0, .int 0, .int 0, .null, .null, .null, .null, .int 0, .int 0, .null, .int 0, .int 0, .int 0, .int 0]))] sz) (je_rg [(o, .inr (6, [.int 0, .null, .null, .int 0, .int 0, .int 0, .int 0, .int 0, .int 0, .null, .null, .int 0, .int 0, .int 0, .int 0, .null, .null, .null, .null, .int 0, .int 0, .null, .int 0, .int 0, .int 0, .int 0]))]) sz [(o, .inr (6, [.int 0, .null, .null, .int 0, .int 0, .int 0, .int 0, .int 0, .int 0, .null, .null, .int 0, .int 0, .int 0, .int 0, .null, .null, .null, .null, .int 0, .int 0, .null, .int 0, .int 0, .int 0, .int 0]))] [.ref o]) (je_Qv G [(o, .inr (6, [.int 0, .null, .null, .int 0, .int 0, .int 0, .int 0, .int 0, .int 0, .null, .null, .int 0, .int 0, .int 0, .int 0, .null, .null, .null, .null, .int 0, .int 0, .null, .int 0, .int 0, .int 0, .int 0]))] sz (fun u => ∃ f : Nat → Nat, u = [((f 0), .inl (G.2 0, 920, .inl (fun _ => 0))), ((f 1), .inl (G.2 0, 4, .inl (fun _ => 0))), ((f 2), .inl (G.2 1, 64, .inl (fun _ => 0))), ((f 3), .inl (G.2 0, 84, .inl (fun _ => 0))), ((f 4), .inl (G.2 0, 7, .inl (fun _ => 0))), ((f 5), .inl (G.2 0, 6, .inl (fun _ => 0))), ((f 6), .inl (G.2 1, 6, .inl (fun _ => 0))), ((f 7), .inl (G.2 0, 20, .inl (fun _ => 0))), (o, .inr (6, [.int 0, .ref (f 8), .ref (f 0), .int 0, .int 0, .int 0, .int 0, .int 0, .int 0, .ref (f 1), .ref (f 2), .int 0, .int 0, .int 0, .int 0, .ref (f 3), .ref (f 4), .ref (f 5), .ref (f 6), .int 0, .int 0, .ref (f 7), .int 0, .int 0, .int 0, .int 0])), ((f 8), .inl (G.2 0, 920, .inl (upd (upd (upd (upd (upd (upd (upd (upd (upd (upd (upd (upd (upd (upd (upd (upd (upd (upd (upd (upd (upd (upd ((upd (fun _ => 0) 5 (-1))) 6 (5)) 10 (1)) 17 (-1)) 24 (0)) 11 (2)) 18 (-1)) 25 (0)) 12 (3)) 19 (-1)) 26 (0)) 13 (4)) 20 (-1)) 27 (0)) 14 (4)) 21 (-1)) 28 (0)) 15 (5)) 22 (-1)) 29 (0)) 16 (6)) 23 (-1)) 30 (0))))])) 9 2031 (jx_A (je_rg [(o, .inr (6, [.int 0, .null, .null, .int 0, .int 0, .int 0, .int 0, .int 0, .int 0, .null, .null, .int 0, .int 0, .int 0, .int 0, .null, .null, .null, .null, .int 0, .int 0, .null, .int 0, .int 0, .int 0, .int 0]))]) sz) := by
  refine jx_met (by decide) (Nat.le_of_ble_eq_true rfl) ?_
  refine jx_sub (lv' := [(0, .ref o)]) [0] rfl ?_
  refine jx_aload_n (pc := 0) (k0 := 0) rfl dX6_init_0 ?_
  refine je_obj (pc := 1) (jx_t4 (List.mem_of_getElem? (i := 139) rfl) rfl) (jx_t1 (List.mem_of_getElem? (i := 23) rfl) rfl) (jx_t1 (List.mem_of_getElem? (i := 24) rfl) rfl) (Nat.le_of_ble_eq_true rfl) (Nat.le_of_ble_eq_true rfl) rfl dX6_init_1 ?_
  refine jx_aload_n (pc := 4) (k0 := 0) rfl dX6_init_4 ?_
  refine jx_sipush (pc := 5) (v := (920 : Int32)) (by decide) dX6_init_5 ?_
  refine je_newi (pc := 8) (N := 920) (by decide) (by decide) (by decide) (Nat.le_of_ble_eq_true rfl) (Nat.le_of_ble_eq_true rfl) dX6_init_8 (fun q1 => ?_)
  refine je_sub (x2 := [(o, .inr (6, [.int 0, .null, .null, .int 0, .int 0, .int 0, .int 0, .int 0, .int 0, .null, .null, .int 0, .int 0, .int 0, .int 0, .null, .null, .null, .null, .int 0, .int 0, .null, .int 0, .int 0, .int 0, .int 0])), (q1, .inl (G.2 0, 920, .inl (fun _ => 0)))]) [0, 1] (by decide) rfl ?_
  refine je_putF (pc := 10) (ty := .array .int) (x2 := [(o, .inr (6, [.int 0, .ref q1, .null, .int 0, .int 0, .int 0, .int 0, .int 0, .int 0, .null, .null, .int 0, .int 0, .int 0, .int 0, .null, .null, .null, .null, .int 0, .int 0, .null, .int 0, .int 0, .int 0, .int 0])), (q1, .inl (G.2 0, 920, .inl (fun _ => 0)))]) 0 1 il_X6 tyX6 tyX6_ok nmX6 rfl rfl (by decide) rfl fl_X6_9 rfl rfl rfl (by decide +kernel) rfl rfl (Nat.le_of_ble_eq_true rfl) rfl dX6_init_10 ?_
  refine jx_aload_n (pc := 13) (k0 := 0) rfl dX6_init_13 ?_
  refine jx_sipush (pc := 14) (v := (920 : Int32)) (by decide) dX6_init_14 ?_
  refine je_newi (pc := 17) (N := 920) (by decide) (by decide) (by decide) (Nat.le_of_ble_eq_true rfl) (Nat.le_of_ble_eq_true rfl) dX6_init_17 (fun q2 => ?_)
  refine je_sub (x2 := [(o, .inr (6, [.int 0, .ref q1, .null, .int 0, .int 0, .int 0, .int 0, .int 0, .int 0, .null, .null, .int 0, .int 0, .int 0, .int 0, .null, .null, .null, .null, .int 0, .int 0, .null, .int 0, .int 0, .int 0, .int 0])), (q1, .inl (G.2 0, 920, .inl (fun _ => 0))), (q2, .inl (G.2 0, 920, .inl (fun _ => 0)))]) [0, 1, 2] (by decide) rfl ?_
  refine je_putF (pc := 19) (ty := .array .int) (x2 := [(o, .inr (6, [.int 0, .ref q1, .ref q2, .int 0, .int 0, .int 0, .int 0, .int 0, .int 0, .null, .null, .int 0, .int 0, .int 0, .int 0, .null, .null, .null, .null, .int 0, .int 0, .null, .int 0, .int 0, .int 0, .int 0])), (q1, .inl (G.2 0, 920, .inl (fun _ => 0))), (q2, .inl (G.2 0, 920, .inl (fun _ => 0)))]) 0 2 il_X6 tyX6 tyX6_ok nmX6 rfl rfl (by decide) rfl fl_X6_15 rfl rfl rfl (by decide +kernel) rfl rfl (Nat.le_of_ble_eq_true rfl) rfl dX6_init_19 ?_
  refine jx_aload_n (pc := 22) (k0 := 0) rfl dX6_init_22 ?_
  refine jx_iconst (pc := 23) (v := (4 : Int32)) (by decide) dX6_init_23 ?_
  refine je_newi (pc := 24) (N := 4) (by decide) (by decide) (by decide) (Nat.le_of_ble_eq_true rfl) (Nat.le_of_ble_eq_true rfl) dX6_init_24 (fun q3 => ?_)
  refine je_sub (x2 := [(o, .inr (6, [.int 0, .ref q1, .ref q2, .int 0, .int 0, .int 0, .int 0, .int 0, .int 0, .null, .null, .int 0, .int 0, .int 0, .int 0, .null, .null, .null, .null, .int 0, .int 0, .null, .int 0, .int 0, .int 0, .int 0])), (q1, .inl (G.2 0, 920, .inl (fun _ => 0))), (q2, .inl (G.2 0, 920, .inl (fun _ => 0))), (q3, .inl (G.2 0, 4, .inl (fun _ => 0)))]) [0, 1, 2, 3] (by decide) rfl ?_
  refine je_putF (pc := 26) (ty := .array .int) (x2 := [(o, .inr (6, [.int 0, .ref q1, .ref q2, .int 0, .int 0, .int 0, .int 0, .int 0, .int 0, .ref q3, .null, .int 0, .int 0, .int 0, .int 0, .null, .null, .null, .null, .int 0, .int 0, .null, .int 0, .int 0, .int 0, .int 0])), (q1, .inl (G.2 0, 920, .inl (fun _ => 0))), (q2, .inl (G.2 0, 920, .inl (fun _ => 0))), (q3, .inl (G.2 0, 4, .inl (fun _ => 0)))]) 0 9 il_X6 tyX6 tyX6_ok nmX6 rfl rfl (by decide) rfl fl_X6_18 rfl rfl rfl (by decide +kernel) rfl rfl (Nat.le_of_ble_eq_true rfl) rfl dX6_init_26 ?_
  refine jx_aload_n (pc := 29) (k0 := 0) rfl dX6_init_29 ?_
  refine jx_bipush (pc := 30) (v := (64 : Int32)) (by decide) dX6_init_30 ?_
  refine je_newz (pc := 32) (N := 64) (by decide) (by decide) (by decide) (Nat.le_of_ble_eq_true rfl) (Nat.le_of_ble_eq_true rfl) dX6_init_32 (fun q4 => ?_)
  refine je_sub (x2 := [(o, .inr (6, [.int 0, .ref q1, .ref q2, .int 0, .int 0, .int 0, .int 0, .int 0, .int 0, .ref q3, .null, .int 0, .int 0, .int 0, .int 0, .null, .null, .null, .null, .int 0, .int 0, .null, .int 0, .int 0, .int 0, .int 0])), (q1, .inl (G.2 0, 920, .inl (fun _ => 0))), (q2, .inl (G.2 0, 920, .inl (fun _ => 0))), (q3, .inl (G.2 0, 4, .inl (fun _ => 0))), (q4, .inl (G.2 1, 64, .inl (fun _ => 0)))]) [0, 1, 2, 3, 4] (by decide) rfl ?_
  refine je_putF (pc := 34) (ty := .array .boolean) (x2 := [(o, .inr (6, [.int 0, .ref q1, .ref q2, .int 0, .int 0, .int 0, .int 0, .int 0, .int 0, .ref q3, .ref q4, .int 0, .int 0, .int 0, .int 0, .null, .null, .null, .null, .int 0, .int 0, .null, .int 0, .int 0, .int 0, .int 0])), (q1, .inl (G.2 0, 920, .inl (fun _ => 0))), (q2, .inl (G.2 0, 920, .inl (fun _ => 0))), (q3, .inl (G.2 0, 4, .inl (fun _ => 0))), (q4, .inl (G.2 1, 64, .inl (fun _ => 0)))]) 0 10 il_X6 tyX6 tyX6_ok nmX6 rfl rfl (by decide) rfl fl_X6_21 rfl rfl rfl (by decide +kernel) rfl rfl (Nat.le_of_ble_eq_true rfl) rfl dX6_init_34 ?_
  refine jx_aload_n (pc := 37) (k0 := 0) rfl dX6_init_37 ?_
  refine jx_bipush (pc := 38) (v := (84 : Int32)) (by decide) dX6_init_38 ?_
  refine je_newi (pc := 40) (N := 84) (by decide) (by decide) (by decide) (Nat.le_of_ble_eq_true rfl) (Nat.le_of_ble_eq_true rfl) dX6_init_40 (fun q5 => ?_)
  refine je_sub (x2 := [(o, .inr (6, [.int 0, .ref q1, .ref q2, .int 0, .int 0, .int 0, .int 0, .int 0, .int 0, .ref q3, .ref q4, .int 0, .int 0, .int 0, .int 0, .null, .null, .null, .null, .int 0, .int 0, .null, .int 0, .int 0, .int 0, .int 0])), (q1, .inl (G.2 0, 920, .inl (fun _ => 0))), (q2, .inl (G.2 0, 920, .inl (fun _ => 0))), (q3, .inl (G.2 0, 4, .inl (fun _ => 0))), (q4, .inl (G.2 1, 64, .inl (fun _ => 0))), (q5, .inl (G.2 0, 84, .inl (fun _ => 0)))]) [0, 1, 2, 3, 4, 5] (by decide) rfl ?_
  refine je_putF (pc := 42) (ty := .array .int) (x2 := [(o, .inr (6, [.int 0, .ref q1, .ref q2, .int 0, .int 0, .int 0, .int 0, .int 0, .int 0, .ref q3, .ref q4, .int 0, .int 0, .int 0, .int 0, .ref q5, .null, .null, .null, .int 0, .int 0, .null, .int 0, .int 0, .int 0, .int 0])), (q1, .inl (G.2 0, 920, .inl (fun _ => 0))), (q2, .inl (G.2 0, 920, .inl (fun _ => 0))), (q3, .inl (G.2 0, 4, .inl (fun _ => 0))), (q4, .inl (G.2 1, 64, .inl (fun _ => 0))), (q5, .inl (G.2 0, 84, .inl (fun _ => 0)))]) 0 15 il_X6 tyX6 tyX6_ok nmX6 rfl rfl (by decide) rfl fl_X6_25 rfl rfl rfl (by decide +kernel) rfl rfl (Nat.le_of_ble_eq_true rfl) rfl dX6_init_42 ?_
  refine jx_aload_n (pc := 45) (k0 := 0) rfl dX6_init_45 ?_
  refine jx_bipush (pc := 46) (v := (7 : Int32)) (by decide) dX6_init_46 ?_
  refine je_newi (pc := 48) (N := 7) (by decide) (by decide) (by decide) (Nat.le_of_ble_eq_true rfl) (Nat.le_of_ble_eq_true rfl) dX6_init_48 (fun q6 => ?_)
  refine je_sub (x2 := [(o, .inr (6, [.int 0, .ref q1, .ref q2, .int 0, .int 0, .int 0, .int 0, .int 0, .int 0, .ref q3, .ref q4, .int 0, .int 0, .int 0, .int 0, .ref q5, .null, .null, .null, .int 0, .int 0, .null, .int 0, .int 0, .int 0, .int 0])), (q1, .inl (G.2 0, 920, .inl (fun _ => 0))), (q2, .inl (G.2 0, 920, .inl (fun _ => 0))), (q3, .inl (G.2 0, 4, .inl (fun _ => 0))), (q4, .inl (G.2 1, 64, .inl (fun _ => 0))), (q5, .inl (G.2 0, 84, .inl (fun _ => 0))), (q6, .inl (G.2 0, 7, .inl (fun _ => 0)))]) [0, 1, 2, 3, 4, 5, 6] (by decide) rfl ?_
  refine je_putF (pc := 50) (ty := .array .int) (x2 := [(o, .inr (6, [.int 0, .ref q1, .ref q2, .int 0, .int 0, .int 0, .int 0, .int 0, .int 0, .ref q3, .ref q4, .int 0, .int 0, .int 0, .int 0, .ref q5, .ref q6, .null, .null, .int 0, .int 0, .null, .int 0, .int 0, .int 0, .int 0])), (q1, .inl (G.2 0, 920, .inl (fun _ => 0))), (q2, .inl (G.2 0, 920, .inl (fun _ => 0))), (q3, .inl (G.2 0, 4, .inl (fun _ => 0))), (q4, .inl (G.2 1, 64, .inl (fun _ => 0))), (q5, .inl (G.2 0, 84, .inl (fun _ => 0))), (q6, .inl (G.2 0, 7, .inl (fun _ => 0)))]) 0 16 il_X6 tyX6 tyX6_ok nmX6 rfl rfl (by decide) rfl fl_X6_28 rfl rfl rfl (by decide +kernel) rfl rfl (Nat.le_of_ble_eq_true rfl) rfl dX6_init_50 ?_
  refine jx_aload_n (pc := 53) (k0 := 0) rfl dX6_init_53 ?_
  refine jx_bipush (pc := 54) (v := (6 : Int32)) (by decide) dX6_init_54 ?_
  refine je_newi (pc := 56) (N := 6) (by decide) (by decide) (by decide) (Nat.le_of_ble_eq_true rfl) (Nat.le_of_ble_eq_true rfl) dX6_init_56 (fun q7 => ?_)
  refine je_sub (x2 := [(o, .inr (6, [.int 0, .ref q1, .ref q2, .int 0, .int 0, .int 0, .int 0, .int 0, .int 0, .ref q3, .ref q4, .int 0, .int 0, .int 0, .int 0, .ref q5, .ref q6, .null, .null, .int 0, .int 0, .null, .int 0, .int 0, .int 0, .int 0])), (q1, .inl (G.2 0, 920, .inl (fun _ => 0))), (q2, .inl (G.2 0, 920, .inl (fun _ => 0))), (q3, .inl (G.2 0, 4, .inl (fun _ => 0))), (q4, .inl (G.2 1, 64, .inl (fun _ => 0))), (q5, .inl (G.2 0, 84, .inl (fun _ => 0))), (q6, .inl (G.2 0, 7, .inl (fun _ => 0))), (q7, .inl (G.2 0, 6, .inl (fun _ => 0)))]) [0, 1, 2, 3, 4, 5, 6, 7] (by decide) rfl ?_
  refine je_putF (pc := 58) (ty := .array .int) (x2 := [(o, .inr (6, [.int 0, .ref q1, .ref q2, .int 0, .int 0, .int 0, .int 0, .int 0, .int 0, .ref q3, .ref q4, .int 0, .int 0, .int 0, .int 0, .ref q5, .ref q6, .ref q7, .null, .int 0, .int 0, .null, .int 0, .int 0, .int 0, .int 0])), (q1, .inl (G.2 0, 920, .inl (fun _ => 0))), (q2, .inl (G.2 0, 920, .inl (fun _ => 0))), (q3, .inl (G.2 0, 4, .inl (fun _ => 0))), (q4, .inl (G.2 1, 64, .inl (fun _ => 0))), (q5, .inl (G.2 0, 84, .inl (fun _ => 0))), (q6, .inl (G.2 0, 7, .inl (fun _ => 0))), (q7, .inl (G.2 0, 6, .inl (fun _ => 0)))]) 0 17 il_X6 tyX6 tyX6_ok nmX6 rfl rfl (by decide) rfl fl_X6_31 rfl rfl rfl (by decide +kernel) rfl rfl (Nat.le_of_ble_eq_true rfl) rfl dX6_init_58 ?_
  refine jx_aload_n (pc := 61) (k0 := 0) rfl dX6_init_61 ?_
  refine jx_bipush (pc := 62) (v := (6 : Int32)) (by decide) dX6_init_62 ?_
  refine je_newz (pc := 64) (N := 6) (by decide) (by decide) (by decide) (Nat.le_of_ble_eq_true rfl) (Nat.le_of_ble_eq_true rfl) dX6_init_64 (fun q8 => ?_)
  refine je_sub (x2 := [(o, .inr (6, [.int 0, .ref q1, .ref q2, .int 0, .int 0, .int 0, .int 0, .int 0, .int 0, .ref q3, .ref q4, .int 0, .int 0, .int 0, .int 0, .ref q5, .ref q6, .ref q7, .null, .int 0, .int 0, .null, .int 0, .int 0, .int 0, .int 0])), (q1, .inl (G.2 0, 920, .inl (fun _ => 0))), (q2, .inl (G.2 0, 920, .inl (fun _ => 0))), (q3, .inl (G.2 0, 4, .inl (fun _ => 0))), (q4, .inl (G.2 1, 64, .inl (fun _ => 0))), (q5, .inl (G.2 0, 84, .inl (fun _ => 0))), (q6, .inl (G.2 0, 7, .inl (fun _ => 0))), (q7, .inl (G.2 0, 6, .inl (fun _ => 0))), (q8, .inl (G.2 1, 6, .inl (fun _ => 0)))]) [0, 1, 2, 3, 4, 5, 6, 7, 8] (by decide) rfl ?_
  refine je_putF (pc := 66) (ty := .array .boolean) (x2 := [(o, .inr (6, [.int 0, .ref q1, .ref q2, .int 0, .int 0, .int 0, .int 0, .int 0, .int 0, .ref q3, .ref q4, .int 0, .int 0, .int 0, .int 0, .ref q5, .ref q6, .ref q7, .ref q8, .int 0, .int 0, .null, .int 0, .int 0, .int 0, .int 0])), (q1, .inl (G.2 0, 920, .inl (fun _ => 0))), (q2, .inl (G.2 0, 920, .inl (fun _ => 0))), (q3, .inl (G.2 0, 4, .inl (fun _ => 0))), (q4, .inl (G.2 1, 64, .inl (fun _ => 0))), (q5, .inl (G.2 0, 84, .inl (fun _ => 0))), (q6, .inl (G.2 0, 7, .inl (fun _ => 0))), (q7, .inl (G.2 0, 6, .inl (fun _ => 0))), (q8, .inl (G.2 1, 6, .inl (fun _ => 0)))]) 0 18 il_X6 tyX6 tyX6_ok nmX6 rfl rfl (by decide) rfl fl_X6_34 rfl rfl rfl (by decide +kernel) rfl rfl (Nat.le_of_ble_eq_true rfl) rfl dX6_init_66 ?_
  refine jx_aload_n (pc := 69) (k0 := 0) rfl dX6_init_69 ?_
  refine jx_bipush (pc := 70) (v := (20 : Int32)) (by decide) dX6_init_70 ?_
  refine je_newi (pc := 72) (N := 20) (by decide) (by decide) (by decide) (Nat.le_of_ble_eq_true rfl) (Nat.le_of_ble_eq_true rfl) dX6_init_72 (fun q9 => ?_)
  refine je_sub (x2 := [(o, .inr (6, [.int 0, .ref q1, .ref q2, .int 0, .int 0, .int 0, .int 0, .int 0, .int 0, .ref q3, .ref q4, .int 0, .int 0, .int 0, .int 0, .ref q5, .ref q6, .ref q7, .ref q8, .int 0, .int 0, .null, .int 0, .int 0, .int 0, .int 0])), (q1, .inl (G.2 0, 920, .inl (fun _ => 0))), (q2, .inl (G.2 0, 920, .inl (fun _ => 0))), (q3, .inl (G.2 0, 4, .inl (fun _ => 0))), (q4, .inl (G.2 1, 64, .inl (fun _ => 0))), (q5, .inl (G.2 0, 84, .inl (fun _ => 0))), (q6, .inl (G.2 0, 7, .inl (fun _ => 0))), (q7, .inl (G.2 0, 6, .inl (fun _ => 0))), (q8, .inl (G.2 1, 6, .inl (fun _ => 0))), (q9, .inl (G.2 0, 20, .inl (fun _ => 0)))]) [0, 1, 2, 3, 4, 5, 6, 7, 8, 9] (by decide) rfl ?_
  refine je_putF (pc := 74) (ty := .array .int) (x2 := [(o, .inr (6, [.int 0, .ref q1, .ref q2, .int 0, .int 0, .int 0, .int 0, .int 0, .int 0, .ref q3, .ref q4, .int 0, .int 0, .int 0, .int 0, .ref q5, .ref q6, .ref q7, .ref q8, .int 0, .int 0, .ref q9, .int 0, .int 0, .int 0, .int 0])), (q1, .inl (G.2 0, 920, .inl (fun _ => 0))), (q2, .inl (G.2 0, 920, .inl (fun _ => 0))), (q3, .inl (G.2 0, 4, .inl (fun _ => 0))), (q4, .inl (G.2 1, 64, .inl (fun _ => 0))), (q5, .inl (G.2 0, 84, .inl (fun _ => 0))), (q6, .inl (G.2 0, 7, .inl (fun _ => 0))), (q7, .inl (G.2 0, 6, .inl (fun _ => 0))), (q8, .inl (G.2 1, 6, .inl (fun _ => 0))), (q9, .inl (G.2 0, 20, .inl (fun _ => 0)))]) 0 21 il_X6 tyX6 tyX6_ok nmX6 rfl rfl (by decide) rfl fl_X6_37 rfl rfl rfl (by decide +kernel) rfl rfl (Nat.le_of_ble_eq_true rfl) rfl dX6_init_74 ?_
  refine jx_aload_n (pc := 77) (k0 := 0) rfl dX6_init_77 ?_
  refine je_get (pc := 78) 0 1 il_X6 rfl rfl (by decide) rfl fl_X6_9 rfl dX6_init_78 ?_
  refine jx_iconst (pc := 81) (v := (5 : Int32)) (by decide) dX6_init_81 ?_
  refine jx_iconst (pc := 82) (v := (-1 : Int32)) (by decide) dX6_init_82 ?_
  refine je_iast (pc := 83) (x2 := [(o, .inr (6, [.int 0, .ref q1, .ref q2, .int 0, .int 0, .int 0, .int 0, .int 0, .int 0, .ref q3, .ref q4, .int 0, .int 0, .int 0, .int 0, .ref q5, .ref q6, .ref q7, .ref q8, .int 0, .int 0, .ref q9, .int 0, .int 0, .int 0, .int 0])), (q1, .inl (G.2 0, 920, .inl (upd (fun _ => 0) 5 (-1)))), (q2, .inl (G.2 0, 920, .inl (fun _ => 0))), (q3, .inl (G.2 0, 4, .inl (fun _ => 0))), (q4, .inl (G.2 1, 64, .inl (fun _ => 0))), (q5, .inl (G.2 0, 84, .inl (fun _ => 0))), (q6, .inl (G.2 0, 7, .inl (fun _ => 0))), (q7, .inl (G.2 0, 6, .inl (fun _ => 0))), (q8, .inl (G.2 1, 6, .inl (fun _ => 0))), (q9, .inl (G.2 0, 20, .inl (fun _ => 0)))]) 1 rfl (jx_in_o (by decide)) rfl dX6_init_83 ?_
  refine jx_aload_n (pc := 84) (k0 := 0) rfl dX6_init_84 ?_
  refine jx_iconst (pc := 85) (v := (5 : Int32)) (by decide) dX6_init_85 ?_
  refine je_callV (pc := 86) (n := 1) (k0 := 0) [.int (5 : Int32)] [(q2, .inl (G.2 0, 920, .inl (fun _ => 0))), (q3, .inl (G.2 0, 4, .inl (fun _ => 0))), (q4, .inl (G.2 1, 64, .inl (fun _ => 0))), (q5, .inl (G.2 0, 84, .inl (fun _ => 0))), (q6, .inl (G.2 0, 7, .inl (fun _ => 0))), (q7, .inl (G.2 0, 6, .inl (fun _ => 0))), (q8, .inl (G.2 1, 6, .inl (fun _ => 0))), (q9, .inl (G.2 0, 20, .inl (fun _ => 0)))] [(o, .inr (6, [.int 0, .ref q1, .ref q2, .int 0, .int 0, .int 0, .int 0, .int 0, .int 0, .ref q3, .ref q4, .int 0, .int 0, .int 0, .int 0, .ref q5, .ref q6, .ref q7, .ref q8, .int 0, .int 0, .ref q9, .int 0, .int 0, .int 0, .int 0])), (q1, .inl (G.2 0, 920, .inl (upd (fun _ => 0) 5 (-1))))] [0, 1] [2, 3, 4, 5, 6, 7, 8, 9] (fun sz' => k_X6_asAtFirst5 l G sz' o (upd (fun _ => 0) 5 (-1)) q1 q2 q3 q4 q5 q6 q7 q8 q9) rfl rfl rfl rfl rfl (by decide) (by decide) (by decide) kv_X6_40 rfl rfl (Nat.le_of_ble_eq_true rfl) ⟨rfl, rfl⟩ ⟨(Nat.le_of_ble_eq_true rfl), (Nat.le_of_ble_eq_true rfl)⟩ (Nat.le_of_ble_eq_true rfl) (Nat.le_of_ble_eq_true rfl) dX6_init_86 (fun u10 hu10 => ?_)
  obtain ⟨f11, rfl⟩ := hu10
  refine je_sub (x2 := [(q2, .inl (G.2 0, 920, .inl (fun _ => 0))), (q3, .inl (G.2 0, 4, .inl (fun _ => 0))), (q4, .inl (G.2 1, 64, .inl (fun _ => 0))), (q5, .inl (G.2 0, 84, .inl (fun _ => 0))), (q6, .inl (G.2 0, 7, .inl (fun _ => 0))), (q7, .inl (G.2 0, 6, .inl (fun _ => 0))), (q8, .inl (G.2 1, 6, .inl (fun _ => 0))), (q9, .inl (G.2 0, 20, .inl (fun _ => 0))), (o, .inr (6, [.int 0, .ref q1, .ref q2, .int 0, .int 0, .int 0, .int 0, .int 0, .int 0, .ref q3, .ref q4, .int 0, .int 0, .int 0, .int 0, .ref q5, .ref q6, .ref q7, .ref q8, .int 0, .int 0, .ref q9, .int 0, .int 0, .int 0, .int 0])), (q1, .inl (G.2 0, 920, .inl (upd (upd (upd (upd (upd (upd (upd (upd (upd (upd (upd (upd (upd (upd (upd (upd (upd (upd (upd (upd (upd (upd ((upd (fun _ => 0) 5 (-1))) 6 (5)) 10 (1)) 17 (-1)) 24 (0)) 11 (2)) 18 (-1)) 25 (0)) 12 (3)) 19 (-1)) 26 (0)) 13 (4)) 20 (-1)) 27 (0)) 14 (4)) 21 (-1)) 28 (0)) 15 (5)) 22 (-1)) 29 (0)) 16 (6)) 23 (-1)) 30 (0))))]) [0, 1, 2, 3, 4, 5, 6, 7, 8, 9] (by decide) rfl ?_
  exact je_vret (pc := 89) ⟨fun k => ([q2, q3, q4, q5, q6, q7, q8, q9, q1] : List Nat).getD k 0, rfl⟩ dX6_init_89
