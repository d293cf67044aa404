/-! the two at the start -/
def S0_ (k : Nat) : Nat := if k = 6 then 5 else if k = 10 then 1 else if k = 11 then 2 else if k = 12 then 3 else if k = 13 then 4 else if k = 14 then 4 else if k = 15 then 5 else if k = 16 then 6 else 0
theorem s0_p : ∀ p, p < 7 → st_l0 (1 + p) 0 = nI (S0_ (10 + p)) ∧ st_l0 (1 + p) 1 = nI (S0_ (17 + p)) - 1 ∧ st_l0 (1 + p) 2 = nI (S0_ (24 + p)) := by decide +kernel
theorem s0_v : ∀ v, v < 6 → ∀ j, j < 8 → st_l0 (8 + v) j = nI 0 := by decide +kernel
theorem s0_z : ∀ v, v < 6 → (S0_ (31 + v) = 0 ∧ S0_ (37 + v) = 0 ∧ S0_ (43 + v) = 0 ∧ S0_ (49 + v) = 0 ∧ S0_ (55 + v) = 0) ∧ ∀ j, j < 3 → S0_ (61 + 3 * v + j) = 0 := by decide +kernel
theorem s0_t : ∀ i, i < 100 → st_l0 14 i = nI (S0_ (115 + i)) := by decide +kernel
theorem s0_s : ∀ i, i < 6 → st_l0 15 i = nI (S0_ (79 + i)) ∧ st_l0 16 i = nI (S0_ (85 + i)) := by decide +kernel
theorem s0_a : ∀ i, i < 8 → st_l0 17 i = nI (S0_ (91 + i)) ∧ st_l0 18 i = nI (S0_ (99 + i)) ∧ st_l0 19 i = nI (S0_ (107 + i)) := by decide +kernel
theorem s0_m : ∀ k, k < 215 → k ≠ 5 → ¬ (17 ≤ k ∧ k < 24) → st_m0 1 k = nI (S0_ k) := by decide +kernel
theorem s0_d : ∀ p, p < 7 → st_m0 1 (17 + p) = nI (S0_ (17 + p)) - 1 := by decide +kernel
theorem s0_w : ∀ p, p < 7 → S0_ (10 + p) < 7 ∧ (p < S0_ 6 → S0_ (10 + p) < S0_ 6) ∧ (p < S0_ 6 → S0_ (17 + p) ≤ S0_ 6) ∧ S0_ (24 + p) ≤ 2 := by decide +kernel
theorem f0_c : rt_c (fun _ => 0) (fun _ _ => 0) F0_ := by
  refine mn_c (W := fun _ => 0) (A := fun _ => 0) (E := fun _ => 0) (CD := fun _ => 0) (sd := fun _ => 0) (n := 0) (c := 0) (by omega) (by omega) (fun p q m w => ⟨Nat.zero_le _, Nat.zero_le _, Nat.zero_le _, Nat.zero_le _⟩) (fun p q m w _ _ _ _ => ⟨?_, ?_⟩) ⟨rfl, rfl, rfl⟩ rfl (fun k hk => absurd hk (by omega)) (fun k hk => absurd hk (by omega))
  · intro τ fr many h1 h2 h3 h4 h5 h6 h7 h8 f
    exact ⟨τ, rfl, h5, h6, h7, h8, fun _ _ _ => rfl, fun _ _ => rfl⟩
  · intro t σ M h1 h2 x hx f
    exact ⟨fun _ => by rw [if_neg (show ¬ F0_ x p q m w = 1 from fun z => absurd z (by show ¬ 0 = 1; omega))]; rfl, fun _ => rfl⟩
theorem f0_m (s : Nat → Int32) : rt_m s 0 F0_ := by
  intro σ p q m w h5 _ _ _ _ _ _ _ _ _ z1 z2 z3 z4
  refine ⟨σ, ?_, z1, z2, z3, z4, fun _ _ _ => rfl, fun _ _ => rfl⟩
  unfold rt_l b_X6_looks_96
  rw [h5, if_pos (show (nI 0 - 1 : Int32) = -1 by decide), lt_e]
  show g_X6_looks_120 (b_X6_looks_120 999) σ 0 ((220 : Int32) + ((140 : Int32) * (nI 0 - 1))) 0 ((220 : Int32) + ((140 : Int32) * (nI 0 - 1))) = _
  unfold g_X6_looks_120
  rw [if_pos (show ((220 : Int32) + ((140 : Int32) * (nI 0 - 1))) + 0 ≤ (220 : Int32) + ((140 : Int32) * (nI 0 - 1)) by decide)]
theorem RR_0 (a : Nat → Nat) : RR (st_t0 a) st_l0 st_m0 := by
  refine ⟨⟨S0_, F0_, ?_, ?_, ?_, fun _ _ _ _ => ⟨Nat.zero_le _, Nat.zero_le _, Nat.zero_le _, Nat.zero_le _⟩, f0_c, f0_m _⟩, Or.inl ⟨rfl, rfl⟩, ⟨0, by omega, rfl, rfl, fun i _ h => absurd h (by omega)⟩, rfl⟩
  · refine ⟨⟨rfl, rfl, rfl, rfl, rfl, rfl, rfl⟩, s0_p, fun v hv => ?_, s0_t, s0_s, s0_a⟩
    obtain ⟨⟨z1, z2, z3, z4, z5⟩, z6⟩ := s0_z v hv
    rw [z1, z2, z3, z4, z5]
    exact ⟨⟨s0_v v hv 0 (by omega), s0_v v hv 1 (by omega), s0_v v hv 2 (by omega), s0_v v hv 3 (by omega), s0_v v hv 4 (by omega)⟩, fun j hj => by rw [z6 j hj]; exact s0_v v hv (5 + j) (by omega)⟩
  · exact ⟨s0_m, by decide +kernel, s0_d⟩
  · refine ⟨fun k => ?_, by decide +kernel, s0_w, fun v hv => absurd (show v < 0 from hv) (by omega), fun i hi => absurd (show i < 0 from hi) (by omega), fun i hi => absurd (show i < 0 from hi) (by omega), fun i hi => absurd (show i < 0 from hi) (by omega)⟩
    unfold S0_
    repeat' split
    all_goals omega
theorem ops_ : lw_ops RR := ⟨op_feed, op_tide, op_places, op_place, op_at, op_voter, op_of, op_wish, op_row, op_minutes, op_vote, op_lies, op_ward, op_drifts, op_from, op_turns, op_sways, op_stick, op_set, op_game, op_see, op_fits, op_fair, op_tale, op_looked, op_act, op_trace, op_as, op_image, op_undo, op_count⟩
