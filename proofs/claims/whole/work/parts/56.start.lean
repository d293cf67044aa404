/-! from the law's entry to its loop, for any relation R -/
def st_U (G : jx_G) (o : Nat) (f z0 z1 z2 z3 z4 z5 : Nat → Nat) : va_W := [(o, .inr (5, [.ref (f 10), .ref (f 22), .ref (f 24), .ref (f 31), .ref (f 33), .int 0])), ((f 0), .inl (G.2 2, 6, .inr (.inr (.inr (.inr (fun i => if i < 6 then some (z0 i) else none)))))), ((z0 0), .inl (G.2 0, 8, .inl (fun _ => 0))), ((z0 1), .inl (G.2 0, 8, .inl (fun _ => 0))), ((z0 2), .inl (G.2 0, 8, .inl (fun _ => 0))), ((z0 3), .inl (G.2 0, 8, .inl (fun _ => 0))), ((z0 4), .inl (G.2 0, 8, .inl (fun _ => 0))), ((z0 5), .inl (G.2 0, 8, .inl (fun _ => 0))), ((f 1), .inl (G.2 0, 100, .inl (fun _ => 0))), ((f 2), .inr (4, [.ref (f 3), .ref (f 3), .ref (f 3), .ref (f 3)])), ((f 3), .inl (G.2 0, 0, .inl (fun _ => 0))), ((f 4), .inl (G.2 0, 6, .inl (fun _ => 0))), ((f 5), .inl (G.2 0, 6, .inl (fun _ => 0))), ((f 6), .inl (G.2 0, 8, .inl (fun _ => 0))), ((f 7), .inl (G.2 0, 8, .inl (fun _ => 0))), ((f 8), .inl (G.2 0, 8, .inl (fun _ => 0))), ((f 9), .inl (G.2 0, 4, .inl (fun _ => 0))), ((f 10), .inr (1, [.int 5, .ref (f 11), .int 0, .int 0, .ref (f 0), .int 0, .ref (f 1), .int 0, .ref (f 2), .int 0, .ref (f 4), .ref (f 5), .int 0, .ref (f 6), .ref (f 7), .ref (f 8), .ref (f 9)])), ((f 11), .inl (G.2 2, 7, .inr (.inr (.inr (.inr (fun i => if i < 7 then some (z1 i) else none)))))), ((z1 0), .inl (G.2 0, 3, .inl (upd (upd (upd (fun _ => 0) 0 (1)) 1 (-1)) 2 (0)))), ((z1 1), .inl (G.2 0, 3, .inl (upd (upd (upd (fun _ => 0) 0 (2)) 1 (-1)) 2 (0)))), ((z1 2), .inl (G.2 0, 3, .inl (upd (upd (upd (fun _ => 0) 0 (3)) 1 (-1)) 2 (0)))), ((z1 3), .inl (G.2 0, 3, .inl (upd (upd (upd (fun _ => 0) 0 (4)) 1 (-1)) 2 (0)))), ((z1 4), .inl (G.2 0, 3, .inl (upd (upd (upd (fun _ => 0) 0 (4)) 1 (-1)) 2 (0)))), ((z1 5), .inl (G.2 0, 3, .inl (upd (upd (upd (fun _ => 0) 0 (5)) 1 (-1)) 2 (0)))), ((z1 6), .inl (G.2 0, 3, .inl (upd (upd (upd (fun _ => 0) 0 (6)) 1 (-1)) 2 (0)))), ((f 12), .inl (G.2 2, 6, .inr (.inr (.inr (.inr (fun i => if i < 6 then some (z2 i) else none)))))), ((z2 0), .inl (G.2 0, 8, .inl (fun _ => 0))), ((z2 1), .inl (G.2 0, 8, .inl (fun _ => 0))), ((z2 2), .inl (G.2 0, 8, .inl (fun _ => 0))), ((z2 3), .inl (G.2 0, 8, .inl (fun _ => 0))), ((z2 4), .inl (G.2 0, 8, .inl (fun _ => 0))), ((z2 5), .inl (G.2 0, 8, .inl (fun _ => 0))), ((f 13), .inl (G.2 0, 100, .inl (fun _ => 0))), ((f 14), .inr (4, [.ref (f 15), .ref (f 15), .ref (f 15), .ref (f 15)])), ((f 15), .inl (G.2 0, 0, .inl (fun _ => 0))), ((f 16), .inl (G.2 0, 6, .inl (fun _ => 0))), ((f 17), .inl (G.2 0, 6, .inl (fun _ => 0))), ((f 18), .inl (G.2 0, 8, .inl (fun _ => 0))), ((f 19), .inl (G.2 0, 8, .inl (fun _ => 0))), ((f 20), .inl (G.2 0, 8, .inl (fun _ => 0))), ((f 21), .inl (G.2 0, 4, .inl (fun _ => 0))), ((f 22), .inr (1, [.int 5, .ref (f 23), .int 0, .int 0, .ref (f 12), .int 0, .ref (f 13), .int 0, .ref (f 14), .int 0, .ref (f 16), .ref (f 17), .int 0, .ref (f 18), .ref (f 19), .ref (f 20), .ref (f 21)])), ((f 23), .inl (G.2 2, 7, .inr (.inr (.inr (.inr (fun i => if i < 7 then some (z3 i) else none)))))), ((z3 0), .inl (G.2 0, 3, .inl (upd (upd (upd (fun _ => 0) 0 (1)) 1 (-1)) 2 (0)))), ((z3 1), .inl (G.2 0, 3, .inl (upd (upd (upd (fun _ => 0) 0 (2)) 1 (-1)) 2 (0)))), ((z3 2), .inl (G.2 0, 3, .inl (upd (upd (upd (fun _ => 0) 0 (3)) 1 (-1)) 2 (0)))), ((z3 3), .inl (G.2 0, 3, .inl (upd (upd (upd (fun _ => 0) 0 (4)) 1 (-1)) 2 (0)))), ((z3 4), .inl (G.2 0, 3, .inl (upd (upd (upd (fun _ => 0) 0 (4)) 1 (-1)) 2 (0)))), ((z3 5), .inl (G.2 0, 3, .inl (upd (upd (upd (fun _ => 0) 0 (5)) 1 (-1)) 2 (0)))), ((z3 6), .inl (G.2 0, 3, .inl (upd (upd (upd (fun _ => 0) 0 (6)) 1 (-1)) 2 (0)))), ((f 24), .inr (2, [.ref (f 10), .ref (f 25), .ref (f 26), .ref (f 27), .ref (f 28), .int (-1), .ref (f 29), .ref (f 30)])), ((f 25), .inl (G.2 2, 12, .inr (.inr (.inr (.inr (fun i => if i < 12 then some (z4 i) else none)))))), ((z4 0), .inl (G.2 0, 7, .inl (fun _ => 0))), ((z4 1), .inl (G.2 0, 7, .inl (fun _ => 0))), ((z4 2), .inl (G.2 0, 7, .inl (fun _ => 0))), ((z4 3), .inl (G.2 0, 7, .inl (fun _ => 0))), ((z4 4), .inl (G.2 0, 7, .inl (fun _ => 0))), ((z4 5), .inl (G.2 0, 7, .inl (fun _ => 0))), ((z4 6), .inl (G.2 0, 7, .inl (fun _ => 0))), ((z4 7), .inl (G.2 0, 7, .inl (fun _ => 0))), ((z4 8), .inl (G.2 0, 7, .inl (fun _ => 0))), ((z4 9), .inl (G.2 0, 7, .inl (fun _ => 0))), ((z4 10), .inl (G.2 0, 7, .inl (fun _ => 0))), ((z4 11), .inl (G.2 0, 7, .inl (fun _ => 0))), ((f 26), .inl (G.2 2, 3, .inr (.inr (.inr (.inr (fun i => if i < 3 then some (z5 i) else none)))))), ((z5 0), .inl (G.2 0, 7, .inl (fun _ => 0))), ((z5 1), .inl (G.2 0, 7, .inl (fun _ => 0))), ((z5 2), .inl (G.2 0, 7, .inl (fun _ => 0))), ((f 27), .inl (G.2 0, 7, .inl (fun _ => 0))), ((f 28), .inl (G.2 0, 7, .inl (fun _ => 0))), ((f 29), .inl (G.2 0, 6, .inl (fun _ => 0))), ((f 30), .inl (G.2 0, 6, .inl (fun _ => 0))), ((f 31), .inr (0, [.ref (f 10), .ref (f 32), .int 0])), ((f 32), .inl (G.2 0, 20, .inl (fun _ => 0))), ((f 33), .inr (3, [.ref (f 34), .ref (f 35), .ref (f 36), .ref (f 37), .ref (f 38), .int 0, .int 0, .int 0, .int 0, .int 0, .int 0, .int 0, .int 0, .int 0, .int 0])), ((f 34), .inl (G.2 0, 10, .inl (fun _ => 0))), ((f 35), .inl (G.2 0, 10, .inl (fun _ => 0))), ((f 36), .inl (G.2 0, 10, .inl (fun _ => 0))), ((f 37), .inl (G.2 0, 100, .inl (fun _ => 0))), ((f 38), .inl (G.2 0, 17, .inl (fun _ => 0)))]
def st_V (G : jx_G) (o : Nat) (f : Nat → Nat) : va_W := [((f 0), .inl (G.2 0, 920, .inl (fun _ => 0))), ((f 1), .inl (G.2 0, 4, .inl (fun _ => 0))), ((f 2), .inl (G.2 1, 64, .inl (fun _ => 0))), ((f 3), .inl (G.2 0, 84, .inl (fun _ => 0))), ((f 4), .inl (G.2 0, 7, .inl (fun _ => 0))), ((f 5), .inl (G.2 0, 6, .inl (fun _ => 0))), ((f 6), .inl (G.2 1, 6, .inl (fun _ => 0))), ((f 7), .inl (G.2 0, 20, .inl (fun _ => 0))), (o, .inr (6, [.int 0, .ref (f 8), .ref (f 0), .int 0, .int 0, .int 0, .int 0, .int 0, .int 0, .ref (f 1), .ref (f 2), .int 0, .int 0, .int 0, .int 0, .ref (f 3), .ref (f 4), .ref (f 5), .ref (f 6), .int 0, .int 0, .ref (f 7), .int 0, .int 0, .int 0, .int 0])), ((f 8), .inl (G.2 0, 920, .inl (upd (upd (upd (upd (upd (upd (upd (upd (upd (upd (upd (upd (upd (upd (upd (upd (upd (upd (upd (upd (upd (upd ((upd (fun _ => 0) 5 (-1))) 6 (5)) 10 (1)) 17 (-1)) 24 (0)) 11 (2)) 18 (-1)) 25 (0)) 12 (3)) 19 (-1)) 26 (0)) 13 (4)) 20 (-1)) 27 (0)) 14 (4)) 21 (-1)) 28 (0)) 15 (5)) 22 (-1)) 29 (0)) 16 (6)) 23 (-1)) 30 (0))))]
def st_al (o : Nat) (f z0 z1 z2 z3 z4 z5 : Nat → Nat) (k : Nat) : Nat := if k = 20 then o else if k = 21 then f 10 else if k = 22 then f 22 else if k = 23 then f 24 else if k = 24 then f 31 else if k = 25 then f 33 else if 101 ≤ k ∧ k < 108 then z1 (k - 101) else if 108 ≤ k ∧ k < 114 then z0 (k - 108) else if 121 ≤ k ∧ k < 128 then z3 (k - 121) else if 128 ≤ k ∧ k < 134 then z2 (k - 128) else if 141 ≤ k ∧ k < 153 then z4 (k - 141) else if 153 ≤ k ∧ k < 156 then z5 (k - 153) else if k = 114 then f 1 else if k = 115 then f 4 else if k = 116 then f 5 else if k = 117 then f 6 else if k = 118 then f 7 else if k = 119 then f 8 else if k = 120 then f 9 else if k = 134 then f 13 else if k = 135 then f 16 else if k = 136 then f 17 else if k = 137 then f 18 else if k = 138 then f 19 else if k = 139 then f 20 else if k = 140 then f 21 else if k = 156 then f 27 else if k = 157 then f 28 else if k = 158 then f 29 else if k = 159 then f 30 else if k = 160 then f 32 else if k = 161 then f 34 else if k = 162 then f 35 else if k = 163 then f 36 else if k = 164 then f 37 else if k = 165 then f 38 else if k = 301 then f 11 else if k = 302 then f 0 else if k = 303 then f 23 else if k = 304 then f 12 else if k = 305 then f 25 else if k = 306 then f 26 else 0
def st_am (o : Nat) (f : Nat → Nat) (k : Nat) : Nat := if k = 10 then o else if k = 101 then f 8 else if k = 102 then f 0 else if k = 103 then f 1 else if k = 104 then f 2 else if k = 105 then f 3 else if k = 106 then f 4 else if k = 107 then f 5 else if k = 108 then f 6 else if k = 109 then f 7 else 0
def st_G (G : jx_G) (ad : Nat → Nat) : jx_G := (G.1, fun k => if k < 10 then G.2 k else if k < 500 then ad k else G.2 k)
theorem st_Gex {G : jx_G} {ad : Nat → Nat} {A : Nat → Prop} {s : State} (h : jx_ex G A s) : jx_ex (st_G G ad) A s := by
  refine ⟨⟨vk_S_congr h.1.1 (fun i _ => ?_) (fun i _ => ?_), h.1.2⟩, h.2⟩
  · show (if 1000 + i < 10 then G.2 (1000 + i) else if 1000 + i < 500 then ad (1000 + i) else G.2 (1000 + i)) = G.2 (1000 + i)
    rw [if_neg (by omega), if_neg (by omega)]
  · show (if 1100 + i < 10 then G.2 (1100 + i) else if 1100 + i < 500 then ad (1100 + i) else G.2 (1100 + i)) = G.2 (1100 + i)
    rw [if_neg (by omega), if_neg (by omega)]
def st_l0 : jx_M := fun a => if a = 0 then (fun i => if i = 0 then 5 else if i = 10 then 5 else if i = 20 then -1 else 0) else if a = 1 then upd (upd (upd (fun _ => 0) 0 (1)) 1 (-1)) 2 (0) else if a = 2 then upd (upd (upd (fun _ => 0) 0 (2)) 1 (-1)) 2 (0) else if a = 3 then upd (upd (upd (fun _ => 0) 0 (3)) 1 (-1)) 2 (0) else if a = 4 then upd (upd (upd (fun _ => 0) 0 (4)) 1 (-1)) 2 (0) else if a = 5 then upd (upd (upd (fun _ => 0) 0 (4)) 1 (-1)) 2 (0) else if a = 6 then upd (upd (upd (fun _ => 0) 0 (5)) 1 (-1)) 2 (0) else if a = 7 then upd (upd (upd (fun _ => 0) 0 (6)) 1 (-1)) 2 (0) else if a = 21 then upd (upd (upd (fun _ => 0) 0 (1)) 1 (-1)) 2 (0) else if a = 22 then upd (upd (upd (fun _ => 0) 0 (2)) 1 (-1)) 2 (0) else if a = 23 then upd (upd (upd (fun _ => 0) 0 (3)) 1 (-1)) 2 (0) else if a = 24 then upd (upd (upd (fun _ => 0) 0 (4)) 1 (-1)) 2 (0) else if a = 25 then upd (upd (upd (fun _ => 0) 0 (4)) 1 (-1)) 2 (0) else if a = 26 then upd (upd (upd (fun _ => 0) 0 (5)) 1 (-1)) 2 (0) else if a = 27 then upd (upd (upd (fun _ => 0) 0 (6)) 1 (-1)) 2 (0) else fun _ => 0
def st_m0 : jx_M := fun a => if a = 1 then upd (upd (upd (upd (upd (upd (upd (upd (upd (upd (upd (upd (upd (upd (upd (upd (upd (upd (upd (upd (upd (upd ((upd (fun _ => 0) 5 (-1))) 6 (5)) 10 (1)) 17 (-1)) 24 (0)) 11 (2)) 18 (-1)) 25 (0)) 12 (3)) 19 (-1)) 26 (0)) 13 (4)) 20 (-1)) 27 (0)) 14 (4)) 21 (-1)) 28 (0)) 15 (5)) 22 (-1)) 29 (0)) 16 (6)) 23 (-1)) 30 (0) else fun _ => 0
def st_ta (f : Nat → Nat) (k : Nat) : Nat := if k = 0 then f 2 else if k < 10 then f 3 else if k = 10 then f 14 else f 15
def st_t0 (a : Nat → Nat) : jx_T := (a, fun _ => 0, fun _ _ => 0)
theorem st_rf301 {G : jx_G} (o : Nat) (f z0 z1 z2 z3 z4 z5 : Nat → Nat) : ll_rf (st_G G (st_al o f z0 z1 z2 z3 z4 z5)) 1 7 = (fun i => if i < 7 then some (z1 i) else none) := by
  funext i
  unfold ll_rf st_G
  by_cases h : i < 7
  · rw [if_pos h, if_pos h]
    refine congrArg some ?_
    show (if 100 + (1 + i) < 10 then _ else if 100 + (1 + i) < 500 then st_al o f z0 z1 z2 z3 z4 z5 (100 + (1 + i)) else _) = _
    rw [if_neg (by omega), if_pos (by omega)]
    unfold st_al
    rw [if_neg (by omega), if_neg (by omega), if_neg (by omega), if_neg (by omega), if_neg (by omega), if_neg (by omega), if_pos (by omega)]
    exact congrArg z1 (by omega)
  · rw [if_neg h, if_neg h]
theorem st_rf302 {G : jx_G} (o : Nat) (f z0 z1 z2 z3 z4 z5 : Nat → Nat) : ll_rf (st_G G (st_al o f z0 z1 z2 z3 z4 z5)) 8 6 = (fun i => if i < 6 then some (z0 i) else none) := by
  funext i
  unfold ll_rf st_G
  by_cases h : i < 6
  · rw [if_pos h, if_pos h]
    refine congrArg some ?_
    show (if 100 + (8 + i) < 10 then _ else if 100 + (8 + i) < 500 then st_al o f z0 z1 z2 z3 z4 z5 (100 + (8 + i)) else _) = _
    rw [if_neg (by omega), if_pos (by omega)]
    unfold st_al
    rw [if_neg (by omega), if_neg (by omega), if_neg (by omega), if_neg (by omega), if_neg (by omega), if_neg (by omega), if_neg (by omega), if_pos (by omega)]
    exact congrArg z0 (by omega)
  · rw [if_neg h, if_neg h]
theorem st_rf303 {G : jx_G} (o : Nat) (f z0 z1 z2 z3 z4 z5 : Nat → Nat) : ll_rf (st_G G (st_al o f z0 z1 z2 z3 z4 z5)) 21 7 = (fun i => if i < 7 then some (z3 i) else none) := by
  funext i
  unfold ll_rf st_G
  by_cases h : i < 7
  · rw [if_pos h, if_pos h]
    refine congrArg some ?_
    show (if 100 + (21 + i) < 10 then _ else if 100 + (21 + i) < 500 then st_al o f z0 z1 z2 z3 z4 z5 (100 + (21 + i)) else _) = _
    rw [if_neg (by omega), if_pos (by omega)]
    unfold st_al
    rw [if_neg (by omega), if_neg (by omega), if_neg (by omega), if_neg (by omega), if_neg (by omega), if_neg (by omega), if_neg (by omega), if_neg (by omega), if_pos (by omega)]
    exact congrArg z3 (by omega)
  · rw [if_neg h, if_neg h]
theorem st_rf304 {G : jx_G} (o : Nat) (f z0 z1 z2 z3 z4 z5 : Nat → Nat) : ll_rf (st_G G (st_al o f z0 z1 z2 z3 z4 z5)) 28 6 = (fun i => if i < 6 then some (z2 i) else none) := by
  funext i
  unfold ll_rf st_G
  by_cases h : i < 6
  · rw [if_pos h, if_pos h]
    refine congrArg some ?_
    show (if 100 + (28 + i) < 10 then _ else if 100 + (28 + i) < 500 then st_al o f z0 z1 z2 z3 z4 z5 (100 + (28 + i)) else _) = _
    rw [if_neg (by omega), if_pos (by omega)]
    unfold st_al
    rw [if_neg (by omega), if_neg (by omega), if_neg (by omega), if_neg (by omega), if_neg (by omega), if_neg (by omega), if_neg (by omega), if_neg (by omega), if_neg (by omega), if_pos (by omega)]
    exact congrArg z2 (by omega)
  · rw [if_neg h, if_neg h]
theorem st_rf305 {G : jx_G} (o : Nat) (f z0 z1 z2 z3 z4 z5 : Nat → Nat) : ll_rf (st_G G (st_al o f z0 z1 z2 z3 z4 z5)) 41 12 = (fun i => if i < 12 then some (z4 i) else none) := by
  funext i
  unfold ll_rf st_G
  by_cases h : i < 12
  · rw [if_pos h, if_pos h]
    refine congrArg some ?_
    show (if 100 + (41 + i) < 10 then _ else if 100 + (41 + i) < 500 then st_al o f z0 z1 z2 z3 z4 z5 (100 + (41 + i)) else _) = _
    rw [if_neg (by omega), if_pos (by omega)]
    unfold st_al
    rw [if_neg (by omega), if_neg (by omega), if_neg (by omega), if_neg (by omega), if_neg (by omega), if_neg (by omega), if_neg (by omega), if_neg (by omega), if_neg (by omega), if_neg (by omega), if_pos (by omega)]
    exact congrArg z4 (by omega)
  · rw [if_neg h, if_neg h]
theorem st_rf306 {G : jx_G} (o : Nat) (f z0 z1 z2 z3 z4 z5 : Nat → Nat) : ll_rf (st_G G (st_al o f z0 z1 z2 z3 z4 z5)) 53 3 = (fun i => if i < 3 then some (z5 i) else none) := by
  funext i
  unfold ll_rf st_G
  by_cases h : i < 3
  · rw [if_pos h, if_pos h]
    refine congrArg some ?_
    show (if 100 + (53 + i) < 10 then _ else if 100 + (53 + i) < 500 then st_al o f z0 z1 z2 z3 z4 z5 (100 + (53 + i)) else _) = _
    rw [if_neg (by omega), if_pos (by omega)]
    unfold st_al
    rw [if_neg (by omega), if_neg (by omega), if_neg (by omega), if_neg (by omega), if_neg (by omega), if_neg (by omega), if_neg (by omega), if_neg (by omega), if_neg (by omega), if_neg (by omega), if_neg (by omega), if_pos (by omega)]
    exact congrArg z5 (by omega)
  · rw [if_neg h, if_neg h]
theorem st_ou {G : jx_G} (o : Nat) (f z0 z1 z2 z3 z4 z5 : Nat → Nat) : ll_ou (st_G G (st_al o f z0 z1 z2 z3 z4 z5)) = [((f 11), .inl (G.2 2, 7, .inr (.inr (.inr (.inr (fun i => if i < 7 then some (z1 i) else none)))))), ((f 0), .inl (G.2 2, 6, .inr (.inr (.inr (.inr (fun i => if i < 6 then some (z0 i) else none)))))), ((f 23), .inl (G.2 2, 7, .inr (.inr (.inr (.inr (fun i => if i < 7 then some (z3 i) else none)))))), ((f 12), .inl (G.2 2, 6, .inr (.inr (.inr (.inr (fun i => if i < 6 then some (z2 i) else none)))))), ((f 25), .inl (G.2 2, 12, .inr (.inr (.inr (.inr (fun i => if i < 12 then some (z4 i) else none)))))), ((f 26), .inl (G.2 2, 3, .inr (.inr (.inr (.inr (fun i => if i < 3 then some (z5 i) else none))))))] := by
  unfold ll_ou
  rw [st_rf301, st_rf302, st_rf303, st_rf304, st_rf305, st_rf306]
  rfl
set_option maxHeartbeats 4000000 in
set_option maxRecDepth 100000 in
theorem st_pl {G : jx_G} (o : Nat) (f z0 z1 z2 z3 z4 z5 : Nat → Nat) (o2 : Nat) (f2 : Nat → Nat) : (([0, 17, 42, 51, 73, 75, 18, 1, 43, 26, 52, 65, 19, 20, 21, 22, 23, 24, 25, 2, 3, 4, 5, 6, 7, 8, 11, 12, 13, 14, 15, 16, 44, 45, 46, 47, 48, 49, 50, 27, 28, 29, 30, 31, 32, 33, 36, 37, 38, 39, 40, 41, 53, 54, 55, 56, 57, 58, 59, 60, 61, 62, 63, 64, 66, 67, 68, 69, 70, 71, 72, 74, 76, 77, 78, 79, 80] : List Nat)).map (fun i => (st_U G o f z0 z1 z2 z3 z4 z5 ++ st_V G o2 f2)[i]?) = (ll_W (st_G G (st_al o f z0 z1 z2 z3 z4 z5)) (st_t0 (st_ta f)) st_l0).map some := by
  unfold ll_W
  rw [st_ou]
  rfl
set_option maxHeartbeats 4000000 in
set_option maxRecDepth 100000 in
theorem st_pm {G : jx_G} (o : Nat) (f z0 z1 z2 z3 z4 z5 : Nat → Nat) (o2 : Nat) (f2 : Nat → Nat) : (([89, 90, 81, 82, 83, 84, 85, 86, 87, 88] : List Nat)).map (fun i => (st_U G o f z0 z1 z2 z3 z4 z5 ++ st_V G o2 f2)[i]?) = (mm_W (st_G G (st_am o2 f2)) st_m0).map some := rfl
set_option maxHeartbeats 4000000 in
set_option maxRecDepth 100000 in
theorem st_pt {G : jx_G} (o : Nat) (f z0 z1 z2 z3 z4 z5 : Nat → Nat) (o2 : Nat) (f2 : Nat → Nat) : (([9, 10, 10, 10, 10, 34, 35, 35, 35, 35] : List Nat)).map (fun i => (st_U G o f z0 z1 z2 z3 z4 z5 ++ st_V G o2 f2)[i]?) = (ll_tw (st_G G (st_al o f z0 z1 z2 z3 z4 z5)) (st_t0 (st_ta f)) 0 ++ ll_tw (st_G G (st_al o f z0 z1 z2 z3 z4 z5)) (st_t0 (st_ta f)) 10).map some := rfl
theorem st_pick {x W : va_W} {is : List Nat} (h : is.map (fun i => x[i]?) = W.map some) {k : Nat} {q : Nat × va_E} (hq : W[k]? = some q) : ∃ i ∈ is, x[i]? = some q := by
  have h1 : (is.map (fun i => x[i]?))[k]? = some (some q) := by rw [h, List.getElem?_map, hq]; rfl
  rw [List.getElem?_map] at h1
  cases h2 : is[k]? with
  | none => rw [h2] at h1; cases h1
  | some i =>
    rw [h2] at h1
    exact ⟨i, List.mem_of_getElem? h2, Option.some.inj h1⟩
theorem st_pickP {D : va_G} {cl : List vw_C} {H : Heap} {x W : va_W} {is : List Nat} (h : is.map (fun i => x[i]?) = W.map some) (hP : va_P D cl x H) : va_P D cl W H := fun _ _ hk => by
  obtain ⟨i, -, hi⟩ := st_pick h hk
  exact hP i _ hi
/-- no address stands under two indices -/
theorem st_apart {x W1 W2 : va_W} {is js : List Nat} {A : Nat → Prop} (hD : va_D A x) (h1 : is.map (fun i => x[i]?) = W1.map some) (h2 : js.map (fun i => x[i]?) = W2.map some) (hd : is.all (fun i => js.all (fun j => i != j)) = true) {k1 k2 : Nat} {p q : Nat × va_E} (hp : W1[k1]? = some p) (hq : W2[k2]? = some q) : p.1 ≠ q.1 := by
  obtain ⟨i, hi, hi2⟩ := st_pick h1 hp
  obtain ⟨j, hj, hj2⟩ := st_pick h2 hq
  intro e
  have := hD.1 i j p q hi2 hj2 e
  have h3 := List.all_eq_true.mp (List.all_eq_true.mp hd i hi) j hj
  subst this
  simp at h3
def st_F (b L : Nat) (xs : Nat → Int32) (A : Nat → Prop) (s : State) : Prop := (∃ G, jx_ex G A s) ∧ va_X b L xs s s.heap ∧ b < s.heap.size ∧ ¬ A b
theorem st_nil {sz : Nat} : ∀ q, jx_A (je_rg []) sz q → jx_A lw_no sz q := fun q h => h.elim (fun z => by obtain ⟨k, e, hk⟩ := z; cases hk) Or.inr
theorem st_Snar {A B : Nat → Prop} {H0 H : Heap} {locs : List Loc} (h : va_S A H0 H locs) (hAB : ∀ q, A q → B q) : va_S B H0 H locs := ⟨h.1, fun q h1 h2 => h.2.1 q h1 (fun z => h2 (hAB q z)), fun x hx => hAB _ (h.2.2 x hx)⟩
section ST
variable {l : Launch} {G : jx_G} {b L : Nat} {xs : Nat → Int32} {sz : Nat} {nm : String} {ret0 : Option FieldType} {Rm : Room} {Qf : List Frame → Array Value → State → State → Prop} {ce sl pc : Nat} {st : List Value}
/-- from the list of the cells to the law's world -/
theorem st_switch (o : Nat) (f z0 z1 z2 z3 z4 z5 : Nat → Nat) (o2 : Nat) (f2 : Nat → Nat) (hE0 : ∀ s : State, s.heap.size = sz → (∀ (below : List Frame) (args : Array Value) (T : State), ¬ (jx_ex G (jx_A lw_no sz) s ∧ va_X b L xs s s.heap ∧ b < s.heap.size) → Qf below args s T))
    (kk : lw_ok (st_G G (st_al o f z0 z1 z2 z3 z4 z5)) (st_G G (st_am o2 f2)) sz → jx_J l (lw_env (st_G G (st_al o f z0 z1 z2 z3 z4 z5)) (st_G G (st_am o2 f2)) b L xs) (lw_dyn (st_G G (st_al o f z0 z1 z2 z3 z4 z5)) (st_G G (st_am o2 f2))) lw_no sz RL nm cL_law 4 ret0 Rm Qf ce sl pc [(0, .ref b), (1, .ref o), (2, .ref o2)] [] (st_l0, st_m0, st_t0 (st_ta f))) :
    jx_J l (je_env G []) (je_dyn G [] sz) (je_rg []) sz RL nm cL_law 4 ret0 Rm Qf ce sl pc [(0, .ref b), (1, .ref o), (2, .ref o2)] [] (st_U G o f z0 z1 z2 z3 z4 z5 ++ st_V G o2 f2) := by
  intro p e s m args below meth c C hr hk hn hs hE H locs ls hl hD hS
  by_cases hF : jx_ex G (jx_A lw_no sz) s ∧ va_X b L xs s s.heap ∧ b < s.heap.size
  · have hP := hD.1
    have hDD := hD.2
    have hsz : ∀ (k : Nat) (q : Nat × va_E), (st_U G o f z0 z1 z2 z3 z4 z5 ++ st_V G o2 f2)[k]? = some q → sz ≤ q.1 := fun k q hq => (st_nil _ (hDD.2 k q hq)).elim (fun z => z.elim) id
    have hok : lw_ok (st_G G (st_al o f z0 z1 z2 z3 z4 z5)) (st_G G (st_am o2 f2)) sz := by
      refine ⟨?_, ?_, ?_, ?_⟩
      · exact jx_Dmap (w := ll_W (st_G G (st_al o f z0 z1 z2 z3 z4 z5)) (st_t0 (st_ta f)) st_l0) ll_fst (va_D.weaken (hDD.sub _ (by decide +kernel) (st_pl o f z0 z1 z2 z3 z4 z5 o2 f2)) (fun k q hk _ => ll_in hk))
      · exact jx_Dmap (w := mm_W (st_G G (st_am o2 f2)) st_m0) rfl (va_D.weaken (hDD.sub _ (by decide +kernel) (st_pm o f z0 z1 z2 z3 z4 z5 o2 f2)) (fun k q hk _ => mm_in hk))
      · rintro q ⟨k, x, hk⟩
        have h1 : ∃ x', (ll_W (st_G G (st_al o f z0 z1 z2 z3 z4 z5)) (st_t0 (st_ta f)) st_l0)[k]? = some (q, x') := by
          have h3 : ((ll_W (st_G G (st_al o f z0 z1 z2 z3 z4 z5)) (st_t0 (st_ta f)) st_l0).map Prod.fst)[k]? = some q := by
            rw [ll_fst (t' := (fun _ => 0, fun _ => 0, fun _ _ => 0)) (σ' := fun _ _ => 0), List.getElem?_map, hk]; rfl
          rw [List.getElem?_map] at h3
          cases h4 : (ll_W (st_G G (st_al o f z0 z1 z2 z3 z4 z5)) (st_t0 (st_ta f)) st_l0)[k]? with
          | none => rw [h4] at h3; cases h3
          | some y => rw [h4] at h3; exact ⟨y.2, by rw [← Option.some.inj h3]⟩
        obtain ⟨x', h1⟩ := h1
        refine ⟨?_, ?_⟩
        · obtain ⟨i, -, hi⟩ := st_pick (st_pl o f z0 z1 z2 z3 z4 z5 o2 f2) h1
          exact hsz i _ hi
        · rintro ⟨k2, y, hk2⟩
          have h2 : ∃ y', (mm_W (st_G G (st_am o2 f2)) st_m0)[k2]? = some (q, y') := by
            have h3 : ((mm_W (st_G G (st_am o2 f2)) st_m0).map Prod.fst)[k2]? = some q := by
              rw [show (mm_W (st_G G (st_am o2 f2)) st_m0).map Prod.fst = (mm_W (st_G G (st_am o2 f2)) (fun _ _ => 0)).map Prod.fst from rfl, List.getElem?_map, hk2]; rfl
            rw [List.getElem?_map] at h3
            cases h4 : (mm_W (st_G G (st_am o2 f2)) st_m0)[k2]? with
            | none => rw [h4] at h3; cases h3
            | some y => rw [h4] at h3; exact ⟨y.2, by rw [← Option.some.inj h3]⟩
          obtain ⟨y', h2⟩ := h2
          exact st_apart hDD (st_pl o f z0 z1 z2 z3 z4 z5 o2 f2) (st_pm o f z0 z1 z2 z3 z4 z5 o2 f2) (by decide +kernel) h1 h2 rfl
      · rintro q ⟨k2, y, hk2⟩
        have h3 : ((mm_W (st_G G (st_am o2 f2)) st_m0).map Prod.fst)[k2]? = some q := by
          rw [show (mm_W (st_G G (st_am o2 f2)) st_m0).map Prod.fst = (mm_W (st_G G (st_am o2 f2)) (fun _ _ => 0)).map Prod.fst from rfl, List.getElem?_map, hk2]; rfl
        rw [List.getElem?_map] at h3
        cases h4 : (mm_W (st_G G (st_am o2 f2)) st_m0)[k2]? with
        | none => rw [h4] at h3; cases h3
        | some y =>
          rw [h4] at h3
          obtain ⟨i, -, hi⟩ := st_pick (st_pm o f z0 z1 z2 z3 z4 z5 o2 f2) h4
          rw [← Option.some.inj h3]
          exact hsz i _ hi
    refine kk hok p e s m args below meth c C hr hk hn hs ⟨st_Gex hF.1, st_Gex hF.1, hF.2.1, hF.2.2, ?_⟩ H locs ls hl ⟨st_pickP (st_pl o f z0 z1 z2 z3 z4 z5 o2 f2) hP, st_pickP (st_pm o f z0 z1 z2 z3 z4 z5 o2 f2) hP, ⟨st_pickP (st_pt o f z0 z1 z2 z3 z4 z5 o2 f2) hP, ?_⟩, ?_⟩ (st_Snar hS st_nil)
    · rintro (h | h)
      · exact h
      · have := hF.2.2
        rw [hs] at this
        exact absurd h (Nat.not_le.mpr this)
    · rintro k q hk ⟨k2, y, hk2⟩
      have h3 : ((ll_W (st_G G (st_al o f z0 z1 z2 z3 z4 z5)) (st_t0 (st_ta f)) st_l0).map Prod.fst)[k2]? = some q.1 := by
        rw [ll_fst (t' := (fun _ => 0, fun _ => 0, fun _ _ => 0)) (σ' := fun _ _ => 0), List.getElem?_map, hk2]; rfl
      rw [List.getElem?_map] at h3
      cases h4 : (ll_W (st_G G (st_al o f z0 z1 z2 z3 z4 z5)) (st_t0 (st_ta f)) st_l0)[k2]? with
      | none => rw [h4] at h3; cases h3
      | some y =>
        rw [h4] at h3
        exact st_apart hDD (st_pt o f z0 z1 z2 z3 z4 z5 o2 f2) (st_pl o f z0 z1 z2 z3 z4 z5 o2 f2) (by decide +kernel) hk h4 (Option.some.inj h3).symm
    · rintro k q hk ⟨k2, y, hk2⟩
      have h3 : ((mm_W (st_G G (st_am o2 f2)) st_m0).map Prod.fst)[k2]? = some q.1 := by
        rw [show (mm_W (st_G G (st_am o2 f2)) st_m0).map Prod.fst = (mm_W (st_G G (st_am o2 f2)) (fun _ _ => 0)).map Prod.fst from rfl, List.getElem?_map, hk2]; rfl
      rw [List.getElem?_map] at h3
      cases h4 : (mm_W (st_G G (st_am o2 f2)) st_m0)[k2]? with
      | none => rw [h4] at h3; cases h3
      | some y =>
        rw [h4] at h3
        exact st_apart hDD (st_pt o f z0 z1 z2 z3 z4 z5 o2 f2) (st_pm o f z0 z1 z2 z3 z4 z5 o2 f2) (by decide +kernel) hk h4 (Option.some.inj h3).symm
  · intro T hT X
    exact ⟨_, Steps.refl _, hE0 s hs below args _ hF⟩
end ST
set_option maxHeartbeats 40000000 in
set_option maxRecDepth 100000 in
/-- the law, from its entry, for any relation of the two memories that its calls keep -/
theorem st_start (R : jx_T → jx_M → jx_M → Prop) (hops : lw_ops R) (hR : ∀ a : Nat → Nat, R (st_t0 a) st_l0 st_m0) {p : Program} {e : Env} {s : State} {m : MethodId} {below : List Frame} {meth : Method} {c : Code} (l : Launch) {b L : Nat} {xs : Nat → Int32} (hL : L ≤ 3072) (C0 : lw_At p s m meth c b L xs) : W p l e room_1 s m #[Value.ref b] below meth c s.heap [] 0 0 (lw_Z below #[Value.ref b] s) (entryFrame m ([Value.ref b] : List Value).toArray 4) := by
  obtain ⟨hx, hb, hr, hml, hown, hts, hX, hbl, hlk, hgv⟩ := C0
  obtain ⟨G, hG⟩ := st_ex hgv hts (A := jx_A lw_no s.heap.size) (fun a h1 h2 => h2.elim (fun z => z) (fun z => absurd h1 (Nat.not_lt.mpr z)))
  have hws : ∀ w ∈ jx_ws, w.before #[Value.ref b] s = true := fun w h => hts w (List.mem_filter.mp h).1
  let Qf : List Frame → Array Value → State → State → Prop := fun below args s0 T => args = #[Value.ref b] → (jx_ex G (jx_A lw_no s0.heap.size) s0 ∧ va_X b L xs s0 s0.heap ∧ b < s0.heap.size) → lw_Z below #[Value.ref b] s0 T
  have J : jx_J l (je_env G []) (je_dyn G [] s.heap.size) (je_rg []) s.heap.size RL meth.name cL_law 4 ret room_1 Qf 0 0 0 (lv_args 0 [Value.ref b]) [] [] := by
    refine jx_sub (lv' := [(0, .ref b)]) [0] rfl ?_
    refine je_new (pc := 0) (C0 := RX5) (T := TX5) (N := 6) (ci := 5) (fs := [.null, .null, .null, .null, .null, .int 0]) il_X5 tyX5 tyX5_ok (jx_t1 (List.mem_of_getElem? (i := 17) rfl) rfl) (jx_t1 (List.mem_of_getElem? (i := 18) rfl) rfl) (jx_t1 (List.mem_of_getElem? (i := 1) rfl) rfl) rfl (by decide +kernel) (Nat.le_of_ble_eq_true rfl) (Nat.le_of_ble_eq_true rfl) dL_law_0 (fun o => ?_)
    refine je_sub (x2 := [(o, .inr (5, [.null, .null, .null, .null, .null, .int 0]))]) [0] (by decide) rfl ?_
    refine jx_dup (pc := 3) rfl dL_law_3 ?_
    refine je_callI (pc := 4) (n := 0) [] [] [(o, .inr (5, [.null, .null, .null, .null, .null, .int 0]))] [0] [] (fun sz' => k_X5_init l G sz' o) rfl rfl (by decide) (by decide) (by decide) (jx_t1 (List.mem_of_getElem? (i := 19) rfl) rfl) (jx_t1 (List.mem_of_getElem? (i := 20) rfl) rfl) (jx_t1 (List.mem_of_getElem? (i := 1) rfl) rfl) (jx_t1 (List.mem_of_getElem? (i := 21) rfl) rfl) rfl ⟨by decide +kernel, by decide +kernel, by decide +kernel⟩ rfl rfl (Nat.le_of_ble_eq_true rfl) ⟨rfl, rfl⟩ ⟨(Nat.le_of_ble_eq_true rfl), (Nat.le_of_ble_eq_true rfl)⟩ (Nat.le_of_ble_eq_true rfl) (Nat.le_of_ble_eq_true rfl) dL_law_4 (fun u hu => ?_)
    obtain ⟨f, z0, z1, z2, z3, z4, z5, rfl⟩ := hu
    refine jx_astore_n (pc := 7) (k0 := 1) (i := 1) (lv' := [(1, .ref o), (0, .ref b)]) rfl rfl (by decide) rfl dL_law_7 ?_
    refine je_new (pc := 8) (C0 := RX6) (T := TX6) (N := 26) (ci := 6) (fs := [.int 0, .null, .null, .int 0, .int 0, .int 0, .int 0, .int 0, .int 0, .null, .null, .int 0, .int 0, .int 0, .int 0, .null, .null, .null, .null, .int 0, .int 0, .null, .int 0, .int 0, .int 0, .int 0]) il_X6 tyX6 tyX6_ok (jx_t4 (List.mem_of_getElem? (i := 134) rfl) rfl) (jx_t4 (List.mem_of_getElem? (i := 135) rfl) rfl) (jx_t1 (List.mem_of_getElem? (i := 7) rfl) rfl) rfl (by decide +kernel) (Nat.le_of_ble_eq_true rfl) (Nat.le_of_ble_eq_true rfl) dL_law_8 (fun o2 => ?_)
    refine jx_dup (pc := 11) rfl dL_law_11 ?_
    refine je_callI (pc := 12) (n := 0) [] (st_U G o f z0 z1 z2 z3 z4 z5) [(o2, .inr (6, [.int 0, .null, .null, .int 0, .int 0, .int 0, .int 0, .int 0, .int 0, .null, .null, .int 0, .int 0, .int 0, .int 0, .null, .null, .null, .null, .int 0, .int 0, .null, .int 0, .int 0, .int 0, .int 0]))] [81] (List.range 81) (fun sz' => k_X6_init l G sz' o2) rfl rfl (by decide) (by decide +kernel) (by decide +kernel) (jx_t4 (List.mem_of_getElem? (i := 136) rfl) rfl) (jx_t4 (List.mem_of_getElem? (i := 137) rfl) rfl) (jx_t1 (List.mem_of_getElem? (i := 7) rfl) rfl) (jx_t4 (List.mem_of_getElem? (i := 138) rfl) rfl) rfl ⟨by decide +kernel, by decide +kernel, by decide +kernel⟩ rfl rfl (Nat.le_of_ble_eq_true rfl) ⟨rfl, rfl⟩ ⟨(Nat.le_of_ble_eq_true rfl), (Nat.le_of_ble_eq_true rfl)⟩ (Nat.le_of_ble_eq_true rfl) (Nat.le_of_ble_eq_true rfl) dL_law_12 (fun u hu => ?_)
    obtain ⟨f2, rfl⟩ := hu
    refine jx_astore_n (pc := 15) (k0 := 2) (i := 2) (lv' := [(2, .ref o2), (1, .ref o), (0, .ref b)]) rfl rfl (by decide) rfl dL_law_15 ?_
    refine jx_sub (lv' := [(0, .ref b), (1, .ref o), (2, .ref o2)]) [2, 1, 0] rfl ?_
    refine st_switch (b := b) (L := L) (xs := xs) o f z0 z1 z2 z3 z4 z5 o2 f2 (fun s0 h0 below args T hno _ hF => absurd (h0 ▸ hF) hno) (fun hok => ?_)
    refine jx_iconst (pc := 16) (v := (0 : Int32)) (by decide) dL_law_16 ?_
    refine jx_istore_n (pc := 17) (k0 := 3) (i := 3) (v2 := nI 0) (lv' := [(3, .int (nI 0)), (0, .ref b), (1, .ref o), (2, .ref o2)]) rfl (by decide) (by decide) rfl dL_law_17 ?_
    refine jx_sub (lv' := [(0, .ref b), (1, .ref o), (2, .ref o2), (3, .int (nI 0))]) [1, 2, 3, 0] rfl ?_
    refine lw_loop l hL hok R hops 600000 7302249 (Nat.le_refl _) (Nat.le_refl _) (fun i t σl σm => ?_) (L + 1) 0 _ _ _ _ _ (Nat.zero_le _) (by omega) (by omega) (by omega) (hR _)
    intro p e s0 m args below meth c C hr hk hn hs hE H locs ls hl hD hS
    by_cases ha : args = #[Value.ref b]
    · subst ha
      refine lv_iconst C.1 C.2.1 dL_law_1102 (v := 1) (by decide) ?_
      refine va_forget (fun q hq => (hS.2.2 q hq).elim (fun z => z.elim) (fun z => by rw [hs]; exact z)) ?_
      intro T hT X
      obtain ⟨t2, h1, h2⟩ := lw_ret C.1 C.2.1 hr hk dL_law_1103 T hT X
      exact ⟨t2, h1, fun _ _ => h2⟩
    · intro T hT X
      exact ⟨_, Steps.refl _, fun h => absurd h ha⟩
  rw [lg_entry_eq]
  intro T hT X
  have hnP : va_P G.1 vwCl [] s.heap := fun _ _ hk => absurd hk (by simp)
  have hnD : ∀ A : Nat → Prop, va_D A [] := fun A => ⟨fun _ _ _ _ hk => absurd hk (by simp), fun _ _ hk => absurd hk (by simp)⟩
  obtain ⟨T2, h1, h2⟩ := J p e s m #[Value.ref b] below meth c ⟨hx, hb, hml, hown, hws⟩ hr hlk rfl rfl ⟨hG.2.2.2.2.2, hG.2.2.2.2.1.2.2, hG.2.2.2.2.1, hnP, fun _ _ hk => absurd hk (by simp)⟩ s.heap [] _ (lv_entry [Value.ref b] (n := 4) (Nat.le_of_ble_eq_true rfl)) ⟨hnP, hnD _⟩ va_S.rf T hT X
  exact ⟨T2, h1, h2 rfl ⟨hG, hX, hbl⟩⟩
