/-! what the Statement gives of the start -/
theorem jy_t1 {w : Cond} (h : w ∈ tables_1_1) : w ∈ tables_1 := List.mem_append_left _ h
theorem jy_t2 {w : Cond} (h : w ∈ tables_1_2) : w ∈ tables_1 := List.mem_append_right _ (List.mem_append_left _ h)
theorem jy_t3 {w : Cond} (h : w ∈ tables_1_3) : w ∈ tables_1 := List.mem_append_right _ (List.mem_append_right _ (List.mem_append_left _ h))
theorem jy_t4 {w : Cond} (h : w ∈ tables_1_4) : w ∈ tables_1 := List.mem_append_right _ (List.mem_append_right _ (List.mem_append_right _ (List.mem_append_left _ h)))
theorem jy_t5 {w : Cond} (h : w ∈ tables_1_5) : w ∈ tables_1 := List.mem_append_right _ (List.mem_append_right _ (List.mem_append_right _ (List.mem_append_right _ (List.mem_append_left _ h))))
theorem jy_t6 {w : Cond} (h : w ∈ tables_1_6) : w ∈ tables_1 := List.mem_append_right _ (List.mem_append_right _ (List.mem_append_right _ (List.mem_append_right _ (List.mem_append_right _ (h)))))
def st_tm (i : Nat) : Term := [Term.string "LampVote$Reader" 93, Term.string "LampVote$Reader" 121, Term.string "LampVote$Reader" 130, Term.string "LampVoteModel" 111, Term.string "LampVoteModel" 117, Term.string "LampVoteModel" 119, Term.string "LampVoteModel" 124].getD i (Term.int 0)
abbrev st_fl : List Cond := flatC (Jvm.Cond.and given_1 narrow_1)
theorem st_m1 : ∀ i, i < 7 → (Cond.exactly (st_tm i) "java/lang/String") ∈ st_fl := by decide +kernel
theorem st_m2 : ∀ i, i < 7 → (Cond.eq (.field (st_tm i) "java/lang/String" "coder" "B") (.int 0)) ∈ st_fl := by decide +kernel
theorem st_m3 : ∀ i, i < 7 → (Cond.arrayOf (.field (st_tm i) "java/lang/String" "value" "[B") .byte) ∈ st_fl := by decide +kernel
theorem st_m4 : ∀ i, i < 7 → (Cond.eq (.length (.field (st_tm i) "java/lang/String" "value" "[B")) (.int (Int32.ofNat (st_lens.getD i 0)))) ∈ st_fl := by decide +kernel
theorem st_m5 : ∀ i, i < 7 → ∀ j, j < st_lens.getD i 0 → (Cond.eq (.elem (.field (st_tm i) "java/lang/String" "value" "[B") (.int (Int32.ofNat j))) (.int ((st_byts.getD i []).getD j 0))) ∈ st_fl := by decide +kernel
theorem st_m6 : ∀ i, i < 7 → ∀ j, j < 7 → i ≠ j → (Cond.not (Cond.eq (st_tm i) (st_tm j))) ∈ st_fl ∨ (Cond.not (Cond.eq (st_tm j) (st_tm i))) ∈ st_fl := by decide +kernel
theorem vk_S_congr {N : Nat} {len : List Nat} {byt : List (List Int32)} {adK adV adK' adV' : Nat → Nat} {A : Nat → Prop} {U : State} {H : Heap} (h : vk_S N len byt adK adV A U H) (h1 : ∀ i, i < N → adK' i = adK i) (h2 : ∀ i, i < N → adV' i = adV i) : vk_S N len byt adK' adV' A U H := ⟨fun i hi => by rw [h1 i hi, h2 i hi]; exact h.1 i hi, fun i j hi hj e => h.2 i j hi hj (by rw [← h1 i hi, ← h1 j hj]; exact e)⟩
theorem st_eqs {args : Array Value} {s : State} {x y : Term} {a : Nat} (h : (Cond.eq x y).before args s = true) (hx : x.eval args s none [] s = some (.ref a)) : y.eval args s none [] s = some (.ref a) := by
  cases hy : y.eval args s none [] s with
  | none => simp [Cond.before, Cond.holds, Cond.value, hx, hy] at h
  | some v =>
    simp only [Cond.before, Cond.holds, Cond.value, hx, hy] at h
    cases v <;> first
      | (simp at h; subst h; rfl)
      | simp at h
theorem st_arr {s : State} {args : Array Value} {ty : FieldType} (hp : ∀ n, ty ≠ .object n) (h : (Cond.arrayClass ty).before args s = true) (hra : ∀ cA : ClassId, s.vm.findClass ("[" ++ ty.toString) = some cA → va_RA s cA ty) : ∃ cA : ClassId, ArrOfT s cA ty ∧ va_RA s cA ty := by
  obtain ⟨c, k, comp, h1, h2, h3⟩ := Cond.arrayClass_spec h
  exact ⟨c, fun n z => ⟨fun k h => (by cases h), k, h2, comp, h3⟩, hra c h1⟩
theorem st_arrA {s : State} (h : va_AOA .int s) : ∃ cA : ClassId, ArrOfT s cA (.array .int) ∧ va_RA s cA (.array .int) := by
  unfold va_AOA Cond.before Cond.holds at h
  simp only [Cond.value, beq_iff_eq] at h
  cases hc : s.vm.findClass (FieldType.array .int).toString with
  | none => simp [hc] at h
  | some comp =>
    simp only [hc, Option.bind_some, Option.bind_eq_some_iff, Option.map_eq_some_iff] at h
    obtain ⟨c, hi0, k, hk, hb⟩ := h
    split at hb
    · rename_i cc t2 hkd
      simp only [Bool.and_eq_true, decide_eq_true_eq] at hb
      obtain ⟨e1, e2⟩ := hb
      subst e1
      exact ⟨c, fun n z => ⟨fun k h => (by cases h), k, hk, _, hkd⟩, e2⟩
    · cases hb
theorem st_zSTARTS : ∀ j, j < 4 → (Cond.eq (.elem (.static "LampVote$Reader" "STARTS" "[I") (.int (Int32.ofNat j))) (.int (zs_STARTS j))) ∈ st_fl := by decide +kernel
theorem st_ySTARTS {s : State} {b : Nat} (hgv : (Jvm.Cond.and given_1 narrow_1).before #[Value.ref b] s = true) (hts : ∀ w ∈ lw_tbl, w.before #[Value.ref b] s = true) {A : Nat → Prop} (hA : ∀ a : Nat, a < s.heap.size → ¬ A a) : ∃ a : Nat, va_Z "LampVote$Reader" "STARTS" "[I" (.ref a) A s s.heap ∧ va_T .int a 4 (fun j => .int (zs_STARTS j)) A s s.heap := by
  have hs := flat_of_before _ hgv
  obtain ⟨a, h1, h2⟩ := va_Tof (args := #[Value.ref b]) (s := s) (tm := .static "LampVote$Reader" "STARTS" "[I") (ty := .int) (N := 4) (f := fun j => .int (zs_STARTS j)) (A := A) (by decide) (hs _ (by decide +kernel)) (va_eqt (hs _ (by decide +kernel))) (fun j hj => va_eqt (hs _ (st_zSTARTS j hj))) hA
  exact ⟨a, va_Zref (args := #[Value.ref b]) (hts _ (List.mem_append_right _ (jy_t2 (List.mem_of_getElem? (i := 45) rfl)))) (hts _ (List.mem_append_right _ (jy_t1 (List.mem_of_getElem? (i := 6) rfl)))) h1 hA, h2⟩
theorem st_zABOVE : ∀ j, j < 7 → (Cond.eq (.elem (.static "LampVote$Acts" "ABOVE" "[I") (.int (Int32.ofNat j))) (.int (zs_ABOVE j))) ∈ st_fl := by decide +kernel
theorem st_yABOVE {s : State} {b : Nat} (hgv : (Jvm.Cond.and given_1 narrow_1).before #[Value.ref b] s = true) (hts : ∀ w ∈ lw_tbl, w.before #[Value.ref b] s = true) {A : Nat → Prop} (hA : ∀ a : Nat, a < s.heap.size → ¬ A a) : ∃ a : Nat, va_Z "LampVote$Acts" "ABOVE" "[I" (.ref a) A s s.heap ∧ va_T .int a 7 (fun j => .int (zs_ABOVE j)) A s s.heap := by
  have hs := flat_of_before _ hgv
  obtain ⟨a, h1, h2⟩ := va_Tof (args := #[Value.ref b]) (s := s) (tm := .static "LampVote$Acts" "ABOVE" "[I") (ty := .int) (N := 7) (f := fun j => .int (zs_ABOVE j)) (A := A) (by decide) (hs _ (by decide +kernel)) (va_eqt (hs _ (by decide +kernel))) (fun j hj => va_eqt (hs _ (st_zABOVE j hj))) hA
  exact ⟨a, va_Zref (args := #[Value.ref b]) (hts _ (List.mem_append_right _ (jy_t4 (List.mem_of_getElem? (i := 89) rfl)))) (hts _ (List.mem_append_right _ (jy_t1 (List.mem_of_getElem? (i := 5) rfl)))) h1 hA, h2⟩
theorem st_zBODIES : ∀ j, j < 21 → (Cond.eq (.elem (.static "LampVote$Acts" "BODIES" "[I") (.int (Int32.ofNat j))) (.int (zs_BODIES j))) ∈ st_fl := by decide +kernel
theorem st_yBODIES {s : State} {b : Nat} (hgv : (Jvm.Cond.and given_1 narrow_1).before #[Value.ref b] s = true) (hts : ∀ w ∈ lw_tbl, w.before #[Value.ref b] s = true) {A : Nat → Prop} (hA : ∀ a : Nat, a < s.heap.size → ¬ A a) : ∃ a : Nat, va_Z "LampVote$Acts" "BODIES" "[I" (.ref a) A s s.heap ∧ va_T .int a 21 (fun j => .int (zs_BODIES j)) A s s.heap := by
  have hs := flat_of_before _ hgv
  obtain ⟨a, h1, h2⟩ := va_Tof (args := #[Value.ref b]) (s := s) (tm := .static "LampVote$Acts" "BODIES" "[I") (ty := .int) (N := 21) (f := fun j => .int (zs_BODIES j)) (A := A) (by decide) (hs _ (by decide +kernel)) (va_eqt (hs _ (by decide +kernel))) (fun j hj => va_eqt (hs _ (st_zBODIES j hj))) hA
  exact ⟨a, va_Zref (args := #[Value.ref b]) (hts _ (List.mem_append_right _ (jy_t4 (List.mem_of_getElem? (i := 87) rfl)))) (hts _ (List.mem_append_right _ (jy_t1 (List.mem_of_getElem? (i := 5) rfl)))) h1 hA, h2⟩
set_option maxHeartbeats 4000000 in
set_option maxRecDepth 100000 in
theorem st_ex {s : State} {b : Nat} (hgv : (Jvm.Cond.and given_1 narrow_1).before #[Value.ref b] s = true) (hts : ∀ w ∈ lw_tbl, w.before #[Value.ref b] s = true) {A : Nat → Prop} (hA : ∀ a : Nat, a < s.heap.size → ¬ A a) : ∃ G : jx_G, jx_ex G A s := by
  have hs := flat_of_before _ hgv
  have hjw : ∀ w ∈ jx_ws, w.before #[Value.ref b] s = true := fun w h => hts w (List.mem_filter.mp h).1
  obtain ⟨c0, iS0, hKn0⟩ := u_known (C := RX0) (T := TX0) (N := 3) (n := 3) hjw il_X0 (hts _ (List.mem_append_right _ (jy_t1 (List.mem_of_getElem? (i := 173) rfl))))
  obtain ⟨c1, iS1, hKn1⟩ := u_known (C := RX1) (T := TX1) (N := 17) (n := 17) hjw il_X1 (hts _ (List.mem_append_right _ (jy_t1 (List.mem_of_getElem? (i := 26) rfl))))
  obtain ⟨c2, iS2, hKn2⟩ := u_known (C := RX2) (T := TX2) (N := 8) (n := 8) hjw il_X2 (hts _ (List.mem_append_right _ (jy_t1 (List.mem_of_getElem? (i := 139) rfl))))
  obtain ⟨c3, iS3, hKn3⟩ := u_known (C := RX3) (T := TX3) (N := 15) (n := 15) hjw il_X3 (hts _ (List.mem_append_right _ (jy_t1 (List.mem_of_getElem? (i := 191) rfl))))
  obtain ⟨c4, iS4, hKn4⟩ := u_known (C := RX4) (T := TX4) (N := 4) (n := 4) hjw il_X4 (hts _ (List.mem_append_right _ (jy_t1 (List.mem_of_getElem? (i := 34) rfl))))
  obtain ⟨c5, iS5, hKn5⟩ := u_known (C := RX5) (T := TX5) (N := 6) (n := 6) hjw il_X5 (hts _ (List.mem_append_right _ (jy_t1 (List.mem_of_getElem? (i := 18) rfl))))
  obtain ⟨c6, iS6, hKn6⟩ := u_known (C := RX6) (T := TX6) (N := 26) (n := 26) hjw il_X6 (hts _ (List.mem_append_right _ (jy_t4 (List.mem_of_getElem? (i := 135) rfl))))
  obtain ⟨dC, dI, hKc⟩ : ∃ (dC : Nat → ClassId) (dI : Nat → Nat → Nat), ∀ (k : Nat) (q : vw_C), vwCl[k]? = some q → u_Kn s q.1 q.2.1 q.2.2 (dC k) (dI k) := by
    refine ⟨fun k => if k = 0 then c0 else if k = 1 then c1 else if k = 2 then c2 else if k = 3 then c3 else if k = 4 then c4 else if k = 5 then c5 else c6, fun k => if k = 0 then iS0 else if k = 1 then iS1 else if k = 2 then iS2 else if k = 3 then iS3 else if k = 4 then iS4 else if k = 5 then iS5 else iS6, ?_⟩
    intro k q hq
    match k, hq with
    | 0, hq => cases hq; exact hKn0
    | 1, hq => cases hq; exact hKn1
    | 2, hq => cases hq; exact hKn2
    | 3, hq => cases hq; exact hKn3
    | 4, hq => cases hq; exact hKn4
    | 5, hq => cases hq; exact hKn5
    | 6, hq => cases hq; exact hKn6
    | k + 7, hq => simp at hq
  have hAO : va_AOA .int s := va_AOA.of (hts _ (List.mem_append_right _ (jy_t1 (List.mem_of_getElem? (i := 32) rfl))))
  obtain ⟨cI, aI, rI⟩ := st_arr (s := s) (ty := .int) (fun _ h => by cases h) (hts _ (List.mem_append_right _ (jy_t1 (List.mem_of_getElem? (i := 52) rfl)))) (fun _ h => h)
  obtain ⟨cZ, aZ, rZ⟩ := st_arr (s := s) (ty := .boolean) (fun _ h => by cases h) (hts _ (List.mem_append_right _ (jy_t4 (List.mem_of_getElem? (i := 222) rfl)))) (fun _ h => h)
  obtain ⟨cA, aA, rA⟩ := st_arrA hAO
  obtain ⟨adK, adV, hS, hev⟩ := vk_Sof (args := #[Value.ref b]) (s := s) (N := 7) (tm := st_tm) (len := st_lens) (byt := st_byts) (A := A) (by decide) (fun i hi => hs _ (st_m1 i hi)) (fun i hi => hs _ (st_m2 i hi)) (fun i hi => hs _ (st_m3 i hi)) (fun i hi => hs _ (st_m4 i hi)) (fun i hi j hj => hs _ (st_m5 i hi j hj)) (fun i j hi hj hne => (st_m6 i hi j hj hne).elim (fun z => Or.inl (hs _ z)) (fun z => Or.inr (hs _ z))) hA
  obtain ⟨z0, z0a, z0b⟩ := st_ySTARTS hgv hts hA
  obtain ⟨z1, z1a, z1b⟩ := st_yABOVE hgv hts hA
  obtain ⟨z2, z2a, z2b⟩ := st_yBODIES hgv hts hA
  have hco : va_Z "java/lang/String" "COMPACT_STRINGS" "Z" (.int 1) A s s.heap := va_Zof (args := #[Value.ref b]) (hts _ (List.mem_append_right _ (jy_t2 (List.mem_of_getElem? (i := 56) rfl)))) (hts _ (List.mem_append_right _ (jy_t1 (List.mem_of_getElem? (i := 8) rfl)))) (va_eqt (hs _ (by decide +kernel))) hA
  have hfm : va_Zq "jdk/internal/util/Preconditions" "SIOOBE_FORMATTER" "Ljava/util/function/BiFunction;" A s s.heap := va_Zqof (args := #[Value.ref b]) (hts _ (List.mem_append_right _ (jy_t2 (List.mem_of_getElem? (i := 64) rfl)))) (hts _ (List.mem_append_right _ (jy_t1 (List.mem_of_getElem? (i := 10) rfl)))) (hs _ (by decide +kernel)) hA
  obtain ⟨fl, fv, hfv⟩ : ∃ fl fv : Nat, va_Z "jdk/internal/util/Preconditions" "SIOOBE_FORMATTER" "Ljava/util/function/BiFunction;" (if fl = 0 then .null else .ref fv) A s s.heap := by
    rcases hfm with h | ⟨t, h⟩
    · exact ⟨0, 0, h⟩
    · exact ⟨1, t, h⟩
  have hnw : je_nw s := ⟨va_Nw.of (A := #[Value.ref b]) rfl (hts _ (List.mem_append_right _ (jy_t1 (List.mem_of_getElem? (i := 192) rfl)))), va_Nw.of (A := #[Value.ref b]) rfl (hts _ (List.mem_append_right _ (jy_t2 (List.mem_of_getElem? (i := 237) rfl)))), hAO⟩
  refine ⟨((dC, dI), fun k => if k = 0 then cI else if k = 1 then cZ else if k = 2 then cA else if k = 900 then z0 else if k = 901 then z1 else if k = 902 then z2 else if k = 950 then fl else if k = 951 then fv else if k < 1100 then adK (k - 1000) else adV (k - 1100)), ⟨?_, hco, hfv, vk_R.of (A := #[Value.ref b]) (hts _ (List.mem_append_right _ (jy_t2 (List.mem_of_getElem? (i := 46) rfl)))) (hev 0 (by decide)), vk_R.of (A := #[Value.ref b]) (hts _ (List.mem_append_right _ (jy_t2 (List.mem_of_getElem? (i := 123) rfl)))) (hev 1 (by decide)), vk_R.of (A := #[Value.ref b]) (hts _ (List.mem_append_right _ (jy_t2 (List.mem_of_getElem? (i := 187) rfl)))) (hev 2 (by decide)), vk_R.of (A := #[Value.ref b]) (hts _ (List.mem_append_right _ (jy_t5 (List.mem_of_getElem? (i := 2) rfl)))) (hev 3 (by decide)), vk_R.of (A := #[Value.ref b]) (hts _ (List.mem_append_right _ (jy_t5 (List.mem_of_getElem? (i := 33) rfl)))) (st_eqs (x := Term.string "LampVote$Reader" 121) (hs _ (by decide +kernel)) (hev 1 (by decide))), vk_R.of (A := #[Value.ref b]) (hts _ (List.mem_append_right _ (jy_t5 (List.mem_of_getElem? (i := 38) rfl)))) (st_eqs (x := Term.string "LampVote$Reader" 130) (hs _ (by decide +kernel)) (hev 2 (by decide))), vk_R.of (A := #[Value.ref b]) (hts _ (List.mem_append_right _ (jy_t5 (List.mem_of_getElem? (i := 43) rfl)))) (hev 4 (by decide)), vk_R.of (A := #[Value.ref b]) (hts _ (List.mem_append_right _ (jy_t5 (List.mem_of_getElem? (i := 44) rfl)))) (hev 5 (by decide)), vk_R.of (A := #[Value.ref b]) (hts _ (List.mem_append_right _ (jy_t5 (List.mem_of_getElem? (i := 49) rfl)))) (hev 6 (by decide))⟩, ⟨z0a, z0b⟩, ⟨z1a, z1b⟩, ⟨z2a, z2b⟩, hnw, hKc, ?_⟩
  · refine vk_S_congr hS (fun i hi => ?_) (fun i hi => ?_)
    · show (if 1000 + i = 0 then cI else if 1000 + i = 1 then cZ else if 1000 + i = 2 then cA else if 1000 + i = 900 then z0 else if 1000 + i = 901 then z1 else if 1000 + i = 902 then z2 else if 1000 + i = 950 then fl else if 1000 + i = 951 then fv else if 1000 + i < 1100 then adK (1000 + i - 1000) else adV (1000 + i - 1100)) = adK i
      rw [if_neg (by omega), if_neg (by omega), if_neg (by omega), if_neg (by omega), if_neg (by omega), if_neg (by omega), if_neg (by omega), if_neg (by omega), if_pos (by omega), show 1000 + i - 1000 = i by omega]
    · show (if 1100 + i = 0 then cI else if 1100 + i = 1 then cZ else if 1100 + i = 2 then cA else if 1100 + i = 900 then z0 else if 1100 + i = 901 then z1 else if 1100 + i = 902 then z2 else if 1100 + i = 950 then fl else if 1100 + i = 951 then fv else if 1100 + i < 1100 then adK (1100 + i - 1000) else adV (1100 + i - 1100)) = adV i
      rw [if_neg (by omega), if_neg (by omega), if_neg (by omega), if_neg (by omega), if_neg (by omega), if_neg (by omega), if_neg (by omega), if_neg (by omega), if_neg (by omega), show 1100 + i - 1100 = i by omega]
  · intro k q hq
    match k, hq with
    | 0, hq => cases hq; exact ⟨aI, rI⟩
    | 1, hq => cases hq; exact ⟨aZ, rZ⟩
    | 2, hq => cases hq; exact ⟨aA, rA⟩
    | k + 3, hq => simp at hq
