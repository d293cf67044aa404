/-! what the Statement gives of the start -/
theorem jy_t1 {w : Cond} (h : w ∈ tables_1_1) : w ∈ tables_1 := List.mem_append_left _ h
theorem jy_t2 {w : Cond} (h : w ∈ tables_1_2) : w ∈ tables_1 := List.mem_append_right _ (List.mem_append_left _ h)
theorem jy_t3 {w : Cond} (h : w ∈ tables_1_3) : w ∈ tables_1 := List.mem_append_right _ (List.mem_append_right _ (List.mem_append_left _ h))
theorem jy_t4 {w : Cond} (h : w ∈ tables_1_4) : w ∈ tables_1 := List.mem_append_right _ (List.mem_append_right _ (List.mem_append_right _ (List.mem_append_left _ h)))
theorem jy_t5 {w : Cond} (h : w ∈ tables_1_5) : w ∈ tables_1 := List.mem_append_right _ (List.mem_append_right _ (List.mem_append_right _ (List.mem_append_right _ (List.mem_append_left _ h))))
theorem jy_t6 {w : Cond} (h : w ∈ tables_1_6) : w ∈ tables_1 := List.mem_append_right _ (List.mem_append_right _ (List.mem_append_right _ (List.mem_append_right _ (List.mem_append_right _ (h)))))
def st_tm (i : Nat) : Term := [Term.string "LampVote$Reader" 93, Term.string "LampVote$Reader" 121, Term.string "LampVote$Reader" 130, Term.string "LampVoteModel" 111, Term.string "LampVoteModel" 117, Term.string "LampVoteModel" 119, Term.string "LampVoteModel" 124].getD i (Term.int 0)
abbrev st_fl : List Cond := flatC (Jvm.Cond.and given_1 narrow_1)
theorem st_m1 : ∀ i, i < 7 → (Cond.exactly (st_tm i) "java/lang/String") ∈ st_fl := by decide +kernel
theorem st_m2 : ∀ i, i < 7 → (Cond.eq (.field (st_tm i) "java/lang/String" "coder" "B") (.int 0)) ∈ st_fl := by decide +kernel
theorem st_m3 : ∀ i, i < 7 → (Cond.arrayOf (.field (st_tm i) "java/lang/String" "value" "[B") .byte) ∈ st_fl := by decide +kernel
theorem st_m4 : ∀ i, i < 7 → (Cond.eq (.length (.field (st_tm i) "java/lang/String" "value" "[B")) (.int (Int32.ofNat (st_lens.getD i 0)))) ∈ st_fl := by decide +kernel
theorem st_m5 : ∀ i, i < 7 → ∀ j, j < st_lens.getD i 0 → (Cond.eq (.elem (.field (st_tm i) "java/lang/String" "value" "[B") (.int (Int32.ofNat j))) (.int ((st_byts.getD i []).getD j 0))) ∈ st_fl := by decide +kernel
theorem st_m6 : ∀ i, i < 7 → ∀ j, j < 7 → i ≠ j → (Cond.not (Cond.eq (st_tm i) (st_tm j))) ∈ st_fl ∨ (Cond.not (Cond.eq (st_tm j) (st_tm i))) ∈ st_fl := by decide +kernel
theorem vk_S_congr {N : Nat} {len : List Nat} {byt : List (List Int32)} {adK adV adK' adV' : Nat → Nat} {A : Nat → Prop} {U : State} {H : Heap} (h : vk_S N len byt adK adV A U H) (h1 : ∀ i, i < N → adK' i = adK i) (h2 : ∀ i, i < N → adV' i = adV i) : vk_S N len byt adK' adV' A U H := ⟨fun i hi => by rw [h1 i hi, h2 i hi]; exact h.1 i hi, fun i j hi hj e => h.2 i j hi hj (by rw [← h1 i hi, ← h1 j hj]; exact e)⟩
theorem st_eqs {args : Array Value} {s : State} {x y : Term} {a : Nat} (h : (Cond.eq x y).before args s = true) (hx : x.eval args s none [] s = some (.ref a)) : y.eval args s none [] s = some (.ref a) := by
  cases hy : y.eval args s none [] s with
  | none => simp [Cond.before, Cond.holds, Cond.value, hx, hy] at h
  | some v =>
    simp [Cond.before, Cond.holds, Cond.value, hx, hy] at h
    rw [← h]
theorem st_arr {s : State} {args : Array Value} {ty : FieldType} (hp : ∀ n, ty ≠ .object n) (h : (Cond.arrayClass ty).before args s = true) (hra : ∀ cA : ClassId, s.vm.findClass ("[" ++ ty.toString) = some cA → va_RA s cA ty) : ∃ cA : ClassId, ArrOfT s cA ty ∧ va_RA s cA ty := by
  obtain ⟨c, k, comp, h1, h2, h3⟩ := Cond.arrayClass_spec h
  exact ⟨c, fun n z => ⟨fun k h => (by cases h), k, h2, comp, h3⟩, hra c h1⟩
theorem st_arrA {s : State} (h : va_AOA .int s) : ∃ cA : ClassId, ArrOfT s cA (.array .int) ∧ va_RA s cA (.array .int) := by
  unfold va_AOA Cond.before Cond.holds at h
  simp only [Cond.value, beq_iff_eq] at h
  cases hc : s.vm.findClass (FieldType.array .int).toString with
  | none => simp [hc] at h
  | some comp =>
    simp only [hc, Option.bind_some, Option.bind_eq_some_iff, Option.map_eq_some_iff] at h
    obtain ⟨c, hi0, k, hk, hb⟩ := h
    split at hb
    · rename_i cc t2 hkd
      simp only [Bool.and_eq_true, decide_eq_true_eq] at hb
      obtain ⟨e1, e2⟩ := hb
      subst e1
      exact ⟨c, fun n z => ⟨fun k h => (by cases h), k, hk, _, hkd⟩, e2⟩
    · cases hb
theorem st_zSTARTS : ∀ j, j < 4 → (Cond.eq (.elem (.static "LampVote$Reader" "STARTS" "[I") (.int (Int32.ofNat j))) (.int (zs_STARTS j))) ∈ st_fl := by decide +kernel
theorem st_ySTARTS {s : State} {b : Nat} (hgv : (Jvm.Cond.and given_1 narrow_1).before #[Value.ref b] s = true) (hts : ∀ w ∈ lw_tbl, w.before #[Value.ref b] s = true) {A : Nat → Prop} (hA : ∀ a : Nat, a < s.heap.size → ¬ A a) : ∃ a : Nat, va_Z "LampVote$Reader" "STARTS" "[I" (.ref a) A s s.heap ∧ va_T .int a 4 (fun j => .int (zs_STARTS j)) A s s.heap := by
  have hs := flat_of_before _ hgv
  obtain ⟨a, h1, h2⟩ := va_Tof (args := #[Value.ref b]) (s := s) (tm := .static "LampVote$Reader" "STARTS" "[I") (ty := .int) (N := 4) (f := fun j => .int (zs_STARTS j)) (A := A) (by decide) (hs _ (by decide +kernel)) (va_eqt (hs _ (by decide +kernel))) (fun j hj => va_eqt (hs _ (st_zSTARTS j hj))) hA
  exact ⟨a, va_Zref (args := #[Value.ref b]) (hts _ (List.mem_append_right _ (jy_t2 (List.mem_of_getElem? (i := 45) rfl)))) (hts _ (List.mem_append_right _ (jy_t1 (List.mem_of_getElem? (i := 6) rfl)))) h1 hA, h2⟩
theorem st_zABOVE : ∀ j, j < 7 → (Cond.eq (.elem (.static "LampVote$Acts" "ABOVE" "[I") (.int (Int32.ofNat j))) (.int (zs_ABOVE j))) ∈ st_fl := by decide +kernel
theorem st_yABOVE {s : State} {b : Nat} (hgv : (Jvm.Cond.and given_1 narrow_1).before #[Value.ref b] s = true) (hts : ∀ w ∈ lw_tbl, w.before #[Value.ref b] s = true) {A : Nat → Prop} (hA : ∀ a : Nat, a < s.heap.size → ¬ A a) : ∃ a : Nat, va_Z "LampVote$Acts" "ABOVE" "[I" (.ref a) A s s.heap ∧ va_T .int a 7 (fun j => .int (zs_ABOVE j)) A s s.heap := by
  have hs := flat_of_before _ hgv
  obtain ⟨a, h1, h2⟩ := va_Tof (args := #[Value.ref b]) (s := s) (tm := .static "LampVote$Acts" "ABOVE" "[I") (ty := .int) (N := 7) (f := fun j => .int (zs_ABOVE j)) (A := A) (by decide) (hs _ (by decide +kernel)) (va_eqt (hs _ (by decide +kernel))) (fun j hj => va_eqt (hs _ (st_zABOVE j hj))) hA
  exact ⟨a, va_Zref (args := #[Value.ref b]) (hts _ (List.mem_append_right _ (jy_t4 (List.mem_of_getElem? (i := 86) rfl)))) (hts _ (List.mem_append_right _ (jy_t1 (List.mem_of_getElem? (i := 5) rfl)))) h1 hA, h2⟩
theorem st_zBODIES : ∀ j, j < 21 → (Cond.eq (.elem (.static "LampVote$Acts" "BODIES" "[I") (.int (Int32.ofNat j))) (.int (zs_BODIES j))) ∈ st_fl := by decide +kernel
theorem st_yBODIES {s : State} {b : Nat} (hgv : (Jvm.Cond.and given_1 narrow_1).before #[Value.ref b] s = true) (hts : ∀ w ∈ lw_tbl, w.before #[Value.ref b] s = true) {A : Nat → Prop} (hA : ∀ a : Nat, a < s.heap.size → ¬ A a) : ∃ a : Nat, va_Z "LampVote$Acts" "BODIES" "[I" (.ref a) A s s.heap ∧ va_T .int a 21 (fun j => .int (zs_BODIES j)) A s s.heap := by
  have hs := flat_of_before _ hgv
  obtain ⟨a, h1, h2⟩ := va_Tof (args := #[Value.ref b]) (s := s) (tm := .static "LampVote$Acts" "BODIES" "[I") (ty := .int) (N := 21) (f := fun j => .int (zs_BODIES j)) (A := A) (by decide) (hs _ (by decide +kernel)) (va_eqt (hs _ (by decide +kernel))) (fun j hj => va_eqt (hs _ (st_zBODIES j hj))) hA
  exact ⟨a, va_Zref (args := #[Value.ref b]) (hts _ (List.mem_append_right _ (jy_t4 (List.mem_of_getElem? (i := 84) rfl)))) (hts _ (List.mem_append_right _ (jy_t1 (List.mem_of_getElem? (i := 5) rfl)))) h1 hA, h2⟩
