/-! the reference's world: one object, nine arrays; G.2 names the array classes (0, 1), the object (10), the arrays (101 ..); σ 0 its numbers by the field's place, σ i its arrays -/
abbrev jx_G : Type := va_G × (Nat → Nat)
def mm_F (G : jx_G) (σ : jx_M) : List Value := [.int (σ 0 0), .ref (G.2 101), .ref (G.2 102), .int (σ 0 3), .int (σ 0 4), .int (σ 0 5), .int (σ 0 6), .int (σ 0 7), .int (σ 0 8), .ref (G.2 103), .ref (G.2 104), .int (σ 0 11), .int (σ 0 12), .int (σ 0 13), .int (σ 0 14), .ref (G.2 105), .ref (G.2 106), .ref (G.2 107), .ref (G.2 108), .int (σ 0 19), .int (σ 0 20), .ref (G.2 109), .int (σ 0 22), .int (σ 0 23), .int (σ 0 24), .int (σ 0 25)]
def mm_W (G : jx_G) (σ : jx_M) : va_W := [(G.2 10, .inr (6, mm_F G σ)), (G.2 101, .inl (G.2 0, 920, .inl (σ 1))), (G.2 102, .inl (G.2 0, 920, .inl (σ 2))), (G.2 103, .inl (G.2 0, 4, .inl (σ 3))), (G.2 104, .inl (G.2 1, 64, .inl (σ 4))), (G.2 105, .inl (G.2 0, 84, .inl (σ 5))), (G.2 106, .inl (G.2 0, 7, .inl (σ 6))), (G.2 107, .inl (G.2 0, 6, .inl (σ 7))), (G.2 108, .inl (G.2 1, 6, .inl (σ 8))), (G.2 109, .inl (G.2 0, 20, .inl (σ 9)))]
theorem jx_Dmap {A : Nat → Prop} {w w' : va_W} (h : w'.map Prod.fst = w.map Prod.fst) (hD : va_D A w) : va_D A w' := by
  have hg : ∀ (i : Nat) (p : Nat × va_E), w'[i]? = some p → ∃ p', w[i]? = some p' ∧ p'.1 = p.1 := by
    intro i p hp
    have h1 : (w'.map Prod.fst)[i]? = some p.1 := by rw [List.getElem?_map, hp]; rfl
    rw [h, List.getElem?_map] at h1
    cases hw : w[i]? with
    | none => rw [hw] at h1; cases h1
    | some p' => rw [hw] at h1; exact ⟨p', rfl, Option.some.inj h1⟩
  refine ⟨fun i j p q hp hq he => ?_, fun k q hq => ?_⟩
  · obtain ⟨p', h1, h2⟩ := hg i p hp
    obtain ⟨q', h3, h4⟩ := hg j q hq
    exact hD.1 i j p' q' h1 h3 (by rw [h2, h4]; exact he)
  · obtain ⟨q', h1, h2⟩ := hg k q hq
    rw [← h2]
    exact hD.2 k q' h1
def mm_rg (G : jx_G) : Nat → Prop := fun q => ∃ (k : Nat) (e : va_E), (mm_W G (fun _ _ => 0))[k]? = some (q, e)
def mm_dyn (G : jx_G) (σ : jx_M) (H : Heap) : Prop := va_P G.1 vwCl (mm_W G σ) H
/-- what stands outside the worlds and never changes -/
def zs_STARTS (j : Nat) : Int32 := [0, 5, 10, 14].getD j 0
def zs_ABOVE (j : Nat) : Int32 := [-1, 0, 0, 0, 1, 2, 3].getD j 0
def zs_BODIES (j : Nat) : Int32 := [1, 2, 3, 11, 0, 0, 0, 21, 0, 0, 0, 31, 0, 0, 41, 51, 0, 0, 0, 61, 0].getD j 0
def jx_zz (G : jx_G) (k n : Nat) (C nm : String) (f : Nat → Int32) (A : Nat → Prop) (s : State) : Prop := va_Z C nm "[I" (.ref (G.2 k)) A s s.heap ∧ va_T .int (G.2 k) n (fun j => .int (f j)) A s s.heap
theorem jx_sub2 {rg : Nat → Prop} {sz n : Nat} (h : sz ≤ n) : ∀ q, jx_A rg n q → jx_A rg sz q := fun q z => z.elim Or.inl (fun z => Or.inr (Nat.le_trans h z))
def st_lens : List Nat := [20, 4, 3, 5, 5, 4, 6]
def st_byts : List (List Int32) := [[115, 105, 100, 101, 32, 104, 111, 108, 100, 32, 111, 105, 108, 32, 119, 101, 105, 103, 104, 32], [112, 113, 109, 119], [60, 61, 62], [115, 105, 100, 101, 32], [104, 111, 108, 100, 32], [111, 105, 108, 32], [119, 101, 105, 103, 104, 32]]
def st_len (i : Nat) : Nat := st_lens.getD i 0
def st_b (i j : Nat) : Int32 := (st_byts.getD i []).getD j 0
def jx_fv (G : jx_G) : Value := if G.2 950 = 0 then .null else .ref (G.2 951)
def jx_st (G : jx_G) (A : Nat → Prop) (s : State) : Prop := vk_S 7 st_lens st_byts (fun i => G.2 (1000 + i)) (fun i => G.2 (1100 + i)) A s s.heap ∧ va_Z "java/lang/String" "COMPACT_STRINGS" "Z" (.int 1) A s s.heap ∧ va_Z "jdk/internal/util/Preconditions" "SIOOBE_FORMATTER" "Ljava/util/function/BiFunction;" (jx_fv G) A s s.heap ∧ (vk_R RX3 93 "side hold oil weigh " (G.2 1000) s ∧ vk_R RX3 121 "pqmw" (G.2 1001) s ∧ vk_R RX3 130 "<=>" (G.2 1002) s ∧ vk_R RX6 111 "side " (G.2 1003) s ∧ vk_R RX6 93 "pqmw" (G.2 1001) s ∧ vk_R RX6 99 "<=>" (G.2 1002) s ∧ vk_R RX6 117 "hold " (G.2 1004) s ∧ vk_R RX6 119 "oil " (G.2 1005) s ∧ vk_R RX6 124 "weigh " (G.2 1006) s)
theorem jx_st_call {G : jx_G} {A : Nat → Prop} {U : State} {g : JFrame} {mk : MethodId} {a : Array Value} (h : jx_st G A U) : jx_st G A (U.calling g mk a) := by
  obtain ⟨h1, h2, h3, rX3_93, rX3_121, rX3_130, rX6_111, rX6_93, rX6_99, rX6_117, rX6_119, rX6_124⟩ := h
  have hv : (U.calling g mk a).vm = U.vm := rfl
  exact ⟨vk_S.moved (u := U) (U := U.calling g mk a) (Vm.Alike.refl U.vm) h1, va_Z.moved (u := U) (U := U.calling g mk a) (Vm.Alike.refl U.vm) h2, va_Z.moved (u := U) (U := U.calling g mk a) (Vm.Alike.refl U.vm) h3, vk_R.same hv rX3_93, vk_R.same hv rX3_121, vk_R.same hv rX3_130, vk_R.same hv rX6_111, vk_R.same hv rX6_93, vk_R.same hv rX6_99, vk_R.same hv rX6_117, vk_R.same hv rX6_119, vk_R.same hv rX6_124⟩
theorem jx_st_run {G : jx_G} {rg : Nat → Prop} {sz : Nat} {s U : State} {H : Heap} {locs : List Loc} (h : jx_st G (jx_A rg sz) s) (hs : s.heap.size = sz) (hS : va_S (jx_A rg sz) s.heap H locs) (hU : U.heap = H) (hW : s.WarmedH U.vm) : jx_st G (jx_A rg H.size) U := by
  subst hU
  obtain ⟨h1, h2, h3, rX3_93, rX3_121, rX3_130, rX6_111, rX6_93, rX6_99, rX6_117, rX6_119, rX6_124⟩ := h
  have hq : ∀ a : Nat, a < s.heap.size → ¬ jx_A rg sz a → U.heap[a]? = s.heap[a]? := fun a z1 z2 => hS.2.1 a z1 z2
  have hn := jx_sub2 (rg := rg) (show sz ≤ U.heap.size by rw [← hs]; exact hS.1)
  exact ⟨((vk_S.moved hW.alike h1).kept (H1 := U.heap) hq).narrow hn, ((va_Z.moved hW.alike h2).kept (H1 := U.heap) hq).narrow hn, ((va_Z.moved hW.alike h3).kept (H1 := U.heap) hq).narrow hn, vk_R.warm hW rX3_93, vk_R.warm hW rX3_121, vk_R.warm hW rX3_130, vk_R.warm hW rX6_111, vk_R.warm hW rX6_93, vk_R.warm hW rX6_99, vk_R.warm hW rX6_117, vk_R.warm hW rX6_119, vk_R.warm hW rX6_124⟩
abbrev je_tys (G : jx_G) : List (ClassId × FieldType) := [(G.2 0, .int), (G.2 1, .boolean), (G.2 2, .array .int)]
def va_AOA (ty : FieldType) (U : State) : Prop := (Cond.arrayOver (.array ty)).before #[] U = true
theorem va_AOA.of {ty : FieldType} {A : Array Value} {U : State} (h : (Cond.arrayOver (.array ty)).before A U = true) : va_AOA ty U := h
theorem va_AOA.use {ty : FieldType} {A : Array Value} {U : State} (h : va_AOA ty U) : (Cond.arrayOver (.array ty)).before A U = true := h
theorem va_AOA.moved {ty : FieldType} {u U : State} (hvm : u.vm.Alike U.vm) (h : va_AOA ty u) : va_AOA ty U := by
  unfold va_AOA Cond.before Cond.holds at h ⊢
  simp only [Cond.value, beq_iff_eq] at h ⊢
  cases hc : u.vm.findClass (FieldType.array ty).toString with
  | none => simp [hc] at h
  | some comp =>
    simp only [hc, Option.bind_some, Option.bind_eq_some_iff, Option.map_eq_some_iff] at h
    obtain ⟨c, hi0, k, hk, hb⟩ := h
    obtain ⟨k', hk', he⟩ := hvm.2.2 _ _ hk
    have hbq : U.vm.bare = u.vm.bare := by first | exact hvm.bare_eq | exact hvm.bare_eq.symm
    have hb0 := va_idx_bare U.vm comp
    rw [hbq, va_idx_bare u.vm comp] at hb0
    have hi := hb0.symm.trans hi0
    have f1 : U.vm.findClass (FieldType.array ty).toString = some comp := by rw [hvm.findClass]; exact hc
    have hkind : k'.kind = k.kind := by rw [he]
    have f2 : U.vm.findClass ("[" ++ (FieldType.array ty).toString) = u.vm.findClass ("[" ++ (FieldType.array ty).toString) := hvm.findClass _ _
    simp only [f1, Option.bind_some, Option.bind_eq_some_iff, Option.map_eq_some_iff]
    refine ⟨c, hi, k', hk', ?_⟩
    rw [hkind, f2]
    exact hb
def je_nw (s : State) : Prop := va_Nw (.methodLinkNest "LampVote" 39 yX3_init "LampVote") s ∧ va_Nw (.castable "[I" "java/lang/Cloneable") s ∧ va_AOA .int s
theorem je_nw_call {U : State} {g : JFrame} {mk : MethodId} {a : Array Value} (h : je_nw U) : je_nw (U.calling g mk a) := ⟨va_Nw.same rfl (u := U) (U := U.calling g mk a) rfl h.1, va_Nw.same rfl (u := U) (U := U.calling g mk a) rfl h.2.1, va_AOA.moved (u := U) (U := U.calling g mk a) (Vm.Alike.refl U.vm) h.2.2⟩
theorem je_nw_warm {s U : State} (hW : s.WarmedH U.vm) (h : je_nw s) : je_nw U := ⟨va_Nw.warmM hW h.1, va_Nw.warmC hW h.2.1, va_AOA.moved hW.alike h.2.2⟩
def jx_ek (G : jx_G) (s : State) : Prop := je_nw s ∧ va_K G.1 vwCl (je_tys G) s
def jx_ex (G : jx_G) (A : Nat → Prop) (s : State) : Prop := jx_st G A s ∧ jx_zz G 900 4 "LampVote$Reader" "STARTS" zs_STARTS A s ∧ jx_zz G 901 7 "LampVote$Acts" "ABOVE" zs_ABOVE A s ∧ jx_zz G 902 21 "LampVote$Acts" "BODIES" zs_BODIES A s ∧ jx_ek G s
theorem jx_zz_call {G : jx_G} {k n : Nat} {C nm : String} {f : Nat → Int32} {A : Nat → Prop} {U : State} {g : JFrame} {mk : MethodId} {a : Array Value} (h : jx_zz G k n C nm f A U) : jx_zz G k n C nm f A (U.calling g mk a) := ⟨va_Z.moved (u := U) (U := U.calling g mk a) (Vm.Alike.refl U.vm) h.1, va_T.moved (u := U) (U := U.calling g mk a) (Vm.Alike.refl U.vm) h.2⟩
theorem jx_zz_run {G : jx_G} {k n : Nat} {C nm : String} {f : Nat → Int32} {rg : Nat → Prop} {sz : Nat} {s U : State} {H : Heap} {locs : List Loc} (h : jx_zz G k n C nm f (jx_A rg sz) s) (hs : s.heap.size = sz) (hS : va_S (jx_A rg sz) s.heap H locs) (hU : U.heap = H) (hvm : s.vm.Alike U.vm) : jx_zz G k n C nm f (jx_A rg H.size) U := by
  subst hU
  exact ⟨((va_Z.moved hvm h.1).kept (H1 := U.heap) (fun a h1 h2 => hS.2.1 a h1 h2)).narrow (jx_sub2 (by rw [← hs]; exact hS.1)), ((va_T.moved hvm h.2).kept (H1 := U.heap) (fun a h1 h2 => hS.2.1 a h1 h2)).narrow (jx_sub2 (by rw [← hs]; exact hS.1))⟩
theorem jx_ex_call {G : jx_G} {A : Nat → Prop} {U : State} {g : JFrame} {mk : MethodId} {a : Array Value} (h : jx_ex G A U) : jx_ex G A (U.calling g mk a) := ⟨jx_st_call h.1, jx_zz_call h.2.1, jx_zz_call h.2.2.1, jx_zz_call h.2.2.2.1, je_nw_call h.2.2.2.2.1, va_K.moved (u := U) (U := U.calling g mk a) (Vm.Alike.refl U.vm) h.2.2.2.2.2⟩
theorem jx_ex_run {G : jx_G} {rg : Nat → Prop} {sz : Nat} {s U : State} {H : Heap} {locs : List Loc} (hE : jx_ex G (jx_A rg sz) s) (hs : s.heap.size = sz) (hS : va_S (jx_A rg sz) s.heap H locs) (hU : U.heap = H) (hW : s.WarmedH U.vm) : jx_ex G (jx_A rg H.size) U := ⟨jx_st_run hE.1 hs hS hU hW, jx_zz_run hE.2.1 hs hS hU hW.alike, jx_zz_run hE.2.2.1 hs hS hU hW.alike, jx_zz_run hE.2.2.2.1 hs hS hU hW.alike, je_nw_warm hW hE.2.2.2.2.1, va_K.moved hW.alike hE.2.2.2.2.2⟩
def mm_env (G : jx_G) (A : Nat → Prop) (s : State) : Prop := va_K G.1 vwCl [(G.2 0, .int), (G.2 1, .boolean)] s ∧ jx_ex G A s
theorem mm_hex {G : jx_G} : ∀ A s, mm_env G A s → jx_ex G A s := fun _ _ h => h.2
def mm_ok (G : jx_G) : Prop := va_D (mm_rg G) (mm_W G (fun _ _ => 0))
theorem mm_D {G : jx_G} (h : mm_ok G) (σ : jx_M) (sz : Nat) : va_D (jx_A (mm_rg G) sz) (mm_W G σ) := jx_Dmap (w := mm_W G (fun _ _ => 0)) rfl (va_D.weaken h (fun _ _ _ q => Or.inl q))
theorem mm_jok {G : jx_G} : jx_ok (mm_rg G) (mm_env G) := ⟨fun A U g mk a q => ⟨va_K.moved (u := U) (U := U.calling g mk a) (Vm.Alike.refl U.vm) q.1, jx_ex_call q.2⟩, fun sz s U H locs hs hE hS hU hvm => ⟨va_K.moved hvm.alike hE.1, jx_ex_run hE.2 hs hS hU hvm⟩⟩
theorem mm_rc {G : jx_G} : jx_rc (mm_env G) (mm_dyn G) (mm_rg G) (G.2 10) RX6 := fun _ _ _ _ _ hE hD _ => va_recv hE.1 hD (ci := 6) (q0 := 0) rfl rfl
section MM
variable {l : Launch} {G : jx_G} {sz : Nat} {own nm : String} {cc : ByteArray} {nL : Nat} {ret : Option FieldType} {R : Room} {Qf : List Frame → Array Value → State → State → Prop} {ce sl pc : Nat} {lv : List (Nat × Value)} {rest : List Value} {σ : jx_M}
theorem mm_get {index k : Nat} {v : Value} (hk0 : k < 26) (hw : Cond.fieldLink own index (TX6 k).1 (TX6 k).2.1 (TX6 k).2.2.1 ∈ jx_ws) (hv : (mm_F G σ)[k]? = some v) (d : decode cc pc = .ok (.getfield index, 3)) (kk : jx_J l (mm_env G) (mm_dyn G) (mm_rg G) sz own nm cc nL ret R Qf ce sl (pc + 3) lv (v :: rest) σ) : jx_J l (mm_env G) (mm_dyn G) (mm_rg G) sz own nm cc nL ret R Qf ce sl pc lv (.ref (G.2 10) :: rest) σ := by
  intro p e s m args below meth c C hr hk hn hs hE H locs ls hl hD hS
  exact va_get (D := G.1) (ci := 6) (C := RX6) (T := TX6) (N := 26) C.1 C.2.1 C.2.2.2.2 il_X6 C.2.2.2.1 hE.1 hD 0 rfl rfl k hk0 (C.2.2.2.2 _ hw) (fun _ h => h) hv d (kk p e s m args below meth c C hr hk hn hs hE H locs ls hl hD hS)
theorem mm_put {index k : Nat} {v : Value} {ty : FieldType} {σ2 : jx_M} (hG : mm_ok G) (hk0 : k < 26) (hw : Cond.fieldLink own index (TX6 k).1 (TX6 k).2.1 (TX6 k).2.2.1 ∈ jx_ws) (hfin : (TX6 k).2.2.2 = false) (hd : parseFieldDescriptor (TX6 k).2.2.1 = some ty) (hnr : narrow ty v = v) (hfit : fits ty v = true) (hset : (mm_W G σ).set 0 (G.2 10, .inr (6, (mm_F G σ).set k v)) = mm_W G σ2) (d : decode cc pc = .ok (.putfield index, 3)) (kk : jx_J l (mm_env G) (mm_dyn G) (mm_rg G) sz own nm cc nL ret R Qf ce sl (pc + 3) lv rest σ2) : jx_J l (mm_env G) (mm_dyn G) (mm_rg G) sz own nm cc nL ret R Qf ce sl pc lv (v :: .ref (G.2 10) :: rest) σ := by
  intro p e s m args below meth c C hr hk hn hs hE H locs ls hl hD hS
  refine va_put (D := G.1) (ci := 6) (C := RX6) (T := TX6) (N := 26) C.1 C.2.1 C.2.2.2.2 il_X6 tyX6 tyX6_ok nmX6 C.2.2.2.1 hE.1 hD (mm_D hG σ sz) hS 0 rfl rfl k hk0 (C.2.2.2.2 _ hw) (fun _ h => h) hfin hd hnr hfit hk0 d (fun H1 locs1 hP1 _ hS1 => ?_)
  rw [hset] at hP1
  exact kk p e s m args below meth c C hr hk hn hs hE H1 locs1 ls hl hP1 hS1
theorem mm_g_thrown {index : Nat} (hw : Cond.fieldLink own index "LampVoteModel" "thrown" "I" ∈ jx_ws) (d : decode cc pc = .ok (.getfield index, 3)) (kk : jx_J l (mm_env G) (mm_dyn G) (mm_rg G) sz own nm cc nL ret R Qf ce sl (pc + 3) lv (.int (σ 0 0) :: rest) σ) : jx_J l (mm_env G) (mm_dyn G) (mm_rg G) sz own nm cc nL ret R Qf ce sl pc lv (.ref (G.2 10) :: rest) σ := mm_get (k := 0) (by decide) hw rfl d kk
theorem mm_p_thrown {index : Nat} {v : Int32} {σ2 : jx_M} (hG : mm_ok G) (hw : Cond.fieldLink own index "LampVoteModel" "thrown" "I" ∈ jx_ws) (ev : σ2 = jx_mu σ 0 0 v) (d : decode cc pc = .ok (.putfield index, 3)) (kk : jx_J l (mm_env G) (mm_dyn G) (mm_rg G) sz own nm cc nL ret R Qf ce sl (pc + 3) lv rest σ2) : jx_J l (mm_env G) (mm_dyn G) (mm_rg G) sz own nm cc nL ret R Qf ce sl pc lv (.int v :: .ref (G.2 10) :: rest) σ := mm_put (k := 0) (ty := .int) hG (by decide) hw rfl (by decide +kernel) rfl rfl (by subst ev; rfl) d kk
theorem mm_g_s {index : Nat} (hw : Cond.fieldLink own index "LampVoteModel" "s" "[I" ∈ jx_ws) (d : decode cc pc = .ok (.getfield index, 3)) (kk : jx_J l (mm_env G) (mm_dyn G) (mm_rg G) sz own nm cc nL ret R Qf ce sl (pc + 3) lv (.ref (G.2 101) :: rest) σ) : jx_J l (mm_env G) (mm_dyn G) (mm_rg G) sz own nm cc nL ret R Qf ce sl pc lv (.ref (G.2 10) :: rest) σ := mm_get (k := 1) (by decide) hw rfl d kk
theorem mm_g_image {index : Nat} (hw : Cond.fieldLink own index "LampVoteModel" "image" "[I" ∈ jx_ws) (d : decode cc pc = .ok (.getfield index, 3)) (kk : jx_J l (mm_env G) (mm_dyn G) (mm_rg G) sz own nm cc nL ret R Qf ce sl (pc + 3) lv (.ref (G.2 102) :: rest) σ) : jx_J l (mm_env G) (mm_dyn G) (mm_rg G) sz own nm cc nL ret R Qf ce sl pc lv (.ref (G.2 10) :: rest) σ := mm_get (k := 2) (by decide) hw rfl d kk
theorem mm_g_hasImage {index : Nat} (hw : Cond.fieldLink own index "LampVoteModel" "hasImage" "Z" ∈ jx_ws) (d : decode cc pc = .ok (.getfield index, 3)) (kk : jx_J l (mm_env G) (mm_dyn G) (mm_rg G) sz own nm cc nL ret R Qf ce sl (pc + 3) lv (.int (σ 0 3) :: rest) σ) : jx_J l (mm_env G) (mm_dyn G) (mm_rg G) sz own nm cc nL ret R Qf ce sl pc lv (.ref (G.2 10) :: rest) σ := mm_get (k := 3) (by decide) hw rfl d kk
theorem mm_p_hasImage {index : Nat} {v : Int32} {σ2 : jx_M} (hG : mm_ok G) (hz : v = 0 ∨ v = 1) (hw : Cond.fieldLink own index "LampVoteModel" "hasImage" "Z" ∈ jx_ws) (ev : σ2 = jx_mu σ 0 3 v) (d : decode cc pc = .ok (.putfield index, 3)) (kk : jx_J l (mm_env G) (mm_dyn G) (mm_rg G) sz own nm cc nL ret R Qf ce sl (pc + 3) lv rest σ2) : jx_J l (mm_env G) (mm_dyn G) (mm_rg G) sz own nm cc nL ret R Qf ce sl pc lv (.int v :: .ref (G.2 10) :: rest) σ := mm_put (k := 3) (ty := .boolean) hG (by decide) hw rfl (by decide +kernel) (jx_nar hz) (jx_fit hz) (by subst ev; rfl) d kk
theorem mm_g_act {index : Nat} (hw : Cond.fieldLink own index "LampVoteModel" "act" "I" ∈ jx_ws) (d : decode cc pc = .ok (.getfield index, 3)) (kk : jx_J l (mm_env G) (mm_dyn G) (mm_rg G) sz own nm cc nL ret R Qf ce sl (pc + 3) lv (.int (σ 0 4) :: rest) σ) : jx_J l (mm_env G) (mm_dyn G) (mm_rg G) sz own nm cc nL ret R Qf ce sl pc lv (.ref (G.2 10) :: rest) σ := mm_get (k := 4) (by decide) hw rfl d kk
theorem mm_p_act {index : Nat} {v : Int32} {σ2 : jx_M} (hG : mm_ok G) (hw : Cond.fieldLink own index "LampVoteModel" "act" "I" ∈ jx_ws) (ev : σ2 = jx_mu σ 0 4 v) (d : decode cc pc = .ok (.putfield index, 3)) (kk : jx_J l (mm_env G) (mm_dyn G) (mm_rg G) sz own nm cc nL ret R Qf ce sl (pc + 3) lv rest σ2) : jx_J l (mm_env G) (mm_dyn G) (mm_rg G) sz own nm cc nL ret R Qf ce sl pc lv (.int v :: .ref (G.2 10) :: rest) σ := mm_put (k := 4) (ty := .int) hG (by decide) hw rfl (by decide +kernel) rfl rfl (by subst ev; rfl) d kk
theorem mm_g_spot {index : Nat} (hw : Cond.fieldLink own index "LampVoteModel" "spot" "I" ∈ jx_ws) (d : decode cc pc = .ok (.getfield index, 3)) (kk : jx_J l (mm_env G) (mm_dyn G) (mm_rg G) sz own nm cc nL ret R Qf ce sl (pc + 3) lv (.int (σ 0 5) :: rest) σ) : jx_J l (mm_env G) (mm_dyn G) (mm_rg G) sz own nm cc nL ret R Qf ce sl pc lv (.ref (G.2 10) :: rest) σ := mm_get (k := 5) (by decide) hw rfl d kk
theorem mm_p_spot {index : Nat} {v : Int32} {σ2 : jx_M} (hG : mm_ok G) (hw : Cond.fieldLink own index "LampVoteModel" "spot" "I" ∈ jx_ws) (ev : σ2 = jx_mu σ 0 5 v) (d : decode cc pc = .ok (.putfield index, 3)) (kk : jx_J l (mm_env G) (mm_dyn G) (mm_rg G) sz own nm cc nL ret R Qf ce sl (pc + 3) lv rest σ2) : jx_J l (mm_env G) (mm_dyn G) (mm_rg G) sz own nm cc nL ret R Qf ce sl pc lv (.int v :: .ref (G.2 10) :: rest) σ := mm_put (k := 5) (ty := .int) hG (by decide) hw rfl (by decide +kernel) rfl rfl (by subst ev; rfl) d kk
theorem mm_g_end {index : Nat} (hw : Cond.fieldLink own index "LampVoteModel" "end" "I" ∈ jx_ws) (d : decode cc pc = .ok (.getfield index, 3)) (kk : jx_J l (mm_env G) (mm_dyn G) (mm_rg G) sz own nm cc nL ret R Qf ce sl (pc + 3) lv (.int (σ 0 6) :: rest) σ) : jx_J l (mm_env G) (mm_dyn G) (mm_rg G) sz own nm cc nL ret R Qf ce sl pc lv (.ref (G.2 10) :: rest) σ := mm_get (k := 6) (by decide) hw rfl d kk
theorem mm_p_end {index : Nat} {v : Int32} {σ2 : jx_M} (hG : mm_ok G) (hw : Cond.fieldLink own index "LampVoteModel" "end" "I" ∈ jx_ws) (ev : σ2 = jx_mu σ 0 6 v) (d : decode cc pc = .ok (.putfield index, 3)) (kk : jx_J l (mm_env G) (mm_dyn G) (mm_rg G) sz own nm cc nL ret R Qf ce sl (pc + 3) lv rest σ2) : jx_J l (mm_env G) (mm_dyn G) (mm_rg G) sz own nm cc nL ret R Qf ce sl pc lv (.int v :: .ref (G.2 10) :: rest) σ := mm_put (k := 6) (ty := .int) hG (by decide) hw rfl (by decide +kernel) rfl rfl (by subst ev; rfl) d kk
theorem mm_g_isWrong {index : Nat} (hw : Cond.fieldLink own index "LampVoteModel" "isWrong" "Z" ∈ jx_ws) (d : decode cc pc = .ok (.getfield index, 3)) (kk : jx_J l (mm_env G) (mm_dyn G) (mm_rg G) sz own nm cc nL ret R Qf ce sl (pc + 3) lv (.int (σ 0 7) :: rest) σ) : jx_J l (mm_env G) (mm_dyn G) (mm_rg G) sz own nm cc nL ret R Qf ce sl pc lv (.ref (G.2 10) :: rest) σ := mm_get (k := 7) (by decide) hw rfl d kk
theorem mm_p_isWrong {index : Nat} {v : Int32} {σ2 : jx_M} (hG : mm_ok G) (hz : v = 0 ∨ v = 1) (hw : Cond.fieldLink own index "LampVoteModel" "isWrong" "Z" ∈ jx_ws) (ev : σ2 = jx_mu σ 0 7 v) (d : decode cc pc = .ok (.putfield index, 3)) (kk : jx_J l (mm_env G) (mm_dyn G) (mm_rg G) sz own nm cc nL ret R Qf ce sl (pc + 3) lv rest σ2) : jx_J l (mm_env G) (mm_dyn G) (mm_rg G) sz own nm cc nL ret R Qf ce sl pc lv (.int v :: .ref (G.2 10) :: rest) σ := mm_put (k := 7) (ty := .boolean) hG (by decide) hw rfl (by decide +kernel) (jx_nar hz) (jx_fit hz) (by subst ev; rfl) d kk
theorem mm_g_open {index : Nat} (hw : Cond.fieldLink own index "LampVoteModel" "open" "I" ∈ jx_ws) (d : decode cc pc = .ok (.getfield index, 3)) (kk : jx_J l (mm_env G) (mm_dyn G) (mm_rg G) sz own nm cc nL ret R Qf ce sl (pc + 3) lv (.int (σ 0 8) :: rest) σ) : jx_J l (mm_env G) (mm_dyn G) (mm_rg G) sz own nm cc nL ret R Qf ce sl pc lv (.ref (G.2 10) :: rest) σ := mm_get (k := 8) (by decide) hw rfl d kk
theorem mm_p_open {index : Nat} {v : Int32} {σ2 : jx_M} (hG : mm_ok G) (hw : Cond.fieldLink own index "LampVoteModel" "open" "I" ∈ jx_ws) (ev : σ2 = jx_mu σ 0 8 v) (d : decode cc pc = .ok (.putfield index, 3)) (kk : jx_J l (mm_env G) (mm_dyn G) (mm_rg G) sz own nm cc nL ret R Qf ce sl (pc + 3) lv rest σ2) : jx_J l (mm_env G) (mm_dyn G) (mm_rg G) sz own nm cc nL ret R Qf ce sl pc lv (.int v :: .ref (G.2 10) :: rest) σ := mm_put (k := 8) (ty := .int) hG (by decide) hw rfl (by decide +kernel) rfl rfl (by subst ev; rfl) d kk
theorem mm_g_by {index : Nat} (hw : Cond.fieldLink own index "LampVoteModel" "by" "[I" ∈ jx_ws) (d : decode cc pc = .ok (.getfield index, 3)) (kk : jx_J l (mm_env G) (mm_dyn G) (mm_rg G) sz own nm cc nL ret R Qf ce sl (pc + 3) lv (.ref (G.2 103) :: rest) σ) : jx_J l (mm_env G) (mm_dyn G) (mm_rg G) sz own nm cc nL ret R Qf ce sl pc lv (.ref (G.2 10) :: rest) σ := mm_get (k := 9) (by decide) hw rfl d kk
theorem mm_g_truths {index : Nat} (hw : Cond.fieldLink own index "LampVoteModel" "truths" "[Z" ∈ jx_ws) (d : decode cc pc = .ok (.getfield index, 3)) (kk : jx_J l (mm_env G) (mm_dyn G) (mm_rg G) sz own nm cc nL ret R Qf ce sl (pc + 3) lv (.ref (G.2 104) :: rest) σ) : jx_J l (mm_env G) (mm_dyn G) (mm_rg G) sz own nm cc nL ret R Qf ce sl pc lv (.ref (G.2 10) :: rest) σ := mm_get (k := 10) (by decide) hw rfl d kk
theorem mm_g_isSide {index : Nat} (hw : Cond.fieldLink own index "LampVoteModel" "isSide" "Z" ∈ jx_ws) (d : decode cc pc = .ok (.getfield index, 3)) (kk : jx_J l (mm_env G) (mm_dyn G) (mm_rg G) sz own nm cc nL ret R Qf ce sl (pc + 3) lv (.int (σ 0 11) :: rest) σ) : jx_J l (mm_env G) (mm_dyn G) (mm_rg G) sz own nm cc nL ret R Qf ce sl pc lv (.ref (G.2 10) :: rest) σ := mm_get (k := 11) (by decide) hw rfl d kk
theorem mm_p_isSide {index : Nat} {v : Int32} {σ2 : jx_M} (hG : mm_ok G) (hz : v = 0 ∨ v = 1) (hw : Cond.fieldLink own index "LampVoteModel" "isSide" "Z" ∈ jx_ws) (ev : σ2 = jx_mu σ 0 11 v) (d : decode cc pc = .ok (.putfield index, 3)) (kk : jx_J l (mm_env G) (mm_dyn G) (mm_rg G) sz own nm cc nL ret R Qf ce sl (pc + 3) lv rest σ2) : jx_J l (mm_env G) (mm_dyn G) (mm_rg G) sz own nm cc nL ret R Qf ce sl pc lv (.int v :: .ref (G.2 10) :: rest) σ := mm_put (k := 11) (ty := .boolean) hG (by decide) hw rfl (by decide +kernel) (jx_nar hz) (jx_fit hz) (by subst ev; rfl) d kk
theorem mm_g_isHeld {index : Nat} (hw : Cond.fieldLink own index "LampVoteModel" "isHeld" "Z" ∈ jx_ws) (d : decode cc pc = .ok (.getfield index, 3)) (kk : jx_J l (mm_env G) (mm_dyn G) (mm_rg G) sz own nm cc nL ret R Qf ce sl (pc + 3) lv (.int (σ 0 12) :: rest) σ) : jx_J l (mm_env G) (mm_dyn G) (mm_rg G) sz own nm cc nL ret R Qf ce sl pc lv (.ref (G.2 10) :: rest) σ := mm_get (k := 12) (by decide) hw rfl d kk
theorem mm_p_isHeld {index : Nat} {v : Int32} {σ2 : jx_M} (hG : mm_ok G) (hz : v = 0 ∨ v = 1) (hw : Cond.fieldLink own index "LampVoteModel" "isHeld" "Z" ∈ jx_ws) (ev : σ2 = jx_mu σ 0 12 v) (d : decode cc pc = .ok (.putfield index, 3)) (kk : jx_J l (mm_env G) (mm_dyn G) (mm_rg G) sz own nm cc nL ret R Qf ce sl (pc + 3) lv rest σ2) : jx_J l (mm_env G) (mm_dyn G) (mm_rg G) sz own nm cc nL ret R Qf ce sl pc lv (.int v :: .ref (G.2 10) :: rest) σ := mm_put (k := 12) (ty := .boolean) hG (by decide) hw rfl (by decide +kernel) (jx_nar hz) (jx_fit hz) (by subst ev; rfl) d kk
theorem mm_g_oiled {index : Nat} (hw : Cond.fieldLink own index "LampVoteModel" "oiled" "I" ∈ jx_ws) (d : decode cc pc = .ok (.getfield index, 3)) (kk : jx_J l (mm_env G) (mm_dyn G) (mm_rg G) sz own nm cc nL ret R Qf ce sl (pc + 3) lv (.int (σ 0 13) :: rest) σ) : jx_J l (mm_env G) (mm_dyn G) (mm_rg G) sz own nm cc nL ret R Qf ce sl pc lv (.ref (G.2 10) :: rest) σ := mm_get (k := 13) (by decide) hw rfl d kk
theorem mm_p_oiled {index : Nat} {v : Int32} {σ2 : jx_M} (hG : mm_ok G) (hw : Cond.fieldLink own index "LampVoteModel" "oiled" "I" ∈ jx_ws) (ev : σ2 = jx_mu σ 0 13 v) (d : decode cc pc = .ok (.putfield index, 3)) (kk : jx_J l (mm_env G) (mm_dyn G) (mm_rg G) sz own nm cc nL ret R Qf ce sl (pc + 3) lv rest σ2) : jx_J l (mm_env G) (mm_dyn G) (mm_rg G) sz own nm cc nL ret R Qf ce sl pc lv (.int v :: .ref (G.2 10) :: rest) σ := mm_put (k := 13) (ty := .int) hG (by decide) hw rfl (by decide +kernel) rfl rfl (by subst ev; rfl) d kk
theorem mm_g_weighed {index : Nat} (hw : Cond.fieldLink own index "LampVoteModel" "weighed" "I" ∈ jx_ws) (d : decode cc pc = .ok (.getfield index, 3)) (kk : jx_J l (mm_env G) (mm_dyn G) (mm_rg G) sz own nm cc nL ret R Qf ce sl (pc + 3) lv (.int (σ 0 14) :: rest) σ) : jx_J l (mm_env G) (mm_dyn G) (mm_rg G) sz own nm cc nL ret R Qf ce sl pc lv (.ref (G.2 10) :: rest) σ := mm_get (k := 14) (by decide) hw rfl d kk
theorem mm_p_weighed {index : Nat} {v : Int32} {σ2 : jx_M} (hG : mm_ok G) (hw : Cond.fieldLink own index "LampVoteModel" "weighed" "I" ∈ jx_ws) (ev : σ2 = jx_mu σ 0 14 v) (d : decode cc pc = .ok (.putfield index, 3)) (kk : jx_J l (mm_env G) (mm_dyn G) (mm_rg G) sz own nm cc nL ret R Qf ce sl (pc + 3) lv rest σ2) : jx_J l (mm_env G) (mm_dyn G) (mm_rg G) sz own nm cc nL ret R Qf ce sl pc lv (.int v :: .ref (G.2 10) :: rest) σ := mm_put (k := 14) (ty := .int) hG (by decide) hw rfl (by decide +kernel) rfl rfl (by subst ev; rfl) d kk
theorem mm_g_going {index : Nat} (hw : Cond.fieldLink own index "LampVoteModel" "going" "[I" ∈ jx_ws) (d : decode cc pc = .ok (.getfield index, 3)) (kk : jx_J l (mm_env G) (mm_dyn G) (mm_rg G) sz own nm cc nL ret R Qf ce sl (pc + 3) lv (.ref (G.2 105) :: rest) σ) : jx_J l (mm_env G) (mm_dyn G) (mm_rg G) sz own nm cc nL ret R Qf ce sl pc lv (.ref (G.2 10) :: rest) σ := mm_get (k := 15) (by decide) hw rfl d kk
theorem mm_g_weights {index : Nat} (hw : Cond.fieldLink own index "LampVoteModel" "weights" "[I" ∈ jx_ws) (d : decode cc pc = .ok (.getfield index, 3)) (kk : jx_J l (mm_env G) (mm_dyn G) (mm_rg G) sz own nm cc nL ret R Qf ce sl (pc + 3) lv (.ref (G.2 106) :: rest) σ) : jx_J l (mm_env G) (mm_dyn G) (mm_rg G) sz own nm cc nL ret R Qf ce sl pc lv (.ref (G.2 10) :: rest) σ := mm_get (k := 16) (by decide) hw rfl d kk
theorem mm_g_lying {index : Nat} (hw : Cond.fieldLink own index "LampVoteModel" "lying" "[I" ∈ jx_ws) (d : decode cc pc = .ok (.getfield index, 3)) (kk : jx_J l (mm_env G) (mm_dyn G) (mm_rg G) sz own nm cc nL ret R Qf ce sl (pc + 3) lv (.ref (G.2 107) :: rest) σ) : jx_J l (mm_env G) (mm_dyn G) (mm_rg G) sz own nm cc nL ret R Qf ce sl pc lv (.ref (G.2 10) :: rest) σ := mm_get (k := 17) (by decide) hw rfl d kk
theorem mm_g_counts {index : Nat} (hw : Cond.fieldLink own index "LampVoteModel" "counts" "[Z" ∈ jx_ws) (d : decode cc pc = .ok (.getfield index, 3)) (kk : jx_J l (mm_env G) (mm_dyn G) (mm_rg G) sz own nm cc nL ret R Qf ce sl (pc + 3) lv (.ref (G.2 108) :: rest) σ) : jx_J l (mm_env G) (mm_dyn G) (mm_rg G) sz own nm cc nL ret R Qf ce sl pc lv (.ref (G.2 10) :: rest) σ := mm_get (k := 18) (by decide) hw rfl d kk
theorem mm_g_bestPlace {index : Nat} (hw : Cond.fieldLink own index "LampVoteModel" "bestPlace" "I" ∈ jx_ws) (d : decode cc pc = .ok (.getfield index, 3)) (kk : jx_J l (mm_env G) (mm_dyn G) (mm_rg G) sz own nm cc nL ret R Qf ce sl (pc + 3) lv (.int (σ 0 19) :: rest) σ) : jx_J l (mm_env G) (mm_dyn G) (mm_rg G) sz own nm cc nL ret R Qf ce sl pc lv (.ref (G.2 10) :: rest) σ := mm_get (k := 19) (by decide) hw rfl d kk
theorem mm_p_bestPlace {index : Nat} {v : Int32} {σ2 : jx_M} (hG : mm_ok G) (hw : Cond.fieldLink own index "LampVoteModel" "bestPlace" "I" ∈ jx_ws) (ev : σ2 = jx_mu σ 0 19 v) (d : decode cc pc = .ok (.putfield index, 3)) (kk : jx_J l (mm_env G) (mm_dyn G) (mm_rg G) sz own nm cc nL ret R Qf ce sl (pc + 3) lv rest σ2) : jx_J l (mm_env G) (mm_dyn G) (mm_rg G) sz own nm cc nL ret R Qf ce sl pc lv (.int v :: .ref (G.2 10) :: rest) σ := mm_put (k := 19) (ty := .int) hG (by decide) hw rfl (by decide +kernel) rfl rfl (by subst ev; rfl) d kk
theorem mm_g_bestMore {index : Nat} (hw : Cond.fieldLink own index "LampVoteModel" "bestMore" "I" ∈ jx_ws) (d : decode cc pc = .ok (.getfield index, 3)) (kk : jx_J l (mm_env G) (mm_dyn G) (mm_rg G) sz own nm cc nL ret R Qf ce sl (pc + 3) lv (.int (σ 0 20) :: rest) σ) : jx_J l (mm_env G) (mm_dyn G) (mm_rg G) sz own nm cc nL ret R Qf ce sl pc lv (.ref (G.2 10) :: rest) σ := mm_get (k := 20) (by decide) hw rfl d kk
theorem mm_p_bestMore {index : Nat} {v : Int32} {σ2 : jx_M} (hG : mm_ok G) (hw : Cond.fieldLink own index "LampVoteModel" "bestMore" "I" ∈ jx_ws) (ev : σ2 = jx_mu σ 0 20 v) (d : decode cc pc = .ok (.putfield index, 3)) (kk : jx_J l (mm_env G) (mm_dyn G) (mm_rg G) sz own nm cc nL ret R Qf ce sl (pc + 3) lv rest σ2) : jx_J l (mm_env G) (mm_dyn G) (mm_rg G) sz own nm cc nL ret R Qf ce sl pc lv (.int v :: .ref (G.2 10) :: rest) σ := mm_put (k := 20) (ty := .int) hG (by decide) hw rfl (by decide +kernel) rfl rfl (by subst ev; rfl) d kk
theorem mm_g_bodies {index : Nat} (hw : Cond.fieldLink own index "LampVoteModel" "bodies" "[I" ∈ jx_ws) (d : decode cc pc = .ok (.getfield index, 3)) (kk : jx_J l (mm_env G) (mm_dyn G) (mm_rg G) sz own nm cc nL ret R Qf ce sl (pc + 3) lv (.ref (G.2 109) :: rest) σ) : jx_J l (mm_env G) (mm_dyn G) (mm_rg G) sz own nm cc nL ret R Qf ce sl pc lv (.ref (G.2 10) :: rest) σ := mm_get (k := 21) (by decide) hw rfl d kk
theorem mm_g_ran {index : Nat} (hw : Cond.fieldLink own index "LampVoteModel" "ran" "I" ∈ jx_ws) (d : decode cc pc = .ok (.getfield index, 3)) (kk : jx_J l (mm_env G) (mm_dyn G) (mm_rg G) sz own nm cc nL ret R Qf ce sl (pc + 3) lv (.int (σ 0 22) :: rest) σ) : jx_J l (mm_env G) (mm_dyn G) (mm_rg G) sz own nm cc nL ret R Qf ce sl pc lv (.ref (G.2 10) :: rest) σ := mm_get (k := 22) (by decide) hw rfl d kk
theorem mm_p_ran {index : Nat} {v : Int32} {σ2 : jx_M} (hG : mm_ok G) (hw : Cond.fieldLink own index "LampVoteModel" "ran" "I" ∈ jx_ws) (ev : σ2 = jx_mu σ 0 22 v) (d : decode cc pc = .ok (.putfield index, 3)) (kk : jx_J l (mm_env G) (mm_dyn G) (mm_rg G) sz own nm cc nL ret R Qf ce sl (pc + 3) lv rest σ2) : jx_J l (mm_env G) (mm_dyn G) (mm_rg G) sz own nm cc nL ret R Qf ce sl pc lv (.int v :: .ref (G.2 10) :: rest) σ := mm_put (k := 22) (ty := .int) hG (by decide) hw rfl (by decide +kernel) rfl rfl (by subst ev; rfl) d kk
theorem mm_g_kind {index : Nat} (hw : Cond.fieldLink own index "LampVoteModel" "kind" "I" ∈ jx_ws) (d : decode cc pc = .ok (.getfield index, 3)) (kk : jx_J l (mm_env G) (mm_dyn G) (mm_rg G) sz own nm cc nL ret R Qf ce sl (pc + 3) lv (.int (σ 0 23) :: rest) σ) : jx_J l (mm_env G) (mm_dyn G) (mm_rg G) sz own nm cc nL ret R Qf ce sl pc lv (.ref (G.2 10) :: rest) σ := mm_get (k := 23) (by decide) hw rfl d kk
theorem mm_p_kind {index : Nat} {v : Int32} {σ2 : jx_M} (hG : mm_ok G) (hw : Cond.fieldLink own index "LampVoteModel" "kind" "I" ∈ jx_ws) (ev : σ2 = jx_mu σ 0 23 v) (d : decode cc pc = .ok (.putfield index, 3)) (kk : jx_J l (mm_env G) (mm_dyn G) (mm_rg G) sz own nm cc nL ret R Qf ce sl (pc + 3) lv rest σ2) : jx_J l (mm_env G) (mm_dyn G) (mm_rg G) sz own nm cc nL ret R Qf ce sl pc lv (.int v :: .ref (G.2 10) :: rest) σ := mm_put (k := 23) (ty := .int) hG (by decide) hw rfl (by decide +kernel) rfl rfl (by subst ev; rfl) d kk
theorem mm_g_number {index : Nat} (hw : Cond.fieldLink own index "LampVoteModel" "number" "I" ∈ jx_ws) (d : decode cc pc = .ok (.getfield index, 3)) (kk : jx_J l (mm_env G) (mm_dyn G) (mm_rg G) sz own nm cc nL ret R Qf ce sl (pc + 3) lv (.int (σ 0 24) :: rest) σ) : jx_J l (mm_env G) (mm_dyn G) (mm_rg G) sz own nm cc nL ret R Qf ce sl pc lv (.ref (G.2 10) :: rest) σ := mm_get (k := 24) (by decide) hw rfl d kk
theorem mm_p_number {index : Nat} {v : Int32} {σ2 : jx_M} (hG : mm_ok G) (hw : Cond.fieldLink own index "LampVoteModel" "number" "I" ∈ jx_ws) (ev : σ2 = jx_mu σ 0 24 v) (d : decode cc pc = .ok (.putfield index, 3)) (kk : jx_J l (mm_env G) (mm_dyn G) (mm_rg G) sz own nm cc nL ret R Qf ce sl (pc + 3) lv rest σ2) : jx_J l (mm_env G) (mm_dyn G) (mm_rg G) sz own nm cc nL ret R Qf ce sl pc lv (.int v :: .ref (G.2 10) :: rest) σ := mm_put (k := 24) (ty := .int) hG (by decide) hw rfl (by decide +kernel) rfl rfl (by subst ev; rfl) d kk
theorem mm_g_tellsV {index : Nat} (hw : Cond.fieldLink own index "LampVoteModel" "tellsV" "I" ∈ jx_ws) (d : decode cc pc = .ok (.getfield index, 3)) (kk : jx_J l (mm_env G) (mm_dyn G) (mm_rg G) sz own nm cc nL ret R Qf ce sl (pc + 3) lv (.int (σ 0 25) :: rest) σ) : jx_J l (mm_env G) (mm_dyn G) (mm_rg G) sz own nm cc nL ret R Qf ce sl pc lv (.ref (G.2 10) :: rest) σ := mm_get (k := 25) (by decide) hw rfl d kk
theorem mm_p_tellsV {index : Nat} {v : Int32} {σ2 : jx_M} (hG : mm_ok G) (hw : Cond.fieldLink own index "LampVoteModel" "tellsV" "I" ∈ jx_ws) (ev : σ2 = jx_mu σ 0 25 v) (d : decode cc pc = .ok (.putfield index, 3)) (kk : jx_J l (mm_env G) (mm_dyn G) (mm_rg G) sz own nm cc nL ret R Qf ce sl (pc + 3) lv rest σ2) : jx_J l (mm_env G) (mm_dyn G) (mm_rg G) sz own nm cc nL ret R Qf ce sl pc lv (.int v :: .ref (G.2 10) :: rest) σ := mm_put (k := 25) (ty := .int) hG (by decide) hw rfl (by decide +kernel) rfl rfl (by subst ev; rfl) d kk
theorem mm_l_s {i : Int32} {j : Nat} (hin : vp_in i 920) (hj : i.toNatClampNeg = j) (d : decode cc pc = .ok (.iaload, 1)) (kk : jx_J l (mm_env G) (mm_dyn G) (mm_rg G) sz own nm cc nL ret R Qf ce sl (pc + 1) lv (.int (σ 1 j) :: rest) σ) : jx_J l (mm_env G) (mm_dyn G) (mm_rg G) sz own nm cc nL ret R Qf ce sl pc lv (.int i :: .ref (G.2 101) :: rest) σ := by
  subst hj
  intro p e s m args below meth c C hr hk hn hs hE H locs ls hl hD hS
  exact va_iald C.1 C.2.1 hE.1 hD 1 0 rfl rfl hin d (kk p e s m args below meth c C hr hk hn hs hE H locs ls hl hD hS)
theorem mm_s_s {i v : Int32} {j : Nat} {σ2 : jx_M} (hG : mm_ok G) (hin : vp_in i 920) (hj : i.toNatClampNeg = j) (ev : σ2 = jx_mu σ 1 j v) (d : decode cc pc = .ok (.iastore, 1)) (kk : jx_J l (mm_env G) (mm_dyn G) (mm_rg G) sz own nm cc nL ret R Qf ce sl (pc + 1) lv rest σ2) : jx_J l (mm_env G) (mm_dyn G) (mm_rg G) sz own nm cc nL ret R Qf ce sl pc lv (.int v :: .int i :: .ref (G.2 101) :: rest) σ := by
  subst hj
  subst ev
  intro p e s m args below meth c C hr hk hn hs hE H locs ls hl hD hS
  exact va_iast C.1 C.2.1 hE.1 hD (mm_D hG σ sz) hS 1 0 rfl rfl hin d (fun H1 locs1 hP1 _ hS1 => kk p e s m args below meth c C hr hk hn hs hE H1 locs1 ls hl hP1 hS1)
theorem mm_l_image {i : Int32} {j : Nat} (hin : vp_in i 920) (hj : i.toNatClampNeg = j) (d : decode cc pc = .ok (.iaload, 1)) (kk : jx_J l (mm_env G) (mm_dyn G) (mm_rg G) sz own nm cc nL ret R Qf ce sl (pc + 1) lv (.int (σ 2 j) :: rest) σ) : jx_J l (mm_env G) (mm_dyn G) (mm_rg G) sz own nm cc nL ret R Qf ce sl pc lv (.int i :: .ref (G.2 102) :: rest) σ := by
  subst hj
  intro p e s m args below meth c C hr hk hn hs hE H locs ls hl hD hS
  exact va_iald C.1 C.2.1 hE.1 hD 2 0 rfl rfl hin d (kk p e s m args below meth c C hr hk hn hs hE H locs ls hl hD hS)
theorem mm_s_image {i v : Int32} {j : Nat} {σ2 : jx_M} (hG : mm_ok G) (hin : vp_in i 920) (hj : i.toNatClampNeg = j) (ev : σ2 = jx_mu σ 2 j v) (d : decode cc pc = .ok (.iastore, 1)) (kk : jx_J l (mm_env G) (mm_dyn G) (mm_rg G) sz own nm cc nL ret R Qf ce sl (pc + 1) lv rest σ2) : jx_J l (mm_env G) (mm_dyn G) (mm_rg G) sz own nm cc nL ret R Qf ce sl pc lv (.int v :: .int i :: .ref (G.2 102) :: rest) σ := by
  subst hj
  subst ev
  intro p e s m args below meth c C hr hk hn hs hE H locs ls hl hD hS
  exact va_iast C.1 C.2.1 hE.1 hD (mm_D hG σ sz) hS 2 0 rfl rfl hin d (fun H1 locs1 hP1 _ hS1 => kk p e s m args below meth c C hr hk hn hs hE H1 locs1 ls hl hP1 hS1)
theorem mm_l_by {i : Int32} {j : Nat} (hin : vp_in i 4) (hj : i.toNatClampNeg = j) (d : decode cc pc = .ok (.iaload, 1)) (kk : jx_J l (mm_env G) (mm_dyn G) (mm_rg G) sz own nm cc nL ret R Qf ce sl (pc + 1) lv (.int (σ 3 j) :: rest) σ) : jx_J l (mm_env G) (mm_dyn G) (mm_rg G) sz own nm cc nL ret R Qf ce sl pc lv (.int i :: .ref (G.2 103) :: rest) σ := by
  subst hj
  intro p e s m args below meth c C hr hk hn hs hE H locs ls hl hD hS
  exact va_iald C.1 C.2.1 hE.1 hD 3 0 rfl rfl hin d (kk p e s m args below meth c C hr hk hn hs hE H locs ls hl hD hS)
theorem mm_s_by {i v : Int32} {j : Nat} {σ2 : jx_M} (hG : mm_ok G) (hin : vp_in i 4) (hj : i.toNatClampNeg = j) (ev : σ2 = jx_mu σ 3 j v) (d : decode cc pc = .ok (.iastore, 1)) (kk : jx_J l (mm_env G) (mm_dyn G) (mm_rg G) sz own nm cc nL ret R Qf ce sl (pc + 1) lv rest σ2) : jx_J l (mm_env G) (mm_dyn G) (mm_rg G) sz own nm cc nL ret R Qf ce sl pc lv (.int v :: .int i :: .ref (G.2 103) :: rest) σ := by
  subst hj
  subst ev
  intro p e s m args below meth c C hr hk hn hs hE H locs ls hl hD hS
  exact va_iast C.1 C.2.1 hE.1 hD (mm_D hG σ sz) hS 3 0 rfl rfl hin d (fun H1 locs1 hP1 _ hS1 => kk p e s m args below meth c C hr hk hn hs hE H1 locs1 ls hl hP1 hS1)
theorem mm_l_truths {i : Int32} {j : Nat} (hin : vp_in i 64) (hj : i.toNatClampNeg = j) (d : decode cc pc = .ok (.baload, 1)) (kk : jx_J l (mm_env G) (mm_dyn G) (mm_rg G) sz own nm cc nL ret R Qf ce sl (pc + 1) lv (.int (σ 4 j) :: rest) σ) : jx_J l (mm_env G) (mm_dyn G) (mm_rg G) sz own nm cc nL ret R Qf ce sl pc lv (.int i :: .ref (G.2 104) :: rest) σ := by
  subst hj
  intro p e s m args below meth c C hr hk hn hs hE H locs ls hl hD hS
  exact va_zald C.1 C.2.1 hE.1 hD 4 1 rfl rfl hin d (kk p e s m args below meth c C hr hk hn hs hE H locs ls hl hD hS)
theorem mm_s_truths {i v : Int32} {j : Nat} {σ2 : jx_M} (hG : mm_ok G) (hz : v = 0 ∨ v = 1) (hin : vp_in i 64) (hj : i.toNatClampNeg = j) (ev : σ2 = jx_mu σ 4 j v) (d : decode cc pc = .ok (.bastore, 1)) (kk : jx_J l (mm_env G) (mm_dyn G) (mm_rg G) sz own nm cc nL ret R Qf ce sl (pc + 1) lv rest σ2) : jx_J l (mm_env G) (mm_dyn G) (mm_rg G) sz own nm cc nL ret R Qf ce sl pc lv (.int v :: .int i :: .ref (G.2 104) :: rest) σ := by
  subst hj
  subst ev
  intro p e s m args below meth c C hr hk hn hs hE H locs ls hl hD hS
  exact va_zast C.1 C.2.1 hE.1 hD (mm_D hG σ sz) hS 4 1 rfl rfl hin d (fun H1 locs1 hP1 _ hS1 => by rw [show vp_nar .boolean v = v from jx_nbv hz] at hP1; exact kk p e s m args below meth c C hr hk hn hs hE H1 locs1 ls hl hP1 hS1)
theorem mm_l_going {i : Int32} {j : Nat} (hin : vp_in i 84) (hj : i.toNatClampNeg = j) (d : decode cc pc = .ok (.iaload, 1)) (kk : jx_J l (mm_env G) (mm_dyn G) (mm_rg G) sz own nm cc nL ret R Qf ce sl (pc + 1) lv (.int (σ 5 j) :: rest) σ) : jx_J l (mm_env G) (mm_dyn G) (mm_rg G) sz own nm cc nL ret R Qf ce sl pc lv (.int i :: .ref (G.2 105) :: rest) σ := by
  subst hj
  intro p e s m args below meth c C hr hk hn hs hE H locs ls hl hD hS
  exact va_iald C.1 C.2.1 hE.1 hD 5 0 rfl rfl hin d (kk p e s m args below meth c C hr hk hn hs hE H locs ls hl hD hS)
theorem mm_s_going {i v : Int32} {j : Nat} {σ2 : jx_M} (hG : mm_ok G) (hin : vp_in i 84) (hj : i.toNatClampNeg = j) (ev : σ2 = jx_mu σ 5 j v) (d : decode cc pc = .ok (.iastore, 1)) (kk : jx_J l (mm_env G) (mm_dyn G) (mm_rg G) sz own nm cc nL ret R Qf ce sl (pc + 1) lv rest σ2) : jx_J l (mm_env G) (mm_dyn G) (mm_rg G) sz own nm cc nL ret R Qf ce sl pc lv (.int v :: .int i :: .ref (G.2 105) :: rest) σ := by
  subst hj
  subst ev
  intro p e s m args below meth c C hr hk hn hs hE H locs ls hl hD hS
  exact va_iast C.1 C.2.1 hE.1 hD (mm_D hG σ sz) hS 5 0 rfl rfl hin d (fun H1 locs1 hP1 _ hS1 => kk p e s m args below meth c C hr hk hn hs hE H1 locs1 ls hl hP1 hS1)
theorem mm_l_weights {i : Int32} {j : Nat} (hin : vp_in i 7) (hj : i.toNatClampNeg = j) (d : decode cc pc = .ok (.iaload, 1)) (kk : jx_J l (mm_env G) (mm_dyn G) (mm_rg G) sz own nm cc nL ret R Qf ce sl (pc + 1) lv (.int (σ 6 j) :: rest) σ) : jx_J l (mm_env G) (mm_dyn G) (mm_rg G) sz own nm cc nL ret R Qf ce sl pc lv (.int i :: .ref (G.2 106) :: rest) σ := by
  subst hj
  intro p e s m args below meth c C hr hk hn hs hE H locs ls hl hD hS
  exact va_iald C.1 C.2.1 hE.1 hD 6 0 rfl rfl hin d (kk p e s m args below meth c C hr hk hn hs hE H locs ls hl hD hS)
theorem mm_s_weights {i v : Int32} {j : Nat} {σ2 : jx_M} (hG : mm_ok G) (hin : vp_in i 7) (hj : i.toNatClampNeg = j) (ev : σ2 = jx_mu σ 6 j v) (d : decode cc pc = .ok (.iastore, 1)) (kk : jx_J l (mm_env G) (mm_dyn G) (mm_rg G) sz own nm cc nL ret R Qf ce sl (pc + 1) lv rest σ2) : jx_J l (mm_env G) (mm_dyn G) (mm_rg G) sz own nm cc nL ret R Qf ce sl pc lv (.int v :: .int i :: .ref (G.2 106) :: rest) σ := by
  subst hj
  subst ev
  intro p e s m args below meth c C hr hk hn hs hE H locs ls hl hD hS
  exact va_iast C.1 C.2.1 hE.1 hD (mm_D hG σ sz) hS 6 0 rfl rfl hin d (fun H1 locs1 hP1 _ hS1 => kk p e s m args below meth c C hr hk hn hs hE H1 locs1 ls hl hP1 hS1)
theorem mm_l_lying {i : Int32} {j : Nat} (hin : vp_in i 6) (hj : i.toNatClampNeg = j) (d : decode cc pc = .ok (.iaload, 1)) (kk : jx_J l (mm_env G) (mm_dyn G) (mm_rg G) sz own nm cc nL ret R Qf ce sl (pc + 1) lv (.int (σ 7 j) :: rest) σ) : jx_J l (mm_env G) (mm_dyn G) (mm_rg G) sz own nm cc nL ret R Qf ce sl pc lv (.int i :: .ref (G.2 107) :: rest) σ := by
  subst hj
  intro p e s m args below meth c C hr hk hn hs hE H locs ls hl hD hS
  exact va_iald C.1 C.2.1 hE.1 hD 7 0 rfl rfl hin d (kk p e s m args below meth c C hr hk hn hs hE H locs ls hl hD hS)
theorem mm_s_lying {i v : Int32} {j : Nat} {σ2 : jx_M} (hG : mm_ok G) (hin : vp_in i 6) (hj : i.toNatClampNeg = j) (ev : σ2 = jx_mu σ 7 j v) (d : decode cc pc = .ok (.iastore, 1)) (kk : jx_J l (mm_env G) (mm_dyn G) (mm_rg G) sz own nm cc nL ret R Qf ce sl (pc + 1) lv rest σ2) : jx_J l (mm_env G) (mm_dyn G) (mm_rg G) sz own nm cc nL ret R Qf ce sl pc lv (.int v :: .int i :: .ref (G.2 107) :: rest) σ := by
  subst hj
  subst ev
  intro p e s m args below meth c C hr hk hn hs hE H locs ls hl hD hS
  exact va_iast C.1 C.2.1 hE.1 hD (mm_D hG σ sz) hS 7 0 rfl rfl hin d (fun H1 locs1 hP1 _ hS1 => kk p e s m args below meth c C hr hk hn hs hE H1 locs1 ls hl hP1 hS1)
theorem mm_l_counts {i : Int32} {j : Nat} (hin : vp_in i 6) (hj : i.toNatClampNeg = j) (d : decode cc pc = .ok (.baload, 1)) (kk : jx_J l (mm_env G) (mm_dyn G) (mm_rg G) sz own nm cc nL ret R Qf ce sl (pc + 1) lv (.int (σ 8 j) :: rest) σ) : jx_J l (mm_env G) (mm_dyn G) (mm_rg G) sz own nm cc nL ret R Qf ce sl pc lv (.int i :: .ref (G.2 108) :: rest) σ := by
  subst hj
  intro p e s m args below meth c C hr hk hn hs hE H locs ls hl hD hS
  exact va_zald C.1 C.2.1 hE.1 hD 8 1 rfl rfl hin d (kk p e s m args below meth c C hr hk hn hs hE H locs ls hl hD hS)
theorem mm_s_counts {i v : Int32} {j : Nat} {σ2 : jx_M} (hG : mm_ok G) (hz : v = 0 ∨ v = 1) (hin : vp_in i 6) (hj : i.toNatClampNeg = j) (ev : σ2 = jx_mu σ 8 j v) (d : decode cc pc = .ok (.bastore, 1)) (kk : jx_J l (mm_env G) (mm_dyn G) (mm_rg G) sz own nm cc nL ret R Qf ce sl (pc + 1) lv rest σ2) : jx_J l (mm_env G) (mm_dyn G) (mm_rg G) sz own nm cc nL ret R Qf ce sl pc lv (.int v :: .int i :: .ref (G.2 108) :: rest) σ := by
  subst hj
  subst ev
  intro p e s m args below meth c C hr hk hn hs hE H locs ls hl hD hS
  exact va_zast C.1 C.2.1 hE.1 hD (mm_D hG σ sz) hS 8 1 rfl rfl hin d (fun H1 locs1 hP1 _ hS1 => by rw [show vp_nar .boolean v = v from jx_nbv hz] at hP1; exact kk p e s m args below meth c C hr hk hn hs hE H1 locs1 ls hl hP1 hS1)
theorem mm_l_bodies {i : Int32} {j : Nat} (hin : vp_in i 20) (hj : i.toNatClampNeg = j) (d : decode cc pc = .ok (.iaload, 1)) (kk : jx_J l (mm_env G) (mm_dyn G) (mm_rg G) sz own nm cc nL ret R Qf ce sl (pc + 1) lv (.int (σ 9 j) :: rest) σ) : jx_J l (mm_env G) (mm_dyn G) (mm_rg G) sz own nm cc nL ret R Qf ce sl pc lv (.int i :: .ref (G.2 109) :: rest) σ := by
  subst hj
  intro p e s m args below meth c C hr hk hn hs hE H locs ls hl hD hS
  exact va_iald C.1 C.2.1 hE.1 hD 9 0 rfl rfl hin d (kk p e s m args below meth c C hr hk hn hs hE H locs ls hl hD hS)
theorem mm_s_bodies {i v : Int32} {j : Nat} {σ2 : jx_M} (hG : mm_ok G) (hin : vp_in i 20) (hj : i.toNatClampNeg = j) (ev : σ2 = jx_mu σ 9 j v) (d : decode cc pc = .ok (.iastore, 1)) (kk : jx_J l (mm_env G) (mm_dyn G) (mm_rg G) sz own nm cc nL ret R Qf ce sl (pc + 1) lv rest σ2) : jx_J l (mm_env G) (mm_dyn G) (mm_rg G) sz own nm cc nL ret R Qf ce sl pc lv (.int v :: .int i :: .ref (G.2 109) :: rest) σ := by
  subst hj
  subst ev
  intro p e s m args below meth c C hr hk hn hs hE H locs ls hl hD hS
  exact va_iast C.1 C.2.1 hE.1 hD (mm_D hG σ sz) hS 9 0 rfl rfl hin d (fun H1 locs1 hP1 _ hS1 => kk p e s m args below meth c C hr hk hn hs hE H1 locs1 ls hl hP1 hS1)
end MM
section ST
variable {l : Launch} {X : Type} {env : (Nat → Prop) → State → Prop} {dyn : X → Heap → Prop} {rg : Nat → Prop} {G : jx_G} {sz : Nat} {own nm : String} {cc : ByteArray} {nL : Nat} {ret : Option FieldType} {R : Room} {Qf : List Frame → Array Value → State → State → Prop} {ce sl pc : Nat} {lv : List (Nat × Value)} {rest : List Value} {x : X}
theorem st_ldc_X3_93 (hex : ∀ A s, env A s → jx_ex G A s) (d : decode cc pc = .ok (.ldc 93, 2)) (kk : jx_J l env dyn rg sz RX3 nm cc nL ret R Qf ce sl (pc + 2) lv (.ref (G.2 1000) :: rest) x) : jx_J l env dyn rg sz RX3 nm cc nL ret R Qf ce sl pc lv rest x := by
  intro p e s m args below meth c C hr hk hn hs hE H locs ls hl hD hS
  exact va_ldcS C.1 C.2.1 C.2.2.2.1 (hex _ _ hE).1.2.2.2.1 d (kk p e s m args below meth c C hr hk hn hs hE H locs ls hl hD hS)
theorem st_ldc_X3_121 (hex : ∀ A s, env A s → jx_ex G A s) (d : decode cc pc = .ok (.ldc 121, 2)) (kk : jx_J l env dyn rg sz RX3 nm cc nL ret R Qf ce sl (pc + 2) lv (.ref (G.2 1001) :: rest) x) : jx_J l env dyn rg sz RX3 nm cc nL ret R Qf ce sl pc lv rest x := by
  intro p e s m args below meth c C hr hk hn hs hE H locs ls hl hD hS
  exact va_ldcS C.1 C.2.1 C.2.2.2.1 (hex _ _ hE).1.2.2.2.2.1 d (kk p e s m args below meth c C hr hk hn hs hE H locs ls hl hD hS)
theorem st_ldc_X3_130 (hex : ∀ A s, env A s → jx_ex G A s) (d : decode cc pc = .ok (.ldc 130, 2)) (kk : jx_J l env dyn rg sz RX3 nm cc nL ret R Qf ce sl (pc + 2) lv (.ref (G.2 1002) :: rest) x) : jx_J l env dyn rg sz RX3 nm cc nL ret R Qf ce sl pc lv rest x := by
  intro p e s m args below meth c C hr hk hn hs hE H locs ls hl hD hS
  exact va_ldcS C.1 C.2.1 C.2.2.2.1 (hex _ _ hE).1.2.2.2.2.2.1 d (kk p e s m args below meth c C hr hk hn hs hE H locs ls hl hD hS)
theorem st_ldc_X6_111 (hex : ∀ A s, env A s → jx_ex G A s) (d : decode cc pc = .ok (.ldc 111, 2)) (kk : jx_J l env dyn rg sz RX6 nm cc nL ret R Qf ce sl (pc + 2) lv (.ref (G.2 1003) :: rest) x) : jx_J l env dyn rg sz RX6 nm cc nL ret R Qf ce sl pc lv rest x := by
  intro p e s m args below meth c C hr hk hn hs hE H locs ls hl hD hS
  exact va_ldcS C.1 C.2.1 C.2.2.2.1 (hex _ _ hE).1.2.2.2.2.2.2.1 d (kk p e s m args below meth c C hr hk hn hs hE H locs ls hl hD hS)
theorem st_ldc_X6_93 (hex : ∀ A s, env A s → jx_ex G A s) (d : decode cc pc = .ok (.ldc 93, 2)) (kk : jx_J l env dyn rg sz RX6 nm cc nL ret R Qf ce sl (pc + 2) lv (.ref (G.2 1001) :: rest) x) : jx_J l env dyn rg sz RX6 nm cc nL ret R Qf ce sl pc lv rest x := by
  intro p e s m args below meth c C hr hk hn hs hE H locs ls hl hD hS
  exact va_ldcS C.1 C.2.1 C.2.2.2.1 (hex _ _ hE).1.2.2.2.2.2.2.2.1 d (kk p e s m args below meth c C hr hk hn hs hE H locs ls hl hD hS)
theorem st_ldc_X6_99 (hex : ∀ A s, env A s → jx_ex G A s) (d : decode cc pc = .ok (.ldc 99, 2)) (kk : jx_J l env dyn rg sz RX6 nm cc nL ret R Qf ce sl (pc + 2) lv (.ref (G.2 1002) :: rest) x) : jx_J l env dyn rg sz RX6 nm cc nL ret R Qf ce sl pc lv rest x := by
  intro p e s m args below meth c C hr hk hn hs hE H locs ls hl hD hS
  exact va_ldcS C.1 C.2.1 C.2.2.2.1 (hex _ _ hE).1.2.2.2.2.2.2.2.2.1 d (kk p e s m args below meth c C hr hk hn hs hE H locs ls hl hD hS)
theorem st_ldc_X6_117 (hex : ∀ A s, env A s → jx_ex G A s) (d : decode cc pc = .ok (.ldc 117, 2)) (kk : jx_J l env dyn rg sz RX6 nm cc nL ret R Qf ce sl (pc + 2) lv (.ref (G.2 1004) :: rest) x) : jx_J l env dyn rg sz RX6 nm cc nL ret R Qf ce sl pc lv rest x := by
  intro p e s m args below meth c C hr hk hn hs hE H locs ls hl hD hS
  exact va_ldcS C.1 C.2.1 C.2.2.2.1 (hex _ _ hE).1.2.2.2.2.2.2.2.2.2.1 d (kk p e s m args below meth c C hr hk hn hs hE H locs ls hl hD hS)
theorem st_ldc_X6_119 (hex : ∀ A s, env A s → jx_ex G A s) (d : decode cc pc = .ok (.ldc 119, 2)) (kk : jx_J l env dyn rg sz RX6 nm cc nL ret R Qf ce sl (pc + 2) lv (.ref (G.2 1005) :: rest) x) : jx_J l env dyn rg sz RX6 nm cc nL ret R Qf ce sl pc lv rest x := by
  intro p e s m args below meth c C hr hk hn hs hE H locs ls hl hD hS
  exact va_ldcS C.1 C.2.1 C.2.2.2.1 (hex _ _ hE).1.2.2.2.2.2.2.2.2.2.2.1 d (kk p e s m args below meth c C hr hk hn hs hE H locs ls hl hD hS)
theorem st_ldc_X6_124 (hex : ∀ A s, env A s → jx_ex G A s) (d : decode cc pc = .ok (.ldc 124, 2)) (kk : jx_J l env dyn rg sz RX6 nm cc nL ret R Qf ce sl (pc + 2) lv (.ref (G.2 1006) :: rest) x) : jx_J l env dyn rg sz RX6 nm cc nL ret R Qf ce sl pc lv rest x := by
  intro p e s m args below meth c C hr hk hn hs hE H locs ls hl hD hS
  exact va_ldcS C.1 C.2.1 C.2.2.2.1 (hex _ _ hE).1.2.2.2.2.2.2.2.2.2.2.2 d (kk p e s m args below meth c C hr hk hn hs hE H locs ls hl hD hS)
theorem st_value (hex : ∀ A s, env A s → jx_ex G A s) {i index : Nat} (hi : i < 7) (hw : Cond.fieldLink own index "java/lang/String" "value" "[B" ∈ jx_ws) (d : decode cc pc = .ok (.getfield index, 3)) (kk : jx_J l env dyn rg sz own nm cc nL ret R Qf ce sl (pc + 3) lv (.ref (G.2 (1100 + i)) :: rest) x) : jx_J l env dyn rg sz own nm cc nL ret R Qf ce sl pc lv (.ref (G.2 (1000 + i)) :: rest) x := by
  intro p e s m args below meth c C hr hk hn hs hE H locs ls hl hD hS
  exact vk_getf C.1 C.2.1 ((hex _ _ hE).1.1.1 i hi).2.2.1 hS C.2.2.2.1 (C.2.2.2.2 _ hw) (fun _ h => h) d (kk p e s m args below meth c C hr hk hn hs hE H locs ls hl hD hS)
theorem st_coder (hex : ∀ A s, env A s → jx_ex G A s) {i index : Nat} (hi : i < 7) (hw : Cond.fieldLink own index "java/lang/String" "coder" "B" ∈ jx_ws) (d : decode cc pc = .ok (.getfield index, 3)) (kk : jx_J l env dyn rg sz own nm cc nL ret R Qf ce sl (pc + 3) lv (.int (0 : Int32) :: rest) x) : jx_J l env dyn rg sz own nm cc nL ret R Qf ce sl pc lv (.ref (G.2 (1000 + i)) :: rest) x := by
  intro p e s m args below meth c C hr hk hn hs hE H locs ls hl hD hS
  exact vk_getf C.1 C.2.1 ((hex _ _ hE).1.1.1 i hi).2.1 hS C.2.2.2.1 (C.2.2.2.2 _ hw) (fun _ h => h) d (kk p e s m args below meth c C hr hk hn hs hE H locs ls hl hD hS)
theorem st_cs (hex : ∀ A s, env A s → jx_ex G A s) {index : Nat} (hw : Cond.fieldLink own index "java/lang/String" "COMPACT_STRINGS" "Z" ∈ jx_ws) (d : decode cc pc = .ok (.getstatic index, 3)) (kk : jx_J l env dyn rg sz own nm cc nL ret R Qf ce sl (pc + 3) lv (.int (1 : Int32) :: rest) x) : jx_J l env dyn rg sz own nm cc nL ret R Qf ce sl pc lv rest x := by
  intro p e s m args below meth c C hr hk hn hs hE H locs ls hl hD hS
  exact va_gets C.1 C.2.1 (hex _ _ hE).1.2.1 hS C.2.2.2.1 (C.2.2.2.2 _ hw) (fun _ h => h) d (kk p e s m args below meth c C hr hk hn hs hE H locs ls hl hD hS)
theorem st_fv (hex : ∀ A s, env A s → jx_ex G A s) {index : Nat} (hw : Cond.fieldLink own index "jdk/internal/util/Preconditions" "SIOOBE_FORMATTER" "Ljava/util/function/BiFunction;" ∈ jx_ws) (d : decode cc pc = .ok (.getstatic index, 3)) (kk : jx_J l env dyn rg sz own nm cc nL ret R Qf ce sl (pc + 3) lv (jx_fv G :: rest) x) : jx_J l env dyn rg sz own nm cc nL ret R Qf ce sl pc lv rest x := by
  intro p e s m args below meth c C hr hk hn hs hE H locs ls hl hD hS
  exact va_gets C.1 C.2.1 (hex _ _ hE).1.2.2.1 hS C.2.2.2.1 (C.2.2.2.2 _ hw) (fun _ h => h) d (kk p e s m args below meth c C hr hk hn hs hE H locs ls hl hD hS)
theorem st_bl (hex : ∀ A s, env A s → jx_ex G A s) {i k : Nat} {j : Int32} (hi : i < 7) (hin : vp_in j (st_len i)) (hj : j.toNatClampNeg = k) (d : decode cc pc = .ok (.baload, 1)) (kk : jx_J l env dyn rg sz own nm cc nL ret R Qf ce sl (pc + 1) lv (.int (st_b i k) :: rest) x) : jx_J l env dyn rg sz own nm cc nL ret R Qf ce sl pc lv (.int j :: .ref (G.2 (1100 + i)) :: rest) x := by
  subst hj
  intro p e s m args below meth c C hr hk hn hs hE H locs ls hl hD hS
  exact va_tb C.1 C.2.1 ((hex _ _ hE).1.1.1 i hi).2.2.2 hS hin rfl d (kk p e s m args below meth c C hr hk hn hs hE H locs ls hl hD hS)
theorem st_bn (hex : ∀ A s, env A s → jx_ex G A s) {i : Nat} (hi : i < 7) (d : decode cc pc = .ok (.arraylength, 1)) (kk : jx_J l env dyn rg sz own nm cc nL ret R Qf ce sl (pc + 1) lv (.int (Int32.ofNat (st_len i)) :: rest) x) : jx_J l env dyn rg sz own nm cc nL ret R Qf ce sl pc lv (.ref (G.2 (1100 + i)) :: rest) x := by
  intro p e s m args below meth c C hr hk hn hs hE H locs ls hl hD hS
  exact va_tlen C.1 C.2.1 ((hex _ _ hE).1.1.1 i hi).2.2.2 hS rfl d (kk p e s m args below meth c C hr hk hn hs hE H locs ls hl hD hS)
theorem st_rc (hex : ∀ A s, env A s → jx_ex G A s) {i : Nat} (hi : i < 7) : jx_rc env dyn rg (G.2 (1000 + i)) "java/lang/String" := fun _ _ _ _ _ hE _ hS => vk_recv (adK := fun i => G.2 (1000 + i)) (i := i) (hex _ _ hE).1.1 hi hS
end ST
