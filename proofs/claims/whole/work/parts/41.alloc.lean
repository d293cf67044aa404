/-! bodies that make cells: the state is the list of the cells -/
def je_rg (w0 : va_W) : Nat → Prop := fun q => ∃ (k : Nat) (e : va_E), w0[k]? = some (q, e)
def je_env (G : jx_G) (b : va_W) (A : Nat → Prop) (s : State) : Prop := va_K G.1 vwCl (je_tys G) s ∧ va_AOA .int s ∧ je_nw s ∧ va_P G.1 vwCl b s.heap ∧ ∀ (k : Nat) (q : Nat × va_E), b[k]? = some q → ¬ A q.1
def je_dyn (G : jx_G) (w0 : va_W) (sz : Nat) (x : va_W) (H : Heap) : Prop := va_P G.1 vwCl x H ∧ va_D (jx_A (je_rg w0) sz) x
def je_Qv (G : jx_G) (w0 : va_W) (sz : Nat) (sh : va_W → Prop) : Array Value → State → Outcome → State → Prop := va_Qv sh (fun x t => je_dyn G w0 sz x t.heap) (jx_A (je_rg w0) sz)
def je_Qr (G : jx_G) (w0 : va_W) (sz : Nat) (sh : va_W → Nat → Prop) : Array Value → State → Outcome → State → Prop := va_Qr (fun _ : va_W => True) (fun x a t => sh x a ∧ je_dyn G w0 sz x t.heap) (jx_A (je_rg w0) sz)
theorem je_ci {G : jx_G} {U : State} {cA : ClassId} (hK : va_K G.1 vwCl (je_tys G ++ [(cA, .int)]) U) : cA = G.2 0 := by
  have h1 : U.vm.findClass ("[" ++ (FieldType.toString .int)) = some cA := (hK.2 3 (cA, .int) rfl).2
  have h2 : U.vm.findClass ("[" ++ (FieldType.toString .int)) = some (G.2 0) := (hK.2 0 (G.2 0, .int) rfl).2
  exact Option.some.inj (h1.symm.trans h2)
theorem je_cz {G : jx_G} {U : State} {cA : ClassId} (hK : va_K G.1 vwCl (je_tys G ++ [(cA, .boolean)]) U) : cA = G.2 1 := by
  have h1 : U.vm.findClass ("[" ++ (FieldType.toString .boolean)) = some cA := (hK.2 3 (cA, .boolean) rfl).2
  have h2 : U.vm.findClass ("[" ++ (FieldType.toString .boolean)) = some (G.2 1) := (hK.2 1 (G.2 1, .boolean) rfl).2
  exact Option.some.inj (h1.symm.trans h2)
theorem je_ca {G : jx_G} {U : State} {cA : ClassId} (hK : va_K G.1 vwCl (je_tys G ++ [(cA, (.array .int))]) U) : cA = G.2 2 := by
  have h1 : U.vm.findClass ("[" ++ (FieldType.toString (.array .int))) = some cA := (hK.2 3 (cA, (.array .int)) rfl).2
  have h2 : U.vm.findClass ("[" ++ (FieldType.toString (.array .int))) = some (G.2 2) := (hK.2 2 (G.2 2, (.array .int)) rfl).2
  exact Option.some.inj (h1.symm.trans h2)
section JE
variable {l : Launch} {G : jx_G} {b w0 x x2 : va_W} {sz : Nat} {own nm : String} {cc : ByteArray} {nL : Nat} {ret : Option FieldType} {R : Room} {Qf : List Frame → Array Value → State → State → Prop} {ce sl pc : Nat} {lv : List (Nat × Value)} {rest st : List Value}
theorem je_sub (is : List Nat) (hnd : va_nd is = true) (hx : is.map (fun i => x[i]?) = x2.map some) (kk : jx_J l (je_env G b) (je_dyn G w0 sz) (je_rg w0) sz own nm cc nL ret R Qf ce sl pc lv st x2) : jx_J l (je_env G b) (je_dyn G w0 sz) (je_rg w0) sz own nm cc nL ret R Qf ce sl pc lv st x := by
  intro p e s m args below meth c C hr hk hn hs hE H locs ls hl hD hS
  have hf : is.filterMap (fun i => x[i]?) = x2 := by
    have h1 : is.filterMap (fun i => x[i]?) = (is.map (fun i => x[i]?)).filterMap id := by rw [List.filterMap_map]; rfl
    rw [h1, hx, List.filterMap_map]
    exact List.filterMap_some
  exact kk p e s m args below meth c C hr hk hn hs hE H locs ls hl ⟨hD.1.sub is hf, hD.2.sub is hnd hx⟩ hS
theorem je_new {C0 : String} {T : u_T} {N ci index : Nat} {fs : List Value} (hin : ∀ w ∈ u_ws C0 T N, w ∈ jx_ws) (ty : Nat → FieldType) (hty : ∀ k, k < N → parseFieldDescriptor (T k).2.2.1 = some (ty k)) (h1 : Cond.classLink own index C0 ∈ jx_ws) (h2 : Cond.instantiable C0 N ∈ jx_ws) (h3 : Cond.initialized C0 ∈ jx_ws) (hc : vwCl[ci]? = some (C0, T, N)) (hfs : ∀ j, j < N → defaultValue (ty j) = vp_V fs j) (hce : ce + 1 ≤ R.cells) (hsl : sl + N ≤ R.slots) (d : decode cc pc = .ok (.new index, 3)) (kk : ∀ q : Nat, jx_J l (je_env G b) (je_dyn G w0 sz) (je_rg w0) sz own nm cc nL ret R Qf (ce + 1) (sl + N) (pc + 3) lv (.ref q :: rest) (x ++ [(q, .inr (ci, fs))])) : jx_J l (je_env G b) (je_dyn G w0 sz) (je_rg w0) sz own nm cc nL ret R Qf ce sl pc lv rest x := by
  intro p e s m args below meth c C hr hk hn hs hE H locs ls hl hD hS
  exact va_new C.1 C.2.1 C.2.2.2.2 hin ty hty C.2.2.2.1 (C.2.2.2.2 _ h1) (C.2.2.2.2 _ h2) (C.2.2.2.2 _ h3) hE.1 hD.1 hD.2 hS (fun q h => Or.inr (by rw [← hs]; exact h)) hc hfs hce hsl d (fun q H1 hP1 hD1 hS1 => kk q p e s m args below meth c C hr hk hn hs hE H1 locs ls hl ⟨hP1, hD1⟩ hS1)
theorem je_newi {n : Int32} {N : Nat} (hn0 : ¬ n < 0) (hN : n.toNatClampNeg = N) (hb : N ≤ 1000) (hce : ce + 1 ≤ R.cells) (hsl : sl + N ≤ R.slots) (d : decode cc pc = .ok (.newarray .int, 2)) (kk : ∀ q : Nat, jx_J l (je_env G b) (je_dyn G w0 sz) (je_rg w0) sz own nm cc nL ret R Qf (ce + 1) (sl + N) (pc + 2) lv (.ref q :: rest) (x ++ [(q, .inl (G.2 0, N, .inl (fun _ => 0)))])) : jx_J l (je_env G b) (je_dyn G w0 sz) (je_rg w0) sz own nm cc nL ret R Qf ce sl pc lv (.int n :: rest) x := by
  intro p e s m args below meth c C hr hk hn hs hE H locs ls hl hD hS
  exact va_newa (atype := .int) (ty := .int) (a0 := (N, .inl (fun _ => 0))) C.1 C.2.1 (C.2.2.2.2 _ (jx_t1 (List.mem_of_getElem? (i := 52) rfl) rfl)) rfl hE.1 hD.1 hD.2 hS (fun q h => Or.inr (by rw [← hs]; exact h)) (fun _ => rfl) hn0 hN (by show N * _ ≤ _; simp only [componentBytes]; omega) hce hsl d (fun q cA H1 hK1 hP1 hD1 hS1 => by
    have e0 := je_ci hK1
    subst e0
    exact kk q p e s m args below meth c C hr hk hn hs hE H1 locs ls hl ⟨hP1, hD1⟩ hS1)
theorem je_newz {n : Int32} {N : Nat} (hn0 : ¬ n < 0) (hN : n.toNatClampNeg = N) (hb : N ≤ 1000) (hce : ce + 1 ≤ R.cells) (hsl : sl + N ≤ R.slots) (d : decode cc pc = .ok (.newarray .boolean, 2)) (kk : ∀ q : Nat, jx_J l (je_env G b) (je_dyn G w0 sz) (je_rg w0) sz own nm cc nL ret R Qf (ce + 1) (sl + N) (pc + 2) lv (.ref q :: rest) (x ++ [(q, .inl (G.2 1, N, .inl (fun _ => 0)))])) : jx_J l (je_env G b) (je_dyn G w0 sz) (je_rg w0) sz own nm cc nL ret R Qf ce sl pc lv (.int n :: rest) x := by
  intro p e s m args below meth c C hr hk hn hs hE H locs ls hl hD hS
  exact va_newa (atype := .boolean) (ty := .boolean) (a0 := (N, .inl (fun _ => 0))) C.1 C.2.1 (C.2.2.2.2 _ (jx_t4 (List.mem_of_getElem? (i := 222) rfl) rfl)) rfl hE.1 hD.1 hD.2 hS (fun q h => Or.inr (by rw [← hs]; exact h)) (fun _ => rfl) hn0 hN (by show N * _ ≤ _; simp only [componentBytes]; omega) hce hsl d (fun q cA H1 hK1 hP1 hD1 hS1 => by
    have e0 := je_cz hK1
    subst e0
    exact kk q p e s m args below meth c C hr hk hn hs hE H1 locs ls hl ⟨hP1, hD1⟩ hS1)
theorem je_get {C0 ref : String} {T : u_T} {N ci index a : Nat} {fs : List Value} {v : Value} (q0 k : Nat) (hin : ∀ w ∈ u_ws C0 T N, w ∈ jx_ws) (he : x[q0]? = some (a, .inr (ci, fs))) (hc : vwCl[ci]? = some (C0, T, N)) (hk0 : k < N) (href : ref = (T k).1) (hw : Cond.fieldLink own index ref (T k).2.1 (T k).2.2.1 ∈ jx_ws) (hv : fs[k]? = some v) (d : decode cc pc = .ok (.getfield index, 3)) (kk : jx_J l (je_env G b) (je_dyn G w0 sz) (je_rg w0) sz own nm cc nL ret R Qf ce sl (pc + 3) lv (v :: rest) x) : jx_J l (je_env G b) (je_dyn G w0 sz) (je_rg w0) sz own nm cc nL ret R Qf ce sl pc lv (.ref a :: rest) x := by
  subst href
  intro p e s m args below meth c C hr hk hn hs hE H locs ls hl hD hS
  exact va_get C.1 C.2.1 C.2.2.2.2 hin C.2.2.2.1 hE.1 hD.1 q0 he hc k hk0 (C.2.2.2.2 _ hw) (fun _ h => h) hv d (kk p e s m args below meth c C hr hk hn hs hE H locs ls hl hD hS)
theorem je_put {C0 ref : String} {T : u_T} {N ci index a : Nat} {fs : List Value} {v : Value} {ty : FieldType} (q0 k : Nat) (hin : ∀ w ∈ u_ws C0 T N, w ∈ jx_ws) (ty0 : Nat → FieldType) (hty : ∀ k, k < N → parseFieldDescriptor (T k).2.2.1 = some (ty0 k)) (hnm : ∀ a, a < N → ∀ b, b < N → a ≠ b → (T a).2.1 ≠ (T b).2.1) (he : x[q0]? = some (a, .inr (ci, fs))) (hc : vwCl[ci]? = some (C0, T, N)) (hk0 : k < N) (href : ref = (T k).1) (hw : Cond.fieldLink own index ref (T k).2.1 (T k).2.2.1 ∈ jx_ws) (hfin : (T k).2.2.2 = false) (hd : parseFieldDescriptor (T k).2.2.1 = some ty) (hnr : narrow ty v = v) (hfit : fits ty v = true) (hlen : k < fs.length) (hx2 : x.set q0 (a, .inr (ci, fs.set k v)) = x2) (d : decode cc pc = .ok (.putfield index, 3)) (kk : jx_J l (je_env G b) (je_dyn G w0 sz) (je_rg w0) sz own nm cc nL ret R Qf ce sl (pc + 3) lv rest x2) : jx_J l (je_env G b) (je_dyn G w0 sz) (je_rg w0) sz own nm cc nL ret R Qf ce sl pc lv (v :: .ref a :: rest) x := by
  subst href
  subst hx2
  intro p e s m args below meth c C hr hk hn hs hE H locs ls hl hD hS
  exact va_put C.1 C.2.1 C.2.2.2.2 hin ty0 hty hnm C.2.2.2.1 hE.1 hD.1 hD.2 hS q0 he hc k hk0 (C.2.2.2.2 _ hw) (fun _ h => h) hfin hd hnr hfit hlen d (fun H1 locs1 hP1 hD1 hS1 => kk p e s m args below meth c C hr hk hn hs hE H1 locs1 ls hl ⟨hP1, hD1⟩ hS1)
theorem je_putF {C0 ref : String} {T : u_T} {N ci index a : Nat} {fs : List Value} {v : Value} {ty : FieldType} (q0 k : Nat) (hin : ∀ w ∈ u_ws C0 T N, w ∈ jx_ws) (ty0 : Nat → FieldType) (hty : ∀ k, k < N → parseFieldDescriptor (T k).2.2.1 = some (ty0 k)) (hnm : ∀ a, a < N → ∀ b, b < N → a ≠ b → (T a).2.1 ≠ (T b).2.1) (he : x[q0]? = some (a, .inr (ci, fs))) (hc : vwCl[ci]? = some (C0, T, N)) (hk0 : k < N) (href : ref = (T k).1) (hw : Cond.fieldLink own index ref (T k).2.1 (T k).2.2.1 ∈ jx_ws) (hfin : (T k).2.2.2 = true) (hin2 : nm = "<init>") (hdecl : (T k).1 = own) (hd : parseFieldDescriptor (T k).2.2.1 = some ty) (hnr : narrow ty v = v) (hfit : fits ty v = true) (hlen : k < fs.length) (hx2 : x.set q0 (a, .inr (ci, fs.set k v)) = x2) (d : decode cc pc = .ok (.putfield index, 3)) (kk : jx_J l (je_env G b) (je_dyn G w0 sz) (je_rg w0) sz own nm cc nL ret R Qf ce sl (pc + 3) lv rest x2) : jx_J l (je_env G b) (je_dyn G w0 sz) (je_rg w0) sz own nm cc nL ret R Qf ce sl pc lv (v :: .ref a :: rest) x := by
  subst href
  subst hx2
  intro p e s m args below meth c C hr hk hn hs hE H locs ls hl hD hS
  exact va_putF C.1 C.2.1 C.2.2.2.2 hin ty0 hty hnm C.2.2.2.1 hE.1 hD.1 hD.2 hS q0 he hc k hk0 (C.2.2.2.2 _ hw) (fun _ h => h) hfin (hn.trans hin2) hdecl hd hnr hfit hlen d (fun H1 locs1 hP1 hD1 hS1 => kk p e s m args below meth c C hr hk hn hs hE H1 locs1 ls hl ⟨hP1, hD1⟩ hS1)
theorem je_iast {a n : Nat} {f : Nat → Int32} {i v : Int32} (q0 : Nat) (he : x[q0]? = some (a, .inl (G.2 0, n, .inl f))) (hin : vp_in i n) (hx2 : x.set q0 (a, .inl (G.2 0, n, .inl (upd f i.toNatClampNeg v))) = x2) (d : decode cc pc = .ok (.iastore, 1)) (kk : jx_J l (je_env G b) (je_dyn G w0 sz) (je_rg w0) sz own nm cc nL ret R Qf ce sl (pc + 1) lv rest x2) : jx_J l (je_env G b) (je_dyn G w0 sz) (je_rg w0) sz own nm cc nL ret R Qf ce sl pc lv (.int v :: .int i :: .ref a :: rest) x := by
  subst hx2
  intro p e s m args below meth c C hr hk hn hs hE H locs ls hl hD hS
  exact va_iast C.1 C.2.1 hE.1 hD.1 hD.2 hS q0 0 he rfl hin d (fun H1 locs1 hP1 hD1 hS1 => kk p e s m args below meth c C hr hk hn hs hE H1 locs1 ls hl ⟨hP1, hD1⟩ hS1)
theorem je_obj {idx : Nat} {a : Nat} (h1 : Cond.methodLink own idx objectInit ∈ jx_ws) (h2 : Cond.instanceMethod objectInit ∈ jx_ws) (h3 : Cond.code objectInit ⟨#[0xb1]⟩ 1 none ∈ jx_ws) (hf : 1 ≤ R.frames) (hlo : 20 ≤ R.locals) (hst : rest = []) (d : decode cc pc = .ok (.invokespecial idx, 3)) (kk : jx_J l (je_env G b) (je_dyn G w0 sz) (je_rg w0) sz own nm cc nL ret R Qf ce sl (pc + 3) lv rest x) : jx_J l (je_env G b) (je_dyn G w0 sz) (je_rg w0) sz own nm cc nL ret R Qf ce sl pc lv (.ref a :: rest) x := by
  subst hst
  intro p e s m args below meth c C hr hk hn hs hE H locs ls hl hD hS
  refine W.objInit C.1 C.2.1 C.2.2.2.1 (C.2.2.2.2 _ h1) (C.2.2.2.2 _ h2) (C.2.2.2.2 _ h3) rfl (by rw [C.2.2.1]; exact hl.1) rfl d (by omega) (by show _ ≤ R.locals; simp; omega) ?_
  exact W.eq (g2 := F0 m (pc + 3) ls []) rfl (kk p e s m args below meth c C hr hk hn hs hE H locs ls hl hD hS)
theorem je_widen {ce2 sl2 : Nat} (h1 : ce ≤ ce2) (h2 : sl ≤ sl2) (kk : jx_J l (je_env G b) (je_dyn G w0 sz) (je_rg w0) sz own nm cc nL ret R Qf ce2 sl2 pc lv st x) : jx_J l (je_env G b) (je_dyn G w0 sz) (je_rg w0) sz own nm cc nL ret R Qf ce sl pc lv st x := by
  intro p e s m args below meth c C hr hk hn hs hE H locs ls hl hD hS
  exact W.widen h1 h2 (kk p e s m args below meth c C hr hk hn hs hE H locs ls hl hD hS)
end JE
section JR
variable {l : Launch} {G : jx_G} {b w0 x x2 : va_W} {sz : Nat} {own nm : String} {cc : ByteArray} {nL : Nat} {ret : Option FieldType} {R : Room} {ce sl pc : Nat} {lv : List (Nat × Value)} {rest st : List Value}
theorem je_vret {sh : va_W → Prop} (hsh : sh x) (d : decode cc pc = .ok (.return_, 1)) : jx_J l (je_env G b) (je_dyn G w0 sz) (je_rg w0) sz own nm cc nL none R (fun below args s => MQ below (je_Qv G w0 sz sh) args s ce sl (jx_A (je_rg w0) sz)) ce sl pc lv [] x := by
  intro p e s m args below meth c C hr hk hn hs hE H locs ls hl hD hS
  exact W.vret C.1 C.2.1 hr (fun t ht hW => ⟨⟨x, rfl, hsh, (show je_dyn G w0 sz x t.heap by rw [ht]; exact hD)⟩, hS.F ht⟩) hS.2.2 d hk
theorem je_aret {sh : va_W → Nat → Prop} {rt : FieldType} {v : Nat} (hrt : (∃ n, rt = .object n) ∨ ∃ t, rt = .array t) (hsh : sh x v) (d : decode cc pc = .ok (.areturn, 1)) : jx_J l (je_env G b) (je_dyn G w0 sz) (je_rg w0) sz own nm cc nL (some rt) R (fun below args s => MQ below (je_Qr G w0 sz sh) args s ce sl (jx_A (je_rg w0) sz)) ce sl pc lv [.ref v] x := by
  intro p e s m args below meth c C hr hk hn hs hE H locs ls hl hD hS
  exact W.aret C.1 C.2.1 hr hrt (Or.inr ⟨_, rfl⟩) (fun t ht hW => ⟨⟨x, v, rfl, trivial, hsh, (show je_dyn G w0 sz x t.heap by rw [ht]; exact hD)⟩, hS.F ht⟩) hS.2.2 d hk
end JR
