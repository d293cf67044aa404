/-! the judgement of a method's body: at pc, with the locals lv, the stack st, the state x of the world -/
/-- all the tables' words that a callee may take over -/
def jx_ws : List Cond := lw_tbl.filter goodWord
theorem jx_good : ∀ w ∈ jx_ws, goodWord w = true := fun _ h => (List.mem_filter.mp h).2
theorem jx_tt {w : Cond} (h : w ∈ tables_1) (hg : goodWord w = true) : w ∈ jx_ws := List.mem_filter.mpr ⟨List.mem_append_right _ h, hg⟩
theorem jx_t1 {w : Cond} (h : w ∈ tables_1_1) (hg : goodWord w = true) : w ∈ jx_ws := jx_tt (List.mem_append_left _ h) hg
theorem jx_t2 {w : Cond} (h : w ∈ tables_1_2) (hg : goodWord w = true) : w ∈ jx_ws := jx_tt (List.mem_append_right _ (List.mem_append_left _ h)) hg
theorem jx_t3 {w : Cond} (h : w ∈ tables_1_3) (hg : goodWord w = true) : w ∈ jx_ws := jx_tt (List.mem_append_right _ (List.mem_append_right _ (List.mem_append_left _ h))) hg
theorem jx_t4 {w : Cond} (h : w ∈ tables_1_4) (hg : goodWord w = true) : w ∈ jx_ws := jx_tt (List.mem_append_right _ (List.mem_append_right _ (List.mem_append_right _ (List.mem_append_left _ h)))) hg
theorem jx_t5 {w : Cond} (h : w ∈ tables_1_5) (hg : goodWord w = true) : w ∈ jx_ws := jx_tt (List.mem_append_right _ (List.mem_append_right _ (List.mem_append_right _ (List.mem_append_right _ (List.mem_append_left _ h))))) hg
theorem jx_t6 {w : Cond} (h : w ∈ tables_1_6) (hg : goodWord w = true) : w ∈ jx_ws := jx_tt (List.mem_append_right _ (List.mem_append_right _ (List.mem_append_right _ (List.mem_append_right _ (List.mem_append_right _ h))))) hg
theorem jx_pv {q : MethodName × Nat} (h : q ∈ lw_privs) : Cond.selects q.1.cls q.1 q.1 ∈ jx_ws := List.mem_filter.mpr ⟨List.mem_append_left _ (List.mem_map.mpr ⟨q, h, rfl⟩), rfl⟩
theorem jx_p1 {q : MethodName × Nat} (h : q ∈ lw_privs_1) : q ∈ lw_privs := List.mem_append_left _ h
theorem jx_p2 {q : MethodName × Nat} (h : q ∈ lw_privs_2) : q ∈ lw_privs := List.mem_append_right _ (List.mem_append_left _ h)
theorem jx_p3 {q : MethodName × Nat} (h : q ∈ lw_privs_3) : q ∈ lw_privs := List.mem_append_right _ (List.mem_append_right _ (List.mem_append_left _ h))
theorem jx_p4 {q : MethodName × Nat} (h : q ∈ lw_privs_4) : q ∈ lw_privs := List.mem_append_right _ (List.mem_append_right _ (List.mem_append_right _ (List.mem_append_left _ h)))
theorem jx_p5 {q : MethodName × Nat} (h : q ∈ lw_privs_5) : q ∈ lw_privs := List.mem_append_right _ (List.mem_append_right _ (List.mem_append_right _ (List.mem_append_right _ h)))
def jx_A (rg : Nat → Prop) (sz : Nat) : Nat → Prop := fun q => rg q ∨ sz ≤ q
def jx_J (l : Launch) {X : Type} (env : (Nat → Prop) → State → Prop) (dyn : X → Heap → Prop) (rg : Nat → Prop) (sz : Nat) (own nm : String) (cc : ByteArray) (nL : Nat) (ret : Option FieldType) (R : Room) (Qf : List Frame → Array Value → State → State → Prop) (ce sl pc : Nat) (lv : List (Nat × Value)) (st : List Value) (x : X) : Prop :=
  ∀ (p : Program) (e : Env) (s : State) (m : MethodId) (args : Array Value) (below : List Frame) (meth : Method) (c : Code), CallFix p m c cc nL s args jx_ws own → meth.sig.returnType = ret → meth.locks = false → meth.name = nm → s.heap.size = sz → env (jx_A rg sz) s → ∀ (H : Heap) (locs : List Loc) (ls : Array Slot), lv_has ls nL lv → dyn x H → va_S (jx_A rg sz) s.heap H locs → W p l e R s m args below meth c H locs ce sl (Qf below args s) (F0 m pc ls st)
def jx_g : List (Nat × Value) → Nat → Option Value
  | [], _ => none
  | q :: r, i => cond (Nat.beq q.1 i) (some q.2) (jx_g r i)
theorem jx_g_has {ls : Array Slot} {n : Nat} {i : Nat} {v : Value} : ∀ {l : List (Nat × Value)}, (∀ q ∈ l, ls[q.1]? = some (.val q.2)) → jx_g l i = some v → ls[i]? = some (.val v)
  | [], _, h => by cases h
  | q :: r, hh, h => by
    unfold jx_g at h
    cases hb : Nat.beq q.1 i with
    | true =>
      rw [hb] at h
      cases h
      have e := Nat.eq_of_beq_eq_true hb
      subst e
      exact hh q List.mem_cons_self
    | false =>
      rw [hb] at h
      exact jx_g_has (n := n) (fun z hz => hh z (List.mem_cons_of_mem _ hz)) h
theorem jx_g_at {v : Value} {i : Nat} : ∀ {l : List (Nat × Value)}, jx_g l i = some v → ∃ k : Nat, l[k]? = some (i, v)
  | [], h => by cases h
  | q :: r, h => by
    unfold jx_g at h
    cases hb : Nat.beq q.1 i with
    | true =>
      rw [hb] at h
      cases h
      have e := Nat.eq_of_beq_eq_true hb
      subst e
      exact ⟨0, rfl⟩
    | false =>
      rw [hb] at h
      obtain ⟨k, hk⟩ := jx_g_at h
      exact ⟨k + 1, hk⟩
def jx_lt {α β : Type} (e : α) (k : α → β) : β := k e
theorem jx_lt_o {α β : Type} {e : α} {k : α → β} {o : β} (h : jx_lt e k = o) : ∃ x, x = e ∧ k x = o := ⟨e, rfl, h⟩
def jx_in (i : Int32) (n : Nat) : Bool := decide (¬ (i < 0 ∨ n ≤ i.toNatClampNeg))
def jx_gd {α : Type} (b : Bool) (k : Option α) : Option α := if b = true then k else none
theorem jx_gd_o {α : Type} {b : Bool} {k : Option α} {o : α} (h : jx_gd b k = some o) : b = true ∧ k = some o := by
  unfold jx_gd at h
  by_cases hb : b = true
  · rw [if_pos hb] at h
    exact ⟨hb, h⟩
  · rw [if_neg hb] at h
    cases h
theorem jx_in_o {i : Int32} {n : Nat} (h : jx_in i n = true) : vp_in i n := (of_decide_eq_true h : ¬ (i < 0 ∨ n ≤ i.toNatClampNeg))
def jx_bd {α β : Type} (a : Option α) (k : α → Option β) : Option β := match a with
  | none => none
  | some x => k x
theorem jx_bd_o {α β : Type} {a : Option α} {k : α → Option β} {o : β} (h : jx_bd a k = some o) : ∃ x, a = some x ∧ k x = some o := by
  cases a with
  | none => cases h
  | some x => exact ⟨x, rfl, h⟩
theorem jx_t {α : Type} {c : Prop} {dc : Decidable c} {a b o : α} (hc : c) (h : @ite α c dc a b = o) : a = o := (if_pos hc).symm.trans h
theorem jx_f {α : Type} {c : Prop} {dc : Decidable c} {a b o : α} (hc : ¬ c) (h : @ite α c dc a b = o) : b = o := (if_neg hc).symm.trans h
abbrev jx_M : Type := Nat → Nat → Int32
def jx_mu (σ : jx_M) (a i : Nat) (v : Int32) : jx_M := fun b => if b = a then upd (σ a) i v else σ b
def jx_fuel : Nat := 1000
def jx_nb (x : Int32) : Int32 := vp_nar .boolean x
def jx_Pc {X : Type} (env : (Nat → Prop) → State → Prop) (dyn : X → Heap → Prop) (rg : Nat → Prop) (sz : Nat) (x : X) (av : List Value) : Array Value → State → Prop := va_Pc av (fun U => U.heap.size = sz ∧ env (jx_A rg sz) U ∧ dyn x U.heap)
def jx_Qi {X : Type} (dyn : X → Heap → Prop) (x : X) (v : Int32) (A : Nat → Prop) : Array Value → State → Outcome → State → Prop := va_Qi (fun r (_ : Unit) => r = v) (fun _ t => dyn x t.heap) A
def jx_Ql {X : Type} (dyn : X → Heap → Prop) (x : X) (v : Int64) (A : Nat → Prop) : Array Value → State → Outcome → State → Prop := va_Ql (fun r (_ : Unit) => r = v) (fun _ t => dyn x t.heap) A
def jx_Qv {X : Type} (dyn : X → Heap → Prop) (x : X) (A : Nat → Prop) : Array Value → State → Outcome → State → Prop := va_Qv (fun (_ : Unit) => True) (fun _ t => dyn x t.heap) A
def jx_Qr {X : Type} (dyn : X → Heap → Prop) (x : X) (v : Nat) (A : Nat → Prop) : Array Value → State → Outcome → State → Prop := va_Qr (fun (_ : Unit) => True) (fun _ a t => a = v ∧ dyn x t.heap) A
def jx_ok (rg : Nat → Prop) (env : (Nat → Prop) → State → Prop) : Prop :=
  (∀ (A : Nat → Prop) (U : State) (g : JFrame) (mk : MethodId) (a : Array Value), env A U → env A (U.calling g mk a)) ∧ ∀ (sz : Nat) (s U : State) (H : Heap) (locs : List Loc), s.heap.size = sz → env (jx_A rg sz) s → va_S (jx_A rg sz) s.heap H locs → U.heap = H → s.WarmedH U.vm → env (jx_A rg H.size) U
theorem jx_nbv {v : Int32} (h : v = 0 ∨ v = 1) : jx_nb v = v := by rcases h with rfl | rfl <;> decide +kernel
theorem jx_narc {v : Int32} (h : vp_nar .char v = v) : narrow .char (.int v) = .int v := congrArg Value.int h
theorem jx_nar {v : Int32} (h : v = 0 ∨ v = 1) : narrow .boolean (.int v) = .int v := congrArg Value.int (jx_nbv h)
theorem jx_fit {v : Int32} (h : v = 0 ∨ v = 1) : fits .boolean (.int v) = true := by rcases h with rfl | rfl <;> decide +kernel
abbrev jx_kD (y : MethodName) (n : Nat) : Prop := y.cls ≠ "java/lang/invoke/MethodHandle" ∧ y.cls ≠ "java/lang/invoke/VarHandle" ∧ (parseMethodDescriptor y.desc).map (fun d => d.parameters.length) = some n
def jx_kV (own : String) (index : Nat) (Cn : String) (y : MethodName) (bytes : ByteArray) (maxL : Nat) (ret2 : Option FieldType) (n : Nat) : Prop := Cond.methodLink own index y ∈ jx_ws ∧ Cond.instanceMethod y ∈ jx_ws ∧ Cond.selects Cn y y ∈ jx_ws ∧ Cond.initialized Cn ∈ jx_ws ∧ Cond.code y bytes maxL ret2 ∈ jx_ws ∧ y.cls = Cn ∧ jx_kD y n
def jx_kS (own : String) (index : Nat) (y : MethodName) (bytes : ByteArray) (maxL : Nat) (ret2 : Option FieldType) (n : Nat) : Prop := Cond.methodLink own index y ∈ jx_ws ∧ Cond.static y ∈ jx_ws ∧ Cond.initialized y.cls ∈ jx_ws ∧ Cond.code y bytes maxL ret2 ∈ jx_ws ∧ jx_kD y n
theorem jx_goodV {own Cn : String} {index n maxL : Nat} {y : MethodName} {bytes : ByteArray} {ret2 : Option FieldType} (h : jx_kV own index Cn y bytes maxL ret2 n) : GoodIn jx_ws (wsV own index Cn y (Cond.code y bytes maxL ret2 :: jx_ws)) := by
  intro w hw
  have hm : w ∈ jx_ws := by
    unfold wsV at hw
    obtain ⟨h1, h2, h3, h4, h5, -⟩ := h
    rcases List.mem_append.mp hw with q | q
    · rcases List.mem_cons.mp q with rfl | q
      · exact h1
      rcases List.mem_cons.mp q with rfl | q
      · exact h2
      rcases List.mem_cons.mp q with rfl | q
      · exact h3
      rcases List.mem_cons.mp q with rfl | q
      · exact h4
      · cases q
    · rcases List.mem_cons.mp q with rfl | q
      · exact h5
      · exact q
  exact ⟨hm, good_of_word (jx_good w hm)⟩
theorem jx_goodS {own : String} {index n maxL : Nat} {y : MethodName} {bytes : ByteArray} {ret2 : Option FieldType} (h : jx_kS own index y bytes maxL ret2 n) : GoodIn jx_ws (va_wsS own index y (Cond.code y bytes maxL ret2 :: jx_ws)) := by
  intro w hw
  have hm : w ∈ jx_ws := by
    unfold va_wsS at hw
    obtain ⟨h1, h2, h3, h4, -⟩ := h
    rcases List.mem_append.mp hw with q | q
    · rcases List.mem_cons.mp q with rfl | q
      · exact h1
      rcases List.mem_cons.mp q with rfl | q
      · exact h2
      rcases List.mem_cons.mp q with rfl | q
      · exact h3
      · cases q
    · rcases List.mem_cons.mp q with rfl | q
      · exact h4
      · exact q
  exact ⟨hm, good_of_word (jx_good w hm)⟩
def jx_rc {X : Type} (env : (Nat → Prop) → State → Prop) (dyn : X → Heap → Prop) (rg : Nat → Prop) (b : Nat) (Cn : String) : Prop := ∀ (sz : Nat) (s : State) (x : X) (H : Heap) (locs : List Loc), env (jx_A rg sz) s → dyn x H → va_S (jx_A rg sz) s.heap H locs → ∃ cell : Cell, H[b]? = some cell ∧ cell.vm.isStatics = false ∧ s.vm.findClass Cn = some cell.cls
def jx_rm (rm R : Room) (maxL ce sl : Nat) : Prop := (rm.cells = 0 ∧ rm.slots = 0) ∧ (rm.frames + 1 ≤ R.frames ∧ 8 + (maxL + 11) + rm.locals ≤ R.locals) ∧ ce ≤ R.cells ∧ sl ≤ R.slots
section JX
variable {l : Launch} {X : Type} {env : (Nat → Prop) → State → Prop} {dyn : X → Heap → Prop} {rg : Nat → Prop} {sz : Nat} {own nm : String} {cc : ByteArray} {nL : Nat} {ret : Option FieldType} {R : Room} {Qf : List Frame → Array Value → State → State → Prop} {ce sl pc : Nat} {lv lv' : List (Nat × Value)} {st rest : List Value} {x : X}
theorem jx_met {y : MethodName} {rm : Room} {Qc : Array Value → State → Outcome → State → Prop} {mc ms : Nat} {av : List Value} (hy : plainName y.cls = true) (hn : (lg_sl av).length ≤ nL)
    (body : jx_J l env dyn rg sz y.cls y.name cc nL ret rm (fun below args s => MQ below Qc args s mc ms (jx_A rg sz)) 0 0 0 (lv_args 0 av) [] x) :
    Met l y (Cond.code y cc nL ret :: jx_ws) rm (jx_Pc env dyn rg sz x av) Qc mc ms (jx_A rg sz) := by
  refine Met.ofW (cc := cc) (maxL := nL) (ret := ret) hy rfl ?_
  intro p e s m args below meth c s₁ B hml hv
  obtain ⟨rfl, hsz, hE, hD⟩ := hv
  rw [lg_entry_eq]
  exact body p e s m _ below meth c ⟨B.exec, B.bytes, hml, findClass_of_methodNamed B.named, fun w h => atoms_spec (ws := Cond.code y cc nL ret :: jx_ws) B.pre w (List.mem_cons_of_mem _ h)⟩ B.returns B.notSynchronized (name_of_methodNamed B.named B.method).1 hsz hE s.heap [] _ (lv_entry av hn) hD va_S.rf
theorem jx_sub (ks : List Nat) (hl : lv_pick lv ks = lv') (k : jx_J l env dyn rg sz own nm cc nL ret R Qf ce sl pc lv' st x) : jx_J l env dyn rg sz own nm cc nL ret R Qf ce sl pc lv st x := by
  intro p e s m args below meth c C hr hk hn hs hE H locs ls hl2 hD hS
  exact k p e s m args below meth c C hr hk hn hs hE H locs ls (lv_sub hl2 ks hl) hD hS
theorem jx_iadd {x1 x2 : Int32} (d : decode cc pc = .ok (.iadd, 1)) (k : jx_J l env dyn rg sz own nm cc nL ret R Qf ce sl (pc + 1) lv (.int (x1 + x2) :: rest) x) : jx_J l env dyn rg sz own nm cc nL ret R Qf ce sl pc lv (.int x2 :: .int x1 :: rest) x := by
  intro p e s m args below meth c C hr hk hn hs hE H locs ls hl hD hS
  exact lv_iadd C.1 C.2.1 d (k p e s m args below meth c C hr hk hn hs hE H locs ls hl hD hS)
theorem jx_isub {x1 x2 : Int32} (d : decode cc pc = .ok (.isub, 1)) (k : jx_J l env dyn rg sz own nm cc nL ret R Qf ce sl (pc + 1) lv (.int (x1 - x2) :: rest) x) : jx_J l env dyn rg sz own nm cc nL ret R Qf ce sl pc lv (.int x2 :: .int x1 :: rest) x := by
  intro p e s m args below meth c C hr hk hn hs hE H locs ls hl hD hS
  exact lv_isub C.1 C.2.1 d (k p e s m args below meth c C hr hk hn hs hE H locs ls hl hD hS)
theorem jx_imul {x1 x2 : Int32} (d : decode cc pc = .ok (.imul, 1)) (k : jx_J l env dyn rg sz own nm cc nL ret R Qf ce sl (pc + 1) lv (.int (x1 * x2) :: rest) x) : jx_J l env dyn rg sz own nm cc nL ret R Qf ce sl pc lv (.int x2 :: .int x1 :: rest) x := by
  intro p e s m args below meth c C hr hk hn hs hE H locs ls hl hD hS
  exact lv_imul C.1 C.2.1 d (k p e s m args below meth c C hr hk hn hs hE H locs ls hl hD hS)
theorem jx_iand {x1 x2 : Int32} (d : decode cc pc = .ok (.iand, 1)) (k : jx_J l env dyn rg sz own nm cc nL ret R Qf ce sl (pc + 1) lv (.int (x1 &&& x2) :: rest) x) : jx_J l env dyn rg sz own nm cc nL ret R Qf ce sl pc lv (.int x2 :: .int x1 :: rest) x := by
  intro p e s m args below meth c C hr hk hn hs hE H locs ls hl hD hS
  exact lv_iand C.1 C.2.1 d (k p e s m args below meth c C hr hk hn hs hE H locs ls hl hD hS)
theorem jx_ior {x1 x2 : Int32} (d : decode cc pc = .ok (.ior, 1)) (k : jx_J l env dyn rg sz own nm cc nL ret R Qf ce sl (pc + 1) lv (.int (x1 ||| x2) :: rest) x) : jx_J l env dyn rg sz own nm cc nL ret R Qf ce sl pc lv (.int x2 :: .int x1 :: rest) x := by
  intro p e s m args below meth c C hr hk hn hs hE H locs ls hl hD hS
  exact lv_ior C.1 C.2.1 d (k p e s m args below meth c C hr hk hn hs hE H locs ls hl hD hS)
theorem jx_ixor {x1 x2 : Int32} (d : decode cc pc = .ok (.ixor, 1)) (k : jx_J l env dyn rg sz own nm cc nL ret R Qf ce sl (pc + 1) lv (.int (x1 ^^^ x2) :: rest) x) : jx_J l env dyn rg sz own nm cc nL ret R Qf ce sl pc lv (.int x2 :: .int x1 :: rest) x := by
  intro p e s m args below meth c C hr hk hn hs hE H locs ls hl hD hS
  exact lv_ixor C.1 C.2.1 d (k p e s m args below meth c C hr hk hn hs hE H locs ls hl hD hS)
theorem jx_ishl {x1 x2 : Int32} (d : decode cc pc = .ok (.ishl, 1)) (k : jx_J l env dyn rg sz own nm cc nL ret R Qf ce sl (pc + 1) lv (.int (x1 <<< (x2 &&& 31)) :: rest) x) : jx_J l env dyn rg sz own nm cc nL ret R Qf ce sl pc lv (.int x2 :: .int x1 :: rest) x := by
  intro p e s m args below meth c C hr hk hn hs hE H locs ls hl hD hS
  exact lv_ishl C.1 C.2.1 d (k p e s m args below meth c C hr hk hn hs hE H locs ls hl hD hS)
theorem jx_ishr {x1 x2 : Int32} (d : decode cc pc = .ok (.ishr, 1)) (k : jx_J l env dyn rg sz own nm cc nL ret R Qf ce sl (pc + 1) lv (.int (x1 >>> (x2 &&& 31)) :: rest) x) : jx_J l env dyn rg sz own nm cc nL ret R Qf ce sl pc lv (.int x2 :: .int x1 :: rest) x := by
  intro p e s m args below meth c C hr hk hn hs hE H locs ls hl hD hS
  exact lv_ishr C.1 C.2.1 d (k p e s m args below meth c C hr hk hn hs hE H locs ls hl hD hS)
theorem jx_iushr {x1 x2 : Int32} (d : decode cc pc = .ok (.iushr, 1)) (k : jx_J l env dyn rg sz own nm cc nL ret R Qf ce sl (pc + 1) lv (.int (x1.toUInt32 >>> (x2.toUInt32 &&& Int32.toUInt32 31)).toInt32 :: rest) x) : jx_J l env dyn rg sz own nm cc nL ret R Qf ce sl pc lv (.int x2 :: .int x1 :: rest) x := by
  intro p e s m args below meth c C hr hk hn hs hE H locs ls hl hD hS
  exact lv_iushr C.1 C.2.1 d rfl (k p e s m args below meth c C hr hk hn hs hE H locs ls hl hD hS)
theorem jx_ineg {x1 : Int32} (d : decode cc pc = .ok (.ineg, 1)) (k : jx_J l env dyn rg sz own nm cc nL ret R Qf ce sl (pc + 1) lv (.int (-x1) :: rest) x) : jx_J l env dyn rg sz own nm cc nL ret R Qf ce sl pc lv (.int x1 :: rest) x := by
  intro p e s m args below meth c C hr hk hn hs hE H locs ls hl hD hS
  exact lv_ineg C.1 C.2.1 d (k p e s m args below meth c C hr hk hn hs hE H locs ls hl hD hS)
theorem jx_idiv {x1 x2 : Int32} (hne : ¬ x2 = 0) (d : decode cc pc = .ok (.idiv, 1)) (k : jx_J l env dyn rg sz own nm cc nL ret R Qf ce sl (pc + 1) lv (.int (x1 / x2) :: rest) x) : jx_J l env dyn rg sz own nm cc nL ret R Qf ce sl pc lv (.int x2 :: .int x1 :: rest) x := by
  intro p e s m args below meth c C hr hk hn hs hE H locs ls hl hD hS
  exact lv_idiv C.1 C.2.1 d hne (k p e s m args below meth c C hr hk hn hs hE H locs ls hl hD hS)
theorem jx_irem {x1 x2 : Int32} (hne : ¬ x2 = 0) (d : decode cc pc = .ok (.irem, 1)) (k : jx_J l env dyn rg sz own nm cc nL ret R Qf ce sl (pc + 1) lv (.int (x1 - x1 / x2 * x2) :: rest) x) : jx_J l env dyn rg sz own nm cc nL ret R Qf ce sl pc lv (.int x2 :: .int x1 :: rest) x := by
  intro p e s m args below meth c C hr hk hn hs hE H locs ls hl hD hS
  exact lv_irem C.1 C.2.1 d hne (k p e s m args below meth c C hr hk hn hs hE H locs ls hl hD hS)
theorem jx_ladd {x1 x2 : Int64} (d : decode cc pc = .ok (.ladd, 1)) (k : jx_J l env dyn rg sz own nm cc nL ret R Qf ce sl (pc + 1) lv (.long (x1 + x2) :: rest) x) : jx_J l env dyn rg sz own nm cc nL ret R Qf ce sl pc lv (.long x2 :: .long x1 :: rest) x := by
  intro p e s m args below meth c C hr hk hn hs hE H locs ls hl hD hS
  exact lv_ladd C.1 C.2.1 d (k p e s m args below meth c C hr hk hn hs hE H locs ls hl hD hS)
theorem jx_land {x1 x2 : Int64} (d : decode cc pc = .ok (.land, 1)) (k : jx_J l env dyn rg sz own nm cc nL ret R Qf ce sl (pc + 1) lv (.long (x1 &&& x2) :: rest) x) : jx_J l env dyn rg sz own nm cc nL ret R Qf ce sl pc lv (.long x2 :: .long x1 :: rest) x := by
  intro p e s m args below meth c C hr hk hn hs hE H locs ls hl hD hS
  exact lv_land C.1 C.2.1 d (k p e s m args below meth c C hr hk hn hs hE H locs ls hl hD hS)
theorem jx_lor {x1 x2 : Int64} (d : decode cc pc = .ok (.lor, 1)) (k : jx_J l env dyn rg sz own nm cc nL ret R Qf ce sl (pc + 1) lv (.long (x1 ||| x2) :: rest) x) : jx_J l env dyn rg sz own nm cc nL ret R Qf ce sl pc lv (.long x2 :: .long x1 :: rest) x := by
  intro p e s m args below meth c C hr hk hn hs hE H locs ls hl hD hS
  exact lv_lor C.1 C.2.1 d (k p e s m args below meth c C hr hk hn hs hE H locs ls hl hD hS)
theorem jx_lxor {x1 x2 : Int64} (d : decode cc pc = .ok (.lxor, 1)) (k : jx_J l env dyn rg sz own nm cc nL ret R Qf ce sl (pc + 1) lv (.long (x1 ^^^ x2) :: rest) x) : jx_J l env dyn rg sz own nm cc nL ret R Qf ce sl pc lv (.long x2 :: .long x1 :: rest) x := by
  intro p e s m args below meth c C hr hk hn hs hE H locs ls hl hD hS
  exact lv_lxor C.1 C.2.1 d (k p e s m args below meth c C hr hk hn hs hE H locs ls hl hD hS)
theorem jx_lsub {x1 x2 : Int64} (d : decode cc pc = .ok (.lsub, 1)) (k : jx_J l env dyn rg sz own nm cc nL ret R Qf ce sl (pc + 1) lv (.long (x1 - x2) :: rest) x) : jx_J l env dyn rg sz own nm cc nL ret R Qf ce sl pc lv (.long x2 :: .long x1 :: rest) x := by
  intro p e s m args below meth c C hr hk hn hs hE H locs ls hl hD hS
  exact lv_lsub C.1 C.2.1 d (k p e s m args below meth c C hr hk hn hs hE H locs ls hl hD hS)
theorem jx_lrem {x1 x2 : Int64} (hne : ¬ x2 = 0) (d : decode cc pc = .ok (.lrem, 1)) (k : jx_J l env dyn rg sz own nm cc nL ret R Qf ce sl (pc + 1) lv (.long (x1 - x1 / x2 * x2) :: rest) x) : jx_J l env dyn rg sz own nm cc nL ret R Qf ce sl pc lv (.long x2 :: .long x1 :: rest) x := by
  intro p e s m args below meth c C hr hk hn hs hE H locs ls hl hD hS
  exact lv_lrem C.1 C.2.1 d hne (k p e s m args below meth c C hr hk hn hs hE H locs ls hl hD hS)
theorem jx_ldiv {x1 x2 : Int64} (hne : ¬ x2 = 0) (d : decode cc pc = .ok (.ldiv, 1)) (k : jx_J l env dyn rg sz own nm cc nL ret R Qf ce sl (pc + 1) lv (.long (x1 / x2) :: rest) x) : jx_J l env dyn rg sz own nm cc nL ret R Qf ce sl pc lv (.long x2 :: .long x1 :: rest) x := by
  intro p e s m args below meth c C hr hk hn hs hE H locs ls hl hD hS
  exact lv_ldiv C.1 C.2.1 d hne (k p e s m args below meth c C hr hk hn hs hE H locs ls hl hD hS)
theorem jx_lcmp {x1 x2 : Int64} (d : decode cc pc = .ok (.lcmp, 1)) (k : jx_J l env dyn rg sz own nm cc nL ret R Qf ce sl (pc + 1) lv (.int (lg_cmp x1 x2) :: rest) x) : jx_J l env dyn rg sz own nm cc nL ret R Qf ce sl pc lv (.long x2 :: .long x1 :: rest) x := by
  intro p e s m args below meth c C hr hk hn hs hE H locs ls hl hD hS
  exact W.lcmp C.1 C.2.1 d (k p e s m args below meth c C hr hk hn hs hE H locs ls hl hD hS)
theorem jx_lshl {x1 : Int64} {x2 : Int32} (d : decode cc pc = .ok (.lshl, 1)) (k : jx_J l env dyn rg sz own nm cc nL ret R Qf ce sl (pc + 1) lv (.long (x1 <<< (x2.toInt64 &&& 63)) :: rest) x) : jx_J l env dyn rg sz own nm cc nL ret R Qf ce sl pc lv (.int x2 :: .long x1 :: rest) x := by
  intro p e s m args below meth c C hr hk hn hs hE H locs ls hl hD hS
  exact lv_lshl C.1 C.2.1 d rfl (k p e s m args below meth c C hr hk hn hs hE H locs ls hl hD hS)
theorem jx_lshr {x1 : Int64} {x2 : Int32} (d : decode cc pc = .ok (.lshr, 1)) (k : jx_J l env dyn rg sz own nm cc nL ret R Qf ce sl (pc + 1) lv (.long (x1 >>> (x2.toInt64 &&& 63)) :: rest) x) : jx_J l env dyn rg sz own nm cc nL ret R Qf ce sl pc lv (.int x2 :: .long x1 :: rest) x := by
  intro p e s m args below meth c C hr hk hn hs hE H locs ls hl hD hS
  exact lv_lshr C.1 C.2.1 d rfl (k p e s m args below meth c C hr hk hn hs hE H locs ls hl hD hS)
theorem jx_i2l {x1 : Int32} (d : decode cc pc = .ok (.i2l, 1)) (k : jx_J l env dyn rg sz own nm cc nL ret R Qf ce sl (pc + 1) lv (.long x1.toInt64 :: rest) x) : jx_J l env dyn rg sz own nm cc nL ret R Qf ce sl pc lv (.int x1 :: rest) x := by
  intro p e s m args below meth c C hr hk hn hs hE H locs ls hl hD hS
  exact lv_i2l C.1 C.2.1 d rfl (k p e s m args below meth c C hr hk hn hs hE H locs ls hl hD hS)
theorem jx_i2c {x1 : Int32} (d : decode cc pc = .ok (.i2c, 1)) (k : jx_J l env dyn rg sz own nm cc nL ret R Qf ce sl (pc + 1) lv (.int (x1.toUInt32 % 65536).toInt32 :: rest) x) : jx_J l env dyn rg sz own nm cc nL ret R Qf ce sl pc lv (.int x1 :: rest) x := by
  intro p e s m args below meth c C hr hk hn hs hE H locs ls hl hD hS
  exact lv_i2c C.1 C.2.1 d rfl (k p e s m args below meth c C hr hk hn hs hE H locs ls hl hD hS)
theorem jx_i2b {x1 : Int32} (d : decode cc pc = .ok (.i2b, 1)) (k : jx_J l env dyn rg sz own nm cc nL ret R Qf ce sl (pc + 1) lv (.int x1.toInt8.toInt32 :: rest) x) : jx_J l env dyn rg sz own nm cc nL ret R Qf ce sl pc lv (.int x1 :: rest) x := by
  intro p e s m args below meth c C hr hk hn hs hE H locs ls hl hD hS
  exact lv_i2b C.1 C.2.1 d rfl (k p e s m args below meth c C hr hk hn hs hE H locs ls hl hD hS)
theorem jx_dup {va : Value} (hva : va.category = 1) (d : decode cc pc = .ok (.dup, 1)) (k : jx_J l env dyn rg sz own nm cc nL ret R Qf ce sl (pc + 1) lv (va :: va :: rest) x) : jx_J l env dyn rg sz own nm cc nL ret R Qf ce sl pc lv (va :: rest) x := by
  intro p e s m args below meth c C hr hk hn hs hE H locs ls hl hD hS
  exact lv_dup C.1 C.2.1 d hva (k p e s m args below meth c C hr hk hn hs hE H locs ls hl hD hS)
theorem jx_dup2 {va vb : Value} (hva : va.category = 1) (hvb : vb.category = 1) (d : decode cc pc = .ok (.dup2, 1)) (k : jx_J l env dyn rg sz own nm cc nL ret R Qf ce sl (pc + 1) lv (va :: vb :: va :: vb :: rest) x) : jx_J l env dyn rg sz own nm cc nL ret R Qf ce sl pc lv (va :: vb :: rest) x := by
  intro p e s m args below meth c C hr hk hn hs hE H locs ls hl hD hS
  exact lv_dup2_11 C.1 C.2.1 d hva hvb (k p e s m args below meth c C hr hk hn hs hE H locs ls hl hD hS)
theorem jx_dup_x1 {va vb : Value} (hva : va.category = 1) (hvb : vb.category = 1) (d : decode cc pc = .ok (.dup_x1, 1)) (k : jx_J l env dyn rg sz own nm cc nL ret R Qf ce sl (pc + 1) lv (va :: vb :: va :: rest) x) : jx_J l env dyn rg sz own nm cc nL ret R Qf ce sl pc lv (va :: vb :: rest) x := by
  intro p e s m args below meth c C hr hk hn hs hE H locs ls hl hD hS
  exact lv_dup_x1 C.1 C.2.1 d hva hvb (k p e s m args below meth c C hr hk hn hs hE H locs ls hl hD hS)
theorem jx_pop {va : Value} (hva : va.category = 1) (d : decode cc pc = .ok (.pop, 1)) (k : jx_J l env dyn rg sz own nm cc nL ret R Qf ce sl (pc + 1) lv (rest) x) : jx_J l env dyn rg sz own nm cc nL ret R Qf ce sl pc lv (va :: rest) x := by
  intro p e s m args below meth c C hr hk hn hs hE H locs ls hl hD hS
  exact lv_pop C.1 C.2.1 d hva (k p e s m args below meth c C hr hk hn hs hE H locs ls hl hD hS)
theorem jx_iconst {n : Int} {v : Int32} (hv : Int32.ofInt n = v) (d : decode cc pc = .ok (.iconst n, 1)) (k : jx_J l env dyn rg sz own nm cc nL ret R Qf ce sl (pc + 1) lv (.int v :: rest) x) : jx_J l env dyn rg sz own nm cc nL ret R Qf ce sl pc lv (rest) x := by
  intro p e s m args below meth c C hr hk hn hs hE H locs ls hl hD hS
  exact lv_iconst C.1 C.2.1 d hv (k p e s m args below meth c C hr hk hn hs hE H locs ls hl hD hS)
theorem jx_bipush {n : Int} {v : Int32} (hv : (Int8.ofInt n).toInt32 = v) (d : decode cc pc = .ok (.bipush n, 2)) (k : jx_J l env dyn rg sz own nm cc nL ret R Qf ce sl (pc + 2) lv (.int v :: rest) x) : jx_J l env dyn rg sz own nm cc nL ret R Qf ce sl pc lv (rest) x := by
  intro p e s m args below meth c C hr hk hn hs hE H locs ls hl hD hS
  exact lv_bipush C.1 C.2.1 d hv (k p e s m args below meth c C hr hk hn hs hE H locs ls hl hD hS)
theorem jx_sipush {n : Int} {v : Int32} (hv : (Int16.ofInt n).toInt32 = v) (d : decode cc pc = .ok (.sipush n, 3)) (k : jx_J l env dyn rg sz own nm cc nL ret R Qf ce sl (pc + 3) lv (.int v :: rest) x) : jx_J l env dyn rg sz own nm cc nL ret R Qf ce sl pc lv (rest) x := by
  intro p e s m args below meth c C hr hk hn hs hE H locs ls hl hD hS
  exact lv_sipush C.1 C.2.1 d hv (k p e s m args below meth c C hr hk hn hs hE H locs ls hl hD hS)
theorem jx_lconst {n : Fin 2} {v : Int64} (hv : Int64.ofNat (n : Nat) = v) (d : decode cc pc = .ok (.lconst n, 1)) (k : jx_J l env dyn rg sz own nm cc nL ret R Qf ce sl (pc + 1) lv (.long v :: rest) x) : jx_J l env dyn rg sz own nm cc nL ret R Qf ce sl pc lv (rest) x := by
  intro p e s m args below meth c C hr hk hn hs hE H locs ls hl hD hS
  exact lv_lconst C.1 C.2.1 d hv (k p e s m args below meth c C hr hk hn hs hE H locs ls hl hD hS)
theorem jx_ldc {index : Nat} {v : Int32} (hw : Cond.constant own index v ∈ jx_ws) (d : decode cc pc = .ok (.ldc index, 2)) (k : jx_J l env dyn rg sz own nm cc nL ret R Qf ce sl (pc + 2) lv (.int v :: rest) x) : jx_J l env dyn rg sz own nm cc nL ret R Qf ce sl pc lv (rest) x := by
  intro p e s m args below meth c C hr hk hn hs hE H locs ls hl hD hS
  exact lv_ldc C.1 C.2.1 C.2.2.2.1 (C.2.2.2.2 _ hw) d (k p e s m args below meth c C hr hk hn hs hE H locs ls hl hD hS)
theorem jx_ldc_w {index : Nat} {v : Int32} (hw : Cond.constant own index v ∈ jx_ws) (d : decode cc pc = .ok (.ldc_w index, 3)) (k : jx_J l env dyn rg sz own nm cc nL ret R Qf ce sl (pc + 3) lv (.int v :: rest) x) : jx_J l env dyn rg sz own nm cc nL ret R Qf ce sl pc lv (rest) x := by
  intro p e s m args below meth c C hr hk hn hs hE H locs ls hl hD hS
  exact lv_ldcw C.1 C.2.1 C.2.2.2.1 (C.2.2.2.2 _ hw) d (k p e s m args below meth c C hr hk hn hs hE H locs ls hl hD hS)
theorem jx_ldc2 {index : Nat} {v : Int64} (hw : Cond.constantLong own index v ∈ jx_ws) (d : decode cc pc = .ok (.ldc2_w index, 3)) (k : jx_J l env dyn rg sz own nm cc nL ret R Qf ce sl (pc + 3) lv (.long v :: rest) x) : jx_J l env dyn rg sz own nm cc nL ret R Qf ce sl pc lv (rest) x := by
  intro p e s m args below meth c C hr hk hn hs hE H locs ls hl hD hS
  exact lv_ldc2 C.1 C.2.1 C.2.2.2.1 (C.2.2.2.2 _ hw) d (k p e s m args below meth c C hr hk hn hs hE H locs ls hl hD hS)
theorem jx_iload_n {k0 : Fin 4} {v : Int32} (hg : jx_g lv (k0 : Nat) = some (.int v)) (d : decode cc pc = .ok (.iload_n k0, 1)) (k : jx_J l env dyn rg sz own nm cc nL ret R Qf ce sl (pc + 1) lv (.int v :: rest) x) : jx_J l env dyn rg sz own nm cc nL ret R Qf ce sl pc lv (rest) x := by
  intro p e s m args below meth c C hr hk hn hs hE H locs ls hl hD hS
  exact lv_iload_n C.1 C.2.1 d rfl (jx_g_has (n := nL) hl.2.2 hg) (k p e s m args below meth c C hr hk hn hs hE H locs ls hl hD hS)
theorem jx_iload {i : Nat} {v : Int32} (hg : jx_g lv i = some (.int v)) (d : decode cc pc = .ok (.iload i, 2)) (k : jx_J l env dyn rg sz own nm cc nL ret R Qf ce sl (pc + 2) lv (.int v :: rest) x) : jx_J l env dyn rg sz own nm cc nL ret R Qf ce sl pc lv (rest) x := by
  intro p e s m args below meth c C hr hk hn hs hE H locs ls hl hD hS
  exact lv_iload C.1 C.2.1 d (jx_g_has (n := nL) hl.2.2 hg) (k p e s m args below meth c C hr hk hn hs hE H locs ls hl hD hS)
theorem jx_istore_n {k0 : Fin 4} {i : Nat} (hi : (k0 : Nat) = i) {v v2 : Int32} (ev : v2 = v) (hi2 : i < nL) (hl2 : (i, Value.int v2) :: lv.filter (fun q => !(q.1 == i) && !(q.1 + 1 == i && q.2.category == 2)) = lv') (d : decode cc pc = .ok (.istore_n k0, 1)) (k : jx_J l env dyn rg sz own nm cc nL ret R Qf ce sl (pc + 1) lv' rest x) : jx_J l env dyn rg sz own nm cc nL ret R Qf ce sl pc lv (.int v :: rest) x := by
  subst ev
  intro p e s m args below meth c C hr hk hn hs hE H locs ls hl hD hS
  exact lv_istore_n C.1 C.2.1 d hi hl hi2 hl2 (fun ls1 hl1 => k p e s m args below meth c C hr hk hn hs hE H locs ls1 hl1 hD hS)
theorem jx_istore {i : Nat} {v v2 : Int32} (ev : v2 = v) (hi2 : i < nL) (hl2 : (i, Value.int v2) :: lv.filter (fun q => !(q.1 == i) && !(q.1 + 1 == i && q.2.category == 2)) = lv') (d : decode cc pc = .ok (.istore i, 2)) (k : jx_J l env dyn rg sz own nm cc nL ret R Qf ce sl (pc + 2) lv' rest x) : jx_J l env dyn rg sz own nm cc nL ret R Qf ce sl pc lv (.int v :: rest) x := by
  subst ev
  intro p e s m args below meth c C hr hk hn hs hE H locs ls hl hD hS
  exact lv_istore C.1 C.2.1 d hl hi2 hl2 (fun ls1 hl1 => k p e s m args below meth c C hr hk hn hs hE H locs ls1 hl1 hD hS)
theorem jx_lload_n {k0 : Fin 4} {v : Int64} (hg : jx_g lv (k0 : Nat) = some (.long v)) (d : decode cc pc = .ok (.lload_n k0, 1)) (k : jx_J l env dyn rg sz own nm cc nL ret R Qf ce sl (pc + 1) lv (.long v :: rest) x) : jx_J l env dyn rg sz own nm cc nL ret R Qf ce sl pc lv (rest) x := by
  intro p e s m args below meth c C hr hk hn hs hE H locs ls hl hD hS
  exact lv_lload_n C.1 C.2.1 d rfl (jx_g_has (n := nL) hl.2.2 hg) (k p e s m args below meth c C hr hk hn hs hE H locs ls hl hD hS)
theorem jx_lload {i : Nat} {v : Int64} (hg : jx_g lv i = some (.long v)) (d : decode cc pc = .ok (.lload i, 2)) (k : jx_J l env dyn rg sz own nm cc nL ret R Qf ce sl (pc + 2) lv (.long v :: rest) x) : jx_J l env dyn rg sz own nm cc nL ret R Qf ce sl pc lv (rest) x := by
  intro p e s m args below meth c C hr hk hn hs hE H locs ls hl hD hS
  exact lv_lload C.1 C.2.1 d (jx_g_has (n := nL) hl.2.2 hg) (k p e s m args below meth c C hr hk hn hs hE H locs ls hl hD hS)
theorem jx_lstore_n {k0 : Fin 4} {i : Nat} (hi : (k0 : Nat) = i) {v v2 : Int64} (ev : v2 = v) (hi2 : i + 1 < nL) (hl2 : (i, Value.long v2) :: lv.filter (fun q => !(q.1 == i) && (!(q.1 == i + 1) && !(q.1 + 1 == i && q.2.category == 2))) = lv') (d : decode cc pc = .ok (.lstore_n k0, 1)) (k : jx_J l env dyn rg sz own nm cc nL ret R Qf ce sl (pc + 1) lv' rest x) : jx_J l env dyn rg sz own nm cc nL ret R Qf ce sl pc lv (.long v :: rest) x := by
  subst ev
  intro p e s m args below meth c C hr hk hn hs hE H locs ls hl hD hS
  exact lv_lstore_n C.1 C.2.1 d hi hl hi2 hl2 (fun ls1 hl1 => k p e s m args below meth c C hr hk hn hs hE H locs ls1 hl1 hD hS)
theorem jx_lstore {i : Nat} {v v2 : Int64} (ev : v2 = v) (hi2 : i + 1 < nL) (hl2 : (i, Value.long v2) :: lv.filter (fun q => !(q.1 == i) && (!(q.1 == i + 1) && !(q.1 + 1 == i && q.2.category == 2))) = lv') (d : decode cc pc = .ok (.lstore i, 2)) (k : jx_J l env dyn rg sz own nm cc nL ret R Qf ce sl (pc + 2) lv' rest x) : jx_J l env dyn rg sz own nm cc nL ret R Qf ce sl pc lv (.long v :: rest) x := by
  subst ev
  intro p e s m args below meth c C hr hk hn hs hE H locs ls hl hD hS
  exact lv_lstore C.1 C.2.1 d hl hi2 hl2 (fun ls1 hl1 => k p e s m args below meth c C hr hk hn hs hE H locs ls1 hl1 hD hS)
theorem jx_aload_n {k0 : Fin 4} {v : Nat} (hg : jx_g lv (k0 : Nat) = some (.ref v)) (d : decode cc pc = .ok (.aload_n k0, 1)) (k : jx_J l env dyn rg sz own nm cc nL ret R Qf ce sl (pc + 1) lv (.ref v :: rest) x) : jx_J l env dyn rg sz own nm cc nL ret R Qf ce sl pc lv (rest) x := by
  intro p e s m args below meth c C hr hk hn hs hE H locs ls hl hD hS
  exact lv_aload_n C.1 C.2.1 d rfl (jx_g_has (n := nL) hl.2.2 hg) (k p e s m args below meth c C hr hk hn hs hE H locs ls hl hD hS)
theorem jx_aload {i : Nat} {v : Nat} (hg : jx_g lv i = some (.ref v)) (d : decode cc pc = .ok (.aload i, 2)) (k : jx_J l env dyn rg sz own nm cc nL ret R Qf ce sl (pc + 2) lv (.ref v :: rest) x) : jx_J l env dyn rg sz own nm cc nL ret R Qf ce sl pc lv (rest) x := by
  intro p e s m args below meth c C hr hk hn hs hE H locs ls hl hD hS
  exact lv_aload C.1 C.2.1 d (jx_g_has (n := nL) hl.2.2 hg) (k p e s m args below meth c C hr hk hn hs hE H locs ls hl hD hS)
theorem jx_astore_n {k0 : Fin 4} {i : Nat} (hi : (k0 : Nat) = i) {v v2 : Nat} (ev : v2 = v) (hi2 : i < nL) (hl2 : (i, Value.ref v2) :: lv.filter (fun q => !(q.1 == i) && !(q.1 + 1 == i && q.2.category == 2)) = lv') (d : decode cc pc = .ok (.astore_n k0, 1)) (k : jx_J l env dyn rg sz own nm cc nL ret R Qf ce sl (pc + 1) lv' rest x) : jx_J l env dyn rg sz own nm cc nL ret R Qf ce sl pc lv (.ref v :: rest) x := by
  subst ev
  intro p e s m args below meth c C hr hk hn hs hE H locs ls hl hD hS
  exact lv_astore_n C.1 C.2.1 d hi hl hi2 hl2 (fun ls1 hl1 => k p e s m args below meth c C hr hk hn hs hE H locs ls1 hl1 hD hS)
theorem jx_astore {i : Nat} {v v2 : Nat} (ev : v2 = v) (hi2 : i < nL) (hl2 : (i, Value.ref v2) :: lv.filter (fun q => !(q.1 == i) && !(q.1 + 1 == i && q.2.category == 2)) = lv') (d : decode cc pc = .ok (.astore i, 2)) (k : jx_J l env dyn rg sz own nm cc nL ret R Qf ce sl (pc + 2) lv' rest x) : jx_J l env dyn rg sz own nm cc nL ret R Qf ce sl pc lv (.ref v :: rest) x := by
  subst ev
  intro p e s m args below meth c C hr hk hn hs hE H locs ls hl hD hS
  exact lv_astore C.1 C.2.1 d hl hi2 hl2 (fun ls1 hl1 => k p e s m args below meth c C hr hk hn hs hE H locs ls1 hl1 hD hS)
theorem jx_iinc {i : Nat} {n : Int} {v v2 w : Int32} (hg : jx_g lv i = some (.int v)) (ev : v2 = v + w) (hw : Int32.ofInt n = w) (hi2 : i < nL) (hl2 : (i, Value.int v2) :: lv.filter (fun q => !(q.1 == i) && !(q.1 + 1 == i && q.2.category == 2)) = lv') (d : decode cc pc = .ok (.iinc i n, 3)) (k : jx_J l env dyn rg sz own nm cc nL ret R Qf ce sl (pc + 3) lv' rest x) : jx_J l env dyn rg sz own nm cc nL ret R Qf ce sl pc lv rest x := by
  subst hw
  subst ev
  intro p e s m args below meth c C hr hk hn hs hE H locs ls hl hD hS
  obtain ⟨k1, hk1⟩ := jx_g_at hg
  exact lv_iinc C.1 C.2.1 d hl hk1 rfl hi2 hl2 (fun ls1 hl1 => k p e s m args below meth c C hr hk hn hs hE H locs ls1 hl1 hD hS)
theorem jx_goto {off : Int} {tgt : Nat} (d : decode cc pc = .ok (.goto off, 3)) (ht : (pc : Int) + off = (tgt : Int)) (k : jx_J l env dyn rg sz own nm cc nL ret R Qf ce sl tgt lv rest x) : jx_J l env dyn rg sz own nm cc nL ret R Qf ce sl pc lv rest x := by
  intro p e s m args below meth c C hr hk hn hs hE H locs ls hl hD hS
  exact lv_goto C.1 C.2.1 d ht (k p e s m args below meth c C hr hk hn hs hE H locs ls hl hD hS)
theorem jx_if_eq {v : Int32} {off : Int} {tgt : Nat} (d : decode cc pc = .ok (.ifCond .eq off, 3)) (ht : (pc : Int) + off = (tgt : Int)) (kt : v = 0 → jx_J l env dyn rg sz own nm cc nL ret R Qf ce sl tgt lv rest x) (kf : ¬ v = 0 → jx_J l env dyn rg sz own nm cc nL ret R Qf ce sl (pc + 3) lv rest x) : jx_J l env dyn rg sz own nm cc nL ret R Qf ce sl pc lv (.int v :: rest) x := by
  intro p e s m args below meth c C hr hk hn hs hE H locs ls hl hD hS
  exact lv_if_eq C.1 C.2.1 d ht (fun h => kt h p e s m args below meth c C hr hk hn hs hE H locs ls hl hD hS) (fun h => kf h p e s m args below meth c C hr hk hn hs hE H locs ls hl hD hS)
theorem jx_icmp_eq {v v2 : Int32} {off : Int} {tgt : Nat} (d : decode cc pc = .ok (.if_icmp .eq off, 3)) (ht : (pc : Int) + off = (tgt : Int)) (kt : v = v2 → jx_J l env dyn rg sz own nm cc nL ret R Qf ce sl tgt lv rest x) (kf : ¬ v = v2 → jx_J l env dyn rg sz own nm cc nL ret R Qf ce sl (pc + 3) lv rest x) : jx_J l env dyn rg sz own nm cc nL ret R Qf ce sl pc lv (.int v2 :: .int v :: rest) x := by
  intro p e s m args below meth c C hr hk hn hs hE H locs ls hl hD hS
  exact lv_icmp_eq C.1 C.2.1 d ht (fun h => kt h p e s m args below meth c C hr hk hn hs hE H locs ls hl hD hS) (fun h => kf h p e s m args below meth c C hr hk hn hs hE H locs ls hl hD hS)
theorem jx_if_ne {v : Int32} {off : Int} {tgt : Nat} (d : decode cc pc = .ok (.ifCond .ne off, 3)) (ht : (pc : Int) + off = (tgt : Int)) (kt : ¬ v = 0 → jx_J l env dyn rg sz own nm cc nL ret R Qf ce sl tgt lv rest x) (kf : v = 0 → jx_J l env dyn rg sz own nm cc nL ret R Qf ce sl (pc + 3) lv rest x) : jx_J l env dyn rg sz own nm cc nL ret R Qf ce sl pc lv (.int v :: rest) x := by
  intro p e s m args below meth c C hr hk hn hs hE H locs ls hl hD hS
  exact lv_if_ne C.1 C.2.1 d ht (fun h => kt h p e s m args below meth c C hr hk hn hs hE H locs ls hl hD hS) (fun h => kf h p e s m args below meth c C hr hk hn hs hE H locs ls hl hD hS)
theorem jx_icmp_ne {v v2 : Int32} {off : Int} {tgt : Nat} (d : decode cc pc = .ok (.if_icmp .ne off, 3)) (ht : (pc : Int) + off = (tgt : Int)) (kt : ¬ v = v2 → jx_J l env dyn rg sz own nm cc nL ret R Qf ce sl tgt lv rest x) (kf : v = v2 → jx_J l env dyn rg sz own nm cc nL ret R Qf ce sl (pc + 3) lv rest x) : jx_J l env dyn rg sz own nm cc nL ret R Qf ce sl pc lv (.int v2 :: .int v :: rest) x := by
  intro p e s m args below meth c C hr hk hn hs hE H locs ls hl hD hS
  exact lv_icmp_ne C.1 C.2.1 d ht (fun h => kt h p e s m args below meth c C hr hk hn hs hE H locs ls hl hD hS) (fun h => kf h p e s m args below meth c C hr hk hn hs hE H locs ls hl hD hS)
theorem jx_if_lt {v : Int32} {off : Int} {tgt : Nat} (d : decode cc pc = .ok (.ifCond .lt off, 3)) (ht : (pc : Int) + off = (tgt : Int)) (kt : v < 0 → jx_J l env dyn rg sz own nm cc nL ret R Qf ce sl tgt lv rest x) (kf : ¬ v < 0 → jx_J l env dyn rg sz own nm cc nL ret R Qf ce sl (pc + 3) lv rest x) : jx_J l env dyn rg sz own nm cc nL ret R Qf ce sl pc lv (.int v :: rest) x := by
  intro p e s m args below meth c C hr hk hn hs hE H locs ls hl hD hS
  exact lv_if_lt C.1 C.2.1 d ht (fun h => kt h p e s m args below meth c C hr hk hn hs hE H locs ls hl hD hS) (fun h => kf h p e s m args below meth c C hr hk hn hs hE H locs ls hl hD hS)
theorem jx_icmp_lt {v v2 : Int32} {off : Int} {tgt : Nat} (d : decode cc pc = .ok (.if_icmp .lt off, 3)) (ht : (pc : Int) + off = (tgt : Int)) (kt : v < v2 → jx_J l env dyn rg sz own nm cc nL ret R Qf ce sl tgt lv rest x) (kf : ¬ v < v2 → jx_J l env dyn rg sz own nm cc nL ret R Qf ce sl (pc + 3) lv rest x) : jx_J l env dyn rg sz own nm cc nL ret R Qf ce sl pc lv (.int v2 :: .int v :: rest) x := by
  intro p e s m args below meth c C hr hk hn hs hE H locs ls hl hD hS
  exact lv_icmp_lt C.1 C.2.1 d ht (fun h => kt h p e s m args below meth c C hr hk hn hs hE H locs ls hl hD hS) (fun h => kf h p e s m args below meth c C hr hk hn hs hE H locs ls hl hD hS)
theorem jx_if_ge {v : Int32} {off : Int} {tgt : Nat} (d : decode cc pc = .ok (.ifCond .ge off, 3)) (ht : (pc : Int) + off = (tgt : Int)) (kt : 0 ≤ v → jx_J l env dyn rg sz own nm cc nL ret R Qf ce sl tgt lv rest x) (kf : ¬ 0 ≤ v → jx_J l env dyn rg sz own nm cc nL ret R Qf ce sl (pc + 3) lv rest x) : jx_J l env dyn rg sz own nm cc nL ret R Qf ce sl pc lv (.int v :: rest) x := by
  intro p e s m args below meth c C hr hk hn hs hE H locs ls hl hD hS
  exact lv_if_ge C.1 C.2.1 d ht (fun h => kt h p e s m args below meth c C hr hk hn hs hE H locs ls hl hD hS) (fun h => kf h p e s m args below meth c C hr hk hn hs hE H locs ls hl hD hS)
theorem jx_icmp_ge {v v2 : Int32} {off : Int} {tgt : Nat} (d : decode cc pc = .ok (.if_icmp .ge off, 3)) (ht : (pc : Int) + off = (tgt : Int)) (kt : v2 ≤ v → jx_J l env dyn rg sz own nm cc nL ret R Qf ce sl tgt lv rest x) (kf : ¬ v2 ≤ v → jx_J l env dyn rg sz own nm cc nL ret R Qf ce sl (pc + 3) lv rest x) : jx_J l env dyn rg sz own nm cc nL ret R Qf ce sl pc lv (.int v2 :: .int v :: rest) x := by
  intro p e s m args below meth c C hr hk hn hs hE H locs ls hl hD hS
  exact lv_icmp_ge C.1 C.2.1 d ht (fun h => kt h p e s m args below meth c C hr hk hn hs hE H locs ls hl hD hS) (fun h => kf h p e s m args below meth c C hr hk hn hs hE H locs ls hl hD hS)
theorem jx_if_gt {v : Int32} {off : Int} {tgt : Nat} (d : decode cc pc = .ok (.ifCond .gt off, 3)) (ht : (pc : Int) + off = (tgt : Int)) (kt : 0 < v → jx_J l env dyn rg sz own nm cc nL ret R Qf ce sl tgt lv rest x) (kf : ¬ 0 < v → jx_J l env dyn rg sz own nm cc nL ret R Qf ce sl (pc + 3) lv rest x) : jx_J l env dyn rg sz own nm cc nL ret R Qf ce sl pc lv (.int v :: rest) x := by
  intro p e s m args below meth c C hr hk hn hs hE H locs ls hl hD hS
  exact lv_if_gt C.1 C.2.1 d ht (fun h => kt h p e s m args below meth c C hr hk hn hs hE H locs ls hl hD hS) (fun h => kf h p e s m args below meth c C hr hk hn hs hE H locs ls hl hD hS)
theorem jx_icmp_gt {v v2 : Int32} {off : Int} {tgt : Nat} (d : decode cc pc = .ok (.if_icmp .gt off, 3)) (ht : (pc : Int) + off = (tgt : Int)) (kt : v2 < v → jx_J l env dyn rg sz own nm cc nL ret R Qf ce sl tgt lv rest x) (kf : ¬ v2 < v → jx_J l env dyn rg sz own nm cc nL ret R Qf ce sl (pc + 3) lv rest x) : jx_J l env dyn rg sz own nm cc nL ret R Qf ce sl pc lv (.int v2 :: .int v :: rest) x := by
  intro p e s m args below meth c C hr hk hn hs hE H locs ls hl hD hS
  exact lv_icmp_gt C.1 C.2.1 d ht (fun h => kt h p e s m args below meth c C hr hk hn hs hE H locs ls hl hD hS) (fun h => kf h p e s m args below meth c C hr hk hn hs hE H locs ls hl hD hS)
theorem jx_if_le {v : Int32} {off : Int} {tgt : Nat} (d : decode cc pc = .ok (.ifCond .le off, 3)) (ht : (pc : Int) + off = (tgt : Int)) (kt : v ≤ 0 → jx_J l env dyn rg sz own nm cc nL ret R Qf ce sl tgt lv rest x) (kf : ¬ v ≤ 0 → jx_J l env dyn rg sz own nm cc nL ret R Qf ce sl (pc + 3) lv rest x) : jx_J l env dyn rg sz own nm cc nL ret R Qf ce sl pc lv (.int v :: rest) x := by
  intro p e s m args below meth c C hr hk hn hs hE H locs ls hl hD hS
  exact lv_if_le C.1 C.2.1 d ht (fun h => kt h p e s m args below meth c C hr hk hn hs hE H locs ls hl hD hS) (fun h => kf h p e s m args below meth c C hr hk hn hs hE H locs ls hl hD hS)
theorem jx_icmp_le {v v2 : Int32} {off : Int} {tgt : Nat} (d : decode cc pc = .ok (.if_icmp .le off, 3)) (ht : (pc : Int) + off = (tgt : Int)) (kt : v ≤ v2 → jx_J l env dyn rg sz own nm cc nL ret R Qf ce sl tgt lv rest x) (kf : ¬ v ≤ v2 → jx_J l env dyn rg sz own nm cc nL ret R Qf ce sl (pc + 3) lv rest x) : jx_J l env dyn rg sz own nm cc nL ret R Qf ce sl pc lv (.int v2 :: .int v :: rest) x := by
  intro p e s m args below meth c C hr hk hn hs hE H locs ls hl hD hS
  exact lv_icmp_le C.1 C.2.1 d ht (fun h => kt h p e s m args below meth c C hr hk hn hs hE H locs ls hl hD hS) (fun h => kf h p e s m args below meth c C hr hk hn hs hE H locs ls hl hD hS)
theorem jx_tabIn {dflt lo hi : Int} {offs : Array Int} {len : Nat} {v : Int32} {off : Int} {tgt : Nat} (d : decode cc pc = .ok (.tableswitch dflt lo hi offs, len)) (n : Int) (hv : v.toInt = n) (h1 : ¬ n < lo) (h2 : ¬ hi < n) (ho : offs[(n - lo).toNat]? = some off) (ht : (pc : Int) + off = (tgt : Int)) (k : jx_J l env dyn rg sz own nm cc nL ret R Qf ce sl tgt lv rest x) : jx_J l env dyn rg sz own nm cc nL ret R Qf ce sl pc lv (.int v :: rest) x := by
  subst hv
  intro p e s m args below meth c C hr hk hn hs hE H locs ls hl hD hS
  exact lv_tableIn C.1 C.2.1 d h1 h2 ho ht (k p e s m args below meth c C hr hk hn hs hE H locs ls hl hD hS)
theorem jx_tabOut {dflt lo hi : Int} {offs : Array Int} {len : Nat} {v : Int32} {tgt : Nat} (d : decode cc pc = .ok (.tableswitch dflt lo hi offs, len)) (h : v.toInt < lo ∨ hi < v.toInt) (ht : (pc : Int) + dflt = (tgt : Int)) (k : jx_J l env dyn rg sz own nm cc nL ret R Qf ce sl tgt lv rest x) : jx_J l env dyn rg sz own nm cc nL ret R Qf ce sl pc lv (.int v :: rest) x := by
  intro p e s m args below meth c C hr hk hn hs hE H locs ls hl hD hS
  exact lv_tableOut C.1 C.2.1 d h ht (k p e s m args below meth c C hr hk hn hs hE H locs ls hl hD hS)
theorem jx_look {dflt : Int} {ps : Array (Int × Int)} {len : Nat} {v : Int32} {off : Int} {tgt : Nat} (d : decode cc pc = .ok (.lookupswitch dflt ps, len)) (hp : (ps.toList.zip (ps.toList.drop 1)).all (fun (a, next) => a.1 < next.1) = true) (ho : Op.lookupswitch.offset ps.toList dflt v.toInt = off) (ht : (pc : Int) + off = (tgt : Int)) (k : jx_J l env dyn rg sz own nm cc nL ret R Qf ce sl tgt lv rest x) : jx_J l env dyn rg sz own nm cc nL ret R Qf ce sl pc lv (.int v :: rest) x := by
  intro p e s m args below meth c C hr hk hn hs hE H locs ls hl hD hS
  exact lv_lookup C.1 C.2.1 d hp ho ht (k p e s m args below meth c C hr hk hn hs hE H locs ls hl hD hS)
theorem jx_mmin {x1 x2 : Int32} {index : Nat} (h1 : Cond.methodLink own index Lib.Math.min.name ∈ jx_ws) (h2 : Cond.static Lib.Math.min.name ∈ jx_ws) (h3 : Cond.initialized "java/lang/Math" ∈ jx_ws) (h4 : Cond.code Lib.Math.min.name Lib.Math.min.code 2 (some .int) ∈ jx_ws) (hf : 1 ≤ R.frames) (hlo : (rest.map fun v => v.category).sum + 13 ≤ R.locals) (hce : ce ≤ R.cells) (hsl : sl ≤ R.slots) (d : decode cc pc = .ok (.invokestatic index, 3)) (k : jx_J l env dyn rg sz own nm cc nL ret R Qf ce sl (pc + 3) lv (.int (if x2 < x1 then x2 else x1) :: rest) x) : jx_J l env dyn rg sz own nm cc nL ret R Qf ce sl pc lv (.int x2 :: .int x1 :: rest) x := by
  intro p e s m args below meth c C hr hk hn hs hE H locs ls hl hD hS
  exact va_mmin C.1 C.2.1 (by rw [C.2.2.1]; exact hl.1.symm) C.2.2.2.1 (C.2.2.2.2 _ h1) (C.2.2.2.2 _ h2) (C.2.2.2.2 _ h3) (C.2.2.2.2 _ h4) hf hlo hce hsl d (k p e s m args below meth c C hr hk hn hs hE H locs ls hl hD hS)
theorem jx_mmax {x1 x2 : Int32} {index : Nat} (h1 : Cond.methodLink own index Lib.Math.max.name ∈ jx_ws) (h2 : Cond.static Lib.Math.max.name ∈ jx_ws) (h3 : Cond.initialized "java/lang/Math" ∈ jx_ws) (h4 : Cond.code Lib.Math.max.name Lib.Math.max.code 2 (some .int) ∈ jx_ws) (hf : 1 ≤ R.frames) (hlo : (rest.map fun v => v.category).sum + 13 ≤ R.locals) (hce : ce ≤ R.cells) (hsl : sl ≤ R.slots) (d : decode cc pc = .ok (.invokestatic index, 3)) (k : jx_J l env dyn rg sz own nm cc nL ret R Qf ce sl (pc + 3) lv (.int (if x1 < x2 then x2 else x1) :: rest) x) : jx_J l env dyn rg sz own nm cc nL ret R Qf ce sl pc lv (.int x2 :: .int x1 :: rest) x := by
  intro p e s m args below meth c C hr hk hn hs hE H locs ls hl hD hS
  exact va_mmax C.1 C.2.1 (by rw [C.2.2.1]; exact hl.1.symm) C.2.2.2.1 (C.2.2.2.2 _ h1) (C.2.2.2.2 _ h2) (C.2.2.2.2 _ h3) (C.2.2.2.2 _ h4) hf hlo hce hsl d (k p e s m args below meth c C hr hk hn hs hE H locs ls hl hD hS)
theorem jx_mabs {x1 : Int32} {index : Nat} (h1 : Cond.methodLink own index Lib.Math.abs.name ∈ jx_ws) (h2 : Cond.static Lib.Math.abs.name ∈ jx_ws) (h3 : Cond.initialized "java/lang/Math" ∈ jx_ws) (h4 : Cond.code Lib.Math.abs.name Lib.Math.abs.code 1 (some .int) ∈ jx_ws) (hf : 1 ≤ R.frames) (hlo : (rest.map fun v => v.category).sum + 13 ≤ R.locals) (hce : ce ≤ R.cells) (hsl : sl ≤ R.slots) (d : decode cc pc = .ok (.invokestatic index, 3)) (k : jx_J l env dyn rg sz own nm cc nL ret R Qf ce sl (pc + 3) lv (.int (if 0 ≤ x1 then x1 else 0 - x1) :: rest) x) : jx_J l env dyn rg sz own nm cc nL ret R Qf ce sl pc lv (.int x1 :: rest) x := by
  intro p e s m args below meth c C hr hk hn hs hE H locs ls hl hD hS
  exact va_mabs C.1 C.2.1 (by rw [C.2.2.1]; exact hl.1.symm) C.2.2.2.1 (C.2.2.2.2 _ h1) (C.2.2.2.2 _ h2) (C.2.2.2.2 _ h3) (C.2.2.2.2 _ h4) hf hlo hce hsl d (k p e s m args below meth c C hr hk hn hs hE H locs ls hl hD hS)
theorem jx_nret {ty : FieldType} {v : Int32} (hz : narrow ty (.int v) = .int v) (d : decode cc pc = .ok (.ireturn, 1)) : jx_J l env dyn rg sz own nm cc nL (some ty) R (fun below args s => MQ below (jx_Qi dyn x v (jx_A rg sz)) args s 0 0 (jx_A rg sz)) 0 0 pc lv [.int v] x := by
  intro p e s m args below meth c C hr hk hn hs hE H locs ls hl hD hS
  exact W.zret C.1 C.2.1 hr hz (fun t ht hW => ⟨⟨v, (), rfl, rfl, (show dyn x t.heap by rw [ht]; exact hD)⟩, hS.F ht⟩) hS.2.2 d hk
theorem jx_iret {v : Int32} (d : decode cc pc = .ok (.ireturn, 1)) : jx_J l env dyn rg sz own nm cc nL (some .int) R (fun below args s => MQ below (jx_Qi dyn x v (jx_A rg sz)) args s 0 0 (jx_A rg sz)) 0 0 pc lv [.int v] x := by
  intro p e s m args below meth c C hr hk hn hs hE H locs ls hl hD hS
  exact W.iret C.1 C.2.1 hr (fun t ht hW => ⟨⟨v, (), rfl, rfl, (show dyn x t.heap by rw [ht]; exact hD)⟩, hS.F ht⟩) hS.2.2 d hk
theorem jx_zret {v : Int32} (hz : v = 0 ∨ v = 1) (d : decode cc pc = .ok (.ireturn, 1)) : jx_J l env dyn rg sz own nm cc nL (some .boolean) R (fun below args s => MQ below (jx_Qi dyn x v (jx_A rg sz)) args s 0 0 (jx_A rg sz)) 0 0 pc lv [.int v] x := by
  intro p e s m args below meth c C hr hk hn hs hE H locs ls hl hD hS
  exact W.zret C.1 C.2.1 hr (jx_nar hz) (fun t ht hW => ⟨⟨v, (), rfl, rfl, (show dyn x t.heap by rw [ht]; exact hD)⟩, hS.F ht⟩) hS.2.2 d hk
theorem jx_lret {v : Int64} (d : decode cc pc = .ok (.lreturn, 1)) : jx_J l env dyn rg sz own nm cc nL (some .long) R (fun below args s => MQ below (jx_Ql dyn x v (jx_A rg sz)) args s 0 0 (jx_A rg sz)) 0 0 pc lv [.long v] x := by
  intro p e s m args below meth c C hr hk hn hs hE H locs ls hl hD hS
  exact W.lret C.1 C.2.1 hr (fun t ht hW => ⟨⟨v, (), rfl, rfl, (show dyn x t.heap by rw [ht]; exact hD)⟩, hS.F ht⟩) hS.2.2 d hk
theorem jx_vret (d : decode cc pc = .ok (.return_, 1)) : jx_J l env dyn rg sz own nm cc nL none R (fun below args s => MQ below (jx_Qv dyn x (jx_A rg sz)) args s 0 0 (jx_A rg sz)) 0 0 pc lv [] x := by
  intro p e s m args below meth c C hr hk hn hs hE H locs ls hl hD hS
  exact W.vret C.1 C.2.1 hr (fun t ht hW => ⟨⟨(), rfl, trivial, (show dyn x t.heap by rw [ht]; exact hD)⟩, hS.F ht⟩) hS.2.2 d hk
theorem jx_aret {rt : FieldType} {v : Nat} (hrt : (∃ n, rt = .object n) ∨ ∃ t, rt = .array t) (d : decode cc pc = .ok (.areturn, 1)) : jx_J l env dyn rg sz own nm cc nL (some rt) R (fun below args s => MQ below (jx_Qr dyn x v (jx_A rg sz)) args s 0 0 (jx_A rg sz)) 0 0 pc lv [.ref v] x := by
  intro p e s m args below meth c C hr hk hn hs hE H locs ls hl hD hS
  exact W.aret C.1 C.2.1 hr hrt (Or.inr ⟨_, rfl⟩) (fun t ht hW => ⟨⟨(), v, rfl, trivial, rfl, (show dyn x t.heap by rw [ht]; exact hD)⟩, hS.F ht⟩) hS.2.2 d hk
theorem jx_callVi {Cn : String} {y : MethodName} {bytes : ByteArray} {maxL n index : Nat} {ret2 : Option FieldType} {rm : Room} {b : Nat} (As : List Value) {x1 : X} {r : Int32} (hM : ∀ sz' : Nat, Met l y (Cond.code y bytes maxL ret2 :: jx_ws) rm (jx_Pc env dyn rg sz' x (Value.ref b :: As)) (jx_Qi dyn x1 r (jx_A rg sz')) 0 0 (jx_A rg sz')) (hkv : jx_kV own index Cn y bytes maxL ret2 n) (hok : jx_ok rg env) (hrc : jx_rc env dyn rg b Cn) (hst : st = As.reverse ++ .ref b :: rest) (hn0 : As.length = n) (hcat : (rest.map fun v => v.category).sum ≤ 8) (hroom : jx_rm rm R maxL ce sl) (d : decode cc pc = .ok (.invokevirtual index, 3)) (k : jx_J l env dyn rg sz own nm cc nL ret R Qf ce sl (pc + 3) lv (.int r :: rest) x1) : jx_J l env dyn rg sz own nm cc nL ret R Qf ce sl pc lv st x := by
  intro p e s m args below meth c C hr hk hn hs hE H locs ls hl hD hS
  subst hst
  have hA : ∀ q, jx_A rg H.size q → jx_A rg sz q := fun q h => h.elim Or.inl (fun h => Or.inr (Nat.le_trans (by rw [← hs]; exact hS.1) h))
  refine va_calli (va_runV (As := As) (rest := rest) C (hM H.size) (cwV n C.2.2.2.2 (jx_goodV hkv) rfl hroom.1.1 hroom.1.2 ⟨hkv.2.2.2.2.2.1, hkv.2.2.2.2.2.2⟩ hroom.2.1) ⟨fun a U g mk q => ⟨q.1, q.2.1, hok.1 _ _ _ _ _ q.2.2.1, q.2.2.2⟩, hrc _ _ _ _ _ hE hD hS, fun U hU hW => ⟨rfl, by rw [hU], hok.2 sz s U H locs hs hE hS hU hW, by rw [hU]; exact hD⟩⟩ rfl hn0 hl.1 rfl (lv_room hcat) d ⟨hroom.2.2.1, hroom.2.2.2⟩) hS (fun q _ h => hA q h) hA (fun r1 u t H1 locs1 ht hvm hw hB hz1 hk1 hS1 => ?_)
  have hw : r1 = r := hw
  subst hw
  have hB : dyn x1 t.heap := hB
  exact k p e s m args below meth c C hr hk hn hs hE H1 locs1 ls hl (by rw [← ht]; exact hB) hS1
theorem jx_callSi {y : MethodName} {bytes : ByteArray} {maxL n index : Nat} {ret2 : Option FieldType} {rm : Room} (As : List Value) {x1 : X} {r : Int32} (hM : ∀ sz' : Nat, Met l y (Cond.code y bytes maxL ret2 :: jx_ws) rm (jx_Pc env dyn rg sz' x As) (jx_Qi dyn x1 r (jx_A rg sz')) 0 0 (jx_A rg sz')) (hkv : jx_kS own index y bytes maxL ret2 n) (hok : jx_ok rg env) (hst : st = As.reverse ++ rest) (hn0 : As.length = n) (hcat : (rest.map fun v => v.category).sum ≤ 8) (hroom : jx_rm rm R maxL ce sl) (d : decode cc pc = .ok (.invokestatic index, 3)) (k : jx_J l env dyn rg sz own nm cc nL ret R Qf ce sl (pc + 3) lv (.int r :: rest) x1) : jx_J l env dyn rg sz own nm cc nL ret R Qf ce sl pc lv st x := by
  intro p e s m args below meth c C hr hk hn hs hE H locs ls hl hD hS
  subst hst
  have hA : ∀ q, jx_A rg H.size q → jx_A rg sz q := fun q h => h.elim Or.inl (fun h => Or.inr (Nat.le_trans (by rw [← hs]; exact hS.1) h))
  refine va_calli (va_runS (As := As) (rest := rest) C (hM H.size) (va_cwS n C.2.2.2.2 (jx_goodS hkv) rfl hroom.1.1 hroom.1.2 hkv.2.2.2.2 hroom.2.1) ⟨fun a U g mk q => ⟨q.1, q.2.1, hok.1 _ _ _ _ _ q.2.2.1, q.2.2.2⟩, fun U hU hW => ⟨rfl, by rw [hU], hok.2 sz s U H locs hs hE hS hU hW, by rw [hU]; exact hD⟩⟩ rfl hn0 hl.1 rfl (lv_room hcat) d ⟨hroom.2.2.1, hroom.2.2.2⟩) hS (fun q _ h => hA q h) hA (fun r1 u t H1 locs1 ht hvm hw hB hz1 hk1 hS1 => ?_)
  have hw : r1 = r := hw
  subst hw
  have hB : dyn x1 t.heap := hB
  exact k p e s m args below meth c C hr hk hn hs hE H1 locs1 ls hl (by rw [← ht]; exact hB) hS1
theorem jx_callVl {Cn : String} {y : MethodName} {bytes : ByteArray} {maxL n index : Nat} {ret2 : Option FieldType} {rm : Room} {b : Nat} (As : List Value) {x1 : X} {r : Int64} (hM : ∀ sz' : Nat, Met l y (Cond.code y bytes maxL ret2 :: jx_ws) rm (jx_Pc env dyn rg sz' x (Value.ref b :: As)) (jx_Ql dyn x1 r (jx_A rg sz')) 0 0 (jx_A rg sz')) (hkv : jx_kV own index Cn y bytes maxL ret2 n) (hok : jx_ok rg env) (hrc : jx_rc env dyn rg b Cn) (hst : st = As.reverse ++ .ref b :: rest) (hn0 : As.length = n) (hcat : (rest.map fun v => v.category).sum ≤ 8) (hroom : jx_rm rm R maxL ce sl) (d : decode cc pc = .ok (.invokevirtual index, 3)) (k : jx_J l env dyn rg sz own nm cc nL ret R Qf ce sl (pc + 3) lv (.long r :: rest) x1) : jx_J l env dyn rg sz own nm cc nL ret R Qf ce sl pc lv st x := by
  intro p e s m args below meth c C hr hk hn hs hE H locs ls hl hD hS
  subst hst
  have hA : ∀ q, jx_A rg H.size q → jx_A rg sz q := fun q h => h.elim Or.inl (fun h => Or.inr (Nat.le_trans (by rw [← hs]; exact hS.1) h))
  refine va_calll (va_runV (As := As) (rest := rest) C (hM H.size) (cwV n C.2.2.2.2 (jx_goodV hkv) rfl hroom.1.1 hroom.1.2 ⟨hkv.2.2.2.2.2.1, hkv.2.2.2.2.2.2⟩ hroom.2.1) ⟨fun a U g mk q => ⟨q.1, q.2.1, hok.1 _ _ _ _ _ q.2.2.1, q.2.2.2⟩, hrc _ _ _ _ _ hE hD hS, fun U hU hW => ⟨rfl, by rw [hU], hok.2 sz s U H locs hs hE hS hU hW, by rw [hU]; exact hD⟩⟩ rfl hn0 hl.1 rfl (lv_room hcat) d ⟨hroom.2.2.1, hroom.2.2.2⟩) hS (fun q _ h => hA q h) hA (fun r1 u t H1 locs1 ht hvm hw hB hz1 hk1 hS1 => ?_)
  have hw : r1 = r := hw
  subst hw
  have hB : dyn x1 t.heap := hB
  exact k p e s m args below meth c C hr hk hn hs hE H1 locs1 ls hl (by rw [← ht]; exact hB) hS1
theorem jx_callSl {y : MethodName} {bytes : ByteArray} {maxL n index : Nat} {ret2 : Option FieldType} {rm : Room} (As : List Value) {x1 : X} {r : Int64} (hM : ∀ sz' : Nat, Met l y (Cond.code y bytes maxL ret2 :: jx_ws) rm (jx_Pc env dyn rg sz' x As) (jx_Ql dyn x1 r (jx_A rg sz')) 0 0 (jx_A rg sz')) (hkv : jx_kS own index y bytes maxL ret2 n) (hok : jx_ok rg env) (hst : st = As.reverse ++ rest) (hn0 : As.length = n) (hcat : (rest.map fun v => v.category).sum ≤ 8) (hroom : jx_rm rm R maxL ce sl) (d : decode cc pc = .ok (.invokestatic index, 3)) (k : jx_J l env dyn rg sz own nm cc nL ret R Qf ce sl (pc + 3) lv (.long r :: rest) x1) : jx_J l env dyn rg sz own nm cc nL ret R Qf ce sl pc lv st x := by
  intro p e s m args below meth c C hr hk hn hs hE H locs ls hl hD hS
  subst hst
  have hA : ∀ q, jx_A rg H.size q → jx_A rg sz q := fun q h => h.elim Or.inl (fun h => Or.inr (Nat.le_trans (by rw [← hs]; exact hS.1) h))
  refine va_calll (va_runS (As := As) (rest := rest) C (hM H.size) (va_cwS n C.2.2.2.2 (jx_goodS hkv) rfl hroom.1.1 hroom.1.2 hkv.2.2.2.2 hroom.2.1) ⟨fun a U g mk q => ⟨q.1, q.2.1, hok.1 _ _ _ _ _ q.2.2.1, q.2.2.2⟩, fun U hU hW => ⟨rfl, by rw [hU], hok.2 sz s U H locs hs hE hS hU hW, by rw [hU]; exact hD⟩⟩ rfl hn0 hl.1 rfl (lv_room hcat) d ⟨hroom.2.2.1, hroom.2.2.2⟩) hS (fun q _ h => hA q h) hA (fun r1 u t H1 locs1 ht hvm hw hB hz1 hk1 hS1 => ?_)
  have hw : r1 = r := hw
  subst hw
  have hB : dyn x1 t.heap := hB
  exact k p e s m args below meth c C hr hk hn hs hE H1 locs1 ls hl (by rw [← ht]; exact hB) hS1
theorem jx_callVv {Cn : String} {y : MethodName} {bytes : ByteArray} {maxL n index : Nat} {ret2 : Option FieldType} {rm : Room} {b : Nat} (As : List Value) {x1 : X} (hM : ∀ sz' : Nat, Met l y (Cond.code y bytes maxL ret2 :: jx_ws) rm (jx_Pc env dyn rg sz' x (Value.ref b :: As)) (jx_Qv dyn x1 (jx_A rg sz')) 0 0 (jx_A rg sz')) (hkv : jx_kV own index Cn y bytes maxL ret2 n) (hok : jx_ok rg env) (hrc : jx_rc env dyn rg b Cn) (hst : st = As.reverse ++ .ref b :: rest) (hn0 : As.length = n) (hcat : (rest.map fun v => v.category).sum ≤ 8) (hroom : jx_rm rm R maxL ce sl) (d : decode cc pc = .ok (.invokevirtual index, 3)) (k : jx_J l env dyn rg sz own nm cc nL ret R Qf ce sl (pc + 3) lv (rest) x1) : jx_J l env dyn rg sz own nm cc nL ret R Qf ce sl pc lv st x := by
  intro p e s m args below meth c C hr hk hn hs hE H locs ls hl hD hS
  subst hst
  have hA : ∀ q, jx_A rg H.size q → jx_A rg sz q := fun q h => h.elim Or.inl (fun h => Or.inr (Nat.le_trans (by rw [← hs]; exact hS.1) h))
  refine va_callv (va_runV (As := As) (rest := rest) C (hM H.size) (cwV n C.2.2.2.2 (jx_goodV hkv) rfl hroom.1.1 hroom.1.2 ⟨hkv.2.2.2.2.2.1, hkv.2.2.2.2.2.2⟩ hroom.2.1) ⟨fun a U g mk q => ⟨q.1, q.2.1, hok.1 _ _ _ _ _ q.2.2.1, q.2.2.2⟩, hrc _ _ _ _ _ hE hD hS, fun U hU hW => ⟨rfl, by rw [hU], hok.2 sz s U H locs hs hE hS hU hW, by rw [hU]; exact hD⟩⟩ rfl hn0 hl.1 rfl (lv_room hcat) d ⟨hroom.2.2.1, hroom.2.2.2⟩) hS (fun q _ h => hA q h) hA (fun u t H1 locs1 ht hvm hw hB hz1 hk1 hS1 => ?_)
  have hB : dyn x1 t.heap := hB
  exact k p e s m args below meth c C hr hk hn hs hE H1 locs1 ls hl (by rw [← ht]; exact hB) hS1
theorem jx_callSv {y : MethodName} {bytes : ByteArray} {maxL n index : Nat} {ret2 : Option FieldType} {rm : Room} (As : List Value) {x1 : X} (hM : ∀ sz' : Nat, Met l y (Cond.code y bytes maxL ret2 :: jx_ws) rm (jx_Pc env dyn rg sz' x As) (jx_Qv dyn x1 (jx_A rg sz')) 0 0 (jx_A rg sz')) (hkv : jx_kS own index y bytes maxL ret2 n) (hok : jx_ok rg env) (hst : st = As.reverse ++ rest) (hn0 : As.length = n) (hcat : (rest.map fun v => v.category).sum ≤ 8) (hroom : jx_rm rm R maxL ce sl) (d : decode cc pc = .ok (.invokestatic index, 3)) (k : jx_J l env dyn rg sz own nm cc nL ret R Qf ce sl (pc + 3) lv (rest) x1) : jx_J l env dyn rg sz own nm cc nL ret R Qf ce sl pc lv st x := by
  intro p e s m args below meth c C hr hk hn hs hE H locs ls hl hD hS
  subst hst
  have hA : ∀ q, jx_A rg H.size q → jx_A rg sz q := fun q h => h.elim Or.inl (fun h => Or.inr (Nat.le_trans (by rw [← hs]; exact hS.1) h))
  refine va_callv (va_runS (As := As) (rest := rest) C (hM H.size) (va_cwS n C.2.2.2.2 (jx_goodS hkv) rfl hroom.1.1 hroom.1.2 hkv.2.2.2.2 hroom.2.1) ⟨fun a U g mk q => ⟨q.1, q.2.1, hok.1 _ _ _ _ _ q.2.2.1, q.2.2.2⟩, fun U hU hW => ⟨rfl, by rw [hU], hok.2 sz s U H locs hs hE hS hU hW, by rw [hU]; exact hD⟩⟩ rfl hn0 hl.1 rfl (lv_room hcat) d ⟨hroom.2.2.1, hroom.2.2.2⟩) hS (fun q _ h => hA q h) hA (fun u t H1 locs1 ht hvm hw hB hz1 hk1 hS1 => ?_)
  have hB : dyn x1 t.heap := hB
  exact k p e s m args below meth c C hr hk hn hs hE H1 locs1 ls hl (by rw [← ht]; exact hB) hS1
theorem jx_callVr {Cn : String} {y : MethodName} {bytes : ByteArray} {maxL n index : Nat} {ret2 : Option FieldType} {rm : Room} {b : Nat} (As : List Value) {x1 : X} {r : Nat} (hM : ∀ sz' : Nat, Met l y (Cond.code y bytes maxL ret2 :: jx_ws) rm (jx_Pc env dyn rg sz' x (Value.ref b :: As)) (jx_Qr dyn x1 r (jx_A rg sz')) 0 0 (jx_A rg sz')) (hkv : jx_kV own index Cn y bytes maxL ret2 n) (hok : jx_ok rg env) (hrc : jx_rc env dyn rg b Cn) (hst : st = As.reverse ++ .ref b :: rest) (hn0 : As.length = n) (hcat : (rest.map fun v => v.category).sum ≤ 8) (hroom : jx_rm rm R maxL ce sl) (d : decode cc pc = .ok (.invokevirtual index, 3)) (k : jx_J l env dyn rg sz own nm cc nL ret R Qf ce sl (pc + 3) lv (.ref r :: rest) x1) : jx_J l env dyn rg sz own nm cc nL ret R Qf ce sl pc lv st x := by
  intro p e s m args below meth c C hr hk hn hs hE H locs ls hl hD hS
  subst hst
  have hA : ∀ q, jx_A rg H.size q → jx_A rg sz q := fun q h => h.elim Or.inl (fun h => Or.inr (Nat.le_trans (by rw [← hs]; exact hS.1) h))
  refine va_callr (va_runV (As := As) (rest := rest) C (hM H.size) (cwV n C.2.2.2.2 (jx_goodV hkv) rfl hroom.1.1 hroom.1.2 ⟨hkv.2.2.2.2.2.1, hkv.2.2.2.2.2.2⟩ hroom.2.1) ⟨fun a U g mk q => ⟨q.1, q.2.1, hok.1 _ _ _ _ _ q.2.2.1, q.2.2.2⟩, hrc _ _ _ _ _ hE hD hS, fun U hU hW => ⟨rfl, by rw [hU], hok.2 sz s U H locs hs hE hS hU hW, by rw [hU]; exact hD⟩⟩ rfl hn0 hl.1 rfl (lv_room hcat) d ⟨hroom.2.2.1, hroom.2.2.2⟩) hS (fun q _ h => hA q h) hA (fun u r1 t H1 locs1 ht hvm hw hB hz1 hk1 hS1 => ?_)
  have hw2 : r1 = r := hB.1
  subst hw2
  have hB : dyn x1 t.heap := hB.2
  exact k p e s m args below meth c C hr hk hn hs hE H1 locs1 ls hl (by rw [← ht]; exact hB) hS1
theorem jx_callSr {y : MethodName} {bytes : ByteArray} {maxL n index : Nat} {ret2 : Option FieldType} {rm : Room} (As : List Value) {x1 : X} {r : Nat} (hM : ∀ sz' : Nat, Met l y (Cond.code y bytes maxL ret2 :: jx_ws) rm (jx_Pc env dyn rg sz' x As) (jx_Qr dyn x1 r (jx_A rg sz')) 0 0 (jx_A rg sz')) (hkv : jx_kS own index y bytes maxL ret2 n) (hok : jx_ok rg env) (hst : st = As.reverse ++ rest) (hn0 : As.length = n) (hcat : (rest.map fun v => v.category).sum ≤ 8) (hroom : jx_rm rm R maxL ce sl) (d : decode cc pc = .ok (.invokestatic index, 3)) (k : jx_J l env dyn rg sz own nm cc nL ret R Qf ce sl (pc + 3) lv (.ref r :: rest) x1) : jx_J l env dyn rg sz own nm cc nL ret R Qf ce sl pc lv st x := by
  intro p e s m args below meth c C hr hk hn hs hE H locs ls hl hD hS
  subst hst
  have hA : ∀ q, jx_A rg H.size q → jx_A rg sz q := fun q h => h.elim Or.inl (fun h => Or.inr (Nat.le_trans (by rw [← hs]; exact hS.1) h))
  refine va_callr (va_runS (As := As) (rest := rest) C (hM H.size) (va_cwS n C.2.2.2.2 (jx_goodS hkv) rfl hroom.1.1 hroom.1.2 hkv.2.2.2.2 hroom.2.1) ⟨fun a U g mk q => ⟨q.1, q.2.1, hok.1 _ _ _ _ _ q.2.2.1, q.2.2.2⟩, fun U hU hW => ⟨rfl, by rw [hU], hok.2 sz s U H locs hs hE hS hU hW, by rw [hU]; exact hD⟩⟩ rfl hn0 hl.1 rfl (lv_room hcat) d ⟨hroom.2.2.1, hroom.2.2.2⟩) hS (fun q _ h => hA q h) hA (fun u r1 t H1 locs1 ht hvm hw hB hz1 hk1 hS1 => ?_)
  have hw2 : r1 = r := hB.1
  subst hw2
  have hB : dyn x1 t.heap := hB.2
  exact k p e s m args below meth c C hr hk hn hs hE H1 locs1 ls hl (by rw [← ht]; exact hB) hS1
end JX
