section JE
variable {l : Launch} {G : jx_G} {b w0 x x2 : va_W} {sz : Nat} {own nm : String} {cc : ByteArray} {nL : Nat} {ret : Option FieldType} {R : Room} {Qf : List Frame → Array Value → State → State → Prop} {ce sl pc : Nat} {lv : List (Nat × Value)} {rest st : List Value}
theorem je_alen {a n : Nat} {f : Nat → Int32} {v : Int32} (q0 : Nat) (he : x[q0]? = some (a, .inl (G.2 0, n, .inl f))) (hv : Int32.ofNat n = v) (d : decode cc pc = .ok (.arraylength, 1)) (kk : jx_J l (je_env G b) (je_dyn G w0 sz) (je_rg w0) sz own nm cc nL ret R Qf ce sl (pc + 1) lv (.int v :: rest) x) : jx_J l (je_env G b) (je_dyn G w0 sz) (je_rg w0) sz own nm cc nL ret R Qf ce sl pc lv (.ref a :: rest) x := by
  intro p e s m args below meth c C hr hk hn hs hE H locs ls hl hD hS
  exact va_alen C.1 C.2.1 hE.1 hD.1 q0 0 he (ty := .int) rfl hv d (kk p e s m args below meth c C hr hk hn hs hE H locs ls hl hD hS)
theorem je_clone {a n index : Nat} {f : Nat → Int32} (q0 : Nat) (he : x[q0]? = some (a, .inl (G.2 0, n, .inl f))) (hw : Cond.methodLink own index ⟨"[I", "clone", "()Ljava/lang/Object;"⟩ ∈ jx_ws) (hf : 1 ≤ R.frames) (hlo : (rest.map fun v => v.category).sum + 14 ≤ R.locals) (hce : ce + 1 ≤ R.cells) (hsl : sl + n ≤ R.slots) (d : decode cc pc = .ok (.invokevirtual index, 3)) (kk : ∀ q : Nat, jx_J l (je_env G b) (je_dyn G w0 sz) (je_rg w0) sz own nm cc nL ret R Qf (ce + 1) (sl + n) (pc + 3) lv (.ref q :: rest) (x ++ [(q, .inl (G.2 0, n, .inl f))])) : jx_J l (je_env G b) (je_dyn G w0 sz) (je_rg w0) sz own nm cc nL ret R Qf ce sl pc lv (.ref a :: rest) x := by
  intro p e s m args below meth c C hr hk hn hs hE H locs ls hl hD hS
  refine va_clone (ad := "[I") C.1 C.2.1 (by rw [C.2.2.1]; exact hl.1.symm) C.2.2.2.1 (C.2.2.2.2 _ hw) (C.2.2.2.2 _ (jx_t2 (List.mem_of_getElem? (i := 233) rfl) rfl)) (C.2.2.2.2 _ (jx_t2 (List.mem_of_getElem? (i := 234) rfl) rfl)) (C.2.2.2.2 _ (jx_t2 (List.mem_of_getElem? (i := 235) rfl) rfl)) (C.2.2.2.2 _ (jx_t2 (List.mem_of_getElem? (i := 236) rfl) rfl)) hE.2.2.1.2.1 hE.1 hD.1 hD.2 hS (fun q h => Or.inr (by rw [← hs]; exact h)) q0 0 he rfl (hE.1.2 0 (G.2 0, .int) rfl).2 (fun i v hv => ?_) hf hlo hce hsl d (fun q H1 _ hP1 hD1 hS1 => kk q p e s m args below meth c C hr hk hn hs hE H1 locs ls hl ⟨hP1, hD1⟩ hS1)
  have hv2 : (Array.ofFn (n := n) fun j => Value.int (f j.val))[i]? = some v := hv
  rw [Array.getElem?_ofFn] at hv2
  split at hv2
  · cases hv2
    rfl
  · cases hv2
theorem je_cast {a n index : Nat} {f : Nat → Int32} (q0 : Nat) (he : x[q0]? = some (a, .inl (G.2 0, n, .inl f))) (hw : Cond.classLink own index "[I" ∈ jx_ws) (d : decode cc pc = .ok (.checkcast index, 3)) (kk : jx_J l (je_env G b) (je_dyn G w0 sz) (je_rg w0) sz own nm cc nL ret R Qf ce sl (pc + 3) lv (.ref a :: rest) x) : jx_J l (je_env G b) (je_dyn G w0 sz) (je_rg w0) sz own nm cc nL ret R Qf ce sl pc lv (.ref a :: rest) x := by
  intro p e s m args below meth c C hr hk hn hs hE H locs ls hl hD hS
  exact va_castA C.1 C.2.1 C.2.2.2.1 (C.2.2.2.2 _ hw) hD.1 q0 he (hE.1.2 0 (G.2 0, .int) rfl).2 d (kk p e s m args below meth c C hr hk hn hs hE H locs ls hl hD hS)
theorem je_acopy {a bq m0 m1 index : Nat} {f g : Nat → Int32} {n : Int32} (q0 q1 : Nat) (he0 : x[q0]? = some (a, .inl (G.2 0, m0, .inl f))) (he1 : x[q1]? = some (bq, .inl (G.2 0, m1, .inl g))) (hw : Cond.methodLink own index arraycopyName ∈ jx_ws) (hn0 : ¬ n < 0 ∧ n.toNatClampNeg ≤ m0 ∧ n.toNatClampNeg ≤ m1) (hx2 : x.set q1 (bq, .inl (G.2 0, m1, .inl (va_cpy f g 0 0 n.toNatClampNeg))) = x2) (hf : 1 ≤ R.frames) (hlo : (rest.map fun v => v.category).sum + (nativeFrameWords "java/lang/System" "arraycopy" 5 + 11) ≤ R.locals) (d : decode cc pc = .ok (.invokestatic index, 3)) (kk : jx_J l (je_env G b) (je_dyn G w0 sz) (je_rg w0) sz own nm cc nL ret R Qf ce sl (pc + 3) lv rest x2) : jx_J l (je_env G b) (je_dyn G w0 sz) (je_rg w0) sz own nm cc nL ret R Qf ce sl pc lv (.int n :: .int (0 : Int32) :: .ref bq :: .int (0 : Int32) :: .ref a :: rest) x := by
  subst hx2
  intro p e s m args below meth c C hr hk hn hs hE H locs ls hl hD hS
  refine va_copyi C.1 C.2.1 (by rw [C.2.2.1]; exact hl.1.symm) C.2.2.2.1 (C.2.2.2.2 _ hw) (C.2.2.2.2 _ (jx_t3 (List.mem_of_getElem? (i := 2) rfl) rfl)) (C.2.2.2.2 _ (jx_t3 (List.mem_of_getElem? (i := 1) rfl) rfl)) (C.2.2.2.2 _ (jx_t1 (List.mem_of_getElem? (i := 15) rfl) rfl)) hE.1 hD.1 hD.2 hS q0 q1 0 0 he0 he1 (ty := .int) rfl rfl rfl (by decide) (by decide) hn0.1 (by rw [show (0 : Int32).toNatClampNeg = 0 from by decide, Nat.zero_add]; exact hn0.2.1) (by rw [show (0 : Int32).toNatClampNeg = 0 from by decide, Nat.zero_add]; exact hn0.2.2) (fun _ _ => rfl) hf hlo d (fun H1 locs1 hP1 hD1 hS1 => ?_)
  rw [show (0 : Int32).toNatClampNeg = 0 from by decide] at hP1 hD1
  exact kk p e s m args below meth c C hr hk hn hs hE H1 locs1 ls hl ⟨hP1, hD1⟩ hS1
theorem je_newv {n : Int32} (hn0 : ¬ n < 0) (hb : n.toNatClampNeg ≤ 1000) (hce : ce + 1 ≤ R.cells) (hsl : sl + n.toNatClampNeg ≤ R.slots) (d : decode cc pc = .ok (.newarray .int, 2)) (kk : ∀ q : Nat, jx_J l (je_env G b) (je_dyn G w0 sz) (je_rg w0) sz own nm cc nL ret R Qf (ce + 1) (sl + n.toNatClampNeg) (pc + 2) lv (.ref q :: rest) (x ++ [(q, .inl (G.2 0, n.toNatClampNeg, .inl (fun _ => 0)))])) : jx_J l (je_env G b) (je_dyn G w0 sz) (je_rg w0) sz own nm cc nL ret R Qf ce sl pc lv (.int n :: rest) x := je_newi (N := n.toNatClampNeg) hn0 rfl hb hce hsl d kk
end JE
theorem dJ7_copyOf_59c91_0 : decode cJ7_copyOf_59c91 0 = .ok (.iload_n 1, 1) := by decide +kernel
theorem dJ7_copyOf_59c91_1 : decode cJ7_copyOf_59c91 1 = .ok (.aload_n 0, 1) := by decide +kernel
theorem dJ7_copyOf_59c91_2 : decode cJ7_copyOf_59c91 2 = .ok (.arraylength, 1) := by decide +kernel
theorem dJ7_copyOf_59c91_3 : decode cJ7_copyOf_59c91 3 = .ok (.if_icmp .ne 11, 3) := by decide +kernel
theorem dJ7_copyOf_59c91_6 : decode cJ7_copyOf_59c91 6 = .ok (.aload_n 0, 1) := by decide +kernel
theorem dJ7_copyOf_59c91_7 : decode cJ7_copyOf_59c91 7 = .ok (.invokevirtual 316, 3) := by decide +kernel
theorem dJ7_copyOf_59c91_10 : decode cJ7_copyOf_59c91 10 = .ok (.checkcast 317, 3) := by decide +kernel
theorem dJ7_copyOf_59c91_13 : decode cJ7_copyOf_59c91 13 = .ok (.areturn, 1) := by decide +kernel
theorem dJ7_copyOf_59c91_14 : decode cJ7_copyOf_59c91 14 = .ok (.iload_n 1, 1) := by decide +kernel
theorem dJ7_copyOf_59c91_15 : decode cJ7_copyOf_59c91 15 = .ok (.newarray .int, 2) := by decide +kernel
theorem dJ7_copyOf_59c91_17 : decode cJ7_copyOf_59c91 17 = .ok (.astore_n 2, 1) := by decide +kernel
theorem dJ7_copyOf_59c91_18 : decode cJ7_copyOf_59c91 18 = .ok (.aload_n 0, 1) := by decide +kernel
theorem dJ7_copyOf_59c91_19 : decode cJ7_copyOf_59c91 19 = .ok (.iconst 0, 1) := by decide +kernel
theorem dJ7_copyOf_59c91_20 : decode cJ7_copyOf_59c91 20 = .ok (.aload_n 2, 1) := by decide +kernel
theorem dJ7_copyOf_59c91_21 : decode cJ7_copyOf_59c91 21 = .ok (.iconst 0, 1) := by decide +kernel
theorem dJ7_copyOf_59c91_22 : decode cJ7_copyOf_59c91 22 = .ok (.aload_n 0, 1) := by decide +kernel
theorem dJ7_copyOf_59c91_23 : decode cJ7_copyOf_59c91 23 = .ok (.arraylength, 1) := by decide +kernel
theorem dJ7_copyOf_59c91_24 : decode cJ7_copyOf_59c91 24 = .ok (.iload_n 1, 1) := by decide +kernel
theorem dJ7_copyOf_59c91_25 : decode cJ7_copyOf_59c91 25 = .ok (.invokestatic 304, 3) := by decide +kernel
theorem dJ7_copyOf_59c91_28 : decode cJ7_copyOf_59c91 28 = .ok (.invokestatic 150, 3) := by decide +kernel
theorem dJ7_copyOf_59c91_31 : decode cJ7_copyOf_59c91 31 = .ok (.aload_n 2, 1) := by decide +kernel
theorem dJ7_copyOf_59c91_32 : decode cJ7_copyOf_59c91 32 = .ok (.areturn, 1) := by decide +kernel
abbrev rm_J7_copyOf_59c91 : Room := { frames := 1, cells := 1, slots := 100, locals := 60 }
/-- what a copy of length k holds -/
def zc_cut (n : Nat) (f : Nat → Int32) (k : Int32) : Nat → Int32 := if k = Int32.ofNat n then f else va_cpy f (fun _ => 0) 0 0 (if k < Int32.ofNat n then k else Int32.ofNat n).toNatClampNeg
theorem zc_min {n : Nat} {k : Int32} (hn : n ≤ 100) (hk : ¬ k < 0) : ¬ (if k < Int32.ofNat n then k else Int32.ofNat n) < 0 ∧ (if k < Int32.ofNat n then k else Int32.ofNat n).toNatClampNeg ≤ n ∧ (if k < Int32.ofNat n then k else Int32.ofNat n).toNatClampNeg ≤ k.toNatClampNeg := by
  obtain ⟨j, hj, rfl⟩ := nI_of hk
  have e : Int32.ofNat n = nI n := rfl
  rw [e]
  by_cases h : nI j < nI n
  · rw [if_pos h, nI_clamp hj]
    exact ⟨hk, Nat.le_of_lt ((nI_ltI hj (by omega)).mp h), Nat.le_refl _⟩
  · rw [if_neg h, nI_clamp hj, nI_clamp (show n < 2 ^ 31 by omega)]
    exact ⟨nI_pos (by omega), Nat.le_refl _, Nat.le_of_not_lt fun z => h ((nI_ltI hj (by omega)).mpr z)⟩
set_option maxHeartbeats 4000000 in
set_option maxRecDepth 100000 in
theorem k_J7_copyOf_59c91 (l : Launch) (G : jx_G) (sz a n : Nat) (f : Nat → Int32) (k : Int32) (hn : n ≤ 100) (hk : ¬ k < 0) (hk2 : k.toNatClampNeg ≤ 100) : Met l yJ7_copyOf_59c91 (Cond.code yJ7_copyOf_59c91 cJ7_copyOf_59c91 3 (some (.array .int)) :: jx_ws) rm_J7_copyOf_59c91 (jx_Pc (je_env G []) (je_dyn G [(a, .inl (G.2 0, n, .inl f))] sz) (je_rg [(a, .inl (G.2 0, n, .inl f))]) sz [(a, .inl (G.2 0, n, .inl f))] [.ref a, .int k]) (je_Qr G [(a, .inl (G.2 0, n, .inl f))] sz (fun u q => u = [(a, .inl (G.2 0, n, .inl f)), (q, .inl (G.2 0, k.toNatClampNeg, .inl (zc_cut n f k)))])) 1 100 (jx_A (je_rg [(a, .inl (G.2 0, n, .inl f))]) sz) := by
  refine jx_met (by decide) (Nat.le_of_ble_eq_true rfl) ?_
  refine jx_sub (lv' := [(0, .ref a), (1, .int k)]) [0, 1] rfl ?_
  refine jx_iload_n (pc := 0) (k0 := 1) rfl dJ7_copyOf_59c91_0 ?_
  refine jx_aload_n (pc := 1) (k0 := 0) rfl dJ7_copyOf_59c91_1 ?_
  refine je_alen (pc := 2) 0 rfl rfl dJ7_copyOf_59c91_2 ?_
  refine jx_icmp_ne (pc := 3) (tgt := 14) dJ7_copyOf_59c91_3 (by decide) (fun c1 => ?_) (fun c1 => ?_)
  · refine jx_iload_n (pc := 14) (k0 := 1) rfl dJ7_copyOf_59c91_14 ?_
    refine je_newv (pc := 15) hk (by omega) (Nat.le_of_ble_eq_true rfl) (by show 0 + _ ≤ 100; omega) dJ7_copyOf_59c91_15 (fun q => ?_)
    refine jx_astore_n (pc := 17) (i := 2) rfl rfl (by decide) (lv' := [(2, .ref q), (0, .ref a), (1, .int k)]) rfl dJ7_copyOf_59c91_17 ?_
    refine jx_aload_n (pc := 18) (k0 := 0) rfl dJ7_copyOf_59c91_18 ?_
    refine jx_iconst (pc := 19) (v := (0 : Int32)) (by decide) dJ7_copyOf_59c91_19 ?_
    refine jx_aload_n (pc := 20) (k0 := 2) rfl dJ7_copyOf_59c91_20 ?_
    refine jx_iconst (pc := 21) (v := (0 : Int32)) (by decide) dJ7_copyOf_59c91_21 ?_
    refine jx_aload_n (pc := 22) (k0 := 0) rfl dJ7_copyOf_59c91_22 ?_
    refine je_alen (pc := 23) 0 rfl rfl dJ7_copyOf_59c91_23 ?_
    refine jx_iload_n (pc := 24) (k0 := 1) rfl dJ7_copyOf_59c91_24 ?_
    refine jx_mmin (pc := 25) km_J7_304.1 km_J7_304.2.1 km_J7_304.2.2.1 km_J7_304.2.2.2 (Nat.le_of_ble_eq_true rfl) (Nat.le_of_ble_eq_true rfl) (Nat.le_of_ble_eq_true rfl) (by show 0 + _ ≤ 100; omega) dJ7_copyOf_59c91_25 ?_
    refine je_acopy (pc := 28) (x2 := [(a, .inl (G.2 0, n, .inl f)), (q, .inl (G.2 0, k.toNatClampNeg, .inl (va_cpy f (fun _ => 0) 0 0 (if k < Int32.ofNat n then k else Int32.ofNat n).toNatClampNeg)))]) 0 1 rfl rfl (jx_t3 (List.mem_of_getElem? (i := 0) rfl) rfl) (zc_min hn hk) rfl (Nat.le_of_ble_eq_true rfl) (Nat.le_of_ble_eq_true rfl) dJ7_copyOf_59c91_28 ?_
    refine jx_aload_n (pc := 31) (k0 := 2) rfl dJ7_copyOf_59c91_31 ?_
    refine je_widen (ce2 := 1) (sl2 := 100) (Nat.le_of_ble_eq_true rfl) (by show 0 + _ ≤ 100; omega) ?_
    exact je_aret (pc := 32) (Or.inr ⟨_, rfl⟩) (by unfold zc_cut; rw [if_neg c1]) dJ7_copyOf_59c91_32
  · refine jx_aload_n (pc := 6) (k0 := 0) rfl dJ7_copyOf_59c91_6 ?_
    refine je_clone (pc := 7) 0 rfl (jx_t2 (List.mem_of_getElem? (i := 232) rfl) rfl) (Nat.le_of_ble_eq_true rfl) (Nat.le_of_ble_eq_true rfl) (Nat.le_of_ble_eq_true rfl) (by show 0 + n ≤ 100; omega) dJ7_copyOf_59c91_7 (fun q => ?_)
    refine je_cast (pc := 10) 1 rfl (jx_t2 (List.mem_of_getElem? (i := 238) rfl) rfl) dJ7_copyOf_59c91_10 ?_
    refine je_widen (ce2 := 1) (sl2 := 100) (Nat.le_of_ble_eq_true rfl) (by show 0 + n ≤ 100; omega) ?_
    exact je_aret (pc := 13) (Or.inr ⟨_, rfl⟩) (by
      have e : k.toNatClampNeg = n := by rw [c1]; exact nI_clamp (show n < 2 ^ 31 by omega)
      unfold zc_cut
      rw [if_pos c1, e]
      rfl) dJ7_copyOf_59c91_13
