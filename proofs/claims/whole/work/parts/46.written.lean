/-! written() and tide(): cells beside the class's world -/
theorem ll_K3 {G : jx_G} {t : jx_T} {A : Nat → Prop} {s : State} (h : ll_env G t A s) : va_K G.1 vwCl (je_tys G) s := h.2.1.2.2.2.2.2
theorem ll_nw {G : jx_G} {t : jx_T} {A : Nat → Prop} {s : State} (h : ll_env G t A s) : je_nw s := h.2.1.2.2.2.2.1
theorem lx_fr {D : va_G} {cl : List vw_C} {A : Nat → Prop} {ws : va_W} {q0 a : Nat} {e e' : va_E} {H H1 : Heap} (hP : va_P D cl ws H) (hD : va_D A ws) (h0 : ws[q0]? = some (a, e)) (hk : ∀ q : Nat, q < H.size → q ≠ a → H1[q]? = H[q]?) (h1 : va_at D cl (a, e') H1) : va_P D cl (ws.set q0 (a, e')) H1 ∧ va_D A (ws.set q0 (a, e')) := by
  refine ⟨fun k p hp => ?_, hD.set h0⟩
  rw [List.getElem?_set] at hp
  by_cases e0 : q0 = k
  · rw [if_pos e0] at hp
    split at hp
    · cases hp
      exact h1
    · cases hp
  · rw [if_neg e0] at hp
    exact (hP k p hp).kept (hk p.1 (hP k p hp).lt (fun z => e0 (hD.1 q0 k (a, e) p h0 hp z.symm)))
theorem lx_push {D : va_G} {cl : List vw_C} {A : Nat → Prop} {ws : va_W} {q n : Nat} {e : va_E} {H1 : Heap} (hP : va_P D cl ws H1) (hD : va_D A ws) (hl : ∀ (k : Nat) (p : Nat × va_E), ws[k]? = some p → p.1 < n) (hq : n ≤ q) (hA : A q) (h1 : va_at D cl (q, e) H1) : va_P D cl (ws ++ [(q, e)]) H1 ∧ va_D A (ws ++ [(q, e)]) := by
  have hz : ∀ (k : Nat) (p : Nat × va_E), ([(q, e)] : va_W)[k]? = some p → k = 0 ∧ p = (q, e) := by
    intro k p hp
    have hk : k < 1 := (List.getElem?_eq_some_iff.mp hp).1
    have hk0 : k = 0 := by omega
    subst hk0
    cases hp
    exact ⟨rfl, rfl⟩
  refine ⟨hP.app (fun k p hp => ?_), hD.app ⟨fun i j x y hx hy _ => (hz i x hx).1.trans (hz j y hy).1.symm, fun k p hp => ?_⟩ (fun i j x y hx hy he => ?_)⟩
  · rw [(hz k p hp).2]
    exact h1
  · rw [(hz k p hp).2]
    exact hA
  · have h2 := hl i x hx
    rw [he, (hz j y hy).2] at h2
    exact absurd hq (Nat.not_le.mpr h2)
def lx_dyn (G : jx_G) (t : jx_T) (σ : jx_M) (sz : Nat) (x : va_W) (H : Heap) : Prop := va_P G.1 vwCl (ll_W G t σ ++ x) H ∧ va_D (jx_A (ll_rg G) sz) (ll_W G t σ ++ x)
def lx_Qr (G : jx_G) (t : jx_T) (σ : jx_M) (sz : Nat) (sh : va_W → Nat → Prop) : Array Value → State → Outcome → State → Prop := va_Qr (fun _ : va_W => True) (fun x a s => sh x a ∧ lx_dyn G t σ sz x s.heap) (jx_A (ll_rg G) sz)
theorem ll_Wlen {G : jx_G} {t : jx_T} {σ : jx_M} : (ll_W G t σ).length = 77 := by unfold ll_W ll_ar; rw [List.length_append, List.length_map, List.length_range]; rfl
section LX
variable {l : Launch} {G : jx_G} {t : jx_T} {σ : jx_M} {x : va_W} {sz : Nat} {own nm : String} {cc : ByteArray} {nL : Nat} {ret : Option FieldType} {R : Room} {Qf : List Frame → Array Value → State → State → Prop} {ce sl pc : Nat} {lv : List (Nat × Value)} {rest st : List Value}
theorem lx_new {index : Nat} (h1 : Cond.classLink own index RX4 ∈ jx_ws) (hce : ce + 1 ≤ R.cells) (hsl : sl + 4 ≤ R.slots) (d : decode cc pc = .ok (.new index, 3)) (kk : ∀ q : Nat, jx_J l (ll_env G t) (lx_dyn G t σ sz) (ll_rg G) sz own nm cc nL ret R Qf (ce + 1) (sl + 4) (pc + 3) lv (.ref q :: rest) (x ++ [(q, .inr (4, [.null, .null, .null, .null]))])) : jx_J l (ll_env G t) (lx_dyn G t σ sz) (ll_rg G) sz own nm cc nL ret R Qf ce sl pc lv rest x := by
  intro p e s m args below meth c C hr hk hn hs hE H locs ls hl hD hS
  refine va_new (C := RX4) (T := TX4) (N := 4) (ci := 4) (fs := [.null, .null, .null, .null]) C.1 C.2.1 C.2.2.2.2 il_X4 tyX4 tyX4_ok C.2.2.2.1 (C.2.2.2.2 _ h1) (C.2.2.2.2 _ (jx_t1 (List.mem_of_getElem? (i := 34) rfl) rfl)) (C.2.2.2.2 _ (jx_t1 (List.mem_of_getElem? (i := 3) rfl) rfl)) (ll_K3 hE) hD.1 hD.2 hS (fun q h => Or.inr (by rw [← hs]; exact h)) rfl (by decide +kernel) hce hsl d (fun q H1 hP1 hD1 hS1 => ?_)
  rw [List.append_assoc] at hP1 hD1
  exact kk q p e s m args below meth c C hr hk hn hs hE H1 locs ls hl ⟨hP1, hD1⟩ hS1
theorem lx_gr {index k : Nat} {v : Value} (hk0 : k < 15) (hw : Cond.fieldLink own index (TX3 k).1 (TX3 k).2.1 (TX3 k).2.2.1 ∈ jx_ws) (hv : (ll_Freader G t σ)[k]? = some v) (d : decode cc pc = .ok (.getfield index, 3)) (kk : jx_J l (ll_env G t) (lx_dyn G t σ sz) (ll_rg G) sz own nm cc nL ret R Qf ce sl (pc + 3) lv (v :: rest) x) : jx_J l (ll_env G t) (lx_dyn G t σ sz) (ll_rg G) sz own nm cc nL ret R Qf ce sl pc lv (.ref (G.2 25) :: rest) x := by
  intro p e s m args below meth c C hr hk hn hs hE H locs ls hl hD hS
  exact va_get (C := RX3) (T := TX3) (N := 15) (ci := 3) (fs := ll_Freader G t σ) C.1 C.2.1 C.2.2.2.2 il_X3 C.2.2.2.1 (ll_K3 hE) hD.1 5 rfl rfl k hk0 (C.2.2.2.2 _ hw) (fun _ h => h) hv d (kk p e s m args below meth c C hr hk hn hs hE H locs ls hl hD hS)
theorem lx_copy {index k : Nat} {n : Int32} (hk1 : 1 ≤ k) (hk2 : k ≤ 65) (hn1 : ll_len k ≤ 100) (hn2 : ¬ n < 0) (hn3 : n.toNatClampNeg ≤ 100) (hkv : jx_kS own index yJ7_copyOf_59c91 cJ7_copyOf_59c91 3 (some (.array .int)) 2) (hcat : (rest.map fun v => v.category).sum ≤ 8) (hro : 2 ≤ R.frames ∧ 82 ≤ R.locals) (hce : ce + 1 ≤ R.cells) (hsl : sl + 100 ≤ R.slots) (d : decode cc pc = .ok (.invokestatic index, 3)) (kk : ∀ q : Nat, jx_J l (ll_env G t) (lx_dyn G t σ sz) (ll_rg G) sz own nm cc nL ret R Qf (ce + 1) (sl + 100) (pc + 3) lv (.ref q :: rest) (x ++ [(q, .inl (G.2 0, n.toNatClampNeg, .inl (zc_cut (ll_len k) (σ k) n)))])) : jx_J l (ll_env G t) (lx_dyn G t σ sz) (ll_rg G) sz own nm cc nL ret R Qf ce sl pc lv (.int n :: .ref (G.2 (100 + k)) :: rest) x := by
  intro p e s m args below meth c C hr hk hn hs hE H locs ls hl hD hS
  have hsrc : (ll_W G t σ ++ x)[11 + k]? = some (G.2 (100 + k), .inl (G.2 0, ll_len k, .inl (σ k))) := by
    rw [List.getElem?_append_left (by rw [ll_Wlen]; omega)]
    exact ll_at hk1 hk2
  have hF : ∀ q, jx_A (je_rg [(G.2 (100 + k), .inl (G.2 0, ll_len k, .inl (σ k)))]) H.size q → jx_A (ll_rg G) sz q := va_free (A0 := jx_A (ll_rg G) sz) (wc := [(G.2 (100 + k), .inl (G.2 0, ll_len k, .inl (σ k)))]) hD.2 hS (fun q h => Or.inr (by rw [← hs]; exact h)) [11 + k] (by rw [List.map_cons, hsrc]; rfl)
  have hPc : va_P G.1 vwCl [(G.2 (100 + k), .inl (G.2 0, ll_len k, .inl (σ k)))] H := hD.1.sub [11 + k] (by rw [List.filterMap_cons, hsrc]; rfl)
  have hDc : va_D (jx_A (je_rg [(G.2 (100 + k), .inl (G.2 0, ll_len k, .inl (σ k)))]) H.size) [(G.2 (100 + k), .inl (G.2 0, ll_len k, .inl (σ k)))] := (hD.2.sub [11 + k] rfl (by rw [List.map_cons, hsrc]; rfl)).self (sz := H.size)
  refine va_callr (va_runS (As := [.ref (G.2 (100 + k)), .int n]) (rest := rest) C (k_J7_copyOf_59c91 l G H.size (G.2 (100 + k)) (ll_len k) (σ k) n hn1 hn2 hn3) (va_cwS 2 C.2.2.2.2 (jx_goodS hkv) rfl rfl rfl hkv.2.2.2.2 ⟨hro.1, hro.2⟩) ⟨fun a U g mk q => ⟨q.1, q.2.1, ⟨va_K.moved (u := U) (U := U.calling g mk a) (Vm.Alike.refl U.vm) q.2.2.1.1, va_AOA.moved (u := U) (U := U.calling g mk a) (Vm.Alike.refl U.vm) q.2.2.1.2.1, je_nw_call q.2.2.1.2.2.1, q.2.2.1.2.2.2⟩, q.2.2.2⟩, fun U hU hW => ⟨rfl, by rw [hU], ⟨va_K.moved hW.alike (ll_K3 hE), va_AOA.moved hW.alike (ll_nw hE).2.2, je_nw_warm hW (ll_nw hE), fun k q hk => absurd hk (by simp), fun k q hk => absurd hk (by simp)⟩, by rw [hU]; exact ⟨hPc, hDc⟩⟩⟩ rfl rfl hl.1 rfl (lv_room hcat) d ⟨hce, hsl⟩) hS (fun q _ h => hF q h) hF (fun u q tt H1 locs1 ht hvm hw hB hz1 hk1 hS1 => ?_)
  obtain ⟨hu, hB2⟩ := hB
  subst hu
  rw [ht] at hB2
  have hat0 := hB2.1 0 _ rfl
  have hat1 := hB2.1 1 _ rfl
  have hne : q ≠ G.2 (100 + k) := fun z => absurd (hB2.2.1 1 0 _ _ rfl rfl z) (by decide)
  have hq : H.size ≤ q := by
    rcases hB2.2.2 1 _ rfl with ⟨i, e1, hi⟩ | z
    · have hi0 : i < 1 := (List.getElem?_eq_some_iff.mp hi).1
      have hi1 : i = 0 := by omega
      subst hi1
      cases hi
      exact absurd rfl hne
    · exact z
  have hfr := lx_fr (H1 := H1) hD.1 hD.2 hsrc (fun a h1 h2 => hk1 a h1 (fun z => by
    rcases z with ⟨i, e1, hi⟩ | z
    · have hi0 : i < 1 := (List.getElem?_eq_some_iff.mp hi).1
      have hi1 : i = 0 := by omega
      subst hi1
      cases hi
      exact h2 rfl
    · omega)) hat0
  have hset : (ll_W G t σ ++ x).set (11 + k) (G.2 (100 + k), .inl (G.2 0, ll_len k, .inl (σ k))) = ll_W G t σ ++ x := by
    apply List.ext_getElem?
    intro i
    rw [List.getElem?_set]
    by_cases e0 : 11 + k = i
    · subst e0
      rw [if_pos rfl, if_pos (List.getElem?_eq_some_iff.mp hsrc).1, hsrc]
    · rw [if_neg e0]
  rw [hset] at hfr
  have hp := lx_push hfr.1 hfr.2 (fun i p hp => (hD.1 i p hp).lt) hq (Or.inr (Nat.le_trans (by rw [← hs]; exact hS.1) hq)) hat1
  rw [List.append_assoc] at hp
  exact kk q p e s m args below meth c C hr hk hn hs hE H1 locs1 ls hl hp hS1
theorem lx_init {index j a a1 a2 a3 a4 : Nat} {x2 : va_W} (hx : x[j]? = some (a, .inr (4, [.null, .null, .null, .null]))) (hx2 : x.set j (a, .inr (4, [.ref a1, .ref a2, .ref a3, .ref a4])) = x2) (h1 : Cond.methodLink own index yX4_init_ ∈ jx_ws) (hcat : (rest.map fun v => v.category).sum ≤ 8) (hro : rm_X4_init_.frames + 1 ≤ R.frames ∧ 8 + (5 + 11) + rm_X4_init_.locals ≤ R.locals) (hce : ce + 0 ≤ R.cells) (hsl : sl + 0 ≤ R.slots) (d : decode cc pc = .ok (.invokespecial index, 3)) (kk : jx_J l (ll_env G t) (lx_dyn G t σ sz) (ll_rg G) sz own nm cc nL ret R Qf ce sl (pc + 3) lv rest x2) : jx_J l (ll_env G t) (lx_dyn G t σ sz) (ll_rg G) sz own nm cc nL ret R Qf ce sl pc lv (.ref a4 :: .ref a3 :: .ref a2 :: .ref a1 :: .ref a :: rest) x := by
  subst hx2
  intro p e s m args below meth c C hr hk hn hs hE H locs ls hl hD hS
  have hsrc : (ll_W G t σ ++ x)[77 + j]? = some (a, .inr (4, [.null, .null, .null, .null])) := by
    rw [List.getElem?_append_right (by rw [ll_Wlen]; omega), ll_Wlen, show 77 + j - 77 = j by omega]
    exact hx
  have hF : ∀ q, jx_A (je_rg [(a, .inr (4, [.null, .null, .null, .null]))]) H.size q → jx_A (ll_rg G) sz q := va_free (A0 := jx_A (ll_rg G) sz) (wc := [(a, .inr (4, [.null, .null, .null, .null]))]) hD.2 hS (fun q h => Or.inr (by rw [← hs]; exact h)) [77 + j] (by rw [List.map_cons, hsrc]; rfl)
  have hPc : va_P G.1 vwCl [(a, .inr (4, [.null, .null, .null, .null]))] H := hD.1.sub [77 + j] (by rw [List.filterMap_cons, hsrc]; rfl)
  have hDc : va_D (jx_A (je_rg [(a, .inr (4, [.null, .null, .null, .null]))]) H.size) [(a, .inr (4, [.null, .null, .null, .null]))] := (hD.2.sub [77 + j] rfl (by rw [List.map_cons, hsrc]; rfl)).self (sz := H.size)
  have h4 : Cond.code yX4_init_ cX4_init_ 5 none ∈ jx_ws := (jx_t3 (List.mem_of_getElem? (i := 5) rfl) rfl)
  have hG0 : GoodIn jx_ws (Cond.code yX4_init_ cX4_init_ 5 none :: jx_ws) := fun w hw => (List.mem_cons.mp hw).elim (fun e => by rw [e]; exact ⟨h4, good_of_word (jx_good _ h4)⟩) (fun e => ⟨e, good_of_word (jx_good w e)⟩)
  refine va_callv (va_runI (As := [.ref a1, .ref a2, .ref a3, .ref a4]) (rest := rest) C (k_X4_init_ l G H.size a a1 a2 a3 a4) (cwI 4 C.2.2.2.2 hG0 rfl rfl rfl (C.2.2.2.2 _ (jx_t1 (List.mem_of_getElem? (i := 3) rfl) rfl)) (C.2.2.2.2 _ h1) (C.2.2.2.2 _ (jx_t3 (List.mem_of_getElem? (i := 4) rfl) rfl)) rfl ⟨by decide +kernel, by decide +kernel, by decide +kernel⟩ hro) ⟨fun a U g mk q => ⟨q.1, q.2.1, ⟨va_K.moved (u := U) (U := U.calling g mk a) (Vm.Alike.refl U.vm) q.2.2.1.1, va_AOA.moved (u := U) (U := U.calling g mk a) (Vm.Alike.refl U.vm) q.2.2.1.2.1, je_nw_call q.2.2.1.2.2.1, q.2.2.1.2.2.2⟩, q.2.2.2⟩, fun U hU hW => ⟨rfl, by rw [hU], ⟨va_K.moved hW.alike (ll_K3 hE), va_AOA.moved hW.alike (ll_nw hE).2.2, je_nw_warm hW (ll_nw hE), fun k q hk => absurd hk (by simp), fun k q hk => absurd hk (by simp)⟩, by rw [hU]; exact ⟨hPc, hDc⟩⟩⟩ rfl rfl hl.1 rfl (lv_room hcat) d ⟨hce, hsl⟩) hS (fun q _ h => hF q h) hF (fun u tt H1 locs1 ht hvm hw hB hz1 hk1 hS1 => ?_)
  obtain ⟨f, hu⟩ := hw
  subst hu
  have hB2 : je_dyn G [(a, .inr (4, [.null, .null, .null, .null]))] H.size [(a, .inr (4, [.ref a1, .ref a2, .ref a3, .ref a4]))] H1 := by rw [← ht]; exact hB
  have hfr := lx_fr (H1 := H1) hD.1 hD.2 hsrc (fun a h1 h2 => hk1 a h1 (fun z => by
    rcases z with ⟨i, e1, hi⟩ | z
    · have hi0 : i < 1 := (List.getElem?_eq_some_iff.mp hi).1
      have hi1 : i = 0 := by omega
      subst hi1
      cases hi
      exact h2 rfl
    · omega)) (hB2.1 0 _ rfl)
  rw [List.set_append_right _ _ (by rw [ll_Wlen]; omega), ll_Wlen, show 77 + j - 77 = j by omega] at hfr
  exact kk p e s m args below meth c C hr hk hn hs hE H1 locs1 ls hl hfr hS1
end LX
theorem dX3_written_0 : decode cX3_written 0 = .ok (.new 51, 3) := by decide +kernel
theorem dX3_written_3 : decode cX3_written 3 = .ok (.dup, 1) := by decide +kernel
theorem dX3_written_4 : decode cX3_written 4 = .ok (.aload_n 0, 1) := by decide +kernel
theorem dX3_written_5 : decode cX3_written 5 = .ok (.getfield 11, 3) := by decide +kernel
theorem dX3_written_8 : decode cX3_written 8 = .ok (.aload_n 0, 1) := by decide +kernel
theorem dX3_written_9 : decode cX3_written 9 = .ok (.getfield 27, 3) := by decide +kernel
theorem dX3_written_12 : decode cX3_written 12 = .ok (.invokestatic 53, 3) := by decide +kernel
theorem dX3_written_15 : decode cX3_written 15 = .ok (.aload_n 0, 1) := by decide +kernel
theorem dX3_written_16 : decode cX3_written 16 = .ok (.getfield 15, 3) := by decide +kernel
theorem dX3_written_19 : decode cX3_written 19 = .ok (.aload_n 0, 1) := by decide +kernel
theorem dX3_written_20 : decode cX3_written 20 = .ok (.getfield 27, 3) := by decide +kernel
theorem dX3_written_23 : decode cX3_written 23 = .ok (.invokestatic 53, 3) := by decide +kernel
theorem dX3_written_26 : decode cX3_written 26 = .ok (.aload_n 0, 1) := by decide +kernel
theorem dX3_written_27 : decode cX3_written 27 = .ok (.getfield 18, 3) := by decide +kernel
theorem dX3_written_30 : decode cX3_written 30 = .ok (.aload_n 0, 1) := by decide +kernel
theorem dX3_written_31 : decode cX3_written 31 = .ok (.getfield 27, 3) := by decide +kernel
theorem dX3_written_34 : decode cX3_written 34 = .ok (.invokestatic 53, 3) := by decide +kernel
theorem dX3_written_37 : decode cX3_written 37 = .ok (.aload_n 0, 1) := by decide +kernel
theorem dX3_written_38 : decode cX3_written 38 = .ok (.getfield 21, 3) := by decide +kernel
theorem dX3_written_41 : decode cX3_written 41 = .ok (.aload_n 0, 1) := by decide +kernel
theorem dX3_written_42 : decode cX3_written 42 = .ok (.getfield 31, 3) := by decide +kernel
theorem dX3_written_45 : decode cX3_written 45 = .ok (.invokestatic 53, 3) := by decide +kernel
theorem dX3_written_48 : decode cX3_written 48 = .ok (.invokespecial 59, 3) := by decide +kernel
theorem dX3_written_51 : decode cX3_written 51 = .ok (.areturn, 1) := by decide +kernel
abbrev rm_X3_written : Room := { frames := 4, cells := 5, slots := 404, locals := 120 }
def lx_new4 (G : jx_G) (σ : jx_M) (a b1 b2 b3 b4 : Nat) : va_W := [(a, .inr (4, [.ref b1, .ref b2, .ref b3, .ref b4])), (b1, .inl (G.2 0, (σ 0 30).toNatClampNeg, .inl (zc_cut 10 (σ 61) (σ 0 30)))), (b2, .inl (G.2 0, (σ 0 30).toNatClampNeg, .inl (zc_cut 10 (σ 62) (σ 0 30)))), (b3, .inl (G.2 0, (σ 0 30).toNatClampNeg, .inl (zc_cut 10 (σ 63) (σ 0 30)))), (b4, .inl (G.2 0, (σ 0 31).toNatClampNeg, .inl (zc_cut 100 (σ 64) (σ 0 31))))]
set_option maxHeartbeats 4000000 in
set_option maxRecDepth 100000 in
theorem k_X3_written (l : Launch) (G : jx_G) (t : jx_T) (sz : Nat) (σ : jx_M) (h30 : ¬ σ 0 30 < 0 ∧ (σ 0 30).toNatClampNeg ≤ 100) (h31 : ¬ σ 0 31 < 0 ∧ (σ 0 31).toNatClampNeg ≤ 100) : Met l yX3_written (Cond.code yX3_written cX3_written 1 (some (.object "LampVote$Tide")) :: jx_ws) rm_X3_written (jx_Pc (ll_env G t) (lx_dyn G t σ sz) (ll_rg G) sz [] [.ref (G.2 25)]) (lx_Qr G t σ sz (fun x a => ∃ b1 b2 b3 b4 : Nat, x = lx_new4 G σ a b1 b2 b3 b4)) 5 404 (jx_A (ll_rg G) sz) := by
  refine jx_met (by decide) (Nat.le_of_ble_eq_true rfl) ?_
  refine jx_sub (lv' := [(0, .ref (G.2 25))]) [0] rfl ?_
  refine lx_new (pc := 0) (jx_t2 (List.mem_of_getElem? (i := 228) rfl) rfl) (Nat.le_of_ble_eq_true rfl) (Nat.le_of_ble_eq_true rfl) dX3_written_0 (fun q => ?_)
  refine jx_dup (pc := 3) rfl dX3_written_3 ?_
  refine jx_aload_n (pc := 4) (k0 := 0) rfl dX3_written_4 ?_
  refine lx_gr (pc := 5) (k := 0) (by decide) fl_X3_11 rfl dX3_written_5 ?_
  refine jx_aload_n (pc := 8) (k0 := 0) rfl dX3_written_8 ?_
  refine lx_gr (pc := 9) (k := 5) (by decide) fl_X3_27 rfl dX3_written_9 ?_
  refine lx_copy (pc := 12) (k := 61) (by decide) (by decide) (by decide) h30.1 h30.2 ks_X3_53 (Nat.le_of_ble_eq_true rfl) ⟨(Nat.le_of_ble_eq_true rfl), (Nat.le_of_ble_eq_true rfl)⟩ (Nat.le_of_ble_eq_true rfl) (Nat.le_of_ble_eq_true rfl) dX3_written_12 (fun c1 => ?_)
  refine jx_aload_n (pc := 15) (k0 := 0) rfl dX3_written_15 ?_
  refine lx_gr (pc := 16) (k := 1) (by decide) fl_X3_15 rfl dX3_written_16 ?_
  refine jx_aload_n (pc := 19) (k0 := 0) rfl dX3_written_19 ?_
  refine lx_gr (pc := 20) (k := 5) (by decide) fl_X3_27 rfl dX3_written_20 ?_
  refine lx_copy (pc := 23) (k := 62) (by decide) (by decide) (by decide) h30.1 h30.2 ks_X3_53 (Nat.le_of_ble_eq_true rfl) ⟨(Nat.le_of_ble_eq_true rfl), (Nat.le_of_ble_eq_true rfl)⟩ (Nat.le_of_ble_eq_true rfl) (Nat.le_of_ble_eq_true rfl) dX3_written_23 (fun c2 => ?_)
  refine jx_aload_n (pc := 26) (k0 := 0) rfl dX3_written_26 ?_
  refine lx_gr (pc := 27) (k := 2) (by decide) fl_X3_18 rfl dX3_written_27 ?_
  refine jx_aload_n (pc := 30) (k0 := 0) rfl dX3_written_30 ?_
  refine lx_gr (pc := 31) (k := 5) (by decide) fl_X3_27 rfl dX3_written_31 ?_
  refine lx_copy (pc := 34) (k := 63) (by decide) (by decide) (by decide) h30.1 h30.2 ks_X3_53 (Nat.le_of_ble_eq_true rfl) ⟨(Nat.le_of_ble_eq_true rfl), (Nat.le_of_ble_eq_true rfl)⟩ (Nat.le_of_ble_eq_true rfl) (Nat.le_of_ble_eq_true rfl) dX3_written_34 (fun c3 => ?_)
  refine jx_aload_n (pc := 37) (k0 := 0) rfl dX3_written_37 ?_
  refine lx_gr (pc := 38) (k := 3) (by decide) fl_X3_21 rfl dX3_written_38 ?_
  refine jx_aload_n (pc := 41) (k0 := 0) rfl dX3_written_41 ?_
  refine lx_gr (pc := 42) (k := 6) (by decide) fl_X3_31 rfl dX3_written_42 ?_
  refine lx_copy (pc := 45) (k := 64) (by decide) (by decide) (by decide) h31.1 h31.2 ks_X3_53 (Nat.le_of_ble_eq_true rfl) ⟨(Nat.le_of_ble_eq_true rfl), (Nat.le_of_ble_eq_true rfl)⟩ (Nat.le_of_ble_eq_true rfl) (Nat.le_of_ble_eq_true rfl) dX3_written_45 (fun c4 => ?_)
  refine lx_init (pc := 48) (j := 0) (x2 := lx_new4 G σ q c1 c2 c3 c4) rfl rfl (jx_t3 (List.mem_of_getElem? (i := 3) rfl) rfl) (Nat.le_of_ble_eq_true rfl) ⟨(Nat.le_of_ble_eq_true rfl), (Nat.le_of_ble_eq_true rfl)⟩ (Nat.le_of_ble_eq_true rfl) (Nat.le_of_ble_eq_true rfl) dX3_written_48 ?_
  intro p e s m args below meth c C hr hk hn hs hE H locs ls hl hD hS
  exact W.aret C.1 C.2.1 hr (Or.inl ⟨_, rfl⟩) (Or.inr ⟨_, rfl⟩) (fun tt ht hW => ⟨⟨lx_new4 G σ q c1 c2 c3 c4, q, rfl, trivial, ⟨c1, c2, c3, c4, rfl⟩, (show lx_dyn G t σ sz _ tt.heap by rw [ht]; exact hD)⟩, hS.F ht⟩) hS.2.2 dX3_written_51 hk
