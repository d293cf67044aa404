/-! what clauses come to -/
theorem cop_1 : ∀ w, w < 4 → ∀ v, v < 100 → cop_ w v < 0 ∧ ¬ cop_ w v = -1 ∧ cop_ w v ≤ -10 := by decide +kernel
theorem cop_2 : ∀ w, w < 4 → ∀ v, v < 100 → (cop_ w v = -10 ↔ w = 0) ∧ (cop_ w v = -20 ↔ w = 1) := by decide +kernel
theorem cop_3 : ∀ w, w < 4 → ∀ v, v < 100 → ((-200 : Int32) < cop_ w v ↔ w < 2) ∧ (cop_ w v ≤ -400 ↔ w = 3) ∧ ((-400 : Int32) < cop_ w v ↔ w < 3) := by decide +kernel
theorem cop_4 : ∀ v, v < 100 → -200 - cop_ 2 v = nI v ∧ -400 - cop_ 3 v = nI v := by decide +kernel
theorem cop_f (w : Nat) (hw : w < 4) (v : Nat) (hv : v < 100) : (cop_ w v < 0 ∧ ¬ cop_ w v = -1 ∧ cop_ w v ≤ -10) ∧ (cop_ w v = -10 ↔ w = 0) ∧ (cop_ w v = -20 ↔ w = 1) ∧ ((-200 : Int32) < cop_ w v ↔ w < 2) ∧ (cop_ w v ≤ -400 ↔ w = 3) ∧ ((-400 : Int32) < cop_ w v ↔ w < 3) ∧ (w = 2 → -200 - cop_ w v = nI v) ∧ (w = 3 → -400 - cop_ w v = nI v) :=
  ⟨cop_1 w hw v hv, (cop_2 w hw v hv).1, (cop_2 w hw v hv).2, (cop_3 w hw v hv).1, (cop_3 w hw v hv).2.1, (cop_3 w hw v hv).2.2, fun e => by rw [e]; exact (cop_4 v hv).1, fun e => by rw [e]; exact (cop_4 v hv).2⟩
def os_ (τ : jx_M) (a b c d : Nat) : jx_M := jx_mu (jx_mu (jx_mu (jx_mu τ 0 11 (nI a)) 0 12 (nI b)) 0 13 (nI c)) 0 14 (nI d)
theorem os_4 {k : jx_M → Int32 → Int32 → Int32 → Int32 → Option jx_M} {τ : jx_M} {v3 v4 v5 : Int32} {i d w v b : Nat} (h : τ 0 14 = nI d) (hw : w < 4) (hv : v < 100) (hb : b < 2) (c : Nat) (h13 : τ 0 13 = nI c) : (b_X6_looks_461 k τ v3 v4 v5 (nI i) (cop_ w v) (nI b) (nI 0) (nI c) = k (jx_mu (jx_mu τ 0 13 (nI c)) 0 14 (nI (d + if w = 3 then b * v else 0))) v3 v4 v5 (nI (i + 1))) ∧ (w = 2 → b = 1 → b_X6_looks_461 k τ v3 v4 v5 (nI i) (cop_ w v) (nI b) (nI v) (nI c) = k (jx_mu (jx_mu τ 0 13 (nI (c + v))) 0 14 (nI d)) v3 v4 v5 (nI (i + 1))) := by
  obtain ⟨-, -, -, -, -, f6, -, f8⟩ := cop_f w hw v hv
  have i1 : nI i + (1 : Int32) = nI (i + 1) := nI_1 i
  unfold b_X6_looks_461 b_X6_looks_492 b_X6_looks_493 b_X6_looks_497
  have hb2 : b = 0 ∨ b = 1 := by omega
  constructor
  · rw [lt_e, mu_n (show ¬ 14 = 13 by omega), h, nI_add, Nat.add_zero c]
    rcases hb2 with rfl | rfl
    · rw [if_pos (show nI 0 = (0 : Int32) from rfl), lt_e, lt_e, show nI d + (0 : Int32) = nI d from nI_add d 0, i1, Nat.zero_mul, ite_self, Nat.add_zero d]
    · rw [if_neg (show ¬ nI 1 = (0 : Int32) by decide)]
      by_cases g : w = 3
      · rw [if_neg (fun z => absurd (f6.mp z) (by omega)), if_pos g, lt_e, lt_e, f8 g, nI_add, i1, Nat.one_mul]
      · rw [if_pos (f6.mpr (by omega)), if_neg g, lt_e, lt_e, show nI d + (0 : Int32) = nI d from nI_add d 0, i1, Nat.add_zero d]
  · intro w2 b1
    rw [lt_e, mu_n (show ¬ 14 = 13 by omega), h, nI_add, b1, if_neg (show ¬ nI 1 = (0 : Int32) by decide), if_pos (f6.mpr (by omega)), lt_e, lt_e, show nI d + (0 : Int32) = nI d from nI_add d 0, i1]
theorem os_3 {k : jx_M → Int32 → Int32 → Int32 → Int32 → Option jx_M} {τ : jx_M} {v3 v4 v5 : Int32} {i c d w v b f1 : Nat} (h13 : τ 0 13 = nI c) (h14 : τ 0 14 = nI d) (hw : w < 4) (hv : v < 100) (hb : b < 2) (hf : f1 < 2) : b_X6_looks_422 k τ v3 v4 v5 (nI i) (cop_ w v) (nI b) (nI f1) = k (jx_mu (jx_mu (jx_mu τ 0 12 (nI f1)) 0 13 (nI (c + if w = 2 then b * v else 0))) 0 14 (nI (d + if w = 3 then b * v else 0))) v3 v4 v5 (nI (i + 1)) := by
  obtain ⟨-, -, -, f4, f5, -, f7, -⟩ := cop_f w hw v hv
  have z13 : (jx_mu τ 0 12 (nI f1)) 0 13 = nI c := by rw [mu_n (by omega)]; exact h13
  have z14 : (jx_mu τ 0 12 (nI f1)) 0 14 = nI d := by rw [mu_n (by omega)]; exact h14
  have o4 := os_4 (k := k) (v3 := v3) (v4 := v4) (v5 := v5) (i := i) z14 hw hv hb c z13
  have g01 : decide (nI f1 = 0 ∨ nI f1 = (1 : Int32)) = true := by
    have : f1 = 0 ∨ f1 = 1 := by omega
    rcases this with rfl | rfl <;> decide
  unfold b_X6_looks_422 b_X6_looks_460
  rw [g01, gd_t, lt_e, z13]
  have hb2 : b = 0 ∨ b = 1 := by omega
  rcases hb2 with rfl | rfl
  · rw [if_pos (show nI 0 = (0 : Int32) from rfl), show b_X6_looks_461 k (jx_mu τ 0 12 (nI f1)) v3 v4 v5 (nI i) (cop_ w v) (nI 0) (0 : Int32) (nI c) = _ from o4.1]
    simp only [Nat.zero_mul, ite_self, Nat.add_zero]
  · rw [if_neg (show ¬ nI 1 = (0 : Int32) by decide)]
    by_cases g : w < 2
    · rw [if_pos (f4.mpr g), show b_X6_looks_461 k (jx_mu τ 0 12 (nI f1)) v3 v4 v5 (nI i) (cop_ w v) (nI 1) (0 : Int32) (nI c) = _ from o4.1, if_neg (show ¬ w = 2 by omega), Nat.add_zero c]
    · rw [if_neg (fun z => g (f4.mp z))]
      by_cases g3 : w = 3
      · rw [if_pos (f5.mpr g3), show b_X6_looks_461 k (jx_mu τ 0 12 (nI f1)) v3 v4 v5 (nI i) (cop_ w v) (nI 1) (0 : Int32) (nI c) = _ from o4.1, if_neg (show ¬ w = 2 by omega), Nat.add_zero c]
      · have g2 : w = 2 := by omega
        rw [if_neg (fun z => g3 (f5.mp z)), f7 g2, o4.2 g2 rfl, if_pos g2, if_neg g3, Nat.one_mul, Nat.add_zero d]
/-- a clause's own step -/
theorem os_e {τ : jx_M} {fr many T e w v b f0 f1 f2 f3 : Nat} (hm : fr + many ≤ 920) (he : e < many) (hs : τ 1 (fr + e) = cop_ w v) (hb : τ 4 0 = nI b) (h0 : τ 0 11 = nI f0) (h1 : τ 0 12 = nI f1) (h2 : τ 0 13 = nI f2) (h3 : τ 0 14 = nI f3) (hw : w < 4) (hv : v < 100) (b2 : b < 2) (g0 : f0 < 2) (g1 : f1 < 2) (n : Nat) : b_X6_looks_120 (n + 1) τ (nI many) (nI fr) (nI T) (nI (fr + e)) = b_X6_looks_120 n (os_ τ (if w = 0 ∧ b = 1 then 1 else f0) (if w = 1 ∧ b = 1 then 1 else f1) (f2 + if w = 2 then b * v else 0) (f3 + if w = 3 then b * v else 0)) (nI many) (nI fr) (nI 0) (nI (fr + e + 1)) := by
  obtain ⟨⟨c1, c2, c3⟩, c4, c5, -⟩ := cop_f w hw v hv
  have k394 : ∀ a, a < 2 → b_X6_looks_394 (b_X6_looks_120 n) τ (nI many) (nI fr) (nI 0) (nI (fr + e)) (cop_ w v) (nI b) (nI a) = b_X6_looks_120 n (os_ τ a (if w = 1 ∧ b = 1 then 1 else f1) (f2 + if w = 2 then b * v else 0) (f3 + if w = 3 then b * v else 0)) (nI many) (nI fr) (nI 0) (nI (fr + e + 1)) := by
    intro a ha
    have z1 : (jx_mu τ 0 11 (nI a)) 0 12 = nI f1 := by rw [mu_n (by omega)]; exact h1
    have z2 : (jx_mu τ 0 11 (nI a)) 0 13 = nI f2 := by rw [mu_n (by omega)]; exact h2
    have z3 : (jx_mu τ 0 11 (nI a)) 0 14 = nI f3 := by rw [mu_n (by omega)]; exact h3
    have o3 := fun (f : Nat) (hf : f < 2) => os_3 (k := b_X6_looks_120 n) (v3 := nI many) (v4 := nI fr) (v5 := nI 0) (i := fr + e) (w := w) (v := v) (b := b) (f1 := f) z2 z3 hw hv b2 hf
    have g01 : decide (nI a = 0 ∨ nI a = (1 : Int32)) = true := by
      have : a = 0 ∨ a = 1 := by omega
      rcases this with rfl | rfl <;> decide
    unfold b_X6_looks_394 b_X6_looks_417 b_X6_looks_421 os_
    rw [g01, gd_t, lt_e, z1]
    have hf : f1 = 0 ∨ f1 = 1 := by omega
    rcases hf with rfl | rfl
    · rw [if_pos (show nI 0 = (0 : Int32) from rfl)]
      have hb2 : b = 0 ∨ b = 1 := by omega
      rcases hb2 with rfl | rfl
      · rw [if_pos (show nI 0 = (0 : Int32) from rfl), if_neg (show ¬ (w = 1 ∧ 0 = 1) by omega)]
        exact o3 0 (by omega)
      · rw [if_neg (show ¬ nI 1 = (0 : Int32) by decide)]
        by_cases g : w = 1
        · rw [if_pos (c5.mpr g), if_pos (show w = 1 ∧ 1 = 1 from ⟨g, rfl⟩)]
          exact o3 1 (by omega)
        · rw [if_neg (fun z => g (c5.mp z)), if_neg (show ¬ (w = 1 ∧ 1 = 1) from fun z => g z.1)]
          exact o3 0 (by omega)
    · rw [if_neg (show ¬ nI 1 = (0 : Int32) by decide), ite_self]
      exact o3 1 (by omega)
  show g_X6_looks_120 (b_X6_looks_120 n) τ (nI many) (nI fr) (nI T) (nI (fr + e)) = _
  unfold g_X6_looks_120 b_X6_looks_389 b_X6_looks_393
  rw [show nI fr + nI many = nI (fr + many) from nI_add _ _, if_neg (nI_ge (by omega) (by omega)), ev_in (show fr + e < 920 by omega) (by omega), gd_t, lt_e, nI_clamp (show fr + e < 2 ^ 31 by omega), hs, if_pos c1, if_neg c2, if_pos c3, lt_e, hb, h0]
  have hf : f0 = 0 ∨ f0 = 1 := by omega
  rcases hf with rfl | rfl
  · rw [if_pos (show nI 0 = (0 : Int32) from rfl)]
    have hb2 : b = 0 ∨ b = 1 := by omega
    rcases hb2 with rfl | rfl
    · rw [if_pos (show nI 0 = (0 : Int32) from rfl), if_neg (show ¬ (w = 0 ∧ 0 = 1) by omega)]
      exact k394 0 (by omega)
    · rw [if_neg (show ¬ nI 1 = (0 : Int32) by decide)]
      by_cases g : w = 0
      · rw [if_pos (c4.mpr g), if_pos (show w = 0 ∧ 1 = 1 from ⟨g, rfl⟩)]
        exact k394 1 (by omega)
      · rw [if_neg (fun z => g (c4.mp z)), if_neg (show ¬ (w = 0 ∧ 1 = 1) from fun z => g z.1)]
        exact k394 0 (by omega)
  · rw [if_neg (show ¬ nI 1 = (0 : Int32) by decide), ite_self]
    exact k394 1 (by omega)
def F0_ : rt_F := fun _ _ _ _ _ => 0
def SM_ (sd : Nat → Int32) (F : rt_F) (n c p q m w : Nat) : Prop := ∀ (τ : jx_M) (fr many : Nat), lk_ τ p q m w → fr + many ≤ 920 → c + n ≤ many → (∀ k, k < c + n → τ 1 (fr + k) = sd k) → τ 0 11 = nI 0 → τ 0 12 = nI 0 → τ 0 13 = nI 0 → τ 0 14 = nI 1 → ∀ f, ∃ τ', b_X6_looks_120 (f + (c + n)) τ (nI many) (nI fr) (nI 0) (nI (fr + 0)) = b_X6_looks_120 f τ' (nI many) (nI fr) (nI 0) (nI (fr + (c + n))) ∧ τ' 0 11 = nI (F 0 p q m w) ∧ τ' 0 12 = nI (F 1 p q m w) ∧ τ' 0 13 = nI (F 2 p q m w) ∧ τ' 0 14 = nI (1 + F 3 p q m w) ∧ rt_k τ τ'
/-- the class's clauses stand in t -/
def ct_ (t : jx_T) (W A E CD : Nat → Int32) (M n c : Nat) : Prop := n ≤ M ∧ M ≤ 10 ∧ (t.2.1 1 = M ∧ t.2.1 2 = M ∧ t.2.1 3 = M) ∧ (c ≤ t.2.1 4 ∧ t.2.1 4 ≤ 100) ∧ (∀ k, k < n → t.2.2 1 k = W k ∧ t.2.2 2 k = A k ∧ t.2.2 3 k = E k) ∧ ∀ k, k < c → t.2.2 4 k = CD k
def he_ (σ : jx_M) (p q m w : Nat) : Prop := (σ 20 0 = nI p ∧ σ 20 1 = nI q ∧ σ 20 2 = nI m ∧ σ 20 3 = nI w) ∧ p < 12 ∧ q < 12 ∧ m < 12 ∧ w < 12
def SL_ (W A E CD : Nat → Int32) (F : rt_F) (n c p q m w : Nat) : Prop := ∀ (t : jx_T) (σ : jx_M) (M : Nat), ct_ t W A E CD M n c → he_ σ p q m w → ∀ x, x < 4 → ∀ f, (x < 2 → b_X4_any_2 t (f + n) σ (nI x) 20 (nI 0) = (if F x p q m w = 1 then some (nI 1) else b_X4_any_2 t f σ (nI x) 20 (nI n))) ∧ (2 ≤ x → b_X4_sum_5 t (f + n) σ (nI x) 20 (nI 0) (nI 0) = b_X4_sum_5 t f σ (nI x) 20 (nI (F x p q m w)) (nI n))
/-- one clause more -/
def FS_ (F : rt_F) (w v : Nat) (B : Nat → Nat → Nat → Nat → Nat) : rt_F := fun x p q m r => if x = w then (if w < 2 then (if B p q m r = 1 then 1 else F x p q m r) else F x p q m r + B p q m r * v) else F x p q m r
theorem CLS_n {W A E CD sd : Nat → Int32} : ∀ (n c : Nat), CLS W A E CD sd n c → n = 0 ∧ c = 0 ∨ ∃ k, n = k + 1 ∧ E k = nI c
  | 0, _, h => Or.inl ⟨rfl, h⟩
  | n + 1, c, ⟨_, _, _, _, _, _, _, _, _, _, h7, _⟩ => Or.inr ⟨n, rfl, h7⟩
theorem ho_e {t : jx_T} {σ : jx_M} {W A E CD sd : Nat → Int32} {M n c0 L p q m r b : Nat} (hc : ct_ t W A E CD M (n + 1) (c0 + L)) (h : CLS W A E CD sd n c0) (hE : E n = nI (c0 + L)) (hσ : he_ σ p q m r) (sg : SGl CD c0 L 13 b p q m r) (hb : b < 2) : f_X4_holds t σ (nI n) 20 = some (nI b) := by
  obtain ⟨h1, h2, ⟨h3, h4, h5⟩, ⟨h6, h7⟩, h8, h9⟩ := hc
  have ctx : hc_ t σ n (c0 + L) p q m r := ⟨by omega, by omega, by rw [(h8 n (by omega)).2.2]; exact hE, h6, h7, hσ.1, hσ.2⟩
  have e24 : b_X4_holds_24 t jx_fuel σ (nI n) 20 (lN 0) (nI c0) = some (nI b) := by
    have s := sg t σ n (c0 + L) ctx (Nat.le_refl _) (fun k _ k2 => h9 k k2) (1000 - L) 0 (Nat.two_pow_pos _)
    rw [show 1000 - L + L = 1000 by omega] at s
    rw [show b_X4_holds_24 t jx_fuel σ (nI n) 20 (lN 0) (nI c0) = _ from s]
    obtain ⟨f, hf⟩ : ∃ f, 1000 - L = f + 1 := ⟨999 - L, by omega⟩
    rw [hf]
    show g_X4_holds_24 t (b_X4_holds_24 t f) σ (nI n) 20 (lN (2 * 0 + b)) (nI (c0 + L)) = _
    unfold g_X4_holds_24 b_X4_holds_131
    rw [ev_in ctx.1 (by omega), gd_t, nI_clamp (show n < 2 ^ 31 by omega), ctx.2.2.1, if_pos (Int32.le_refl _)]
    have hb2 : b = 0 ∨ b = 1 := by omega
    rcases hb2 with rfl | rfl
    · decide +kernel
    · decide +kernel
  unfold f_X4_holds b_X4_holds_18
  rcases CLS_n n c0 h with ⟨rfl, rfl⟩ | ⟨k, rfl, hk⟩
  · rw [if_pos (show nI 0 ≤ (0 : Int32) by decide)]
    exact e24
  · rw [if_neg (nI_nle (by omega) (by omega)), show nI (k + 1) - (1 : Int32) = nI k from nI_pred k, ev_in (show k < t.2.1 3 by omega) (by omega), gd_t, nI_clamp (show k < 2 ^ 31 by omega), (h8 k (by omega)).2.2, hk]
    exact e24
theorem ch4 (Q : Nat → Nat → Nat → Nat → Nat → Prop) (h : ∀ p q m w, ∃ b, Q p q m w b) : ∃ B : Nat → Nat → Nat → Nat → Nat, ∀ p q m w, Q p q m w (B p q m w) :=
  ⟨fun p q m w => Classical.choose (h p q m w), fun p q m w => Classical.choose_spec (h p q m w)⟩
theorem mean_e {W A E CD sd : Nat → Int32} : ∀ (n c : Nat), n ≤ 10 → c ≤ 100 → CLS W A E CD sd n c → ∃ F : rt_F, (∀ p q m w, F 0 p q m w ≤ 1 ∧ F 1 p q m w ≤ 1 ∧ F 2 p q m w ≤ 99 * n ∧ F 3 p q m w ≤ 99 * n) ∧ ∀ p q m w, p < 12 → q < 12 → m < 12 → w < 12 → SM_ sd F n c p q m w ∧ SL_ W A E CD F n c p q m w
  | 0, c, _, _, h => by
    have hc : c = 0 := h
    subst hc
    refine ⟨F0_, fun _ _ _ _ => ⟨Nat.zero_le _, Nat.zero_le _, Nat.zero_le _, Nat.zero_le _⟩, fun p q m w _ _ _ _ => ⟨?_, ?_⟩⟩
    · intro τ fr many h1 h2 h3 h4 h5 h6 h7 h8 f
      exact ⟨τ, rfl, h5, h6, h7, h8, fun _ _ _ => rfl, fun _ _ => rfl⟩
    · intro t σ M h1 h2 x hx f
      exact ⟨fun _ => by rw [if_neg (show ¬ F0_ x p q m w = 1 from fun z => absurd z (by show ¬ 0 = 1; omega))]; rfl, fun _ => rfl⟩
  | n + 1, c, hn, hc, ⟨c0, w0, v, L, h1, h2, h3, h4, h5, h6, h7, h8, h9⟩ => by
    obtain ⟨F, g1, g2⟩ := mean_e n c0 (by omega) (by omega) h1
    have hB := ch4 (fun p q m w b => b < 2 ∧ (p < 12 → q < 12 → m < 12 → w < 12 → SGl CD c0 L 13 b p q m w ∧ SGm sd (c0 + n) L 13 b p q m w)) (fun p q m w => by
      by_cases h : p < 12 ∧ q < 12 ∧ m < 12 ∧ w < 12
      · obtain ⟨b, s1, s2, s3⟩ := h8.2 p q m w h.1 h.2.1 h.2.2.1 h.2.2.2
        exact ⟨b, s1, fun _ _ _ _ => ⟨s2, s3⟩⟩
      · exact ⟨0, by omega, fun a1 a2 a3 a4 => absurd ⟨a1, a2, a3, a4⟩ h⟩)
    obtain ⟨B, hB⟩ := hB
    have bv : ∀ p q m w, B p q m w * v ≤ 99 := by
      intro p q m w
      have hb : B p q m w = 0 ∨ B p q m w = 1 := by have := (hB p q m w).1; omega
      rcases hb with z | z <;> rw [z] <;> omega
    refine ⟨FS_ F w0 v B, fun p q m w => ?_, fun p q m w hp hq hm hw => ⟨?_, ?_⟩⟩
    · obtain ⟨a1, a2, a3, a4⟩ := g1 p q m w
      have a5 := bv p q m w
      unfold FS_
      refine ⟨?_, ?_, ?_, ?_⟩
      · repeat' split
        all_goals omega
      · repeat' split
        all_goals omega
      · repeat' split
        all_goals omega
      · repeat' split
        all_goals omega
    · intro τ fr many k1 k2 k3 k4 k5 k6 k7 k8 f
      have sg := (hB p q m w).2 hp hq hm hw
      have b2 := (hB p q m w).1
      obtain ⟨a1, a2, a3, a4⟩ := g1 p q m w
      obtain ⟨τ1, r1, r2, r3, r4, r5, r6⟩ := (g2 p q m w hp hq hm hw).1 τ fr many k1 k2 (by omega) (fun k hk => k4 k (by omega)) k5 k6 k7 k8 (f + 1 + L)
      have k1' : lk_ τ1 p q m w := by
        unfold lk_
        rw [r6.1 3 (by omega) (by omega)]
        exact k1
      obtain ⟨τ2, s1, s2, s3, s4⟩ := sg.2 τ1 fr many 0 k1' k2 (by omega) (by omega) (fun k _ k2 => by rw [r6.1 1 (by omega) (by omega)]; exact k4 k (by omega)) (f + 1)
      have os := os_e (τ := τ2) (fr := fr) (many := many) (T := 0 + 1) (e := c0 + n + L) (w := w0) (v := v) (b := B p q m w) (f0 := F 0 p q m w) (f1 := F 1 p q m w) (f2 := F 2 p q m w) (f3 := 1 + F 3 p q m w) k2 (by omega) (by
        rw [s2 1 (by omega), r6.1 1 (by omega) (by omega), k4 _ (by omega), ← h9]
        congr 1; omega) s4 (by rw [s2 0 (by omega)]; exact r2) (by rw [s2 0 (by omega)]; exact r3) (by rw [s2 0 (by omega)]; exact r4) (by rw [s2 0 (by omega)]; exact r5) h3 h4 b2 (by omega) (by omega) f
      refine ⟨os_ τ2 (if w0 = 0 ∧ B p q m w = 1 then 1 else F 0 p q m w) (if w0 = 1 ∧ B p q m w = 1 then 1 else F 1 p q m w) (F 2 p q m w + if w0 = 2 then B p q m w * v else 0) (1 + F 3 p q m w + if w0 = 3 then B p q m w * v else 0), ?_, ?_, ?_, ?_, ?_, fun a b1 b2 => ?_, fun i hi => ?_⟩
      · rw [show f + (c + (n + 1)) = f + 1 + L + (c0 + n) by omega, r1, s1, show fr + (c0 + n) + L = fr + (c0 + n + L) by omega, os, show fr + (c + (n + 1)) = fr + (c0 + n + L) + 1 by omega]
      · unfold os_ FS_
        simp (disch := omega) only [mu_n, mu_s]
        congr 1
        by_cases z : w0 = 0
        · subst z
          by_cases y : B p q m w = 1
          · rw [if_pos ⟨rfl, y⟩, if_pos rfl, if_pos (by omega), if_pos y]
          · rw [if_neg (fun u => y u.2), if_pos rfl, if_pos (by omega), if_neg y]
        · rw [if_neg (fun u => z u.1), if_neg (fun u => z u.symm)]
      · unfold os_ FS_
        simp (disch := omega) only [mu_n, mu_s]
        congr 1
        by_cases z : w0 = 1
        · subst z
          by_cases y : B p q m w = 1
          · rw [if_pos ⟨rfl, y⟩, if_pos rfl, if_pos (by omega), if_pos y]
          · rw [if_neg (fun u => y u.2), if_pos rfl, if_pos (by omega), if_neg y]
        · rw [if_neg (fun u => z u.1), if_neg (fun u => z u.symm)]
      · unfold os_ FS_
        simp (disch := omega) only [mu_n, mu_s]
        congr 1
        by_cases z : w0 = 2
        · subst z; rw [if_pos rfl, if_pos rfl, if_neg (by omega)]
        · rw [if_neg z, if_neg (fun u => z u.symm), Nat.add_zero]
      · unfold os_ FS_
        rw [mu_s]
        congr 1
        by_cases z : w0 = 3
        · subst z; rw [if_pos rfl, if_pos rfl, if_neg (by omega), Nat.add_assoc]
        · rw [if_neg z, if_neg (fun u => z u.symm), Nat.add_zero]
      · unfold os_
        simp (disch := omega) only [mu_a]
        rw [s2 a (by omega), r6.1 a b1 b2]
      · unfold os_
        simp (disch := omega) only [mu_n]
        rw [s2 0 (by omega), r6.2 i hi]
    · intro t σ M k1 k2 x hx f
      have sg := (hB p q m w).2 hp hq hm hw
      have b2 := (hB p q m w).1
      obtain ⟨a1, a2, a3, a4⟩ := g1 p q m w
      obtain ⟨z1, z2, ⟨z3, z4, z5⟩, ⟨z6, z7⟩, z8, z9⟩ := id k1
      have k1' : ct_ t W A E CD M n c0 := ⟨by omega, z2, ⟨z3, z4, z5⟩, ⟨by omega, z7⟩, fun k hk => z8 k (by omega), fun k hk => z9 k (by omega)⟩
      have ih := (g2 p q m w hp hq hm hw).2 t σ M k1' k2 x hx (f + 1)
      have k1c : ct_ t W A E CD M (n + 1) (c0 + L) := by rw [← h2]; exact k1
      have hol := ho_e (sd := sd) k1c h1 (by rw [h7, h2]) k2 sg.1 b2
      obtain ⟨y1, y2, y3⟩ := z8 n (by omega)
      have hb2 : B p q m w = 0 ∨ B p q m w = 1 := by omega
      refine ⟨fun hx2 => ?_, fun hx2 => ?_⟩
      · rw [show f + (n + 1) = f + 1 + n by omega, ih.1 hx2]
        have stp : b_X4_any_2 t (f + 1) σ (nI x) 20 (nI n) = (if x = w0 ∧ B p q m w = 1 then some (nI 1) else b_X4_any_2 t f σ (nI x) 20 (nI (n + 1))) := by
          show g_X4_any_2 t (b_X4_any_2 t f) σ (nI x) 20 (nI n) = _
          unfold g_X4_any_2 b_X4_any_32
          rw [z3, if_neg (show ¬ Int32.ofNat M ≤ nI n from nI_ge (by omega) (by omega)), ev_in (show n < M by omega) (by omega), gd_t, nI_clamp (show n < 2 ^ 31 by omega), y1, h5, hol, bd_s, lt_e, show nI n + (1 : Int32) = nI (n + 1) from nI_1 n]
          by_cases e : w0 = x
          · rw [if_pos (by rw [e])]
            rcases hb2 with zb | zb
            · rw [zb, if_pos (show nI 0 = (0 : Int32) from rfl), if_neg (fun u => absurd u.2 (by omega))]
            · rw [zb, if_neg (show ¬ nI 1 = (0 : Int32) by decide), if_pos ⟨e.symm, rfl⟩]; rfl
          · rw [if_neg (fun u => e ((nI_eq (by omega) (by omega)).mp u)), if_neg (fun u => e u.1.symm)]
        rw [stp]
        by_cases e : x = w0
        · by_cases zb : B p q m w = 1
          · have fs : FS_ F w0 v B x p q m w = 1 := by unfold FS_; rw [if_pos e, if_pos (show w0 < 2 by omega), if_pos zb]
            rw [fs, if_pos (show x = w0 ∧ B p q m w = 1 from ⟨e, zb⟩), ite_self, if_pos rfl]
          · have fs : FS_ F w0 v B x p q m w = F x p q m w := by unfold FS_; rw [if_pos e, if_pos (show w0 < 2 by omega), if_neg zb]
            rw [fs, if_neg (show ¬ (x = w0 ∧ B p q m w = 1) from fun u => zb u.2)]
        · have fs : FS_ F w0 v B x p q m w = F x p q m w := by unfold FS_; rw [if_neg e]
          rw [fs, if_neg (show ¬ (x = w0 ∧ B p q m w = 1) from fun u => e u.1)]
      · rw [show f + (n + 1) = f + 1 + n by omega, ih.2 hx2]
        show g_X4_sum_5 t (b_X4_sum_5 t f) σ (nI x) 20 (nI (F x p q m w)) (nI n) = _
        unfold g_X4_sum_5 b_X4_sum_46
        rw [z3, if_neg (show ¬ Int32.ofNat M ≤ nI n from nI_ge (by omega) (by omega)), ev_in (show n < M by omega) (by omega), gd_t, nI_clamp (show n < 2 ^ 31 by omega), y1, h5, hol, bd_s, z4, ev_in (show n < M by omega) (by omega), gd_t, y2, h6, lt_e, lt_e, lt_e, show nI n + (1 : Int32) = nI (n + 1) from nI_1 n, nI_add]
        by_cases e : w0 = x
        · have fs : FS_ F w0 v B x p q m w = F x p q m w + B p q m w * v := by unfold FS_; rw [if_pos e.symm, if_neg (show ¬ w0 < 2 by omega)]
          rw [fs, if_pos (show nI w0 = nI x by rw [e])]
          rcases hb2 with zb | zb
          · rw [zb, if_pos (show nI 0 = (0 : Int32) from rfl), Nat.zero_mul, Nat.add_zero (F x p q m w)]
          · rw [zb, if_neg (show ¬ nI 1 = (0 : Int32) by decide), Nat.one_mul]
        · have fs : FS_ F w0 v B x p q m w = F x p q m w := by unfold FS_; rw [if_neg (fun u => e u.symm)]
          rw [fs, if_neg (show ¬ nI w0 = nI x from fun u => e ((nI_eq (by omega) (by omega)).mp u))]
