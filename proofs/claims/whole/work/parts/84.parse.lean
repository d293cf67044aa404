/-! E, read by both -/
theorem iw_n {t : jx_T} {σ : jx_M} {du : Nat} (h : σ 0 34 = nI du) (h1 : ¬ du = 7) (h2 : ¬ du = 8) (hd : du < 100) : f_X3_isWhole t σ = some (nI 0, σ) := by
  unfold f_X3_isWhole b_X3_isWhole_13
  rw [h, if_neg (show ¬ nI du = (7 : Int32) from fun e => h1 ((nI_eq (b := 7) (by omega) (by omega)).mp e)), if_neg (show ¬ nI du = (8 : Int32) from fun e => h2 ((nI_eq (b := 8) (by omega) (by omega)).mp e))]
  rfl
/-- a reader in due du refuses at i: by the sign there, or by the end -/
theorem cf_i {t : jx_T} {N i du : Nat} {tp : Nat → Nat} {σ : jx_M} (ht : tp_ N tp σ) (hi : i ≤ N) (h : σ 0 34 = nI du) (h1 : ¬ du = 7) (h2 : ¬ du = 8) (hd : du < 100) (g : i < N → ∃ σ', f_X3_takes t σ (nI (tp i)) = some (nI 0, σ') ∧ KR σ σ') : CF t N σ i i := by
  by_cases e : i < N
  · obtain ⟨σ', g1, g2⟩ := g e
    exact st_n ht e g1 g2
  · have : i = N := by omega
    subst this
    exact st_e ht.1 (iw_n h h1 h2 hd) (KR_r σ)
def num_p (t : jx_T) (N a : Nat) (tp : Nat → Nat) (σl σm : jx_M) (du i c : Nat) (P : List Nat) (o e : Nat) : Prop := (∃ σm', f_X6_figures σm = some (nI 0, σm') ∧ MW σm' i ∧ KM a e σm σm' ∧ CF t N σl i i) ∨ (∃ σm' v k σa, f_X6_figures σm = some (nI v, σm') ∧ MD a N σm' (i + k) o e ∧ KM a e σm σm' ∧ v < 100 ∧ 1 ≤ k ∧ i + k ≤ N ∧ RN t N σl i σa (i + k) ∧ KE c σl σa ∧ RD σa (du + 1) c P o ∧ σa 0 37 = σl 0 37 ∧ σa 0 38 = σl 0 38 ∧ σa 0 39 = nI v ∧ (i + k < N → ¬ (48 ≤ tp (i + k) ∧ tp (i + k) ≤ 57) ∨ v = 0 ∨ 9 < v))
theorem num_e {t : jx_T} {N a i c o e du : Nat} {tp : Nat → Nat} {σl σm : jx_M} {P : List Nat} (hd : du = 2 ∨ du = 6) (ht : tp_ N tp σl) (hm : tm_ N tp σm) (h : RD σl du c P o) (g : MD a N σm i o e) (hi : i ≤ N) : num_p t N a tp σl σm du i c P o e := by
  by_cases d : dg_ N tp i
  · right
    obtain ⟨σm', v, k, f1, f2, f3, f4⟩ := fg_y hm g d
    obtain ⟨σ1, r1, r2, r3, r4, r5, r6⟩ := t1_y (t := t) hd h d.2
    have s1 := st_y ht d.1 r1
    have b1 := (ht.2 i d.1).2
    rcases f4 with ⟨z1, rfl, rfl⟩ | ⟨z1, rfl, rfl⟩
    · have b2 := (ht.2 (i + 1) z1.2.1).2
      have z2 := z1.2.2
      have z3 := z1.1
      have d2 := d.2
      obtain ⟨σ2, q1, q2, q3, q4, q5, q6⟩ := t2_y (t := t) hd r2 r6 z1.2.2 (show 1 ≤ tp i - 48 ∧ tp i - 48 ≤ 9 by omega)
      have s2 := st_y (tp_k ht (KE_R r3)) z1.2.1 q1
      refine ⟨σm', _, 2, σ2, f1, f2, f3, ?_, by omega, ?_, RN_t s1 s2, KE_t r3 q3 (Nat.le_refl c), q2, q4.trans r4, q5.trans r5, q6, fun _ => Or.inr (Or.inr ?_)⟩
      · omega
      · have := z1.2.1; omega
      · omega
    · have d2 := d.2
      refine ⟨σm', _, 1, σ1, f1, f2, f3, by omega, by omega, ?_, s1, r3, r2, r4, r5, r6, fun hj => ?_⟩
      · have := d.1; omega
      · by_cases y : 48 ≤ tp (i + 1) ∧ tp (i + 1) ≤ 57
        · right; left
          by_cases w : 49 ≤ tp i
          · exact absurd ⟨w, hj, y⟩ z1
          · omega
        · exact Or.inl y
  · left
    obtain ⟨σm', f1, f2, f3⟩ := fg_n hm g hi d
    refine ⟨σm', f1, f2, f3, cf_i ht hi h.1 (by omega) (by omega) (by omega) (fun hj => ⟨σl, ?_, KR_r σl⟩)⟩
    exact t1_n hd h.1 (ht.2 i hj).2 (fun y => d ⟨hj, y⟩)
def PE (N a : Nat) (tp : Nat → Nat) (σl σm : jx_M) (du i c : Nat) (P : List Nat) (o e : Nat) : Prop := tp_ N tp σl ∧ tm_ N tp σm ∧ RD σl du c P o ∧ MD a N σm i o e ∧ i ≤ N ∧ ps_ P o ∧ c + P.length ≤ i ∧ e + P.length ≤ i ∧ o ≤ 5 ∧ a < 5
def OW (t : jx_T) (N a e : Nat) (σl σm : jx_M) (i : Nat) (f : Option jx_M) : Prop := ∃ σm' j, f = some σm' ∧ MW σm' j ∧ KM a e σm σm' ∧ j ≤ N ∧ CF t N σl i j
def OK_ (t : jx_T) (N a : Nat) (tp : Nat → Nat) (e : Nat) (σl σm : jx_M) (i c : Nat) (P : List Nat) (o D : Nat) (ex : Nat → Prop) (σm' : jx_M) : Prop := ∃ j σa σv L, MD a N σm' j o (e + L) ∧ KM a e σm σm' ∧ j ≤ N ∧ RN t N σl i σa j ∧ KR σl σa ∧ VR t N tp σa σv j ∧ RD σv 8 (c + L) P o ∧ KE c σl σv ∧ SG (σv 64) (fun k => σm' 1 (220 + 140 * a + k)) c e L D ∧ c + L + P.length ≤ j ∧ e + L + P.length ≤ j ∧ ex j
def OO (t : jx_T) (N a : Nat) (tp : Nat → Nat) (e : Nat) (σl σm : jx_M) (i c : Nat) (P : List Nat) (o D : Nat) (ex : Nat → Prop) (f : Option jx_M) : Prop := OW t N a e σl σm i f ∨ ∃ σm', f = some σm' ∧ OK_ t N a tp e σl σm i c P o D ex σm'
def FPr (t : jx_T) (N a : Nat) (tp : Nat → Nat) (F : jx_M → Option jx_M) (q : Nat) : Prop := (∀ σm j, MW σm j → F σm = some σm) ∧ ∀ σl σm i c P o e, q ≤ o → PE N a tp σl σm 4 i c P o e → P.length ≤ 3 * o + 2 → OO t N a tp e σl σm i c P o (1 + 2 * (5 - o)) (fun _ => True) (F σm)
theorem MW_7 {a N σ} {i o e : Nat} (h : MD a N σ i o e) : MW (jx_mu σ 0 7 (nI 1)) i := ⟨mu_s, by rw [mu_n (by omega)]; exact h.2.1⟩
/-- from a wrong sign on: nothing more is read -/
theorem w169 {F : jx_M → Option jx_M} {a e j : Nat} {σ : jx_M} (h5 : σ 0 5 = nI j) (v2 v3 : Int32) : ∃ σ', b_X6_factor_164 F σ v2 v3 = some σ' ∧ MW σ' j ∧ KM a e σ σ' := by
  have hw : MW (jx_mu σ 0 7 (nI 1)) j := ⟨mu_s, by rw [mu_n (by omega)]; exact h5⟩
  obtain ⟨σ1, f1, f2, f3⟩ := fg_w (a := a) (e := e) hw
  refine ⟨σ1, ?_, f2, KM_t (KM_0 (by omega)) f3 (Nat.le_refl e)⟩
  unfold b_X6_factor_164 b_X6_factor_169
  rw [show (decide ((1 : Int32) = 0 ∨ (1 : Int32) = 1)) = true from by decide, gd_t, lt_e, show f_X6_figures (jx_mu σ 0 7 (1 : Int32)) = _ from f1, bd_s, em_w f2, bd_s]
theorem fac_t {t : jx_T} {N a i c o e : Nat} {tp : Nat → Nat} {σl σm : jx_M} {P : List Nat} (F : jx_M → Option jx_M) (h : PE N a tp σl σm 4 i c P o e) (h1 : ¬ (i < N ∧ tp i = 33)) (h2 : ¬ (i < N ∧ tp i = 40)) {D : Nat} (hD : 1 ≤ D ∧ D ≤ 40) : OO t N a tp e σl σm i c P o D (fun _ => True) (fB_X6_factor F σm) := by
  obtain ⟨ht, hm, hr, hd, hi, hp, hc, he, ho, ha⟩ := h
  have hN := ht.1
  have tl := fun k hk => (hm.2 k hk).2
  have hh := here_e hm hd.2.1 hd.2.2.1 hi
  have e0 : fB_X6_factor F σm = jx_bd (f_X6_among σm 1) (fun q5 => if q5.1 = (-1 : Int32) then (b_X6_factor_130 F q5.2 q5.1 (1 : Int32)) else (b_X6_factor_130 F q5.2 q5.1 (0 : Int32))) := by
    unfold fB_X6_factor
    rw [hd.2.2.2.1, if_pos (show nI 0 = (0 : Int32) from rfl), hh, bd_s, if_neg (show ¬ hv_ N tp i = (33 : Int32) from fun z => h1 ((hv_i (x := 33) tl (by omega)).mp z)), if_neg (show ¬ hv_ N tp i = (40 : Int32) from fun z => h2 ((hv_i (x := 40) tl (by omega)).mp z))]
  rw [e0]
  by_cases s1 : i < N ∧ sx_ (tp i) < 4
  · obtain ⟨σm1, a1, a2, a3⟩ := as_y hm hd s1.1 s1.2
    have hm1 := tm_k hm a3
    obtain ⟨σ1, b1, b2, b3, b4⟩ := t4_s (t := t) hr (ht.2 i s1.1).2 (fun z => h1 ⟨s1.1, z⟩) (fun z => h2 ⟨s1.1, z⟩)
    rw [if_pos s1.2] at b1
    have ht1 := tp_k ht (KE_R b3)
    have st1 := st_y ht s1.1 b1
    have m17 := MD_7 a2
    have hm17 := tm_k hm1 (KM_0 (a := a) (e := e) (x := nI 0) (i := 7) (by omega))
    have e1 : jx_bd (f_X6_among σm 1) (fun q5 => if q5.1 = (-1 : Int32) then (b_X6_factor_130 F q5.2 q5.1 (1 : Int32)) else (b_X6_factor_130 F q5.2 q5.1 (0 : Int32))) = jx_bd (f_X6_among (jx_mu σm1 0 7 (nI 0)) 2) (fun q4 => (b_X6_factor_150 F q4.2 (nI (sx_ (tp i))) q4.1)) := by
      rw [a1, bd_s, if_neg (show ¬ (nI (sx_ (tp i)), σm1).1 = (-1 : Int32) from ni_n (by have := s1.2; omega) (by decide))]
      unfold b_X6_factor_130
      rw [show (decide ((0 : Int32) = 0 ∨ (0 : Int32) = 1)) = true from by decide, gd_t, lt_e]
      rw [show (jx_mu σm1 0 7 (0 : Int32)) 0 7 = nI 0 from mu_s, if_pos (show nI 0 = (0 : Int32) from rfl)]
      rfl
    rw [e1]
    by_cases s2 : i + 1 < N ∧ rx_ (tp (i + 1)) < 3
    · obtain ⟨σm2, c1, c2, c3⟩ := ar_y hm17 m17 s2.1 s2.2
      have hm2 := tm_k hm17 c3
      obtain ⟨σ2, d1, d2, d3, d4, d5⟩ := t5_s (t := t) b2 (ht.2 (i + 1) s2.1).2
      rw [if_pos s2.2] at d1
      have ht2 := tp_k ht1 (KE_R d3)
      have st2 := st_y ht1 s2.1 d1
      have m27 := MD_7 c2
      have hm27 := tm_k hm2 (KM_0 (a := a) (e := e) (x := nI 0) (i := 7) (by omega))
      have km : KM a e σm (jx_mu σm2 0 7 (nI 0)) := KM_t a3 (KM_t (KM_0 (by omega)) (KM_t c3 (KM_0 (by omega)) (Nat.le_refl e)) (Nat.le_refl e)) (Nat.le_refl e)
      have e2 : jx_bd (f_X6_among (jx_mu σm1 0 7 (nI 0)) 2) (fun q4 => (b_X6_factor_150 F q4.2 (nI (sx_ (tp i))) q4.1)) = jx_bd (f_X6_figures (jx_mu σm2 0 7 (nI 0))) (fun q3 => jx_bd (f_X6_emits q3.2 ((nI (sx_ (tp i)) + ((8 : Int32) * nI (rx_ (tp (i + 1))))) + ((32 : Int32) * q3.1))) (fun q4 => some q4)) := by
        rw [c1, bd_s]
        unfold b_X6_factor_150 b_X6_factor_169
        rw [show (nI (rx_ (tp (i + 1))), σm2).2 0 7 = nI 0 from c2.2.2.2.1, if_pos (show nI 0 = (0 : Int32) from rfl), if_neg (show ¬ (nI (rx_ (tp (i + 1))), σm2).1 = (-1 : Int32) from ni_n (by have := s2.2; omega) (by decide)), show (decide ((0 : Int32) = 0 ∨ (0 : Int32) = 1)) = true from by decide, gd_t, lt_e]
        rfl
      rw [e2]
      have nm := num_e (t := t) (du := 6) (Or.inr rfl) ht2 hm27 d2 m27 (show i + 1 + 1 ≤ N by have := s2.1; omega)
      rcases nm with ⟨σm3, n1, n2, n3, n4⟩ | ⟨σm3, v, k, σa, n1, n2, n3, n4, n5, n6, n7, n8, n9, n10, n11, n12, n13⟩
      · left
        refine ⟨σm3, i + 1 + 1, ?_, n2, KM_t km n3 (Nat.le_refl e), by have := s2.1; omega, CF_t (RN_t st1 st2) (KR_t (KE_R b3) (KE_R d3)) (by have := s2.1; omega) n4⟩
        rw [n1, bd_s, em_w n2, bd_s]
      · right
        have zv : (nI (sx_ (tp i)) + ((8 : Int32) * nI (rx_ (tp (i + 1))))) + ((32 : Int32) * nI v) = nI (sx_ (tp i) + 8 * rx_ (tp (i + 1)) + 32 * v) := by
          rw [show (8 : Int32) * nI (rx_ (tp (i + 1))) = nI (8 * rx_ (tp (i + 1))) from pk_mul 8 _, show (32 : Int32) * nI v = nI (32 * v) from pk_mul 32 _, nI_add, nI_add]
        obtain ⟨σm4, x1, x2, x3, x4⟩ := em_y n2 ha (show e < 140 by omega) (nI (sx_ (tp i) + 8 * rx_ (tp (i + 1)) + 32 * v))
        have kl : KE c σl σa := KE_t b3 (KE_t d3 n8 (Nat.le_refl c)) (Nat.le_refl c)
        have hta := tp_k ht (KE_R kl)
        have w37 : σa 0 37 = nI (sx_ (tp i)) := by rw [n10, d4]; exact b4 s1.2
        have w38 : σa 0 38 = nI (rx_ (tp (i + 1))) := by rw [n11]; exact d5 s2.2
        have er := et_r (wh := sx_ (tp i)) (how := rx_ (tp (i + 1))) (v := v) n9
        refine ⟨σm4, ?_, i + 1 + 1 + k, σa, et_ σa c (sx_ (tp i)) (rx_ (tp (i + 1))) v, 1, x2, KM_t km (KM_t n3 x4 (Nat.le_refl e)) (Nat.le_refl e), n6, RN_t st1 (RN_t st2 n7), KE_R kl, VR_e hta n9 (by omega) w37 w38 n12 s1.2 s2.2 n4 n13, er.1, KE_t kl er.2.2 (Nat.le_refl c), SG_D (SG_test s1.2 s2.2 n4 er.2.1 x3) hD.1 hD.2, by omega, by omega, trivial⟩
        rw [n1, bd_s]
        show jx_bd (f_X6_emits σm3 ((nI (sx_ (tp i)) + ((8 : Int32) * nI (rx_ (tp (i + 1))))) + ((32 : Int32) * nI v))) _ = _
        rw [zv, x1, bd_s]
    · left
      have hi1 : i + 1 ≤ N := by have := s1.1; omega
      have an := ar_n hm17 m17.2.1 m17.2.2.1 hi1 s2
      obtain ⟨σm3, w1, w2, w3⟩ := w169 (F := F) (a := a) (e := e) (σ := jx_mu σm1 0 7 (nI 0)) m17.2.1 (nI (sx_ (tp i))) (-nI 1)
      refine ⟨σm3, i + 1, ?_, w2, KM_t a3 (KM_t (KM_0 (by omega)) w3 (Nat.le_refl e)) (Nat.le_refl e), hi1, CF_t st1 (KE_R b3) hi1 (cf_i ht1 hi1 b2.1 (by omega) (by omega) (by omega) (fun hj => ?_))⟩
      · rw [an, bd_s]
        unfold b_X6_factor_150
        rw [show (-nI 1, jx_mu σm1 0 7 (nI 0)).2 0 7 = nI 0 from (mu_s : jx_mu σm1 0 7 (nI 0) 0 7 = nI 0), if_pos (show nI 0 = (0 : Int32) from rfl), if_pos (show (-nI 1, jx_mu σm1 0 7 (nI 0)).1 = (-1 : Int32) from rfl)]
        exact w1
      · obtain ⟨σ2, d1, d2, d3, d4, d5⟩ := t5_s (t := t) b2 (ht.2 (i + 1) hj).2
        rw [if_neg (fun z => s2 ⟨hj, z⟩)] at d1
        exact ⟨σ2, d1, KE_R d3⟩
  · left
    have an := as_n hm hd.2.1 hd.2.2.1 hi s1
    have hw7 : (jx_mu σm 0 7 (nI 1)) 0 5 = nI i := by rw [mu_n (by omega)]; exact hd.2.1
    obtain ⟨σm3, w1, w2, w3⟩ := w169 (F := F) (a := a) (e := e) (σ := jx_mu σm 0 7 (nI 1)) hw7 (-nI 1) 0
    refine ⟨σm3, i, ?_, w2, KM_t (KM_0 (by omega)) w3 (Nat.le_refl e), hi, cf_i ht hi hr.1 (by omega) (by omega) (by omega) (fun hj => ?_)⟩
    · rw [an, bd_s, if_pos (show (-nI 1, σm).1 = (-1 : Int32) from rfl)]
      unfold b_X6_factor_130 b_X6_factor_150
      rw [show (decide ((1 : Int32) = 0 ∨ (1 : Int32) = 1)) = true from by decide, gd_t, lt_e, show (jx_mu (-nI 1, σm).2 0 7 (1 : Int32)) 0 7 = nI 1 from mu_s, if_neg (show ¬ nI 1 = (0 : Int32) by decide), if_neg (show ¬ nI 1 = (0 : Int32) by decide)]
      exact w1
    · obtain ⟨σ1, b1, b2, b3, b4⟩ := t4_s (t := t) hr (ht.2 i hj).2 (fun z => h1 ⟨hj, z⟩) (fun z => h2 ⟨hj, z⟩)
      rw [if_neg (fun z => s1 ⟨hj, z⟩)] at b1
      exact ⟨σ1, b1, KE_R b3⟩
/-! & and | -/
theorem ps_m : ∀ (P : List Nat) {o o' : Nat}, ps_ P o → o ≤ o' → ps_ P o'
  | [], _, _, _, _ => trivial
  | x :: P, o, o', h, g => by
    refine ⟨h.1, fun e => Nat.le_trans (h.2.1 e) g, ?_⟩
    by_cases e : x = 1
    · have h2 := h.2.2
      rw [if_pos e] at h2 ⊢
      exact ps_m P h2 (by omega)
    · have h2 := h.2.2
      rw [if_neg e] at h2 ⊢
      exact ps_m P h2 g
def hd_ (x : Nat) (P : List Nat) : Prop := P = [] ∨ ∃ y Q, P = y :: Q ∧ x < y ∧ y ≤ 4
theorem hd_lt : ∀ x, x ≤ 3 → ∀ y, y ≤ 4 → x < y → (-nI y : Int32) < -nI x := by
  intro x hx y hy h
  have hx' : x = 0 ∨ x = 1 ∨ x = 2 ∨ x = 3 := by omega
  have hy' : y = 1 ∨ y = 2 ∨ y = 3 ∨ y = 4 := by omega
  rcases hx' with rfl | rfl | rfl | rfl <;> rcases hy' with rfl | rfl | rfl | rfl <;> first | decide | omega
theorem hd_w {t : jx_T} {σ : jx_M} {du c o x : Nat} {P : List Nat} (h : RD σ du c P o) (hl : P.length ≤ 17) (hx : x ≤ 3) (g : hd_ x P) : f_X3_writePending t σ (-nI x) = some σ := by
  refine wp_0 h hl ?_
  rcases g with g | ⟨y, Q, g1, g2, g3⟩
  · exact Or.inl g
  · exact Or.inr ⟨y, Q, g1, hd_lt x hx y g3 g2⟩
/-- an operator is taken -/
theorem op_t {t : jx_T} {σ : jx_M} {c o s x : Nat} {P : List Nat} (h : RD σ 8 c P o) (hl : P.length < 17) (hx : (s = 38 ∧ x = 2) ∨ (s = 124 ∧ x = 3)) (g : hd_ x P) : ∃ σ', f_X3_takes t σ (nI s) = some (nI 1, σ') ∧ RD σ' 4 c (x :: P) o ∧ KE c σ σ' := by
  obtain ⟨h1, h2, h3, h4, h5⟩ := id h
  refine ⟨jx_mu (jx_mu (jx_mu σ 65 P.length (-nI x)) 0 32 (nI (P.length + 1))) 0 34 (nI 4), ?_, ⟨mu_s, ?_, ?_, ⟨?_, ?_⟩, ?_⟩, fun b b0 b1 b2 => ?_, fun i i1 i2 => ?_, fun k hk => ?_⟩
  · rw [tk_8 h1]
    have w := hd_w (t := t) h (by omega) (show x ≤ 3 by omega) g
    have p1 := pe_e (t := t) h3 hl (-nI x)
    have key : f_X3_takesOperator t σ (-nI x) = some (nI 1, jx_mu (jx_mu (jx_mu σ 65 P.length (-nI x)) 0 32 (nI (P.length + 1))) 0 34 (nI 4)) := by
      unfold f_X3_takesOperator
      rw [w, bd_s, p1, bd_s, lt_e]
      rfl
    unfold f_X3_takesJoint
    rcases hx with ⟨rfl, rfl⟩ | ⟨rfl, rfl⟩
    · rw [if_pos (show nI 38 = (38 : Int32) from rfl), show f_X3_takesOperator t σ (-2 : Int32) = _ from key]; rfl
    · rw [if_neg (show ¬ nI 124 = (38 : Int32) by decide), if_neg (show ¬ nI 124 = (41 : Int32) by decide), if_neg (show ¬ nI 124 = (59 : Int32) by decide), if_pos (show nI 124 = (124 : Int32) from rfl), show f_X3_takesOperator t σ (-3 : Int32) = _ from key]; rfl
  · simp (disch := omega) only [mu_n, mu_a]; exact h2
  · rw [mu_n (by omega), mu_s]; rfl
  · simp (disch := omega) only [mu_a, mu_s]
  · refine pk_l_c P (fun k hk => ?_) h4
    simp (disch := omega) only [mu_a, mu_n]
  · simp (disch := omega) only [mu_n, mu_a]; exact h5
  · simp (disch := omega) only [mu_a]
  · simp (disch := omega) only [mu_n, mu_a]
  · simp (disch := omega) only [mu_a]
def loop_q (W : Nat → jx_M → Option jx_M) (G : jx_M → Option jx_M) (s x : Nat) : Prop := ∀ n σ, W (n + 1) σ = (if (σ 0 7) = 0 then jx_bd (f_X6_here σ) (fun q2 => if q2 = nI s then jx_lt (jx_mu σ 0 5 ((σ 0 5) + (1 : Int32))) (fun σ4 => jx_bd (G σ4) (fun q5 => jx_bd (f_X6_emits q5 (-nI x)) (fun q6 => (W n q6)))) else some σ) else some σ)
theorem loop_w {W : Nat → jx_M → Option jx_M} {G : jx_M → Option jx_M} {s x j : Nat} (hW : loop_q W G s x) {σ : jx_M} (h : MW σ j) (n : Nat) : W (n + 1) σ = some σ := by
  rw [hW, h.1, if_neg (by decide)]
/-- both go on over operators of one kind -/
theorem loop_e {t : jx_T} {N a c o e i s x D D2 : Nat} {tp : Nat → Nat} {σl σm : jx_M} {P : List Nat} {W : Nat → jx_M → Option jx_M} {G : jx_M → Option jx_M} (ex : Nat → Prop) (hW : loop_q W G s x) (hx : (s = 38 ∧ x = 2) ∨ (s = 124 ∧ x = 3)) (ht : tp_ N tp σl) (hm : tm_ N tp σm) (ha : a < 5) (ho : o ≤ 5) (hps : ps_ P o) (hP : P.length < 17) (hh : hd_ x P) (hD : D2 + 1 ≤ D ∧ D ≤ 40)
    (hG : ∀ σ1 σ2 i1 c1 e1, PE N a tp σ1 σ2 4 i1 c1 (x :: P) o e1 → OO t N a tp e1 σ1 σ2 i1 c1 (x :: P) o D2 ex (G σ2)) (hGw : ∀ σ j, MW σ j → G σ = some σ) (hex : x = 3 → ∀ j, ex j → ¬ (j < N ∧ tp j = 38)) :
    ∀ (n : Nat) (τ : jx_M) (j : Nat), N < j + n → (∃ σa σv L, MD a N τ j o (e + L) ∧ KM a e σm τ ∧ j ≤ N ∧ RN t N σl i σa j ∧ KR σl σa ∧ VR t N tp σa σv j ∧ RD σv 8 (c + L) P o ∧ KE c σl σv ∧ SG (σv 64) (fun k => τ 1 (220 + 140 * a + k)) c e L D ∧ c + L + P.length ≤ j ∧ e + L + P.length ≤ j ∧ ex j) → OO t N a tp e σl σm i c P o D (fun j => ex j ∧ ¬ (j < N ∧ tp j = s)) (W n τ) := by
  intro n
  induction n with
  | zero => intro τ j h1 ⟨σa, σv, L, _, _, h2, _⟩; omega
  | succ n ih =>
    intro τ j hn ⟨σa, σv, L, q1, q2, q3, q4, q5, q6, q7, q8, q9, q10, q11, q12⟩
    have hN := ht.1
    have hmτ := tm_k hm q2
    have tl := fun k hk => (hm.2 k hk).2
    have hh2 := here_e hmτ q1.2.1 q1.2.2.1 q3
    rw [hW, q1.2.2.2.1, if_pos (show nI 0 = (0 : Int32) from rfl), hh2, bd_s]
    by_cases g : j < N ∧ tp j = s
    · rw [if_pos ((hv_i tl (by omega)).mpr g), lt_e, q1.2.1, show nI j + (1 : Int32) = nI (j + 1) from nI_1 j]
      have m1 := MD_5 (j := j + 1) q1
      have k1 : KM a (e + L) τ (jx_mu τ 0 5 (nI (j + 1))) := KM_0 (by omega)
      have hm1 := tm_k hmτ k1
      have htv := tp_k ht (KE_R q8)
      have hta := tp_k ht q5
      obtain ⟨σn, o1, o2, o3⟩ := op_t (t := t) q7 hP hx hh
      have tk : f_X3_takes t σa (nI (tp j)) = some (nI 1, σn) := by
        rw [(q6.1 g.1).1 (by unfold jt_; omega), g.2]; exact o1
      have st := st_y hta g.1 tk
      have krn : KR σl σn := KR_t (KE_R q8) (KE_R o3)
      have pe : PE N a tp σn (jx_mu τ 0 5 (nI (j + 1))) 4 (j + 1) (c + L) (x :: P) o (e + L) := by
        refine ⟨tp_k htv (KE_R o3), hm1, o2, m1, by have := g.1; omega, ⟨by omega, fun z => absurd z (by omega), ?_⟩, ?_, ?_, ho, ha⟩
        · rw [if_neg (by omega)]; exact hps
        · show c + L + (P.length + 1) ≤ j + 1; omega
        · show e + L + (P.length + 1) ≤ j + 1; omega
      have gg := hG _ _ _ _ _ pe
      rcases gg with ⟨σm2, j2, w1, w2, w3, w4, w5⟩ | ⟨σm2, w0, j2, σa2, σv2, L2, w1, w2, w3, w4, w5, w6, w7, w8, w9, w10, w11, w12⟩
      · left
        refine ⟨σm2, j2, ?_, w2, KM_t q2 (KM_t k1 w3 (Nat.le_refl _)) (by omega), w4, CF_t q4 q5 q3 (CF_t st (KR_t ⟨fun b b0 b1 => (q5.1 b b0 b1).symm, fun i i1 => (q5.2 i i1).symm⟩ krn) (by have := g.1; omega) w5)⟩
        rw [w1, bd_s, em_w w2, bd_s]
        obtain ⟨n', rfl⟩ : ∃ n', n = n' + 1 := ⟨n - 1, by have := g.1; omega⟩
        exact loop_w hW w2 n'
      · have wl : c + L + L2 + (P.length + 1) ≤ j2 := w10
        have wm : e + L + L2 + (P.length + 1) ≤ j2 := w11
        obtain ⟨σm3, z1, z2, z3, z4⟩ := em_y w1 ha (show e + L + L2 < 140 by omega) (-nI x)
        have htv2 := tp_k (tp_k htv (KE_R o3)) (KE_R w8)
        have pr := pp_r w7
        have hps2 : ps_ (x :: P) o := ⟨by omega, fun z => absurd z (by omega), by rw [if_neg (by omega)]; exact hps⟩
        have vp := VR_p (t := t) (j := j2) htv2 w7 hps2 hP (by omega) (by omega) (fun z hj y => hex z j2 w12 ⟨hj, y⟩)
        have x1 : ¬ x = 1 := by omega
        rw [if_neg x1] at pr
        rw [w0, bd_s, z1, bd_s]
        have kv : KE (c + L) σv (pp_ σv2 x (c + L + L2) P.length o) := KE_t o3 (KE_t w8 pp_k (by omega)) (Nat.le_refl _)
        have km3 : KM a (e + L) τ σm3 := KM_t k1 (KM_t w2 z4 (by omega)) (Nat.le_refl _)
        have st2 := st.1
        refine ih σm3 j2 (by have := w4.1; omega) ⟨σa2, pp_ σv2 x (c + L + L2) P.length o, L + L2 + 1, ?_, KM_t q2 km3 (by omega), w3, RN_t q4 (RN_t st w4), KR_t krn w5, VR_t w6 vp, ?_, KE_t q8 kv (by omega), ?_, by omega, by omega, w12⟩
        · rw [show e + (L + L2 + 1) = e + L + L2 + 1 by omega]; exact z2
        · rw [show c + (L + L2 + 1) = c + L + L2 + 1 by omega]; exact pr.1
        · have sg1 : SG (pp_ σv2 x (c + L + L2) P.length o 64) (fun k => σm3 1 (220 + 140 * a + k)) c e L D := SG_c q9 (fun k _ k2 => kv.2.2 k (by omega)) (fun k _ k2 => km3.2.2 _ (by omega) (by omega))
          have sg2 : SG (pp_ σv2 x (c + L + L2) P.length o 64) (fun k => σm3 1 (220 + 140 * a + k)) (c + L) (e + L) L2 D2 := SG_c w9 (fun k _ k2 => pp_k.2.2 k (by omega)) (fun k _ k2 => z4.2.2 _ (by omega) (by omega))
          rcases hx with ⟨-, rfl⟩ | ⟨-, rfl⟩
          · refine SG_bin sg1 sg2 (Nat.le_refl _) hD.1 hD.2 true ?_ ?_
            · rw [show c + (L + L2) = c + L + L2 by omega]; exact pr.2
            · show σm3 1 (220 + 140 * a + (e + (L + L2))) = _
              rw [show e + (L + L2) = e + L + L2 by omega]; exact z3
          · refine SG_bin sg1 sg2 (Nat.le_refl _) hD.1 hD.2 false ?_ ?_
            · rw [show c + (L + L2) = c + L + L2 by omega]; exact pr.2
            · show σm3 1 (220 + 140 * a + (e + (L + L2))) = _
              rw [show e + (L + L2) = e + L + L2 by omega]; exact z3
    · rw [if_neg (fun z => g ((hv_i tl (by omega)).mp z))]
      right
      exact ⟨τ, rfl, j, σa, σv, L, q1, q2, q3, q4, q5, q6, q7, q8, q9, q10, q11, q12, g⟩
