/-! clauses -/
def wl_ (w : Nat) : Nat := [5, 5, 4, 6].getD w 0
def ws_ (w : Nat) : Nat := [0, 5, 10, 14].getD w 0
def wc_ (k : Nat) : Nat := [115, 105, 100, 101, 32, 104, 111, 108, 100, 32, 111, 105, 108, 32, 119, 101, 105, 103, 104, 32].getD k 0
theorem cw0 : ∀ k, k < 20 → f_J0_charAt_5068e 0 (nI k) = some (nI (wc_ k)) := by decide +kernel
theorem cww : ∀ w, w < 4 → ∀ k, k < wl_ w → f_J0_charAt_5068e (3 + w) (nI k) = some (nI (wc_ (ws_ w + k))) := by decide +kernel
theorem slw : ∀ w, w < 4 → f_J0_length_8abf5 (3 + w) = some (nI (wl_ w)) := by decide +kernel
theorem zsw : ∀ w, w < 4 → zs_STARTS w = nI (ws_ w) := by decide
theorem wlb : ∀ w, w < 4 → 2 ≤ wl_ w ∧ wl_ w ≤ 6 ∧ ws_ w + wl_ w ≤ 20 := by decide
theorem wcb : ∀ k, k < 20 → wc_ k < 128 := by decide
theorem wcl : ∀ w, w < 4 → ∀ k, k < wl_ w → (wc_ (ws_ w + k) = 32 ↔ k + 1 = wl_ w) := by decide
def KC (n c : Nat) (σ σ' : jx_M) : Prop := (∀ b, ¬ b = 0 → ¬ (61 ≤ b ∧ b ≤ 65) → σ' b = σ b) ∧ (∀ i, ¬ (30 ≤ i ∧ i ≤ 39) → σ' 0 i = σ 0 i) ∧ (∀ k, k < n → σ' 61 k = σ 61 k ∧ σ' 62 k = σ 62 k ∧ σ' 63 k = σ 63 k) ∧ ∀ k, k < c → σ' 64 k = σ 64 k
theorem KC_R {n c : Nat} {a b : jx_M} (h : KC n c a b) : KR a b := ⟨h.1, h.2.1⟩
theorem KC_r (n c : Nat) (a : jx_M) : KC n c a a := ⟨fun _ _ _ => rfl, fun _ _ => rfl, fun _ _ => ⟨rfl, rfl, rfl⟩, fun _ _ => rfl⟩
theorem KC_t {n n' c c' : Nat} {a b d : jx_M} (h : KC n c a b) (g : KC n' c' b d) (hn : n ≤ n') (hc : c ≤ c') : KC n c a d :=
  ⟨fun x h0 h1 => (g.1 x h0 h1).trans (h.1 x h0 h1), fun i h1 => (g.2.1 i h1).trans (h.2.1 i h1), fun k hk => ⟨(g.2.2.1 k (by omega)).1.trans (h.2.2.1 k hk).1, (g.2.2.1 k (by omega)).2.1.trans (h.2.2.1 k hk).2.1, (g.2.2.1 k (by omega)).2.2.trans (h.2.2.1 k hk).2.2⟩, fun k hk => (g.2.2.2 k (by omega)).trans (h.2.2.2 k hk)⟩
theorem KE_C {n c : Nat} {a b : jx_M} (h : KE c a b) : KC n c a b :=
  ⟨fun x h0 h1 => h.1 x h0 (by omega) (by omega), fun i h1 => h.2.1 i (by omega) (by omega), fun k hk => by rw [h.1 61 (by omega) (by omega) (by omega), h.1 62 (by omega) (by omega) (by omega), h.1 63 (by omega) (by omega) (by omega)]; exact ⟨rfl, rfl, rfl⟩, h.2.2⟩
theorem KC_0 {n c i : Nat} {σ : jx_M} {x : Int32} (hi : 30 ≤ i ∧ i ≤ 39) : KC n c σ (jx_mu σ 0 i x) :=
  ⟨fun b h0 _ => mu_a h0, fun j h1 => mu_n (by omega), fun k _ => by rw [mu_a (by omega), mu_a (by omega), mu_a (by omega)]; exact ⟨rfl, rfl, rfl⟩, fun k _ => by rw [mu_a (by omega)]⟩
theorem KC_n {n c r : Nat} {σ : jx_M} {x : Int32} (hr : r = 61 ∨ r = 62 ∨ r = 63) : KC n c σ (jx_mu σ r n x) := by
  refine ⟨fun b h0 h1 => mu_a (by omega), fun j h1 => by rw [mu_a (by omega)], fun k hk => ?_, fun k _ => by rw [mu_a (by omega)]⟩
  rcases hr with rfl | rfl | rfl
  · rw [mu_n (by omega), mu_a (by omega), mu_a (by omega)]; exact ⟨rfl, rfl, rfl⟩
  · rw [mu_a (by omega), mu_n (by omega), mu_a (by omega)]; exact ⟨rfl, rfl, rfl⟩
  · rw [mu_a (by omega), mu_a (by omega), mu_n (by omega)]; exact ⟨rfl, rfl, rfl⟩
theorem RD_o {σ σ' : jx_M} {du c o : Nat} {P : List Nat} (h : RD σ du c P o) (h34 : σ' 0 34 = σ 0 34) (h31 : σ' 0 31 = σ 0 31) (h32 : σ' 0 32 = σ 0 32) (h33 : σ' 0 33 = σ 0 33) (h65 : σ' 65 = σ 65) : RD σ' du c P o := by
  unfold RD
  rw [h34, h31, h32, h33, h65]
  exact h
/-! the first letter -/
theorem tk_0 {t : jx_T} {σ : jx_M} (h : σ 0 34 = nI 0) (s : Int32) : f_X3_takes t σ s = jx_bd (f_X3_takesWord t σ s) (fun q1 => jx_gd (decide (q1.1 = 0 ∨ q1.1 = 1)) (some (q1.1, q1.2))) := by
  unfold f_X3_takes
  rw [h, if_pos (show nI 0 = (0 : Int32) from rfl)]
theorem tw_s {t : jx_T} {σ : jx_M} {x w n : Nat} (hw : w < 4) (hx : x ≤ 127) : b_X3_takesWord_2 t (n + 1) σ (nI x) (nI w) = (if x = wc_ (ws_ w) then some (nI 1, jx_mu (jx_mu (jx_mu σ 0 35 (nI w)) 0 36 (nI (ws_ w + 1))) 0 34 (nI 1)) else b_X3_takesWord_2 t n σ (nI x) (nI (w + 1))) := by
  have b := wlb w hw
  have c := wcb (ws_ w) (by omega)
  show g_X3_takesWord_2 t (b_X3_takesWord_2 t n) σ (nI x) (nI w) = _
  unfold g_X3_takesWord_2
  rw [if_neg (show ¬ (4 : Int32) ≤ nI w from nI_ge (b := 4) hw (by omega)), ev_in hw (by omega), gd_t, nI_clamp (show w < 2 ^ 31 by omega), zsw w hw, cw0 _ (by omega), bd_s, show nI w + (1 : Int32) = nI (w + 1) from nI_1 w, show nI (ws_ w) + (1 : Int32) = nI (ws_ w + 1) from nI_1 _]
  simp only [lt_e, gd_t]
  by_cases e : x = wc_ (ws_ w)
  · rw [if_pos e, if_pos (by rw [e])]; rfl
  · rw [if_neg e, if_neg (fun z => e ((nI_eq (by omega) (by omega)).mp z).symm)]
theorem tw_4 {t : jx_T} {σ : jx_M} {x : Int32} {n : Nat} : b_X3_takesWord_2 t (n + 1) σ x (nI 4) = some (nI 0, σ) := by
  show g_X3_takesWord_2 t (b_X3_takesWord_2 t n) σ x (nI 4) = _
  unfold g_X3_takesWord_2
  rw [if_pos (show (4 : Int32) ≤ nI 4 by decide)]
  rfl
def wi_ (x : Nat) : Nat := if x = 115 then 0 else if x = 104 then 1 else if x = 111 then 2 else if x = 119 then 3 else 4
theorem tw_e {t : jx_T} {σ : jx_M} {x : Nat} (hx : x ≤ 127) : f_X3_takesWord t σ (nI x) = (if wi_ x < 4 then some (nI 1, jx_mu (jx_mu (jx_mu σ 0 35 (nI (wi_ x))) 0 36 (nI (ws_ (wi_ x) + 1))) 0 34 (nI 1)) else some (nI 0, σ)) := by
  unfold f_X3_takesWord
  rw [show b_X3_takesWord_2 t jx_fuel σ (nI x) (0 : Int32) = _ from tw_s (n := 999) (w := 0) (by omega) hx]
  unfold wi_
  by_cases e0 : x = 115
  · rw [if_pos (show x = wc_ (ws_ 0) from e0), if_pos e0, if_pos (by omega)]
  · rw [if_neg (show ¬ x = wc_ (ws_ 0) from e0), if_neg e0, tw_s (n := 998) (w := 0 + 1) (by omega) hx]
    by_cases e1 : x = 104
    · rw [if_pos (show x = wc_ (ws_ (0 + 1)) from e1), if_pos e1, if_pos (by omega)]
    · rw [if_neg (show ¬ x = wc_ (ws_ (0 + 1)) from e1), if_neg e1, tw_s (n := 997) (w := 0 + 1 + 1) (by omega) hx]
      by_cases e2 : x = 111
      · rw [if_pos (show x = wc_ (ws_ (0 + 1 + 1)) from e2), if_pos e2, if_pos (by omega)]
      · rw [if_neg (show ¬ x = wc_ (ws_ (0 + 1 + 1)) from e2), if_neg e2, tw_s (n := 996) (w := 0 + 1 + 1 + 1) (by omega) hx]
        by_cases e3 : x = 119
        · rw [if_pos (show x = wc_ (ws_ (0 + 1 + 1 + 1)) from e3), if_pos e3, if_pos (by omega)]
        · rw [if_neg (show ¬ x = wc_ (ws_ (0 + 1 + 1 + 1)) from e3), if_neg e3, if_neg (by omega)]
          exact tw_4
/-! further letters -/
theorem tk_1 {t : jx_T} {σ : jx_M} (h : σ 0 34 = nI 1) (s : Int32) : f_X3_takes t σ s = jx_bd (f_X3_takesLetter t σ s) (fun q1 => jx_gd (decide (q1.1 = 0 ∨ q1.1 = 1)) (some (q1.1, q1.2))) := by
  unfold f_X3_takes
  rw [h, if_neg (by decide), if_pos (show nI 1 = (1 : Int32) from rfl)]
theorem tl_n {t : jx_T} {σ : jx_M} {x l : Nat} (h : σ 0 34 = nI 1) (h6 : σ 0 36 = nI l) (hl : l < 20) (hx : x ≤ 127) (hn : ¬ x = wc_ l) : f_X3_takes t σ (nI x) = some (nI 0, σ) := by
  have c := wcb l hl
  rw [tk_1 h]
  unfold f_X3_takesLetter
  rw [show f_J0_length_8abf5 0 = some (nI 20) from sl_ 0 (by omega), bd_s, h6, if_neg (nI_ge hl (by omega)), cw0 l hl, bd_s, if_neg (fun z => hn ((nI_eq (by omega) (by omega)).mp z).symm)]
  rfl
theorem tl_y {t : jx_T} {σ : jx_M} {x l : Nat} (h : σ 0 34 = nI 1) (h6 : σ 0 36 = nI l) (hl : l < 20) (hx : x = wc_ l) (h32 : ¬ x = 32) : f_X3_takes t σ (nI x) = some (nI 1, jx_mu σ 0 36 (nI (l + 1))) := by
  have c := wcb l hl
  rw [tk_1 h]
  unfold f_X3_takesLetter
  rw [show f_J0_length_8abf5 0 = some (nI 20) from sl_ 0 (by omega), bd_s, h6, if_neg (nI_ge hl (by omega)), cw0 l hl, bd_s, if_pos (by rw [hx]), lt_e, if_neg (show ¬ nI x = (32 : Int32) from fun z => h32 ((nI_eq (b := 32) (by omega) (by omega)).mp z)), show nI l + (1 : Int32) = nI (l + 1) from nI_1 l]
  rfl
theorem tl_b {t : jx_T} {σ : jx_M} {l w n c : Nat} (h : RD σ 1 c [] 0) (h6 : σ 0 36 = nI l) (hl : l < 20) (hx : 32 = wc_ l) (h5 : σ 0 35 = nI w) (hw : w < 4) (h0 : σ 0 30 = nI n) (hn : n < 10) : ∃ σ', f_X3_takes t σ (nI 32) = some (nI 1, σ') ∧ RD σ' (if w < 2 then 4 else 2) c [] 0 ∧ KC n c σ σ' ∧ σ' 0 30 = nI n ∧ σ' 61 n = nI w ∧ σ' 62 n = nI 0 := by
  obtain ⟨h1, h2, h3, h4, h7⟩ := h
  refine ⟨jx_mu (jx_mu (jx_mu (jx_mu σ 0 36 (nI (l + 1))) 0 34 (nI (if w < 2 then 4 else 2))) 61 n (nI w)) 62 n (nI 0), ?_, ⟨?_, ?_, ?_, trivial, ?_⟩, KC_t (KC_t (KC_0 (by omega)) (KC_0 (by omega)) (Nat.le_refl n) (Nat.le_refl c)) (KC_t (KC_n (by omega)) (KC_n (by omega)) (Nat.le_refl n) (Nat.le_refl c)) (Nat.le_refl n) (Nat.le_refl c), ?_, ?_, mu_s⟩
  · rw [tk_1 h1]
    unfold f_X3_takesLetter
    rw [show f_J0_length_8abf5 0 = some (nI 20) from sl_ 0 (by omega), bd_s, h6, if_neg (nI_ge hl (by omega)), cw0 l hl, bd_s, if_pos (by rw [hx]), lt_e, if_pos (show nI 32 = (32 : Int32) from rfl), mu_n (show ¬ 35 = 36 by omega), h5, show nI l + (1 : Int32) = nI (l + 1) from nI_1 l]
    have oc : ∀ d : Int32, f_X3_opensClause t (jx_mu (jx_mu σ 0 36 (nI (l + 1))) 0 34 d) = some (nI 1, jx_mu (jx_mu (jx_mu (jx_mu σ 0 36 (nI (l + 1))) 0 34 d) 61 n (nI w)) 62 n (nI 0)) := by
      intro d
      unfold f_X3_opensClause
      have z30 : (jx_mu (jx_mu σ 0 36 (nI (l + 1))) 0 34 d) 0 30 = nI n := by rw [mu_n (by omega), mu_n (by omega)]; exact h0
      have z35 : (jx_mu (jx_mu σ 0 36 (nI (l + 1))) 0 34 d) 0 35 = nI w := by rw [mu_n (by omega), mu_n (by omega)]; exact h5
      rw [z30, if_pos (show nI n < (10 : Int32) from nI_lt (b := 10) hn (by omega)), ev_in hn (by omega), gd_t, nI_clamp (show n < 2 ^ 31 by omega), z35, lt_e, mu_a (show ¬ 0 = 61 by omega), z30, ev_in hn (by omega), gd_t, nI_clamp (show n < 2 ^ 31 by omega), lt_e]
      rfl
    have hw4 : w = 0 ∨ w = 1 ∨ w = 2 ∨ w = 3 := by omega
    unfold b_X3_takesLetter_60 b_X3_takesLetter_65
    rcases hw4 with rfl | rfl | rfl | rfl
    · rw [if_neg (by decide), if_neg (by decide), lt_e, oc]; rfl
    · rw [if_neg (by decide), if_neg (by decide), lt_e, oc]; rfl
    · rw [if_pos (show nI 2 = (2 : Int32) from rfl), lt_e, oc]; rfl
    · rw [if_neg (by decide), if_pos (show nI 3 = (3 : Int32) from rfl), lt_e, oc]; rfl
  · simp (disch := omega) only [mu_a, mu_s]
  · simp (disch := omega) only [mu_a, mu_n]; exact h2
  · simp (disch := omega) only [mu_a, mu_n]; exact h3
  · simp (disch := omega) only [mu_a, mu_n]; exact h7
  · simp (disch := omega) only [mu_a, mu_n]; exact h0
  · simp (disch := omega) only [mu_a, mu_s]
/-! the reference spells -/
theorem sp_1 {σ : jx_M} {w k : Nat} (hw : w < 4) (hk : k < wl_ w) (n : Nat) : b_X6_spells_2 (n + 1) σ (3 + w) (nI k) = jx_bd (f_X6_must σ (nI (wc_ (ws_ w + k)))) (fun q6 => b_X6_spells_2 n q6 (3 + w) (nI (k + 1))) := by
  have b := wlb w hw
  show g_X6_spells_2 (b_X6_spells_2 n) σ (3 + w) (nI k) = _
  unfold g_X6_spells_2
  rw [slw w hw, bd_s, decide_eq_true (show 3 + w < 7 by omega), gd_t, if_neg (nI_ge hk (by omega)), cww w hw k hk, bd_s, gd_t]
  simp only [lt_e, show nI k + (1 : Int32) = nI (k + 1) from nI_1 k]
theorem sp_2 {σ : jx_M} {w : Nat} (hw : w < 4) (n : Nat) : b_X6_spells_2 (n + 1) σ (3 + w) (nI (wl_ w)) = some σ := by
  show g_X6_spells_2 (b_X6_spells_2 n) σ (3 + w) (nI (wl_ w)) = _
  unfold g_X6_spells_2
  rw [slw w hw, bd_s, decide_eq_true (show 3 + w < 7 by omega), gd_t, if_pos (Int32.le_refl _)]
theorem spw_ {a e w j : Nat} (hw : w < 4) : ∀ (d k n : Nat) (σ : jx_M), wl_ w - k = d → k ≤ wl_ w → d < n → MW σ j → ∃ σ', b_X6_spells_2 n σ (3 + w) (nI k) = some σ' ∧ MW σ' j ∧ KM a e σ σ' := by
  intro d
  induction d with
  | zero =>
    intro k n σ h1 h2 h3 h4
    obtain ⟨n', rfl⟩ : ∃ n', n = n' + 1 := ⟨n - 1, by omega⟩
    have : k = wl_ w := by omega
    subst this
    exact ⟨σ, sp_2 hw n', h4, KM_r a e σ⟩
  | succ d ih =>
    intro k n σ h1 h2 h3 h4
    obtain ⟨n', rfl⟩ : ∃ n', n = n' + 1 := ⟨n - 1, by omega⟩
    obtain ⟨σ1, x1, x2, x3⟩ := mu_ww (a := a) (e := e) h4 (nI (wc_ (ws_ w + k)))
    obtain ⟨σ2, y1, y2, y3⟩ := ih (k + 1) n' σ1 (by omega) (by omega) (by omega) x2
    exact ⟨σ2, by rw [sp_1 hw (by omega), x1, bd_s, y1], y2, KM_t x3 y3 (Nat.le_refl e)⟩
theorem spl_ {t : jx_T} {N a c e n w i : Nat} {tp : Nat → Nat} (hw : w < 4) (hn : n < 10) : ∀ (d k m : Nat) (σl σm : jx_M), wl_ w - k = d → 1 ≤ k → k < wl_ w → d < m → tp_ N tp σl → tm_ N tp σm → RD σl 1 c [] 0 → σl 0 35 = nI w → σl 0 36 = nI (ws_ w + k) → σl 0 30 = nI n → MD a N σm (i + k) 0 e → i + k ≤ N →
    OW t N a e σl σm (i + k) (b_X6_spells_2 m σm (3 + w) (nI k)) ∨ ∃ σm' σa, b_X6_spells_2 m σm (3 + w) (nI k) = some σm' ∧ MD a N σm' (i + wl_ w) 0 e ∧ KM a e σm σm' ∧ i + wl_ w ≤ N ∧ RN t N σl (i + k) σa (i + wl_ w) ∧ KC n c σl σa ∧ RD σa (if w < 2 then 4 else 2) c [] 0 ∧ σa 0 30 = nI n ∧ σa 61 n = nI w ∧ σa 62 n = nI 0 := by
  intro d
  have b := wlb w hw
  induction d with
  | zero => intro k m σl σm h1 h2 h3; omega
  | succ d ih =>
    intro k m σl σm h1 h2 h3 hm ht htm hr h35 h36 h30 hd hi
    obtain ⟨m', rfl⟩ : ∃ m', m = m' + 1 := ⟨m - 1, by omega⟩
    have hN := ht.1
    rw [sp_1 hw h3]
    have wb := wcb (ws_ w + k) (by omega)
    by_cases g : i + k < N ∧ tp (i + k) = wc_ (ws_ w + k)
    · obtain ⟨σ1, x1, x2, x3⟩ := mu_y htm hd g.1 g.2
      rw [x1, bd_s]
      have wcl' := wcl w hw k h3
      by_cases l : k + 1 = wl_ w
      · have e32 := wcl'.mpr l
        obtain ⟨σ2, y1, y2, y3, y4, y5, y6⟩ := tl_b (t := t) hr h36 (by omega) e32.symm h35 hw h30 hn
        have st := st_y ht g.1 (σ' := σ2) (by rw [g.2, e32]; exact y1)
        right
        obtain ⟨m'', rfl⟩ : ∃ m'', m' = m'' + 1 := ⟨m' - 1, by omega⟩
        rw [l]
        refine ⟨σ1, σ2, sp_2 hw m'', ?_, x3, ?_, ?_, y3, y2, y4, y5, y6⟩
        · rw [show i + wl_ w = i + k + 1 by omega]; exact x2
        · have := g.1; omega
        · rw [show i + wl_ w = i + k + 1 by omega]; exact st
      · have e32 : ¬ wc_ (ws_ w + k) = 32 := fun z => l (wcl'.mp z)
        have y1 := tl_y (t := t) hr.1 h36 (by omega) g.2 (by rw [g.2]; exact e32)
        have st := st_y ht g.1 y1
        have kc : KC n c σl (jx_mu σl 0 36 (nI (ws_ w + k + 1))) := KC_0 (by omega)
        have r1 : RD (jx_mu σl 0 36 (nI (ws_ w + k + 1))) 1 c [] 0 := RD_o hr (mu_n (by omega)) (mu_n (by omega)) (mu_n (by omega)) (mu_n (by omega)) (mu_a (by omega))
        have nx := ih (k + 1) m' _ σ1 (by omega) (by omega) (by omega) (by omega) (tp_k ht (KC_R kc)) (tm_k htm x3) r1 (by rw [mu_n (by omega)]; exact h35) (by rw [mu_s, Nat.add_assoc]) (by rw [mu_n (by omega)]; exact h30) x2 (by have := g.1; omega)
        rcases nx with ⟨σm', j, w1, w2, w3, w4, w5⟩ | ⟨σm', σa, w1, w2, w3, w4, w5, w6, w7, w8, w9, w10⟩
        · left
          exact ⟨σm', j, w1, w2, KM_t x3 w3 (Nat.le_refl e), w4, CF_t st (KC_R kc) (by have := g.1; omega) w5⟩
        · right
          exact ⟨σm', σa, w1, w2, KM_t x3 w3 (Nat.le_refl e), w4, RN_t st w5, KC_t kc w6 (Nat.le_refl n) (Nat.le_refl c), w7, w8, w9, w10⟩
    · left
      obtain ⟨σ1, x1, x2, x3⟩ := mu_no (x := wc_ (ws_ w + k)) htm hd hi (by omega) g
      obtain ⟨σ2, y1, y2, y3⟩ := spw_ (a := a) (e := e) hw (wl_ w - (k + 1)) (k + 1) m' σ1 rfl (by omega) (by omega) x2
      refine ⟨σ2, i + k, by rw [x1, bd_s, y1], y2, KM_t x3 y3 (Nat.le_refl e), hi, cf_i ht hi hr.1 (by omega) (by omega) (by omega) (fun hj => ⟨σl, ?_, KR_r σl⟩)⟩
      exact tl_n hr.1 h36 (by omega) (ht.2 _ hj).2 (fun z => g ⟨hj, z⟩)
def PS (N a : Nat) (tp : Nat → Nat) (σl σm : jx_M) (i c e n : Nat) : Prop := tp_ N tp σl ∧ tm_ N tp σm ∧ RD σl 0 c [] 0 ∧ MD a N σm i 0 e ∧ i ≤ N ∧ c ≤ i ∧ e ≤ i ∧ a < 5 ∧ σl 0 30 = nI n ∧ n < 10
theorem wiw : ∀ x, x < 128 → wi_ x < 4 → x = wc_ (ws_ (wi_ x)) := by decide +kernel
theorem wd_ {t : jx_T} {N a i c e n : Nat} {tp : Nat → Nat} {σl σm : jx_M} (h : PS N a tp σl σm i c e n) (hi : i < N) (hw : wi_ (tp i) < 4) : OW t N a e σl σm i (f_X6_spells σm (3 + wi_ (tp i))) ∨ ∃ σm' σa, f_X6_spells σm (3 + wi_ (tp i)) = some σm' ∧ MD a N σm' (i + wl_ (wi_ (tp i))) 0 e ∧ KM a e σm σm' ∧ i + wl_ (wi_ (tp i)) ≤ N ∧ RN t N σl i σa (i + wl_ (wi_ (tp i))) ∧ KC n c σl σa ∧ RD σa (if wi_ (tp i) < 2 then 4 else 2) c [] 0 ∧ σa 0 30 = nI n ∧ σa 61 n = nI (wi_ (tp i)) ∧ σa 62 n = nI 0 := by
  obtain ⟨ht, htm, hr, hd, -, hc, he, ha, h30, hn⟩ := h
  have tl := (ht.2 i hi).2
  have b := wlb _ hw
  have ex := wiw (tp i) (by omega) hw
  obtain ⟨σ1, x1, x2, x3⟩ := mu_y htm hd hi ex
  have tk : f_X3_takes t σl (nI (tp i)) = some (nI 1, jx_mu (jx_mu (jx_mu σl 0 35 (nI (wi_ (tp i)))) 0 36 (nI (ws_ (wi_ (tp i)) + 1))) 0 34 (nI 1)) := by
    rw [tk_0 hr.1, tw_e tl, if_pos hw]; rfl
  have st := st_y ht hi tk
  have kc : KC n c σl (jx_mu (jx_mu (jx_mu σl 0 35 (nI (wi_ (tp i)))) 0 36 (nI (ws_ (wi_ (tp i)) + 1))) 0 34 (nI 1)) := KC_t (KC_0 (by omega)) (KC_t (KC_0 (by omega)) (KC_0 (by omega)) (Nat.le_refl n) (Nat.le_refl c)) (Nat.le_refl n) (Nat.le_refl c)
  have r1 : RD (jx_mu (jx_mu (jx_mu σl 0 35 (nI (wi_ (tp i)))) 0 36 (nI (ws_ (wi_ (tp i)) + 1))) 0 34 (nI 1)) 1 c [] 0 := by
    obtain ⟨z1, z2, z3, z4, z5⟩ := hr
    refine ⟨mu_s, ?_, ?_, trivial, ?_⟩
    · simp (disch := omega) only [mu_n]; exact z2
    · simp (disch := omega) only [mu_n]; exact z3
    · simp (disch := omega) only [mu_n]; exact z5
  have e0 : f_X6_spells σm (3 + wi_ (tp i)) = b_X6_spells_2 999 σ1 (3 + wi_ (tp i)) (nI 1) := by
    unfold f_X6_spells
    rw [show b_X6_spells_2 jx_fuel σm (3 + wi_ (tp i)) (0 : Int32) = _ from sp_1 (k := 0) hw (by omega) 999, Nat.add_zero, x1, bd_s]
  rw [e0]
  rcases spl_ (t := t) (i := i) hw hn (wl_ (wi_ (tp i)) - 1) 1 999 _ σ1 rfl (by omega) (by omega) (by omega) (tp_k ht (KC_R kc)) (tm_k htm x3) r1 (by simp (disch := omega) only [mu_n, mu_s]) (by simp (disch := omega) only [mu_n, mu_s]) (by simp (disch := omega) only [mu_n]; exact h30) x2 (by omega) with ⟨σm', j, w1, w2, w3, w4, w5⟩ | ⟨σm', σa, w1, w2, w3, w4, w5, w6, w7, w8, w9, w10⟩
  · left
    exact ⟨σm', j, w1, w2, KM_t x3 w3 (Nat.le_refl e), w4, CF_t st (KC_R kc) (by omega) w5⟩
  · right
    exact ⟨σm', σa, w1, w2, KM_t x3 w3 (Nat.le_refl e), w4, RN_t st w5, KC_t kc w6 (Nat.le_refl n) (Nat.le_refl c), w7, w8, w9, w10⟩
def cop_ (w v : Nat) : Int32 := if w = 0 then -10 else if w = 1 then -20 else if w = 2 then -200 - nI v else -400 - nI v
def CLR (t : jx_T) (N a : Nat) (tp : Nat → Nat) (e : Nat) (σl σm : jx_M) (i c n : Nat) (σm' : jx_M) : Prop := ∃ j σa σv L w v, MD a N σm' j 0 (e + L + 1) ∧ KM a e σm σm' ∧ i < j ∧ j ≤ N ∧ RN t N σl i σa j ∧ KR σl σa ∧ VR t N tp σa σv j ∧ RD σv 8 (c + L) [] 0 ∧ KC n c σl σv ∧ σv 0 30 = nI n ∧ σv 61 n = nI w ∧ σv 62 n = nI v ∧ w < 4 ∧ v < 100 ∧ SG (σv 64) (fun k => σm' 1 (220 + 140 * a + k)) c e L 13 ∧ σm' 1 (220 + 140 * a + (e + L)) = cop_ w v ∧ c + L ≤ j ∧ e + L ≤ j ∧ ¬ (j < N ∧ tp j = 38) ∧ ¬ (j < N ∧ tp j = 124)
/-- behind the word (and the amount): E, and the clause's own step -/
theorem ce_ {t : jx_T} {N a i0 i c e n w v : Nat} {tp : Nat → Nat} {σl σm σ1 σ2 : jx_M} (ht : tp_ N tp σl) (htm : tm_ N tp σm) (rn : RN t N σl i0 σ1 i) (kc : KC n c σl σ1) (km : KM a e σm σ2) (hr : RD σ1 4 c [] 0) (hd : MD a N σ2 i 0 e) (hi0 : i0 < i) (hi : i ≤ N) (hc : c ≤ i) (he : e ≤ i) (ha : a < 5) (h30 : σ1 0 30 = nI n) (h61 : σ1 61 n = nI w) (h62 : σ1 62 n = nI v) (hw : w < 4) (hv : v < 100) : OW t N a e σl σm i0 (jx_bd (f_X6_some (f_X6_factor 8) σ2) (fun q2 => jx_bd (f_X6_emits q2 (cop_ w v)) (fun q3 => some q3))) ∨ ∃ σm', jx_bd (f_X6_some (f_X6_factor 8) σ2) (fun q2 => jx_bd (f_X6_emits q2 (cop_ w v)) (fun q3 => some q3)) = some σm' ∧ CLR t N a tp e σl σm i0 c n σm' := by
  have hN := ht.1
  have pe : PE N a tp σ1 σ2 4 i c [] 0 e := ⟨tp_k ht (KC_R kc), tm_k htm km, hr, hd, hi, trivial, hc, he, by omega, ha⟩
  rcases some_e (fac_0 t N a tp) (Nat.le_refl 0) pe (Nat.le_refl 0) (Or.inl rfl) with ⟨σm', j, w1, w2, w3, w4, w5⟩ | ⟨σm', w0, j, σa, σv, L, w1, w2, w3, w4, w5, w6, w7, w8, w9, w10, w11, w12⟩
  · left
    exact ⟨σm', j, by rw [w1, bd_s, em_w w2, bd_s], w2, KM_t km w3 (Nat.le_refl e), w4, CF_t rn (KC_R kc) hi w5⟩
  · right
    have wl : c + L + 0 ≤ j := w10
    have wm : e + L + 0 ≤ j := w11
    obtain ⟨σm3, z1, z2, z3, z4⟩ := em_y w1 ha (show e + L < 140 by omega) (cop_ w v)
    have kv : KC n c σ1 σv := KE_C w8
    have w41 := w4.1
    refine ⟨σm3, by rw [w0, bd_s, z1, bd_s], j, σa, σv, L, w, v, z2, KM_t km (KM_t w2 z4 (by omega)) (Nat.le_refl e), by omega, w3, RN_t rn w4, KR_t (KC_R kc) w5, w6, w7, KC_t kc kv (Nat.le_refl n) (Nat.le_refl c), ?_, ?_, ?_, hw, hv, SG_c w9 (fun _ _ _ => rfl) (fun k _ k2 => z4.2.2 _ (by omega) (by omega)), ?_, by omega, by omega, w12.1, w12.2⟩
    · rw [w8.2.1 30 (by omega) (by omega)]; exact h30
    · rw [w8.1 61 (by omega) (by omega) (by omega)]; exact h61
    · rw [w8.1 62 (by omega) (by omega) (by omega)]; exact h62
    · exact z3
