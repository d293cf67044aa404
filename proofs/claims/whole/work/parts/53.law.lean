/-! the law: its loop, over a relation R between the class's and the reference's numbers that each op keeps -/
/-- op 0: feed -/
def lw_op_feed (R : jx_T → jx_M → jx_M → Prop) : Prop := ∀ (t : jx_T) (σl σm : jx_M) (a0 : Int32), R t σl σm → ∃ (r : Int32) (σl2 : jx_M) (σm2 : jx_M), f_X5_feed t σl a0 = some (r, σl2) ∧ f_X6_feed σm a0 = some (r, σm2) ∧ R t σl2 σm2
/-- op 1: tide -/
def lw_op_tide (R : jx_T → jx_M → jx_M → Prop) : Prop := ∀ (t : jx_T) (σl σm : jx_M), R t σl σm → ∃ (r : Int32) (σl2 σm2 : jx_M) (o : Option jx_M), f_X5_tide t σl = some (r, σl2, o) ∧ f_X6_tide σm = some (r, σm2) ∧ ∀ u, lt_sh t o u → R u σl2 σm2
/-- op 2: places -/
def lw_op_places (R : jx_T → jx_M → jx_M → Prop) : Prop := ∀ (t : jx_T) (σl σm : jx_M) (a0 : Int32), R t σl σm → ∃ (r : Int32) (σl2 : jx_M) (σm2 : jx_M), f_X5_places t σl a0 = some (r, σl2) ∧ f_X6_places σm a0 = some (r, σm2) ∧ R t σl2 σm2
/-- op 3: place -/
def lw_op_place (R : jx_T → jx_M → jx_M → Prop) : Prop := ∀ (t : jx_T) (σl σm : jx_M) (a0 : Int32) (a1 : Int32) (a2 : Int32), R t σl σm → ∃ (r : Int32) (σl2 : jx_M) (σm2 : jx_M), f_X5_place t σl a0 a1 a2 = some (r, σl2) ∧ f_X6_place σm a0 a1 a2 = some (r, σm2) ∧ R t σl2 σm2
/-- op 4: at -/
def lw_op_at (R : jx_T → jx_M → jx_M → Prop) : Prop := ∀ (t : jx_T) (σl σm : jx_M) (a0 : Int32) (a1 : Int32), R t σl σm → ∃ (r : Int32) (σl2 : jx_M) (σm2 : jx_M), f_X5_at t σl a0 a1 = some (r, σl2) ∧ f_X6_at σm a0 a1 = some (r, σm2) ∧ R t σl2 σm2
/-- op 5: voter -/
def lw_op_voter (R : jx_T → jx_M → jx_M → Prop) : Prop := ∀ (t : jx_T) (σl σm : jx_M) (a0 : Int32) (a1 : Int32) (a2 : Int32) (a3 : Int32) (a4 : Int32), R t σl σm → ∃ (r : Int32) (σl2 : jx_M) (σm2 : jx_M), f_X5_voter t σl a0 a1 a2 a3 a4 = some (r, σl2) ∧ f_X6_voter σm a0 a1 a2 a3 a4 = some (r, σm2) ∧ R t σl2 σm2
/-- op 6: of -/
def lw_op_of (R : jx_T → jx_M → jx_M → Prop) : Prop := ∀ (t : jx_T) (σl σm : jx_M) (a0 : Int32) (a1 : Int32), R t σl σm → ∃ (r : Int32) (σl2 : jx_M) (σm2 : jx_M), f_X5_of t σl a0 a1 = some (r, σl2) ∧ f_X6_of σm a0 a1 = some (r, σm2) ∧ R t σl2 σm2
/-- op 7: wish -/
def lw_op_wish (R : jx_T → jx_M → jx_M → Prop) : Prop := ∀ (t : jx_T) (σl σm : jx_M) (a0 : Int32) (a1 : Int32), R t σl σm → ∃ (r : Int32) (σl2 : jx_M) (σm2 : jx_M), f_X5_wish t σl a0 a1 = some (r, σl2) ∧ f_X6_wish σm a0 a1 = some (r, σm2) ∧ R t σl2 σm2
/-- op 8: row -/
def lw_op_row (R : jx_T → jx_M → jx_M → Prop) : Prop := ∀ (t : jx_T) (σl σm : jx_M) (a0 : Int32) (a1 : Int32) (a2 : Int32), R t σl σm → ∃ (r : Int32) (σl2 : jx_M) (σm2 : jx_M), f_X5_row t σl a0 a1 a2 = some (r, σl2) ∧ f_X6_row σm a0 a1 a2 = some (r, σm2) ∧ R t σl2 σm2
/-- op 9: minutes -/
def lw_op_minutes (R : jx_T → jx_M → jx_M → Prop) : Prop := ∀ (t : jx_T) (σl σm : jx_M) (a0 : Int32), R t σl σm → ∃ (r : Int32) (σl2 : jx_M) (σm2 : jx_M), f_X5_minutes t σl a0 = some (r, σl2) ∧ f_X6_minutes σm a0 = some (r, σm2) ∧ R t σl2 σm2
/-- op 10: vote -/
def lw_op_vote (R : jx_T → jx_M → jx_M → Prop) : Prop := ∀ (t : jx_T) (σl σm : jx_M) (a0 : Int32), R t σl σm → ∃ (r : Int32) (σl2 : jx_M) (σm2 : jx_M), f_X5_vote t σl a0 = some (r, σl2) ∧ f_X6_vote σm a0 = some (r, σm2) ∧ R t σl2 σm2
/-- op 11: lies -/
def lw_op_lies (R : jx_T → jx_M → jx_M → Prop) : Prop := ∀ (t : jx_T) (σl σm : jx_M) (a0 : Int32) (a1 : Int32), R t σl σm → ∃ (r : Int32) (σl2 : jx_M) (σm2 : jx_M), f_X5_lies t σl a0 a1 = some (r, σl2) ∧ f_X6_lies σm a0 a1 = some (r, σm2) ∧ R t σl2 σm2
/-- op 12: ward -/
def lw_op_ward (R : jx_T → jx_M → jx_M → Prop) : Prop := ∀ (t : jx_T) (σl σm : jx_M) (a0 : Int32), R t σl σm → ∃ (r : Int32) (σl2 : jx_M) (σm2 : jx_M), f_X5_ward t σl a0 = some (r, σl2) ∧ f_X6_ward σm a0 = some (r, σm2) ∧ R t σl2 σm2
/-- op 13: drifts -/
def lw_op_drifts (R : jx_T → jx_M → jx_M → Prop) : Prop := ∀ (t : jx_T) (σl σm : jx_M) (a0 : Int32) (a1 : Int32), R t σl σm → ∃ (r : Int32) (σl2 : jx_M) (σm2 : jx_M), f_X5_drifts t σl a0 a1 = some (r, σl2) ∧ f_X6_drifts σm a0 a1 = some (r, σm2) ∧ R t σl2 σm2
/-- op 14: from -/
def lw_op_from (R : jx_T → jx_M → jx_M → Prop) : Prop := ∀ (t : jx_T) (σl σm : jx_M) (a0 : Int32) (a1 : Int32) (a2 : Int32), R t σl σm → ∃ (r : Int32) (σl2 : jx_M) (σm2 : jx_M), f_X5_from t σl a0 a1 a2 = some (r, σl2) ∧ f_X6_from σm a0 a1 a2 = some (r, σm2) ∧ R t σl2 σm2
/-- op 15: turns -/
def lw_op_turns (R : jx_T → jx_M → jx_M → Prop) : Prop := ∀ (t : jx_T) (σl σm : jx_M) (a0 : Int32), R t σl σm → ∃ (r : Int32) (σl2 : jx_M) (σm2 : jx_M), f_X5_turns t σl a0 = some (r, σl2) ∧ f_X6_turns σm a0 = some (r, σm2) ∧ R t σl2 σm2
/-- op 16: sways -/
def lw_op_sways (R : jx_T → jx_M → jx_M → Prop) : Prop := ∀ (t : jx_T) (σl σm : jx_M) (a0 : Int32) (a1 : Int32), R t σl σm → ∃ (r : Int64) (σl2 : jx_M) (σm2 : jx_M), f_X5_sways t σl a0 a1 = some (r, σl2) ∧ f_X6_sways σm a0 a1 = some (r, σm2) ∧ R t σl2 σm2
/-- op 17: stick -/
def lw_op_stick (R : jx_T → jx_M → jx_M → Prop) : Prop := ∀ (t : jx_T) (σl σm : jx_M) (a0 : Int32), R t σl σm → ∃ (r : Int32) (σl2 : jx_M) (σm2 : jx_M), f_X5_stick t σl a0 = some (r, σl2) ∧ f_X6_stick σm a0 = some (r, σm2) ∧ R t σl2 σm2
/-- op 18: set -/
def lw_op_set (R : jx_T → jx_M → jx_M → Prop) : Prop := ∀ (t : jx_T) (σl σm : jx_M) (a0 : Int32) (a1 : Int32), R t σl σm → ∃ (r : Int32) (σl2 : jx_M) (σm2 : jx_M), f_X5_set t σl a0 a1 = some (r, σl2) ∧ f_X6_set σm a0 a1 = some (r, σm2) ∧ R t σl2 σm2
/-- op 19: game -/
def lw_op_game (R : jx_T → jx_M → jx_M → Prop) : Prop := ∀ (t : jx_T) (σl σm : jx_M) (a0 : Int32) (a1 : Int32) (a2 : Int32), R t σl σm → ∃ (r : Int32) (σl2 : jx_M) (σm2 : jx_M), f_X5_game t σl a0 a1 a2 = some (r, σl2) ∧ f_X6_game σm a0 a1 a2 = some (r, σm2) ∧ R t σl2 σm2
/-- op 20: see -/
def lw_op_see (R : jx_T → jx_M → jx_M → Prop) : Prop := ∀ (t : jx_T) (σl σm : jx_M) (a0 : Int32) (a1 : Int32), R t σl σm → ∃ (r : Int32) (σl2 : jx_M) (σm2 : jx_M), f_X5_see t σl a0 a1 = some (r, σl2) ∧ f_X6_see σm a0 a1 = some (r, σm2) ∧ R t σl2 σm2
/-- op 21: fits -/
def lw_op_fits (R : jx_T → jx_M → jx_M → Prop) : Prop := ∀ (t : jx_T) (σl σm : jx_M) (a0 : Int32), R t σl σm → ∃ (r : Int32) (σl2 : jx_M) (σm2 : jx_M), f_X5_fits t σl a0 = some (r, σl2) ∧ f_X6_fits σm a0 = some (r, σm2) ∧ R t σl2 σm2
/-- op 22: fair -/
def lw_op_fair (R : jx_T → jx_M → jx_M → Prop) : Prop := ∀ (t : jx_T) (σl σm : jx_M) (a0 : Int32), R t σl σm → ∃ (r : Int32) (σl2 : jx_M) (σm2 : jx_M), f_X5_fair t σl a0 = some (r, σl2) ∧ f_X6_fair σm a0 = some (r, σm2) ∧ R t σl2 σm2
/-- op 23: tale -/
def lw_op_tale (R : jx_T → jx_M → jx_M → Prop) : Prop := ∀ (t : jx_T) (σl σm : jx_M) (a0 : Int32) (a1 : Int32) (a2 : Int32), R t σl σm → ∃ (r : Int32) (σl2 : jx_M) (σm2 : jx_M), f_X5_tale t σl a0 a1 a2 = some (r, σl2) ∧ f_X6_tale σm a0 a1 a2 = some (r, σm2) ∧ R t σl2 σm2
/-- op 24: looked -/
def lw_op_looked (R : jx_T → jx_M → jx_M → Prop) : Prop := ∀ (t : jx_T) (σl σm : jx_M), R t σl σm → ∃ (r : Int32) (σl2 : jx_M) (σm2 : jx_M), f_X5_looked t σl = some (r, σl2) ∧ f_X6_looked σm = some (r, σm2) ∧ R t σl2 σm2
/-- op 25: act -/
def lw_op_act (R : jx_T → jx_M → jx_M → Prop) : Prop := ∀ (t : jx_T) (σl σm : jx_M) (a0 : Int32) (a1 : Int32) (a2 : Int32), R t σl σm → ∃ (r : Int32) (σl2 : jx_M) (σm2 : jx_M), f_X5_act t σl a0 a1 a2 = some (r, σl2) ∧ f_X6_act σm a0 a1 a2 = some (r, σm2) ∧ R t σl2 σm2
/-- op 26: trace -/
def lw_op_trace (R : jx_T → jx_M → jx_M → Prop) : Prop := ∀ (t : jx_T) (σl σm : jx_M) (a0 : Int32), R t σl σm → ∃ (r : Int32), f_X5_trace t σl a0 = some r ∧ f_X6_trace σm a0 = some r ∧ R t σl σm
/-- op 27: as -/
def lw_op_as (R : jx_T → jx_M → jx_M → Prop) : Prop := ∀ (t : jx_T) (σl σm : jx_M) (a0 : Int32) (a1 : Int32), R t σl σm → ∃ (r : Int32), f_X5_as t σl a0 a1 = some r ∧ f_X6_as σm a0 a1 = some r ∧ R t σl σm
/-- op 28: image -/
def lw_op_image (R : jx_T → jx_M → jx_M → Prop) : Prop := ∀ (t : jx_T) (σl σm : jx_M), R t σl σm → ∃ (r : Int32) (σl2 : jx_M) (σm2 : jx_M), f_X5_image t σl = some (r, σl2) ∧ f_X6_image σm = some (r, σm2) ∧ R (ll_tI t) σl2 σm2
/-- op 29: undo -/
def lw_op_undo (R : jx_T → jx_M → jx_M → Prop) : Prop := ∀ (t : jx_T) (σl σm : jx_M), R t σl σm → ∃ (r : Int32) (σl2 : jx_M) (σm2 : jx_M), f_X5_undo t σl = some (r, σl2) ∧ f_X6_undo σm = some (r, σm2) ∧ R (ll_tU t σl) σl2 σm2
/-- op 30: count -/
def lw_op_count (R : jx_T → jx_M → jx_M → Prop) : Prop := ∀ (t : jx_T) (σl σm : jx_M) (a0 : Int32), R t σl σm → ∃ (r : Int32), f_X5_count t σl a0 = some r ∧ f_X6_count σm a0 = some r ∧ R t σl σm
def lw_ops (R : jx_T → jx_M → jx_M → Prop) : Prop := lw_op_feed R ∧ lw_op_tide R ∧ lw_op_places R ∧ lw_op_place R ∧ lw_op_at R ∧ lw_op_voter R ∧ lw_op_of R ∧ lw_op_wish R ∧ lw_op_row R ∧ lw_op_minutes R ∧ lw_op_vote R ∧ lw_op_lies R ∧ lw_op_ward R ∧ lw_op_drifts R ∧ lw_op_from R ∧ lw_op_turns R ∧ lw_op_sways R ∧ lw_op_stick R ∧ lw_op_set R ∧ lw_op_game R ∧ lw_op_see R ∧ lw_op_fits R ∧ lw_op_fair R ∧ lw_op_tale R ∧ lw_op_looked R ∧ lw_op_act R ∧ lw_op_trace R ∧ lw_op_as R ∧ lw_op_image R ∧ lw_op_undo R ∧ lw_op_count R
theorem nI_k {i : Nat} (k : Nat) (K : Int32) (hK : nI k = K) : nI i + K = nI (i + k) := by rw [← hK]; exact nI_add i k
theorem lw_cond {i L : Nat} (hL : L ≤ 3072) (hi : i ≤ L) : (nI L - 6 < nI i) ↔ L < i + 6 := by
  rw [Int32.lt_iff_toInt_lt, Int32.toInt_sub, nI_toInt (show L < 2 ^ 31 by omega), nI_toInt (show i < 2 ^ 31 by omega), show (6 : Int32).toInt = 6 from by decide]
  rw [Int.bmod_def]
  split <;> omega
theorem lg_cmp_same (r : Int64) : lg_cmp r r = 0 := by unfold lg_cmp; simp
theorem lw_tqI {G : jx_G} {t : jx_T} {H : Heap} (h : ll_tq G t H) : ll_tq G (ll_tI t) H := by
  have hx : ∀ (k : Nat) (q : Nat × va_E), (ll_tw G (ll_tI t) 0 ++ ll_tw G (ll_tI t) 10)[k]? = some q → ∃ k' : Nat, (ll_tw G t 0 ++ ll_tw G t 10)[k']? = some q := by
    intro k q hq
    rcases List.mem_append.mp (List.mem_of_getElem? hq) with z | z
    all_goals
      obtain ⟨i, hi⟩ := List.getElem?_of_mem z
      have hi2 : (ll_tw G t 0)[i]? = some q := hi
      exact ⟨i, by rw [List.getElem?_append_left (List.getElem?_eq_some_iff.mp hi2).1]; exact hi2⟩
  exact ⟨fun k q hq => (hx k q hq).elim fun k' h' => h.1 k' q h', fun k q hq => (hx k q hq).elim fun k' h' => h.2 k' q h'⟩
theorem lw_hN {G : jx_G} {t : jx_T} : ∀ (k : Nat) (q : Nat × va_E), (ll_tw G (ll_tN t) 0 ++ ll_tw G (ll_tN t) 10)[k]? = some q → ∃ k' : Nat, (ll_tw G t 0 ++ ll_tw G t 10)[k']? = some q := by
  intro k q hq
  rcases List.mem_append.mp (List.mem_of_getElem? hq) with z | z
  all_goals
    obtain ⟨i, hi⟩ := List.getElem?_of_mem z
    have hi2 : (ll_tw G t 10)[i]? = some q := hi
    exact ⟨5 + i, by
      rw [List.getElem?_append_right (by show 5 ≤ 5 + i; omega), show 5 + i - (ll_tw G t 0).length = i from by show 5 + i - 5 = i; omega]
      exact hi2⟩
theorem lw_hI {G : jx_G} {t : jx_T} : ∀ (k : Nat) (q : Nat × va_E), (ll_tw G (ll_tI t) 0 ++ ll_tw G (ll_tI t) 10)[k]? = some q → ∃ k' : Nat, (ll_tw G t 0 ++ ll_tw G t 10)[k']? = some q := by
  intro k q hq
  rcases List.mem_append.mp (List.mem_of_getElem? hq) with z | z
  all_goals
    obtain ⟨i, hi⟩ := List.getElem?_of_mem z
    have hi2 : (ll_tw G t 0)[i]? = some q := hi
    exact ⟨i, by rw [List.getElem?_append_left (List.getElem?_eq_some_iff.mp hi2).1]; exact hi2⟩
theorem lw_tqU {G : jx_G} {t : jx_T} {σ : jx_M} {H : Heap} (h : ll_tq G t H) : ll_tq G (ll_tU t σ) H := by
  unfold ll_tU
  by_cases c : σ 0 40 = 0
  · rw [if_pos c]
    exact h
  · rw [if_neg c]
    exact ⟨fun k q hq => (lw_hN k q hq).elim fun k' h' => h.1 k' q h', fun k q hq => (lw_hN k q hq).elim fun k' h' => h.2 k' q h'⟩
theorem lw_tmI {Gl Gm : jx_G} {t : jx_T} (h : lw_tm Gl Gm t) : lw_tm Gl Gm (ll_tI t) := fun k q hq => (lw_hI k q hq).elim fun k' h' => h k' q h'
theorem lw_tmU {Gl Gm : jx_G} {t : jx_T} {σ : jx_M} (h : lw_tm Gl Gm t) : lw_tm Gl Gm (ll_tU t σ) := by
  unfold ll_tU
  by_cases c : σ 0 40 = 0
  · rw [if_pos c]
    exact h
  · rw [if_neg c]
    exact fun k q hq => (lw_hN k q hq).elim fun k' h' => h k' q h'
set_option maxHeartbeats 4000000 in
set_option maxRecDepth 100000 in
theorem lw_case_feed (l : Launch) {Gl Gm : jx_G} {b L : Nat} {xs : Nat → Int32} {sz : Nat} {nm : String} {ret0 : Option FieldType} {Qf : List Frame → Array Value → State → State → Prop} (hL : L ≤ 3072) (hok : lw_ok Gl Gm sz) (R : jx_T → jx_M → jx_M → Prop) (hops : lw_ops R) {i ce sl : Nat} (hi : i + 6 ≤ L) (hce5 : ce + 5 ≤ room_1.cells) (hsl5 : sl + 404 ≤ room_1.slots) (hk : ∀ (t : jx_T) (σl σm : jx_M), R t σl σm → jx_J l (lw_env Gl Gm b L xs) (lw_dyn Gl Gm) lw_no sz RL nm cL_law 4 ret0 room_1 Qf (ce + 5) (sl + 404) 1096 [(0, .ref b), (1, .ref (Gl.2 20)), (2, .ref (Gm.2 10)), (3, .int (nI i))] [] (σl, σm, t)) (t : jx_T) (σl σm : jx_M) (hR : R t σl σm) : jx_J l (lw_env Gl Gm b L xs) (lw_dyn Gl Gm) lw_no sz RL nm cL_law 4 ret0 room_1 Qf ce sl 172 [(0, .ref b), (1, .ref (Gl.2 20)), (2, .ref (Gm.2 10)), (3, .int (nI i))] [] (σl, σm, t) := by
  have hce : ce ≤ room_1.cells := Nat.le_trans (Nat.le_add_right _ _) hce5
  have hsl : sl ≤ room_1.slots := Nat.le_trans (Nat.le_add_right _ _) hsl5
  obtain ⟨r, σl2, σm2, hl1, hm1, hr1⟩ := hops.1 t σl σm (xs (i + 1)) hR
  refine jx_aload_n (pc := 172) (k0 := 1) rfl dL_law_172 ?_
  refine jx_aload_n (pc := 173) (k0 := 0) rfl dL_law_173 ?_
  refine jx_iload_n (pc := 174) (k0 := 3) rfl dL_law_174 ?_
  refine jx_iconst (pc := 175) (v := (1 : Int32)) (by decide) dL_law_175 ?_
  refine jx_iadd (pc := 176) dL_law_176 ?_
  refine lw_sld (pc := 177) (j := i + 1) (nI_k 1 _ (by decide)) (by omega) (by omega) dL_law_177 ?_
  refine lw_cLi (pc := 178) hok (fun _ h => h) (fun h => h) [.int (xs (i + 1))] (fun sz' => k_X5_feed l Gl t hok.1 sz' σl (xs (i + 1)) _ hl1) kv_L_13 rfl rfl (Nat.le_of_ble_eq_true rfl) ⟨⟨rfl, rfl⟩, ⟨(Nat.le_of_ble_eq_true rfl), (Nat.le_of_ble_eq_true rfl)⟩, hce, hsl⟩ dL_law_178 ?_
  refine jx_aload_n (pc := 181) (k0 := 2) rfl dL_law_181 ?_
  refine jx_aload_n (pc := 182) (k0 := 0) rfl dL_law_182 ?_
  refine jx_iload_n (pc := 183) (k0 := 3) rfl dL_law_183 ?_
  refine jx_iconst (pc := 184) (v := (1 : Int32)) (by decide) dL_law_184 ?_
  refine jx_iadd (pc := 185) dL_law_185 ?_
  refine lw_sld (pc := 186) (j := i + 1) (nI_k 1 _ (by decide)) (by omega) (by omega) dL_law_186 ?_
  refine lw_cMi (pc := 187) hok [.int (xs (i + 1))] (fun sz' => k_X6_feed l Gm hok.2.1 sz' σm (xs (i + 1)) _ hm1) kv_L_17 rfl rfl (Nat.le_of_ble_eq_true rfl) ⟨⟨rfl, rfl⟩, ⟨(Nat.le_of_ble_eq_true rfl), (Nat.le_of_ble_eq_true rfl)⟩, hce, hsl⟩ dL_law_187 ?_
  refine jx_icmp_eq (pc := 190) (tgt := 1096) dL_law_190 (by decide) (fun _ => ?_) (fun c => absurd rfl c)
  exact lw_widen (Nat.le_add_right _ 5) (Nat.le_add_right _ 404) (hk _ _ _ hr1)
set_option maxHeartbeats 4000000 in
set_option maxRecDepth 100000 in
theorem lw_case_tide (l : Launch) {Gl Gm : jx_G} {b L : Nat} {xs : Nat → Int32} {sz : Nat} {nm : String} {ret0 : Option FieldType} {Qf : List Frame → Array Value → State → State → Prop} (hL : L ≤ 3072) (hok : lw_ok Gl Gm sz) (R : jx_T → jx_M → jx_M → Prop) (hops : lw_ops R) {i ce sl : Nat} (hi : i + 6 ≤ L) (hce5 : ce + 5 ≤ room_1.cells) (hsl5 : sl + 404 ≤ room_1.slots) (hk : ∀ (t : jx_T) (σl σm : jx_M), R t σl σm → jx_J l (lw_env Gl Gm b L xs) (lw_dyn Gl Gm) lw_no sz RL nm cL_law 4 ret0 room_1 Qf (ce + 5) (sl + 404) 1096 [(0, .ref b), (1, .ref (Gl.2 20)), (2, .ref (Gm.2 10)), (3, .int (nI i))] [] (σl, σm, t)) (t : jx_T) (σl σm : jx_M) (hR : R t σl σm) : jx_J l (lw_env Gl Gm b L xs) (lw_dyn Gl Gm) lw_no sz RL nm cL_law 4 ret0 room_1 Qf ce sl 195 [(0, .ref b), (1, .ref (Gl.2 20)), (2, .ref (Gm.2 10)), (3, .int (nI i))] [] (σl, σm, t) := by
  have hce : ce ≤ room_1.cells := Nat.le_trans (Nat.le_add_right _ _) hce5
  have hsl : sl ≤ room_1.slots := Nat.le_trans (Nat.le_add_right _ _) hsl5
  obtain ⟨r, σl2, σm2, o, hl1, hm1, hr1⟩ := hops.2.1 t σl σm hR
  refine jx_aload_n (pc := 195) (k0 := 1) rfl dL_law_195 ?_
  refine lw_cT (pc := 196) hok [] (fun sz' => k_X5_tide l Gl t hok.1 sz' σl _ hl1) kv_L_18 rfl rfl (Nat.le_of_ble_eq_true rfl) ⟨⟨rfl, rfl⟩, ⟨(Nat.le_of_ble_eq_true rfl), (Nat.le_of_ble_eq_true rfl)⟩, hce5, hsl5⟩ dL_law_196 (fun u hu => ?_)
  refine jx_aload_n (pc := 199) (k0 := 2) rfl dL_law_199 ?_
  refine lw_cMi (pc := 200) hok [] (fun sz' => k_X6_tide l Gm hok.2.1 sz' σm  _ hm1) kv_L_22 rfl rfl (Nat.le_of_ble_eq_true rfl) ⟨⟨rfl, rfl⟩, ⟨(Nat.le_of_ble_eq_true rfl), (Nat.le_of_ble_eq_true rfl)⟩, hce5, hsl5⟩ dL_law_200 ?_
  refine jx_icmp_eq (pc := 203) (tgt := 1096) dL_law_203 (by decide) (fun _ => ?_) (fun c => absurd rfl c)
  exact hk _ _ _ (hr1 u hu)
set_option maxHeartbeats 4000000 in
set_option maxRecDepth 100000 in
theorem lw_case_places (l : Launch) {Gl Gm : jx_G} {b L : Nat} {xs : Nat → Int32} {sz : Nat} {nm : String} {ret0 : Option FieldType} {Qf : List Frame → Array Value → State → State → Prop} (hL : L ≤ 3072) (hok : lw_ok Gl Gm sz) (R : jx_T → jx_M → jx_M → Prop) (hops : lw_ops R) {i ce sl : Nat} (hi : i + 6 ≤ L) (hce5 : ce + 5 ≤ room_1.cells) (hsl5 : sl + 404 ≤ room_1.slots) (hk : ∀ (t : jx_T) (σl σm : jx_M), R t σl σm → jx_J l (lw_env Gl Gm b L xs) (lw_dyn Gl Gm) lw_no sz RL nm cL_law 4 ret0 room_1 Qf (ce + 5) (sl + 404) 1096 [(0, .ref b), (1, .ref (Gl.2 20)), (2, .ref (Gm.2 10)), (3, .int (nI i))] [] (σl, σm, t)) (t : jx_T) (σl σm : jx_M) (hR : R t σl σm) : jx_J l (lw_env Gl Gm b L xs) (lw_dyn Gl Gm) lw_no sz RL nm cL_law 4 ret0 room_1 Qf ce sl 208 [(0, .ref b), (1, .ref (Gl.2 20)), (2, .ref (Gm.2 10)), (3, .int (nI i))] [] (σl, σm, t) := by
  have hce : ce ≤ room_1.cells := Nat.le_trans (Nat.le_add_right _ _) hce5
  have hsl : sl ≤ room_1.slots := Nat.le_trans (Nat.le_add_right _ _) hsl5
  obtain ⟨r, σl2, σm2, hl1, hm1, hr1⟩ := hops.2.2.1 t σl σm (xs (i + 1)) hR
  refine jx_aload_n (pc := 208) (k0 := 1) rfl dL_law_208 ?_
  refine jx_aload_n (pc := 209) (k0 := 0) rfl dL_law_209 ?_
  refine jx_iload_n (pc := 210) (k0 := 3) rfl dL_law_210 ?_
  refine jx_iconst (pc := 211) (v := (1 : Int32)) (by decide) dL_law_211 ?_
  refine jx_iadd (pc := 212) dL_law_212 ?_
  refine lw_sld (pc := 213) (j := i + 1) (nI_k 1 _ (by decide)) (by omega) (by omega) dL_law_213 ?_
  refine lw_cLi (pc := 214) hok (fun _ h => h) (fun h => h) [.int (xs (i + 1))] (fun sz' => k_X5_places l Gl t hok.1 sz' σl (xs (i + 1)) _ hl1) kv_L_23 rfl rfl (Nat.le_of_ble_eq_true rfl) ⟨⟨rfl, rfl⟩, ⟨(Nat.le_of_ble_eq_true rfl), (Nat.le_of_ble_eq_true rfl)⟩, hce, hsl⟩ dL_law_214 ?_
  refine jx_aload_n (pc := 217) (k0 := 2) rfl dL_law_217 ?_
  refine jx_aload_n (pc := 218) (k0 := 0) rfl dL_law_218 ?_
  refine jx_iload_n (pc := 219) (k0 := 3) rfl dL_law_219 ?_
  refine jx_iconst (pc := 220) (v := (1 : Int32)) (by decide) dL_law_220 ?_
  refine jx_iadd (pc := 221) dL_law_221 ?_
  refine lw_sld (pc := 222) (j := i + 1) (nI_k 1 _ (by decide)) (by omega) (by omega) dL_law_222 ?_
  refine lw_cMi (pc := 223) hok [.int (xs (i + 1))] (fun sz' => k_X6_places l Gm hok.2.1 sz' σm (xs (i + 1)) _ hm1) kv_L_26 rfl rfl (Nat.le_of_ble_eq_true rfl) ⟨⟨rfl, rfl⟩, ⟨(Nat.le_of_ble_eq_true rfl), (Nat.le_of_ble_eq_true rfl)⟩, hce, hsl⟩ dL_law_223 ?_
  refine jx_icmp_eq (pc := 226) (tgt := 1096) dL_law_226 (by decide) (fun _ => ?_) (fun c => absurd rfl c)
  exact lw_widen (Nat.le_add_right _ 5) (Nat.le_add_right _ 404) (hk _ _ _ hr1)
set_option maxHeartbeats 4000000 in
set_option maxRecDepth 100000 in
theorem lw_case_place (l : Launch) {Gl Gm : jx_G} {b L : Nat} {xs : Nat → Int32} {sz : Nat} {nm : String} {ret0 : Option FieldType} {Qf : List Frame → Array Value → State → State → Prop} (hL : L ≤ 3072) (hok : lw_ok Gl Gm sz) (R : jx_T → jx_M → jx_M → Prop) (hops : lw_ops R) {i ce sl : Nat} (hi : i + 6 ≤ L) (hce5 : ce + 5 ≤ room_1.cells) (hsl5 : sl + 404 ≤ room_1.slots) (hk : ∀ (t : jx_T) (σl σm : jx_M), R t σl σm → jx_J l (lw_env Gl Gm b L xs) (lw_dyn Gl Gm) lw_no sz RL nm cL_law 4 ret0 room_1 Qf (ce + 5) (sl + 404) 1096 [(0, .ref b), (1, .ref (Gl.2 20)), (2, .ref (Gm.2 10)), (3, .int (nI i))] [] (σl, σm, t)) (t : jx_T) (σl σm : jx_M) (hR : R t σl σm) : jx_J l (lw_env Gl Gm b L xs) (lw_dyn Gl Gm) lw_no sz RL nm cL_law 4 ret0 room_1 Qf ce sl 231 [(0, .ref b), (1, .ref (Gl.2 20)), (2, .ref (Gm.2 10)), (3, .int (nI i))] [] (σl, σm, t) := by
  have hce : ce ≤ room_1.cells := Nat.le_trans (Nat.le_add_right _ _) hce5
  have hsl : sl ≤ room_1.slots := Nat.le_trans (Nat.le_add_right _ _) hsl5
  obtain ⟨r, σl2, σm2, hl1, hm1, hr1⟩ := hops.2.2.2.1 t σl σm (xs (i + 1)) (xs (i + 2)) (xs (i + 3)) hR
  refine jx_aload_n (pc := 231) (k0 := 1) rfl dL_law_231 ?_
  refine jx_aload_n (pc := 232) (k0 := 0) rfl dL_law_232 ?_
  refine jx_iload_n (pc := 233) (k0 := 3) rfl dL_law_233 ?_
  refine jx_iconst (pc := 234) (v := (1 : Int32)) (by decide) dL_law_234 ?_
  refine jx_iadd (pc := 235) dL_law_235 ?_
  refine lw_sld (pc := 236) (j := i + 1) (nI_k 1 _ (by decide)) (by omega) (by omega) dL_law_236 ?_
  refine jx_aload_n (pc := 237) (k0 := 0) rfl dL_law_237 ?_
  refine jx_iload_n (pc := 238) (k0 := 3) rfl dL_law_238 ?_
  refine jx_iconst (pc := 239) (v := (2 : Int32)) (by decide) dL_law_239 ?_
  refine jx_iadd (pc := 240) dL_law_240 ?_
  refine lw_sld (pc := 241) (j := i + 2) (nI_k 2 _ (by decide)) (by omega) (by omega) dL_law_241 ?_
  refine jx_aload_n (pc := 242) (k0 := 0) rfl dL_law_242 ?_
  refine jx_iload_n (pc := 243) (k0 := 3) rfl dL_law_243 ?_
  refine jx_iconst (pc := 244) (v := (3 : Int32)) (by decide) dL_law_244 ?_
  refine jx_iadd (pc := 245) dL_law_245 ?_
  refine lw_sld (pc := 246) (j := i + 3) (nI_k 3 _ (by decide)) (by omega) (by omega) dL_law_246 ?_
  refine lw_cLi (pc := 247) hok (fun _ h => h) (fun h => h) [.int (xs (i + 1)), .int (xs (i + 2)), .int (xs (i + 3))] (fun sz' => k_X5_place l Gl t hok.1 sz' σl (xs (i + 1)) (xs (i + 2)) (xs (i + 3)) _ hl1) kv_L_27 rfl rfl (Nat.le_of_ble_eq_true rfl) ⟨⟨rfl, rfl⟩, ⟨(Nat.le_of_ble_eq_true rfl), (Nat.le_of_ble_eq_true rfl)⟩, hce, hsl⟩ dL_law_247 ?_
  refine jx_aload_n (pc := 250) (k0 := 2) rfl dL_law_250 ?_
  refine jx_aload_n (pc := 251) (k0 := 0) rfl dL_law_251 ?_
  refine jx_iload_n (pc := 252) (k0 := 3) rfl dL_law_252 ?_
  refine jx_iconst (pc := 253) (v := (1 : Int32)) (by decide) dL_law_253 ?_
  refine jx_iadd (pc := 254) dL_law_254 ?_
  refine lw_sld (pc := 255) (j := i + 1) (nI_k 1 _ (by decide)) (by omega) (by omega) dL_law_255 ?_
  refine jx_aload_n (pc := 256) (k0 := 0) rfl dL_law_256 ?_
  refine jx_iload_n (pc := 257) (k0 := 3) rfl dL_law_257 ?_
  refine jx_iconst (pc := 258) (v := (2 : Int32)) (by decide) dL_law_258 ?_
  refine jx_iadd (pc := 259) dL_law_259 ?_
  refine lw_sld (pc := 260) (j := i + 2) (nI_k 2 _ (by decide)) (by omega) (by omega) dL_law_260 ?_
  refine jx_aload_n (pc := 261) (k0 := 0) rfl dL_law_261 ?_
  refine jx_iload_n (pc := 262) (k0 := 3) rfl dL_law_262 ?_
  refine jx_iconst (pc := 263) (v := (3 : Int32)) (by decide) dL_law_263 ?_
  refine jx_iadd (pc := 264) dL_law_264 ?_
  refine lw_sld (pc := 265) (j := i + 3) (nI_k 3 _ (by decide)) (by omega) (by omega) dL_law_265 ?_
  refine lw_cMi (pc := 266) hok [.int (xs (i + 1)), .int (xs (i + 2)), .int (xs (i + 3))] (fun sz' => k_X6_place l Gm hok.2.1 sz' σm (xs (i + 1)) (xs (i + 2)) (xs (i + 3)) _ hm1) kv_L_31 rfl rfl (Nat.le_of_ble_eq_true rfl) ⟨⟨rfl, rfl⟩, ⟨(Nat.le_of_ble_eq_true rfl), (Nat.le_of_ble_eq_true rfl)⟩, hce, hsl⟩ dL_law_266 ?_
  refine jx_icmp_eq (pc := 269) (tgt := 1096) dL_law_269 (by decide) (fun _ => ?_) (fun c => absurd rfl c)
  exact lw_widen (Nat.le_add_right _ 5) (Nat.le_add_right _ 404) (hk _ _ _ hr1)
set_option maxHeartbeats 4000000 in
set_option maxRecDepth 100000 in
theorem lw_case_at (l : Launch) {Gl Gm : jx_G} {b L : Nat} {xs : Nat → Int32} {sz : Nat} {nm : String} {ret0 : Option FieldType} {Qf : List Frame → Array Value → State → State → Prop} (hL : L ≤ 3072) (hok : lw_ok Gl Gm sz) (R : jx_T → jx_M → jx_M → Prop) (hops : lw_ops R) {i ce sl : Nat} (hi : i + 6 ≤ L) (hce5 : ce + 5 ≤ room_1.cells) (hsl5 : sl + 404 ≤ room_1.slots) (hk : ∀ (t : jx_T) (σl σm : jx_M), R t σl σm → jx_J l (lw_env Gl Gm b L xs) (lw_dyn Gl Gm) lw_no sz RL nm cL_law 4 ret0 room_1 Qf (ce + 5) (sl + 404) 1096 [(0, .ref b), (1, .ref (Gl.2 20)), (2, .ref (Gm.2 10)), (3, .int (nI i))] [] (σl, σm, t)) (t : jx_T) (σl σm : jx_M) (hR : R t σl σm) : jx_J l (lw_env Gl Gm b L xs) (lw_dyn Gl Gm) lw_no sz RL nm cL_law 4 ret0 room_1 Qf ce sl 274 [(0, .ref b), (1, .ref (Gl.2 20)), (2, .ref (Gm.2 10)), (3, .int (nI i))] [] (σl, σm, t) := by
  have hce : ce ≤ room_1.cells := Nat.le_trans (Nat.le_add_right _ _) hce5
  have hsl : sl ≤ room_1.slots := Nat.le_trans (Nat.le_add_right _ _) hsl5
  obtain ⟨r, σl2, σm2, hl1, hm1, hr1⟩ := hops.2.2.2.2.1 t σl σm (xs (i + 1)) (xs (i + 2)) hR
  refine jx_aload_n (pc := 274) (k0 := 1) rfl dL_law_274 ?_
  refine jx_aload_n (pc := 275) (k0 := 0) rfl dL_law_275 ?_
  refine jx_iload_n (pc := 276) (k0 := 3) rfl dL_law_276 ?_
  refine jx_iconst (pc := 277) (v := (1 : Int32)) (by decide) dL_law_277 ?_
  refine jx_iadd (pc := 278) dL_law_278 ?_
  refine lw_sld (pc := 279) (j := i + 1) (nI_k 1 _ (by decide)) (by omega) (by omega) dL_law_279 ?_
  refine jx_aload_n (pc := 280) (k0 := 0) rfl dL_law_280 ?_
  refine jx_iload_n (pc := 281) (k0 := 3) rfl dL_law_281 ?_
  refine jx_iconst (pc := 282) (v := (2 : Int32)) (by decide) dL_law_282 ?_
  refine jx_iadd (pc := 283) dL_law_283 ?_
  refine lw_sld (pc := 284) (j := i + 2) (nI_k 2 _ (by decide)) (by omega) (by omega) dL_law_284 ?_
  refine lw_cLi (pc := 285) hok (fun _ h => h) (fun h => h) [.int (xs (i + 1)), .int (xs (i + 2))] (fun sz' => k_X5_at l Gl t hok.1 sz' σl (xs (i + 1)) (xs (i + 2)) _ hl1) kv_L_32 rfl rfl (Nat.le_of_ble_eq_true rfl) ⟨⟨rfl, rfl⟩, ⟨(Nat.le_of_ble_eq_true rfl), (Nat.le_of_ble_eq_true rfl)⟩, hce, hsl⟩ dL_law_285 ?_
  refine jx_aload_n (pc := 288) (k0 := 2) rfl dL_law_288 ?_
  refine jx_aload_n (pc := 289) (k0 := 0) rfl dL_law_289 ?_
  refine jx_iload_n (pc := 290) (k0 := 3) rfl dL_law_290 ?_
  refine jx_iconst (pc := 291) (v := (1 : Int32)) (by decide) dL_law_291 ?_
  refine jx_iadd (pc := 292) dL_law_292 ?_
  refine lw_sld (pc := 293) (j := i + 1) (nI_k 1 _ (by decide)) (by omega) (by omega) dL_law_293 ?_
  refine jx_aload_n (pc := 294) (k0 := 0) rfl dL_law_294 ?_
  refine jx_iload_n (pc := 295) (k0 := 3) rfl dL_law_295 ?_
  refine jx_iconst (pc := 296) (v := (2 : Int32)) (by decide) dL_law_296 ?_
  refine jx_iadd (pc := 297) dL_law_297 ?_
  refine lw_sld (pc := 298) (j := i + 2) (nI_k 2 _ (by decide)) (by omega) (by omega) dL_law_298 ?_
  refine lw_cMi (pc := 299) hok [.int (xs (i + 1)), .int (xs (i + 2))] (fun sz' => k_X6_at l Gm hok.2.1 sz' σm (xs (i + 1)) (xs (i + 2)) _ hm1) kv_L_36 rfl rfl (Nat.le_of_ble_eq_true rfl) ⟨⟨rfl, rfl⟩, ⟨(Nat.le_of_ble_eq_true rfl), (Nat.le_of_ble_eq_true rfl)⟩, hce, hsl⟩ dL_law_299 ?_
  refine jx_icmp_eq (pc := 302) (tgt := 1096) dL_law_302 (by decide) (fun _ => ?_) (fun c => absurd rfl c)
  exact lw_widen (Nat.le_add_right _ 5) (Nat.le_add_right _ 404) (hk _ _ _ hr1)
set_option maxHeartbeats 4000000 in
set_option maxRecDepth 100000 in
theorem lw_case_voter (l : Launch) {Gl Gm : jx_G} {b L : Nat} {xs : Nat → Int32} {sz : Nat} {nm : String} {ret0 : Option FieldType} {Qf : List Frame → Array Value → State → State → Prop} (hL : L ≤ 3072) (hok : lw_ok Gl Gm sz) (R : jx_T → jx_M → jx_M → Prop) (hops : lw_ops R) {i ce sl : Nat} (hi : i + 6 ≤ L) (hce5 : ce + 5 ≤ room_1.cells) (hsl5 : sl + 404 ≤ room_1.slots) (hk : ∀ (t : jx_T) (σl σm : jx_M), R t σl σm → jx_J l (lw_env Gl Gm b L xs) (lw_dyn Gl Gm) lw_no sz RL nm cL_law 4 ret0 room_1 Qf (ce + 5) (sl + 404) 1096 [(0, .ref b), (1, .ref (Gl.2 20)), (2, .ref (Gm.2 10)), (3, .int (nI i))] [] (σl, σm, t)) (t : jx_T) (σl σm : jx_M) (hR : R t σl σm) : jx_J l (lw_env Gl Gm b L xs) (lw_dyn Gl Gm) lw_no sz RL nm cL_law 4 ret0 room_1 Qf ce sl 307 [(0, .ref b), (1, .ref (Gl.2 20)), (2, .ref (Gm.2 10)), (3, .int (nI i))] [] (σl, σm, t) := by
  have hce : ce ≤ room_1.cells := Nat.le_trans (Nat.le_add_right _ _) hce5
  have hsl : sl ≤ room_1.slots := Nat.le_trans (Nat.le_add_right _ _) hsl5
  obtain ⟨r, σl2, σm2, hl1, hm1, hr1⟩ := hops.2.2.2.2.2.1 t σl σm (xs (i + 1)) (xs (i + 2)) (xs (i + 3)) (xs (i + 4)) (xs (i + 5)) hR
  refine jx_aload_n (pc := 307) (k0 := 1) rfl dL_law_307 ?_
  refine jx_aload_n (pc := 308) (k0 := 0) rfl dL_law_308 ?_
  refine jx_iload_n (pc := 309) (k0 := 3) rfl dL_law_309 ?_
  refine jx_iconst (pc := 310) (v := (1 : Int32)) (by decide) dL_law_310 ?_
  refine jx_iadd (pc := 311) dL_law_311 ?_
  refine lw_sld (pc := 312) (j := i + 1) (nI_k 1 _ (by decide)) (by omega) (by omega) dL_law_312 ?_
  refine jx_aload_n (pc := 313) (k0 := 0) rfl dL_law_313 ?_
  refine jx_iload_n (pc := 314) (k0 := 3) rfl dL_law_314 ?_
  refine jx_iconst (pc := 315) (v := (2 : Int32)) (by decide) dL_law_315 ?_
  refine jx_iadd (pc := 316) dL_law_316 ?_
  refine lw_sld (pc := 317) (j := i + 2) (nI_k 2 _ (by decide)) (by omega) (by omega) dL_law_317 ?_
  refine jx_aload_n (pc := 318) (k0 := 0) rfl dL_law_318 ?_
  refine jx_iload_n (pc := 319) (k0 := 3) rfl dL_law_319 ?_
  refine jx_iconst (pc := 320) (v := (3 : Int32)) (by decide) dL_law_320 ?_
  refine jx_iadd (pc := 321) dL_law_321 ?_
  refine lw_sld (pc := 322) (j := i + 3) (nI_k 3 _ (by decide)) (by omega) (by omega) dL_law_322 ?_
  refine jx_aload_n (pc := 323) (k0 := 0) rfl dL_law_323 ?_
  refine jx_iload_n (pc := 324) (k0 := 3) rfl dL_law_324 ?_
  refine jx_iconst (pc := 325) (v := (4 : Int32)) (by decide) dL_law_325 ?_
  refine jx_iadd (pc := 326) dL_law_326 ?_
  refine lw_sld (pc := 327) (j := i + 4) (nI_k 4 _ (by decide)) (by omega) (by omega) dL_law_327 ?_
  refine jx_aload_n (pc := 328) (k0 := 0) rfl dL_law_328 ?_
  refine jx_iload_n (pc := 329) (k0 := 3) rfl dL_law_329 ?_
  refine jx_iconst (pc := 330) (v := (5 : Int32)) (by decide) dL_law_330 ?_
  refine jx_iadd (pc := 331) dL_law_331 ?_
  refine lw_sld (pc := 332) (j := i + 5) (nI_k 5 _ (by decide)) (by omega) (by omega) dL_law_332 ?_
  refine lw_cLi (pc := 333) hok (fun _ h => h) (fun h => h) [.int (xs (i + 1)), .int (xs (i + 2)), .int (xs (i + 3)), .int (xs (i + 4)), .int (xs (i + 5))] (fun sz' => k_X5_voter l Gl t hok.1 sz' σl (xs (i + 1)) (xs (i + 2)) (xs (i + 3)) (xs (i + 4)) (xs (i + 5)) _ hl1) kv_L_37 rfl rfl (Nat.le_of_ble_eq_true rfl) ⟨⟨rfl, rfl⟩, ⟨(Nat.le_of_ble_eq_true rfl), (Nat.le_of_ble_eq_true rfl)⟩, hce, hsl⟩ dL_law_333 ?_
  refine jx_aload_n (pc := 336) (k0 := 2) rfl dL_law_336 ?_
  refine jx_aload_n (pc := 337) (k0 := 0) rfl dL_law_337 ?_
  refine jx_iload_n (pc := 338) (k0 := 3) rfl dL_law_338 ?_
  refine jx_iconst (pc := 339) (v := (1 : Int32)) (by decide) dL_law_339 ?_
  refine jx_iadd (pc := 340) dL_law_340 ?_
  refine lw_sld (pc := 341) (j := i + 1) (nI_k 1 _ (by decide)) (by omega) (by omega) dL_law_341 ?_
  refine jx_aload_n (pc := 342) (k0 := 0) rfl dL_law_342 ?_
  refine jx_iload_n (pc := 343) (k0 := 3) rfl dL_law_343 ?_
  refine jx_iconst (pc := 344) (v := (2 : Int32)) (by decide) dL_law_344 ?_
  refine jx_iadd (pc := 345) dL_law_345 ?_
  refine lw_sld (pc := 346) (j := i + 2) (nI_k 2 _ (by decide)) (by omega) (by omega) dL_law_346 ?_
  refine jx_aload_n (pc := 347) (k0 := 0) rfl dL_law_347 ?_
  refine jx_iload_n (pc := 348) (k0 := 3) rfl dL_law_348 ?_
  refine jx_iconst (pc := 349) (v := (3 : Int32)) (by decide) dL_law_349 ?_
  refine jx_iadd (pc := 350) dL_law_350 ?_
  refine lw_sld (pc := 351) (j := i + 3) (nI_k 3 _ (by decide)) (by omega) (by omega) dL_law_351 ?_
  refine jx_aload_n (pc := 352) (k0 := 0) rfl dL_law_352 ?_
  refine jx_iload_n (pc := 353) (k0 := 3) rfl dL_law_353 ?_
  refine jx_iconst (pc := 354) (v := (4 : Int32)) (by decide) dL_law_354 ?_
  refine jx_iadd (pc := 355) dL_law_355 ?_
  refine lw_sld (pc := 356) (j := i + 4) (nI_k 4 _ (by decide)) (by omega) (by omega) dL_law_356 ?_
  refine jx_aload_n (pc := 357) (k0 := 0) rfl dL_law_357 ?_
  refine jx_iload_n (pc := 358) (k0 := 3) rfl dL_law_358 ?_
  refine jx_iconst (pc := 359) (v := (5 : Int32)) (by decide) dL_law_359 ?_
  refine jx_iadd (pc := 360) dL_law_360 ?_
  refine lw_sld (pc := 361) (j := i + 5) (nI_k 5 _ (by decide)) (by omega) (by omega) dL_law_361 ?_
  refine lw_cMi (pc := 362) hok [.int (xs (i + 1)), .int (xs (i + 2)), .int (xs (i + 3)), .int (xs (i + 4)), .int (xs (i + 5))] (fun sz' => k_X6_voter l Gm hok.2.1 sz' σm (xs (i + 1)) (xs (i + 2)) (xs (i + 3)) (xs (i + 4)) (xs (i + 5)) _ hm1) kv_L_41 rfl rfl (Nat.le_of_ble_eq_true rfl) ⟨⟨rfl, rfl⟩, ⟨(Nat.le_of_ble_eq_true rfl), (Nat.le_of_ble_eq_true rfl)⟩, hce, hsl⟩ dL_law_362 ?_
  refine jx_icmp_eq (pc := 365) (tgt := 1096) dL_law_365 (by decide) (fun _ => ?_) (fun c => absurd rfl c)
  exact lw_widen (Nat.le_add_right _ 5) (Nat.le_add_right _ 404) (hk _ _ _ hr1)
set_option maxHeartbeats 4000000 in
set_option maxRecDepth 100000 in
theorem lw_case_of (l : Launch) {Gl Gm : jx_G} {b L : Nat} {xs : Nat → Int32} {sz : Nat} {nm : String} {ret0 : Option FieldType} {Qf : List Frame → Array Value → State → State → Prop} (hL : L ≤ 3072) (hok : lw_ok Gl Gm sz) (R : jx_T → jx_M → jx_M → Prop) (hops : lw_ops R) {i ce sl : Nat} (hi : i + 6 ≤ L) (hce5 : ce + 5 ≤ room_1.cells) (hsl5 : sl + 404 ≤ room_1.slots) (hk : ∀ (t : jx_T) (σl σm : jx_M), R t σl σm → jx_J l (lw_env Gl Gm b L xs) (lw_dyn Gl Gm) lw_no sz RL nm cL_law 4 ret0 room_1 Qf (ce + 5) (sl + 404) 1096 [(0, .ref b), (1, .ref (Gl.2 20)), (2, .ref (Gm.2 10)), (3, .int (nI i))] [] (σl, σm, t)) (t : jx_T) (σl σm : jx_M) (hR : R t σl σm) : jx_J l (lw_env Gl Gm b L xs) (lw_dyn Gl Gm) lw_no sz RL nm cL_law 4 ret0 room_1 Qf ce sl 370 [(0, .ref b), (1, .ref (Gl.2 20)), (2, .ref (Gm.2 10)), (3, .int (nI i))] [] (σl, σm, t) := by
  have hce : ce ≤ room_1.cells := Nat.le_trans (Nat.le_add_right _ _) hce5
  have hsl : sl ≤ room_1.slots := Nat.le_trans (Nat.le_add_right _ _) hsl5
  obtain ⟨r, σl2, σm2, hl1, hm1, hr1⟩ := hops.2.2.2.2.2.2.1 t σl σm (xs (i + 1)) (xs (i + 2)) hR
  refine jx_aload_n (pc := 370) (k0 := 1) rfl dL_law_370 ?_
  refine jx_aload_n (pc := 371) (k0 := 0) rfl dL_law_371 ?_
  refine jx_iload_n (pc := 372) (k0 := 3) rfl dL_law_372 ?_
  refine jx_iconst (pc := 373) (v := (1 : Int32)) (by decide) dL_law_373 ?_
  refine jx_iadd (pc := 374) dL_law_374 ?_
  refine lw_sld (pc := 375) (j := i + 1) (nI_k 1 _ (by decide)) (by omega) (by omega) dL_law_375 ?_
  refine jx_aload_n (pc := 376) (k0 := 0) rfl dL_law_376 ?_
  refine jx_iload_n (pc := 377) (k0 := 3) rfl dL_law_377 ?_
  refine jx_iconst (pc := 378) (v := (2 : Int32)) (by decide) dL_law_378 ?_
  refine jx_iadd (pc := 379) dL_law_379 ?_
  refine lw_sld (pc := 380) (j := i + 2) (nI_k 2 _ (by decide)) (by omega) (by omega) dL_law_380 ?_
  refine lw_cLi (pc := 381) hok (fun _ h => h) (fun h => h) [.int (xs (i + 1)), .int (xs (i + 2))] (fun sz' => k_X5_of l Gl t hok.1 sz' σl (xs (i + 1)) (xs (i + 2)) _ hl1) kv_L_42 rfl rfl (Nat.le_of_ble_eq_true rfl) ⟨⟨rfl, rfl⟩, ⟨(Nat.le_of_ble_eq_true rfl), (Nat.le_of_ble_eq_true rfl)⟩, hce, hsl⟩ dL_law_381 ?_
  refine jx_aload_n (pc := 384) (k0 := 2) rfl dL_law_384 ?_
  refine jx_aload_n (pc := 385) (k0 := 0) rfl dL_law_385 ?_
  refine jx_iload_n (pc := 386) (k0 := 3) rfl dL_law_386 ?_
  refine jx_iconst (pc := 387) (v := (1 : Int32)) (by decide) dL_law_387 ?_
  refine jx_iadd (pc := 388) dL_law_388 ?_
  refine lw_sld (pc := 389) (j := i + 1) (nI_k 1 _ (by decide)) (by omega) (by omega) dL_law_389 ?_
  refine jx_aload_n (pc := 390) (k0 := 0) rfl dL_law_390 ?_
  refine jx_iload_n (pc := 391) (k0 := 3) rfl dL_law_391 ?_
  refine jx_iconst (pc := 392) (v := (2 : Int32)) (by decide) dL_law_392 ?_
  refine jx_iadd (pc := 393) dL_law_393 ?_
  refine lw_sld (pc := 394) (j := i + 2) (nI_k 2 _ (by decide)) (by omega) (by omega) dL_law_394 ?_
  refine lw_cMi (pc := 395) hok [.int (xs (i + 1)), .int (xs (i + 2))] (fun sz' => k_X6_of l Gm hok.2.1 sz' σm (xs (i + 1)) (xs (i + 2)) _ hm1) kv_L_45 rfl rfl (Nat.le_of_ble_eq_true rfl) ⟨⟨rfl, rfl⟩, ⟨(Nat.le_of_ble_eq_true rfl), (Nat.le_of_ble_eq_true rfl)⟩, hce, hsl⟩ dL_law_395 ?_
  refine jx_icmp_eq (pc := 398) (tgt := 1096) dL_law_398 (by decide) (fun _ => ?_) (fun c => absurd rfl c)
  exact lw_widen (Nat.le_add_right _ 5) (Nat.le_add_right _ 404) (hk _ _ _ hr1)
set_option maxHeartbeats 4000000 in
set_option maxRecDepth 100000 in
theorem lw_case_wish (l : Launch) {Gl Gm : jx_G} {b L : Nat} {xs : Nat → Int32} {sz : Nat} {nm : String} {ret0 : Option FieldType} {Qf : List Frame → Array Value → State → State → Prop} (hL : L ≤ 3072) (hok : lw_ok Gl Gm sz) (R : jx_T → jx_M → jx_M → Prop) (hops : lw_ops R) {i ce sl : Nat} (hi : i + 6 ≤ L) (hce5 : ce + 5 ≤ room_1.cells) (hsl5 : sl + 404 ≤ room_1.slots) (hk : ∀ (t : jx_T) (σl σm : jx_M), R t σl σm → jx_J l (lw_env Gl Gm b L xs) (lw_dyn Gl Gm) lw_no sz RL nm cL_law 4 ret0 room_1 Qf (ce + 5) (sl + 404) 1096 [(0, .ref b), (1, .ref (Gl.2 20)), (2, .ref (Gm.2 10)), (3, .int (nI i))] [] (σl, σm, t)) (t : jx_T) (σl σm : jx_M) (hR : R t σl σm) : jx_J l (lw_env Gl Gm b L xs) (lw_dyn Gl Gm) lw_no sz RL nm cL_law 4 ret0 room_1 Qf ce sl 403 [(0, .ref b), (1, .ref (Gl.2 20)), (2, .ref (Gm.2 10)), (3, .int (nI i))] [] (σl, σm, t) := by
  have hce : ce ≤ room_1.cells := Nat.le_trans (Nat.le_add_right _ _) hce5
  have hsl : sl ≤ room_1.slots := Nat.le_trans (Nat.le_add_right _ _) hsl5
  obtain ⟨r, σl2, σm2, hl1, hm1, hr1⟩ := hops.2.2.2.2.2.2.2.1 t σl σm (xs (i + 1)) (xs (i + 2)) hR
  refine jx_aload_n (pc := 403) (k0 := 1) rfl dL_law_403 ?_
  refine jx_aload_n (pc := 404) (k0 := 0) rfl dL_law_404 ?_
  refine jx_iload_n (pc := 405) (k0 := 3) rfl dL_law_405 ?_
  refine jx_iconst (pc := 406) (v := (1 : Int32)) (by decide) dL_law_406 ?_
  refine jx_iadd (pc := 407) dL_law_407 ?_
  refine lw_sld (pc := 408) (j := i + 1) (nI_k 1 _ (by decide)) (by omega) (by omega) dL_law_408 ?_
  refine jx_aload_n (pc := 409) (k0 := 0) rfl dL_law_409 ?_
  refine jx_iload_n (pc := 410) (k0 := 3) rfl dL_law_410 ?_
  refine jx_iconst (pc := 411) (v := (2 : Int32)) (by decide) dL_law_411 ?_
  refine jx_iadd (pc := 412) dL_law_412 ?_
  refine lw_sld (pc := 413) (j := i + 2) (nI_k 2 _ (by decide)) (by omega) (by omega) dL_law_413 ?_
  refine lw_cLi (pc := 414) hok (fun _ h => h) (fun h => h) [.int (xs (i + 1)), .int (xs (i + 2))] (fun sz' => k_X5_wish l Gl t hok.1 sz' σl (xs (i + 1)) (xs (i + 2)) _ hl1) kv_L_46 rfl rfl (Nat.le_of_ble_eq_true rfl) ⟨⟨rfl, rfl⟩, ⟨(Nat.le_of_ble_eq_true rfl), (Nat.le_of_ble_eq_true rfl)⟩, hce, hsl⟩ dL_law_414 ?_
  refine jx_aload_n (pc := 417) (k0 := 2) rfl dL_law_417 ?_
  refine jx_aload_n (pc := 418) (k0 := 0) rfl dL_law_418 ?_
  refine jx_iload_n (pc := 419) (k0 := 3) rfl dL_law_419 ?_
  refine jx_iconst (pc := 420) (v := (1 : Int32)) (by decide) dL_law_420 ?_
  refine jx_iadd (pc := 421) dL_law_421 ?_
  refine lw_sld (pc := 422) (j := i + 1) (nI_k 1 _ (by decide)) (by omega) (by omega) dL_law_422 ?_
  refine jx_aload_n (pc := 423) (k0 := 0) rfl dL_law_423 ?_
  refine jx_iload_n (pc := 424) (k0 := 3) rfl dL_law_424 ?_
  refine jx_iconst (pc := 425) (v := (2 : Int32)) (by decide) dL_law_425 ?_
  refine jx_iadd (pc := 426) dL_law_426 ?_
  refine lw_sld (pc := 427) (j := i + 2) (nI_k 2 _ (by decide)) (by omega) (by omega) dL_law_427 ?_
  refine lw_cMi (pc := 428) hok [.int (xs (i + 1)), .int (xs (i + 2))] (fun sz' => k_X6_wish l Gm hok.2.1 sz' σm (xs (i + 1)) (xs (i + 2)) _ hm1) kv_L_49 rfl rfl (Nat.le_of_ble_eq_true rfl) ⟨⟨rfl, rfl⟩, ⟨(Nat.le_of_ble_eq_true rfl), (Nat.le_of_ble_eq_true rfl)⟩, hce, hsl⟩ dL_law_428 ?_
  refine jx_icmp_eq (pc := 431) (tgt := 1096) dL_law_431 (by decide) (fun _ => ?_) (fun c => absurd rfl c)
  exact lw_widen (Nat.le_add_right _ 5) (Nat.le_add_right _ 404) (hk _ _ _ hr1)
set_option maxHeartbeats 4000000 in
set_option maxRecDepth 100000 in
theorem lw_case_row (l : Launch) {Gl Gm : jx_G} {b L : Nat} {xs : Nat → Int32} {sz : Nat} {nm : String} {ret0 : Option FieldType} {Qf : List Frame → Array Value → State → State → Prop} (hL : L ≤ 3072) (hok : lw_ok Gl Gm sz) (R : jx_T → jx_M → jx_M → Prop) (hops : lw_ops R) {i ce sl : Nat} (hi : i + 6 ≤ L) (hce5 : ce + 5 ≤ room_1.cells) (hsl5 : sl + 404 ≤ room_1.slots) (hk : ∀ (t : jx_T) (σl σm : jx_M), R t σl σm → jx_J l (lw_env Gl Gm b L xs) (lw_dyn Gl Gm) lw_no sz RL nm cL_law 4 ret0 room_1 Qf (ce + 5) (sl + 404) 1096 [(0, .ref b), (1, .ref (Gl.2 20)), (2, .ref (Gm.2 10)), (3, .int (nI i))] [] (σl, σm, t)) (t : jx_T) (σl σm : jx_M) (hR : R t σl σm) : jx_J l (lw_env Gl Gm b L xs) (lw_dyn Gl Gm) lw_no sz RL nm cL_law 4 ret0 room_1 Qf ce sl 436 [(0, .ref b), (1, .ref (Gl.2 20)), (2, .ref (Gm.2 10)), (3, .int (nI i))] [] (σl, σm, t) := by
  have hce : ce ≤ room_1.cells := Nat.le_trans (Nat.le_add_right _ _) hce5
  have hsl : sl ≤ room_1.slots := Nat.le_trans (Nat.le_add_right _ _) hsl5
  obtain ⟨r, σl2, σm2, hl1, hm1, hr1⟩ := hops.2.2.2.2.2.2.2.2.1 t σl σm (xs (i + 1)) (xs (i + 2)) (xs (i + 3)) hR
  refine jx_aload_n (pc := 436) (k0 := 1) rfl dL_law_436 ?_
  refine jx_aload_n (pc := 437) (k0 := 0) rfl dL_law_437 ?_
  refine jx_iload_n (pc := 438) (k0 := 3) rfl dL_law_438 ?_
  refine jx_iconst (pc := 439) (v := (1 : Int32)) (by decide) dL_law_439 ?_
  refine jx_iadd (pc := 440) dL_law_440 ?_
  refine lw_sld (pc := 441) (j := i + 1) (nI_k 1 _ (by decide)) (by omega) (by omega) dL_law_441 ?_
  refine jx_aload_n (pc := 442) (k0 := 0) rfl dL_law_442 ?_
  refine jx_iload_n (pc := 443) (k0 := 3) rfl dL_law_443 ?_
  refine jx_iconst (pc := 444) (v := (2 : Int32)) (by decide) dL_law_444 ?_
  refine jx_iadd (pc := 445) dL_law_445 ?_
  refine lw_sld (pc := 446) (j := i + 2) (nI_k 2 _ (by decide)) (by omega) (by omega) dL_law_446 ?_
  refine jx_aload_n (pc := 447) (k0 := 0) rfl dL_law_447 ?_
  refine jx_iload_n (pc := 448) (k0 := 3) rfl dL_law_448 ?_
  refine jx_iconst (pc := 449) (v := (3 : Int32)) (by decide) dL_law_449 ?_
  refine jx_iadd (pc := 450) dL_law_450 ?_
  refine lw_sld (pc := 451) (j := i + 3) (nI_k 3 _ (by decide)) (by omega) (by omega) dL_law_451 ?_
  refine lw_cLi (pc := 452) hok (fun _ h => h) (fun h => h) [.int (xs (i + 1)), .int (xs (i + 2)), .int (xs (i + 3))] (fun sz' => k_X5_row l Gl t hok.1 sz' σl (xs (i + 1)) (xs (i + 2)) (xs (i + 3)) _ hl1) kv_L_50 rfl rfl (Nat.le_of_ble_eq_true rfl) ⟨⟨rfl, rfl⟩, ⟨(Nat.le_of_ble_eq_true rfl), (Nat.le_of_ble_eq_true rfl)⟩, hce, hsl⟩ dL_law_452 ?_
  refine jx_aload_n (pc := 455) (k0 := 2) rfl dL_law_455 ?_
  refine jx_aload_n (pc := 456) (k0 := 0) rfl dL_law_456 ?_
  refine jx_iload_n (pc := 457) (k0 := 3) rfl dL_law_457 ?_
  refine jx_iconst (pc := 458) (v := (1 : Int32)) (by decide) dL_law_458 ?_
  refine jx_iadd (pc := 459) dL_law_459 ?_
  refine lw_sld (pc := 460) (j := i + 1) (nI_k 1 _ (by decide)) (by omega) (by omega) dL_law_460 ?_
  refine jx_aload_n (pc := 461) (k0 := 0) rfl dL_law_461 ?_
  refine jx_iload_n (pc := 462) (k0 := 3) rfl dL_law_462 ?_
  refine jx_iconst (pc := 463) (v := (2 : Int32)) (by decide) dL_law_463 ?_
  refine jx_iadd (pc := 464) dL_law_464 ?_
  refine lw_sld (pc := 465) (j := i + 2) (nI_k 2 _ (by decide)) (by omega) (by omega) dL_law_465 ?_
  refine jx_aload_n (pc := 466) (k0 := 0) rfl dL_law_466 ?_
  refine jx_iload_n (pc := 467) (k0 := 3) rfl dL_law_467 ?_
  refine jx_iconst (pc := 468) (v := (3 : Int32)) (by decide) dL_law_468 ?_
  refine jx_iadd (pc := 469) dL_law_469 ?_
  refine lw_sld (pc := 470) (j := i + 3) (nI_k 3 _ (by decide)) (by omega) (by omega) dL_law_470 ?_
  refine lw_cMi (pc := 471) hok [.int (xs (i + 1)), .int (xs (i + 2)), .int (xs (i + 3))] (fun sz' => k_X6_row l Gm hok.2.1 sz' σm (xs (i + 1)) (xs (i + 2)) (xs (i + 3)) _ hm1) kv_L_53 rfl rfl (Nat.le_of_ble_eq_true rfl) ⟨⟨rfl, rfl⟩, ⟨(Nat.le_of_ble_eq_true rfl), (Nat.le_of_ble_eq_true rfl)⟩, hce, hsl⟩ dL_law_471 ?_
  refine jx_icmp_eq (pc := 474) (tgt := 1096) dL_law_474 (by decide) (fun _ => ?_) (fun c => absurd rfl c)
  exact lw_widen (Nat.le_add_right _ 5) (Nat.le_add_right _ 404) (hk _ _ _ hr1)
set_option maxHeartbeats 4000000 in
set_option maxRecDepth 100000 in
theorem lw_case_minutes (l : Launch) {Gl Gm : jx_G} {b L : Nat} {xs : Nat → Int32} {sz : Nat} {nm : String} {ret0 : Option FieldType} {Qf : List Frame → Array Value → State → State → Prop} (hL : L ≤ 3072) (hok : lw_ok Gl Gm sz) (R : jx_T → jx_M → jx_M → Prop) (hops : lw_ops R) {i ce sl : Nat} (hi : i + 6 ≤ L) (hce5 : ce + 5 ≤ room_1.cells) (hsl5 : sl + 404 ≤ room_1.slots) (hk : ∀ (t : jx_T) (σl σm : jx_M), R t σl σm → jx_J l (lw_env Gl Gm b L xs) (lw_dyn Gl Gm) lw_no sz RL nm cL_law 4 ret0 room_1 Qf (ce + 5) (sl + 404) 1096 [(0, .ref b), (1, .ref (Gl.2 20)), (2, .ref (Gm.2 10)), (3, .int (nI i))] [] (σl, σm, t)) (t : jx_T) (σl σm : jx_M) (hR : R t σl σm) : jx_J l (lw_env Gl Gm b L xs) (lw_dyn Gl Gm) lw_no sz RL nm cL_law 4 ret0 room_1 Qf ce sl 479 [(0, .ref b), (1, .ref (Gl.2 20)), (2, .ref (Gm.2 10)), (3, .int (nI i))] [] (σl, σm, t) := by
  have hce : ce ≤ room_1.cells := Nat.le_trans (Nat.le_add_right _ _) hce5
  have hsl : sl ≤ room_1.slots := Nat.le_trans (Nat.le_add_right _ _) hsl5
  obtain ⟨r, σl2, σm2, hl1, hm1, hr1⟩ := hops.2.2.2.2.2.2.2.2.2.1 t σl σm (xs (i + 1)) hR
  refine jx_aload_n (pc := 479) (k0 := 1) rfl dL_law_479 ?_
  refine jx_aload_n (pc := 480) (k0 := 0) rfl dL_law_480 ?_
  refine jx_iload_n (pc := 481) (k0 := 3) rfl dL_law_481 ?_
  refine jx_iconst (pc := 482) (v := (1 : Int32)) (by decide) dL_law_482 ?_
  refine jx_iadd (pc := 483) dL_law_483 ?_
  refine lw_sld (pc := 484) (j := i + 1) (nI_k 1 _ (by decide)) (by omega) (by omega) dL_law_484 ?_
  refine lw_cLi (pc := 485) hok (fun _ h => h) (fun h => h) [.int (xs (i + 1))] (fun sz' => k_X5_minutes l Gl t hok.1 sz' σl (xs (i + 1)) _ hl1) kv_L_54 rfl rfl (Nat.le_of_ble_eq_true rfl) ⟨⟨rfl, rfl⟩, ⟨(Nat.le_of_ble_eq_true rfl), (Nat.le_of_ble_eq_true rfl)⟩, hce, hsl⟩ dL_law_485 ?_
  refine jx_aload_n (pc := 488) (k0 := 2) rfl dL_law_488 ?_
  refine jx_aload_n (pc := 489) (k0 := 0) rfl dL_law_489 ?_
  refine jx_iload_n (pc := 490) (k0 := 3) rfl dL_law_490 ?_
  refine jx_iconst (pc := 491) (v := (1 : Int32)) (by decide) dL_law_491 ?_
  refine jx_iadd (pc := 492) dL_law_492 ?_
  refine lw_sld (pc := 493) (j := i + 1) (nI_k 1 _ (by decide)) (by omega) (by omega) dL_law_493 ?_
  refine lw_cMi (pc := 494) hok [.int (xs (i + 1))] (fun sz' => k_X6_minutes l Gm hok.2.1 sz' σm (xs (i + 1)) _ hm1) kv_L_57 rfl rfl (Nat.le_of_ble_eq_true rfl) ⟨⟨rfl, rfl⟩, ⟨(Nat.le_of_ble_eq_true rfl), (Nat.le_of_ble_eq_true rfl)⟩, hce, hsl⟩ dL_law_494 ?_
  refine jx_icmp_eq (pc := 497) (tgt := 1096) dL_law_497 (by decide) (fun _ => ?_) (fun c => absurd rfl c)
  exact lw_widen (Nat.le_add_right _ 5) (Nat.le_add_right _ 404) (hk _ _ _ hr1)
set_option maxHeartbeats 4000000 in
set_option maxRecDepth 100000 in
theorem lw_case_vote (l : Launch) {Gl Gm : jx_G} {b L : Nat} {xs : Nat → Int32} {sz : Nat} {nm : String} {ret0 : Option FieldType} {Qf : List Frame → Array Value → State → State → Prop} (hL : L ≤ 3072) (hok : lw_ok Gl Gm sz) (R : jx_T → jx_M → jx_M → Prop) (hops : lw_ops R) {i ce sl : Nat} (hi : i + 6 ≤ L) (hce5 : ce + 5 ≤ room_1.cells) (hsl5 : sl + 404 ≤ room_1.slots) (hk : ∀ (t : jx_T) (σl σm : jx_M), R t σl σm → jx_J l (lw_env Gl Gm b L xs) (lw_dyn Gl Gm) lw_no sz RL nm cL_law 4 ret0 room_1 Qf (ce + 5) (sl + 404) 1096 [(0, .ref b), (1, .ref (Gl.2 20)), (2, .ref (Gm.2 10)), (3, .int (nI i))] [] (σl, σm, t)) (t : jx_T) (σl σm : jx_M) (hR : R t σl σm) : jx_J l (lw_env Gl Gm b L xs) (lw_dyn Gl Gm) lw_no sz RL nm cL_law 4 ret0 room_1 Qf ce sl 502 [(0, .ref b), (1, .ref (Gl.2 20)), (2, .ref (Gm.2 10)), (3, .int (nI i))] [] (σl, σm, t) := by
  have hce : ce ≤ room_1.cells := Nat.le_trans (Nat.le_add_right _ _) hce5
  have hsl : sl ≤ room_1.slots := Nat.le_trans (Nat.le_add_right _ _) hsl5
  obtain ⟨r, σl2, σm2, hl1, hm1, hr1⟩ := hops.2.2.2.2.2.2.2.2.2.2.1 t σl σm (xs (i + 1)) hR
  refine jx_aload_n (pc := 502) (k0 := 1) rfl dL_law_502 ?_
  refine jx_aload_n (pc := 503) (k0 := 0) rfl dL_law_503 ?_
  refine jx_iload_n (pc := 504) (k0 := 3) rfl dL_law_504 ?_
  refine jx_iconst (pc := 505) (v := (1 : Int32)) (by decide) dL_law_505 ?_
  refine jx_iadd (pc := 506) dL_law_506 ?_
  refine lw_sld (pc := 507) (j := i + 1) (nI_k 1 _ (by decide)) (by omega) (by omega) dL_law_507 ?_
  refine lw_cLi (pc := 508) hok (fun _ h => h) (fun h => h) [.int (xs (i + 1))] (fun sz' => k_X5_vote l Gl t hok.1 sz' σl (xs (i + 1)) _ hl1) kv_L_58 rfl rfl (Nat.le_of_ble_eq_true rfl) ⟨⟨rfl, rfl⟩, ⟨(Nat.le_of_ble_eq_true rfl), (Nat.le_of_ble_eq_true rfl)⟩, hce, hsl⟩ dL_law_508 ?_
  refine jx_aload_n (pc := 511) (k0 := 2) rfl dL_law_511 ?_
  refine jx_aload_n (pc := 512) (k0 := 0) rfl dL_law_512 ?_
  refine jx_iload_n (pc := 513) (k0 := 3) rfl dL_law_513 ?_
  refine jx_iconst (pc := 514) (v := (1 : Int32)) (by decide) dL_law_514 ?_
  refine jx_iadd (pc := 515) dL_law_515 ?_
  refine lw_sld (pc := 516) (j := i + 1) (nI_k 1 _ (by decide)) (by omega) (by omega) dL_law_516 ?_
  refine lw_cMi (pc := 517) hok [.int (xs (i + 1))] (fun sz' => k_X6_vote l Gm hok.2.1 sz' σm (xs (i + 1)) _ hm1) kv_L_61 rfl rfl (Nat.le_of_ble_eq_true rfl) ⟨⟨rfl, rfl⟩, ⟨(Nat.le_of_ble_eq_true rfl), (Nat.le_of_ble_eq_true rfl)⟩, hce, hsl⟩ dL_law_517 ?_
  refine jx_icmp_eq (pc := 520) (tgt := 1096) dL_law_520 (by decide) (fun _ => ?_) (fun c => absurd rfl c)
  exact lw_widen (Nat.le_add_right _ 5) (Nat.le_add_right _ 404) (hk _ _ _ hr1)
set_option maxHeartbeats 4000000 in
set_option maxRecDepth 100000 in
theorem lw_case_lies (l : Launch) {Gl Gm : jx_G} {b L : Nat} {xs : Nat → Int32} {sz : Nat} {nm : String} {ret0 : Option FieldType} {Qf : List Frame → Array Value → State → State → Prop} (hL : L ≤ 3072) (hok : lw_ok Gl Gm sz) (R : jx_T → jx_M → jx_M → Prop) (hops : lw_ops R) {i ce sl : Nat} (hi : i + 6 ≤ L) (hce5 : ce + 5 ≤ room_1.cells) (hsl5 : sl + 404 ≤ room_1.slots) (hk : ∀ (t : jx_T) (σl σm : jx_M), R t σl σm → jx_J l (lw_env Gl Gm b L xs) (lw_dyn Gl Gm) lw_no sz RL nm cL_law 4 ret0 room_1 Qf (ce + 5) (sl + 404) 1096 [(0, .ref b), (1, .ref (Gl.2 20)), (2, .ref (Gm.2 10)), (3, .int (nI i))] [] (σl, σm, t)) (t : jx_T) (σl σm : jx_M) (hR : R t σl σm) : jx_J l (lw_env Gl Gm b L xs) (lw_dyn Gl Gm) lw_no sz RL nm cL_law 4 ret0 room_1 Qf ce sl 525 [(0, .ref b), (1, .ref (Gl.2 20)), (2, .ref (Gm.2 10)), (3, .int (nI i))] [] (σl, σm, t) := by
  have hce : ce ≤ room_1.cells := Nat.le_trans (Nat.le_add_right _ _) hce5
  have hsl : sl ≤ room_1.slots := Nat.le_trans (Nat.le_add_right _ _) hsl5
  obtain ⟨r, σl2, σm2, hl1, hm1, hr1⟩ := hops.2.2.2.2.2.2.2.2.2.2.2.1 t σl σm (xs (i + 1)) (xs (i + 2)) hR
  refine jx_aload_n (pc := 525) (k0 := 1) rfl dL_law_525 ?_
  refine jx_aload_n (pc := 526) (k0 := 0) rfl dL_law_526 ?_
  refine jx_iload_n (pc := 527) (k0 := 3) rfl dL_law_527 ?_
  refine jx_iconst (pc := 528) (v := (1 : Int32)) (by decide) dL_law_528 ?_
  refine jx_iadd (pc := 529) dL_law_529 ?_
  refine lw_sld (pc := 530) (j := i + 1) (nI_k 1 _ (by decide)) (by omega) (by omega) dL_law_530 ?_
  refine jx_aload_n (pc := 531) (k0 := 0) rfl dL_law_531 ?_
  refine jx_iload_n (pc := 532) (k0 := 3) rfl dL_law_532 ?_
  refine jx_iconst (pc := 533) (v := (2 : Int32)) (by decide) dL_law_533 ?_
  refine jx_iadd (pc := 534) dL_law_534 ?_
  refine lw_sld (pc := 535) (j := i + 2) (nI_k 2 _ (by decide)) (by omega) (by omega) dL_law_535 ?_
  refine lw_cLi (pc := 536) hok (fun _ h => h) (fun h => h) [.int (xs (i + 1)), .int (xs (i + 2))] (fun sz' => k_X5_lies l Gl t hok.1 sz' σl (xs (i + 1)) (xs (i + 2)) _ hl1) kv_L_62 rfl rfl (Nat.le_of_ble_eq_true rfl) ⟨⟨rfl, rfl⟩, ⟨(Nat.le_of_ble_eq_true rfl), (Nat.le_of_ble_eq_true rfl)⟩, hce, hsl⟩ dL_law_536 ?_
  refine jx_aload_n (pc := 539) (k0 := 2) rfl dL_law_539 ?_
  refine jx_aload_n (pc := 540) (k0 := 0) rfl dL_law_540 ?_
  refine jx_iload_n (pc := 541) (k0 := 3) rfl dL_law_541 ?_
  refine jx_iconst (pc := 542) (v := (1 : Int32)) (by decide) dL_law_542 ?_
  refine jx_iadd (pc := 543) dL_law_543 ?_
  refine lw_sld (pc := 544) (j := i + 1) (nI_k 1 _ (by decide)) (by omega) (by omega) dL_law_544 ?_
  refine jx_aload_n (pc := 545) (k0 := 0) rfl dL_law_545 ?_
  refine jx_iload_n (pc := 546) (k0 := 3) rfl dL_law_546 ?_
  refine jx_iconst (pc := 547) (v := (2 : Int32)) (by decide) dL_law_547 ?_
  refine jx_iadd (pc := 548) dL_law_548 ?_
  refine lw_sld (pc := 549) (j := i + 2) (nI_k 2 _ (by decide)) (by omega) (by omega) dL_law_549 ?_
  refine lw_cMi (pc := 550) hok [.int (xs (i + 1)), .int (xs (i + 2))] (fun sz' => k_X6_lies l Gm hok.2.1 sz' σm (xs (i + 1)) (xs (i + 2)) _ hm1) kv_L_65 rfl rfl (Nat.le_of_ble_eq_true rfl) ⟨⟨rfl, rfl⟩, ⟨(Nat.le_of_ble_eq_true rfl), (Nat.le_of_ble_eq_true rfl)⟩, hce, hsl⟩ dL_law_550 ?_
  refine jx_icmp_eq (pc := 553) (tgt := 1096) dL_law_553 (by decide) (fun _ => ?_) (fun c => absurd rfl c)
  exact lw_widen (Nat.le_add_right _ 5) (Nat.le_add_right _ 404) (hk _ _ _ hr1)
set_option maxHeartbeats 4000000 in
set_option maxRecDepth 100000 in
theorem lw_case_ward (l : Launch) {Gl Gm : jx_G} {b L : Nat} {xs : Nat → Int32} {sz : Nat} {nm : String} {ret0 : Option FieldType} {Qf : List Frame → Array Value → State → State → Prop} (hL : L ≤ 3072) (hok : lw_ok Gl Gm sz) (R : jx_T → jx_M → jx_M → Prop) (hops : lw_ops R) {i ce sl : Nat} (hi : i + 6 ≤ L) (hce5 : ce + 5 ≤ room_1.cells) (hsl5 : sl + 404 ≤ room_1.slots) (hk : ∀ (t : jx_T) (σl σm : jx_M), R t σl σm → jx_J l (lw_env Gl Gm b L xs) (lw_dyn Gl Gm) lw_no sz RL nm cL_law 4 ret0 room_1 Qf (ce + 5) (sl + 404) 1096 [(0, .ref b), (1, .ref (Gl.2 20)), (2, .ref (Gm.2 10)), (3, .int (nI i))] [] (σl, σm, t)) (t : jx_T) (σl σm : jx_M) (hR : R t σl σm) : jx_J l (lw_env Gl Gm b L xs) (lw_dyn Gl Gm) lw_no sz RL nm cL_law 4 ret0 room_1 Qf ce sl 558 [(0, .ref b), (1, .ref (Gl.2 20)), (2, .ref (Gm.2 10)), (3, .int (nI i))] [] (σl, σm, t) := by
  have hce : ce ≤ room_1.cells := Nat.le_trans (Nat.le_add_right _ _) hce5
  have hsl : sl ≤ room_1.slots := Nat.le_trans (Nat.le_add_right _ _) hsl5
  obtain ⟨r, σl2, σm2, hl1, hm1, hr1⟩ := hops.2.2.2.2.2.2.2.2.2.2.2.2.1 t σl σm (xs (i + 1)) hR
  refine jx_aload_n (pc := 558) (k0 := 1) rfl dL_law_558 ?_
  refine jx_aload_n (pc := 559) (k0 := 0) rfl dL_law_559 ?_
  refine jx_iload_n (pc := 560) (k0 := 3) rfl dL_law_560 ?_
  refine jx_iconst (pc := 561) (v := (1 : Int32)) (by decide) dL_law_561 ?_
  refine jx_iadd (pc := 562) dL_law_562 ?_
  refine lw_sld (pc := 563) (j := i + 1) (nI_k 1 _ (by decide)) (by omega) (by omega) dL_law_563 ?_
  refine lw_cLi (pc := 564) hok (fun _ h => h) (fun h => h) [.int (xs (i + 1))] (fun sz' => k_X5_ward l Gl t hok.1 sz' σl (xs (i + 1)) _ hl1) kv_L_66 rfl rfl (Nat.le_of_ble_eq_true rfl) ⟨⟨rfl, rfl⟩, ⟨(Nat.le_of_ble_eq_true rfl), (Nat.le_of_ble_eq_true rfl)⟩, hce, hsl⟩ dL_law_564 ?_
  refine jx_aload_n (pc := 567) (k0 := 2) rfl dL_law_567 ?_
  refine jx_aload_n (pc := 568) (k0 := 0) rfl dL_law_568 ?_
  refine jx_iload_n (pc := 569) (k0 := 3) rfl dL_law_569 ?_
  refine jx_iconst (pc := 570) (v := (1 : Int32)) (by decide) dL_law_570 ?_
  refine jx_iadd (pc := 571) dL_law_571 ?_
  refine lw_sld (pc := 572) (j := i + 1) (nI_k 1 _ (by decide)) (by omega) (by omega) dL_law_572 ?_
  refine lw_cMi (pc := 573) hok [.int (xs (i + 1))] (fun sz' => k_X6_ward l Gm hok.2.1 sz' σm (xs (i + 1)) _ hm1) kv_L_69 rfl rfl (Nat.le_of_ble_eq_true rfl) ⟨⟨rfl, rfl⟩, ⟨(Nat.le_of_ble_eq_true rfl), (Nat.le_of_ble_eq_true rfl)⟩, hce, hsl⟩ dL_law_573 ?_
  refine jx_icmp_eq (pc := 576) (tgt := 1096) dL_law_576 (by decide) (fun _ => ?_) (fun c => absurd rfl c)
  exact lw_widen (Nat.le_add_right _ 5) (Nat.le_add_right _ 404) (hk _ _ _ hr1)
set_option maxHeartbeats 4000000 in
set_option maxRecDepth 100000 in
theorem lw_case_drifts (l : Launch) {Gl Gm : jx_G} {b L : Nat} {xs : Nat → Int32} {sz : Nat} {nm : String} {ret0 : Option FieldType} {Qf : List Frame → Array Value → State → State → Prop} (hL : L ≤ 3072) (hok : lw_ok Gl Gm sz) (R : jx_T → jx_M → jx_M → Prop) (hops : lw_ops R) {i ce sl : Nat} (hi : i + 6 ≤ L) (hce5 : ce + 5 ≤ room_1.cells) (hsl5 : sl + 404 ≤ room_1.slots) (hk : ∀ (t : jx_T) (σl σm : jx_M), R t σl σm → jx_J l (lw_env Gl Gm b L xs) (lw_dyn Gl Gm) lw_no sz RL nm cL_law 4 ret0 room_1 Qf (ce + 5) (sl + 404) 1096 [(0, .ref b), (1, .ref (Gl.2 20)), (2, .ref (Gm.2 10)), (3, .int (nI i))] [] (σl, σm, t)) (t : jx_T) (σl σm : jx_M) (hR : R t σl σm) : jx_J l (lw_env Gl Gm b L xs) (lw_dyn Gl Gm) lw_no sz RL nm cL_law 4 ret0 room_1 Qf ce sl 581 [(0, .ref b), (1, .ref (Gl.2 20)), (2, .ref (Gm.2 10)), (3, .int (nI i))] [] (σl, σm, t) := by
  have hce : ce ≤ room_1.cells := Nat.le_trans (Nat.le_add_right _ _) hce5
  have hsl : sl ≤ room_1.slots := Nat.le_trans (Nat.le_add_right _ _) hsl5
  obtain ⟨r, σl2, σm2, hl1, hm1, hr1⟩ := hops.2.2.2.2.2.2.2.2.2.2.2.2.2.1 t σl σm (xs (i + 1)) (xs (i + 2)) hR
  refine jx_aload_n (pc := 581) (k0 := 1) rfl dL_law_581 ?_
  refine jx_aload_n (pc := 582) (k0 := 0) rfl dL_law_582 ?_
  refine jx_iload_n (pc := 583) (k0 := 3) rfl dL_law_583 ?_
  refine jx_iconst (pc := 584) (v := (1 : Int32)) (by decide) dL_law_584 ?_
  refine jx_iadd (pc := 585) dL_law_585 ?_
  refine lw_sld (pc := 586) (j := i + 1) (nI_k 1 _ (by decide)) (by omega) (by omega) dL_law_586 ?_
  refine jx_aload_n (pc := 587) (k0 := 0) rfl dL_law_587 ?_
  refine jx_iload_n (pc := 588) (k0 := 3) rfl dL_law_588 ?_
  refine jx_iconst (pc := 589) (v := (2 : Int32)) (by decide) dL_law_589 ?_
  refine jx_iadd (pc := 590) dL_law_590 ?_
  refine lw_sld (pc := 591) (j := i + 2) (nI_k 2 _ (by decide)) (by omega) (by omega) dL_law_591 ?_
  refine lw_cLi (pc := 592) hok (fun _ h => h) (fun h => h) [.int (xs (i + 1)), .int (xs (i + 2))] (fun sz' => k_X5_drifts l Gl t hok.1 sz' σl (xs (i + 1)) (xs (i + 2)) _ hl1) kv_L_70 rfl rfl (Nat.le_of_ble_eq_true rfl) ⟨⟨rfl, rfl⟩, ⟨(Nat.le_of_ble_eq_true rfl), (Nat.le_of_ble_eq_true rfl)⟩, hce, hsl⟩ dL_law_592 ?_
  refine jx_aload_n (pc := 595) (k0 := 2) rfl dL_law_595 ?_
  refine jx_aload_n (pc := 596) (k0 := 0) rfl dL_law_596 ?_
  refine jx_iload_n (pc := 597) (k0 := 3) rfl dL_law_597 ?_
  refine jx_iconst (pc := 598) (v := (1 : Int32)) (by decide) dL_law_598 ?_
  refine jx_iadd (pc := 599) dL_law_599 ?_
  refine lw_sld (pc := 600) (j := i + 1) (nI_k 1 _ (by decide)) (by omega) (by omega) dL_law_600 ?_
  refine jx_aload_n (pc := 601) (k0 := 0) rfl dL_law_601 ?_
  refine jx_iload_n (pc := 602) (k0 := 3) rfl dL_law_602 ?_
  refine jx_iconst (pc := 603) (v := (2 : Int32)) (by decide) dL_law_603 ?_
  refine jx_iadd (pc := 604) dL_law_604 ?_
  refine lw_sld (pc := 605) (j := i + 2) (nI_k 2 _ (by decide)) (by omega) (by omega) dL_law_605 ?_
  refine lw_cMi (pc := 606) hok [.int (xs (i + 1)), .int (xs (i + 2))] (fun sz' => k_X6_drifts l Gm hok.2.1 sz' σm (xs (i + 1)) (xs (i + 2)) _ hm1) kv_L_73 rfl rfl (Nat.le_of_ble_eq_true rfl) ⟨⟨rfl, rfl⟩, ⟨(Nat.le_of_ble_eq_true rfl), (Nat.le_of_ble_eq_true rfl)⟩, hce, hsl⟩ dL_law_606 ?_
  refine jx_icmp_eq (pc := 609) (tgt := 1096) dL_law_609 (by decide) (fun _ => ?_) (fun c => absurd rfl c)
  exact lw_widen (Nat.le_add_right _ 5) (Nat.le_add_right _ 404) (hk _ _ _ hr1)
set_option maxHeartbeats 4000000 in
set_option maxRecDepth 100000 in
theorem lw_case_from (l : Launch) {Gl Gm : jx_G} {b L : Nat} {xs : Nat → Int32} {sz : Nat} {nm : String} {ret0 : Option FieldType} {Qf : List Frame → Array Value → State → State → Prop} (hL : L ≤ 3072) (hok : lw_ok Gl Gm sz) (R : jx_T → jx_M → jx_M → Prop) (hops : lw_ops R) {i ce sl : Nat} (hi : i + 6 ≤ L) (hce5 : ce + 5 ≤ room_1.cells) (hsl5 : sl + 404 ≤ room_1.slots) (hk : ∀ (t : jx_T) (σl σm : jx_M), R t σl σm → jx_J l (lw_env Gl Gm b L xs) (lw_dyn Gl Gm) lw_no sz RL nm cL_law 4 ret0 room_1 Qf (ce + 5) (sl + 404) 1096 [(0, .ref b), (1, .ref (Gl.2 20)), (2, .ref (Gm.2 10)), (3, .int (nI i))] [] (σl, σm, t)) (t : jx_T) (σl σm : jx_M) (hR : R t σl σm) : jx_J l (lw_env Gl Gm b L xs) (lw_dyn Gl Gm) lw_no sz RL nm cL_law 4 ret0 room_1 Qf ce sl 614 [(0, .ref b), (1, .ref (Gl.2 20)), (2, .ref (Gm.2 10)), (3, .int (nI i))] [] (σl, σm, t) := by
  have hce : ce ≤ room_1.cells := Nat.le_trans (Nat.le_add_right _ _) hce5
  have hsl : sl ≤ room_1.slots := Nat.le_trans (Nat.le_add_right _ _) hsl5
  obtain ⟨r, σl2, σm2, hl1, hm1, hr1⟩ := hops.2.2.2.2.2.2.2.2.2.2.2.2.2.2.1 t σl σm (xs (i + 1)) (xs (i + 2)) (xs (i + 3)) hR
  refine jx_aload_n (pc := 614) (k0 := 1) rfl dL_law_614 ?_
  refine jx_aload_n (pc := 615) (k0 := 0) rfl dL_law_615 ?_
  refine jx_iload_n (pc := 616) (k0 := 3) rfl dL_law_616 ?_
  refine jx_iconst (pc := 617) (v := (1 : Int32)) (by decide) dL_law_617 ?_
  refine jx_iadd (pc := 618) dL_law_618 ?_
  refine lw_sld (pc := 619) (j := i + 1) (nI_k 1 _ (by decide)) (by omega) (by omega) dL_law_619 ?_
  refine jx_aload_n (pc := 620) (k0 := 0) rfl dL_law_620 ?_
  refine jx_iload_n (pc := 621) (k0 := 3) rfl dL_law_621 ?_
  refine jx_iconst (pc := 622) (v := (2 : Int32)) (by decide) dL_law_622 ?_
  refine jx_iadd (pc := 623) dL_law_623 ?_
  refine lw_sld (pc := 624) (j := i + 2) (nI_k 2 _ (by decide)) (by omega) (by omega) dL_law_624 ?_
  refine jx_aload_n (pc := 625) (k0 := 0) rfl dL_law_625 ?_
  refine jx_iload_n (pc := 626) (k0 := 3) rfl dL_law_626 ?_
  refine jx_iconst (pc := 627) (v := (3 : Int32)) (by decide) dL_law_627 ?_
  refine jx_iadd (pc := 628) dL_law_628 ?_
  refine lw_sld (pc := 629) (j := i + 3) (nI_k 3 _ (by decide)) (by omega) (by omega) dL_law_629 ?_
  refine lw_cLi (pc := 630) hok (fun _ h => h) (fun h => h) [.int (xs (i + 1)), .int (xs (i + 2)), .int (xs (i + 3))] (fun sz' => k_X5_from l Gl t hok.1 sz' σl (xs (i + 1)) (xs (i + 2)) (xs (i + 3)) _ hl1) kv_L_74 rfl rfl (Nat.le_of_ble_eq_true rfl) ⟨⟨rfl, rfl⟩, ⟨(Nat.le_of_ble_eq_true rfl), (Nat.le_of_ble_eq_true rfl)⟩, hce, hsl⟩ dL_law_630 ?_
  refine jx_aload_n (pc := 633) (k0 := 2) rfl dL_law_633 ?_
  refine jx_aload_n (pc := 634) (k0 := 0) rfl dL_law_634 ?_
  refine jx_iload_n (pc := 635) (k0 := 3) rfl dL_law_635 ?_
  refine jx_iconst (pc := 636) (v := (1 : Int32)) (by decide) dL_law_636 ?_
  refine jx_iadd (pc := 637) dL_law_637 ?_
  refine lw_sld (pc := 638) (j := i + 1) (nI_k 1 _ (by decide)) (by omega) (by omega) dL_law_638 ?_
  refine jx_aload_n (pc := 639) (k0 := 0) rfl dL_law_639 ?_
  refine jx_iload_n (pc := 640) (k0 := 3) rfl dL_law_640 ?_
  refine jx_iconst (pc := 641) (v := (2 : Int32)) (by decide) dL_law_641 ?_
  refine jx_iadd (pc := 642) dL_law_642 ?_
  refine lw_sld (pc := 643) (j := i + 2) (nI_k 2 _ (by decide)) (by omega) (by omega) dL_law_643 ?_
  refine jx_aload_n (pc := 644) (k0 := 0) rfl dL_law_644 ?_
  refine jx_iload_n (pc := 645) (k0 := 3) rfl dL_law_645 ?_
  refine jx_iconst (pc := 646) (v := (3 : Int32)) (by decide) dL_law_646 ?_
  refine jx_iadd (pc := 647) dL_law_647 ?_
  refine lw_sld (pc := 648) (j := i + 3) (nI_k 3 _ (by decide)) (by omega) (by omega) dL_law_648 ?_
  refine lw_cMi (pc := 649) hok [.int (xs (i + 1)), .int (xs (i + 2)), .int (xs (i + 3))] (fun sz' => k_X6_from l Gm hok.2.1 sz' σm (xs (i + 1)) (xs (i + 2)) (xs (i + 3)) _ hm1) kv_L_77 rfl rfl (Nat.le_of_ble_eq_true rfl) ⟨⟨rfl, rfl⟩, ⟨(Nat.le_of_ble_eq_true rfl), (Nat.le_of_ble_eq_true rfl)⟩, hce, hsl⟩ dL_law_649 ?_
  refine jx_icmp_eq (pc := 652) (tgt := 1096) dL_law_652 (by decide) (fun _ => ?_) (fun c => absurd rfl c)
  exact lw_widen (Nat.le_add_right _ 5) (Nat.le_add_right _ 404) (hk _ _ _ hr1)
set_option maxHeartbeats 4000000 in
set_option maxRecDepth 100000 in
theorem lw_case_turns (l : Launch) {Gl Gm : jx_G} {b L : Nat} {xs : Nat → Int32} {sz : Nat} {nm : String} {ret0 : Option FieldType} {Qf : List Frame → Array Value → State → State → Prop} (hL : L ≤ 3072) (hok : lw_ok Gl Gm sz) (R : jx_T → jx_M → jx_M → Prop) (hops : lw_ops R) {i ce sl : Nat} (hi : i + 6 ≤ L) (hce5 : ce + 5 ≤ room_1.cells) (hsl5 : sl + 404 ≤ room_1.slots) (hk : ∀ (t : jx_T) (σl σm : jx_M), R t σl σm → jx_J l (lw_env Gl Gm b L xs) (lw_dyn Gl Gm) lw_no sz RL nm cL_law 4 ret0 room_1 Qf (ce + 5) (sl + 404) 1096 [(0, .ref b), (1, .ref (Gl.2 20)), (2, .ref (Gm.2 10)), (3, .int (nI i))] [] (σl, σm, t)) (t : jx_T) (σl σm : jx_M) (hR : R t σl σm) : jx_J l (lw_env Gl Gm b L xs) (lw_dyn Gl Gm) lw_no sz RL nm cL_law 4 ret0 room_1 Qf ce sl 657 [(0, .ref b), (1, .ref (Gl.2 20)), (2, .ref (Gm.2 10)), (3, .int (nI i))] [] (σl, σm, t) := by
  have hce : ce ≤ room_1.cells := Nat.le_trans (Nat.le_add_right _ _) hce5
  have hsl : sl ≤ room_1.slots := Nat.le_trans (Nat.le_add_right _ _) hsl5
  obtain ⟨r, σl2, σm2, hl1, hm1, hr1⟩ := hops.2.2.2.2.2.2.2.2.2.2.2.2.2.2.2.1 t σl σm (xs (i + 1)) hR
  refine jx_aload_n (pc := 657) (k0 := 1) rfl dL_law_657 ?_
  refine jx_aload_n (pc := 658) (k0 := 0) rfl dL_law_658 ?_
  refine jx_iload_n (pc := 659) (k0 := 3) rfl dL_law_659 ?_
  refine jx_iconst (pc := 660) (v := (1 : Int32)) (by decide) dL_law_660 ?_
  refine jx_iadd (pc := 661) dL_law_661 ?_
  refine lw_sld (pc := 662) (j := i + 1) (nI_k 1 _ (by decide)) (by omega) (by omega) dL_law_662 ?_
  refine lw_cLi (pc := 663) hok (fun _ h => h) (fun h => h) [.int (xs (i + 1))] (fun sz' => k_X5_turns l Gl t hok.1 sz' σl (xs (i + 1)) _ hl1) kv_L_78 rfl rfl (Nat.le_of_ble_eq_true rfl) ⟨⟨rfl, rfl⟩, ⟨(Nat.le_of_ble_eq_true rfl), (Nat.le_of_ble_eq_true rfl)⟩, hce, hsl⟩ dL_law_663 ?_
  refine jx_aload_n (pc := 666) (k0 := 2) rfl dL_law_666 ?_
  refine jx_aload_n (pc := 667) (k0 := 0) rfl dL_law_667 ?_
  refine jx_iload_n (pc := 668) (k0 := 3) rfl dL_law_668 ?_
  refine jx_iconst (pc := 669) (v := (1 : Int32)) (by decide) dL_law_669 ?_
  refine jx_iadd (pc := 670) dL_law_670 ?_
  refine lw_sld (pc := 671) (j := i + 1) (nI_k 1 _ (by decide)) (by omega) (by omega) dL_law_671 ?_
  refine lw_cMi (pc := 672) hok [.int (xs (i + 1))] (fun sz' => k_X6_turns l Gm hok.2.1 sz' σm (xs (i + 1)) _ hm1) kv_L_81 rfl rfl (Nat.le_of_ble_eq_true rfl) ⟨⟨rfl, rfl⟩, ⟨(Nat.le_of_ble_eq_true rfl), (Nat.le_of_ble_eq_true rfl)⟩, hce, hsl⟩ dL_law_672 ?_
  refine jx_icmp_eq (pc := 675) (tgt := 1096) dL_law_675 (by decide) (fun _ => ?_) (fun c => absurd rfl c)
  exact lw_widen (Nat.le_add_right _ 5) (Nat.le_add_right _ 404) (hk _ _ _ hr1)
set_option maxHeartbeats 4000000 in
set_option maxRecDepth 100000 in
theorem lw_case_sways (l : Launch) {Gl Gm : jx_G} {b L : Nat} {xs : Nat → Int32} {sz : Nat} {nm : String} {ret0 : Option FieldType} {Qf : List Frame → Array Value → State → State → Prop} (hL : L ≤ 3072) (hok : lw_ok Gl Gm sz) (R : jx_T → jx_M → jx_M → Prop) (hops : lw_ops R) {i ce sl : Nat} (hi : i + 6 ≤ L) (hce5 : ce + 5 ≤ room_1.cells) (hsl5 : sl + 404 ≤ room_1.slots) (hk : ∀ (t : jx_T) (σl σm : jx_M), R t σl σm → jx_J l (lw_env Gl Gm b L xs) (lw_dyn Gl Gm) lw_no sz RL nm cL_law 4 ret0 room_1 Qf (ce + 5) (sl + 404) 1096 [(0, .ref b), (1, .ref (Gl.2 20)), (2, .ref (Gm.2 10)), (3, .int (nI i))] [] (σl, σm, t)) (t : jx_T) (σl σm : jx_M) (hR : R t σl σm) : jx_J l (lw_env Gl Gm b L xs) (lw_dyn Gl Gm) lw_no sz RL nm cL_law 4 ret0 room_1 Qf ce sl 680 [(0, .ref b), (1, .ref (Gl.2 20)), (2, .ref (Gm.2 10)), (3, .int (nI i))] [] (σl, σm, t) := by
  have hce : ce ≤ room_1.cells := Nat.le_trans (Nat.le_add_right _ _) hce5
  have hsl : sl ≤ room_1.slots := Nat.le_trans (Nat.le_add_right _ _) hsl5
  obtain ⟨r, σl2, σm2, hl1, hm1, hr1⟩ := hops.2.2.2.2.2.2.2.2.2.2.2.2.2.2.2.2.1 t σl σm (xs (i + 1)) (xs (i + 2)) hR
  refine jx_aload_n (pc := 680) (k0 := 1) rfl dL_law_680 ?_
  refine jx_aload_n (pc := 681) (k0 := 0) rfl dL_law_681 ?_
  refine jx_iload_n (pc := 682) (k0 := 3) rfl dL_law_682 ?_
  refine jx_iconst (pc := 683) (v := (1 : Int32)) (by decide) dL_law_683 ?_
  refine jx_iadd (pc := 684) dL_law_684 ?_
  refine lw_sld (pc := 685) (j := i + 1) (nI_k 1 _ (by decide)) (by omega) (by omega) dL_law_685 ?_
  refine jx_aload_n (pc := 686) (k0 := 0) rfl dL_law_686 ?_
  refine jx_iload_n (pc := 687) (k0 := 3) rfl dL_law_687 ?_
  refine jx_iconst (pc := 688) (v := (2 : Int32)) (by decide) dL_law_688 ?_
  refine jx_iadd (pc := 689) dL_law_689 ?_
  refine lw_sld (pc := 690) (j := i + 2) (nI_k 2 _ (by decide)) (by omega) (by omega) dL_law_690 ?_
  refine lw_cLl (pc := 691) hok (fun _ h => h) (fun h => h) [.int (xs (i + 1)), .int (xs (i + 2))] (fun sz' => k_X5_sways l Gl t hok.1 sz' σl (xs (i + 1)) (xs (i + 2)) _ hl1) kv_L_82 rfl rfl (Nat.le_of_ble_eq_true rfl) ⟨⟨rfl, rfl⟩, ⟨(Nat.le_of_ble_eq_true rfl), (Nat.le_of_ble_eq_true rfl)⟩, hce, hsl⟩ dL_law_691 ?_
  refine jx_aload_n (pc := 694) (k0 := 2) rfl dL_law_694 ?_
  refine jx_aload_n (pc := 695) (k0 := 0) rfl dL_law_695 ?_
  refine jx_iload_n (pc := 696) (k0 := 3) rfl dL_law_696 ?_
  refine jx_iconst (pc := 697) (v := (1 : Int32)) (by decide) dL_law_697 ?_
  refine jx_iadd (pc := 698) dL_law_698 ?_
  refine lw_sld (pc := 699) (j := i + 1) (nI_k 1 _ (by decide)) (by omega) (by omega) dL_law_699 ?_
  refine jx_aload_n (pc := 700) (k0 := 0) rfl dL_law_700 ?_
  refine jx_iload_n (pc := 701) (k0 := 3) rfl dL_law_701 ?_
  refine jx_iconst (pc := 702) (v := (2 : Int32)) (by decide) dL_law_702 ?_
  refine jx_iadd (pc := 703) dL_law_703 ?_
  refine lw_sld (pc := 704) (j := i + 2) (nI_k 2 _ (by decide)) (by omega) (by omega) dL_law_704 ?_
  refine lw_cMl (pc := 705) hok [.int (xs (i + 1)), .int (xs (i + 2))] (fun sz' => k_X6_sways l Gm hok.2.1 sz' σm (xs (i + 1)) (xs (i + 2)) _ hm1) kv_L_86 rfl rfl (Nat.le_of_ble_eq_true rfl) ⟨⟨rfl, rfl⟩, ⟨(Nat.le_of_ble_eq_true rfl), (Nat.le_of_ble_eq_true rfl)⟩, hce, hsl⟩ dL_law_705 ?_
  refine jx_lcmp (pc := 708) dL_law_708 ?_
  rw [lg_cmp_same]
  refine jx_if_eq (pc := 709) (tgt := 1096) dL_law_709 (by decide) (fun _ => ?_) (fun c => absurd rfl c)
  exact lw_widen (Nat.le_add_right _ 5) (Nat.le_add_right _ 404) (hk _ _ _ hr1)
set_option maxHeartbeats 4000000 in
set_option maxRecDepth 100000 in
theorem lw_case_stick (l : Launch) {Gl Gm : jx_G} {b L : Nat} {xs : Nat → Int32} {sz : Nat} {nm : String} {ret0 : Option FieldType} {Qf : List Frame → Array Value → State → State → Prop} (hL : L ≤ 3072) (hok : lw_ok Gl Gm sz) (R : jx_T → jx_M → jx_M → Prop) (hops : lw_ops R) {i ce sl : Nat} (hi : i + 6 ≤ L) (hce5 : ce + 5 ≤ room_1.cells) (hsl5 : sl + 404 ≤ room_1.slots) (hk : ∀ (t : jx_T) (σl σm : jx_M), R t σl σm → jx_J l (lw_env Gl Gm b L xs) (lw_dyn Gl Gm) lw_no sz RL nm cL_law 4 ret0 room_1 Qf (ce + 5) (sl + 404) 1096 [(0, .ref b), (1, .ref (Gl.2 20)), (2, .ref (Gm.2 10)), (3, .int (nI i))] [] (σl, σm, t)) (t : jx_T) (σl σm : jx_M) (hR : R t σl σm) : jx_J l (lw_env Gl Gm b L xs) (lw_dyn Gl Gm) lw_no sz RL nm cL_law 4 ret0 room_1 Qf ce sl 714 [(0, .ref b), (1, .ref (Gl.2 20)), (2, .ref (Gm.2 10)), (3, .int (nI i))] [] (σl, σm, t) := by
  have hce : ce ≤ room_1.cells := Nat.le_trans (Nat.le_add_right _ _) hce5
  have hsl : sl ≤ room_1.slots := Nat.le_trans (Nat.le_add_right _ _) hsl5
  obtain ⟨r, σl2, σm2, hl1, hm1, hr1⟩ := hops.2.2.2.2.2.2.2.2.2.2.2.2.2.2.2.2.2.1 t σl σm (xs (i + 1)) hR
  refine jx_aload_n (pc := 714) (k0 := 1) rfl dL_law_714 ?_
  refine jx_aload_n (pc := 715) (k0 := 0) rfl dL_law_715 ?_
  refine jx_iload_n (pc := 716) (k0 := 3) rfl dL_law_716 ?_
  refine jx_iconst (pc := 717) (v := (1 : Int32)) (by decide) dL_law_717 ?_
  refine jx_iadd (pc := 718) dL_law_718 ?_
  refine lw_sld (pc := 719) (j := i + 1) (nI_k 1 _ (by decide)) (by omega) (by omega) dL_law_719 ?_
  refine lw_cLi (pc := 720) hok (fun _ h => h) (fun h => h) [.int (xs (i + 1))] (fun sz' => k_X5_stick l Gl t hok.1 sz' σl (xs (i + 1)) _ hl1) kv_L_87 rfl rfl (Nat.le_of_ble_eq_true rfl) ⟨⟨rfl, rfl⟩, ⟨(Nat.le_of_ble_eq_true rfl), (Nat.le_of_ble_eq_true rfl)⟩, hce, hsl⟩ dL_law_720 ?_
  refine jx_aload_n (pc := 723) (k0 := 2) rfl dL_law_723 ?_
  refine jx_aload_n (pc := 724) (k0 := 0) rfl dL_law_724 ?_
  refine jx_iload_n (pc := 725) (k0 := 3) rfl dL_law_725 ?_
  refine jx_iconst (pc := 726) (v := (1 : Int32)) (by decide) dL_law_726 ?_
  refine jx_iadd (pc := 727) dL_law_727 ?_
  refine lw_sld (pc := 728) (j := i + 1) (nI_k 1 _ (by decide)) (by omega) (by omega) dL_law_728 ?_
  refine lw_cMi (pc := 729) hok [.int (xs (i + 1))] (fun sz' => k_X6_stick l Gm hok.2.1 sz' σm (xs (i + 1)) _ hm1) kv_L_90 rfl rfl (Nat.le_of_ble_eq_true rfl) ⟨⟨rfl, rfl⟩, ⟨(Nat.le_of_ble_eq_true rfl), (Nat.le_of_ble_eq_true rfl)⟩, hce, hsl⟩ dL_law_729 ?_
  refine jx_icmp_eq (pc := 732) (tgt := 1096) dL_law_732 (by decide) (fun _ => ?_) (fun c => absurd rfl c)
  exact lw_widen (Nat.le_add_right _ 5) (Nat.le_add_right _ 404) (hk _ _ _ hr1)
set_option maxHeartbeats 4000000 in
set_option maxRecDepth 100000 in
theorem lw_case_set (l : Launch) {Gl Gm : jx_G} {b L : Nat} {xs : Nat → Int32} {sz : Nat} {nm : String} {ret0 : Option FieldType} {Qf : List Frame → Array Value → State → State → Prop} (hL : L ≤ 3072) (hok : lw_ok Gl Gm sz) (R : jx_T → jx_M → jx_M → Prop) (hops : lw_ops R) {i ce sl : Nat} (hi : i + 6 ≤ L) (hce5 : ce + 5 ≤ room_1.cells) (hsl5 : sl + 404 ≤ room_1.slots) (hk : ∀ (t : jx_T) (σl σm : jx_M), R t σl σm → jx_J l (lw_env Gl Gm b L xs) (lw_dyn Gl Gm) lw_no sz RL nm cL_law 4 ret0 room_1 Qf (ce + 5) (sl + 404) 1096 [(0, .ref b), (1, .ref (Gl.2 20)), (2, .ref (Gm.2 10)), (3, .int (nI i))] [] (σl, σm, t)) (t : jx_T) (σl σm : jx_M) (hR : R t σl σm) : jx_J l (lw_env Gl Gm b L xs) (lw_dyn Gl Gm) lw_no sz RL nm cL_law 4 ret0 room_1 Qf ce sl 737 [(0, .ref b), (1, .ref (Gl.2 20)), (2, .ref (Gm.2 10)), (3, .int (nI i))] [] (σl, σm, t) := by
  have hce : ce ≤ room_1.cells := Nat.le_trans (Nat.le_add_right _ _) hce5
  have hsl : sl ≤ room_1.slots := Nat.le_trans (Nat.le_add_right _ _) hsl5
  obtain ⟨r, σl2, σm2, hl1, hm1, hr1⟩ := hops.2.2.2.2.2.2.2.2.2.2.2.2.2.2.2.2.2.2.1 t σl σm (xs (i + 1)) (xs (i + 2)) hR
  refine jx_aload_n (pc := 737) (k0 := 1) rfl dL_law_737 ?_
  refine jx_aload_n (pc := 738) (k0 := 0) rfl dL_law_738 ?_
  refine jx_iload_n (pc := 739) (k0 := 3) rfl dL_law_739 ?_
  refine jx_iconst (pc := 740) (v := (1 : Int32)) (by decide) dL_law_740 ?_
  refine jx_iadd (pc := 741) dL_law_741 ?_
  refine lw_sld (pc := 742) (j := i + 1) (nI_k 1 _ (by decide)) (by omega) (by omega) dL_law_742 ?_
  refine jx_aload_n (pc := 743) (k0 := 0) rfl dL_law_743 ?_
  refine jx_iload_n (pc := 744) (k0 := 3) rfl dL_law_744 ?_
  refine jx_iconst (pc := 745) (v := (2 : Int32)) (by decide) dL_law_745 ?_
  refine jx_iadd (pc := 746) dL_law_746 ?_
  refine lw_sld (pc := 747) (j := i + 2) (nI_k 2 _ (by decide)) (by omega) (by omega) dL_law_747 ?_
  refine lw_cLi (pc := 748) hok (fun _ h => h) (fun h => h) [.int (xs (i + 1)), .int (xs (i + 2))] (fun sz' => k_X5_set l Gl t hok.1 sz' σl (xs (i + 1)) (xs (i + 2)) _ hl1) kv_L_91 rfl rfl (Nat.le_of_ble_eq_true rfl) ⟨⟨rfl, rfl⟩, ⟨(Nat.le_of_ble_eq_true rfl), (Nat.le_of_ble_eq_true rfl)⟩, hce, hsl⟩ dL_law_748 ?_
  refine jx_aload_n (pc := 751) (k0 := 2) rfl dL_law_751 ?_
  refine jx_aload_n (pc := 752) (k0 := 0) rfl dL_law_752 ?_
  refine jx_iload_n (pc := 753) (k0 := 3) rfl dL_law_753 ?_
  refine jx_iconst (pc := 754) (v := (1 : Int32)) (by decide) dL_law_754 ?_
  refine jx_iadd (pc := 755) dL_law_755 ?_
  refine lw_sld (pc := 756) (j := i + 1) (nI_k 1 _ (by decide)) (by omega) (by omega) dL_law_756 ?_
  refine jx_aload_n (pc := 757) (k0 := 0) rfl dL_law_757 ?_
  refine jx_iload_n (pc := 758) (k0 := 3) rfl dL_law_758 ?_
  refine jx_iconst (pc := 759) (v := (2 : Int32)) (by decide) dL_law_759 ?_
  refine jx_iadd (pc := 760) dL_law_760 ?_
  refine lw_sld (pc := 761) (j := i + 2) (nI_k 2 _ (by decide)) (by omega) (by omega) dL_law_761 ?_
  refine lw_cMi (pc := 762) hok [.int (xs (i + 1)), .int (xs (i + 2))] (fun sz' => k_X6_set l Gm hok.2.1 sz' σm (xs (i + 1)) (xs (i + 2)) _ hm1) kv_L_94 rfl rfl (Nat.le_of_ble_eq_true rfl) ⟨⟨rfl, rfl⟩, ⟨(Nat.le_of_ble_eq_true rfl), (Nat.le_of_ble_eq_true rfl)⟩, hce, hsl⟩ dL_law_762 ?_
  refine jx_icmp_eq (pc := 765) (tgt := 1096) dL_law_765 (by decide) (fun _ => ?_) (fun c => absurd rfl c)
  exact lw_widen (Nat.le_add_right _ 5) (Nat.le_add_right _ 404) (hk _ _ _ hr1)
set_option maxHeartbeats 4000000 in
set_option maxRecDepth 100000 in
theorem lw_case_game (l : Launch) {Gl Gm : jx_G} {b L : Nat} {xs : Nat → Int32} {sz : Nat} {nm : String} {ret0 : Option FieldType} {Qf : List Frame → Array Value → State → State → Prop} (hL : L ≤ 3072) (hok : lw_ok Gl Gm sz) (R : jx_T → jx_M → jx_M → Prop) (hops : lw_ops R) {i ce sl : Nat} (hi : i + 6 ≤ L) (hce5 : ce + 5 ≤ room_1.cells) (hsl5 : sl + 404 ≤ room_1.slots) (hk : ∀ (t : jx_T) (σl σm : jx_M), R t σl σm → jx_J l (lw_env Gl Gm b L xs) (lw_dyn Gl Gm) lw_no sz RL nm cL_law 4 ret0 room_1 Qf (ce + 5) (sl + 404) 1096 [(0, .ref b), (1, .ref (Gl.2 20)), (2, .ref (Gm.2 10)), (3, .int (nI i))] [] (σl, σm, t)) (t : jx_T) (σl σm : jx_M) (hR : R t σl σm) : jx_J l (lw_env Gl Gm b L xs) (lw_dyn Gl Gm) lw_no sz RL nm cL_law 4 ret0 room_1 Qf ce sl 770 [(0, .ref b), (1, .ref (Gl.2 20)), (2, .ref (Gm.2 10)), (3, .int (nI i))] [] (σl, σm, t) := by
  have hce : ce ≤ room_1.cells := Nat.le_trans (Nat.le_add_right _ _) hce5
  have hsl : sl ≤ room_1.slots := Nat.le_trans (Nat.le_add_right _ _) hsl5
  obtain ⟨r, σl2, σm2, hl1, hm1, hr1⟩ := hops.2.2.2.2.2.2.2.2.2.2.2.2.2.2.2.2.2.2.2.1 t σl σm (xs (i + 1)) (xs (i + 2)) (xs (i + 3)) hR
  refine jx_aload_n (pc := 770) (k0 := 1) rfl dL_law_770 ?_
  refine jx_aload_n (pc := 771) (k0 := 0) rfl dL_law_771 ?_
  refine jx_iload_n (pc := 772) (k0 := 3) rfl dL_law_772 ?_
  refine jx_iconst (pc := 773) (v := (1 : Int32)) (by decide) dL_law_773 ?_
  refine jx_iadd (pc := 774) dL_law_774 ?_
  refine lw_sld (pc := 775) (j := i + 1) (nI_k 1 _ (by decide)) (by omega) (by omega) dL_law_775 ?_
  refine jx_aload_n (pc := 776) (k0 := 0) rfl dL_law_776 ?_
  refine jx_iload_n (pc := 777) (k0 := 3) rfl dL_law_777 ?_
  refine jx_iconst (pc := 778) (v := (2 : Int32)) (by decide) dL_law_778 ?_
  refine jx_iadd (pc := 779) dL_law_779 ?_
  refine lw_sld (pc := 780) (j := i + 2) (nI_k 2 _ (by decide)) (by omega) (by omega) dL_law_780 ?_
  refine jx_aload_n (pc := 781) (k0 := 0) rfl dL_law_781 ?_
  refine jx_iload_n (pc := 782) (k0 := 3) rfl dL_law_782 ?_
  refine jx_iconst (pc := 783) (v := (3 : Int32)) (by decide) dL_law_783 ?_
  refine jx_iadd (pc := 784) dL_law_784 ?_
  refine lw_sld (pc := 785) (j := i + 3) (nI_k 3 _ (by decide)) (by omega) (by omega) dL_law_785 ?_
  refine lw_cLi (pc := 786) hok (fun _ h => h) (fun h => h) [.int (xs (i + 1)), .int (xs (i + 2)), .int (xs (i + 3))] (fun sz' => k_X5_game l Gl t hok.1 sz' σl (xs (i + 1)) (xs (i + 2)) (xs (i + 3)) _ hl1) kv_L_95 rfl rfl (Nat.le_of_ble_eq_true rfl) ⟨⟨rfl, rfl⟩, ⟨(Nat.le_of_ble_eq_true rfl), (Nat.le_of_ble_eq_true rfl)⟩, hce, hsl⟩ dL_law_786 ?_
  refine jx_aload_n (pc := 789) (k0 := 2) rfl dL_law_789 ?_
  refine jx_aload_n (pc := 790) (k0 := 0) rfl dL_law_790 ?_
  refine jx_iload_n (pc := 791) (k0 := 3) rfl dL_law_791 ?_
  refine jx_iconst (pc := 792) (v := (1 : Int32)) (by decide) dL_law_792 ?_
  refine jx_iadd (pc := 793) dL_law_793 ?_
  refine lw_sld (pc := 794) (j := i + 1) (nI_k 1 _ (by decide)) (by omega) (by omega) dL_law_794 ?_
  refine jx_aload_n (pc := 795) (k0 := 0) rfl dL_law_795 ?_
  refine jx_iload_n (pc := 796) (k0 := 3) rfl dL_law_796 ?_
  refine jx_iconst (pc := 797) (v := (2 : Int32)) (by decide) dL_law_797 ?_
  refine jx_iadd (pc := 798) dL_law_798 ?_
  refine lw_sld (pc := 799) (j := i + 2) (nI_k 2 _ (by decide)) (by omega) (by omega) dL_law_799 ?_
  refine jx_aload_n (pc := 800) (k0 := 0) rfl dL_law_800 ?_
  refine jx_iload_n (pc := 801) (k0 := 3) rfl dL_law_801 ?_
  refine jx_iconst (pc := 802) (v := (3 : Int32)) (by decide) dL_law_802 ?_
  refine jx_iadd (pc := 803) dL_law_803 ?_
  refine lw_sld (pc := 804) (j := i + 3) (nI_k 3 _ (by decide)) (by omega) (by omega) dL_law_804 ?_
  refine lw_cMi (pc := 805) hok [.int (xs (i + 1)), .int (xs (i + 2)), .int (xs (i + 3))] (fun sz' => k_X6_game l Gm hok.2.1 sz' σm (xs (i + 1)) (xs (i + 2)) (xs (i + 3)) _ hm1) kv_L_98 rfl rfl (Nat.le_of_ble_eq_true rfl) ⟨⟨rfl, rfl⟩, ⟨(Nat.le_of_ble_eq_true rfl), (Nat.le_of_ble_eq_true rfl)⟩, hce, hsl⟩ dL_law_805 ?_
  refine jx_icmp_eq (pc := 808) (tgt := 1096) dL_law_808 (by decide) (fun _ => ?_) (fun c => absurd rfl c)
  exact lw_widen (Nat.le_add_right _ 5) (Nat.le_add_right _ 404) (hk _ _ _ hr1)
set_option maxHeartbeats 4000000 in
set_option maxRecDepth 100000 in
theorem lw_case_see (l : Launch) {Gl Gm : jx_G} {b L : Nat} {xs : Nat → Int32} {sz : Nat} {nm : String} {ret0 : Option FieldType} {Qf : List Frame → Array Value → State → State → Prop} (hL : L ≤ 3072) (hok : lw_ok Gl Gm sz) (R : jx_T → jx_M → jx_M → Prop) (hops : lw_ops R) {i ce sl : Nat} (hi : i + 6 ≤ L) (hce5 : ce + 5 ≤ room_1.cells) (hsl5 : sl + 404 ≤ room_1.slots) (hk : ∀ (t : jx_T) (σl σm : jx_M), R t σl σm → jx_J l (lw_env Gl Gm b L xs) (lw_dyn Gl Gm) lw_no sz RL nm cL_law 4 ret0 room_1 Qf (ce + 5) (sl + 404) 1096 [(0, .ref b), (1, .ref (Gl.2 20)), (2, .ref (Gm.2 10)), (3, .int (nI i))] [] (σl, σm, t)) (t : jx_T) (σl σm : jx_M) (hR : R t σl σm) : jx_J l (lw_env Gl Gm b L xs) (lw_dyn Gl Gm) lw_no sz RL nm cL_law 4 ret0 room_1 Qf ce sl 813 [(0, .ref b), (1, .ref (Gl.2 20)), (2, .ref (Gm.2 10)), (3, .int (nI i))] [] (σl, σm, t) := by
  have hce : ce ≤ room_1.cells := Nat.le_trans (Nat.le_add_right _ _) hce5
  have hsl : sl ≤ room_1.slots := Nat.le_trans (Nat.le_add_right _ _) hsl5
  obtain ⟨r, σl2, σm2, hl1, hm1, hr1⟩ := hops.2.2.2.2.2.2.2.2.2.2.2.2.2.2.2.2.2.2.2.2.1 t σl σm (xs (i + 1)) (xs (i + 2)) hR
  refine jx_aload_n (pc := 813) (k0 := 1) rfl dL_law_813 ?_
  refine jx_aload_n (pc := 814) (k0 := 0) rfl dL_law_814 ?_
  refine jx_iload_n (pc := 815) (k0 := 3) rfl dL_law_815 ?_
  refine jx_iconst (pc := 816) (v := (1 : Int32)) (by decide) dL_law_816 ?_
  refine jx_iadd (pc := 817) dL_law_817 ?_
  refine lw_sld (pc := 818) (j := i + 1) (nI_k 1 _ (by decide)) (by omega) (by omega) dL_law_818 ?_
  refine jx_aload_n (pc := 819) (k0 := 0) rfl dL_law_819 ?_
  refine jx_iload_n (pc := 820) (k0 := 3) rfl dL_law_820 ?_
  refine jx_iconst (pc := 821) (v := (2 : Int32)) (by decide) dL_law_821 ?_
  refine jx_iadd (pc := 822) dL_law_822 ?_
  refine lw_sld (pc := 823) (j := i + 2) (nI_k 2 _ (by decide)) (by omega) (by omega) dL_law_823 ?_
  refine lw_cLi (pc := 824) hok (fun _ h => h) (fun h => h) [.int (xs (i + 1)), .int (xs (i + 2))] (fun sz' => k_X5_see l Gl t hok.1 sz' σl (xs (i + 1)) (xs (i + 2)) _ hl1) kv_L_99 rfl rfl (Nat.le_of_ble_eq_true rfl) ⟨⟨rfl, rfl⟩, ⟨(Nat.le_of_ble_eq_true rfl), (Nat.le_of_ble_eq_true rfl)⟩, hce, hsl⟩ dL_law_824 ?_
  refine jx_aload_n (pc := 827) (k0 := 2) rfl dL_law_827 ?_
  refine jx_aload_n (pc := 828) (k0 := 0) rfl dL_law_828 ?_
  refine jx_iload_n (pc := 829) (k0 := 3) rfl dL_law_829 ?_
  refine jx_iconst (pc := 830) (v := (1 : Int32)) (by decide) dL_law_830 ?_
  refine jx_iadd (pc := 831) dL_law_831 ?_
  refine lw_sld (pc := 832) (j := i + 1) (nI_k 1 _ (by decide)) (by omega) (by omega) dL_law_832 ?_
  refine jx_aload_n (pc := 833) (k0 := 0) rfl dL_law_833 ?_
  refine jx_iload_n (pc := 834) (k0 := 3) rfl dL_law_834 ?_
  refine jx_iconst (pc := 835) (v := (2 : Int32)) (by decide) dL_law_835 ?_
  refine jx_iadd (pc := 836) dL_law_836 ?_
  refine lw_sld (pc := 837) (j := i + 2) (nI_k 2 _ (by decide)) (by omega) (by omega) dL_law_837 ?_
  refine lw_cMi (pc := 838) hok [.int (xs (i + 1)), .int (xs (i + 2))] (fun sz' => k_X6_see l Gm hok.2.1 sz' σm (xs (i + 1)) (xs (i + 2)) _ hm1) kv_L_102 rfl rfl (Nat.le_of_ble_eq_true rfl) ⟨⟨rfl, rfl⟩, ⟨(Nat.le_of_ble_eq_true rfl), (Nat.le_of_ble_eq_true rfl)⟩, hce, hsl⟩ dL_law_838 ?_
  refine jx_icmp_eq (pc := 841) (tgt := 1096) dL_law_841 (by decide) (fun _ => ?_) (fun c => absurd rfl c)
  exact lw_widen (Nat.le_add_right _ 5) (Nat.le_add_right _ 404) (hk _ _ _ hr1)
set_option maxHeartbeats 4000000 in
set_option maxRecDepth 100000 in
theorem lw_case_fits (l : Launch) {Gl Gm : jx_G} {b L : Nat} {xs : Nat → Int32} {sz : Nat} {nm : String} {ret0 : Option FieldType} {Qf : List Frame → Array Value → State → State → Prop} (hL : L ≤ 3072) (hok : lw_ok Gl Gm sz) (R : jx_T → jx_M → jx_M → Prop) (hops : lw_ops R) {i ce sl : Nat} (hi : i + 6 ≤ L) (hce5 : ce + 5 ≤ room_1.cells) (hsl5 : sl + 404 ≤ room_1.slots) (hk : ∀ (t : jx_T) (σl σm : jx_M), R t σl σm → jx_J l (lw_env Gl Gm b L xs) (lw_dyn Gl Gm) lw_no sz RL nm cL_law 4 ret0 room_1 Qf (ce + 5) (sl + 404) 1096 [(0, .ref b), (1, .ref (Gl.2 20)), (2, .ref (Gm.2 10)), (3, .int (nI i))] [] (σl, σm, t)) (t : jx_T) (σl σm : jx_M) (hR : R t σl σm) : jx_J l (lw_env Gl Gm b L xs) (lw_dyn Gl Gm) lw_no sz RL nm cL_law 4 ret0 room_1 Qf ce sl 846 [(0, .ref b), (1, .ref (Gl.2 20)), (2, .ref (Gm.2 10)), (3, .int (nI i))] [] (σl, σm, t) := by
  have hce : ce ≤ room_1.cells := Nat.le_trans (Nat.le_add_right _ _) hce5
  have hsl : sl ≤ room_1.slots := Nat.le_trans (Nat.le_add_right _ _) hsl5
  obtain ⟨r, σl2, σm2, hl1, hm1, hr1⟩ := hops.2.2.2.2.2.2.2.2.2.2.2.2.2.2.2.2.2.2.2.2.2.1 t σl σm (xs (i + 1)) hR
  refine jx_aload_n (pc := 846) (k0 := 1) rfl dL_law_846 ?_
  refine jx_aload_n (pc := 847) (k0 := 0) rfl dL_law_847 ?_
  refine jx_iload_n (pc := 848) (k0 := 3) rfl dL_law_848 ?_
  refine jx_iconst (pc := 849) (v := (1 : Int32)) (by decide) dL_law_849 ?_
  refine jx_iadd (pc := 850) dL_law_850 ?_
  refine lw_sld (pc := 851) (j := i + 1) (nI_k 1 _ (by decide)) (by omega) (by omega) dL_law_851 ?_
  refine lw_cLi (pc := 852) hok (fun _ h => h) (fun h => h) [.int (xs (i + 1))] (fun sz' => k_X5_fits l Gl t hok.1 sz' σl (xs (i + 1)) _ hl1) kv_L_103 rfl rfl (Nat.le_of_ble_eq_true rfl) ⟨⟨rfl, rfl⟩, ⟨(Nat.le_of_ble_eq_true rfl), (Nat.le_of_ble_eq_true rfl)⟩, hce, hsl⟩ dL_law_852 ?_
  refine jx_aload_n (pc := 855) (k0 := 2) rfl dL_law_855 ?_
  refine jx_aload_n (pc := 856) (k0 := 0) rfl dL_law_856 ?_
  refine jx_iload_n (pc := 857) (k0 := 3) rfl dL_law_857 ?_
  refine jx_iconst (pc := 858) (v := (1 : Int32)) (by decide) dL_law_858 ?_
  refine jx_iadd (pc := 859) dL_law_859 ?_
  refine lw_sld (pc := 860) (j := i + 1) (nI_k 1 _ (by decide)) (by omega) (by omega) dL_law_860 ?_
  refine lw_cMi (pc := 861) hok [.int (xs (i + 1))] (fun sz' => k_X6_fits l Gm hok.2.1 sz' σm (xs (i + 1)) _ hm1) kv_L_106 rfl rfl (Nat.le_of_ble_eq_true rfl) ⟨⟨rfl, rfl⟩, ⟨(Nat.le_of_ble_eq_true rfl), (Nat.le_of_ble_eq_true rfl)⟩, hce, hsl⟩ dL_law_861 ?_
  refine jx_icmp_eq (pc := 864) (tgt := 1096) dL_law_864 (by decide) (fun _ => ?_) (fun c => absurd rfl c)
  exact lw_widen (Nat.le_add_right _ 5) (Nat.le_add_right _ 404) (hk _ _ _ hr1)
set_option maxHeartbeats 4000000 in
set_option maxRecDepth 100000 in
theorem lw_case_fair (l : Launch) {Gl Gm : jx_G} {b L : Nat} {xs : Nat → Int32} {sz : Nat} {nm : String} {ret0 : Option FieldType} {Qf : List Frame → Array Value → State → State → Prop} (hL : L ≤ 3072) (hok : lw_ok Gl Gm sz) (R : jx_T → jx_M → jx_M → Prop) (hops : lw_ops R) {i ce sl : Nat} (hi : i + 6 ≤ L) (hce5 : ce + 5 ≤ room_1.cells) (hsl5 : sl + 404 ≤ room_1.slots) (hk : ∀ (t : jx_T) (σl σm : jx_M), R t σl σm → jx_J l (lw_env Gl Gm b L xs) (lw_dyn Gl Gm) lw_no sz RL nm cL_law 4 ret0 room_1 Qf (ce + 5) (sl + 404) 1096 [(0, .ref b), (1, .ref (Gl.2 20)), (2, .ref (Gm.2 10)), (3, .int (nI i))] [] (σl, σm, t)) (t : jx_T) (σl σm : jx_M) (hR : R t σl σm) : jx_J l (lw_env Gl Gm b L xs) (lw_dyn Gl Gm) lw_no sz RL nm cL_law 4 ret0 room_1 Qf ce sl 869 [(0, .ref b), (1, .ref (Gl.2 20)), (2, .ref (Gm.2 10)), (3, .int (nI i))] [] (σl, σm, t) := by
  have hce : ce ≤ room_1.cells := Nat.le_trans (Nat.le_add_right _ _) hce5
  have hsl : sl ≤ room_1.slots := Nat.le_trans (Nat.le_add_right _ _) hsl5
  obtain ⟨r, σl2, σm2, hl1, hm1, hr1⟩ := hops.2.2.2.2.2.2.2.2.2.2.2.2.2.2.2.2.2.2.2.2.2.2.1 t σl σm (xs (i + 1)) hR
  refine jx_aload_n (pc := 869) (k0 := 1) rfl dL_law_869 ?_
  refine jx_aload_n (pc := 870) (k0 := 0) rfl dL_law_870 ?_
  refine jx_iload_n (pc := 871) (k0 := 3) rfl dL_law_871 ?_
  refine jx_iconst (pc := 872) (v := (1 : Int32)) (by decide) dL_law_872 ?_
  refine jx_iadd (pc := 873) dL_law_873 ?_
  refine lw_sld (pc := 874) (j := i + 1) (nI_k 1 _ (by decide)) (by omega) (by omega) dL_law_874 ?_
  refine lw_cLi (pc := 875) hok (fun _ h => h) (fun h => h) [.int (xs (i + 1))] (fun sz' => k_X5_fair l Gl t hok.1 sz' σl (xs (i + 1)) _ hl1) kv_L_107 rfl rfl (Nat.le_of_ble_eq_true rfl) ⟨⟨rfl, rfl⟩, ⟨(Nat.le_of_ble_eq_true rfl), (Nat.le_of_ble_eq_true rfl)⟩, hce, hsl⟩ dL_law_875 ?_
  refine jx_aload_n (pc := 878) (k0 := 2) rfl dL_law_878 ?_
  refine jx_aload_n (pc := 879) (k0 := 0) rfl dL_law_879 ?_
  refine jx_iload_n (pc := 880) (k0 := 3) rfl dL_law_880 ?_
  refine jx_iconst (pc := 881) (v := (1 : Int32)) (by decide) dL_law_881 ?_
  refine jx_iadd (pc := 882) dL_law_882 ?_
  refine lw_sld (pc := 883) (j := i + 1) (nI_k 1 _ (by decide)) (by omega) (by omega) dL_law_883 ?_
  refine lw_cMi (pc := 884) hok [.int (xs (i + 1))] (fun sz' => k_X6_fair l Gm hok.2.1 sz' σm (xs (i + 1)) _ hm1) kv_L_110 rfl rfl (Nat.le_of_ble_eq_true rfl) ⟨⟨rfl, rfl⟩, ⟨(Nat.le_of_ble_eq_true rfl), (Nat.le_of_ble_eq_true rfl)⟩, hce, hsl⟩ dL_law_884 ?_
  refine jx_icmp_eq (pc := 887) (tgt := 1096) dL_law_887 (by decide) (fun _ => ?_) (fun c => absurd rfl c)
  exact lw_widen (Nat.le_add_right _ 5) (Nat.le_add_right _ 404) (hk _ _ _ hr1)
set_option maxHeartbeats 4000000 in
set_option maxRecDepth 100000 in
theorem lw_case_tale (l : Launch) {Gl Gm : jx_G} {b L : Nat} {xs : Nat → Int32} {sz : Nat} {nm : String} {ret0 : Option FieldType} {Qf : List Frame → Array Value → State → State → Prop} (hL : L ≤ 3072) (hok : lw_ok Gl Gm sz) (R : jx_T → jx_M → jx_M → Prop) (hops : lw_ops R) {i ce sl : Nat} (hi : i + 6 ≤ L) (hce5 : ce + 5 ≤ room_1.cells) (hsl5 : sl + 404 ≤ room_1.slots) (hk : ∀ (t : jx_T) (σl σm : jx_M), R t σl σm → jx_J l (lw_env Gl Gm b L xs) (lw_dyn Gl Gm) lw_no sz RL nm cL_law 4 ret0 room_1 Qf (ce + 5) (sl + 404) 1096 [(0, .ref b), (1, .ref (Gl.2 20)), (2, .ref (Gm.2 10)), (3, .int (nI i))] [] (σl, σm, t)) (t : jx_T) (σl σm : jx_M) (hR : R t σl σm) : jx_J l (lw_env Gl Gm b L xs) (lw_dyn Gl Gm) lw_no sz RL nm cL_law 4 ret0 room_1 Qf ce sl 892 [(0, .ref b), (1, .ref (Gl.2 20)), (2, .ref (Gm.2 10)), (3, .int (nI i))] [] (σl, σm, t) := by
  have hce : ce ≤ room_1.cells := Nat.le_trans (Nat.le_add_right _ _) hce5
  have hsl : sl ≤ room_1.slots := Nat.le_trans (Nat.le_add_right _ _) hsl5
  obtain ⟨r, σl2, σm2, hl1, hm1, hr1⟩ := hops.2.2.2.2.2.2.2.2.2.2.2.2.2.2.2.2.2.2.2.2.2.2.2.1 t σl σm (xs (i + 1)) (xs (i + 2)) (xs (i + 3)) hR
  refine jx_aload_n (pc := 892) (k0 := 1) rfl dL_law_892 ?_
  refine jx_aload_n (pc := 893) (k0 := 0) rfl dL_law_893 ?_
  refine jx_iload_n (pc := 894) (k0 := 3) rfl dL_law_894 ?_
  refine jx_iconst (pc := 895) (v := (1 : Int32)) (by decide) dL_law_895 ?_
  refine jx_iadd (pc := 896) dL_law_896 ?_
  refine lw_sld (pc := 897) (j := i + 1) (nI_k 1 _ (by decide)) (by omega) (by omega) dL_law_897 ?_
  refine jx_aload_n (pc := 898) (k0 := 0) rfl dL_law_898 ?_
  refine jx_iload_n (pc := 899) (k0 := 3) rfl dL_law_899 ?_
  refine jx_iconst (pc := 900) (v := (2 : Int32)) (by decide) dL_law_900 ?_
  refine jx_iadd (pc := 901) dL_law_901 ?_
  refine lw_sld (pc := 902) (j := i + 2) (nI_k 2 _ (by decide)) (by omega) (by omega) dL_law_902 ?_
  refine jx_aload_n (pc := 903) (k0 := 0) rfl dL_law_903 ?_
  refine jx_iload_n (pc := 904) (k0 := 3) rfl dL_law_904 ?_
  refine jx_iconst (pc := 905) (v := (3 : Int32)) (by decide) dL_law_905 ?_
  refine jx_iadd (pc := 906) dL_law_906 ?_
  refine lw_sld (pc := 907) (j := i + 3) (nI_k 3 _ (by decide)) (by omega) (by omega) dL_law_907 ?_
  refine lw_cLi (pc := 908) hok (fun _ h => h) (fun h => h) [.int (xs (i + 1)), .int (xs (i + 2)), .int (xs (i + 3))] (fun sz' => k_X5_tale l Gl t hok.1 sz' σl (xs (i + 1)) (xs (i + 2)) (xs (i + 3)) _ hl1) kv_L_111 rfl rfl (Nat.le_of_ble_eq_true rfl) ⟨⟨rfl, rfl⟩, ⟨(Nat.le_of_ble_eq_true rfl), (Nat.le_of_ble_eq_true rfl)⟩, hce, hsl⟩ dL_law_908 ?_
  refine jx_aload_n (pc := 911) (k0 := 2) rfl dL_law_911 ?_
  refine jx_aload_n (pc := 912) (k0 := 0) rfl dL_law_912 ?_
  refine jx_iload_n (pc := 913) (k0 := 3) rfl dL_law_913 ?_
  refine jx_iconst (pc := 914) (v := (1 : Int32)) (by decide) dL_law_914 ?_
  refine jx_iadd (pc := 915) dL_law_915 ?_
  refine lw_sld (pc := 916) (j := i + 1) (nI_k 1 _ (by decide)) (by omega) (by omega) dL_law_916 ?_
  refine jx_aload_n (pc := 917) (k0 := 0) rfl dL_law_917 ?_
  refine jx_iload_n (pc := 918) (k0 := 3) rfl dL_law_918 ?_
  refine jx_iconst (pc := 919) (v := (2 : Int32)) (by decide) dL_law_919 ?_
  refine jx_iadd (pc := 920) dL_law_920 ?_
  refine lw_sld (pc := 921) (j := i + 2) (nI_k 2 _ (by decide)) (by omega) (by omega) dL_law_921 ?_
  refine jx_aload_n (pc := 922) (k0 := 0) rfl dL_law_922 ?_
  refine jx_iload_n (pc := 923) (k0 := 3) rfl dL_law_923 ?_
  refine jx_iconst (pc := 924) (v := (3 : Int32)) (by decide) dL_law_924 ?_
  refine jx_iadd (pc := 925) dL_law_925 ?_
  refine lw_sld (pc := 926) (j := i + 3) (nI_k 3 _ (by decide)) (by omega) (by omega) dL_law_926 ?_
  refine lw_cMi (pc := 927) hok [.int (xs (i + 1)), .int (xs (i + 2)), .int (xs (i + 3))] (fun sz' => k_X6_tale l Gm hok.2.1 sz' σm (xs (i + 1)) (xs (i + 2)) (xs (i + 3)) _ hm1) kv_L_114 rfl rfl (Nat.le_of_ble_eq_true rfl) ⟨⟨rfl, rfl⟩, ⟨(Nat.le_of_ble_eq_true rfl), (Nat.le_of_ble_eq_true rfl)⟩, hce, hsl⟩ dL_law_927 ?_
  refine jx_icmp_eq (pc := 930) (tgt := 1096) dL_law_930 (by decide) (fun _ => ?_) (fun c => absurd rfl c)
  exact lw_widen (Nat.le_add_right _ 5) (Nat.le_add_right _ 404) (hk _ _ _ hr1)
set_option maxHeartbeats 4000000 in
set_option maxRecDepth 100000 in
theorem lw_case_looked (l : Launch) {Gl Gm : jx_G} {b L : Nat} {xs : Nat → Int32} {sz : Nat} {nm : String} {ret0 : Option FieldType} {Qf : List Frame → Array Value → State → State → Prop} (hL : L ≤ 3072) (hok : lw_ok Gl Gm sz) (R : jx_T → jx_M → jx_M → Prop) (hops : lw_ops R) {i ce sl : Nat} (hi : i + 6 ≤ L) (hce5 : ce + 5 ≤ room_1.cells) (hsl5 : sl + 404 ≤ room_1.slots) (hk : ∀ (t : jx_T) (σl σm : jx_M), R t σl σm → jx_J l (lw_env Gl Gm b L xs) (lw_dyn Gl Gm) lw_no sz RL nm cL_law 4 ret0 room_1 Qf (ce + 5) (sl + 404) 1096 [(0, .ref b), (1, .ref (Gl.2 20)), (2, .ref (Gm.2 10)), (3, .int (nI i))] [] (σl, σm, t)) (t : jx_T) (σl σm : jx_M) (hR : R t σl σm) : jx_J l (lw_env Gl Gm b L xs) (lw_dyn Gl Gm) lw_no sz RL nm cL_law 4 ret0 room_1 Qf ce sl 935 [(0, .ref b), (1, .ref (Gl.2 20)), (2, .ref (Gm.2 10)), (3, .int (nI i))] [] (σl, σm, t) := by
  have hce : ce ≤ room_1.cells := Nat.le_trans (Nat.le_add_right _ _) hce5
  have hsl : sl ≤ room_1.slots := Nat.le_trans (Nat.le_add_right _ _) hsl5
  obtain ⟨r, σl2, σm2, hl1, hm1, hr1⟩ := hops.2.2.2.2.2.2.2.2.2.2.2.2.2.2.2.2.2.2.2.2.2.2.2.2.1 t σl σm  hR
  refine jx_aload_n (pc := 935) (k0 := 1) rfl dL_law_935 ?_
  refine lw_cLi (pc := 936) hok (fun _ h => h) (fun h => h) [] (fun sz' => k_X5_looked l Gl t hok.1 sz' σl  _ hl1) kv_L_115 rfl rfl (Nat.le_of_ble_eq_true rfl) ⟨⟨rfl, rfl⟩, ⟨(Nat.le_of_ble_eq_true rfl), (Nat.le_of_ble_eq_true rfl)⟩, hce, hsl⟩ dL_law_936 ?_
  refine jx_aload_n (pc := 939) (k0 := 2) rfl dL_law_939 ?_
  refine lw_cMi (pc := 940) hok [] (fun sz' => k_X6_looked l Gm hok.2.1 sz' σm  _ hm1) kv_L_118 rfl rfl (Nat.le_of_ble_eq_true rfl) ⟨⟨rfl, rfl⟩, ⟨(Nat.le_of_ble_eq_true rfl), (Nat.le_of_ble_eq_true rfl)⟩, hce, hsl⟩ dL_law_940 ?_
  refine jx_icmp_eq (pc := 943) (tgt := 1096) dL_law_943 (by decide) (fun _ => ?_) (fun c => absurd rfl c)
  exact lw_widen (Nat.le_add_right _ 5) (Nat.le_add_right _ 404) (hk _ _ _ hr1)
set_option maxHeartbeats 4000000 in
set_option maxRecDepth 100000 in
theorem lw_case_act (l : Launch) {Gl Gm : jx_G} {b L : Nat} {xs : Nat → Int32} {sz : Nat} {nm : String} {ret0 : Option FieldType} {Qf : List Frame → Array Value → State → State → Prop} (hL : L ≤ 3072) (hok : lw_ok Gl Gm sz) (R : jx_T → jx_M → jx_M → Prop) (hops : lw_ops R) {i ce sl : Nat} (hi : i + 6 ≤ L) (hce5 : ce + 5 ≤ room_1.cells) (hsl5 : sl + 404 ≤ room_1.slots) (hk : ∀ (t : jx_T) (σl σm : jx_M), R t σl σm → jx_J l (lw_env Gl Gm b L xs) (lw_dyn Gl Gm) lw_no sz RL nm cL_law 4 ret0 room_1 Qf (ce + 5) (sl + 404) 1096 [(0, .ref b), (1, .ref (Gl.2 20)), (2, .ref (Gm.2 10)), (3, .int (nI i))] [] (σl, σm, t)) (t : jx_T) (σl σm : jx_M) (hR : R t σl σm) : jx_J l (lw_env Gl Gm b L xs) (lw_dyn Gl Gm) lw_no sz RL nm cL_law 4 ret0 room_1 Qf ce sl 948 [(0, .ref b), (1, .ref (Gl.2 20)), (2, .ref (Gm.2 10)), (3, .int (nI i))] [] (σl, σm, t) := by
  have hce : ce ≤ room_1.cells := Nat.le_trans (Nat.le_add_right _ _) hce5
  have hsl : sl ≤ room_1.slots := Nat.le_trans (Nat.le_add_right _ _) hsl5
  obtain ⟨r, σl2, σm2, hl1, hm1, hr1⟩ := hops.2.2.2.2.2.2.2.2.2.2.2.2.2.2.2.2.2.2.2.2.2.2.2.2.2.1 t σl σm (xs (i + 1)) (xs (i + 2)) (xs (i + 3)) hR
  refine jx_aload_n (pc := 948) (k0 := 1) rfl dL_law_948 ?_
  refine jx_aload_n (pc := 949) (k0 := 0) rfl dL_law_949 ?_
  refine jx_iload_n (pc := 950) (k0 := 3) rfl dL_law_950 ?_
  refine jx_iconst (pc := 951) (v := (1 : Int32)) (by decide) dL_law_951 ?_
  refine jx_iadd (pc := 952) dL_law_952 ?_
  refine lw_sld (pc := 953) (j := i + 1) (nI_k 1 _ (by decide)) (by omega) (by omega) dL_law_953 ?_
  refine jx_aload_n (pc := 954) (k0 := 0) rfl dL_law_954 ?_
  refine jx_iload_n (pc := 955) (k0 := 3) rfl dL_law_955 ?_
  refine jx_iconst (pc := 956) (v := (2 : Int32)) (by decide) dL_law_956 ?_
  refine jx_iadd (pc := 957) dL_law_957 ?_
  refine lw_sld (pc := 958) (j := i + 2) (nI_k 2 _ (by decide)) (by omega) (by omega) dL_law_958 ?_
  refine jx_aload_n (pc := 959) (k0 := 0) rfl dL_law_959 ?_
  refine jx_iload_n (pc := 960) (k0 := 3) rfl dL_law_960 ?_
  refine jx_iconst (pc := 961) (v := (3 : Int32)) (by decide) dL_law_961 ?_
  refine jx_iadd (pc := 962) dL_law_962 ?_
  refine lw_sld (pc := 963) (j := i + 3) (nI_k 3 _ (by decide)) (by omega) (by omega) dL_law_963 ?_
  refine lw_cLi (pc := 964) hok (fun _ h => h) (fun h => h) [.int (xs (i + 1)), .int (xs (i + 2)), .int (xs (i + 3))] (fun sz' => k_X5_act l Gl t hok.1 sz' σl (xs (i + 1)) (xs (i + 2)) (xs (i + 3)) _ hl1) kv_L_119 rfl rfl (Nat.le_of_ble_eq_true rfl) ⟨⟨rfl, rfl⟩, ⟨(Nat.le_of_ble_eq_true rfl), (Nat.le_of_ble_eq_true rfl)⟩, hce, hsl⟩ dL_law_964 ?_
  refine jx_aload_n (pc := 967) (k0 := 2) rfl dL_law_967 ?_
  refine jx_aload_n (pc := 968) (k0 := 0) rfl dL_law_968 ?_
  refine jx_iload_n (pc := 969) (k0 := 3) rfl dL_law_969 ?_
  refine jx_iconst (pc := 970) (v := (1 : Int32)) (by decide) dL_law_970 ?_
  refine jx_iadd (pc := 971) dL_law_971 ?_
  refine lw_sld (pc := 972) (j := i + 1) (nI_k 1 _ (by decide)) (by omega) (by omega) dL_law_972 ?_
  refine jx_aload_n (pc := 973) (k0 := 0) rfl dL_law_973 ?_
  refine jx_iload_n (pc := 974) (k0 := 3) rfl dL_law_974 ?_
  refine jx_iconst (pc := 975) (v := (2 : Int32)) (by decide) dL_law_975 ?_
  refine jx_iadd (pc := 976) dL_law_976 ?_
  refine lw_sld (pc := 977) (j := i + 2) (nI_k 2 _ (by decide)) (by omega) (by omega) dL_law_977 ?_
  refine jx_aload_n (pc := 978) (k0 := 0) rfl dL_law_978 ?_
  refine jx_iload_n (pc := 979) (k0 := 3) rfl dL_law_979 ?_
  refine jx_iconst (pc := 980) (v := (3 : Int32)) (by decide) dL_law_980 ?_
  refine jx_iadd (pc := 981) dL_law_981 ?_
  refine lw_sld (pc := 982) (j := i + 3) (nI_k 3 _ (by decide)) (by omega) (by omega) dL_law_982 ?_
  refine lw_cMi (pc := 983) hok [.int (xs (i + 1)), .int (xs (i + 2)), .int (xs (i + 3))] (fun sz' => k_X6_act l Gm hok.2.1 sz' σm (xs (i + 1)) (xs (i + 2)) (xs (i + 3)) _ hm1) kv_L_122 rfl rfl (Nat.le_of_ble_eq_true rfl) ⟨⟨rfl, rfl⟩, ⟨(Nat.le_of_ble_eq_true rfl), (Nat.le_of_ble_eq_true rfl)⟩, hce, hsl⟩ dL_law_983 ?_
  refine jx_icmp_eq (pc := 986) (tgt := 1096) dL_law_986 (by decide) (fun _ => ?_) (fun c => absurd rfl c)
  exact lw_widen (Nat.le_add_right _ 5) (Nat.le_add_right _ 404) (hk _ _ _ hr1)
set_option maxHeartbeats 4000000 in
set_option maxRecDepth 100000 in
theorem lw_case_trace (l : Launch) {Gl Gm : jx_G} {b L : Nat} {xs : Nat → Int32} {sz : Nat} {nm : String} {ret0 : Option FieldType} {Qf : List Frame → Array Value → State → State → Prop} (hL : L ≤ 3072) (hok : lw_ok Gl Gm sz) (R : jx_T → jx_M → jx_M → Prop) (hops : lw_ops R) {i ce sl : Nat} (hi : i + 6 ≤ L) (hce5 : ce + 5 ≤ room_1.cells) (hsl5 : sl + 404 ≤ room_1.slots) (hk : ∀ (t : jx_T) (σl σm : jx_M), R t σl σm → jx_J l (lw_env Gl Gm b L xs) (lw_dyn Gl Gm) lw_no sz RL nm cL_law 4 ret0 room_1 Qf (ce + 5) (sl + 404) 1096 [(0, .ref b), (1, .ref (Gl.2 20)), (2, .ref (Gm.2 10)), (3, .int (nI i))] [] (σl, σm, t)) (t : jx_T) (σl σm : jx_M) (hR : R t σl σm) : jx_J l (lw_env Gl Gm b L xs) (lw_dyn Gl Gm) lw_no sz RL nm cL_law 4 ret0 room_1 Qf ce sl 991 [(0, .ref b), (1, .ref (Gl.2 20)), (2, .ref (Gm.2 10)), (3, .int (nI i))] [] (σl, σm, t) := by
  have hce : ce ≤ room_1.cells := Nat.le_trans (Nat.le_add_right _ _) hce5
  have hsl : sl ≤ room_1.slots := Nat.le_trans (Nat.le_add_right _ _) hsl5
  obtain ⟨r, hl1, hm1, hr1⟩ := hops.2.2.2.2.2.2.2.2.2.2.2.2.2.2.2.2.2.2.2.2.2.2.2.2.2.2.1 t σl σm (xs (i + 1)) hR
  refine jx_aload_n (pc := 991) (k0 := 1) rfl dL_law_991 ?_
  refine jx_aload_n (pc := 992) (k0 := 0) rfl dL_law_992 ?_
  refine jx_iload_n (pc := 993) (k0 := 3) rfl dL_law_993 ?_
  refine jx_iconst (pc := 994) (v := (1 : Int32)) (by decide) dL_law_994 ?_
  refine jx_iadd (pc := 995) dL_law_995 ?_
  refine lw_sld (pc := 996) (j := i + 1) (nI_k 1 _ (by decide)) (by omega) (by omega) dL_law_996 ?_
  refine lw_cLi (pc := 997) hok (fun _ h => h) (fun h => h) [.int (xs (i + 1))] (fun sz' => k_X5_trace l Gl t hok.1 sz' σl (xs (i + 1)) _ hl1) kv_L_123 rfl rfl (Nat.le_of_ble_eq_true rfl) ⟨⟨rfl, rfl⟩, ⟨(Nat.le_of_ble_eq_true rfl), (Nat.le_of_ble_eq_true rfl)⟩, hce, hsl⟩ dL_law_997 ?_
  refine jx_aload_n (pc := 1000) (k0 := 2) rfl dL_law_1000 ?_
  refine jx_aload_n (pc := 1001) (k0 := 0) rfl dL_law_1001 ?_
  refine jx_iload_n (pc := 1002) (k0 := 3) rfl dL_law_1002 ?_
  refine jx_iconst (pc := 1003) (v := (1 : Int32)) (by decide) dL_law_1003 ?_
  refine jx_iadd (pc := 1004) dL_law_1004 ?_
  refine lw_sld (pc := 1005) (j := i + 1) (nI_k 1 _ (by decide)) (by omega) (by omega) dL_law_1005 ?_
  refine lw_cMi (pc := 1006) hok [.int (xs (i + 1))] (fun sz' => k_X6_trace l Gm hok.2.1 sz' σm (xs (i + 1)) _ hm1) kv_L_126 rfl rfl (Nat.le_of_ble_eq_true rfl) ⟨⟨rfl, rfl⟩, ⟨(Nat.le_of_ble_eq_true rfl), (Nat.le_of_ble_eq_true rfl)⟩, hce, hsl⟩ dL_law_1006 ?_
  refine jx_icmp_eq (pc := 1009) (tgt := 1096) dL_law_1009 (by decide) (fun _ => ?_) (fun c => absurd rfl c)
  exact lw_widen (Nat.le_add_right _ 5) (Nat.le_add_right _ 404) (hk _ _ _ hr1)
set_option maxHeartbeats 4000000 in
set_option maxRecDepth 100000 in
theorem lw_case_as (l : Launch) {Gl Gm : jx_G} {b L : Nat} {xs : Nat → Int32} {sz : Nat} {nm : String} {ret0 : Option FieldType} {Qf : List Frame → Array Value → State → State → Prop} (hL : L ≤ 3072) (hok : lw_ok Gl Gm sz) (R : jx_T → jx_M → jx_M → Prop) (hops : lw_ops R) {i ce sl : Nat} (hi : i + 6 ≤ L) (hce5 : ce + 5 ≤ room_1.cells) (hsl5 : sl + 404 ≤ room_1.slots) (hk : ∀ (t : jx_T) (σl σm : jx_M), R t σl σm → jx_J l (lw_env Gl Gm b L xs) (lw_dyn Gl Gm) lw_no sz RL nm cL_law 4 ret0 room_1 Qf (ce + 5) (sl + 404) 1096 [(0, .ref b), (1, .ref (Gl.2 20)), (2, .ref (Gm.2 10)), (3, .int (nI i))] [] (σl, σm, t)) (t : jx_T) (σl σm : jx_M) (hR : R t σl σm) : jx_J l (lw_env Gl Gm b L xs) (lw_dyn Gl Gm) lw_no sz RL nm cL_law 4 ret0 room_1 Qf ce sl 1014 [(0, .ref b), (1, .ref (Gl.2 20)), (2, .ref (Gm.2 10)), (3, .int (nI i))] [] (σl, σm, t) := by
  have hce : ce ≤ room_1.cells := Nat.le_trans (Nat.le_add_right _ _) hce5
  have hsl : sl ≤ room_1.slots := Nat.le_trans (Nat.le_add_right _ _) hsl5
  obtain ⟨r, hl1, hm1, hr1⟩ := hops.2.2.2.2.2.2.2.2.2.2.2.2.2.2.2.2.2.2.2.2.2.2.2.2.2.2.2.1 t σl σm (xs (i + 1)) (xs (i + 2)) hR
  refine jx_aload_n (pc := 1014) (k0 := 1) rfl dL_law_1014 ?_
  refine jx_aload_n (pc := 1015) (k0 := 0) rfl dL_law_1015 ?_
  refine jx_iload_n (pc := 1016) (k0 := 3) rfl dL_law_1016 ?_
  refine jx_iconst (pc := 1017) (v := (1 : Int32)) (by decide) dL_law_1017 ?_
  refine jx_iadd (pc := 1018) dL_law_1018 ?_
  refine lw_sld (pc := 1019) (j := i + 1) (nI_k 1 _ (by decide)) (by omega) (by omega) dL_law_1019 ?_
  refine jx_aload_n (pc := 1020) (k0 := 0) rfl dL_law_1020 ?_
  refine jx_iload_n (pc := 1021) (k0 := 3) rfl dL_law_1021 ?_
  refine jx_iconst (pc := 1022) (v := (2 : Int32)) (by decide) dL_law_1022 ?_
  refine jx_iadd (pc := 1023) dL_law_1023 ?_
  refine lw_sld (pc := 1024) (j := i + 2) (nI_k 2 _ (by decide)) (by omega) (by omega) dL_law_1024 ?_
  refine lw_cLi (pc := 1025) hok (fun _ h => h) (fun h => h) [.int (xs (i + 1)), .int (xs (i + 2))] (fun sz' => k_X5_as l Gl t hok.1 sz' σl (xs (i + 1)) (xs (i + 2)) _ hl1) kv_L_127 rfl rfl (Nat.le_of_ble_eq_true rfl) ⟨⟨rfl, rfl⟩, ⟨(Nat.le_of_ble_eq_true rfl), (Nat.le_of_ble_eq_true rfl)⟩, hce, hsl⟩ dL_law_1025 ?_
  refine jx_aload_n (pc := 1028) (k0 := 2) rfl dL_law_1028 ?_
  refine jx_aload_n (pc := 1029) (k0 := 0) rfl dL_law_1029 ?_
  refine jx_iload_n (pc := 1030) (k0 := 3) rfl dL_law_1030 ?_
  refine jx_iconst (pc := 1031) (v := (1 : Int32)) (by decide) dL_law_1031 ?_
  refine jx_iadd (pc := 1032) dL_law_1032 ?_
  refine lw_sld (pc := 1033) (j := i + 1) (nI_k 1 _ (by decide)) (by omega) (by omega) dL_law_1033 ?_
  refine jx_aload_n (pc := 1034) (k0 := 0) rfl dL_law_1034 ?_
  refine jx_iload_n (pc := 1035) (k0 := 3) rfl dL_law_1035 ?_
  refine jx_iconst (pc := 1036) (v := (2 : Int32)) (by decide) dL_law_1036 ?_
  refine jx_iadd (pc := 1037) dL_law_1037 ?_
  refine lw_sld (pc := 1038) (j := i + 2) (nI_k 2 _ (by decide)) (by omega) (by omega) dL_law_1038 ?_
  refine lw_cMi (pc := 1039) hok [.int (xs (i + 1)), .int (xs (i + 2))] (fun sz' => k_X6_as l Gm hok.2.1 sz' σm (xs (i + 1)) (xs (i + 2)) _ hm1) kv_L_130 rfl rfl (Nat.le_of_ble_eq_true rfl) ⟨⟨rfl, rfl⟩, ⟨(Nat.le_of_ble_eq_true rfl), (Nat.le_of_ble_eq_true rfl)⟩, hce, hsl⟩ dL_law_1039 ?_
  refine jx_icmp_eq (pc := 1042) (tgt := 1096) dL_law_1042 (by decide) (fun _ => ?_) (fun c => absurd rfl c)
  exact lw_widen (Nat.le_add_right _ 5) (Nat.le_add_right _ 404) (hk _ _ _ hr1)
set_option maxHeartbeats 4000000 in
set_option maxRecDepth 100000 in
theorem lw_case_image (l : Launch) {Gl Gm : jx_G} {b L : Nat} {xs : Nat → Int32} {sz : Nat} {nm : String} {ret0 : Option FieldType} {Qf : List Frame → Array Value → State → State → Prop} (hL : L ≤ 3072) (hok : lw_ok Gl Gm sz) (R : jx_T → jx_M → jx_M → Prop) (hops : lw_ops R) {i ce sl : Nat} (hi : i + 6 ≤ L) (hce5 : ce + 5 ≤ room_1.cells) (hsl5 : sl + 404 ≤ room_1.slots) (hk : ∀ (t : jx_T) (σl σm : jx_M), R t σl σm → jx_J l (lw_env Gl Gm b L xs) (lw_dyn Gl Gm) lw_no sz RL nm cL_law 4 ret0 room_1 Qf (ce + 5) (sl + 404) 1096 [(0, .ref b), (1, .ref (Gl.2 20)), (2, .ref (Gm.2 10)), (3, .int (nI i))] [] (σl, σm, t)) (t : jx_T) (σl σm : jx_M) (hR : R t σl σm) : jx_J l (lw_env Gl Gm b L xs) (lw_dyn Gl Gm) lw_no sz RL nm cL_law 4 ret0 room_1 Qf ce sl 1047 [(0, .ref b), (1, .ref (Gl.2 20)), (2, .ref (Gm.2 10)), (3, .int (nI i))] [] (σl, σm, t) := by
  have hce : ce ≤ room_1.cells := Nat.le_trans (Nat.le_add_right _ _) hce5
  have hsl : sl ≤ room_1.slots := Nat.le_trans (Nat.le_add_right _ _) hsl5
  obtain ⟨r, σl2, σm2, hl1, hm1, hr1⟩ := hops.2.2.2.2.2.2.2.2.2.2.2.2.2.2.2.2.2.2.2.2.2.2.2.2.2.2.2.2.1 t σl σm  hR
  refine jx_aload_n (pc := 1047) (k0 := 1) rfl dL_law_1047 ?_
  refine lw_cLi (pc := 1048) hok (fun _ h => lw_tqI h) (fun h => lw_tmI h) [] (fun sz' => k_X5_image l Gl t hok.1 sz' σl  _ hl1) kv_L_131 rfl rfl (Nat.le_of_ble_eq_true rfl) ⟨⟨rfl, rfl⟩, ⟨(Nat.le_of_ble_eq_true rfl), (Nat.le_of_ble_eq_true rfl)⟩, hce, hsl⟩ dL_law_1048 ?_
  refine jx_aload_n (pc := 1051) (k0 := 2) rfl dL_law_1051 ?_
  refine lw_cMi (pc := 1052) hok [] (fun sz' => k_X6_image l Gm hok.2.1 sz' σm  _ hm1) kv_L_134 rfl rfl (Nat.le_of_ble_eq_true rfl) ⟨⟨rfl, rfl⟩, ⟨(Nat.le_of_ble_eq_true rfl), (Nat.le_of_ble_eq_true rfl)⟩, hce, hsl⟩ dL_law_1052 ?_
  refine jx_icmp_eq (pc := 1055) (tgt := 1096) dL_law_1055 (by decide) (fun _ => ?_) (fun c => absurd rfl c)
  exact lw_widen (Nat.le_add_right _ 5) (Nat.le_add_right _ 404) (hk _ _ _ hr1)
set_option maxHeartbeats 4000000 in
set_option maxRecDepth 100000 in
theorem lw_case_undo (l : Launch) {Gl Gm : jx_G} {b L : Nat} {xs : Nat → Int32} {sz : Nat} {nm : String} {ret0 : Option FieldType} {Qf : List Frame → Array Value → State → State → Prop} (hL : L ≤ 3072) (hok : lw_ok Gl Gm sz) (R : jx_T → jx_M → jx_M → Prop) (hops : lw_ops R) {i ce sl : Nat} (hi : i + 6 ≤ L) (hce5 : ce + 5 ≤ room_1.cells) (hsl5 : sl + 404 ≤ room_1.slots) (hk : ∀ (t : jx_T) (σl σm : jx_M), R t σl σm → jx_J l (lw_env Gl Gm b L xs) (lw_dyn Gl Gm) lw_no sz RL nm cL_law 4 ret0 room_1 Qf (ce + 5) (sl + 404) 1096 [(0, .ref b), (1, .ref (Gl.2 20)), (2, .ref (Gm.2 10)), (3, .int (nI i))] [] (σl, σm, t)) (t : jx_T) (σl σm : jx_M) (hR : R t σl σm) : jx_J l (lw_env Gl Gm b L xs) (lw_dyn Gl Gm) lw_no sz RL nm cL_law 4 ret0 room_1 Qf ce sl 1060 [(0, .ref b), (1, .ref (Gl.2 20)), (2, .ref (Gm.2 10)), (3, .int (nI i))] [] (σl, σm, t) := by
  have hce : ce ≤ room_1.cells := Nat.le_trans (Nat.le_add_right _ _) hce5
  have hsl : sl ≤ room_1.slots := Nat.le_trans (Nat.le_add_right _ _) hsl5
  obtain ⟨r, σl2, σm2, hl1, hm1, hr1⟩ := hops.2.2.2.2.2.2.2.2.2.2.2.2.2.2.2.2.2.2.2.2.2.2.2.2.2.2.2.2.2.1 t σl σm  hR
  refine jx_aload_n (pc := 1060) (k0 := 1) rfl dL_law_1060 ?_
  refine lw_cLi (pc := 1061) hok (fun _ h => lw_tqU h) (fun h => lw_tmU h) [] (fun sz' => k_X5_undo l Gl t hok.1 sz' σl  _ hl1) kv_L_135 rfl rfl (Nat.le_of_ble_eq_true rfl) ⟨⟨rfl, rfl⟩, ⟨(Nat.le_of_ble_eq_true rfl), (Nat.le_of_ble_eq_true rfl)⟩, hce, hsl⟩ dL_law_1061 ?_
  refine jx_aload_n (pc := 1064) (k0 := 2) rfl dL_law_1064 ?_
  refine lw_cMi (pc := 1065) hok [] (fun sz' => k_X6_undo l Gm hok.2.1 sz' σm  _ hm1) kv_L_138 rfl rfl (Nat.le_of_ble_eq_true rfl) ⟨⟨rfl, rfl⟩, ⟨(Nat.le_of_ble_eq_true rfl), (Nat.le_of_ble_eq_true rfl)⟩, hce, hsl⟩ dL_law_1065 ?_
  refine jx_icmp_eq (pc := 1068) (tgt := 1096) dL_law_1068 (by decide) (fun _ => ?_) (fun c => absurd rfl c)
  exact lw_widen (Nat.le_add_right _ 5) (Nat.le_add_right _ 404) (hk _ _ _ hr1)
set_option maxHeartbeats 4000000 in
set_option maxRecDepth 100000 in
theorem lw_case_count (l : Launch) {Gl Gm : jx_G} {b L : Nat} {xs : Nat → Int32} {sz : Nat} {nm : String} {ret0 : Option FieldType} {Qf : List Frame → Array Value → State → State → Prop} (hL : L ≤ 3072) (hok : lw_ok Gl Gm sz) (R : jx_T → jx_M → jx_M → Prop) (hops : lw_ops R) {i ce sl : Nat} (hi : i + 6 ≤ L) (hce5 : ce + 5 ≤ room_1.cells) (hsl5 : sl + 404 ≤ room_1.slots) (hk : ∀ (t : jx_T) (σl σm : jx_M), R t σl σm → jx_J l (lw_env Gl Gm b L xs) (lw_dyn Gl Gm) lw_no sz RL nm cL_law 4 ret0 room_1 Qf (ce + 5) (sl + 404) 1096 [(0, .ref b), (1, .ref (Gl.2 20)), (2, .ref (Gm.2 10)), (3, .int (nI i))] [] (σl, σm, t)) (t : jx_T) (σl σm : jx_M) (hR : R t σl σm) : jx_J l (lw_env Gl Gm b L xs) (lw_dyn Gl Gm) lw_no sz RL nm cL_law 4 ret0 room_1 Qf ce sl 1073 [(0, .ref b), (1, .ref (Gl.2 20)), (2, .ref (Gm.2 10)), (3, .int (nI i))] [] (σl, σm, t) := by
  have hce : ce ≤ room_1.cells := Nat.le_trans (Nat.le_add_right _ _) hce5
  have hsl : sl ≤ room_1.slots := Nat.le_trans (Nat.le_add_right _ _) hsl5
  obtain ⟨r, hl1, hm1, hr1⟩ := hops.2.2.2.2.2.2.2.2.2.2.2.2.2.2.2.2.2.2.2.2.2.2.2.2.2.2.2.2.2.2 t σl σm (xs (i + 1)) hR
  refine jx_aload_n (pc := 1073) (k0 := 1) rfl dL_law_1073 ?_
  refine jx_aload_n (pc := 1074) (k0 := 0) rfl dL_law_1074 ?_
  refine jx_iload_n (pc := 1075) (k0 := 3) rfl dL_law_1075 ?_
  refine jx_iconst (pc := 1076) (v := (1 : Int32)) (by decide) dL_law_1076 ?_
  refine jx_iadd (pc := 1077) dL_law_1077 ?_
  refine lw_sld (pc := 1078) (j := i + 1) (nI_k 1 _ (by decide)) (by omega) (by omega) dL_law_1078 ?_
  refine lw_cLi (pc := 1079) hok (fun _ h => h) (fun h => h) [.int (xs (i + 1))] (fun sz' => k_X5_count l Gl t hok.1 sz' σl (xs (i + 1)) _ hl1) kv_L_139 rfl rfl (Nat.le_of_ble_eq_true rfl) ⟨⟨rfl, rfl⟩, ⟨(Nat.le_of_ble_eq_true rfl), (Nat.le_of_ble_eq_true rfl)⟩, hce, hsl⟩ dL_law_1079 ?_
  refine jx_aload_n (pc := 1082) (k0 := 2) rfl dL_law_1082 ?_
  refine jx_aload_n (pc := 1083) (k0 := 0) rfl dL_law_1083 ?_
  refine jx_iload_n (pc := 1084) (k0 := 3) rfl dL_law_1084 ?_
  refine jx_iconst (pc := 1085) (v := (1 : Int32)) (by decide) dL_law_1085 ?_
  refine jx_iadd (pc := 1086) dL_law_1086 ?_
  refine lw_sld (pc := 1087) (j := i + 1) (nI_k 1 _ (by decide)) (by omega) (by omega) dL_law_1087 ?_
  refine lw_cMi (pc := 1088) hok [.int (xs (i + 1))] (fun sz' => k_X6_count l Gm hok.2.1 sz' σm (xs (i + 1)) _ hm1) kv_L_142 rfl rfl (Nat.le_of_ble_eq_true rfl) ⟨⟨rfl, rfl⟩, ⟨(Nat.le_of_ble_eq_true rfl), (Nat.le_of_ble_eq_true rfl)⟩, hce, hsl⟩ dL_law_1088 ?_
  refine jx_icmp_eq (pc := 1091) (tgt := 1096) dL_law_1091 (by decide) (fun _ => ?_) (fun c => absurd rfl c)
  exact lw_widen (Nat.le_add_right _ 5) (Nat.le_add_right _ 404) (hk _ _ _ hr1)
set_option maxHeartbeats 4000000 in
set_option maxRecDepth 100000 in
/-- the loop, from its head: what stands behind it is given -/
theorem lw_loop (l : Launch) {Gl Gm : jx_G} {b L : Nat} {xs : Nat → Int32} {sz : Nat} {nm : String} {ret0 : Option FieldType} {Qf : List Frame → Array Value → State → State → Prop} (hL : L ≤ 3072) (hok : lw_ok Gl Gm sz) (R : jx_T → jx_M → jx_M → Prop) (hops : lw_ops R) (CE SL : Nat) (hCE : CE ≤ 600000) (hSL : SL ≤ 7302249) (hend : ∀ (i : Nat) (t : jx_T) (σl σm : jx_M), jx_J l (lw_env Gl Gm b L xs) (lw_dyn Gl Gm) lw_no sz RL nm cL_law 4 ret0 room_1 Qf CE SL 1102 [(0, .ref b), (1, .ref (Gl.2 20)), (2, .ref (Gm.2 10)), (3, .int (nI i))] [] (σl, σm, t)) : ∀ (n i ce sl : Nat) (t : jx_T) (σl σm : jx_M), i ≤ L → L + 1 ≤ i + n → ce + 5 * (L - i) ≤ CE → sl + 404 * (L - i) ≤ SL → R t σl σm → jx_J l (lw_env Gl Gm b L xs) (lw_dyn Gl Gm) lw_no sz RL nm cL_law 4 ret0 room_1 Qf ce sl 18 [(0, .ref b), (1, .ref (Gl.2 20)), (2, .ref (Gm.2 10)), (3, .int (nI i))] [] (σl, σm, t) := by
  intro n
  induction n with
  | zero =>
    intro i ce sl t σl σm h1 h2
    exact absurd h2 (by omega)
  | succ n ih =>
    intro i ce sl t σl σm hi hin hc1 hc2 hR
    have hb1 : ce ≤ CE := by omega
    have hb2 : sl ≤ SL := by omega
    refine jx_iload_n (pc := 18) (k0 := 3) rfl dL_law_18 ?_
    refine jx_aload_n (pc := 19) (k0 := 0) rfl dL_law_19 ?_
    refine lw_slen (pc := 20) dL_law_20 ?_
    refine jx_bipush (pc := 21) (v := (6 : Int32)) (by decide) dL_law_21 ?_
    refine jx_isub (pc := 23) dL_law_23 ?_
    refine jx_icmp_gt (pc := 24) (tgt := 1102) dL_law_24 (by decide) (fun c1 => ?_) (fun c1 => ?_)
    · exact lw_widen hb1 hb2 (hend i t σl σm)
    · have hi6 : i + 6 ≤ L := Nat.le_of_not_lt fun z => c1 ((lw_cond hL hi).mpr z)
      have hk : ∀ (t : jx_T) (σl σm : jx_M), R t σl σm → jx_J l (lw_env Gl Gm b L xs) (lw_dyn Gl Gm) lw_no sz RL nm cL_law 4 ret0 room_1 Qf (ce + 5) (sl + 404) 1096 [(0, .ref b), (1, .ref (Gl.2 20)), (2, .ref (Gm.2 10)), (3, .int (nI i))] [] (σl, σm, t) := by
        intro t σl σm hR
        refine jx_iinc (pc := 1096) (i := 3) (v := nI i) (v2 := nI (i + 6)) (w := (6 : Int32)) rfl (nI_k 6 _ (by decide)).symm (n := 6) (by decide) (by decide) (lv' := [(3, .int (nI (i + 6))), (0, .ref b), (1, .ref (Gl.2 20)), (2, .ref (Gm.2 10))]) rfl dL_law_1096 ?_
        refine jx_goto (pc := 1099) (tgt := 18) dL_law_1099 (by decide) ?_
        exact jx_sub [1, 2, 3, 0] rfl (ih (i + 6) (ce + 5) (sl + 404) t σl σm (by omega) (by omega) (by omega) (by omega) hR)
      have hce5 : ce + 5 ≤ room_1.cells := Nat.le_trans (show ce + 5 ≤ 600000 by omega) (Nat.le_of_ble_eq_true rfl)
      have hsl5 : sl + 404 ≤ room_1.slots := Nat.le_trans (show sl + 404 ≤ 7302249 by omega) (Nat.le_of_ble_eq_true rfl)
      refine jx_aload_n (pc := 27) (k0 := 0) rfl dL_law_27 ?_
      refine jx_iload_n (pc := 28) (k0 := 3) rfl dL_law_28 ?_
      refine lw_sld (pc := 29) (j := i) rfl (by omega) (by omega) dL_law_29 ?_
      refine jx_bipush (pc := 30) (v := (31 : Int32)) (by decide) dL_law_30 ?_
      refine jx_iand (pc := 32) dL_law_32 ?_
      generalize xs i &&& 31 = y
      by_cases d0 : y = (0 : Int32)
      · refine jx_tabIn (pc := 33) (tgt := 172) dL_law_33 0 (by rw [d0]; rfl) (by decide) (by decide) rfl (by decide) ?_
        exact lw_case_feed l hL hok R hops hi6 hce5 hsl5 hk t σl σm hR
      by_cases d1 : y = (1 : Int32)
      · refine jx_tabIn (pc := 33) (tgt := 195) dL_law_33 1 (by rw [d1]; rfl) (by decide) (by decide) rfl (by decide) ?_
        exact lw_case_tide l hL hok R hops hi6 hce5 hsl5 hk t σl σm hR
      by_cases d2 : y = (2 : Int32)
      · refine jx_tabIn (pc := 33) (tgt := 208) dL_law_33 2 (by rw [d2]; rfl) (by decide) (by decide) rfl (by decide) ?_
        exact lw_case_places l hL hok R hops hi6 hce5 hsl5 hk t σl σm hR
      by_cases d3 : y = (3 : Int32)
      · refine jx_tabIn (pc := 33) (tgt := 231) dL_law_33 3 (by rw [d3]; rfl) (by decide) (by decide) rfl (by decide) ?_
        exact lw_case_place l hL hok R hops hi6 hce5 hsl5 hk t σl σm hR
      by_cases d4 : y = (4 : Int32)
      · refine jx_tabIn (pc := 33) (tgt := 274) dL_law_33 4 (by rw [d4]; rfl) (by decide) (by decide) rfl (by decide) ?_
        exact lw_case_at l hL hok R hops hi6 hce5 hsl5 hk t σl σm hR
      by_cases d5 : y = (5 : Int32)
      · refine jx_tabIn (pc := 33) (tgt := 307) dL_law_33 5 (by rw [d5]; rfl) (by decide) (by decide) rfl (by decide) ?_
        exact lw_case_voter l hL hok R hops hi6 hce5 hsl5 hk t σl σm hR
      by_cases d6 : y = (6 : Int32)
      · refine jx_tabIn (pc := 33) (tgt := 370) dL_law_33 6 (by rw [d6]; rfl) (by decide) (by decide) rfl (by decide) ?_
        exact lw_case_of l hL hok R hops hi6 hce5 hsl5 hk t σl σm hR
      by_cases d7 : y = (7 : Int32)
      · refine jx_tabIn (pc := 33) (tgt := 403) dL_law_33 7 (by rw [d7]; rfl) (by decide) (by decide) rfl (by decide) ?_
        exact lw_case_wish l hL hok R hops hi6 hce5 hsl5 hk t σl σm hR
      by_cases d8 : y = (8 : Int32)
      · refine jx_tabIn (pc := 33) (tgt := 436) dL_law_33 8 (by rw [d8]; rfl) (by decide) (by decide) rfl (by decide) ?_
        exact lw_case_row l hL hok R hops hi6 hce5 hsl5 hk t σl σm hR
      by_cases d9 : y = (9 : Int32)
      · refine jx_tabIn (pc := 33) (tgt := 479) dL_law_33 9 (by rw [d9]; rfl) (by decide) (by decide) rfl (by decide) ?_
        exact lw_case_minutes l hL hok R hops hi6 hce5 hsl5 hk t σl σm hR
      by_cases d10 : y = (10 : Int32)
      · refine jx_tabIn (pc := 33) (tgt := 502) dL_law_33 10 (by rw [d10]; rfl) (by decide) (by decide) rfl (by decide) ?_
        exact lw_case_vote l hL hok R hops hi6 hce5 hsl5 hk t σl σm hR
      by_cases d11 : y = (11 : Int32)
      · refine jx_tabIn (pc := 33) (tgt := 525) dL_law_33 11 (by rw [d11]; rfl) (by decide) (by decide) rfl (by decide) ?_
        exact lw_case_lies l hL hok R hops hi6 hce5 hsl5 hk t σl σm hR
      by_cases d12 : y = (12 : Int32)
      · refine jx_tabIn (pc := 33) (tgt := 558) dL_law_33 12 (by rw [d12]; rfl) (by decide) (by decide) rfl (by decide) ?_
        exact lw_case_ward l hL hok R hops hi6 hce5 hsl5 hk t σl σm hR
      by_cases d13 : y = (13 : Int32)
      · refine jx_tabIn (pc := 33) (tgt := 581) dL_law_33 13 (by rw [d13]; rfl) (by decide) (by decide) rfl (by decide) ?_
        exact lw_case_drifts l hL hok R hops hi6 hce5 hsl5 hk t σl σm hR
      by_cases d14 : y = (14 : Int32)
      · refine jx_tabIn (pc := 33) (tgt := 614) dL_law_33 14 (by rw [d14]; rfl) (by decide) (by decide) rfl (by decide) ?_
        exact lw_case_from l hL hok R hops hi6 hce5 hsl5 hk t σl σm hR
      by_cases d15 : y = (15 : Int32)
      · refine jx_tabIn (pc := 33) (tgt := 657) dL_law_33 15 (by rw [d15]; rfl) (by decide) (by decide) rfl (by decide) ?_
        exact lw_case_turns l hL hok R hops hi6 hce5 hsl5 hk t σl σm hR
      by_cases d16 : y = (16 : Int32)
      · refine jx_tabIn (pc := 33) (tgt := 680) dL_law_33 16 (by rw [d16]; rfl) (by decide) (by decide) rfl (by decide) ?_
        exact lw_case_sways l hL hok R hops hi6 hce5 hsl5 hk t σl σm hR
      by_cases d17 : y = (17 : Int32)
      · refine jx_tabIn (pc := 33) (tgt := 714) dL_law_33 17 (by rw [d17]; rfl) (by decide) (by decide) rfl (by decide) ?_
        exact lw_case_stick l hL hok R hops hi6 hce5 hsl5 hk t σl σm hR
      by_cases d18 : y = (18 : Int32)
      · refine jx_tabIn (pc := 33) (tgt := 737) dL_law_33 18 (by rw [d18]; rfl) (by decide) (by decide) rfl (by decide) ?_
        exact lw_case_set l hL hok R hops hi6 hce5 hsl5 hk t σl σm hR
      by_cases d19 : y = (19 : Int32)
      · refine jx_tabIn (pc := 33) (tgt := 770) dL_law_33 19 (by rw [d19]; rfl) (by decide) (by decide) rfl (by decide) ?_
        exact lw_case_game l hL hok R hops hi6 hce5 hsl5 hk t σl σm hR
      by_cases d20 : y = (20 : Int32)
      · refine jx_tabIn (pc := 33) (tgt := 813) dL_law_33 20 (by rw [d20]; rfl) (by decide) (by decide) rfl (by decide) ?_
        exact lw_case_see l hL hok R hops hi6 hce5 hsl5 hk t σl σm hR
      by_cases d21 : y = (21 : Int32)
      · refine jx_tabIn (pc := 33) (tgt := 846) dL_law_33 21 (by rw [d21]; rfl) (by decide) (by decide) rfl (by decide) ?_
        exact lw_case_fits l hL hok R hops hi6 hce5 hsl5 hk t σl σm hR
      by_cases d22 : y = (22 : Int32)
      · refine jx_tabIn (pc := 33) (tgt := 869) dL_law_33 22 (by rw [d22]; rfl) (by decide) (by decide) rfl (by decide) ?_
        exact lw_case_fair l hL hok R hops hi6 hce5 hsl5 hk t σl σm hR
      by_cases d23 : y = (23 : Int32)
      · refine jx_tabIn (pc := 33) (tgt := 892) dL_law_33 23 (by rw [d23]; rfl) (by decide) (by decide) rfl (by decide) ?_
        exact lw_case_tale l hL hok R hops hi6 hce5 hsl5 hk t σl σm hR
      by_cases d24 : y = (24 : Int32)
      · refine jx_tabIn (pc := 33) (tgt := 935) dL_law_33 24 (by rw [d24]; rfl) (by decide) (by decide) rfl (by decide) ?_
        exact lw_case_looked l hL hok R hops hi6 hce5 hsl5 hk t σl σm hR
      by_cases d25 : y = (25 : Int32)
      · refine jx_tabIn (pc := 33) (tgt := 948) dL_law_33 25 (by rw [d25]; rfl) (by decide) (by decide) rfl (by decide) ?_
        exact lw_case_act l hL hok R hops hi6 hce5 hsl5 hk t σl σm hR
      by_cases d26 : y = (26 : Int32)
      · refine jx_tabIn (pc := 33) (tgt := 991) dL_law_33 26 (by rw [d26]; rfl) (by decide) (by decide) rfl (by decide) ?_
        exact lw_case_trace l hL hok R hops hi6 hce5 hsl5 hk t σl σm hR
      by_cases d27 : y = (27 : Int32)
      · refine jx_tabIn (pc := 33) (tgt := 1014) dL_law_33 27 (by rw [d27]; rfl) (by decide) (by decide) rfl (by decide) ?_
        exact lw_case_as l hL hok R hops hi6 hce5 hsl5 hk t σl σm hR
      by_cases d28 : y = (28 : Int32)
      · refine jx_tabIn (pc := 33) (tgt := 1047) dL_law_33 28 (by rw [d28]; rfl) (by decide) (by decide) rfl (by decide) ?_
        exact lw_case_image l hL hok R hops hi6 hce5 hsl5 hk t σl σm hR
      by_cases d29 : y = (29 : Int32)
      · refine jx_tabIn (pc := 33) (tgt := 1060) dL_law_33 29 (by rw [d29]; rfl) (by decide) (by decide) rfl (by decide) ?_
        exact lw_case_undo l hL hok R hops hi6 hce5 hsl5 hk t σl σm hR
      by_cases d30 : y = (30 : Int32)
      · refine jx_tabIn (pc := 33) (tgt := 1073) dL_law_33 30 (by rw [d30]; rfl) (by decide) (by decide) rfl (by decide) ?_
        exact lw_case_count l hL hok R hops hi6 hce5 hsl5 hk t σl σm hR
      refine jx_tabOut (pc := 33) (tgt := 1096) dL_law_33 (by have z0 := lv_neT d0 (show (0 : Int32).toInt = 0 from rfl); have z1 := lv_neT d1 (show (1 : Int32).toInt = 1 from rfl); have z2 := lv_neT d2 (show (2 : Int32).toInt = 2 from rfl); have z3 := lv_neT d3 (show (3 : Int32).toInt = 3 from rfl); have z4 := lv_neT d4 (show (4 : Int32).toInt = 4 from rfl); have z5 := lv_neT d5 (show (5 : Int32).toInt = 5 from rfl); have z6 := lv_neT d6 (show (6 : Int32).toInt = 6 from rfl); have z7 := lv_neT d7 (show (7 : Int32).toInt = 7 from rfl); have z8 := lv_neT d8 (show (8 : Int32).toInt = 8 from rfl); have z9 := lv_neT d9 (show (9 : Int32).toInt = 9 from rfl); have z10 := lv_neT d10 (show (10 : Int32).toInt = 10 from rfl); have z11 := lv_neT d11 (show (11 : Int32).toInt = 11 from rfl); have z12 := lv_neT d12 (show (12 : Int32).toInt = 12 from rfl); have z13 := lv_neT d13 (show (13 : Int32).toInt = 13 from rfl); have z14 := lv_neT d14 (show (14 : Int32).toInt = 14 from rfl); have z15 := lv_neT d15 (show (15 : Int32).toInt = 15 from rfl); have z16 := lv_neT d16 (show (16 : Int32).toInt = 16 from rfl); have z17 := lv_neT d17 (show (17 : Int32).toInt = 17 from rfl); have z18 := lv_neT d18 (show (18 : Int32).toInt = 18 from rfl); have z19 := lv_neT d19 (show (19 : Int32).toInt = 19 from rfl); have z20 := lv_neT d20 (show (20 : Int32).toInt = 20 from rfl); have z21 := lv_neT d21 (show (21 : Int32).toInt = 21 from rfl); have z22 := lv_neT d22 (show (22 : Int32).toInt = 22 from rfl); have z23 := lv_neT d23 (show (23 : Int32).toInt = 23 from rfl); have z24 := lv_neT d24 (show (24 : Int32).toInt = 24 from rfl); have z25 := lv_neT d25 (show (25 : Int32).toInt = 25 from rfl); have z26 := lv_neT d26 (show (26 : Int32).toInt = 26 from rfl); have z27 := lv_neT d27 (show (27 : Int32).toInt = 27 from rfl); have z28 := lv_neT d28 (show (28 : Int32).toInt = 28 from rfl); have z29 := lv_neT d29 (show (29 : Int32).toInt = 29 from rfl); have z30 := lv_neT d30 (show (30 : Int32).toInt = 30 from rfl); omega) (by decide) ?_
      exact lw_widen (Nat.le_add_right _ 5) (Nat.le_add_right _ 404) (hk t σl σm hR)
