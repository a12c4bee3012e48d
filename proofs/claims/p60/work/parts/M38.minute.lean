/-! ===== one minute of the reference, as a whole ===== -/
theorem loop_st {α β : Type} {lp : Nat → Int32 → α → Option β} (S : Int → α) {fin : Option β} {N : Nat} {R : Int} (h1 : ∀ n i, N ≤ n → 0 ≤ i → i < R → lp (n + 1) (zI i) (S i) = lp n (zI (i + 1)) (S (i + 1))) (h0 : ∀ n, N ≤ n → lp (n + 1) (zI R) (S R) = fin) : ∀ (k : Nat) (i : Int) (n : Nat), 0 ≤ i → i + k = R → N + k < n → lp n (zI i) (S i) = fin := by
  intro k
  induction k with
  | zero =>
    intro i n hi he hn
    obtain ⟨m, rfl⟩ : ∃ m, n = m + 1 := ⟨n - 1, by omega⟩
    have e : i = R := by omega
    subst e
    exact h0 m (by omega)
  | succ k ih =>
    intro i n hi he hn
    obtain ⟨m, rfl⟩ : ∃ m, n = m + 1 := ⟨n - 1, by omega⟩
    rw [h1 m i (by omega) hi (by omega)]
    exact ih (i + 1) m (by omega) (by omega) (by omega)
def AG (b : Int → Int) : Int → Bool := fun q => decide (0 ≤ q ∧ q < b 2 ∧ 0 ≤ b (66 + q))
def A0 (b : Int → Int) (p : Int) : Int → Bool := fun q => decide (0 ≤ q ∧ q < b 2 ∧ 0 ≤ b (66 + q) ∧ wkB b q < p)
def A1 (b : Int → Int) (p j : Int) : Int → Bool := fun q => decide (0 ≤ q ∧ q < b 2 ∧ 0 ≤ b (66 + q) ∧ (wkB b q < p ∨ (wkB b q = p ∧ ¬ q = p ∧ q < j)))
theorem wk_l {b : Int → Int} {q : Int} (h : 0 ≤ b (82 + q)) : wkB b q = b (82 + q) := if_pos h
theorem wk_s {b : Int → Int} {q : Int} (h : ¬ 0 ≤ b (82 + q)) : wkB b q = q := if_neg h
theorem wk_r {b : Int → Int} {q : Int} (hb : WB b) (h1 : 0 ≤ q) (h2 : q < b 2) : 0 ≤ wkB b q ∧ wkB b q < b 2 := by
  have e := WPb hb h1 h2
  by_cases w : 0 ≤ b (82 + q)
  · rw [wk_l w]; omega
  · rw [wk_s w]; omega
/-- who is led: all that he has of his leader -/
theorem led_of {b : Int → Int} {q p : Int} (hb : WB b) (h1 : 0 ≤ q) (h2 : q < b 2) (hp : 0 ≤ p) (h : b (82 + q) = p) : p < b 2 ∧ ¬ p = q ∧ 0 ≤ b (66 + q) ∧ b (66 + p) = b (66 + q) ∧ b (82 + p) = -1 ∧ b (122 + p) = b (122 + q) ∧ b (74 + p) = b (74 + q) ∧ b (114 + p) = b (114 + q) ∧ wkB b q = p ∧ wkB b p = p ∧ (caB b p ↔ caB b q) ∧ (thB b p ↔ thB b q) := by
  have e := WPb hb h1 h2
  have e4 := hb.2.2.2.2.2 q h1 h2
  unfold WL at e4
  have e5 := e4.resolve_left (by omega)
  rw [h] at e5
  obtain ⟨a1, a2, a3, a4, a5, a6, a7⟩ := e5
  have w1 : wkB b q = p := by rw [wk_l (by omega)]; exact h
  have w2 : wkB b p = p := wk_s (by omega)
  have c : caB b p ↔ caB b q := by
    show canB b (wkB b p) (b (122 + p)) (glB b (b 5)) ↔ canB b (wkB b q) (b (122 + q)) (glB b (b 5))
    rw [w1, w2, a5]
  refine ⟨by omega, a1, a2, a3, a4, a5, a6, a7, w1, w2, c, ?_⟩
  show caB b p ∧ b (74 + p) = 1 ↔ caB b q ∧ b (74 + q) = 1
  rw [c, a6]
theorem WG_bM {b : Int → Int} {A : Int → Bool} (hb : WB b) : WG (bM b A) := by
  intro p r h1 h2 h3 h4
  have e := hb.2.2.2.1 p r h1 h2 h3 h4
  rw [bM_g h1 h2 h3 h4]
  by_cases w : A p = true ∧ thB b p ∧ r = b (122 + p)
  · rw [if_pos w]
    unfold mn99
    by_cases v : b (130 + 12 * p + r) + 1 < 99
    · rw [if_pos v]; omega
    · rw [if_neg v]; omega
  · rw [if_neg w]; exact e
/-- those of the block that a minute leaves -/
theorem bM_keep {b : Int → Int} {A : Int → Bool} {q : Int} (h1 : 0 ≤ q) (h2 : q < 8) (j : Int) (h3 : 5 ≤ j) (h4 : j < 9) : bM b A (58 + 8 * j + q) = b (58 + 8 * j + q) := by
  rw [bM_f h1 h2 (by omega) h4]
  by_cases w : A q = true
  · rw [if_pos w]
    unfold colF
    rw [if_neg (show ¬ j = 0 by omega), if_neg (show ¬ j = 1 by omega), if_neg (show ¬ j = 2 by omega), if_neg (show ¬ j = 2 by omega), if_neg (show ¬ j = 3 by omega), if_neg (show ¬ j = 4 by omega)]
    simp only [ite_self]
  · rw [if_neg w]
