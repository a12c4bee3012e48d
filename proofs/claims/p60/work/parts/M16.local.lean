/-! ===== rounds in which each has only himself to change ===== -/
def gIf (T : Int → Bool) (U : (Int → Int → Int → Int) → Int → Int → Int → Int → Int) (i : Int) (g : Int → Int → Int → Int) : Int → Int → Int → Int := if T i = true then U g i else g
theorem fold_g {T : Int → Bool} {U : (Int → Int → Int → Int) → Int → Int → Int → Int → Int} (h1 : ∀ g g' i, (∀ j k, g i j k = g' i j k) → ∀ j k, U g i i j k = U g' i i j k) (h2 : ∀ g i q j k, ¬ q = i → U g i q j k = g q j k) : ∀ (k : Nat) (i : Int) (g : Int → Int → Int → Int) (q j l : Int), fI (gIf T U) k i g q j l = if i ≤ q ∧ q < i + k ∧ T q = true then U g q q j l else g q j l := by
  intro k
  induction k with
  | zero => intro i g q j l; rw [if_neg (by omega)]; rfl
  | succ k ih =>
    intro i g q j l
    simp only [fI]
    rw [ih]
    by_cases e : q = i
    · subst e
      rw [if_neg (by omega)]
      unfold gIf
      by_cases t : T q = true
      · rw [if_pos t, if_pos ⟨by omega, by omega, t⟩]
      · rw [if_neg t, if_neg (fun z => t z.2.2)]
    · have e1 : ∀ j k, gIf T U i g q j k = g q j k := fun j k => by
        unfold gIf
        by_cases t : T i = true
        · rw [if_pos t]; exact h2 g i q j k e
        · rw [if_neg t]
      by_cases t : i + 1 ≤ q ∧ q < i + 1 + k ∧ T q = true
      · rw [if_pos t, if_pos ⟨by omega, by omega, t.2.2⟩]
        exact h1 _ _ q e1 j l
      · rw [if_neg t, if_neg (fun z => t ⟨by omega, by omega, z.2.2⟩)]
        exact e1 j l
/-- whose cell it is; -1: nobody's -/
def own (z : Int) : Int := if 58 ≤ z ∧ z < 130 then (z - 58) % 8 else if 130 ≤ z ∧ z < 226 then (z - 130) / 12 else -1
def bIf (T : Int → Bool) (U : (Int → Int) → Int → Int → Int) (i : Int) (b : Int → Int) : Int → Int := if T i = true then U b i else b
theorem fold_b {T : Int → Bool} {U : (Int → Int) → Int → Int → Int} (h1 : ∀ b b' i, 0 ≤ i → i < 8 → (∀ z, own z = i ∨ ¬ (58 ≤ z ∧ z < 226) → b z = b' z) → ∀ z, own z = i → U b i z = U b' i z) (h2 : ∀ b i z, 0 ≤ i → i < 8 → ¬ own z = i → U b i z = b z) : ∀ (k : Nat) (i : Int) (b : Int → Int) (z : Int), 0 ≤ i → i + k ≤ 8 → fI (bIf T U) k i b z = if i ≤ own z ∧ own z < i + k ∧ T (own z) = true then U b (own z) z else b z := by
  intro k
  induction k with
  | zero => intro i b z _ _; rw [if_neg (by omega)]; rfl
  | succ k ih =>
    intro i b z hi hk
    simp only [fI]
    rw [ih _ _ _ (by omega) (by omega)]
    have e1 : ∀ z, ¬ own z = i → bIf T U i b z = b z := fun z e => by
      unfold bIf
      by_cases t : T i = true
      · rw [if_pos t]; exact h2 b i z hi (by omega) e
      · rw [if_neg t]
    by_cases e : own z = i
    · rw [e, if_neg (by omega)]
      unfold bIf
      by_cases t : T i = true
      · rw [if_pos t, if_pos ⟨by omega, by omega, t⟩]
      · rw [if_neg t, if_neg (fun z => t z.2.2)]
    · by_cases t : i + 1 ≤ own z ∧ own z < i + 1 + k ∧ T (own z) = true
      · rw [if_pos t, if_pos ⟨by omega, by omega, t.2.2⟩]
        refine h1 _ _ (own z) (by omega) (by omega) (fun y hy => e1 y (fun w => ?_)) z rfl
        rcases hy with hy | hy
        · omega
        · unfold own at w
          rw [if_neg (by omega), if_neg (by omega)] at w
          omega
      · rw [if_neg t, if_neg (fun z => t ⟨by omega, by omega, z.2.2⟩)]
        exact e1 z e
theorem own_f {q j : Int} (h1 : 0 ≤ q) (h2 : q < 8) (h3 : 0 ≤ j) (h4 : j < 9) : own (58 + 8 * j + q) = q := by
  unfold own; rw [if_pos (by omega)]; omega
theorem own_0 {q : Int} (h1 : 0 ≤ q) (h2 : q < 8) : own (58 + q) = q := by unfold own; rw [if_pos (by omega)]; omega
theorem own_1 {q : Int} (h1 : 0 ≤ q) (h2 : q < 8) : own (66 + q) = q := by unfold own; rw [if_pos (by omega)]; omega
theorem own_2 {q : Int} (h1 : 0 ≤ q) (h2 : q < 8) : own (74 + q) = q := by unfold own; rw [if_pos (by omega)]; omega
theorem own_3 {q : Int} (h1 : 0 ≤ q) (h2 : q < 8) : own (82 + q) = q := by unfold own; rw [if_pos (by omega)]; omega
theorem own_4 {q : Int} (h1 : 0 ≤ q) (h2 : q < 8) : own (90 + q) = q := by unfold own; rw [if_pos (by omega)]; omega
theorem own_5 {q : Int} (h1 : 0 ≤ q) (h2 : q < 8) : own (98 + q) = q := by unfold own; rw [if_pos (by omega)]; omega
theorem own_6 {q : Int} (h1 : 0 ≤ q) (h2 : q < 8) : own (106 + q) = q := by unfold own; rw [if_pos (by omega)]; omega
theorem own_7 {q : Int} (h1 : 0 ≤ q) (h2 : q < 8) : own (114 + q) = q := by unfold own; rw [if_pos (by omega)]; omega
theorem own_8 {q : Int} (h1 : 0 ≤ q) (h2 : q < 8) : own (122 + q) = q := by unfold own; rw [if_pos (by omega)]; omega
theorem own_g {q r : Int} (h1 : 0 ≤ q) (h2 : q < 8) (h3 : 0 ≤ r) (h4 : r < 12) : own (130 + 12 * q + r) = q := by unfold own; rw [if_neg (by omega), if_pos (by omega)]; omega
theorem own_n {z : Int} (h : ¬ (58 ≤ z ∧ z < 226)) : own z = -1 := by unfold own; rw [if_neg (by omega), if_neg (by omega)]
/-! ===== turn ===== -/
def stG (g : Int → Int → Int → Int) (i : Int) : Int → Int → Int → Int := gu (gu (gu (gu (gu (gu g i 0 5 (g i 0 7)) i 0 6 (-1)) i 0 7 (-1)) i 0 8 (-1)) i 0 9 (-1)) i 0 10 0
def stB (b : Int → Int) (i : Int) : Int → Int := bu (bu (bu (bu b (58 + i) (b (114 + i))) (66 + i) (-1)) (74 + i) 0) (82 + i) (-1)
theorem stG1 (g g' : Int → Int → Int → Int) (i : Int) (h : ∀ j k, g i j k = g' i j k) (j k : Int) : stG g i i j k = stG g' i i j k := by
  simp only [stG, gu, h]
theorem stG2 (g : Int → Int → Int → Int) (i q j k : Int) (h : ¬ q = i) : stG g i q j k = g q j k := by
  simp only [stG, gu, h, false_and, if_false]
theorem stB1 (b b' : Int → Int) (i : Int) (h1 : 0 ≤ i) (h2 : i < 8) (h : ∀ z, own z = i ∨ ¬ (58 ≤ z ∧ z < 226) → b z = b' z) (z : Int) (hz : own z = i) : stB b i z = stB b' i z := by
  simp only [stB, bu]
  rw [h z (Or.inl hz), h (114 + i) (Or.inl (own_7 h1 h2))]
theorem stB2 (b : Int → Int) (i z : Int) (h1 : 0 ≤ i) (h2 : i < 8) (h : ¬ own z = i) : stB b i z = b z := by
  unfold stB
  rw [bu_o (fun e => h (by rw [e]; exact own_3 h1 h2)), bu_o (fun e => h (by rw [e]; exact own_2 h1 h2)), bu_o (fun e => h (by rw [e]; exact own_1 h1 h2)), bu_o (fun e => h (by rw [e]; exact own_0 h1 h2))]

