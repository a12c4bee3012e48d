/-! ===== land, days: where a sign begins ===== -/
theorem uI_id {M : KM} {a k : Nat} : uI M a k (M.1 a k) = M := by
  refine Prod.ext ?_ rfl
  funext d i
  by_cases e : d = a ∧ i = k
  · rw [e.1, e.2, uI_s]
  · rw [uI_o e]
/-- over spaces and line ends, k bytes at most -/
def skB (T : Int → Int) (E : Int) : Nat → Int → Int
  | 0, p => p
  | k + 1, p => if p < E ∧ (T p = 32 ∨ T p = 10) then skB T E k (p + 1) else p
theorem skB_r {T : Int → Int} {E : Int} : ∀ (k : Nat) (p : Int), p ≤ E → p ≤ skB T E k p ∧ skB T E k p ≤ E := by
  intro k
  induction k with
  | zero => intro p h; exact ⟨Int.le_refl _, h⟩
  | succ k ih =>
    intro p h
    simp only [skB]
    by_cases w : p < E ∧ (T p = 32 ∨ T p = 10)
    · rw [if_pos w]
      have := ih (p + 1) (by omega)
      omega
    · rw [if_neg w]; omega
theorem m_skip {T : Int → Int} {E : Int} {κ : KM → Option KM} (h1 : 0 ≤ E) (h2 : E ≤ 900) : ∀ (k : Nat) (p : Int) (X : KM) (n : Nat), X.1 227 9 = zI E → (∀ z, 0 ≤ z → z < 900 → X.1 231 z.toNat = zI (T z) ∧ -128 ≤ T z ∧ T z < 128) → X.1 227 15 = zI p → 0 ≤ p → p ≤ E → E - p ≤ k → k < n → lp_X12_advance_8 n 227 X κ = κ (uI X 227 15 (zI (skB T E k p))) := by
  intro k
  induction k with
  | zero =>
    intro p X n h9 hT h15 p1 p2 hk hn
    obtain ⟨n, rfl⟩ : ∃ m, n = m + 1 := ⟨n - 1, by omega⟩
    have e : uI X 227 15 (zI p) = X := by rw [← h15]; exact uI_id
    rw [lp_X12_advance_8]
    simp (disch := first | omega | assumption) only [h9, h15, zleT, if_true, skB, e]
  | succ k ih =>
    intro p X n h9 hT h15 p1 p2 hk hn
    obtain ⟨n, rfl⟩ : ∃ m, n = m + 1 := ⟨n - 1, by omega⟩
    have e : uI X 227 15 (zI p) = X := by rw [← h15]; exact uI_id
    rw [lp_X12_advance_8]
    by_cases w : p < E
    · have lk := m_look2 (n := n) h9 hT h1 h2 p1 (by omega)
      have t := (hT p p1 (by omega)).2
      have by0 : byB T E p = T p % 256 := if_pos w
      rw [by0] at lk
      by_cases v : T p = 32 ∨ T p = 10
      · have e2 := ih (p + 1) (uI X 227 15 (zI (p + 1))) n (by rw [uI_o (by omega)]; exact h9) (fun z u v => by rw [uI_o (by omega)]; exact hT z u v) uI_s (by omega) (by omega) (by omega) (by omega)
        rw [uI_tw] at e2
        rw [show skB T E (k + 1) p = skB T E k (p + 1) from if_pos ⟨w, v⟩]
        rcases v with v | v
        · rw [v] at lk
          simp (disch := first | omega | assumption) only [↓lt, zl, h9, h15, zleF, if_false, lk, Option.bind_some, zeqF, zeqT, if_true, Int.reduceMod, zadd]
          exact e2
        · rw [v] at lk
          simp (disch := first | omega | assumption) only [↓lt, zl, h9, h15, zleF, if_false, lk, Option.bind_some, zeqF, zeqT, if_true, Int.reduceMod, zadd]
          exact e2
      · have d1 : ¬ T p % 256 = 32 := by omega
        have d2 : ¬ T p % 256 = 10 := by omega
        have d3 : 0 ≤ T p % 256 ∧ T p % 256 < 256 := by omega
        rw [show skB T E (k + 1) p = p from if_neg (fun z => v z.2), e]
        generalize T p % 256 = B at *
        simp (disch := first | omega | assumption) only [↓lt, zl, h9, h15, zleF, if_false, lk, Option.bind_some, zeqF]
    · rw [show skB T E (k + 1) p = p from if_neg (fun z => w z.1), e]
      simp (disch := first | omega | assumption) only [h9, h15, zleT, if_true]
