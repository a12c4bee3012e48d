/-! ===== land, days: where a sign begins ===== -/
theorem uI_id {M : KM} {a k : Nat} : uI M a k (M.1 a k) = M := by
  refine Prod.ext ?_ rfl
  funext d i
  by_cases e : d = a ∧ i = k
  · rw [e.1, e.2, uI_s]
  · rw [uI_o e]
/-- over spaces and line ends, k bytes at most -/
def skB (T : Int → Int) (E : Int) : Nat → Int → Int
  | 0, p => p
  | k + 1, p => if p < E ∧ (T p = 32 ∨ T p = 10) then skB T E k (p + 1) else p
theorem skB_r {T : Int → Int} {E : Int} : ∀ (k : Nat) (p : Int), p ≤ E → p ≤ skB T E k p ∧ skB T E k p ≤ E := by
  intro k
  induction k with
  | zero => intro p h; exact ⟨Int.le_refl _, h⟩
  | succ k ih =>
    intro p h
    simp only [skB]
    by_cases w : p < E ∧ (T p = 32 ∨ T p = 10)
    · rw [if_pos w]
      have := ih (p + 1) (by omega)
      omega
    · rw [if_neg w]; omega
