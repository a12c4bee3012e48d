/-! ===== land, days: letters, in the reference ===== -/
/-- over letters: where they end, and the code, -1 past eight -/
def wmB (T : Int → Int) (E s : Int) : Nat → Int → Int → Int × Int
  | 0, p, v => (p, v)
  | k + 1, p, v => if p < E ∧ 97 ≤ T p ∧ T p ≤ 122 then wmB T E s k (p + 1) (if 8 ≤ p - s then -1 else v * 32 + T p - 96) else (p, v)
theorem wm_1 {T : Int → Int} {E s : Int} : ∀ (k : Nat) (p v w : Int), (wmB T E s k p v).1 = (woB T E s k p w).1 := by
  intro k
  induction k with
  | zero => intro p v w; rfl
  | succ k ih =>
    intro p v w
    simp only [wmB, woB]
    by_cases q : p < E ∧ 97 ≤ T p ∧ T p ≤ 122
    · rw [if_pos q, if_pos q]; exact ih _ _ _
    · rw [if_neg q, if_neg q]
theorem wo_le {T : Int → Int} {E s : Int} : ∀ (k : Nat) (p v : Int), p ≤ (woB T E s k p v).1 := by
  intro k
  induction k with
  | zero => intro p v; exact Int.le_refl _
  | succ k ih =>
    intro p v
    simp only [woB]
    by_cases q : p < E ∧ 97 ≤ T p ∧ T p ≤ 122
    · rw [if_pos q]
      have := ih (p + 1) (if 8 ≤ p - s then v else v * 32 + T p - 96)
      omega
    · rw [if_neg q]; exact Int.le_refl _
theorem wm_2 {T : Int → Int} {E s : Int} : ∀ (k : Nat) (p v : Int), (woB T E s k p v).1 - s ≤ 8 → (wmB T E s k p v).2 = (woB T E s k p v).2 := by
  intro k
  induction k with
  | zero => intro p v _; rfl
  | succ k ih =>
    intro p v h
    simp only [wmB, woB] at h ⊢
    by_cases q : p < E ∧ 97 ≤ T p ∧ T p ≤ 122
    · rw [if_pos q] at h
      rw [if_pos q, if_pos q]
      have := wo_le (T := T) (E := E) (s := s) k (p + 1) (if 8 ≤ p - s then v else v * 32 + T p - 96)
      have n8 : ¬ 8 ≤ p - s := by omega
      rw [if_neg n8] at h ⊢
      rw [if_neg n8]
      exact ih _ _ h
    · rw [if_neg q, if_neg q]

