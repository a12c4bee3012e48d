/-! ===== land, days: what a sign is in both ===== -/
theorem wo_stop {T : Int → Int} {E s : Int} : ∀ (k : Nat) (p v w : Int), (woB T E s k p v).1 = p → (wmB T E s k p w).2 = w := by
  intro k p v w h
  cases k with
  | zero => rfl
  | succ k =>
    simp only [woB, wmB] at h ⊢
    by_cases q : p < E ∧ 97 ≤ T p ∧ T p ≤ 122
    · rw [if_pos q] at h
      have := wo_le (T := T) (E := E) (s := s) k (p + 1) (if 8 ≤ p - s then v else v * 32 + T p - 96)
      omega
    · rw [if_neg q]
theorem wm_3 {T : Int → Int} {E s : Int} : ∀ (k : Nat) (p v w : Int), p < (woB T E s k p v).1 → 8 < (woB T E s k p v).1 - s → (wmB T E s k p w).2 = -1 := by
  intro k
  induction k with
  | zero => intro p v w h1 h2; exact absurd h1 (Int.lt_irrefl _)
  | succ k ih =>
    intro p v w h1 h2
    by_cases q : p < E ∧ 97 ≤ T p ∧ T p ≤ 122
    · rw [show woB T E s (k + 1) p v = woB T E s k (p + 1) (if 8 ≤ p - s then v else v * 32 + T p - 96) from if_pos q] at h1 h2
      rw [show wmB T E s (k + 1) p w = wmB T E s k (p + 1) (if 8 ≤ p - s then -1 else w * 32 + T p - 96) from if_pos q]
      have l := wo_le (T := T) (E := E) (s := s) k (p + 1) (if 8 ≤ p - s then v else v * 32 + T p - 96)
      by_cases e : (woB T E s k (p + 1) (if 8 ≤ p - s then v else v * 32 + T p - 96)).1 = p + 1
      · rw [wo_stop _ _ _ _ e, if_pos (by omega)]
      · exact ih (p + 1) _ _ (by omega) h2
    · rw [show woB T E s (k + 1) p v = (p, v) from if_neg q] at h1
      exact absurd h1 (Int.lt_irrefl _)
theorem wo_E {T : Int → Int} {E s : Int} : ∀ (k : Nat) (p v : Int), p ≤ E → (woB T E s k p v).1 ≤ E := by
  intro k
  induction k with
  | zero => intro p v h; exact h
  | succ k ih =>
    intro p v h
    by_cases q : p < E ∧ 97 ≤ T p ∧ T p ≤ 122
    · rw [show woB T E s (k + 1) p v = woB T E s k (p + 1) (if 8 ≤ p - s then v else v * 32 + T p - 96) from if_pos q]
      exact ih _ _ (by omega)
    · rw [show woB T E s (k + 1) p v = (p, v) from if_neg q]; exact h
theorem wo_hi {T : Int → Int} {E s : Int} : ∀ (k : Nat) (p v : Int), s ≤ p → 0 ≤ v → 0 ≤ (woB T E s k p v).2 ∧ (woB T E s k p v).2 + 1 ≤ (v + 1) * 32 ^ (8 - (p - s)).toNat := by
  have one : ∀ d : Nat, (1 : Int) ≤ 32 ^ d := fun d => by
    have := Int.pow_pos (n := (32 : Int)) (m := d) (by omega)
    omega
  intro k
  induction k with
  | zero =>
    intro p v h1 h2
    refine ⟨h2, ?_⟩
    show v + 1 ≤ _
    have := Int.mul_le_mul_of_nonneg_left (one (8 - (p - s)).toNat) (show 0 ≤ v + 1 by omega)
    omega
  | succ k ih =>
    intro p v h1 h2
    by_cases q : p < E ∧ 97 ≤ T p ∧ T p ≤ 122
    · by_cases e : 8 ≤ p - s
      · rw [show woB T E s (k + 1) p v = woB T E s k (p + 1) v by simp only [woB]; rw [if_pos q, if_pos e]]
        have i := ih (p + 1) v (by omega) h2
        rw [show (8 - (p + 1 - s)).toNat = (8 - (p - s)).toNat by omega] at i
        exact i
      · rw [show woB T E s (k + 1) p v = woB T E s k (p + 1) (v * 32 + T p - 96) by simp only [woB]; rw [if_pos q, if_neg e]]
        have i := ih (p + 1) (v * 32 + T p - 96) (by omega) (by omega)
        refine ⟨i.1, Int.le_trans i.2 ?_⟩
        rw [show (8 - (p - s)).toNat = (8 - (p + 1 - s)).toNat + 1 by omega, Int.pow_succ]
        have o := one (8 - (p + 1 - s)).toNat
        have := Int.mul_le_mul_of_nonneg_right (show v * 32 + T p - 96 + 1 ≤ (v + 1) * 32 by omega) (show (0 : Int) ≤ 32 ^ (8 - (p + 1 - s)).toNat by omega)
        rw [Int.mul_comm (32 ^ (8 - (p + 1 - s)).toNat) 32, ← Int.mul_assoc]
        exact this
    · rw [show woB T E s (k + 1) p v = (p, v) from if_neg q]
      refine ⟨h2, ?_⟩
      show v + 1 ≤ _
      have := Int.mul_le_mul_of_nonneg_left (one (8 - (p - s)).toNat) (show 0 ≤ v + 1 by omega)
      omega
theorem wo_lo {T : Int → Int} {E s : Int} : ∀ (k : Nat) (p v : Int), 0 < v → 0 < (woB T E s k p v).2 := by
  intro k
  induction k with
  | zero => intro p v h; exact h
  | succ k ih =>
    intro p v h
    by_cases q : p < E ∧ 97 ≤ T p ∧ T p ≤ 122
    · rw [show woB T E s (k + 1) p v = woB T E s k (p + 1) (if 8 ≤ p - s then v else v * 32 + T p - 96) from if_pos q]
      refine ih _ _ ?_
      by_cases e : 8 ≤ p - s
      · rw [if_pos e]; exact h
      · rw [if_neg e]; omega
    · rw [show woB T E s (k + 1) p v = (p, v) from if_neg q]; exact h
/-- a word of one letter at least -/
theorem wo_1 {T : Int → Int} {E s : Int} {k : Nat} (h : s < E) (h1 : 97 ≤ T s) (h2 : T s ≤ 122) : s < (woB T E s (k + 1) s 0).1 ∧ 0 < (woB T E s (k + 1) s 0).2 ∧ (woB T E s (k + 1) s 0).2 < 1099511627776 ∧ (woB T E s (k + 1) s 0).1 ≤ E := by
  have a := wo_hi (T := T) (E := E) (s := s) (k + 1) s 0 (by omega) (by omega)
  rw [show (8 - (s - s)).toNat = 8 by omega] at a
  have b := wo_E (T := T) (E := E) (s := s) (k + 1) s 0 (by omega)
  have e : woB T E s (k + 1) s 0 = woB T E s k (s + 1) (T s - 96) := by
    rw [show woB T E s (k + 1) s 0 = woB T E s k (s + 1) (if 8 ≤ s - s then 0 else 0 * 32 + T s - 96) from if_pos ⟨h, h1, h2⟩, if_neg (by omega), show 0 * 32 + T s - 96 = T s - 96 by omega]
  have c := wo_le (T := T) (E := E) (s := s) k (s + 1) (T s - 96)
  have d := wo_lo (T := T) (E := E) (s := s) k (s + 1) (T s - 96) (by omega)
  rw [← e] at c d
  have n8 : (0 + 1 : Int) * 32 ^ 8 = 1099511627776 := by decide
  rw [n8] at a
  omega
theorem nu_r {T : Int → Int} {E s : Int} : ∀ (k : Nat) (p v : Int), s ≤ p → p ≤ E → 0 ≤ v → 0 ≤ (nuB T E s k p v).2 ∧ (nuB T E s k p v).2 + 1 ≤ (v + 1) * 10 ^ (4 - (p - s)).toNat ∧ p ≤ (nuB T E s k p v).1 ∧ (nuB T E s k p v).1 ≤ E := by
  have one : ∀ d : Nat, (1 : Int) ≤ 10 ^ d := fun d => by
    have := Int.pow_pos (n := (10 : Int)) (m := d) (by omega)
    omega
  intro k
  induction k with
  | zero =>
    intro p v h1 h3 h2
    refine ⟨h2, ?_, Int.le_refl _, h3⟩
    show v + 1 ≤ _
    have := Int.mul_le_mul_of_nonneg_left (one (4 - (p - s)).toNat) (show 0 ≤ v + 1 by omega)
    omega
  | succ k ih =>
    intro p v h1 h3 h2
    by_cases q : p < E ∧ 48 ≤ T p ∧ T p ≤ 57
    · by_cases e : 4 ≤ p - s
      · rw [show nuB T E s (k + 1) p v = nuB T E s k (p + 1) v by simp only [nuB]; rw [if_pos q, if_pos e]]
        have i := ih (p + 1) v (by omega) (by omega) h2
        rw [show (4 - (p + 1 - s)).toNat = (4 - (p - s)).toNat by omega] at i
        exact ⟨i.1, i.2.1, by omega, i.2.2.2⟩
      · rw [show nuB T E s (k + 1) p v = nuB T E s k (p + 1) (v * 10 + T p - 48) by simp only [nuB]; rw [if_pos q, if_neg e]]
        have i := ih (p + 1) (v * 10 + T p - 48) (by omega) (by omega) (by omega)
        refine ⟨i.1, Int.le_trans i.2.1 ?_, by omega, i.2.2.2⟩
        rw [show (4 - (p - s)).toNat = (4 - (p + 1 - s)).toNat + 1 by omega, Int.pow_succ]
        have o := one (4 - (p + 1 - s)).toNat
        have := Int.mul_le_mul_of_nonneg_right (show v * 10 + T p - 48 + 1 ≤ (v + 1) * 10 by omega) (show (0 : Int) ≤ 10 ^ (4 - (p + 1 - s)).toNat by omega)
        rw [Int.mul_comm (10 ^ (4 - (p + 1 - s)).toNat) 10, ← Int.mul_assoc]
        exact this
    · rw [show nuB T E s (k + 1) p v = (p, v) from if_neg q]
      refine ⟨h2, ?_, Int.le_refl _, h3⟩
      show v + 1 ≤ _
      have := Int.mul_le_mul_of_nonneg_left (one (4 - (p - s)).toNat) (show 0 ≤ v + 1 by omega)
      omega
theorem nu_1 {T : Int → Int} {E s : Int} {k : Nat} (h : s < E) (h1 : 48 ≤ T s) (h2 : T s ≤ 57) : s < (nuB T E s (k + 1) s 0).1 ∧ 0 ≤ (nuB T E s (k + 1) s 0).2 ∧ (nuB T E s (k + 1) s 0).2 ≤ 9999 ∧ (nuB T E s (k + 1) s 0).1 ≤ E := by
  have a := nu_r (T := T) (E := E) (s := s) (k + 1) s 0 (by omega) (by omega) (by omega)
  rw [show (4 - (s - s)).toNat = 4 by omega] at a
  have e : nuB T E s (k + 1) s 0 = nuB T E s k (s + 1) (T s - 48) := by
    rw [show nuB T E s (k + 1) s 0 = nuB T E s k (s + 1) (if 4 ≤ s - s then 0 else 0 * 10 + T s - 48) from if_pos ⟨h, h1, h2⟩, if_neg (by omega), show 0 * 10 + T s - 48 = T s - 48 by omega]
  have c := nu_r (T := T) (E := E) (s := s) k (s + 1) (T s - 48) (by omega) (by omega) (by omega)
  rw [← e] at c
  have n8 : (0 + 1 : Int) * 10 ^ 4 = 10000 := by decide
  rw [n8] at a
  omega

