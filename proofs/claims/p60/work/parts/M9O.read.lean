/-! ===== land, days: a number, in the class ===== -/
theorem c_digits {T : Int → Int} {E s : Int} {a : Nat} {κ : KM → Option KM} (ha : a = 5 ∨ a = 8) (h1 : 0 ≤ E) (h2 : E ≤ 900) (hs : 0 ≤ s) : ∀ (k : Nat) (p v : Int) (M : KM) (n : Nat), M.2.2 a 1 = 2 → M.1 a 2 = zI E → (∀ z, 0 ≤ z → z < 900 → M.1 2 z.toNat = zI (T z) ∧ -128 ≤ T z ∧ T z < 128) → M.1 a 10 = zI s → M.1 a 3 = zI p → M.1 a 8 = zI v → s ≤ p → p ≤ E → E - p ≤ k → k < n → lp_X9_scanNumber_0 n a M κ = κ (uI (uI M a 8 (zI (nuB T E s k p v).2)) a 3 (zI (nuB T E s k p v).1)) := by
  intro k
  induction k with
  | zero =>
    intro p v M n hr hE hT h10 h3 h8 p1 p2 hk hn
    obtain ⟨n, rfl⟩ : ∃ m, n = m + 1 := ⟨n - 1, by omega⟩
    have e : uI (uI M a 8 (zI v)) a 3 (zI p) = M := by rw [← h8, uI_id, ← h3, uI_id]
    rw [lp_X9_scanNumber_0]
    simp (disch := first | omega | assumption) only [hE, h3, zleT, if_true, nuB, e]
  | succ k ih =>
    intro p v M n hr hE hT h10 h3 h8 p1 p2 hk hn
    obtain ⟨n, rfl⟩ : ∃ m, n = m + 1 := ⟨n - 1, by omega⟩
    have e : uI (uI M a 8 (zI v)) a 3 (zI p) = M := by rw [← h8, uI_id, ← h3, uI_id]
    by_cases q0 : p < E
    · have t := hT p (by omega) (by omega)
      have t1 := t.1
      have t2 := t.2
      by_cases w : 48 ≤ T p ∧ T p ≤ 57
      · have st : ∀ v1 : Int, (nuB T E s (k + 1) p v = nuB T E s k (p + 1) v1) → lp_X9_scanNumber_0 n a (uI (uI M a 8 (zI v1)) a 3 (zI (p + 1))) κ = κ (uI (uI M a 8 (zI (nuB T E s (k + 1) p v).2)) a 3 (zI (nuB T E s (k + 1) p v).1)) := fun v1 hv => by
          have i := ih (p + 1) v1 (uI (uI M a 8 (zI v1)) a 3 (zI (p + 1))) n hr (by rw [uI_o (by omega), uI_o (by omega)]; exact hE) (fun z u v => by rw [uI_o (by omega), uI_o (by omega)]; exact hT z u v) (by rw [uI_o (by omega), uI_o (by omega)]; exact h10) uI_s (by rw [uI_o (by omega), uI_s]) (by omega) (by omega) (by omega) (by omega)
          rw [i, uI_4 (by decide), hv]
        rw [lp_X9_scanNumber_0]
        by_cases q : 4 ≤ p - s
        · have s1 := st v (by simp only [nuB]; rw [if_pos ⟨q0, w⟩, if_pos q])
          have e8 : uI M a 8 (zI v) = M := by rw [← h8, uI_id]
          rw [e8] at s1
          simp (disch := first | omega | assumption) only [↓lt, zl, hE, h3, h10, hr, tp900, zleF, if_false, ixT, zidx, t1, zltF, zsub, zleT, if_true, zadd]
          exact s1
        · have s1 := st (v * 10 + T p - 48) (by simp only [nuB]; rw [if_pos ⟨q0, w⟩, if_neg q])
          simp (disch := first | omega | assumption) only [↓lt, zl, hE, h3, h8, h10, hr, tp900, zleF, if_false, ixT, zidx, t1, zltF, zsub, if_true, zadd, zmul, uI_o]
          exact s1
      · rw [show nuB T E s (k + 1) p v = (p, v) from if_neg (fun z => w z.2), e, lp_X9_scanNumber_0]
        by_cases u : T p < 48
        · simp (disch := first | omega | assumption) only [↓lt, zl, hE, h3, hr, tp900, zleF, if_false, ixT, zidx, t1, zltT, if_true]
        · simp (disch := first | omega | assumption) only [↓lt, zl, hE, h3, hr, tp900, zleF, if_false, ixT, zidx, t1, zltT, zltF, if_true]
    · rw [show nuB T E s (k + 1) p v = (p, v) from if_neg (fun z => q0 z.1), e, lp_X9_scanNumber_0]
      simp (disch := first | omega | assumption) only [hE, h3, zleT, if_true]

