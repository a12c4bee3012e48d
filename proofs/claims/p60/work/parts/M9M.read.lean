/-! ===== land, days: where a sign begins, in the class ===== -/
theorem tp900 : ktl (kty 2) = 900 := by decide
theorem c_skip {T : Int → Int} {E : Int} {a : Nat} {κ : KM → Option KM} (ha : a = 5 ∨ a = 8) (h1 : 0 ≤ E) (h2 : E ≤ 900) : ∀ (k : Nat) (p : Int) (M : KM) (n : Nat), M.2.2 a 1 = 2 → M.1 a 2 = zI E → (∀ z, 0 ≤ z → z < 900 → M.1 2 z.toNat = zI (T z) ∧ -128 ≤ T z ∧ T z < 128) → M.1 a 3 = zI p → 0 ≤ p → p ≤ E → E - p ≤ k → k < n → lp_X9_advance_8 n a M κ = κ (uI M a 3 (zI (skB T E k p))) := by
  intro k
  induction k with
  | zero =>
    intro p M n hr hE hT h3 p1 p2 hk hn
    obtain ⟨n, rfl⟩ : ∃ m, n = m + 1 := ⟨n - 1, by omega⟩
    have e : uI M a 3 (zI p) = M := by rw [← h3]; exact uI_id
    rw [lp_X9_advance_8]
    simp (disch := first | omega | assumption) only [hE, h3, zleT, if_true, skB, e]
  | succ k ih =>
    intro p M n hr hE hT h3 p1 p2 hk hn
    obtain ⟨n, rfl⟩ : ∃ m, n = m + 1 := ⟨n - 1, by omega⟩
    have e : uI M a 3 (zI p) = M := by rw [← h3]; exact uI_id
    rw [lp_X9_advance_8]
    by_cases w : p < E
    · have t := hT p p1 (by omega)
      have t1 := t.1
      have t2 := t.2
      by_cases v : T p = 32 ∨ T p = 10
      · have e2 := ih (p + 1) (uI M a 3 (zI (p + 1))) n hr (by rw [uI_o (by omega)]; exact hE) (fun z u v => by rw [uI_o (by omega)]; exact hT z u v) uI_s (by omega) (by omega) (by omega) (by omega)
        rw [uI_tw] at e2
        rw [show skB T E (k + 1) p = skB T E k (p + 1) from if_pos ⟨w, v⟩]
        rcases v with v | v
        · rw [v] at t1
          simp (disch := first | omega | assumption) only [↓lt, zl, hE, h3, hr, tp900, zleF, if_false, ixT, zidx, t1, zeqF, zeqT, if_true, zadd]
          exact e2
        · rw [v] at t1
          simp (disch := first | omega | assumption) only [↓lt, zl, hE, h3, hr, tp900, zleF, if_false, ixT, zidx, t1, zeqF, zeqT, if_true, zadd]
          exact e2
      · have d1 : ¬ T p = 32 := by omega
        have d2 : ¬ T p = 10 := by omega
        rw [show skB T E (k + 1) p = p from if_neg (fun z => v z.2), e]
        generalize T p = B at *
        simp (disch := first | omega | assumption) only [↓lt, zl, hE, h3, hr, tp900, zleF, if_false, ixT, zidx, t1, zeqF, if_true]
    · rw [show skB T E (k + 1) p = p from if_neg (fun z => w z.1), e]
      simp (disch := first | omega | assumption) only [hE, h3, zleT, if_true]

