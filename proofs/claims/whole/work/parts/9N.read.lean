/-! ===== land, days: a number ===== -/
theorem uI_4 {M : KM} {r i j : Nat} (h : ¬ i = j) {a b c d : Int32} : uI (uI (uI (uI M r i a) r j b) r i c) r j d = uI (uI M r i c) r j d := by
  refine Prod.ext ?_ rfl
  funext e l
  by_cases w : e = r ∧ l = j
  · rw [w.1, w.2, uI_s, uI_s]
  · rw [uI_o w, uI_o w]
    by_cases v : e = r ∧ l = i
    · rw [v.1, v.2, uI_s, uI_s]
    · rw [uI_o v, uI_o v, uI_o w, uI_o v]
/-- over digits: where they end, and the number of the first four -/
def nuB (T : Int → Int) (E s : Int) : Nat → Int → Int → Int × Int
  | 0, p, v => (p, v)
  | k + 1, p, v => if p < E ∧ 48 ≤ T p ∧ T p ≤ 57 then nuB T E s k (p + 1) (if 4 ≤ p - s then v else v * 10 + T p - 48) else (p, v)
theorem m_digits {T : Int → Int} {E s : Int} {κ : KM → Option KM} (h1 : 0 ≤ E) (h2 : E ≤ 900) (hs : 0 ≤ s) : ∀ (k : Nat) (p v : Int) (X : KM) (n : Nat), X.1 227 9 = zI E → (∀ z, 0 ≤ z → z < 900 → X.1 231 z.toNat = zI (T z) ∧ -128 ≤ T z ∧ T z < 128) → X.1 227 15 = zI s → X.1 227 16 = zI p → X.1 227 17 = zI v → s ≤ p → p ≤ E → E - p ≤ k → k < n → lp_X12_advance_210 n 227 X κ = κ (uI (uI X 227 17 (zI (nuB T E s k p v).2)) 227 16 (zI (nuB T E s k p v).1)) := by
  intro k
  induction k with
  | zero =>
    intro p v X n h9 hT h15 h16 h17 p1 p2 hk hn
    obtain ⟨n, rfl⟩ : ∃ m, n = m + 1 := ⟨n - 1, by omega⟩
    have e : uI (uI X 227 17 (zI v)) 227 16 (zI p) = X := by rw [← h17, uI_id, ← h16, uI_id]
    have lk := m_look2 (n := n) h9 hT h1 h2 (show 0 ≤ p by omega) (by omega)
    rw [show byB T E p = 0 from if_neg (by omega)] at lk
    have dg : f_X12_isDigit (zI 0) X = zI 0 := by rw [m_isDigit (by decide) (by decide), bIF (by decide)]
    rw [lp_X12_advance_210]
    simp (disch := first | omega | assumption) only [↓lt, zl, h16, lk, Option.bind_some, dg, zeqT, if_true, nuB, e]
  | succ k ih =>
    intro p v X n h9 hT h15 h16 h17 p1 p2 hk hn
    obtain ⟨n, rfl⟩ : ∃ m, n = m + 1 := ⟨n - 1, by omega⟩
    have e : uI (uI X 227 17 (zI v)) 227 16 (zI p) = X := by rw [← h17, uI_id, ← h16, uI_id]
    have lk := m_look2 (n := n) h9 hT h1 h2 (show 0 ≤ p by omega) (by omega)
    have br := byB_r (T := T) (E := E) (p := p)
    have dg := m_isDigit (M := X) br.1 br.2
    by_cases w : p < E ∧ 48 ≤ T p ∧ T p ≤ 57
    · have bp : byB T E p = T p := by
        rw [show byB T E p = T p % 256 from if_pos w.1]; omega
      rw [bp] at lk dg
      rw [bIT w.2] at dg
      have st : ∀ v1 : Int, (nuB T E s (k + 1) p v = nuB T E s k (p + 1) v1) → lp_X12_advance_210 n 227 (uI (uI X 227 17 (zI v1)) 227 16 (zI (p + 1))) κ = κ (uI (uI X 227 17 (zI (nuB T E s (k + 1) p v).2)) 227 16 (zI (nuB T E s (k + 1) p v).1)) := fun v1 hv => by
        have i := ih (p + 1) v1 (uI (uI X 227 17 (zI v1)) 227 16 (zI (p + 1))) n (by rw [uI_o (by omega), uI_o (by omega)]; exact h9) (fun z u v => by rw [uI_o (by omega), uI_o (by omega)]; exact hT z u v) (by rw [uI_o (by omega), uI_o (by omega)]; exact h15) uI_s (by rw [uI_o (by omega), uI_s]) (by omega) (by omega) (by omega) (by omega)
        rw [i, uI_4 (by decide), hv]
      rw [lp_X12_advance_210]
      by_cases q : 4 ≤ p - s
      · have s1 := st v (by simp only [nuB]; rw [if_pos w, if_pos q])
        have e17 : uI X 227 17 (zI v) = X := by rw [← h17, uI_id]
        rw [e17] at s1
        simp (disch := first | omega | assumption) only [↓lt, zl, h16, h15, lk, Option.bind_some, dg, zeqF, if_false, zsub, zleT, if_true, zadd]
        exact s1
      · have s1 := st (v * 10 + T p - 48) (by simp only [nuB]; rw [if_pos w, if_neg q])
        rw [show v * 10 + T p - 48 = 10 * v + T p - 48 by omega] at s1
        simp (disch := first | omega | assumption) only [↓lt, zl, h16, h15, h17, lk, Option.bind_some, dg, zeqF, if_false, zsub, zleF, zadd, zmul, uI_o]
        exact s1
    · have w2 : ¬ (48 ≤ byB T E p ∧ byB T E p ≤ 57) := by
        unfold byB
        by_cases q : p < E
        · rw [if_pos q]
          have t := (hT p (by omega) (by omega)).2
          omega
        · rw [if_neg q]; omega
      rw [bIF w2] at dg
      rw [show nuB T E s (k + 1) p v = (p, v) from if_neg w, e, lp_X12_advance_210]
      simp (disch := first | omega | assumption) only [↓lt, zl, h16, lk, Option.bind_some, dg, zeqT, if_true]
