/-! ===== land: one of the people, the class ===== -/
theorem c_zero30 {Q : Nat} {κ : KM → Option KM} : ∀ (k : Nat) (i : Int) (M : KM) (n : Nat), 0 ≤ i → i + k = 12 → k < n → ∃ N, lp_X7_begin_30 n Q (zI i) M κ = κ N ∧ N.2 = M.2 ∧ (∀ a (j : Nat), ¬ (a = Q + 1 ∧ i ≤ (j : Int)) → N.1 a j = M.1 a j) ∧ ∀ (j : Nat), i ≤ (j : Int) → j < 12 → N.1 (Q + 1) j = zI 0 := by
  intro k
  induction k with
  | zero =>
    intro i M n h1 h2 h3
    obtain ⟨n, rfl⟩ : ∃ m, n = m + 1 := ⟨n - 1, by omega⟩
    have : i = 12 := by omega
    subst this
    refine ⟨M, ?_, rfl, fun _ _ _ => rfl, fun j a b => by omega⟩
    rw [lp_X7_begin_30]
    simp (disch := first | omega | assumption) only [↓reduceIte, zl, zleT, if_true]
  | succ k ih =>
    intro i M n h1 h2 h3
    obtain ⟨n, rfl⟩ : ∃ m, n = m + 1 := ⟨n - 1, by omega⟩
    obtain ⟨N, e1, e2, e3, e4⟩ := ih (i + 1) (uI M (Q + 1) i.toNat (zI 0)) n (by omega) (by omega) (by omega)
    refine ⟨N, ?_, by rw [e2]; rfl, fun a j q => ?_, fun j a b => ?_⟩
    · rw [lp_X7_begin_30]
      simp (disch := first | omega | assumption) only [↓lt, ↓reduceIte, zl, zleF, if_false, ixT, zidx, if_true, zadd]
      exact e1
    · rw [e3 a j (by omega), uI_o (by omega)]
    · by_cases w : (j : Int) = i
      · rw [e3 _ j (by omega), show j = i.toNat by omega, uI_s]
      · exact e4 j (by omega) b
theorem c_zero54 {Q : Nat} : ∀ (k : Nat) (i : Int) (M : KM) (n : Nat), 0 ≤ i → i + k = 8 → k < n → ∃ N, lp_X7_begin_54 n Q (zI i) M = some N ∧ N.2 = M.2 ∧ (∀ a (j : Nat), ¬ (a = Q + 2 ∧ i ≤ (j : Int)) → N.1 a j = M.1 a j) ∧ ∀ (j : Nat), i ≤ (j : Int) → j < 8 → N.1 (Q + 2) j = zI 0 := by
  intro k
  induction k with
  | zero =>
    intro i M n h1 h2 h3
    obtain ⟨n, rfl⟩ : ∃ m, n = m + 1 := ⟨n - 1, by omega⟩
    have : i = 8 := by omega
    subst this
    refine ⟨M, ?_, rfl, fun _ _ _ => rfl, fun j a b => by omega⟩
    rw [lp_X7_begin_54]
    simp (disch := first | omega | assumption) only [↓reduceIte, zl, zleT, if_true]
  | succ k ih =>
    intro i M n h1 h2 h3
    obtain ⟨n, rfl⟩ : ∃ m, n = m + 1 := ⟨n - 1, by omega⟩
    obtain ⟨N, e1, e2, e3, e4⟩ := ih (i + 1) (uI M (Q + 2) i.toNat (zI 0)) n (by omega) (by omega) (by omega)
    refine ⟨N, ?_, by rw [e2]; rfl, fun a j q => ?_, fun j a b => ?_⟩
    · rw [lp_X7_begin_54]
      simp (disch := first | omega | assumption) only [↓lt, ↓reduceIte, zl, zleF, if_false, ixT, zidx, if_true, zadd]
      exact e1
    · rw [e3 a j (by omega), uI_o (by omega)]
    · by_cases w : (j : Int) = i
      · rw [e3 _ j (by omega), show j = i.toNat by omega, uI_s]
      · exact e4 j (by omega) b
theorem c_stay2 {Q : Nat} {p : Int32} {M : KM} : f_X7_stayAt Q p M = uI (uI (uI (uI (uI (uI M Q 5 p) Q 6 (zI (-1))) Q 7 (zI (-1))) Q 8 (zI (-1))) Q 9 (zI (-1))) Q 10 (zI 0) := rfl
theorem c_addPerson {M : KM} {S n : Nat} {w : Int64} {c q g x : Int} (h : M.1 S 10 = zI c) (c0 : 0 ≤ c) (c8 : c < 8) (q0 : q = 0 ∨ q = 1) (g0 : g = 0 ∨ g = 1) (hn : 1000 < n) :
    ∃ N, f_X2_addPerson n S w (zI q) (zI g) (zI x) M = some N ∧ N.2.2 = M.2.2 ∧ (∀ a k, ¬ (a = S + 14 + 3 * c.toNat ∧ k = 2) → N.2.1 a k = M.2.1 a k) ∧ N.2.1 (S + 14 + 3 * c.toNat) 2 = w ∧ (∀ a k, ¬ (a = S ∧ k = 10) → ¬ (S + 14 + 3 * c.toNat ≤ a ∧ a < S + 14 + 3 * c.toNat + 3) → N.1 a k = M.1 a k) ∧ N.1 S 10 = zI (c + 1) ∧
      N.1 (S + 14 + 3 * c.toNat) 3 = zI q ∧ N.1 (S + 14 + 3 * c.toNat) 4 = zI g ∧ N.1 (S + 14 + 3 * c.toNat) 5 = zI x ∧ N.1 (S + 14 + 3 * c.toNat) 6 = zI (-1) ∧ N.1 (S + 14 + 3 * c.toNat) 7 = zI (-1) ∧ N.1 (S + 14 + 3 * c.toNat) 8 = zI (-1) ∧ N.1 (S + 14 + 3 * c.toNat) 9 = zI (-1) ∧ N.1 (S + 14 + 3 * c.toNat) 10 = zI 0 ∧ N.1 (S + 14 + 3 * c.toNat) 11 = zI 0 ∧ (∀ r : Int, 0 ≤ r → r < 12 → N.1 (S + 14 + 3 * c.toNat + 1) r.toNat = zI 0) ∧ ∀ r : Int, 0 ≤ r → r < 8 → N.1 (S + 14 + 3 * c.toNat + 2) r.toNat = zI 0 := by
  generalize hQ : S + 14 + 3 * c.toNat = Q at *
  have e6 : S + 6 + 8 + 3 * c.toNat = Q := by omega
  have Q1 : S + 14 ≤ Q := by omega
  obtain ⟨N1, a1, a2, a3, a4⟩ := c_zero30 (Q := Q) (κ := fun M12 => lp_X7_begin_54 n Q (0 : Int32) M12) 12 0 (f_X7_stayAt Q (zI x) (uI (uI (uI (uJ M Q 2 w) Q 3 (zI q)) Q 4 (zI g)) Q 11 (zI 0))) n (by omega) (by omega) (by omega)
  obtain ⟨N2, b1, b2, b3, b4⟩ := c_zero54 (Q := Q) 8 0 N1 n (by omega) (by omega) (by omega)
  have bg : f_X7_begin n Q w (zI q) (zI g) (zI x) M = some N2 := by
    unfold f_X7_begin
    rw [lt, if_pos (by rcases q0 with q0 | q0 <;> rw [q0] <;> decide), lt, if_pos (by rcases g0 with g0 | g0 <;> rw [g0] <;> decide), lt, lt, lt]
    exact a1.trans b1
  have k10 : N2.1 S 10 = zI c := by
    rw [b3 _ _ (by omega), a3 _ _ (by omega), c_stay2, uI_o (by omega), uI_o (by omega), uI_o (by omega), uI_o (by omega), uI_o (by omega), uI_o (by omega), uI_o (by omega), uI_o (by omega), uI_o (by omega)]
    exact h
  have cell : ∀ k, k < 12 → N2.1 Q k = (f_X7_stayAt Q (zI x) (uI (uI (uI (uJ M Q 2 w) Q 3 (zI q)) Q 4 (zI g)) Q 11 (zI 0))).1 Q k := fun k hk => by
    rw [b3 _ _ (by omega), a3 _ _ (by omega)]
  refine ⟨uI N2 S 10 (zI (c + 1)), ?_, ?_, fun a k u => ?_, ?_, fun a k u v => ?_, uI_s, ?_, ?_, ?_, ?_, ?_, ?_, ?_, ?_, ?_, fun r u v => ?_, fun r u v => ?_⟩
  · unfold f_X2_addPerson
    simp (disch := first | omega | assumption) only [↓lt, ↓reduceIte, zl, h, zleF, if_false, ixT, zidx, if_true, e6, bg, Option.bind_some, k10, zadd]
  · show N2.2.2 = _
    rw [b2, a2]; rfl
  · show N2.2.1 a k = _
    rw [b2, a2]
    show (uJ M Q 2 w).2.1 a k = _
    rw [uJ_o u]
  · show N2.2.1 Q 2 = _
    rw [b2, a2]
    exact uJ_s
  · rw [uI_o u, b3 _ _ (by omega), a3 _ _ (by omega), c_stay2, uI_o (by omega), uI_o (by omega), uI_o (by omega), uI_o (by omega), uI_o (by omega), uI_o (by omega), uI_o (by omega), uI_o (by omega), uI_o (by omega)]
    rfl
  · rw [uI_o (by omega), cell _ (by omega), c_stay2, uI_o (by omega), uI_o (by omega), uI_o (by omega), uI_o (by omega), uI_o (by omega), uI_o (by omega), uI_o (by omega), uI_o (by omega), uI_s]
  · rw [uI_o (by omega), cell _ (by omega), c_stay2, uI_o (by omega), uI_o (by omega), uI_o (by omega), uI_o (by omega), uI_o (by omega), uI_o (by omega), uI_o (by omega), uI_s]
  · rw [uI_o (by omega), cell _ (by omega), c_stay2, uI_o (by omega), uI_o (by omega), uI_o (by omega), uI_o (by omega), uI_o (by omega), uI_s]
  · rw [uI_o (by omega), cell _ (by omega), c_stay2, uI_o (by omega), uI_o (by omega), uI_o (by omega), uI_o (by omega), uI_s]
  · rw [uI_o (by omega), cell _ (by omega), c_stay2, uI_o (by omega), uI_o (by omega), uI_o (by omega), uI_s]
  · rw [uI_o (by omega), cell _ (by omega), c_stay2, uI_o (by omega), uI_o (by omega), uI_s]
  · rw [uI_o (by omega), cell _ (by omega), c_stay2, uI_o (by omega), uI_s]
  · rw [uI_o (by omega), cell _ (by omega), c_stay2, uI_s]
  · rw [uI_o (by omega), cell _ (by omega), c_stay2, uI_o (by omega), uI_o (by omega), uI_o (by omega), uI_o (by omega), uI_o (by omega), uI_o (by omega), uI_s]
  · rw [uI_o (by omega), b3 _ _ (by omega)]
    exact a4 r.toNat (by omega) (by omega)
  · rw [uI_o (by omega)]
    exact b4 r.toNat (by omega) (by omega)
