/-! ===== the class's sum ===== -/
/-- choices, as the class reckons them; checked -/
def chF (N j : Int) : Nat → Int → Int → Int
  | 0, _, v => v
  | k + 1, i, v => chF N j k (i + 1) (v * (N - j + i) / i)
def chK (N j : Int) : Nat → Int → Int → Bool
  | 0, _, _ => true
  | k + 1, i, v => decide (0 ≤ v * (N - j + i) ∧ v * (N - j + i) < 1000000000000) && chK N j k (i + 1) (v * (N - j + i) / i)
theorem c_choices {N j : Int} {M : KM} (hN : 0 ≤ N ∧ N ≤ 12) (hj : 0 ≤ j ∧ j ≤ 12) : ∀ (k : Nat) (i v : Int) (n : Nat), 1 ≤ i → i + k = j + 1 → chK N j k i v = true → k < n → lp_X11_choices_5 n (zI N) (zI j) M (lI v) (zI i) = some (lI (chF N j k i v)) := by
  intro k
  induction k with
  | zero =>
    intro i v n h1 h2 h3 h4
    obtain ⟨m, rfl⟩ : ∃ m, n = m + 1 := ⟨n - 1, by omega⟩
    rw [lp_X11_choices_5]
    simp (disch := first | omega | assumption) only [↓lt, Option.bind_some, zl, ll, zadd, zsub, zmul, zneg, ladd, lsub, lmul, lneg, zltT, zltF, zleT, zleF, zeqT, zeqF, zidx, ixT, zwide, bIT, bIF, if_true, if_false, ↓reduceIte, Nat.reduceAdd, Int.reduceAdd, Int.reduceMul, Int.reduceSub, Int.reduceNeg, cs_c, cs_o, cs_2, cu_c, cu_o, Int.cast_ofNat_Int, ps_f, ps_g, ps_w, ps_o, ps_2, pu_f, pu_g, pu_w, pu_o, uI_s, uI_o, uI_j, uI_j1, uI_j2, uI_tw, or0, true_or, or_true, false_or, or_false, nar0, nar1]
    rfl
  | succ k ih =>
    intro i v n h1 h2 h3 h4
    obtain ⟨m, rfl⟩ : ∃ m, n = m + 1 := ⟨n - 1, by omega⟩
    have h5 : (decide (0 ≤ v * (N - j + i) ∧ v * (N - j + i) < 1000000000000) && chK N j k (i + 1) (v * (N - j + i) / i)) = true := h3
    rw [Bool.and_eq_true, decide_eq_true_eq] at h5
    have e := ih (i + 1) (v * (N - j + i) / i) m (by omega) (by omega) h5.2 (by omega)
    have q := h5.1
    show _ = some (lI (chF N j k (i + 1) (v * (N - j + i) / i)))
    rw [← e, lp_X11_choices_5]
    generalize hp : v * (N - j + i) = V at *
    have el : lI v * lI (N - j + i) = lI V := by rw [lmul, hp]
    have i0 : ¬ i = 0 := by omega
    simp (disch := first | omega | assumption) only [↓lt, zl, ll, zadd, zsub, zltF, if_false, zwide, l_eq, i0, not_false_eq_true, if_true, el, ldiv]
def cc : Nat → Nat → Int
  | _, 0 => 1
  | 0, _ + 1 => 0
  | n + 1, i + 1 => cc n (i + 1) + cc n i
theorem ch_cc : ∀ N j : Fin 13, j.val ≤ N.val → chK (N.val : Int) (j.val : Int) j.val 1 1 = true ∧ chF (N.val : Int) (j.val : Int) j.val 1 1 = cc N.val j.val := by decide +kernel
theorem cc_0 : ∀ (n i : Nat), n < i → cc n i = 0 := by
  intro n
  induction n with
  | zero => intro i h; cases i with
    | zero => omega
    | succ i => rfl
  | succ n ih => intro i h; cases i with
    | zero => omega
    | succ i =>
      show cc n (i + 1) + cc n i = 0
      rw [ih _ (by omega), ih _ (by omega)]; rfl
/-- the odds of i of n, in so many to the n -/
def od (o : Int) (n i : Nat) : Int := if i ≤ n then cc n i * o ^ i * (16 - o) ^ (n - i) else 0
theorem od_s {o : Int} {n i : Nat} : od o (n + 1) (i + 1) = od o n (i + 1) * (16 - o) + od o n i * o := by
  unfold od
  by_cases h : i + 1 ≤ n
  · rw [if_pos (by omega), if_pos h, if_pos (by omega)]
    show (cc n (i + 1) + cc n i) * o ^ (i + 1) * (16 - o) ^ (n + 1 - (i + 1)) = _
    obtain ⟨d, rfl⟩ : ∃ d, n = i + 1 + d := ⟨n - (i + 1), by omega⟩
    rw [show i + 1 + d + 1 - (i + 1) = d + 1 by omega, show i + 1 + d - (i + 1) = d by omega, show i + 1 + d - i = d + 1 by omega, Int.pow_succ, Int.pow_succ]
    grind
  · by_cases h2 : i ≤ n
    · rw [if_pos (by omega), if_neg h, if_pos h2]
      have : i = n := by omega
      subst this
      show (cc i (i + 1) + cc i i) * o ^ (i + 1) * (16 - o) ^ (i + 1 - (i + 1)) = _
      rw [cc_0 i (i + 1) (by omega), Nat.sub_self, Nat.sub_self, Int.pow_succ]
      grind
    · rw [if_neg (by omega), if_neg h, if_neg h2]; omega
theorem od_0 {o : Int} {n : Nat} : od o (n + 1) 0 = od o n 0 * (16 - o) := by
  unfold od
  rw [if_pos (by omega), if_pos (by omega)]
  show cc (n + 1) 0 * o ^ 0 * (16 - o) ^ (n + 1) = cc n 0 * o ^ 0 * (16 - o) ^ n * (16 - o)
  rw [Int.pow_succ, show cc (n + 1) 0 = 1 from by cases n <;> rfl, show cc n 0 = 1 from by cases n <;> rfl]
  grind
theorem od_r {o : Int} (h1 : 0 ≤ o) (h2 : o ≤ 16) : ∀ (n i : Nat), 0 ≤ od o n i ∧ od o n i ≤ 16 ^ n := by
  intro n
  induction n with
  | zero =>
    intro i
    unfold od
    by_cases h : i ≤ 0
    · have : i = 0 := by omega
      subst this
      rw [if_pos (Nat.le_refl 0), Nat.sub_self, Int.pow_zero, Int.pow_zero, Int.pow_zero]; decide
    · rw [if_neg h]; decide
  | succ n ih =>
    intro i
    rw [Int.pow_succ]
    cases i with
    | zero =>
      rw [od_0]
      have a := ih 0
      generalize od o n 0 = x at *
      generalize (16 : Int) ^ n = y at *
      refine ⟨Int.mul_nonneg a.1 (by omega), ?_⟩
      exact Int.le_trans (Int.mul_le_mul_of_nonneg_right a.2 (by omega)) (Int.mul_le_mul_of_nonneg_left (by omega) (by omega))
    | succ i =>
      rw [od_s]
      have a := ih (i + 1)
      have c := ih i
      generalize od o n (i + 1) = x at *
      generalize od o n i = z at *
      generalize (16 : Int) ^ n = y at *
      have p1 := Int.mul_nonneg a.1 (show 0 ≤ 16 - o by omega)
      have p2 := Int.mul_nonneg c.1 h1
      have p3 := Int.mul_le_mul_of_nonneg_right a.2 (show 0 ≤ 16 - o by omega)
      have p4 := Int.mul_le_mul_of_nonneg_right c.2 h1
      have p5 : y * (16 - o) + y * o = y * 16 := by rw [← Int.mul_add]; congr 1; omega
      omega
