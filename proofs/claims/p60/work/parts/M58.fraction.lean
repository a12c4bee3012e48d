/-! ===== a fraction in its lowest terms ===== -/
theorem ldiv {a b : Int} (h1 : 0 ≤ a) (h2 : a < 9223372036854775808) (h3 : 0 < b) (h4 : b < 9223372036854775808) : lI a / lI b = lI (a / b) := by
  apply Int64.toInt_inj.mp
  have h5 : (lI b : Int64) ≠ -1 := by
    intro h
    have := congrArg Int64.toInt h
    rw [lI_toInt (by omega) h4, show (-1 : Int64).toInt = -1 from rfl] at this
    omega
  have h6 : 0 ≤ a / b := Int.ediv_nonneg h1 (by omega)
  have h7 : a / b ≤ a := Int.ediv_le_self b h1
  rw [Int64.toInt_div_of_ne_right _ _ h5, lI_toInt (by omega) h2, lI_toInt (by omega) h4, lI_toInt (by omega) (by omega), Int.tdiv_eq_ediv_of_nonneg h1]
theorem l_eq {a b : Int} (h1 : -9223372036854775808 ≤ a) (h2 : a < 9223372036854775808) (h3 : -9223372036854775808 ≤ b) (h4 : b < 9223372036854775808) : (lI a = lI b) = (a = b) := by rw [← Int64.toInt_inj, lI_toInt h1 h2, lI_toInt h3 h4]
theorem l_lt {a b : Int} (h1 : -9223372036854775808 ≤ a) (h2 : a < 9223372036854775808) (h3 : -9223372036854775808 ≤ b) (h4 : b < 9223372036854775808) : (lI a < lI b) = (a < b) := by rw [Int64.lt_iff_toInt_lt, lI_toInt h1 h2, lI_toInt h3 h4]
theorem lgE {a b : Int} (h : -1000000000000000000 < a ∧ a < 1000000000000000000 ∧ -1000000000000000000 < b ∧ b < 1000000000000000000) : (lg_cmp (lI a) (lI b) = zI 0) = (a = b) := (lg_eq _ _).trans (l_eq (by omega) (by omega) (by omega) (by omega))
/-- Euclid, k steps at most -/
def eu : Nat → Int → Int → Int
  | 0, a, _ => a
  | k + 1, a, c => if c = 0 then a else eu k c (a % c)
theorem eu_z {k : Nat} {a : Int} : eu k a 0 = a := by
  cases k with
  | zero => rfl
  | succ k => exact if_pos rfl
theorem eu_s {k : Nat} {a c : Int} (h : ¬ c = 0) : eu (k + 1) a c = eu k c (a % c) := if_neg h
theorem eu_r {B : Int} : ∀ (k : Nat) (a c : Int), 1 ≤ a → 0 ≤ c → a ≤ B → c ≤ B → 1 ≤ eu k a c ∧ eu k a c ≤ B := by
  intro k
  induction k with
  | zero => intro a c h1 h2 h3 h4; exact ⟨h1, h3⟩
  | succ k ih =>
    intro a c h1 h2 h3 h4
    by_cases e : c = 0
    · subst e; rw [eu_z]; exact ⟨h1, h3⟩
    · rw [eu_s e]
      have m1 := Int.emod_nonneg a e
      have m2 := Int.emod_lt_of_pos a (show 0 < c by omega)
      exact ih c (a % c) (by omega) m1 h4 (by omega)
/-- two steps halve -/
theorem halve {a c : Int} (ha : 0 ≤ a) (hc : 0 < c) (h : c ≤ a) : 2 * (a % c) < a := by
  have m2 := Int.emod_lt_of_pos a hc
  have e := Int.mul_ediv_add_emod a c
  have q : 1 ≤ a / c := Int.le_ediv_of_mul_le hc (by omega)
  have : c ≤ c * (a / c) := by
    have := Int.mul_le_mul_of_nonneg_left q (show 0 ≤ c by omega)
    omega
  omega
/-- more steps than 2 m change nothing once c is below 2 to the m -/
theorem eu_enough : ∀ (m : Nat) (a c : Int) (k j : Nat), 0 ≤ a → 0 ≤ c → c < 2 ^ m → 2 * m ≤ k → 2 * m ≤ j → eu k a c = eu j a c := by
  intro m
  induction m with
  | zero =>
    intro a c k j h1 h2 h3 h4 h5
    have : c = 0 := by
      have : (2 : Int) ^ 0 = 1 := rfl
      omega
    subst this
    rw [eu_z, eu_z]
  | succ m ih =>
    intro a c k j h1 h2 h3 h4 h5
    by_cases e : c = 0
    · subst e; rw [eu_z, eu_z]
    · obtain ⟨k', rfl⟩ : ∃ k', k = k' + 2 := ⟨k - 2, by omega⟩
      obtain ⟨j', rfl⟩ : ∃ j', j = j' + 2 := ⟨j - 2, by omega⟩
      have m1 := Int.emod_nonneg a e
      have m2 := Int.emod_lt_of_pos a (show 0 < c by omega)
      rw [show k' + 2 = (k' + 1) + 1 from rfl, show j' + 2 = (j' + 1) + 1 from rfl, eu_s e, eu_s e]
      by_cases e2 : a % c = 0
      · rw [e2, eu_z, eu_z]
      · rw [eu_s e2, eu_s e2]
        have n1 := Int.emod_nonneg c e2
        have hv := halve (a := c) (c := a % c) (by omega) (by omega) (by omega)
        have hp : (2 : Int) ^ (m + 1) = 2 ^ m * 2 := rfl
        exact ih (a % c) (c % (a % c)) k' j' m1 n1 (by omega) (by omega) (by omega)
