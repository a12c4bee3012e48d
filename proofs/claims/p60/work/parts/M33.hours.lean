/-! ===== minutes of glare, counted ===== -/
abbrev glH (f t m : Int) : Prop := f ≤ m / 60 % 24 ∧ m / 60 % 24 < t
/-- minutes of glare from 0 on ahead of m -/
def gB (f t m : Int) : Int := m / 1440 * ((t - f) * 60) + (if m % 1440 - f * 60 < 0 then 0 else if m % 1440 - f * 60 < (t - f) * 60 then m % 1440 - f * 60 else (t - f) * 60)
theorem gB_step {f t m : Int} (h1 : 0 ≤ f) (h2 : f ≤ 23) (h3 : f < t) (h4 : t ≤ 24) (h5 : 0 ≤ m) : gB f t (m + 1) = gB f t m + (if glH f t m then 1 else 0) := by
  unfold gB
  by_cases w : m % 1440 = 1439
  · rw [show (m + 1) / 1440 = m / 1440 + 1 by omega, show (m + 1) % 1440 = 0 by omega, Int.add_mul, Int.one_mul, w]
    generalize m / 1440 * ((t - f) * 60) = q
    by_cases g : glH f t m
    · rw [if_pos g]
      have : t = 24 := by omega
      subst this
      by_cases v : (0 : Int) - f * 60 < 0
      · rw [if_pos v]
        by_cases u : (1439 : Int) - f * 60 < 0
        · omega
        · rw [if_neg u, if_pos (by omega)]; omega
      · rw [if_neg v]
        by_cases u : (1439 : Int) - f * 60 < 0
        · omega
        · rw [if_neg u, if_pos (by omega), if_pos (by omega)]; omega
    · rw [if_neg g]
      have : t ≤ 23 := by omega
      by_cases v : (0 : Int) - f * 60 < 0
      · rw [if_pos v, if_neg (by omega), if_neg (by omega)]
      · rw [if_neg v, if_pos (by omega), if_neg (by omega), if_neg (by omega)]; omega
  · rw [show (m + 1) / 1440 = m / 1440 by omega, show (m + 1) % 1440 = m % 1440 + 1 by omega]
    generalize m / 1440 * ((t - f) * 60) = q
    have hd : m / 60 % 24 = m % 1440 / 60 := by omega
    by_cases g : glH f t m
    · have g2 : f ≤ m % 1440 / 60 ∧ m % 1440 / 60 < t := by rw [← hd]; exact g
      rw [if_pos g]
      clear g hd
      generalize m % 1440 = r at *
      rw [if_neg (by omega), if_neg (show ¬ r - f * 60 < 0 by omega), if_pos (show r - f * 60 < (t - f) * 60 by omega)]
      by_cases v : r + 1 - f * 60 < (t - f) * 60
      · rw [if_pos v]; omega
      · rw [if_neg v]; omega
    · have g2 : ¬ (f ≤ m % 1440 / 60 ∧ m % 1440 / 60 < t) := by rw [← hd]; exact g
      rw [if_neg g]
      clear g hd
      generalize m % 1440 = r at *
      by_cases v : r - f * 60 < 0
      · rw [if_pos v]
        by_cases u : r + 1 - f * 60 < 0
        · rw [if_pos u]; omega
        · rw [if_neg u, if_pos (by omega)]; omega
      · rw [if_neg v, if_neg (by omega), if_neg (by omega), if_neg (by omega)]; omega
theorem gB_0 {f t m : Int} (h1 : 0 ≤ f) (h3 : f < t) (h5 : 0 ≤ m) : 0 ≤ gB f t m := by
  unfold gB
  have e : 0 ≤ m / 1440 * ((t - f) * 60) := Int.mul_nonneg (by omega) (by omega)
  generalize m / 1440 * ((t - f) * 60) = q at *
  by_cases v : m % 1440 - f * 60 < 0
  · rw [if_pos v]; omega
  · rw [if_neg v]
    by_cases u : m % 1440 - f * 60 < (t - f) * 60
    · rw [if_pos u]; omega
    · rw [if_neg u]; omega
/-- clear minutes -/
def clB (f t m : Int) : Int := m - gB f t m
theorem cl_step {f t m : Int} (h1 : 0 ≤ f) (h2 : f ≤ 23) (h3 : f < t) (h4 : t ≤ 24) (h5 : 0 ≤ m) : clB f t (m + 1) = clB f t m + (if glH f t m then 0 else 1) := by
  unfold clB
  rw [gB_step h1 h2 h3 h4 h5]
  by_cases g : glH f t m
  · rw [if_pos g, if_pos g]; omega
  · rw [if_neg g, if_neg g]; omega
theorem cl_mono {f t : Int} (h1 : 0 ≤ f) (h2 : f ≤ 23) (h3 : f < t) (h4 : t ≤ 24) : ∀ (k : Nat) (m : Int), 0 ≤ m → clB f t m ≤ clB f t (m + k) ∧ clB f t (m + k) ≤ clB f t m + k := by
  intro k
  induction k with
  | zero => intro m _; simp
  | succ k ih =>
    intro m h
    have e := ih m h
    have e2 := cl_step h1 h2 h3 h4 (show 0 ≤ m + (k : Int) by omega)
    rw [show m + ((k + 1 : Nat) : Int) = m + (k : Int) + 1 by omega, e2]
    by_cases g : glH f t (m + k)
    · rw [if_pos g]; omega
    · rw [if_neg g]; omega
theorem cl_m {f t m n : Int} (h1 : 0 ≤ f) (h2 : f ≤ 23) (h3 : f < t) (h4 : t ≤ 24) (h5 : 0 ≤ m) (h6 : m ≤ n) : clB f t m ≤ clB f t n ∧ clB f t n ≤ clB f t m + (n - m) := by
  have e := cl_mono h1 h2 h3 h4 (n - m).toNat m h5
  rw [show m + ((n - m).toNat : Int) = n by omega] at e
  omega
/-- when so many clear minutes have gone by since s -/
def dnC (f t s k : Int) : Int := (s - gB f t s + k - 1) / (1440 - (t - f) * 60) * 1440 + ((s - gB f t s + k - 1) % (1440 - (t - f) * 60) + 1) + (if (s - gB f t s + k - 1) % (1440 - (t - f) * 60) + 1 ≤ f * 60 then 0 else (t - f) * 60)
theorem dnC_ok {f t s k : Int} (h1 : 0 ≤ f) (h2 : f ≤ 23) (h3 : f < t) (h4 : t ≤ 24) (h5 : 0 ≤ s) (h6 : 1 ≤ k) (h7 : ¬ (f = 0 ∧ t = 24)) : clB f t (dnC f t s k) = clB f t s + k ∧ ¬ glH f t (dnC f t s k - 1) ∧ 1 ≤ dnC f t s k := by
  have hc : 0 ≤ clB f t s := by
    have e := cl_m h1 h2 h3 h4 (show (0 : Int) ≤ 0 by omega) h5
    have e0 : clB f t 0 = 0 := by
      unfold clB gB
      by_cases v : (0 : Int) % 1440 - f * 60 < 0
      · rw [if_pos v]; omega
      · rw [if_neg v, if_pos (by omega)]; omega
    omega
  obtain ⟨c, hcd⟩ : ∃ c, c = 1440 - (t - f) * 60 := ⟨_, rfl⟩
  obtain ⟨K, hK⟩ : ∃ K, K = s - gB f t s + k - 1 := ⟨_, rfl⟩
  have hK0 : 0 ≤ K := by unfold clB at hc; omega
  have hc0 : 0 < c := by omega
  have hdiv : c * (K / c) + K % c = K := Int.mul_ediv_add_emod K c
  have hr1 : 0 ≤ K % c := Int.emod_nonneg _ (by omega)
  have hr2 : K % c < c := Int.emod_lt_of_pos _ hc0
  have hq0 : 0 ≤ K / c := Int.ediv_nonneg hK0 (by omega)
  have hmul : c * (K / c) = K / c * 1440 - K / c * ((t - f) * 60) := by
    rw [hcd, Int.sub_mul, Int.mul_comm 1440, Int.mul_comm ((t - f) * 60)]
  have hD : dnC f t s k = K / c * 1440 + (K % c + 1) + (if K % c + 1 ≤ f * 60 then 0 else (t - f) * 60) := by
    unfold dnC; rw [← hcd, ← hK]
  have hKs : clB f t s + k = K + 1 := by unfold clB; omega
  rw [hKs]
  generalize K / c = q at *
  generalize K % c = r at *
  clear hK hKs hc
  rw [hD]
  by_cases w : r + 1 ≤ f * 60
  · rw [if_pos w]
    have e1 : (q * 1440 + (r + 1) + 0) / 1440 = q := by omega
    have e2 : (q * 1440 + (r + 1) + 0) % 1440 = r + 1 := by omega
    refine ⟨?_, ?_, by omega⟩
    · unfold clB gB
      rw [e1, e2]
      generalize q * ((t - f) * 60) = G at *
      by_cases v : r + 1 - f * 60 < 0
      · rw [if_pos v]; omega
      · rw [if_neg v, if_pos (by omega)]; omega
    · have : (q * 1440 + (r + 1) + 0 - 1) / 60 % 24 = r / 60 := by omega
      unfold glH
      rw [this]
      omega
  · rw [if_neg w]
    refine ⟨?_, ?_, by omega⟩
    · unfold clB gB
      by_cases v : r + 1 = c
      · have e1 : (q * 1440 + (r + 1) + (t - f) * 60) / 1440 = q + 1 := by omega
        have e2 : (q * 1440 + (r + 1) + (t - f) * 60) % 1440 = 0 := by omega
        rw [e1, e2, Int.add_mul, Int.one_mul]
        generalize q * ((t - f) * 60) = G at *
        by_cases u : (0 : Int) - f * 60 < 0
        · rw [if_pos u]; omega
        · rw [if_neg u, if_pos (by omega)]; omega
      · have e1 : (q * 1440 + (r + 1) + (t - f) * 60) / 1440 = q := by omega
        have e2 : (q * 1440 + (r + 1) + (t - f) * 60) % 1440 = r + 1 + (t - f) * 60 := by omega
        rw [e1, e2]
        generalize q * ((t - f) * 60) = G at *
        rw [if_neg (by omega), if_neg (by omega)]
        omega
    · have : (q * 1440 + (r + 1) + (t - f) * 60 - 1) / 60 % 24 = (r + (t - f) * 60) / 60 := by omega
      unfold glH
      rw [this]
      omega
/-- it is the first minute with so many -/
theorem dnC_le {f t s k n : Int} (h1 : 0 ≤ f) (h2 : f ≤ 23) (h3 : f < t) (h4 : t ≤ 24) (h5 : 0 ≤ s) (h6 : 1 ≤ k) (h7 : ¬ (f = 0 ∧ t = 24)) (h8 : 0 ≤ n) : dnC f t s k ≤ n ↔ clB f t s + k ≤ clB f t n := by
  obtain ⟨e1, e2, e3⟩ := dnC_ok h1 h2 h3 h4 h5 h6 h7
  constructor
  · intro h
    have := cl_m h1 h2 h3 h4 (show 0 ≤ dnC f t s k by omega) h
    omega
  · intro h
    by_cases w : dnC f t s k ≤ n
    · exact w
    · exfalso
      have a := cl_m h1 h2 h3 h4 h8 (show n ≤ dnC f t s k - 1 by omega)
      have c := cl_step h1 h2 h3 h4 (show 0 ≤ dnC f t s k - 1 by omega)
      rw [if_neg e2, show dnC f t s k - 1 + 1 = dnC f t s k by omega] at c
      omega

