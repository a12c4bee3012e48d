/-! ===== land: before the first part ===== -/
theorem c_clear {S P : Nat} {M : KM} (hP : M.2.2 S 7 = P) (h3 : P = 31 ∨ P = 69 ∨ P = 99) (hS : S = 23 ∨ S = 61) : (f_X2_clear S M).2 = M.2 ∧ (f_X2_clear S M).1 S 8 = zI 0 ∧ (f_X2_clear S M).1 S 9 = zI 0 ∧ (f_X2_clear S M).1 S 10 = zI 0 ∧ (f_X2_clear S M).1 S 11 = zI 480 ∧ (f_X2_clear S M).1 S 12 = zI 9 ∧ (f_X2_clear S M).1 S 13 = zI 3 ∧ (f_X2_clear S M).1 S 14 = zI 4 ∧ (f_X2_clear S M).1 S 15 = zI 0 ∧ (f_X2_clear S M).1 (S + 7) 0 = zI 10 ∧ (f_X2_clear S M).1 (S + 7) 1 = zI 16 ∧ (f_X2_clear S M).1 (S + 7) 2 = zI 360 ∧ (f_X2_clear S M).1 P 5 = zI 0 ∧ (f_X2_clear S M).1 P 6 = zI 0 ∧ (f_X2_clear S M).1 P 7 = zI 0 ∧ ∀ a k, ¬ (a = S ∧ 8 ≤ k ∧ k ≤ 15) → ¬ (a = S + 7 ∧ k ≤ 2) → ¬ (a = P ∧ 5 ≤ k ∧ k ≤ 7) → (f_X2_clear S M).1 a k = M.1 a k := by
  have e : f_X2_clear S M = uI (uI (uI (uI (uI (uI (uI (uI (uI (uI (uI (uI (uI (uI M S 8 (zI 0)) S 9 (zI 0)) S 10 (zI 0)) (S + 7) 0 (zI 10)) (S + 7) 1 (zI 16)) (S + 7) 2 (zI 360)) S 11 (zI 480)) S 12 (zI 9)) S 13 (zI 3)) S 14 (zI 4)) S 15 (zI 0)) P 5 (zI 0)) P 6 (zI 0)) P 7 (zI 0) := by
    unfold f_X2_clear
    rw [lt, lt, lt, lt, set_eq, lt, lt, lt, lt, lt, lt, show ((16 : Int32) - 10) * zI 60 = zI 360 by decide]
    subst hP
    rfl
  rw [e]
  refine ⟨rfl, ?_, ?_, ?_, ?_, ?_, ?_, ?_, ?_, ?_, ?_, ?_, ?_, ?_, ?_, fun a k h1 h2 h4 => ?_⟩
  · simp (disch := omega) only [uI_s, uI_o]
  · simp (disch := omega) only [uI_s, uI_o]
  · simp (disch := omega) only [uI_s, uI_o]
  · simp (disch := omega) only [uI_s, uI_o]
  · simp (disch := omega) only [uI_s, uI_o]
  · simp (disch := omega) only [uI_s, uI_o]
  · simp (disch := omega) only [uI_s, uI_o]
  · simp (disch := omega) only [uI_s, uI_o]
  · simp (disch := omega) only [uI_s, uI_o]
  · simp (disch := omega) only [uI_s, uI_o]
  · simp (disch := omega) only [uI_s, uI_o]
  · simp (disch := omega) only [uI_s, uI_o]
  · simp (disch := omega) only [uI_s, uI_o]
  · simp (disch := omega) only [uI_s, uI_o]
  · simp (disch := omega) only [uI_o]
/-- an empty block -/
def emB (i : Int) : Int := if i = 3 then 10 else if i = 4 then 16 else if i = 5 then 480 else if i = 6 then 9 else if i = 7 then 3 else if i = 8 then 4 else if 66 ≤ i ∧ i < 74 then -1 else if 82 ≤ i ∧ i < 90 then -1 else 0
theorem fI_z {k0 : Int} : ∀ (k : Nat) (i : Int) (w : Int → Int) (z : Int), fI (fun i w => bu w (k0 + i) 0) k i w z = if k0 + i ≤ z ∧ z < k0 + i + k then 0 else w z := by
  intro k
  induction k with
  | zero => intro i w z; rw [if_neg (by omega)]; rfl
  | succ k ih =>
    intro i w z
    simp only [fI]
    rw [ih]
    by_cases q : k0 + (i + 1) ≤ z ∧ z < k0 + (i + 1) + k
    · rw [if_pos q, if_pos (by omega)]
    · rw [if_neg q]
      by_cases e : z = k0 + i
      · rw [e, bu_s, if_pos (by omega)]
      · rw [bu_o e, if_neg (by omega)]
theorem fI_n {k0 : Int} : ∀ (k : Nat) (i : Int) (w : Int → Int) (z : Int), 0 ≤ i → i + k ≤ 8 → fI (fun i w => bu (bu w (k0 + 66 + i) (-1)) (k0 + 82 + i) (-1)) k i w z = if (k0 + 66 + i ≤ z ∧ z < k0 + 66 + i + k) ∨ (k0 + 82 + i ≤ z ∧ z < k0 + 82 + i + k) then -1 else w z := by
  intro k
  induction k with
  | zero => intro i w z h1 h2; rw [if_neg (by omega)]; rfl
  | succ k ih =>
    intro i w z h1 h2
    simp only [fI]
    rw [ih (i + 1) _ z (by omega) (by omega)]
    by_cases q : (k0 + 66 + (i + 1) ≤ z ∧ z < k0 + 66 + (i + 1) + k) ∨ (k0 + 82 + (i + 1) ≤ z ∧ z < k0 + 82 + (i + 1) + k)
    · rw [if_pos q, if_pos (by omega)]
    · rw [if_neg q]
      by_cases e : z = k0 + 82 + i
      · rw [e, bu_s, if_pos (by omega)]
      · rw [bu_o e]
        by_cases e2 : z = k0 + 66 + i
        · rw [e2, bu_s, if_pos (by omega)]
        · rw [bu_o e2, if_neg (by omega)]
theorem em_CB {c : Int → Int} (h : ∀ i, 0 ≤ i → i < 562 → c i = emB i) : CB c := by
  have z : ∀ i, 9 ≤ i → i < 562 → ¬ (66 ≤ i ∧ i < 74) → ¬ (82 ≤ i ∧ i < 90) → c i = 0 := fun i a d e f => by
    rw [h i (by omega) d]
    unfold emB
    rw [if_neg (by omega), if_neg (by omega), if_neg (by omega), if_neg (by omega), if_neg (by omega), if_neg (by omega), if_neg e, if_neg f]
  have m6 : ∀ i, 66 ≤ i → i < 74 → c i = -1 := fun i a d => by
    rw [h i (by omega) (by omega)]
    unfold emB
    rw [if_neg (by omega), if_neg (by omega), if_neg (by omega), if_neg (by omega), if_neg (by omega), if_neg (by omega), if_pos ⟨a, d⟩]
  have m8 : ∀ i, 82 ≤ i → i < 90 → c i = -1 := fun i a d => by
    rw [h i (by omega) (by omega)]
    unfold emB
    rw [if_neg (by omega), if_neg (by omega), if_neg (by omega), if_neg (by omega), if_neg (by omega), if_neg (by omega), if_neg (by omega), if_pos ⟨a, d⟩]
  have e0 : c 0 = 0 := h 0 (by omega) (by omega)
  have e1 : c 1 = 0 := h 1 (by omega) (by omega)
  have e2 : c 2 = 0 := h 2 (by omega) (by omega)
  have e3 : c 3 = 10 := h 3 (by omega) (by omega)
  have e4 : c 4 = 16 := h 4 (by omega) (by omega)
  have e5 : c 5 = 480 := h 5 (by omega) (by omega)
  have e6 : c 6 = 9 := h 6 (by omega) (by omega)
  have e7 : c 7 = 3 := h 7 (by omega) (by omega)
  have e8 : c 8 = 4 := h 8 (by omega) (by omega)
  have e9 : c 9 = 0 := h 9 (by omega) (by omega)
  refine ⟨by omega, fun r u v => by omega, fun r u v => z _ (by omega) (by omega) (by omega) (by omega), fun p u v => ?_, fun p r u v w x => ?_, fun i u v => z i (by omega) (by omega) (by omega) (by omega)⟩
  · rw [m6 _ (by omega) (by omega), z (74 + p) (by omega) (by omega) (by omega) (by omega), m8 _ (by omega) (by omega), z (90 + p) (by omega) (by omega) (by omega) (by omega), z (98 + p) (by omega) (by omega) (by omega) (by omega), z (106 + p) (by omega) (by omega) (by omega) (by omega)]
    omega
  · rw [z _ (by omega) (by omega) (by omega) (by omega)]
    omega

