/-! ===== one minute of the reference, walked: all of them ===== -/
/-- a set of eight, by its truths -/
def sb8 (p0 p1 p2 p3 p4 p5 p6 p7 : Bool) : Int32 := setB (fun i => if i = 0 then p0 else if i = 1 then p1 else if i = 2 then p2 else if i = 3 then p3 else if i = 4 then p4 else if i = 5 then p5 else if i = 6 then p6 else p7) 8
theorem sb8_of (P : Int → Bool) : setB P 8 = sb8 (P 0) (P 1) (P 2) (P 3) (P 4) (P 5) (P 6) (P 7) := by
  refine setB_c (fun j h1 h2 => ?_)
  have : j = 0 ∨ j = 1 ∨ j = 2 ∨ j = 3 ∨ j = 4 ∨ j = 5 ∨ j = 6 ∨ j = 7 := by omega
  rcases this with rfl | rfl | rfl | rfl | rfl | rfl | rfl | rfl <;> rfl
theorem sb8_add : ∀ p0 p1 p2 p3 p4 p5 p6 p7 : Bool, sb8 p0 p1 p2 p3 p4 p5 p6 p7 ||| (zI 1 <<< (zI 0 &&& zI 31)) = sb8 true p1 p2 p3 p4 p5 p6 p7 ∧ sb8 p0 p1 p2 p3 p4 p5 p6 p7 ||| (zI 1 <<< (zI 1 &&& zI 31)) = sb8 p0 true p2 p3 p4 p5 p6 p7 ∧ sb8 p0 p1 p2 p3 p4 p5 p6 p7 ||| (zI 1 <<< (zI 2 &&& zI 31)) = sb8 p0 p1 true p3 p4 p5 p6 p7 ∧ sb8 p0 p1 p2 p3 p4 p5 p6 p7 ||| (zI 1 <<< (zI 3 &&& zI 31)) = sb8 p0 p1 p2 true p4 p5 p6 p7 ∧ sb8 p0 p1 p2 p3 p4 p5 p6 p7 ||| (zI 1 <<< (zI 4 &&& zI 31)) = sb8 p0 p1 p2 p3 true p5 p6 p7 ∧ sb8 p0 p1 p2 p3 p4 p5 p6 p7 ||| (zI 1 <<< (zI 5 &&& zI 31)) = sb8 p0 p1 p2 p3 p4 true p6 p7 ∧ sb8 p0 p1 p2 p3 p4 p5 p6 p7 ||| (zI 1 <<< (zI 6 &&& zI 31)) = sb8 p0 p1 p2 p3 p4 p5 true p7 ∧ sb8 p0 p1 p2 p3 p4 p5 p6 p7 ||| (zI 1 <<< (zI 7 &&& zI 31)) = sb8 p0 p1 p2 p3 p4 p5 p6 true := by decide +kernel
theorem setB_add {P Q : Int → Bool} {q : Int} (h1 : 0 ≤ q) (h2 : q < 8) (hq : Q q = true) (ho : ∀ i, ¬ i = q → Q i = P i) : setB P 8 ||| (zI 1 <<< (zI q &&& zI 31)) = setB Q 8 := by
  rw [sb8_of P, sb8_of Q]
  obtain ⟨e0, e1, e2, e3, e4, e5, e6, e7⟩ := sb8_add (P 0) (P 1) (P 2) (P 3) (P 4) (P 5) (P 6) (P 7)
  have : q = 0 ∨ q = 1 ∨ q = 2 ∨ q = 3 ∨ q = 4 ∨ q = 5 ∨ q = 6 ∨ q = 7 := by omega
  rcases this with rfl | rfl | rfl | rfl | rfl | rfl | rfl | rfl
  · rw [e0, hq, ho 1 (by decide), ho 2 (by decide), ho 3 (by decide), ho 4 (by decide), ho 5 (by decide), ho 6 (by decide), ho 7 (by decide)]
  · rw [e1, hq, ho 0 (by decide), ho 2 (by decide), ho 3 (by decide), ho 4 (by decide), ho 5 (by decide), ho 6 (by decide), ho 7 (by decide)]
  · rw [e2, hq, ho 1 (by decide), ho 0 (by decide), ho 3 (by decide), ho 4 (by decide), ho 5 (by decide), ho 6 (by decide), ho 7 (by decide)]
  · rw [e3, hq, ho 1 (by decide), ho 2 (by decide), ho 0 (by decide), ho 4 (by decide), ho 5 (by decide), ho 6 (by decide), ho 7 (by decide)]
  · rw [e4, hq, ho 1 (by decide), ho 2 (by decide), ho 3 (by decide), ho 0 (by decide), ho 5 (by decide), ho 6 (by decide), ho 7 (by decide)]
  · rw [e5, hq, ho 1 (by decide), ho 2 (by decide), ho 3 (by decide), ho 4 (by decide), ho 0 (by decide), ho 6 (by decide), ho 7 (by decide)]
  · rw [e6, hq, ho 1 (by decide), ho 2 (by decide), ho 3 (by decide), ho 4 (by decide), ho 5 (by decide), ho 0 (by decide), ho 7 (by decide)]
  · rw [e7, hq, ho 1 (by decide), ho 2 (by decide), ho 3 (by decide), ho 4 (by decide), ho 5 (by decide), ho 6 (by decide), ho 0 (by decide)]
theorem sum_fI {f : Int → Int} : ∀ (k : Nat) (i w : Int), fI (fun i w => w + f i) k i w = w + fI (fun i w => w + f i) k i 0 := by
  intro k
  induction k with
  | zero => intro i w; simp [fI]
  | succ k ih =>
    intro i w
    simp only [fI]
    rw [ih (i + 1) (w + f i), ih (i + 1) (0 + f i)]
    omega
theorem sum_one {f h : Int → Int} {q d : Int} (hq : h q = f q + d) (ho : ∀ i, ¬ i = q → h i = f i) : ∀ (k : Nat) (i : Int), fI (fun i w => w + h i) k i 0 = fI (fun i w => w + f i) k i 0 + (if i ≤ q ∧ q < i + k then d else 0) := by
  intro k
  induction k with
  | zero => intro i; rw [if_neg (by omega)]; rfl
  | succ k ih =>
    intro i
    simp only [fI]
    rw [sum_fI k (i + 1) (0 + h i), sum_fI k (i + 1) (0 + f i), ih (i + 1)]
    by_cases e : i = q
    · subst e
      rw [if_neg (by omega), if_pos (by omega), hq]; omega
    · rw [ho i e]
      by_cases t : i + 1 ≤ q ∧ q < i + 1 + k
      · rw [if_pos t, if_pos (by omega)]; omega
      · rw [if_neg t, if_neg (by omega)]; omega
theorem sumB_one {f h : Int → Int} {q d k : Int} (hq : h q = f q + d) (ho : ∀ i, ¬ i = q → h i = f i) (h1 : 0 ≤ q) (h2 : q < k) : sumB h k = sumB f k + d := by
  unfold sumB
  rw [sum_one hq ho, if_pos (by omega)]
theorem sumB_r {f : Int → Int} {d : Int} (hd : ∀ i, 0 ≤ f i ∧ f i ≤ d) : ∀ (k : Nat) (i : Int), 0 ≤ fI (fun i w => w + f i) k i 0 ∧ fI (fun i w => w + f i) k i 0 ≤ k * d := by
  intro k
  induction k with
  | zero => intro i; simp [fI]
  | succ k ih =>
    intro i
    simp only [fI]
    rw [sum_fI k (i + 1) (0 + f i)]
    have e := ih (i + 1)
    have e2 := hd i
    rw [show ((k + 1 : Nat) : Int) * d = k * d + d by rw [show ((k + 1 : Nat) : Int) = (k : Int) + 1 by omega, Int.add_mul, Int.one_mul]]
    omega
def cS (b : Int → Int) (A : Int → Bool) : Int32 := setB (fun q => A q && decide (thB b q)) 8
def lS (b : Int → Int) (A : Int → Bool) : Int := sumB (fun q => if A q = true ∧ ¬ caB b q then 1 else 0) 8
/-- the reference's memory when those of A have had their minute -/
def mA (X : KM) (b : Int → Int) (A : Int → Bool) : KM := cs (cl2 X (cS b A) (lS b A)) (bM b A)
theorem lS_r {b : Int → Int} {A : Int → Bool} : 0 ≤ lS b A ∧ lS b A ≤ 8 := by
  have e := sumB_r (f := fun q => if A q = true ∧ ¬ caB b q then 1 else 0) (d := 1) (fun i => by
    by_cases w : A i = true ∧ ¬ caB b i
    · simp only [if_pos w]; omega
    · simp only [if_neg w]; omega) 8 0
  unfold lS sumB
  exact e
