/-! ===== one pass of the reference, all of them, and those of the class ===== -/
def bthm (b : Int → Int) (p q r : Int) (w : (Int → Int) × Int) : (Int → Int) × Int := (bth b p q r w.1, if a2I b p q r (w.1 (b (10 + r))) < w.1 (b (22 + r)) ∨ a2I b p q r (rlx b p q r (b (10 + r)) (b (22 + r)) w.1 (b (22 + r))) < rlx b p q r (b (10 + r)) (b (22 + r)) w.1 (b (10 + r)) ∨ ¬ w.2 = 0 then 1 else 0)
theorem bthm_1 {b : Int → Int} {p q : Int} : ∀ (k : Nat) (i : Int) (w : (Int → Int) × Int), (fI (bthm b p q) k i w).1 = fI (bth b p q) k i w.1 := by
  intro k
  induction k with
  | zero => intro i w; rfl
  | succ k ih => intro i w; exact ih (i + 1) (bthm b p q i w)
theorem bthm_0 {b : Int → Int} {p q r : Int} {w : (Int → Int) × Int} (h : (bthm b p q r w).2 = 0) : w.2 = 0 ∧ bth b p q r w.1 = w.1 := by
  unfold bthm at h
  by_cases e : a2I b p q r (w.1 (b (10 + r))) < w.1 (b (22 + r)) ∨ a2I b p q r (rlx b p q r (b (10 + r)) (b (22 + r)) w.1 (b (22 + r))) < rlx b p q r (b (10 + r)) (b (22 + r)) w.1 (b (10 + r)) ∨ ¬ w.2 = 0
  · simp only [if_pos e] at h; omega
  · have e1 : ¬ a2I b p q r (w.1 (b (10 + r))) < w.1 (b (22 + r)) := fun z => e (Or.inl z)
    have e2 : ¬ a2I b p q r (rlx b p q r (b (10 + r)) (b (22 + r)) w.1 (b (22 + r))) < rlx b p q r (b (10 + r)) (b (22 + r)) w.1 (b (10 + r)) := fun z => e (Or.inr (Or.inl z))
    have e3 : w.2 = 0 := Classical.byContradiction (fun z => e (Or.inr (Or.inr z)))
    refine ⟨e3, ?_⟩
    have d1 : rlx b p q r (b (10 + r)) (b (22 + r)) w.1 = w.1 := if_neg e1
    rw [d1] at e2
    unfold bth
    rw [d1]
    exact if_neg e2
theorem bthm_f {b : Int → Int} {p q : Int} : ∀ (k : Nat) (i : Int) (w : (Int → Int) × Int), (fI (bthm b p q) k i w).2 = 0 → w.2 = 0 ∧ fI (bth b p q) k i w.1 = w.1 := by
  intro k
  induction k with
  | zero => intro i w h; exact ⟨h, rfl⟩
  | succ k ih =>
    intro i w h
    have e := ih (i + 1) (bthm b p q i w) h
    have e2 := bthm_0 e.1
    refine ⟨e2.1, ?_⟩
    show fI (bth b p q) k (i + 1) (bth b p q i w.1) = w.1
    have e3 : fI (bth b p q) k (i + 1) (bth b p q i w.1) = bth b p q i w.1 := e.2
    rw [e3, e2.2]
/-- nothing to be done any more -/
def SF (b : Int → Int) (p q : Int) (T : Int → Int) : Prop := ∀ r, 0 ≤ r → r < b 1 → T (b (22 + r)) ≤ a2I b p q r (T (b (10 + r))) ∧ T (b (10 + r)) ≤ a2I b p q r (T (b (22 + r)))
theorem SF_bthm {b T : Int → Int} {p q r : Int} (h : SF b p q T) (h1 : 0 ≤ r) (h2 : r < b 1) : bthm b p q r (T, 0) = (T, 0) := by
  obtain ⟨e1, e2⟩ := h r h1 h2
  have d1 : rlx b p q r (b (10 + r)) (b (22 + r)) T = T := if_neg (by omega)
  have d2 : rlx b p q r (b (22 + r)) (b (10 + r)) T = T := if_neg (by omega)
  unfold bthm bth
  refine Prod.ext ?_ ?_
  · show rlx b p q r (b (22 + r)) (b (10 + r)) (rlx b p q r (b (10 + r)) (b (22 + r)) T) = T
    rw [d1, d2]
  · show (if a2I b p q r (T (b (10 + r))) < T (b (22 + r)) ∨ a2I b p q r (rlx b p q r (b (10 + r)) (b (22 + r)) T (b (22 + r))) < rlx b p q r (b (10 + r)) (b (22 + r)) T (b (10 + r)) ∨ ¬ (0 : Int) = 0 then (1 : Int) else 0) = 0
    rw [d1, if_neg (by omega)]
theorem SF_fI {b T : Int → Int} {p q : Int} (h : SF b p q T) : ∀ (k : Nat) (i : Int), 0 ≤ i → i + k ≤ b 1 → fI (bthm b p q) k i (T, 0) = (T, 0) := by
  intro k
  induction k with
  | zero => intro i _ _; rfl
  | succ k ih =>
    intro i h1 h2
    show fI (bthm b p q) k (i + 1) (bthm b p q i (T, 0)) = (T, 0)
    rw [SF_bthm h h1 (by omega)]
    exact ih (i + 1) (by omega) (by omega)
theorem SF_pass {b T : Int → Int} {p q : Int} (hb : WB b) (h : SF b p q T) : pass b p q T = T := by
  have hh := hb.1
  unfold WH at hh
  have e := bthm_1 (b := b) (p := p) (q := q) (b 1).toNat 0 (T, 0)
  rw [SF_fI h (b 1).toNat 0 (by omega) (by omega)] at e
  exact e.symm
def itP (b : Int → Int) (p q : Int) : Nat → (Int → Int) → Int → Int
  | 0, T => T
  | k + 1, T => itP b p q k (pass b p q T)
theorem pass_ok {b T : Int → Int} {p q B : Int} (hb : WB b) (hB : 0 ≤ B ∧ B + 80000 ≤ 900000) (hT : okB2 B T) : okB2 (B + 70000) (pass b p q T) := by
  have hh := hb.1
  unfold WH at hh
  have hi : 0 ≤ b 1 ∧ b 1 ≤ 12 := by omega
  clear hh
  have g : ∀ (k : Nat) (i : Int) (T : Int → Int), 0 ≤ i → i + k = b 1 → okB2 (B + 5760 * i) T → okB2 (B + 5760 * b 1) (fI (bth b p q) k i T) := by
    intro k
    induction k with
    | zero =>
      intro i T h1 h2 h3
      have e : i = b 1 := by omega
      rw [← e]; exact h3
    | succ k ih =>
      intro i T h1 h2 h3
      refine ih (i + 1) (bth b p q i T) (by omega) (by omega) ?_
      have := bth_ok (p := p) (q := q) (r := i) hb (show B + 5760 * i + 2880 ≤ 900000 by omega) h3 h1 (by omega)
      rw [show B + 5760 * (i + 1) = B + 5760 * i + 5760 by omega]
      exact this
  have := g (b 1).toNat 0 T (by omega) (by omega) (by rw [Int.mul_zero, Int.add_zero]; exact hT)
  intro j j1 j2
  have := this j j1 j2
  unfold pass
  omega
theorem itP_st {b T : Int → Int} {p q : Int} (h : pass b p q T = T) : ∀ k : Nat, itP b p q k T = T := by
  intro k
  induction k with
  | zero => rfl
  | succ k ih => show itP b p q k (pass b p q T) = T; rw [h]; exact ih
