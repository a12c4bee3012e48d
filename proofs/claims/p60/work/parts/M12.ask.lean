/-! ===== calls that ask: dearest, the next glare, what a call told ===== -/
def deF (o : Int → Int) (i : Int) (w : Int × Int) : Int × Int := if o i ≤ w.2 then w else (i, o i)
theorem deF_T {o : Int → Int} {i : Int} {w : Int × Int} (h : o i ≤ w.2) : deF o i w = w := if_pos h
theorem deF_F {o : Int → Int} {i : Int} {w : Int × Int} (h : ¬ o i ≤ w.2) : deF o i w = (i, o i) := if_neg h
def deB (b : Int → Int) (x : Int) : Int := (fI (deF (fun i => b (226 + 8 * x + i))) (b 2).toNat 0 (-1, 0)).1
theorem fst_skip {P : Int → Bool} : ∀ (d k : Nat) (i : Int), (∀ j, i ≤ j → j < i + d → P j = false) → fstI P k i = if d ≤ k then fstI P (k - d) (i + d) else -1 := by
  intro d
  induction d with
  | zero => intro k i _; simp
  | succ d ih =>
    intro k i h
    cases k with
    | zero => simp [fstI]
    | succ k =>
      have h0 : ¬ P i = true := by rw [h i (by omega) (by omega)]; decide
      simp only [fstI]
      rw [if_neg h0, ih k (i + 1) (fun j a c => h j (by omega) (by omega))]
      by_cases q : d ≤ k
      · rw [if_pos q, if_pos (by omega)]
        congr 1
        · omega
        · omega
      · rw [if_neg q, if_neg (by omega)]
