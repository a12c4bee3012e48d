/-! ===== reach: enough passes ===== -/
theorem fI_ind {α : Type} {f : Int → α → α} {V : α → Prop} {R : Int} (h : ∀ i w, 0 ≤ i → i < R → V w → V (f i w)) : ∀ (k : Nat) (i : Int) (w : α), 0 ≤ i → i + k ≤ R → V w → V (fI f k i w) := by
  intro k
  induction k with
  | zero => intro i w _ _ hv; exact hv
  | succ k ih =>
    intro i w h1 h2 hv
    simp only [fI]
    exact ih (i + 1) _ (by omega) (by omega) (h i w h1 (by omega) hv)
theorem sum_zero {f : Int → Int} (h0 : ∀ i, 0 ≤ f i) : ∀ (k : Nat) (i : Int), fI (fun i w => w + f i) k i 0 = 0 → ∀ j, i ≤ j → j < i + k → f j = 0 := by
  intro k
  induction k with
  | zero => intro i _ j h1 h2; omega
  | succ k ih =>
    intro i h j h1 h2
    simp only [fI] at h
    rw [sum_fI k (i + 1) (0 + f i)] at h
    have e1 := h0 i
    have e2 : 0 ≤ fI (fun i w => w + f i) k (i + 1) 0 := by
      have := fI_ind (f := fun i w => w + f i) (V := fun w => 0 ≤ w) (R := i + 1 + k + 1000000) (fun i w _ _ hv => by have := h0 i; show 0 ≤ w + f i; omega)
      by_cases y : 0 ≤ i + 1
      · exact this k (i + 1) 0 y (by omega) (by omega)
      · have g : ∀ (k : Nat) (i w : Int), 0 ≤ w → 0 ≤ fI (fun i w => w + f i) k i w := by
          intro k
          induction k with
          | zero => intro i w hw; exact hw
          | succ k ih2 =>
            intro i w hw
            simp only [fI]
            exact ih2 (i + 1) _ (by have := h0 i; omega)
        exact g k (i + 1) 0 (by omega)
    by_cases e : j = i
    · subst e; omega
    · exact ih (i + 1) (by omega) j (by omega) (by omega)
def cdB (P : Int → Bool) : Int := sumB (fun i => if P i = true then 1 else 0) 8
def okB (b : Int → Int) (P : Int → Bool) : Prop := ∀ i, P i = true → 0 ≤ i ∧ i < b 0
theorem psR_ok {b : Int → Int} {x : Int} {P : Int → Bool} (hb : WB b) (h : okB b P) : okB b (psR b x P) := by
  have hh := hb.1
  unfold WH at hh
  refine fI_ind (V := fun P => okB b P) (R := b 1) (fun r P u v hv => ?_) (b 1).toNat 0 P (by omega) (by omega) h
  have hR := hb.2.1 r u v
  unfold WR at hR
  by_cases w : joins b x r P
  · rw [stR_t w]
    intro i hi
    by_cases e : i = b (22 + r)
    · omega
    · rw [adA_o e] at hi
      by_cases e2 : i = b (10 + r)
      · omega
      · rw [adA_o e2] at hi
        exact hv i hi
  · rw [stR_f w]; exact hv
theorem psR_up {b : Int → Int} {x : Int} {P : Int → Bool} (hb : WB b) {i : Int} (h : P i = true) : psR b x P i = true := by
  have hh := hb.1
  unfold WH at hh
  refine fI_ind (V := fun P => P i = true) (R := b 1) (fun r P u v hv => ?_) (b 1).toNat 0 P (by omega) (by omega) h
  by_cases w : joins b x r P
  · rw [stR_t w]
    unfold adA
    rw [hv]; rfl
  · rw [stR_f w]; exact hv
theorem psR_cd {b : Int → Int} {x : Int} {P : Int → Bool} (hb : WB b) (h : okB b P) : psR b x P = P ∨ cdB P + 1 ≤ cdB (psR b x P) := by
  have hh := hb.1
  unfold WH at hh
  have e := sumB_add (k := 8) (f := fun i => if P i = true then 1 else 0) (h := fun i => if psR b x P i = true ∧ ¬ P i = true then 1 else 0) (e := fun i => if psR b x P i = true then 1 else 0) (fun i _ _ => by
    by_cases w : P i = true
    · rw [if_pos w, if_pos (psR_up hb w), if_neg (fun z => z.2 w)]; rfl
    · by_cases w2 : psR b x P i = true
      · rw [if_neg w, if_pos w2, if_pos ⟨w2, w⟩]; rfl
      · rw [if_neg w, if_neg w2, if_neg (fun z => w2 z.1)]; rfl)
  have h0 : ∀ i, 0 ≤ (fun i => if psR b x P i = true ∧ ¬ P i = true then (1 : Int) else 0) i := fun i => by
    by_cases w : psR b x P i = true ∧ ¬ P i = true
    · simp only [if_pos w]; omega
    · simp only [if_neg w]; omega
  have hr := sum_rr (f := fun i => if psR b x P i = true ∧ ¬ P i = true then (1 : Int) else 0) (c := 0) (d := 1) (fun i => by
    by_cases w : psR b x P i = true ∧ ¬ P i = true
    · simp only [if_pos w]; omega
    · simp only [if_neg w]; omega) 8 0
  have hz := sum_zero h0 8 0
  unfold cdB
  rw [e]
  have ed : sumB (fun i => if psR b x P i = true ∧ ¬ P i = true then 1 else 0) 8 = fI (fun i w => w + (fun i => if psR b x P i = true ∧ ¬ P i = true then (1 : Int) else 0) i) 8 0 0 := rfl
  by_cases w : sumB (fun i => if psR b x P i = true ∧ ¬ P i = true then 1 else 0) 8 = 0
  · refine Or.inl ?_
    have hz2 := hz (ed.symm.trans w)
    funext i
    by_cases y : P i = true
    · rw [y]; exact psR_up hb y
    · by_cases y2 : psR b x P i = true
      · have hi := psR_ok hb h i y2
        have := hz2 i hi.1 (by omega)
        simp only [if_pos (show psR b x P i = true ∧ ¬ P i = true from ⟨y2, y⟩)] at this
        omega
      · cases h1 : P i
        · cases h2 : psR b x P i
          · rfl
          · exact absurd h2 y2
        · exact absurd h1 y
  · refine Or.inr ?_
    rw [ed] at w ⊢
    have h1 := hr.1
    generalize sumB (fun i => if P i = true then 1 else 0) 8 = s
    have h2 : (0 : Int) ≤ fI (fun i w => w + (fun i => if psR b x P i = true ∧ ¬ P i = true then (1 : Int) else 0) i) 8 0 0 := by
      have : ((8 : Nat) : Int) * 0 = 0 := by omega
      rw [this] at h1
      exact h1
    generalize fI (fun i w => w + (fun i => if psR b x P i = true ∧ ¬ P i = true then (1 : Int) else 0) i) 8 0 0 = d at *
    omega
theorem cd_le {b : Int → Int} {P : Int → Bool} (hb : WB b) (h : okB b P) : cdB P ≤ b 0 := by
  have hh := hb.1
  unfold WH at hh
  unfold cdB
  rw [← sumB_z (k := b 0) (m := 8) (by omega) (by omega) (fun j u v => by
    rw [if_neg (fun z => by have := (h j z).2; omega)])]
  have hr := sum_rr (f := fun i => if P i = true then (1 : Int) else 0) (c := 0) (d := 1) (fun i => by
    by_cases w : P i = true
    · simp only [if_pos w]; omega
    · simp only [if_neg w]; omega) (b 0).toNat 0
  have e : sumB (fun i => if P i = true then 1 else 0) (b 0) = fI (fun i w => w + (fun i => if P i = true then (1 : Int) else 0) i) (b 0).toNat 0 0 := rfl
  rw [e]
  have h2 := hr.2
  rw [Int.mul_one] at h2
  have h3 : (((b 0).toNat : Nat) : Int) = b 0 := by omega
  rw [h3] at h2
  exact h2
abbrev itR (b : Int → Int) (x : Int) (k : Nat) (i : Int) (P : Int → Bool) : Int → Bool := fI (fun _ P => psR b x P) k i P
theorem itR_st {b : Int → Int} {x : Int} {P : Int → Bool} (h : psR b x P = P) : ∀ (k : Nat) (i : Int), itR b x k i P = P := by
  intro k
  induction k with
  | zero => intro i; rfl
  | succ k ih =>
    intro i
    show fI (fun _ P => psR b x P) k (i + 1) (psR b x P) = P
    rw [h]
    exact ih (i + 1)
theorem itR_ok {b : Int → Int} {x : Int} (hb : WB b) : ∀ (k : Nat) (i : Int) (P : Int → Bool), okB b P → okB b (itR b x k i P) := by
  intro k
  induction k with
  | zero => intro i P h; exact h
  | succ k ih => intro i P h; exact ih (i + 1) _ (psR_ok hb h)
theorem itR_j {b : Int → Int} {x : Int} : ∀ (k : Nat) (i j : Int) (P : Int → Bool), itR b x k i P = itR b x k j P := by
  intro k
  induction k with
  | zero => intro i j P; rfl
  | succ k ih => intro i j P; exact ih (i + 1) (j + 1) _
theorem itR_pr {b : Int → Int} {x : Int} (hb : WB b) : ∀ (k : Nat) (i : Int) (P : Int → Bool), okB b P → psR b x (itR b x k i P) = itR b x k i P ∨ cdB P + k ≤ cdB (itR b x k i P) := by
  intro k
  induction k with
  | zero => intro i P _; refine Or.inr ?_; show cdB P + 0 ≤ cdB P; omega
  | succ k ih =>
    intro i P h
    rcases psR_cd (x := x) hb h with e | e
    · refine Or.inl ?_
      rw [itR_st e]; exact e
    · rcases ih (i + 1) (psR b x P) (psR_ok hb h) with e2 | e2
      · exact Or.inl e2
      · refine Or.inr ?_
        show cdB P + ((k + 1 : Nat) : Int) ≤ cdB (itR b x k (i + 1) (psR b x P))
        omega
theorem itR_8 {b : Int → Int} {x : Int} {P : Int → Bool} (hb : WB b) (h : okB b P) (hc : 1 ≤ cdB P) : itR b x 8 0 P = itR b x (b 0 - 1).toNat 1 P := by
  have hh := hb.1
  unfold WH at hh
  have l0 := cd_le hb h
  have st : psR b x (itR b x (b 0 - 1).toNat 0 P) = itR b x (b 0 - 1).toNat 0 P := by
    rcases itR_pr (x := x) hb (b 0 - 1).toNat 0 P h with e | e
    · exact e
    · have ok := itR_ok (x := x) hb (b 0 - 1).toNat 0 P h
      rcases psR_cd (x := x) hb ok with e2 | e2
      · exact e2
      · have := cd_le hb (psR_ok (x := x) hb ok)
        omega
  rw [itR_j _ 1 0]
  obtain ⟨c, hc8⟩ : ∃ c, 8 = (b 0 - 1).toNat + c := ⟨8 - (b 0 - 1).toNat, by omega⟩
  show fI (fun _ P => psR b x P) 8 0 P = _
  rw [hc8, fI_sp]
  exact itR_st st _ _
theorem setB_one {q : Int} (h1 : 0 ≤ q) (h2 : q < 8) : zI 1 <<< (zI q &&& zI 31) = setB (fun i => decide (i = q)) 8 := by
  have e := setB_add (P := fun _ => false) (Q := fun i => decide (i = q)) h1 h2 (decide_eq_true rfl) (fun i hi => decide_eq_false hi)
  rw [← e, show setB (fun _ => false) 8 = 0 by decide, Int32.zero_or]
theorem cd_one {q : Int} (h1 : 0 ≤ q) (h2 : q < 8) : 1 ≤ cdB (fun i => decide (i = q)) := by
  have : q = 0 ∨ q = 1 ∨ q = 2 ∨ q = 3 ∨ q = 4 ∨ q = 5 ∨ q = 6 ∨ q = 7 := by omega
  rcases this with rfl | rfl | rfl | rfl | rfl | rfl | rfl | rfl <;> decide

