/-! ===== sums over people ===== -/
theorem sumB_s {f : Int → Int} {k : Int} (h : 0 ≤ k) : sumB f (k + 1) = sumB f k + f k := by
  unfold sumB
  rw [show (k + 1).toNat = k.toNat + 1 by omega, fI_sp]
  show fI _ k.toNat 0 0 + f (0 + (k.toNat : Int)) = _
  rw [show (0 : Int) + (k.toNat : Int) = k by omega]
theorem sumB_0 {f : Int → Int} {k : Int} (h : ∀ j, 0 ≤ j → j < k → f j = 0) : sumB f k = 0 := by
  by_cases q : 0 ≤ k
  · exact (sumB_z (f := f) (Int.le_refl 0) q h).symm
  · unfold sumB; rw [show k.toNat = 0 by omega]; rfl
theorem sumB_fub {f : Int → Int → Int} {k : Int} : ∀ (n : Nat), sumB (fun p => sumB (fun q => f p q) k) n = sumB (fun q => sumB (fun p => f p q) n) k := by
  intro n
  induction n with
  | zero => exact (sumB_0 (fun j _ _ => rfl)).symm
  | succ n ih =>
    rw [show ((n + 1 : Nat) : Int) = (n : Int) + 1 by omega, sumB_s (by omega), ih]
    exact (sumB_add (fun j _ _ => sumB_s (by omega))).symm
theorem sumB_neg {f h : Int → Int} {k : Int} (e : ∀ j, 0 ≤ j → j < k → h j = - f j) : sumB h k = - sumB f k := by
  have a := sumB_add (f := f) (h := h) (e := fun _ => 0) (k := k) (fun j j1 j2 => by rw [e j j1 j2]; omega)
  rw [sumB_0 (fun _ _ _ => rfl)] at a
  omega
def netB (b : Int → Int) (x : Int) : Int := sumB (fun q => b (226 + 8 * q + x)) (b 2)
theorem net_0 {b : Int → Int} (hb : WB b) : sumB (netB b) (b 2) = 0 := by
  have hh := hb.1
  unfold WH at hh
  have hi : 0 ≤ b 2 ∧ b 2 ≤ 8 := by omega
  clear hh
  have e1 := sumB_fub (f := fun p q => b (226 + 8 * q + p)) (k := b 2) (b 2).toNat
  rw [show (((b 2).toNat : Nat) : Int) = b 2 by omega] at e1
  have e2 : sumB (fun q => sumB (fun p => b (226 + 8 * q + p)) (b 2)) (b 2) = - sumB (fun q => sumB (fun p => b (226 + 8 * p + q)) (b 2)) (b 2) :=
    sumB_neg (fun q q1 q2 => sumB_neg (fun p p1 p2 => by
      have := hb.2.2.2.2.1 p q p1 (by omega) q1 (by omega)
      omega))
  have e3 : sumB (netB b) (b 2) = sumB (fun p => sumB (fun q => b (226 + 8 * q + p)) (b 2)) (b 2) := rfl
  rw [e3]
  omega
def prB (b : Int → Int) (p : Int) : Int := if pmB b p = -1 then 0 else 1
theorem pm_of {b : Int → Int} {p : Int} (hb : WB b) (p1 : 0 ≤ p) (p2 : p < b 2) : pmB b p = -1 ∨ (0 ≤ pmB b p ∧ pmB b p < b 2 ∧ pmB b (pmB b p) = p ∧ ((b (106 + p) = 0 ∧ b (106 + pmB b p) = 1) ∨ (b (106 + p) = 1 ∧ b (106 + pmB b p) = 0))) := by
  have hh := hb.1
  unfold WH at hh
  obtain ⟨-, -, hc, hd, -⟩ := pm_GS (b := b) (by omega)
  have ez := WPb hb p1 p2
  by_cases w : b (106 + p) = 0
  · rcases hd p ⟨p1, p2, w⟩ with k | ⟨k1, k2⟩
    · exact Or.inl k
    · exact Or.inr ⟨k1.1, k1.2.1, k2, Or.inl ⟨w, k1.2.2⟩⟩
  · have w1 : b (106 + p) = 1 := by omega
    rcases hc p ⟨p1, p2, w1⟩ with ⟨k, -⟩ | ⟨k1, -, k2, -⟩
    · exact Or.inl k
    · exact Or.inr ⟨k1.1, k1.2.1, k2, Or.inr ⟨w1, k1.2.2⟩⟩
theorem npB_2 {b : Int → Int} (hb : WB b) : sumB (prB b) (b 2) = 2 * npB b := by
  have hh := hb.1
  unfold WH at hh
  have hi : 0 ≤ b 2 ∧ b 2 ≤ 8 := by omega
  clear hh
  have pm := fun p p1 p2 => pm_of (p := p) hb p1 p2
  have ez := fun p p1 p2 => WPb hb (p := p) p1 p2
  have e1 : npB b = sumB (fun p => sumB (fun q => if sgt b p ∧ bld b q ∧ pmB b p = q then 1 else 0) (b 2)) (b 2) := sumB_c (fun p p1 p2 => by
    by_cases w : sgt b p ∧ ¬ pmB b p = -1
    · rw [if_pos w]
      have k := (pm p p1 p2).resolve_left w.2
      have w3 := w.1.2.2
      have e := sum_pick (h := fun _ => 1) (a := pmB b p) k.1 (by omega)
      rw [← sumB_z (f := fun q => if q = pmB b p then 1 else 0) (k := b 2) (m := 8) hi.1 hi.2 (fun j j1 j2 => if_neg (by omega))] at e
      refine e.symm.trans (sumB_c (fun q q1 q2 => ?_))
      by_cases y : q = pmB b p
      · rw [if_pos y, if_pos ⟨w.1, ⟨q1, q2, by rw [y]; omega⟩, y.symm⟩]
      · rw [if_neg y, if_neg (fun z => y z.2.2.symm)]
    · rw [if_neg w]
      exact (sumB_0 (fun q q1 q2 => if_neg (fun z => w ⟨z.1, by have := z.2.2; omega⟩))).symm)
  have e2 : sumB (fun p => if bld b p ∧ ¬ pmB b p = -1 then 1 else 0) (b 2) = sumB (fun p => sumB (fun q => if sgt b q ∧ bld b p ∧ pmB b q = p then 1 else 0) (b 2)) (b 2) := sumB_c (fun p p1 p2 => by
    by_cases w : bld b p ∧ ¬ pmB b p = -1
    · rw [if_pos w]
      have k := (pm p p1 p2).resolve_left w.2
      have w3 := w.1.2.2
      have e := sum_pick (h := fun _ => 1) (a := pmB b p) k.1 (by omega)
      rw [← sumB_z (f := fun q => if q = pmB b p then 1 else 0) (k := b 2) (m := 8) hi.1 hi.2 (fun j j1 j2 => if_neg (by omega))] at e
      refine e.symm.trans (sumB_c (fun q q1 q2 => ?_))
      by_cases y : q = pmB b p
      · rw [if_pos y, if_pos ⟨⟨q1, q2, by rw [y]; omega⟩, w.1, by rw [y]; exact k.2.2.1⟩]
      · rw [if_neg y, if_neg (fun z => y (by
          have k2 := (pm q q1 q2).resolve_left (by have := z.2.2; omega)
          have := k2.2.2.1
          rw [z.2.2] at this
          exact this.symm))]
    · rw [if_neg w]
      refine (sumB_0 (fun q q1 q2 => if_neg (fun z => w ⟨z.2.1, ?_⟩))).symm
      have k2 := (pm q q1 q2).resolve_left (by have := z.2.2; omega)
      have := k2.2.2.1
      rw [z.2.2] at this
      omega)
  have e3 := sumB_fub (f := fun p q => if sgt b p ∧ bld b q ∧ pmB b p = q then (1 : Int) else 0) (k := b 2) (b 2).toNat
  rw [show (((b 2).toNat : Nat) : Int) = b 2 by omega] at e3
  have e4 : sumB (prB b) (b 2) = sumB (fun p => if sgt b p ∧ ¬ pmB b p = -1 then 1 else 0) (b 2) + sumB (fun p => if bld b p ∧ ¬ pmB b p = -1 then 1 else 0) (b 2) := sumB_add (fun p p1 p2 => by
    have := ez p p1 p2
    unfold prB
    by_cases w : pmB b p = -1
    · rw [if_pos w, if_neg (fun z => z.2 w), if_neg (fun z => z.2 w)]; rfl
    · rw [if_neg w]
      by_cases y : b (106 + p) = 0
      · rw [if_pos ⟨⟨p1, p2, y⟩, w⟩, if_neg (fun z => by have := z.1.2.2; omega)]; rfl
      · rw [if_neg (fun z => y z.1.2.2), if_pos ⟨⟨p1, p2, by omega⟩, w⟩]; rfl)
  have e5 : sumB (fun p => if sgt b p ∧ ¬ pmB b p = -1 then 1 else 0) (b 2) = npB b := rfl
  rw [e4, e5, e2]
  omega
