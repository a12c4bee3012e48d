/-! ===== pair, pairs, pairsOwe ===== -/
theorem SM_pq {X : KM} {m : Int → Int} {A : Int → Int → Bool} : SM X (pq X 240 241 m A) := ⟨rfl, fun _ _ _ => rfl, fun c k hc => pq_o (by omega) (by omega)⟩
theorem sum8 {f : Int → Int} : sumB f 8 = f 0 + f 1 + f 2 + f 3 + f 4 + f 5 + f 6 + f 7 := by
  show 0 + f 0 + f (0 + 1) + f (0 + 1 + 1) + f (0 + 1 + 1 + 1) + f (0 + 1 + 1 + 1 + 1) + f (0 + 1 + 1 + 1 + 1 + 1) + f (0 + 1 + 1 + 1 + 1 + 1 + 1) + f (0 + 1 + 1 + 1 + 1 + 1 + 1 + 1) = _
  rw [Int.zero_add]
  rfl
theorem sum_sw {H : Int → Int → Int} : sumB (fun p => sumB (fun q => H p q) 8) 8 = sumB (fun q => sumB (fun p => H p q) 8) 8 := by
  simp only [sum8]
  omega
theorem sum_pick {h : Int → Int} {a : Int} (h1 : 0 ≤ a) (h2 : a < 8) : sumB (fun q => if q = a then h q else 0) 8 = h a := by
  have := sumB_one (f := fun _ => 0) (h := fun q => if q = a then h q else 0) (q := a) (d := h a) (k := 8) (by simp only [if_true]; omega) (fun i hi => if_neg hi) h1 h2
  rw [this, show sumB (fun _ => 0) 8 = 0 from rfl]; omega
theorem sum_0 {h : Int → Int} (hz : ∀ q, 0 ≤ q → q < 8 → h q = 0) : sumB h 8 = 0 := by
  rw [sumB_c (h := fun _ => 0) hz]; rfl
/-- both ways to count pairs -/
theorem two_ways {b : Int → Int} {m : Int → Int} {A : Int → Int → Bool} {v : Int → Int → Int} (h0 : 0 ≤ b 2) (h8 : b 2 ≤ 8) (hG : GS b (m, A)) (h01 : ∀ j, 0 ≤ j → j < b 2 → b (106 + j) = 0 ∨ b (106 + j) = 1) (hv : ∀ p q, sgt b p → bld b q → v p q = v q p) : sumB (fun p => if sgt b p ∧ ¬ m p = -1 then v p (m p) else 0) 8 = sumB (fun p => if p < m p then v p (m p) else 0) 8 := by
  obtain ⟨-, -, hc, hd, he⟩ := hG
  have hc : ∀ q, bld b q → m q = -1 ∨ (sgt b (m q) ∧ m (m q) = q) := fun q hq => by
    rcases hc q hq with ⟨z, -⟩ | ⟨z1, -, z2, -⟩
    · exact Or.inl z
    · exact Or.inr ⟨z1, z2⟩
  have hd : ∀ p, sgt b p → m p = -1 ∨ (bld b (m p) ∧ m (m p) = p) := hd
  have e1 : sumB (fun p => if sgt b p ∧ ¬ m p = -1 then v p (m p) else 0) 8 = sumB (fun p => sumB (fun q => if sgt b p ∧ bld b q ∧ m p = q then v p q else 0) 8) 8 := sumB_c (fun p p1 p2 => by
    by_cases w : sgt b p ∧ ¬ m p = -1
    · rw [if_pos w]
      have k := (hd p w.1).resolve_left w.2
      rw [sumB_c (h := fun q => if q = m p then v p q else 0) (fun q q1 q2 => by
        by_cases y : q = m p
        · rw [if_pos y, if_pos ⟨w.1, by rw [y]; exact k.1, y.symm⟩]
        · rw [if_neg y, if_neg (fun z => y z.2.2.symm)])]
      exact (sum_pick k.1.1 (by have := k.1.2.1; omega)).symm
    · rw [if_neg w]
      exact (sum_0 (fun q q1 q2 => if_neg (fun z => w ⟨z.1, by have := z.2.1.1; omega⟩))).symm)
  have e2 : sumB (fun p => if p < m p then v p (m p) else 0) 8 = sumB (fun p => sumB (fun q => (if p < q ∧ sgt b p ∧ bld b q ∧ m p = q then v p q else 0) + (if p < q ∧ sgt b q ∧ bld b p ∧ m q = p then v q p else 0)) 8) 8 := sumB_c (fun p p1 p2 => by
    by_cases hs : sgt b p
    · rcases hd p hs with k | k
      · rw [if_neg (by omega)]
        refine (sum_0 (fun q q1 q2 => ?_)).symm
        rw [if_neg (fun z => by have := z.2.2.2; omega), if_neg (fun z => by have a := z.2.2.1.2.2; have c := hs.2.2; omega)]; rfl
      · rw [sumB_c (f := fun q => (if p < q ∧ sgt b p ∧ bld b q ∧ m p = q then v p q else 0) + (if p < q ∧ sgt b q ∧ bld b p ∧ m q = p then v q p else 0)) (h := fun q => if q = m p then (if p < m p then v p q else 0) else 0) (fun q q1 q2 => by
          rw [if_neg (show ¬ (p < q ∧ sgt b q ∧ bld b p ∧ m q = p) from fun z => by have a := z.2.2.1.2.2; have c := hs.2.2; omega), Int.add_zero]
          by_cases y : q = m p
          · rw [if_pos y]
            by_cases u : p < m p
            · rw [if_pos u, if_pos ⟨by omega, hs, by rw [y]; exact k.1, y.symm⟩]
            · rw [if_neg u, if_neg (fun z => by have := z.1; omega)]
          · rw [if_neg y, if_neg (fun z => y z.2.2.2.symm)])]
        exact (sum_pick (h := fun q => if p < m p then v p q else 0) k.1.1 (by have := k.1.2.1; omega)).symm
    · by_cases hbl : bld b p
      · rcases hc p hbl with k | k
        · rw [if_neg (by omega)]
          refine (sum_0 (fun q q1 q2 => ?_)).symm
          rw [if_neg (fun z => hs z.2.1), if_neg (fun z => by
            rcases hd q z.2.1 with y | y
            · have := z.2.2.2; omega
            · have a := y.2
              rw [z.2.2.2, k] at a
              omega)]; rfl
        · rw [sumB_c (f := fun q => (if p < q ∧ sgt b p ∧ bld b q ∧ m p = q then v p q else 0) + (if p < q ∧ sgt b q ∧ bld b p ∧ m q = p then v q p else 0)) (h := fun q => if q = m p then (if p < m p then v p q else 0) else 0) (fun q q1 q2 => by
            rw [if_neg (show ¬ (p < q ∧ sgt b p ∧ bld b q ∧ m p = q) from fun z => hs z.2.1), Int.zero_add]
            by_cases y : q = m p
            · rw [if_pos y]
              by_cases u : p < m p
              · rw [if_pos u, if_pos ⟨by omega, by rw [y]; exact k.1, hbl, by rw [y]; exact k.2⟩]
                exact hv q p (by rw [y]; exact k.1) hbl
              · rw [if_neg u, if_neg (fun z => by have := z.1; omega)]
            · rw [if_neg y, if_neg (fun z => by
                rcases hd q z.2.1 with x | x
                · have := z.2.2.2; omega
                · have a := x.2
                  rw [z.2.2.2] at a
                  exact y a.symm)])]
          exact (sum_pick (h := fun q => if p < m p then v p q else 0) k.1.1 (by have := k.1.2.1; omega)).symm
      · by_cases hr : 0 ≤ p ∧ p < b 2
        · exfalso
          rcases h01 p hr.1 hr.2 with z | z
          · exact hs ⟨hr.1, hr.2, z⟩
          · exact hbl ⟨hr.1, hr.2, z⟩
        · have k := he p hr
          have k : m p = -1 := k
          rw [if_neg (by omega)]
          exact (sum_0 (fun q q1 q2 => by rw [if_neg (fun z => hs z.2.1), if_neg (fun z => hbl z.2.2.1)]; rfl)).symm)
  have e3 : sumB (fun p => sumB (fun q => if p < q ∧ sgt b q ∧ bld b p ∧ m q = p then v q p else 0) 8) 8 = sumB (fun p => sumB (fun q => if q < p ∧ sgt b p ∧ bld b q ∧ m p = q then v p q else 0) 8) 8 := sum_sw (H := fun p q => if p < q ∧ sgt b q ∧ bld b p ∧ m q = p then v q p else 0)
  rw [e1, e2]
  rw [sumB_add (f := fun p => sumB (fun q => if p < q ∧ sgt b p ∧ bld b q ∧ m p = q then v p q else 0) 8) (h := fun p => sumB (fun q => if p < q ∧ sgt b q ∧ bld b p ∧ m q = p then v q p else 0) 8) (fun p _ _ => sumB_add (fun q _ _ => rfl)), e3]
  refine sumB_add (fun p _ _ => sumB_add (fun q _ _ => ?_))
  by_cases w : sgt b p ∧ bld b q ∧ m p = q
  · rw [if_pos w]
    have pq : ¬ p = q := fun z => by have a := w.1.2.2; have c := w.2.1.2.2; rw [z] at a; omega
    by_cases y : p < q
    · rw [if_pos ⟨y, w⟩, if_neg (fun z => by have := z.1; omega)]; omega
    · rw [if_neg (fun z => y z.1), if_pos ⟨by omega, w⟩]; omega
  · rw [if_neg w, if_neg (fun z => w z.2), if_neg (fun z => w z.2)]; rfl

