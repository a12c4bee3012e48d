/-! ===== go and lead, closed ===== -/
/-- what going out leaves of the block: r the road, m its minutes -/
def Led (b b' : Int → Int) (p s to : Int) : Prop := (∀ z, ¬ (58 ≤ z ∧ z < 130) → b' z = b z) ∧ (∀ q, 0 ≤ q → q < b 2 → b' (58 + q) = b (58 + q) ∧ b' (90 + q) = b (90 + q) ∧ b' (98 + q) = b (98 + q) ∧ b' (106 + q) = b (106 + q)) ∧ (∀ q, 0 ≤ q → q < b 2 → (q = p ∨ hasS s q = true) → b' (66 + q) = to ∧ b' (74 + q) = b (34 + goR b p to) ∧ b' (82 + q) = (if q = p then -1 else p) ∧ b' (114 + q) = b (58 + q) ∧ b' (122 + q) = goR b p to) ∧ (∀ q, 0 ≤ q → q < b 2 → ¬ (q = p ∨ hasS s q = true) → b' (66 + q) = b (66 + q) ∧ b' (74 + q) = b (74 + q) ∧ b' (82 + q) = b (82 + q) ∧ b' (114 + q) = b (114 + q) ∧ b' (122 + q) = b (122 + q))
theorem ou_b {b : Int → Int} {p s to z : Int} (h0 : 0 ≤ b 2) (h8 : b 2 ≤ 8) (h1 : 0 ≤ p) (h2 : p < b 2) (hs : hasS s p = false) : ouB b p s to z = if own z = p then lvB2 (goR b p to) to (b (34 + goR b p to)) (-1) b p z else if 0 ≤ own z ∧ own z < b 2 ∧ hasS s (own z) = true then lvB2 (goR b p to) to (b (34 + goR b p to)) p b (own z) z else b z := by
  have hf : ∀ z, fI (bIf (hasS s) (lvB2 (goR b p to) to (b (34 + goR b p to)) p)) (b 2).toNat 0 b z = if 0 ≤ own z ∧ own z < 0 + ((b 2).toNat : Int) ∧ hasS s (own z) = true then lvB2 (goR b p to) to (b (34 + goR b p to)) p b (own z) z else b z := fun z => fold_b (lvB1 _ _ _ _) (lvB2' _ _ _ _) _ _ _ _ (by omega) (by omega)
  unfold ouB
  by_cases e : own z = p
  · rw [if_pos e]
    refine lvB1 _ _ _ _ _ _ p h1 (by omega) (fun y hy => ?_) z e
    rw [hf, if_neg (fun w => ?_)]
    rcases hy with hy | hy
    · rw [hy, hs] at w; exact absurd w.2.2 (by decide)
    · rw [own_n hy] at w; omega
  · rw [if_neg e, lvB2' _ _ _ _ _ _ _ h1 (by omega) e, hf]
    by_cases t : 0 ≤ own z ∧ own z < b 2 ∧ hasS s (own z) = true
    · rw [if_pos t, if_pos ⟨by omega, by omega, t.2.2⟩]
    · rw [if_neg t, if_neg (fun w => t ⟨by omega, by omega, w.2.2⟩)]
theorem ou_T {b : Int → Int} {p s to : Int} (h0 : 0 ≤ b 2) (h8 : b 2 ≤ 8) (h1 : 0 ≤ p) (h2 : p < b 2) (hs : hasS s p = false) : Led b (ouB b p s to) p s to := by
  have key : ∀ q z, own z = q → 0 ≤ q → q < b 2 → (q = p → ouB b p s to z = lvB2 (goR b p to) to (b (34 + goR b p to)) (-1) b q z) ∧ (¬ q = p → hasS s q = true → ouB b p s to z = lvB2 (goR b p to) to (b (34 + goR b p to)) p b q z) ∧ (¬ (q = p ∨ hasS s q = true) → ouB b p s to z = b z) := by
    intro q z hq h3 h4
    rw [ou_b h0 h8 h1 h2 hs, hq]
    refine ⟨fun e => ?_, fun e t => ?_, fun e => ?_⟩
    · rw [if_pos e, e]
    · rw [if_neg e, if_pos ⟨h3, h4, t⟩]
    · rw [if_neg (fun w => e (Or.inl w)), if_neg (fun w => e (Or.inr w.2.2))]
  have val : ∀ q l, 0 ≤ q → q < 8 → lvB2 (goR b p to) to (b (34 + goR b p to)) l b q (58 + q) = b (58 + q) ∧ lvB2 (goR b p to) to (b (34 + goR b p to)) l b q (66 + q) = to ∧ lvB2 (goR b p to) to (b (34 + goR b p to)) l b q (74 + q) = b (34 + goR b p to) ∧ lvB2 (goR b p to) to (b (34 + goR b p to)) l b q (82 + q) = l ∧ lvB2 (goR b p to) to (b (34 + goR b p to)) l b q (90 + q) = b (90 + q) ∧ lvB2 (goR b p to) to (b (34 + goR b p to)) l b q (98 + q) = b (98 + q) ∧ lvB2 (goR b p to) to (b (34 + goR b p to)) l b q (106 + q) = b (106 + q) ∧ lvB2 (goR b p to) to (b (34 + goR b p to)) l b q (114 + q) = b (58 + q) ∧ lvB2 (goR b p to) to (b (34 + goR b p to)) l b q (122 + q) = goR b p to := by
    intro q l h3 h4
    generalize goR b p to = r
    unfold lvB2
    simp (disch := first | omega | assumption) only [bu_o, bu_s, and_self]
  refine ⟨fun z hz => ?_, fun q h3 h4 => ?_, fun q h3 h4 h => ?_, fun q h3 h4 h => ?_⟩
  · rw [ou_b h0 h8 h1 h2 hs]
    have st : ∀ q l, 0 ≤ q → q < 8 → lvB2 (goR b p to) to (b (34 + goR b p to)) l b q z = b z := fun q l x y => by
      unfold lvB2
      rw [bu_o (by omega), bu_o (by omega), bu_o (by omega), bu_o (by omega), bu_o (by omega)]
    by_cases e : own z = p
    · rw [if_pos e]; exact st p _ h1 (by omega)
    · rw [if_neg e]
      by_cases t : 0 ≤ own z ∧ own z < b 2 ∧ hasS s (own z) = true
      · rw [if_pos t]; exact st _ _ t.1 (by omega)
      · rw [if_neg t]
  · obtain ⟨a0, a1, a2⟩ := key q (58 + q) (own_0 h3 (by omega)) h3 h4
    obtain ⟨c0, c1, c2⟩ := key q (90 + q) (own_4 h3 (by omega)) h3 h4
    obtain ⟨d0, d1, d2⟩ := key q (98 + q) (own_5 h3 (by omega)) h3 h4
    obtain ⟨f0, f1, f2⟩ := key q (106 + q) (own_6 h3 (by omega)) h3 h4
    by_cases e : q = p
    · have v := val q (-1) h3 (by omega)
      rw [a0 e, c0 e, d0 e, f0 e]
      exact ⟨v.1, v.2.2.2.2.1, v.2.2.2.2.2.1, v.2.2.2.2.2.2.1⟩
    · by_cases t : hasS s q = true
      · have v := val q p h3 (by omega)
        rw [a1 e t, c1 e t, d1 e t, f1 e t]
        exact ⟨v.1, v.2.2.2.2.1, v.2.2.2.2.2.1, v.2.2.2.2.2.2.1⟩
      · have n : ¬ (q = p ∨ hasS s q = true) := fun w => w.elim e t
        rw [a2 n, c2 n, d2 n, f2 n]
        exact ⟨rfl, rfl, rfl, rfl⟩
  · obtain ⟨a0, a1, a2⟩ := key q (66 + q) (own_1 h3 (by omega)) h3 h4
    obtain ⟨c0, c1, c2⟩ := key q (74 + q) (own_2 h3 (by omega)) h3 h4
    obtain ⟨d0, d1, d2⟩ := key q (82 + q) (own_3 h3 (by omega)) h3 h4
    obtain ⟨f0, f1, f2⟩ := key q (114 + q) (own_7 h3 (by omega)) h3 h4
    obtain ⟨i0, i1, i2⟩ := key q (122 + q) (own_8 h3 (by omega)) h3 h4
    by_cases e : q = p
    · have v := val q (-1) h3 (by omega)
      rw [a0 e, c0 e, d0 e, f0 e, i0 e, if_pos e]
      exact ⟨v.2.1, v.2.2.1, v.2.2.2.1, v.2.2.2.2.2.2.2.1, v.2.2.2.2.2.2.2.2⟩
    · have t : hasS s q = true := h.resolve_left e
      have v := val q p h3 (by omega)
      rw [a1 e t, c1 e t, d1 e t, f1 e t, i1 e t, if_neg e]
      exact ⟨v.2.1, v.2.2.1, v.2.2.2.1, v.2.2.2.2.2.2.2.1, v.2.2.2.2.2.2.2.2⟩
  · rw [(key q (66 + q) (own_1 h3 (by omega)) h3 h4).2.2 h, (key q (74 + q) (own_2 h3 (by omega)) h3 h4).2.2 h, (key q (82 + q) (own_3 h3 (by omega)) h3 h4).2.2 h, (key q (114 + q) (own_7 h3 (by omega)) h3 h4).2.2 h, (key q (122 + q) (own_8 h3 (by omega)) h3 h4).2.2 h]
    exact ⟨rfl, rfl, rfl, rfl, rfl⟩
theorem ou_g {b : Int → Int} {g : Int → Int → Int → Int} {p s to q j l : Int} (h1 : 0 ≤ p) (h2 : p < b 2) (hs : hasS s p = false) (h3 : 0 ≤ q) (h4 : q < b 2) : ouG b g p s to q j l = if q = p then lvG (goR b p to) to (b (34 + goR b p to)) (-1) g q q j l else if hasS s q = true then lvG (goR b p to) to (b (34 + goR b p to)) p g q q j l else g q j l := by
  unfold ouG
  by_cases e : q = p
  · rw [if_pos e, e]
    refine lvG1 _ _ _ _ _ _ p (fun j k => ?_) j l
    rw [fold_g (lvG1 _ _ _ _) (lvG2 _ _ _ _), if_neg (fun z => by rw [hs] at z; exact absurd z.2.2 (by decide))]
  · rw [if_neg e, lvG2 _ _ _ _ _ _ _ _ _ e, fold_g (lvG1 _ _ _ _) (lvG2 _ _ _ _)]
    by_cases t : hasS s q = true
    · rw [if_pos t, if_pos ⟨h3, by omega, t⟩]
    · rw [if_neg t, if_neg (fun z => t z.2.2)]
theorem aw_all {b : Int → Int} {p s : Int} (h : awB b p s = -1) {q : Int} (h1 : 0 ≤ q) (h2 : q < b 2) (hs : hasS s q = true) : b (66 + q) < 0 ∧ b (58 + q) = b (58 + p) := by
  rcases fst_r (P := fun q => hasS s q && !(decide (b (66 + q) < 0 ∧ b (58 + q) = b (58 + p)))) (b 2).toNat 0 (by omega) with ⟨-, e⟩ | ⟨e1, e2, -, -⟩
  · have e3 := e q h1 (by omega)
    rw [hs] at e3
    simp only [Bool.true_and, Bool.not_eq_false'] at e3
    exact of_decide_eq_true e3
  · unfold awB at h; rw [h] at e1; omega

