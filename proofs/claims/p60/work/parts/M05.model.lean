/-! ===== a block of the reference: what holds of it, and its small questions ===== -/
def WH (b : Int → Int) : Prop := 0 ≤ b 0 ∧ b 0 ≤ 8 ∧ 0 ≤ b 1 ∧ b 1 ≤ 12 ∧ 0 ≤ b 2 ∧ b 2 ≤ 8 ∧ 0 ≤ b 3 ∧ b 3 ≤ 23 ∧ b 3 < b 4 ∧ b 4 ≤ 24 ∧ 0 ≤ b 5 ∧ b 5 ≤ 200000 ∧ 1 ≤ b 6 ∧ b 6 ≤ 9 ∧ 1 ≤ b 7 ∧ b 7 ≤ 9 ∧ 0 ≤ b 8 ∧ b 8 ≤ 16 ∧ 0 ≤ b 9 ∧ b 9 ≤ 1
def WR (b : Int → Int) (r : Int) : Prop := 0 ≤ b (10 + r) ∧ b (10 + r) < b 0 ∧ 0 ≤ b (22 + r) ∧ b (22 + r) < b 0 ∧ ¬ b (10 + r) = b (22 + r) ∧ 1 ≤ b (34 + r) ∧ b (34 + r) ≤ 99 ∧ 0 ≤ b (46 + r) ∧ b (46 + r) ≤ 1
def WP (b : Int → Int) (p : Int) : Prop := 0 ≤ b (58 + p) ∧ b (58 + p) < b 0 ∧ -1 ≤ b (66 + p) ∧ b (66 + p) < b 0 ∧ 0 ≤ b (74 + p) ∧ b (74 + p) ≤ 99 ∧ -1 ≤ b (82 + p) ∧ b (82 + p) < b 2 ∧ 0 ≤ b (90 + p) ∧ b (90 + p) ≤ b 5 ∧ 0 ≤ b (98 + p) ∧ b (98 + p) ≤ 1 ∧ 0 ≤ b (106 + p) ∧ b (106 + p) ≤ 1 ∧ ((b (66 + p) = -1 ∧ b (74 + p) = 0 ∧ b (82 + p) = -1) ∨ (0 ≤ b (66 + p) ∧ 0 ≤ b (122 + p) ∧ b (122 + p) < b 1 ∧ 1 ≤ b (74 + p) ∧ b (74 + p) ≤ b (34 + b (122 + p)) ∧ 0 ≤ b (114 + p) ∧ b (114 + p) < b 0))
def WG (b : Int → Int) : Prop := ∀ p r, 0 ≤ p → p < 8 → 0 ≤ r → r < 12 → 0 ≤ b (130 + 12 * p + r) ∧ b (130 + 12 * p + r) ≤ 99
def WO (b : Int → Int) : Prop := ∀ p q, 0 ≤ p → p < 8 → 0 ≤ q → q < 8 → -9999 ≤ b (226 + 8 * p + q) ∧ b (226 + 8 * p + q) ≤ 9999 ∧ b (226 + 8 * q + p) = -b (226 + 8 * p + q)
/-- who is led goes as his leader -/
def WL (b : Int → Int) (p : Int) : Prop := b (82 + p) = -1 ∨ (¬ b (82 + p) = p ∧ 0 ≤ b (66 + p) ∧ b (66 + b (82 + p)) = b (66 + p) ∧ b (82 + b (82 + p)) = -1 ∧ b (122 + b (82 + p)) = b (122 + p) ∧ b (74 + b (82 + p)) = b (74 + p) ∧ b (114 + b (82 + p)) = b (114 + p))
def WB (b : Int → Int) : Prop := WH b ∧ (∀ r, 0 ≤ r → r < b 1 → WR b r) ∧ (∀ p, 0 ≤ p → p < b 2 → WP b p) ∧ WG b ∧ WO b ∧ (∀ p, 0 ≤ p → p < b 2 → WL b p)
abbrev glB (b : Int → Int) (t : Int) : Prop := b 9 = 0 ∧ b 3 ≤ t / 60 % 24 ∧ t / 60 % 24 < b 4
abbrev canB (b : Int → Int) (p r : Int) (g : Prop) : Prop := (b (106 + p) = 1 ∧ (b (46 + r) = 1 ∨ b 7 ≤ b (130 + 12 * p + r))) ∨ (b (106 + p) = 0 ∧ (¬ g ∨ b (98 + p) = 1))
abbrev canN (b : Int → Int) (p r : Int) : Prop := canB b p r (glB b (b 5))
/-- the road between two places of the block at k; -1: none -/
def rdK (b : Int → Int) (k x y : Int) : Int := fstI (fun r => decide ((b (k + 10 + r) = x ∧ b (k + 22 + r) = y) ∨ (b (k + 10 + r) = y ∧ b (k + 22 + r) = x))) (b (k + 1)).toNat 0
def rdB (b : Int → Int) (x y : Int) : Int := fstI (fun r => decide ((b (10 + r) = x ∧ b (22 + r) = y) ∨ (b (10 + r) = y ∧ b (22 + r) = x))) (b 1).toNat 0
theorem rdK0 {b : Int → Int} {x y : Int} : rdK b 0 x y = rdB b x y := by
  unfold rdK rdB
  simp only [Int.zero_add, Int.reduceAdd]
def btB (b : Int → Int) (x y : Int) : Int := if x = y then -1 else rdB b x y
theorem rdB_r {b : Int → Int} {x y : Int} (h : 0 ≤ b 1) : -1 ≤ rdB b x y ∧ rdB b x y < b 1 := by
  unfold rdB
  rcases fst_r (P := fun r => decide ((b (10 + r) = x ∧ b (22 + r) = y) ∨ (b (10 + r) = y ∧ b (22 + r) = x))) (b 1).toNat 0 (by omega) with ⟨e, -⟩ | ⟨e1, e2, -, -⟩
  · rw [e]; omega
  · omega
theorem btB_r {b : Int → Int} {x y : Int} (h : 0 ≤ b 1) : -1 ≤ btB b x y ∧ btB b x y < b 1 := by
  unfold btB
  by_cases q : x = y
  · rw [if_pos q]; omega
  · rw [if_neg q]; exact rdB_r h

