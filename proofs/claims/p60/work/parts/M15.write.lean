/-! ===== calls that change one or two people: cure, settle ===== -/
theorem WL_eq {b b' : Int → Int} {p : Int} (hb : WB b) (h1 : 0 ≤ p) (h2 : p < b 2) (h : ∀ z, 58 ≤ z → z < 90 → b' z = b z) (h' : ∀ z, 114 ≤ z → z < 130 → b' z = b z) : WL b' p := by
  have e := hb.2.2.2.2.2 p h1 h2
  have e2 := WPb hb h1 h2
  have hh := hb.1
  unfold WH at hh
  unfold WL at e ⊢
  rw [h (82 + p) (by omega) (by omega)]
  by_cases q : b (82 + p) = -1
  · exact Or.inl q
  · rw [h (66 + p) (by omega) (by omega), h' (122 + p) (by omega) (by omega), h (74 + p) (by omega) (by omega), h' (114 + p) (by omega) (by omega), h (66 + b (82 + p)) (by omega) (by omega), h' (122 + b (82 + p)) (by omega) (by omega), h (74 + b (82 + p)) (by omega) (by omega), h' (114 + b (82 + p)) (by omega) (by omega), h (82 + b (82 + p)) (by omega) (by omega)]
    exact e
theorem WP_eq {b b' : Int → Int} {p : Int} (hb : WB b) (h1 : 0 ≤ p) (h2 : p < b 2) (h0 : ∀ z, 0 ≤ z → z < 58 → b' z = b z) (h : ∀ z, 58 ≤ z → z < 90 → b' z = b z) (h' : ∀ z, 114 ≤ z → z < 130 → b' z = b z) (h3 : 0 ≤ b' (90 + p) ∧ b' (90 + p) ≤ b 5 ∧ 0 ≤ b' (98 + p) ∧ b' (98 + p) ≤ 1 ∧ 0 ≤ b' (106 + p) ∧ b' (106 + p) ≤ 1) : WP b' p := by
  have e := hb.2.2.1 p h1 h2
  have hh := hb.1
  unfold WH at hh
  have hh2 : b 1 ≤ 12 ∧ b 2 ≤ 8 := by omega
  clear hh
  unfold WP at e ⊢
  rw [h0 0 (by omega) (by omega), h0 1 (by omega) (by omega), h0 2 (by omega) (by omega), h0 5 (by omega) (by omega), h (58 + p) (by omega) (by omega), h (66 + p) (by omega) (by omega), h (74 + p) (by omega) (by omega), h (82 + p) (by omega) (by omega), h' (122 + p) (by omega) (by omega), h' (114 + p) (by omega) (by omega)]
  obtain ⟨a1, a2, a3, a4, a5, a6, a7, a8, a9, a10, a11, a12, a13, a14, a15⟩ := e
  obtain ⟨c1, c2, c3, c4, c5, c6⟩ := h3
  refine ⟨a1, a2, a3, a4, a5, a6, a7, a8, c1, c2, c3, c4, c5, c6, ?_⟩
  rcases a15 with d | ⟨d1, d2, d3, d4⟩
  · exact Or.inl d
  · right
    rw [h0 (34 + b (122 + p)) (by omega) (by omega)]
    exact ⟨d1, d2, d3, d4⟩
/-- one person's fields, by field-wise facts -/
theorem GR_q {g g' : Int → Int → Int → Int} {b b' : Int → Int} (hg : GR g b) (h1 : b' 1 = b 1) (h2 : b' 2 = b 2) (hf : ∀ p, 0 ≤ p → p < b 2 → GP g b p → GP g' b' p) (hG : ∀ p r, 0 ≤ p → p < b 2 → 0 ≤ r → r < b 1 → g' p 1 r = g p 1 r ∧ b' (130 + 12 * p + r) = b (130 + 12 * p + r) ∨ g' p 1 r = b' (130 + 12 * p + r)) (hO : ∀ p q, 0 ≤ p → p < b 2 → 0 ≤ q → q < b 2 → g' p 2 q = g p 2 q ∧ b' (226 + 8 * p + q) = b (226 + 8 * p + q) ∨ g' p 2 q = b' (226 + 8 * p + q)) (hB : ∀ p, b 2 ≤ p → p < 8 → g' p 0 3 = g p 0 3 ∧ g' p 0 4 = g p 0 4) (hW : ∀ p, 0 ≤ p → p < b' 2 → 0 ≤ b' (98 + p) ∧ b' (98 + p) ≤ 1 ∧ 0 ≤ b' (106 + p) ∧ b' (106 + p) ≤ 1) : GR g' b' := by
  have hf' := fun p x y => hf p x y (hg.1 p x y)
  refine ⟨fun p x y => hf p x (by omega) (hg.1 p x (by omega)), fun p r x y z w => ?_, fun p q x y z w => ?_, fun p x y => ?_⟩
  · rcases hG p r x (by omega) z (by omega) with e | e
    · rw [e.1, e.2]; exact hg.2.1 p r x (by omega) z (by omega)
    · exact e
  · rcases hO p q x (by omega) z (by omega) with e | e
    · rw [e.1, e.2]; exact hg.2.2.1 p q x (by omega) z (by omega)
    · exact e
  · by_cases w : p < b 2
    · have e := hf' p x w
      have e2 := hW p x (by omega)
      unfold GP at e
      omega
    · rw [(hB p (by omega) y).1, (hB p (by omega) y).2]; exact hg.2.2.2 p x y
