/-! ===== what a copied land holds ===== -/
theorem WB_c {b b' : Int → Int} (hb : WB b) (h : ∀ z, 0 ≤ z → z < 290 → b' z = b z) : WB b' := by
  obtain ⟨h1, h2, h3, h4, h5, h6⟩ := hb
  have hh := h1
  unfold WH at hh
  have i : b 0 ≤ 8 ∧ b 1 ≤ 12 ∧ b 2 ≤ 8 := by omega
  have h0' := h 0 (by omega) (by omega)
  have h1' := h 1 (by omega) (by omega)
  have h2' := h 2 (by omega) (by omega)
  refine ⟨?_, fun r u v => ?_, fun p u v => ?_, fun p r a c d e => ?_, fun p q a c d e => ?_, fun p u v => ?_⟩
  · unfold WH
    rw [h0', h1', h2', h 3 (by omega) (by omega), h 4 (by omega) (by omega), h 5 (by omega) (by omega), h 6 (by omega) (by omega), h 7 (by omega) (by omega), h 8 (by omega) (by omega), h 9 (by omega) (by omega)]
    exact h1
  · rw [h1'] at v
    have := h2 r u v
    unfold WR at this ⊢
    rw [h0', h (10 + r) (by omega) (by omega), h (22 + r) (by omega) (by omega), h (34 + r) (by omega) (by omega), h (46 + r) (by omega) (by omega)]
    exact this
  · rw [h2'] at v
    have := h3 p u v
    unfold WP at this ⊢
    have e34 : 0 ≤ b (122 + p) → b (122 + p) < b 1 → b' (34 + b (122 + p)) = b (34 + b (122 + p)) := fun a c => h _ (by omega) (by omega)
    rw [h0', h1', h2', h 5 (by omega) (by omega), h (58 + p) (by omega) (by omega), h (66 + p) (by omega) (by omega), h (74 + p) (by omega) (by omega), h (82 + p) (by omega) (by omega), h (90 + p) (by omega) (by omega), h (98 + p) (by omega) (by omega), h (106 + p) (by omega) (by omega), h (114 + p) (by omega) (by omega), h (122 + p) (by omega) (by omega)]
    refine ⟨this.1, this.2.1, this.2.2.1, this.2.2.2.1, this.2.2.2.2.1, this.2.2.2.2.2.1, this.2.2.2.2.2.2.1, this.2.2.2.2.2.2.2.1, this.2.2.2.2.2.2.2.2.1, this.2.2.2.2.2.2.2.2.2.1, this.2.2.2.2.2.2.2.2.2.2.1, this.2.2.2.2.2.2.2.2.2.2.2.1, this.2.2.2.2.2.2.2.2.2.2.2.2.1, this.2.2.2.2.2.2.2.2.2.2.2.2.2.1, ?_⟩
    rcases this.2.2.2.2.2.2.2.2.2.2.2.2.2.2 with z | z
    · exact Or.inl z
    · refine Or.inr ⟨z.1, z.2.1, z.2.2.1, z.2.2.2.1, ?_, z.2.2.2.2.2⟩
      rw [e34 z.2.1 z.2.2.1]; exact z.2.2.2.2.1
  · rw [h _ (by omega) (by omega)]; exact h4 p r a c d e
  · rw [h _ (by omega) (by omega), h _ (by omega) (by omega)]; exact h5 p q a c d e
  · rw [h2'] at v
    have hp := h3 p u v
    unfold WP at hp
    have := h6 p u v
    unfold WL at this ⊢
    rw [h (82 + p) (by omega) (by omega)]
    rcases this with z | z
    · exact Or.inl z
    · refine Or.inr ?_
      by_cases y : b (82 + p) = -1
      · exfalso
        have := z.2.1
        rcases hp.2.2.2.2.2.2.2.2.2.2.2.2.2.2 with w | w
        · omega
        · have z3 := z.2.2.1
          have z4 := z.2.2.2.1
          have z7 := z.2.2.2.2.2.2
          sorry
      · rw [h (66 + p) (by omega) (by omega), h (66 + b (82 + p)) (by omega) (by omega), h (82 + b (82 + p)) (by omega) (by omega), h (122 + b (82 + p)) (by omega) (by omega), h (122 + p) (by omega) (by omega), h (74 + b (82 + p)) (by omega) (by omega), h (74 + p) (by omega) (by omega), h (114 + b (82 + p)) (by omega) (by omega), h (114 + p) (by omega) (by omega)]
        exact z
