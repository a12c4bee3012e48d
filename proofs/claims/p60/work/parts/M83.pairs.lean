/-! ===== pair, pairs, pairsOwe: both alike ===== -/

theorem mr_of {b : Int → Int} {m : Int → Int} {A : Int → Int → Bool} (hb : WB b) (hG : GS b (m, A)) {j : Int} : m j = -1 ∨ ((0 ≤ m j ∧ m j < b 2) ∧ 0 ≤ j ∧ j < b 2) := by
  by_cases hj : 0 ≤ j ∧ j < b 2
  · by_cases hs : b (106 + j) = 0
    · rcases hG.2.2.2.1 j ⟨hj.1, hj.2, hs⟩ with z | ⟨z, -⟩
      · exact Or.inl z
      · exact Or.inr ⟨⟨z.1, z.2.1⟩, hj⟩
    · have := WPb hb hj.1 hj.2
      rcases hG.2.2.1 j ⟨hj.1, hj.2, by omega⟩ with ⟨z, -⟩ | ⟨z, -⟩
      · exact Or.inl z
      · exact Or.inr ⟨⟨z.1, z.2.1⟩, hj⟩
  · exact Or.inl (hG.2.2.2.2 j hj)
theorem sum_in {f : Int → Int} {k : Int} (h0 : 0 ≤ k) (h8 : k ≤ 8) (hz : ∀ j, k ≤ j → j < 8 → f j = 0) : sumB f k = sumB f 8 := sumB_z h0 h8 hz
def aV (x : Int) : Int := if 0 ≤ x then x else -x
theorem aV_z {x : Int} (h : -9999 ≤ x ∧ x ≤ 9999) : (if zI 0 ≤ zI x then zI x else zI (0 - x)) = zI (aV x) := by
  unfold aV
  by_cases w : 0 ≤ x
  · rw [if_pos w, if_pos (of_eq_true (zleT w (by omega) (by omega)))]
  · rw [if_neg w, if_neg (of_eq_false (zleF (by omega) (by omega) (by omega))), Int.zero_sub]
