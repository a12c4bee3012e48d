/-! ===== read, write, copyPlaces ===== -/
def plS (m x y : Int) : Int := if 0 ≤ x ∧ x < 4 then (if m < 0 then 3 else if 0 ≤ y ∧ y < m then 0 else 4) else 1
theorem plS_r {m x y : Int} : plS m x y = 0 ∨ plS m x y = 1 ∨ plS m x y = 3 ∨ plS m x y = 4 := by
  unfold plS
  by_cases w1 : 0 ≤ x ∧ x < 4
  · rw [if_pos w1]
    by_cases w2 : m < 0
    · rw [if_pos w2]; omega
    · rw [if_neg w2]
      by_cases w3 : 0 ≤ y ∧ y < m
      · rw [if_pos w3]; omega
      · rw [if_neg w3]; omega
  · rw [if_neg w1]; omega
theorem plS_0 {m x y : Int} (h : plS m x y = 0) : 0 ≤ x ∧ x < 4 ∧ 0 ≤ y ∧ y < m := by
  unfold plS at h
  by_cases w1 : 0 ≤ x ∧ x < 4
  · rw [if_pos w1] at h
    by_cases w2 : m < 0
    · rw [if_pos w2] at h; omega
    · rw [if_neg w2] at h
      by_cases w3 : 0 ≤ y ∧ y < m
      · exact ⟨w1.1, w1.2, w3.1, w3.2⟩
      · rw [if_neg w3] at h; omega
  · rw [if_neg w1] at h; omega
theorem TR_m {M : KM} (h : TRs M) (x : Int) : ∃ m, -1 ≤ m ∧ m ≤ 60 ∧ (0 ≤ x → x < 4 → M.1 (0 + 1 + 104 + 2 * x.toNat) 2 = zI m) ∧ (0 ≤ x → x < 4 → M.1 229 x.toNat = zI m) ∧ (0 ≤ x → x < 4 → ∃ s, 0 ≤ s ∧ s ≤ 3 ∧ M.1 (0 + 1 + 104 + 2 * x.toNat) 1 = zI s ∧ M.1 228 x.toNat = zI s ∧ ∀ k : Int, 0 ≤ k → k < m → M.2.1 (0 + 1 + 104 + 2 * x.toNat + 1) k.toNat = M.2.1 230 (60 * x + k).toNat) := by
  by_cases w : 0 ≤ x ∧ x < 4
  · obtain ⟨s, m, c1, c2, c3, c4, c5, c6, c7, c8, c9⟩ := h x w.1 w.2
    exact ⟨m, c3, c4, fun _ _ => by rw [show 0 + 1 + 104 + 2 * x.toNat = 1 + 104 + 2 * x.toNat by omega]; exact c7, fun _ _ => c8, fun _ _ => ⟨s, c1, c2, by rw [show 0 + 1 + 104 + 2 * x.toNat = 1 + 104 + 2 * x.toNat by omega]; exact c5, c6, fun k u v => by rw [show 0 + 1 + 104 + 2 * x.toNat + 1 = 1 + 104 + 2 * x.toNat + 1 by omega]; exact c9 k u v⟩⟩
  · exact ⟨0, by omega, by omega, fun u v => absurd ⟨u, v⟩ w, fun u v => absurd ⟨u, v⟩ w, fun u v => absurd ⟨u, v⟩ w⟩
