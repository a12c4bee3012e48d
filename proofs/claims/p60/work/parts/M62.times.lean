/-! ===== later off, later there ===== -/
theorem aI_mono {b : Int → Int} {p r s v : Int} (hb : WB b) (h3 : 0 ≤ r) (h4 : r < b 1) (hs : 0 ≤ s) (hsv : s ≤ v) (hv : v ≤ 900000 ∨ v = 1000000000) (hs2 : s ≤ 900000 ∨ s = 1000000000) : aI b p r s ≤ aI b p r v := by
  have rs := aI_r (p := p) hb h3 h4 hs hs2
  have rv := aI_r (p := p) hb h3 h4 (show 0 ≤ v by omega) hv
  rcases hv with hv | hv
  · have hh := hb.1
    unfold WH at hh
    have hR := hb.2.1 r h3 h4
    unfold WR at hR
    have hi : 0 ≤ b 3 ∧ b 3 ≤ 23 ∧ b 3 < b 4 ∧ b 4 ≤ 24 ∧ 1 ≤ b (34 + r) ∧ b (34 + r) ≤ 99 := by omega
    clear hh hR
    have w0 : ¬ 1000000000 ≤ s := by omega
    have w1 : ¬ 1000000000 ≤ v := by omega
    unfold aI
    rcases pcB_r (b := b) (p := p) (r := r) with e | e | e
    · rw [e, dnI_0 w0, dnI_0 w1]; omega
    · rw [e]
      by_cases w : b 3 = 0 ∧ b 4 = 24
      · rw [w.1, w.2, dnI_F w0, dnI_F w1]; omega
      · rw [dnI_1 w0 w, dnI_1 w1 w]
        have d := dnC_b (s := v) (k := b (34 + r)) hi.1 hi.2.1 hi.2.2.1 hi.2.2.2.1 (by omega) hi.2.2.2.2.1 hi.2.2.2.2.2 w
        have l1 := dnC_le (s := v) (k := b (34 + r)) (n := dnC (b 3) (b 4) v (b (34 + r))) hi.1 hi.2.1 hi.2.2.1 hi.2.2.2.1 (by omega) hi.2.2.2.2.1 w (by omega)
        have l2 := dnC_le (s := s) (k := b (34 + r)) (n := dnC (b 3) (b 4) v (b (34 + r))) hi.1 hi.2.1 hi.2.2.1 hi.2.2.2.1 hs hi.2.2.2.2.1 w (by omega)
        have c := cl_m (m := s) (n := v) hi.1 hi.2.1 hi.2.2.1 hi.2.2.2.1 hs hsv
        have := l1.mp (by omega)
        exact l2.mpr (by omega)
    · rw [e, dnI_2, dnI_2]; omega
  · have : 1000000000 ≤ aI b p r v := by omega
    omega
theorem a2I_mono {b : Int → Int} {p q r s v : Int} (hb : WB b) (h3 : 0 ≤ r) (h4 : r < b 1) (hs : 0 ≤ s) (hsv : s ≤ v) (hv : v ≤ 900000 ∨ v = 1000000000) (hs2 : s ≤ 900000 ∨ s = 1000000000) : a2I b p q r s ≤ a2I b p q r v := by
  have m1 := aI_mono (p := p) hb h3 h4 hs hsv hv hs2
  have m2 := aI_mono (p := q) hb h3 h4 hs hsv hv hs2
  unfold a2I
  by_cases e : q = -1
  · rw [if_pos e, if_pos e]; exact m1
  · rw [if_neg e, if_neg e]
    by_cases w1 : aI b q r s < aI b p r s
    · by_cases w2 : aI b q r v < aI b p r v
      · rw [if_pos w1, if_pos w2]; omega
      · rw [if_pos w1, if_neg w2]; omega
    · by_cases w2 : aI b q r v < aI b p r v
      · rw [if_neg w1, if_pos w2]; omega
      · rw [if_neg w1, if_neg w2]; omega
theorem a2I_r {b : Int → Int} {p q r s : Int} (hb : WB b) (h3 : 0 ≤ r) (h4 : r < b 1) (hs : 0 ≤ s) (hs2 : s ≤ 900000 ∨ s = 1000000000) : (s ≤ 900000 → s < a2I b p q r s) ∧ s ≤ a2I b p q r s ∧ a2I b p q r s ≤ 1000000000 ∧ (a2I b p q r s = 1000000000 ∨ a2I b p q r s ≤ s + 2880) := by
  have r1 := aI_r (p := p) hb h3 h4 hs hs2
  have r2 := aI_r (p := q) hb h3 h4 hs hs2
  unfold a2I
  by_cases e : q = -1
  · rw [if_pos e]; exact r1
  · rw [if_neg e]
    by_cases w1 : aI b q r s < aI b p r s
    · rw [if_pos w1]; exact r2
    · rw [if_neg w1]; exact r1

