/-! ===== a minute keeps the bounds ===== -/
theorem mN_f {b : Int → Int} {q j : Int} (h1 : 0 ≤ q) (h2 : q < 8) (h3 : 0 ≤ j) (h4 : j < 9) : mN b (58 + 8 * j + q) = if AG b q = true then colF b j q else b (58 + 8 * j + q) := by
  unfold mN
  rw [bu_o (by omega), bM_f h1 h2 h3 h4]
theorem mN_g {b : Int → Int} {q r : Int} (h1 : 0 ≤ q) (h2 : q < 8) (h3 : 0 ≤ r) (h4 : r < 12) : mN b (130 + 12 * q + r) = if AG b q = true ∧ thB b q ∧ r = b (122 + q) then mn99 (b (130 + 12 * q + r)) else b (130 + 12 * q + r) := by
  unfold mN
  rw [bu_o (by omega), bM_g h1 h2 h3 h4]
theorem mN_w {b : Int → Int} {x y : Int} (h1 : 0 ≤ x) (h2 : x < 8) (h3 : 0 ≤ y) (h4 : y < 8) : mN b (226 + 8 * x + y) = if AG b x = true ∧ thB b x ∧ b (82 + x) = y then debt (b (226 + 8 * x + y)) (b (34 + b (122 + x))) else if AG b y = true ∧ thB b y ∧ b (82 + y) = x then -debt (b (226 + 8 * y + x)) (b (34 + b (122 + y))) else b (226 + 8 * x + y) := by
  unfold mN
  rw [bu_o (by omega), bM_w h1 h2 h3 h4]
theorem mN_o {b : Int → Int} {z : Int} (h : ¬ (58 ≤ z ∧ z < 290)) (h5 : ¬ z = 5) : mN b z = b z := by
  unfold mN
  rw [bu_o h5, bM_o h]
theorem mN_5 {b : Int → Int} : mN b 5 = b 5 + 1 := by
  unfold mN
  rw [bu_s]
/-- a minute of one who stays -/
theorem mN_stay {b : Int → Int} {q j : Int} (h1 : 0 ≤ q) (h2 : q < 8) (h3 : 0 ≤ j) (h4 : j < 9) (h : ¬ 0 ≤ b (66 + q)) : mN b (58 + 8 * j + q) = b (58 + 8 * j + q) := by
  rw [mN_f h1 h2 h3 h4, AG_f h, if_neg (by decide)]
/-- the nine cells of one who goes: he comes, goes on, loses the minute -/
theorem mN_th {b : Int → Int} {q : Int} (h1 : 0 ≤ q) (h2 : q < 8) (h2' : q < b 2) (h : 0 ≤ b (66 + q)) (ht : thB b q) : mN b (58 + q) = b (66 + q) ∧ mN b (66 + q) = -1 ∧ mN b (74 + q) = 0 ∧ mN b (82 + q) = -1 ∧ mN b (90 + q) = b (90 + q) ∧ mN b (98 + q) = b (98 + q) ∧ mN b (106 + q) = b (106 + q) ∧ mN b (114 + q) = b (114 + q) ∧ mN b (122 + q) = b (122 + q) := by
  have e : ∀ j, 0 ≤ j → j < 9 → mN b (58 + 8 * j + q) = (if j = 0 then b (66 + q) else if j = 1 then -1 else if j = 2 then 0 else if j = 3 then -1 else b (58 + 8 * j + q)) := fun j u v => by
    rw [mN_f h1 h2 u v, if_pos (AG_t h1 h2' h)]
    unfold colF
    rw [if_pos ht.1, if_pos ht.2]
  have a0 := e 0 (by omega) (by omega)
  have a1 := e 1 (by omega) (by omega)
  have a2 := e 2 (by omega) (by omega)
  have a3 := e 3 (by omega) (by omega)
  have a4 := e 4 (by omega) (by omega)
  have a5 := e 5 (by omega) (by omega)
  have a6 := e 6 (by omega) (by omega)
  have a7 := e 7 (by omega) (by omega)
  have a8 := e 8 (by omega) (by omega)
  exact ⟨a0, a1, a2, a3, a4, a5, a6, a7, a8⟩
theorem mN_on {b : Int → Int} {q : Int} (h1 : 0 ≤ q) (h2 : q < 8) (h2' : q < b 2) (h : 0 ≤ b (66 + q)) (hc : caB b q) (ht : ¬ b (74 + q) = 1) : mN b (58 + q) = b (58 + q) ∧ mN b (66 + q) = b (66 + q) ∧ mN b (74 + q) = b (74 + q) - 1 ∧ mN b (82 + q) = b (82 + q) ∧ mN b (90 + q) = b (90 + q) ∧ mN b (98 + q) = b (98 + q) ∧ mN b (106 + q) = b (106 + q) ∧ mN b (114 + q) = b (114 + q) ∧ mN b (122 + q) = b (122 + q) := by
  have e : ∀ j, 0 ≤ j → j < 9 → mN b (58 + 8 * j + q) = (if j = 2 then b (74 + q) - 1 else b (58 + 8 * j + q)) := fun j u v => by
    rw [mN_f h1 h2 u v, if_pos (AG_t h1 h2' h)]
    unfold colF
    rw [if_pos hc, if_neg ht]
  have a0 := e 0 (by omega) (by omega)
  have a1 := e 1 (by omega) (by omega)
  have a2 := e 2 (by omega) (by omega)
  have a3 := e 3 (by omega) (by omega)
  have a4 := e 4 (by omega) (by omega)
  have a5 := e 5 (by omega) (by omega)
  have a6 := e 6 (by omega) (by omega)
  have a7 := e 7 (by omega) (by omega)
  have a8 := e 8 (by omega) (by omega)
  exact ⟨a0, a1, a2, a3, a4, a5, a6, a7, a8⟩
theorem mN_lo {b : Int → Int} {q : Int} (h1 : 0 ≤ q) (h2 : q < 8) (h2' : q < b 2) (h : 0 ≤ b (66 + q)) (hc : ¬ caB b q) : mN b (58 + q) = b (58 + q) ∧ mN b (66 + q) = b (66 + q) ∧ mN b (74 + q) = b (74 + q) ∧ mN b (82 + q) = b (82 + q) ∧ mN b (90 + q) = b (90 + q) + 1 ∧ mN b (98 + q) = b (98 + q) ∧ mN b (106 + q) = b (106 + q) ∧ mN b (114 + q) = b (114 + q) ∧ mN b (122 + q) = b (122 + q) := by
  have e : ∀ j, 0 ≤ j → j < 9 → mN b (58 + 8 * j + q) = (if j = 4 then b (90 + q) + 1 else b (58 + 8 * j + q)) := fun j u v => by
    rw [mN_f h1 h2 u v, if_pos (AG_t h1 h2' h)]
    unfold colF
    rw [if_neg hc]
  have a0 := e 0 (by omega) (by omega)
  have a1 := e 1 (by omega) (by omega)
  have a2 := e 2 (by omega) (by omega)
  have a3 := e 3 (by omega) (by omega)
  have a4 := e 4 (by omega) (by omega)
  have a5 := e 5 (by omega) (by omega)
  have a6 := e 6 (by omega) (by omega)
  have a7 := e 7 (by omega) (by omega)
  have a8 := e 8 (by omega) (by omega)
  exact ⟨a0, a1, a2, a3, a4, a5, a6, a7, a8⟩
theorem mN_st {b : Int → Int} {q : Int} (h1 : 0 ≤ q) (h2 : q < 8) (h : ¬ 0 ≤ b (66 + q)) : mN b (58 + q) = b (58 + q) ∧ mN b (66 + q) = b (66 + q) ∧ mN b (74 + q) = b (74 + q) ∧ mN b (82 + q) = b (82 + q) ∧ mN b (90 + q) = b (90 + q) ∧ mN b (98 + q) = b (98 + q) ∧ mN b (106 + q) = b (106 + q) ∧ mN b (114 + q) = b (114 + q) ∧ mN b (122 + q) = b (122 + q) := by
  have e : ∀ j, 0 ≤ j → j < 9 → mN b (58 + 8 * j + q) = b (58 + 8 * j + q) := fun j u v => mN_stay h1 h2 u v h
  have a0 := e 0 (by omega) (by omega)
  have a1 := e 1 (by omega) (by omega)
  have a2 := e 2 (by omega) (by omega)
  have a3 := e 3 (by omega) (by omega)
  have a4 := e 4 (by omega) (by omega)
  have a5 := e 5 (by omega) (by omega)
  have a6 := e 6 (by omega) (by omega)
  have a7 := e 7 (by omega) (by omega)
  have a8 := e 8 (by omega) (by omega)
  exact ⟨a0, a1, a2, a3, a4, a5, a6, a7, a8⟩
theorem debt_r {v m : Int} : -9999 ≤ debt v m ∧ debt v m ≤ 9999 := by
  unfold debt
  by_cases w : v + m < 9999
  · rw [if_pos w]
    by_cases u : -9999 < v + m
    · rw [if_pos u]; omega
    · rw [if_neg u]; omega
  · rw [if_neg w]; decide
theorem WB_mN {b : Int → Int} (hb : WB b) (h5 : b 5 < 200000) : WB (mN b) := by
  have hh := hb.1
  unfold WH at hh
  have o : ∀ z, 0 ≤ z → z < 58 → ¬ z = 5 → mN b z = b z := fun z u v w => mN_o (by omega) w
  have o5 := mN_5 (b := b)
  refine ⟨?_, fun r u v => ?_, fun p u v => ?_, fun p r u v x y => ?_, fun p q u v x y => ?_, fun p u v => ?_⟩
  · unfold WH
    rw [o 0 (by omega) (by omega) (by omega), o 1 (by omega) (by omega) (by omega), o 2 (by omega) (by omega) (by omega), o 3 (by omega) (by omega) (by omega), o 4 (by omega) (by omega) (by omega), o5, o 6 (by omega) (by omega) (by omega), o 7 (by omega) (by omega) (by omega), o 8 (by omega) (by omega) (by omega), o 9 (by omega) (by omega) (by omega)]
    omega
  · rw [o 1 (by omega) (by omega) (by omega)] at v
    have e := hb.2.1 r u v
    unfold WR at e ⊢
    rw [o (10 + r) (by omega) (by omega) (by omega), o (22 + r) (by omega) (by omega) (by omega), o (34 + r) (by omega) (by omega) (by omega), o (46 + r) (by omega) (by omega) (by omega), o 0 (by omega) (by omega) (by omega)]
    exact e
  · rw [o 2 (by omega) (by omega) (by omega)] at v
    have e := WP_of hb u v
    unfold WP at e ⊢
    rw [o 0 (by omega) (by omega) (by omega), o 1 (by omega) (by omega) (by omega), o 2 (by omega) (by omega) (by omega), o5]
    by_cases g : 0 ≤ b (66 + p)
    · have e2 : 0 ≤ b (122 + p) ∧ b (122 + p) < b 1 := by omega
      have o34 := o (34 + b (122 + p)) (by omega) (by omega) (by omega)
      by_cases c : caB b p
      · by_cases t : b (74 + p) = 1
        · obtain ⟨a0, a1, a2, a3, a4, a5, a6, a7, a8⟩ := mN_th u (by omega) v g ⟨c, t⟩
          rw [a0, a1, a2, a3, a4, a5, a6, a7, a8, o34]
          omega
        · obtain ⟨a0, a1, a2, a3, a4, a5, a6, a7, a8⟩ := mN_on u (by omega) v g c t
          rw [a0, a1, a2, a3, a4, a5, a6, a7, a8, o34]
          omega
      · obtain ⟨a0, a1, a2, a3, a4, a5, a6, a7, a8⟩ := mN_lo u (by omega) v g c
        rw [a0, a1, a2, a3, a4, a5, a6, a7, a8, o34]
        omega
    · obtain ⟨a0, a1, a2, a3, a4, a5, a6, a7, a8⟩ := mN_st u (by omega) g
      rw [a0, a1, a2, a3, a4, a5, a6, a7, a8]
      omega
  · have e := hb.2.2.2.1 p r u v x y
    rw [mN_g u v x y]
    by_cases w : AG b p = true ∧ thB b p ∧ r = b (122 + p)
    · rw [if_pos w]
      unfold mn99
      by_cases z : b (130 + 12 * p + r) + 1 < 99
      · rw [if_pos z]; omega
      · rw [if_neg z]; omega
    · rw [if_neg w]; exact e
  · have e := hb.2.2.2.2.1 p q u v x y
    have e2 := hb.2.2.2.2.1 q p x y u v
    rw [mN_w u v x y, mN_w x y u v]
    have r1 := debt_r (v := b (226 + 8 * p + q)) (m := b (34 + b (122 + p)))
    have r2 := debt_r (v := b (226 + 8 * q + p)) (m := b (34 + b (122 + q)))
    by_cases w1 : AG b p = true ∧ thB b p ∧ b (82 + p) = q
    · have w2 : ¬ (AG b q = true ∧ thB b q ∧ b (82 + q) = p) := fun z => by
        obtain ⟨-, -, -, -, l, -⟩ := led_of hb u (of_decide_eq_true w1.1).2.1 x w1.2.2
        omega
      rw [if_pos w1, if_neg w2, if_pos w1]
      omega
    · by_cases w2 : AG b q = true ∧ thB b q ∧ b (82 + q) = p
      · rw [if_neg w1, if_pos w2, if_pos w2]
        omega
      · rw [if_neg w1, if_neg w2, if_neg w2, if_neg w1]
        exact e
  · rw [o 2 (by omega) (by omega) (by omega)] at v
    have e := WP_of hb u v
    unfold WP at e
    unfold WL
    by_cases g : 0 ≤ b (66 + p)
    · by_cases l : 0 ≤ b (82 + p)
      · obtain ⟨q, hq⟩ : ∃ q, b (82 + p) = q := ⟨_, rfl⟩
        rw [hq] at l
        obtain ⟨a1, a2, a3, a4, a5, a6, a7, a8, a9, a10, a11, a12⟩ := led_of hb u v l hq
        by_cases c : caB b p
        · by_cases t : b (74 + p) = 1
          · exact Or.inl (mN_th u (by omega) v g ⟨c, t⟩).2.2.2.1
          · refine Or.inr ?_
            have cq := a11.mpr c
            have tq : ¬ b (74 + q) = 1 := by omega
            obtain ⟨c0, c1, c2, c3, c4, c5, c6, c7, c8⟩ := mN_on u (by omega) v g c t
            obtain ⟨d0, d1, d2, d3, d4, d5, d6, d7, d8⟩ := mN_on l (by omega) a1 (by omega) cq tq
            rw [c3, hq, c1, d1, d3, d8, c8, d2, c2, d7, c7, a7]
            exact ⟨a2, g, a4, a5, a6, rfl, a8⟩
        · refine Or.inr ?_
          have cq : ¬ caB b q := fun z => c (a11.mp z)
          obtain ⟨c0, c1, c2, c3, c4, c5, c6, c7, c8⟩ := mN_lo u (by omega) v g c
          obtain ⟨d0, d1, d2, d3, d4, d5, d6, d7, d8⟩ := mN_lo l (by omega) a1 (by omega) cq
          rw [c3, hq, c1, d1, d3, d8, c8, d2, c2, d7, c7, a7]
          exact ⟨a2, g, a4, a5, a6, rfl, a8⟩
      · refine Or.inl ?_
        by_cases c : caB b p
        · by_cases t : b (74 + p) = 1
          · exact (mN_th u (by omega) v g ⟨c, t⟩).2.2.2.1
          · rw [(mN_on u (by omega) v g c t).2.2.2.1]; omega
        · rw [(mN_lo u (by omega) v g c).2.2.2.1]; omega
    · refine Or.inl ?_
      rw [(mN_st u (by omega) g).2.2.2.1]; omega

