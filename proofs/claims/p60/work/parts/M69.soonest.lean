/-! ===== soonestTwo ===== -/
def whyT (b : Int → Int) (x y : Int) : Int := if (0 ≤ x ∧ x < b 2) ∧ 0 ≤ y ∧ y < b 2 then (if x = y ∨ 0 ≤ b (66 + x) ∨ 0 ≤ b (66 + y) then 9 else 0) else 2
theorem whyT_2 {b : Int → Int} {x y : Int} (h : ¬ ((0 ≤ x ∧ x < b 2) ∧ 0 ≤ y ∧ y < b 2)) : whyT b x y = 2 := if_neg h
theorem whyT_9 {b : Int → Int} {x y : Int} (h : (0 ≤ x ∧ x < b 2) ∧ 0 ≤ y ∧ y < b 2) (h2 : x = y ∨ 0 ≤ b (66 + x) ∨ 0 ≤ b (66 + y)) : whyT b x y = 9 := by
  unfold whyT
  rw [if_pos h, if_pos h2]
theorem whyT_0 {b : Int → Int} {x y : Int} (h : (0 ≤ x ∧ x < b 2) ∧ 0 ≤ y ∧ y < b 2) (h2 : ¬ (x = y ∨ 0 ≤ b (66 + x) ∨ 0 ≤ b (66 + y))) : whyT b x y = 0 := by
  unfold whyT
  rw [if_pos h, if_neg h2]
theorem c_whyNoTwoAt {b : Int → Int} {x y : Int} {L n : Nat} {M : KM} {g : Int → Int → Int → Int} (hL : HL M L b) (hg : GR g b) (hb : WB b) (hp0 : M.2.2 0 10 = L) (h1 : -2147483648 ≤ x) (h2 : x < 2147483648) (h3 : -2147483648 ≤ y) (h4 : y < 2147483648) : f_X11_whyNoTwoAtPlaces n 0 (zI x) (zI y) (ps M L g) = some (zI (whyT b x y)) := by
  have hh := hb.1
  unfold WH at hh
  have hi : 0 ≤ b 2 ∧ b 2 ≤ 8 := by omega
  clear hh
  have e1 := c_whyNotAt (n := n) (x := x) hL hg hb hp0 h1 h2
  have e2 := c_whyNotAt (n := n) (x := y) hL hg hb hp0 h3 h4
  unfold f_X11_whyNoTwoAtPlaces f_X11_whyNoTwo
  by_cases w : 0 ≤ x ∧ x < b 2
  · by_cases v : 0 ≤ y ∧ y < b 2
    · rw [if_pos w] at e1
      rw [if_pos v] at e2
      by_cases u : x = y
      · rw [whyT_9 ⟨w, v⟩ (Or.inl u)]
        simp (disch := first | omega | assumption) only [↓lt, Option.bind_some, zl, ll, zadd, zsub, zmul, zneg, ladd, lsub, lmul, lneg, zltT, zltF, zleT, zleF, zeqT, zeqF, zidx, ixT, zwide, bIT, bIF, if_true, if_false, ↓reduceIte, Nat.reduceAdd, Int.reduceAdd, Int.reduceMul, Int.reduceSub, Int.reduceNeg, cs_c, cs_o, cs_2, cu_c, cu_o, Int.cast_ofNat_Int, ps_f, ps_g, ps_w, ps_o, ps_2, pu_f, pu_g, pu_w, pu_o, uI_s, uI_o, uI_j, uI_j1, uI_j2, uI_tw, or0, true_or, or_true, false_or, or_false, nar0, nar1, hp0, c_hasPerson hL]
      · by_cases k1 : 0 ≤ b (66 + x)
        · rw [if_pos k1] at e1
          rw [whyT_9 ⟨w, v⟩ (Or.inr (Or.inl k1))]
          by_cases k2 : 0 ≤ b (66 + y)
          · rw [if_pos k2] at e2
            simp (disch := first | omega | assumption) only [↓lt, Option.bind_some, zl, ll, zadd, zsub, zmul, zneg, ladd, lsub, lmul, lneg, zltT, zltF, zleT, zleF, zeqT, zeqF, zidx, ixT, zwide, bIT, bIF, if_true, if_false, ↓reduceIte, Nat.reduceAdd, Int.reduceAdd, Int.reduceMul, Int.reduceSub, Int.reduceNeg, cs_c, cs_o, cs_2, cu_c, cu_o, Int.cast_ofNat_Int, ps_f, ps_g, ps_w, ps_o, ps_2, pu_f, pu_g, pu_w, pu_o, uI_s, uI_o, uI_j, uI_j1, uI_j2, uI_tw, or0, true_or, or_true, false_or, or_false, nar0, nar1, hp0, c_hasPerson hL, e1, e2]
          · rw [if_neg k2] at e2
            simp (disch := first | omega | assumption) only [↓lt, Option.bind_some, zl, ll, zadd, zsub, zmul, zneg, ladd, lsub, lmul, lneg, zltT, zltF, zleT, zleF, zeqT, zeqF, zidx, ixT, zwide, bIT, bIF, if_true, if_false, ↓reduceIte, Nat.reduceAdd, Int.reduceAdd, Int.reduceMul, Int.reduceSub, Int.reduceNeg, cs_c, cs_o, cs_2, cu_c, cu_o, Int.cast_ofNat_Int, ps_f, ps_g, ps_w, ps_o, ps_2, pu_f, pu_g, pu_w, pu_o, uI_s, uI_o, uI_j, uI_j1, uI_j2, uI_tw, or0, true_or, or_true, false_or, or_false, nar0, nar1, hp0, c_hasPerson hL, e1, e2]
        · rw [if_neg k1] at e1
          by_cases k2 : 0 ≤ b (66 + y)
          · rw [if_pos k2] at e2
            rw [whyT_9 ⟨w, v⟩ (Or.inr (Or.inr k2))]
            simp (disch := first | omega | assumption) only [↓lt, Option.bind_some, zl, ll, zadd, zsub, zmul, zneg, ladd, lsub, lmul, lneg, zltT, zltF, zleT, zleF, zeqT, zeqF, zidx, ixT, zwide, bIT, bIF, if_true, if_false, ↓reduceIte, Nat.reduceAdd, Int.reduceAdd, Int.reduceMul, Int.reduceSub, Int.reduceNeg, cs_c, cs_o, cs_2, cu_c, cu_o, Int.cast_ofNat_Int, ps_f, ps_g, ps_w, ps_o, ps_2, pu_f, pu_g, pu_w, pu_o, uI_s, uI_o, uI_j, uI_j1, uI_j2, uI_tw, or0, true_or, or_true, false_or, or_false, nar0, nar1, hp0, c_hasPerson hL, e1, e2]
          · rw [if_neg k2] at e2
            rw [whyT_0 ⟨w, v⟩ (fun z => z.elim u (fun z => z.elim k1 k2))]
            simp (disch := first | omega | assumption) only [↓lt, Option.bind_some, zl, ll, zadd, zsub, zmul, zneg, ladd, lsub, lmul, lneg, zltT, zltF, zleT, zleF, zeqT, zeqF, zidx, ixT, zwide, bIT, bIF, if_true, if_false, ↓reduceIte, Nat.reduceAdd, Int.reduceAdd, Int.reduceMul, Int.reduceSub, Int.reduceNeg, cs_c, cs_o, cs_2, cu_c, cu_o, Int.cast_ofNat_Int, ps_f, ps_g, ps_w, ps_o, ps_2, pu_f, pu_g, pu_w, pu_o, uI_s, uI_o, uI_j, uI_j1, uI_j2, uI_tw, or0, true_or, or_true, false_or, or_false, nar0, nar1, hp0, c_hasPerson hL, e1, e2]
    · rw [whyT_2 (fun z => v z.2)]
      simp (disch := first | omega | assumption) only [↓lt, Option.bind_some, zl, ll, zadd, zsub, zmul, zneg, ladd, lsub, lmul, lneg, zltT, zltF, zleT, zleF, zeqT, zeqF, zidx, ixT, zwide, bIT, bIF, if_true, if_false, ↓reduceIte, Nat.reduceAdd, Int.reduceAdd, Int.reduceMul, Int.reduceSub, Int.reduceNeg, cs_c, cs_o, cs_2, cu_c, cu_o, Int.cast_ofNat_Int, ps_f, ps_g, ps_w, ps_o, ps_2, pu_f, pu_g, pu_w, pu_o, uI_s, uI_o, uI_j, uI_j1, uI_j2, uI_tw, or0, true_or, or_true, false_or, or_false, nar0, nar1, hp0, c_hasPerson hL]
  · rw [whyT_2 (fun z => w z.1)]
    simp (disch := first | omega | assumption) only [↓lt, Option.bind_some, zl, ll, zadd, zsub, zmul, zneg, ladd, lsub, lmul, lneg, zltT, zltF, zleT, zleF, zeqT, zeqF, zidx, ixT, zwide, bIT, bIF, if_true, if_false, ↓reduceIte, Nat.reduceAdd, Int.reduceAdd, Int.reduceMul, Int.reduceSub, Int.reduceNeg, cs_c, cs_o, cs_2, cu_c, cu_o, Int.cast_ofNat_Int, ps_f, ps_g, ps_w, ps_o, ps_2, pu_f, pu_g, pu_w, pu_o, uI_s, uI_o, uI_j, uI_j1, uI_j2, uI_tw, or0, true_or, or_true, false_or, or_false, nar0, nar1, hp0, c_hasPerson hL]
theorem whyT_r {b : Int → Int} {x y : Int} : whyT b x y = 2 ∨ whyT b x y = 9 ∨ (whyT b x y = 0 ∧ (0 ≤ x ∧ x < b 2) ∧ (0 ≤ y ∧ y < b 2) ∧ ¬ x = y ∧ ¬ 0 ≤ b (66 + x) ∧ ¬ 0 ≤ b (66 + y)) := by
  unfold whyT
  by_cases w : (0 ≤ x ∧ x < b 2) ∧ 0 ≤ y ∧ y < b 2
  · rw [if_pos w]
    by_cases v : x = y ∨ 0 ≤ b (66 + x) ∨ 0 ≤ b (66 + y)
    · rw [if_pos v]; exact Or.inr (Or.inl rfl)
    · rw [if_neg v]; exact Or.inr (Or.inr ⟨rfl, w.1, w.2, fun z => v (Or.inl z), fun z => v (Or.inr (Or.inl z)), fun z => v (Or.inr (Or.inr z))⟩)
  · rw [if_neg w]; exact Or.inl rfl
