/-! ===== soonestTwo ===== -/
def whyT (b : Int → Int) (x y : Int) : Int := if (0 ≤ x ∧ x < b 2) ∧ 0 ≤ y ∧ y < b 2 then (if x = y ∨ 0 ≤ b (66 + x) ∨ 0 ≤ b (66 + y) then 9 else 0) else 2
theorem whyT_2 {b : Int → Int} {x y : Int} (h : ¬ ((0 ≤ x ∧ x < b 2) ∧ 0 ≤ y ∧ y < b 2)) : whyT b x y = 2 := if_neg h
theorem whyT_9 {b : Int → Int} {x y : Int} (h : (0 ≤ x ∧ x < b 2) ∧ 0 ≤ y ∧ y < b 2) (h2 : x = y ∨ 0 ≤ b (66 + x) ∨ 0 ≤ b (66 + y)) : whyT b x y = 9 := by
  unfold whyT
  rw [if_pos h, if_pos h2]
theorem whyT_0 {b : Int → Int} {x y : Int} (h : (0 ≤ x ∧ x < b 2) ∧ 0 ≤ y ∧ y < b 2) (h2 : ¬ (x = y ∨ 0 ≤ b (66 + x) ∨ 0 ≤ b (66 + y))) : whyT b x y = 0 := by
  unfold whyT
  rw [if_pos h, if_neg h2]
theorem c_whyNoTwoAt {b : Int → Int} {x y : Int} {L n : Nat} {M : KM} {g : Int → Int → Int → Int} (hL : HL M L b) (hg : GR g b) (hb : WB b) (hp0 : M.2.2 0 10 = L) (h1 : -2147483648 ≤ x) (h2 : x < 2147483648) (h3 : -2147483648 ≤ y) (h4 : y < 2147483648) : f_X11_whyNoTwoAtPlaces n 0 (zI x) (zI y) (ps M L g) = some (zI (whyT b x y)) := by
  have hh := hb.1
  unfold WH at hh
  have hi : 0 ≤ b 2 ∧ b 2 ≤ 8 := by omega
  clear hh
  have e1 := c_whyNotAt (n := n) (x := x) hL hg hb hp0 h1 h2
  have e2 := c_whyNotAt (n := n) (x := y) hL hg hb hp0 h3 h4
  unfold f_X11_whyNoTwoAtPlaces f_X11_whyNoTwo
  by_cases w : 0 ≤ x ∧ x < b 2
  · by_cases v : 0 ≤ y ∧ y < b 2
    · rw [if_pos w] at e1
      rw [if_pos v] at e2
      by_cases u : x = y
      · rw [whyT_9 ⟨w, v⟩ (Or.inl u)]
        simp (disch := first | omega | assumption) only [↓lt, Option.bind_some, zl, ll, zadd, zsub, zmul, zneg, ladd, lsub, lmul, lneg, zltT, zltF, zleT, zleF, zeqT, zeqF, zidx, ixT, zwide, bIT, bIF, if_true, if_false, ↓reduceIte, Nat.reduceAdd, Int.reduceAdd, Int.reduceMul, Int.reduceSub, Int.reduceNeg, cs_c, cs_o, cs_2, cu_c, cu_o, Int.cast_ofNat_Int, ps_f, ps_g, ps_w, ps_o, ps_2, pu_f, pu_g, pu_w, pu_o, uI_s, uI_o, uI_j, uI_j1, uI_j2, uI_tw, or0, true_or, or_true, false_or, or_false, nar0, nar1, hp0, c_hasPerson hL]
      · by_cases k1 : 0 ≤ b (66 + x)
        · rw [if_pos k1] at e1
          rw [whyT_9 ⟨w, v⟩ (Or.inr (Or.inl k1))]
          by_cases k2 : 0 ≤ b (66 + y)
          · rw [if_pos k2] at e2
            simp (disch := first | omega | assumption) only [↓lt, Option.bind_some, zl, ll, zadd, zsub, zmul, zneg, ladd, lsub, lmul, lneg, zltT, zltF, zleT, zleF, zeqT, zeqF, zidx, ixT, zwide, bIT, bIF, if_true, if_false, ↓reduceIte, Nat.reduceAdd, Int.reduceAdd, Int.reduceMul, Int.reduceSub, Int.reduceNeg, cs_c, cs_o, cs_2, cu_c, cu_o, Int.cast_ofNat_Int, ps_f, ps_g, ps_w, ps_o, ps_2, pu_f, pu_g, pu_w, pu_o, uI_s, uI_o, uI_j, uI_j1, uI_j2, uI_tw, or0, true_or, or_true, false_or, or_false, nar0, nar1, hp0, c_hasPerson hL, e1, e2]
          · rw [if_neg k2] at e2
            simp (disch := first | omega | assumption) only [↓lt, Option.bind_some, zl, ll, zadd, zsub, zmul, zneg, ladd, lsub, lmul, lneg, zltT, zltF, zleT, zleF, zeqT, zeqF, zidx, ixT, zwide, bIT, bIF, if_true, if_false, ↓reduceIte, Nat.reduceAdd, Int.reduceAdd, Int.reduceMul, Int.reduceSub, Int.reduceNeg, cs_c, cs_o, cs_2, cu_c, cu_o, Int.cast_ofNat_Int, ps_f, ps_g, ps_w, ps_o, ps_2, pu_f, pu_g, pu_w, pu_o, uI_s, uI_o, uI_j, uI_j1, uI_j2, uI_tw, or0, true_or, or_true, false_or, or_false, nar0, nar1, hp0, c_hasPerson hL, e1, e2]
        · rw [if_neg k1] at e1
          by_cases k2 : 0 ≤ b (66 + y)
          · rw [if_pos k2] at e2
            rw [whyT_9 ⟨w, v⟩ (Or.inr (Or.inr k2))]
            simp (disch := first | omega | assumption) only [↓lt, Option.bind_some, zl, ll, zadd, zsub, zmul, zneg, ladd, lsub, lmul, lneg, zltT, zltF, zleT, zleF, zeqT, zeqF, zidx, ixT, zwide, bIT, bIF, if_true, if_false, ↓reduceIte, Nat.reduceAdd, Int.reduceAdd, Int.reduceMul, Int.reduceSub, Int.reduceNeg, cs_c, cs_o, cs_2, cu_c, cu_o, Int.cast_ofNat_Int, ps_f, ps_g, ps_w, ps_o, ps_2, pu_f, pu_g, pu_w, pu_o, uI_s, uI_o, uI_j, uI_j1, uI_j2, uI_tw, or0, true_or, or_true, false_or, or_false, nar0, nar1, hp0, c_hasPerson hL, e1, e2]
          · rw [if_neg k2] at e2
            rw [whyT_0 ⟨w, v⟩ (fun z => z.elim u (fun z => z.elim k1 k2))]
            simp (disch := first | omega | assumption) only [↓lt, Option.bind_some, zl, ll, zadd, zsub, zmul, zneg, ladd, lsub, lmul, lneg, zltT, zltF, zleT, zleF, zeqT, zeqF, zidx, ixT, zwide, bIT, bIF, if_true, if_false, ↓reduceIte, Nat.reduceAdd, Int.reduceAdd, Int.reduceMul, Int.reduceSub, Int.reduceNeg, cs_c, cs_o, cs_2, cu_c, cu_o, Int.cast_ofNat_Int, ps_f, ps_g, ps_w, ps_o, ps_2, pu_f, pu_g, pu_w, pu_o, uI_s, uI_o, uI_j, uI_j1, uI_j2, uI_tw, or0, true_or, or_true, false_or, or_false, nar0, nar1, hp0, c_hasPerson hL, e1, e2]
    · rw [whyT_2 (fun z => v z.2)]
      simp (disch := first | omega | assumption) only [↓lt, Option.bind_some, zl, ll, zadd, zsub, zmul, zneg, ladd, lsub, lmul, lneg, zltT, zltF, zleT, zleF, zeqT, zeqF, zidx, ixT, zwide, bIT, bIF, if_true, if_false, ↓reduceIte, Nat.reduceAdd, Int.reduceAdd, Int.reduceMul, Int.reduceSub, Int.reduceNeg, cs_c, cs_o, cs_2, cu_c, cu_o, Int.cast_ofNat_Int, ps_f, ps_g, ps_w, ps_o, ps_2, pu_f, pu_g, pu_w, pu_o, uI_s, uI_o, uI_j, uI_j1, uI_j2, uI_tw, or0, true_or, or_true, false_or, or_false, nar0, nar1, hp0, c_hasPerson hL]
  · rw [whyT_2 (fun z => w z.1)]
    simp (disch := first | omega | assumption) only [↓lt, Option.bind_some, zl, ll, zadd, zsub, zmul, zneg, ladd, lsub, lmul, lneg, zltT, zltF, zleT, zleF, zeqT, zeqF, zidx, ixT, zwide, bIT, bIF, if_true, if_false, ↓reduceIte, Nat.reduceAdd, Int.reduceAdd, Int.reduceMul, Int.reduceSub, Int.reduceNeg, cs_c, cs_o, cs_2, cu_c, cu_o, Int.cast_ofNat_Int, ps_f, ps_g, ps_w, ps_o, ps_2, pu_f, pu_g, pu_w, pu_o, uI_s, uI_o, uI_j, uI_j1, uI_j2, uI_tw, or0, true_or, or_true, false_or, or_false, nar0, nar1, hp0, c_hasPerson hL]
theorem m_whyNotTwo {b : Int → Int} {x y : Int} {n : Nat} {X : KM} (hb : WB b) (h1 : -2147483648 ≤ x) (h2 : x < 2147483648) (h3 : -2147483648 ≤ y) (h4 : y < 2147483648) : f_X12_whyNotTwo n 227 (zI x) (zI y) (cs X b) = some (zI (whyT b x y)) := by
  have hh := hb.1
  unfold WH at hh
  have hi : 0 ≤ b 2 ∧ b 2 ≤ 8 ∧ b 0 ≤ 8 := by omega
  clear hh
  unfold f_X12_whyNotTwo
  by_cases w : 0 ≤ x ∧ x < b 2
  · by_cases v : 0 ≤ y ∧ y < b 2
    · have z1 := WPb hb w.1 w.2
      have z2 := WPb hb v.1 v.2
      have e1 := m_isGoing (b := b) (n := n) (M := X) w.1 (show x < 8 by omega) (by omega) (by omega)
      have e2 := m_isGoing (b := b) (n := n) (M := X) v.1 (show y < 8 by omega) (by omega) (by omega)
      clear z1 z2
      by_cases u : x = y
      · rw [whyT_9 ⟨w, v⟩ (Or.inl u)]
        simp (disch := first | omega | assumption) only [↓lt, Option.bind_some, zl, ll, zadd, zsub, zmul, zneg, ladd, lsub, lmul, lneg, zltT, zltF, zleT, zleF, zeqT, zeqF, zidx, ixT, zwide, bIT, bIF, if_true, if_false, ↓reduceIte, Nat.reduceAdd, Int.reduceAdd, Int.reduceMul, Int.reduceSub, Int.reduceNeg, cs_c, cs_o, cs_2, cu_c, cu_o, Int.cast_ofNat_Int, ps_f, ps_g, ps_w, ps_o, ps_2, pu_f, pu_g, pu_w, pu_o, uI_s, uI_o, uI_j, uI_j1, uI_j2, uI_tw, or0, true_or, or_true, false_or, or_false, nar0, nar1, m_isPerson]
      · by_cases k1 : 0 ≤ b (66 + x)
        · rw [bIT k1] at e1
          rw [whyT_9 ⟨w, v⟩ (Or.inr (Or.inl k1))]
          simp (disch := first | omega | assumption) only [↓lt, Option.bind_some, zl, ll, zadd, zsub, zmul, zneg, ladd, lsub, lmul, lneg, zltT, zltF, zleT, zleF, zeqT, zeqF, zidx, ixT, zwide, bIT, bIF, if_true, if_false, ↓reduceIte, Nat.reduceAdd, Int.reduceAdd, Int.reduceMul, Int.reduceSub, Int.reduceNeg, cs_c, cs_o, cs_2, cu_c, cu_o, Int.cast_ofNat_Int, ps_f, ps_g, ps_w, ps_o, ps_2, pu_f, pu_g, pu_w, pu_o, uI_s, uI_o, uI_j, uI_j1, uI_j2, uI_tw, or0, true_or, or_true, false_or, or_false, nar0, nar1, m_isPerson, e1]
        · rw [bIF k1] at e1
          by_cases k2 : 0 ≤ b (66 + y)
          · rw [bIT k2] at e2
            rw [whyT_9 ⟨w, v⟩ (Or.inr (Or.inr k2))]
            simp (disch := first | omega | assumption) only [↓lt, Option.bind_some, zl, ll, zadd, zsub, zmul, zneg, ladd, lsub, lmul, lneg, zltT, zltF, zleT, zleF, zeqT, zeqF, zidx, ixT, zwide, bIT, bIF, if_true, if_false, ↓reduceIte, Nat.reduceAdd, Int.reduceAdd, Int.reduceMul, Int.reduceSub, Int.reduceNeg, cs_c, cs_o, cs_2, cu_c, cu_o, Int.cast_ofNat_Int, ps_f, ps_g, ps_w, ps_o, ps_2, pu_f, pu_g, pu_w, pu_o, uI_s, uI_o, uI_j, uI_j1, uI_j2, uI_tw, or0, true_or, or_true, false_or, or_false, nar0, nar1, m_isPerson, e1, e2]
          · rw [bIF k2] at e2
            rw [whyT_0 ⟨w, v⟩ (fun z => z.elim u (fun z => z.elim k1 k2))]
            simp (disch := first | omega | assumption) only [↓lt, Option.bind_some, zl, ll, zadd, zsub, zmul, zneg, ladd, lsub, lmul, lneg, zltT, zltF, zleT, zleF, zeqT, zeqF, zidx, ixT, zwide, bIT, bIF, if_true, if_false, ↓reduceIte, Nat.reduceAdd, Int.reduceAdd, Int.reduceMul, Int.reduceSub, Int.reduceNeg, cs_c, cs_o, cs_2, cu_c, cu_o, Int.cast_ofNat_Int, ps_f, ps_g, ps_w, ps_o, ps_2, pu_f, pu_g, pu_w, pu_o, uI_s, uI_o, uI_j, uI_j1, uI_j2, uI_tw, or0, true_or, or_true, false_or, or_false, nar0, nar1, m_isPerson, e1, e2]
    · rw [whyT_2 (fun z => v z.2)]
      simp (disch := first | omega | assumption) only [↓lt, Option.bind_some, zl, ll, zadd, zsub, zmul, zneg, ladd, lsub, lmul, lneg, zltT, zltF, zleT, zleF, zeqT, zeqF, zidx, ixT, zwide, bIT, bIF, if_true, if_false, ↓reduceIte, Nat.reduceAdd, Int.reduceAdd, Int.reduceMul, Int.reduceSub, Int.reduceNeg, cs_c, cs_o, cs_2, cu_c, cu_o, Int.cast_ofNat_Int, ps_f, ps_g, ps_w, ps_o, ps_2, pu_f, pu_g, pu_w, pu_o, uI_s, uI_o, uI_j, uI_j1, uI_j2, uI_tw, or0, true_or, or_true, false_or, or_false, nar0, nar1, m_isPerson]
  · rw [whyT_2 (fun z => w z.1)]
    simp (disch := first | omega | assumption) only [↓lt, Option.bind_some, zl, ll, zadd, zsub, zmul, zneg, ladd, lsub, lmul, lneg, zltT, zltF, zleT, zleF, zeqT, zeqF, zidx, ixT, zwide, bIT, bIF, if_true, if_false, ↓reduceIte, Nat.reduceAdd, Int.reduceAdd, Int.reduceMul, Int.reduceSub, Int.reduceNeg, cs_c, cs_o, cs_2, cu_c, cu_o, Int.cast_ofNat_Int, ps_f, ps_g, ps_w, ps_o, ps_2, pu_f, pu_g, pu_w, pu_o, uI_s, uI_o, uI_j, uI_j1, uI_j2, uI_tw, or0, true_or, or_true, false_or, or_false, nar0, nar1, m_isPerson]
theorem whyT_r {b : Int → Int} {x y : Int} : whyT b x y = 2 ∨ whyT b x y = 9 ∨ (whyT b x y = 0 ∧ (0 ≤ x ∧ x < b 2) ∧ (0 ≤ y ∧ y < b 2) ∧ ¬ x = y ∧ ¬ 0 ≤ b (66 + x) ∧ ¬ 0 ≤ b (66 + y)) := by
  unfold whyT
  by_cases w : (0 ≤ x ∧ x < b 2) ∧ 0 ≤ y ∧ y < b 2
  · rw [if_pos w]
    by_cases v : x = y ∨ 0 ≤ b (66 + x) ∨ 0 ≤ b (66 + y)
    · rw [if_pos v]; exact Or.inr (Or.inl rfl)
    · rw [if_neg v]; exact Or.inr (Or.inr ⟨rfl, w.1, w.2, fun z => v (Or.inl z), fun z => v (Or.inr (Or.inl z)), fun z => v (Or.inr (Or.inr z))⟩)
  · rw [if_neg w]; exact Or.inl rfl
theorem k_soonestTwo (p q l : Int32) (n : Nat) (hn : 3300 ≤ n) : OKm (f_X11_soonestTwo n 0 p q l) (f_X12_soonestTwo n 227 p q l) := by
  obtain ⟨x, hx1, hx2, rfl⟩ := z_ex p
  obtain ⟨y, hy1, hy2, rfl⟩ := z_ex q
  obtain ⟨z, hz1, hz2, rfl⟩ := z_ex l
  refine ok_sc (fun M L g b hO => ?_)
  have hO2 := hO
  obtain ⟨hP, hL, hg, hb, hm, hC⟩ := hO; have hp0 : M.2.2 0 10 = L := hP.1; have hl := Ptr_L hP; have hM := (HL_cs hl.2).mp hL; have hh := hb.1; unfold WH at hh
  have hi : 0 ≤ b 2 ∧ b 2 ≤ 8 ∧ 0 ≤ b 0 ∧ b 0 ≤ 8 ∧ 0 ≤ b 5 := by omega
  clear hC hh
  have ew := c_whyNoTwoAt (n := n) (M := cs M b) (g := g) (x := x) (y := y) hL hg hb hp0 hx1 hx2 hy1 hy2
  have mw := fun X => m_whyNotTwo (n := n) (X := X) (x := x) (y := y) hb hx1 hx2 hy1 hy2
  by_cases v : 0 ≤ z ∧ z < b 0
  · rcases whyT_r (b := b) (x := x) (y := y) with e | e | ⟨e, w, w2, nxy, u, u2⟩
    · rw [e] at ew
      simp only [e] at mw
      refine sc_no (c := f_X11_soonestTwo n 0 (zI x) (zI y) (zI z)) (m := f_X12_soonestTwo n 227 (zI x) (zI y) (zI z)) hO2 (r := zI (-1)) (s := zI 2) ?_ (fun X => ?_)
      · unfold f_X11_soonestTwo
        simp (disch := first | omega | assumption) only [↓lt, Option.bind_some, zl, ll, zadd, zsub, zmul, zneg, ladd, lsub, lmul, lneg, zltT, zltF, zleT, zleF, zeqT, zeqF, zidx, ixT, zwide, bIT, bIF, if_true, if_false, ↓reduceIte, Nat.reduceAdd, Int.reduceAdd, Int.reduceMul, Int.reduceSub, Int.reduceNeg, cs_c, cs_o, cs_2, cu_c, cu_o, Int.cast_ofNat_Int, ps_f, ps_g, ps_w, ps_o, ps_2, pu_f, pu_g, pu_w, pu_o, uI_s, uI_o, uI_j, uI_j1, uI_j2, uI_tw, or0, true_or, or_true, false_or, or_false, nar0, nar1, f_X11_tell, f_X11_refuse, f_X11_tellIf, f_X11_tellOrNone, f_X11_tellSooner, f_X11_deny, f_X11_succeed, f_X12_refuse, f_X12_no, hp0, c_hasPlace hL, ew]
      · unfold f_X12_soonestTwo
        simp (disch := first | omega | assumption) only [↓lt, Option.bind_some, zl, ll, zadd, zsub, zmul, zneg, ladd, lsub, lmul, lneg, zltT, zltF, zleT, zleF, zeqT, zeqF, zidx, ixT, zwide, bIT, bIF, if_true, if_false, ↓reduceIte, Nat.reduceAdd, Int.reduceAdd, Int.reduceMul, Int.reduceSub, Int.reduceNeg, cs_c, cs_o, cs_2, cu_c, cu_o, Int.cast_ofNat_Int, ps_f, ps_g, ps_w, ps_o, ps_2, pu_f, pu_g, pu_w, pu_o, uI_s, uI_o, uI_j, uI_j1, uI_j2, uI_tw, or0, true_or, or_true, false_or, or_false, nar0, nar1, f_X11_tell, f_X11_refuse, f_X11_tellIf, f_X11_tellOrNone, f_X11_tellSooner, f_X11_deny, f_X11_succeed, f_X12_refuse, f_X12_no, hp0, m_isPlaceAt, mw]
    · rw [e] at ew
      simp only [e] at mw
      refine sc_no (c := f_X11_soonestTwo n 0 (zI x) (zI y) (zI z)) (m := f_X12_soonestTwo n 227 (zI x) (zI y) (zI z)) hO2 (r := zI (-1)) (s := zI 9) ?_ (fun X => ?_)
      · unfold f_X11_soonestTwo
        simp (disch := first | omega | assumption) only [↓lt, Option.bind_some, zl, ll, zadd, zsub, zmul, zneg, ladd, lsub, lmul, lneg, zltT, zltF, zleT, zleF, zeqT, zeqF, zidx, ixT, zwide, bIT, bIF, if_true, if_false, ↓reduceIte, Nat.reduceAdd, Int.reduceAdd, Int.reduceMul, Int.reduceSub, Int.reduceNeg, cs_c, cs_o, cs_2, cu_c, cu_o, Int.cast_ofNat_Int, ps_f, ps_g, ps_w, ps_o, ps_2, pu_f, pu_g, pu_w, pu_o, uI_s, uI_o, uI_j, uI_j1, uI_j2, uI_tw, or0, true_or, or_true, false_or, or_false, nar0, nar1, f_X11_tell, f_X11_refuse, f_X11_tellIf, f_X11_tellOrNone, f_X11_tellSooner, f_X11_deny, f_X11_succeed, f_X12_refuse, f_X12_no, hp0, c_hasPlace hL, ew]
      · unfold f_X12_soonestTwo
        simp (disch := first | omega | assumption) only [↓lt, Option.bind_some, zl, ll, zadd, zsub, zmul, zneg, ladd, lsub, lmul, lneg, zltT, zltF, zleT, zleF, zeqT, zeqF, zidx, ixT, zwide, bIT, bIF, if_true, if_false, ↓reduceIte, Nat.reduceAdd, Int.reduceAdd, Int.reduceMul, Int.reduceSub, Int.reduceNeg, cs_c, cs_o, cs_2, cu_c, cu_o, Int.cast_ofNat_Int, ps_f, ps_g, ps_w, ps_o, ps_2, pu_f, pu_g, pu_w, pu_o, uI_s, uI_o, uI_j, uI_j1, uI_j2, uI_tw, or0, true_or, or_true, false_or, or_false, nar0, nar1, f_X11_tell, f_X11_refuse, f_X11_tellIf, f_X11_tellOrNone, f_X11_tellSooner, f_X11_deny, f_X11_succeed, f_X12_refuse, f_X12_no, hp0, m_isPlaceAt, mw]
    · rw [e] at ew
      simp only [e] at mw
      have z1 := WPb hb w.1 w.2
      have z2 := WPb hb w2.1 w2.2
      have gp := hg.1 x w.1 w.2
      have gq := hg.1 y w2.1 w2.2
      unfold GP at gp gq
      have g5 : g x 0 5 = b (58 + x) := by omega
      have g6 : g y 0 5 = b (58 + y) := by omega
      have i5 : 0 ≤ b (58 + x) ∧ b (58 + x) < b 0 ∧ b (66 + x) = -1 ∧ 0 ≤ b (58 + y) ∧ b (58 + y) < b 0 := by omega
      clear z1 z2 gp gq
      by_cases k0 : b (58 + x) = b (58 + y)
      · have ec := c_minutesTo (n := n) (M := M) (g := g) (q := y) hL hl hg hb hm w.1 w.2 i5.2.2.1 (Or.inr w2) v.1 v.2 (by omega)
        have em := fun X => m_laysWhen (n := n) (a := 236) (X := X) (p := x) (q := y) (f := b (58 + x)) (s := b 5) (by decide) hb w.1 w.2 (Or.inr w2) i5.1 i5.2.1 hi.2.2.2.2 (by omega) (by omega)
        have tv := TT_v (p := x) (q := y) (f := b (58 + x)) (s := b 5) (j := z) hb (by omega) (by omega) v.1 (by omega)
        generalize TT b x y (b (58 + x)) (b 5) = T at *
        by_cases k : T z < 1000000000
        · rw [if_pos k] at ec
          have nk : nT T z = T z := if_pos k
          refine ⟨zI (T z - b 5), zI 0, uI (rs M 15 T) 0 15 (zI 0), ?_, uI_s, SC_of hP rfl (fun a k h1 h2 => by rw [uI_o h1, rs_o (by omega)]), fun X => ⟨rs (uI (uI X 227 1 (zI 0)) 227 0 (zI 0)) 236 (nT T), ?_, by rw [rs_o (by decide), uI_s], SM_tr SM_st (SM_rs (Or.inl rfl))⟩⟩
          · unfold f_X11_soonestTwo
            simp (disch := first | omega | assumption) only [↓lt, Option.bind_some, zl, ll, zadd, zsub, zmul, zneg, ladd, lsub, lmul, lneg, zltT, zltF, zleT, zleF, zeqT, zeqF, zidx, ixT, zwide, bIT, bIF, if_true, if_false, ↓reduceIte, Nat.reduceAdd, Int.reduceAdd, Int.reduceMul, Int.reduceSub, Int.reduceNeg, cs_c, cs_o, cs_2, cu_c, cu_o, Int.cast_ofNat_Int, ps_f, ps_g, ps_w, ps_o, ps_2, pu_f, pu_g, pu_w, pu_o, uI_s, uI_o, uI_j, uI_j1, uI_j2, uI_tw, or0, true_or, or_true, false_or, or_false, nar0, nar1, f_X11_tell, f_X11_refuse, f_X11_tellIf, f_X11_tellOrNone, f_X11_tellSooner, f_X11_deny, f_X11_succeed, f_X12_refuse, f_X12_no, hp0, c_hasPlace hL, ew, ec, g5, g6]
          · unfold f_X12_soonestTwo
            simp (disch := first | omega | assumption) only [↓lt, Option.bind_some, zl, ll, zadd, zsub, zmul, zneg, ladd, lsub, lmul, lneg, zltT, zltF, zleT, zleF, zeqT, zeqF, zidx, ixT, zwide, bIT, bIF, if_true, if_false, ↓reduceIte, Nat.reduceAdd, Int.reduceAdd, Int.reduceMul, Int.reduceSub, Int.reduceNeg, cs_c, cs_o, cs_2, cu_c, cu_o, Int.cast_ofNat_Int, ps_f, ps_g, ps_w, ps_o, ps_2, pu_f, pu_g, pu_w, pu_o, uI_s, uI_o, uI_j, uI_j1, uI_j2, uI_tw, or0, true_or, or_true, false_or, or_false, nar0, nar1, f_X11_tell, f_X11_refuse, f_X11_tellIf, f_X11_tellOrNone, f_X11_tellSooner, f_X11_deny, f_X11_succeed, f_X12_refuse, f_X12_no, hp0, m_isPlaceAt, mw, em, rs_s, rs_o, nk]
        · rw [if_neg k] at ec
          have nk : nT T z = -1 := if_neg k
          refine ⟨zI (-1), zI 8, uI (rs M 15 T) 0 15 (zI 8), ?_, uI_s, SC_of hP rfl (fun a k h1 h2 => by rw [uI_o h1, rs_o (by omega)]), fun X => ⟨uI (rs (uI (uI X 227 1 (zI 0)) 227 0 (zI 0)) 236 (nT T)) 227 0 (zI 8), ?_, uI_s, SM_tr (SM_tr SM_st (SM_rs (Or.inl rfl))) SM_s⟩⟩
          · unfold f_X11_soonestTwo
            simp (disch := first | omega | assumption) only [↓lt, Option.bind_some, zl, ll, zadd, zsub, zmul, zneg, ladd, lsub, lmul, lneg, zltT, zltF, zleT, zleF, zeqT, zeqF, zidx, ixT, zwide, bIT, bIF, if_true, if_false, ↓reduceIte, Nat.reduceAdd, Int.reduceAdd, Int.reduceMul, Int.reduceSub, Int.reduceNeg, cs_c, cs_o, cs_2, cu_c, cu_o, Int.cast_ofNat_Int, ps_f, ps_g, ps_w, ps_o, ps_2, pu_f, pu_g, pu_w, pu_o, uI_s, uI_o, uI_j, uI_j1, uI_j2, uI_tw, or0, true_or, or_true, false_or, or_false, nar0, nar1, f_X11_tell, f_X11_refuse, f_X11_tellIf, f_X11_tellOrNone, f_X11_tellSooner, f_X11_deny, f_X11_succeed, f_X12_refuse, f_X12_no, hp0, c_hasPlace hL, ew, ec, g5, g6]
          · unfold f_X12_soonestTwo
            simp (disch := first | omega | assumption) only [↓lt, Option.bind_some, zl, ll, zadd, zsub, zmul, zneg, ladd, lsub, lmul, lneg, zltT, zltF, zleT, zleF, zeqT, zeqF, zidx, ixT, zwide, bIT, bIF, if_true, if_false, ↓reduceIte, Nat.reduceAdd, Int.reduceAdd, Int.reduceMul, Int.reduceSub, Int.reduceNeg, cs_c, cs_o, cs_2, cu_c, cu_o, Int.cast_ofNat_Int, ps_f, ps_g, ps_w, ps_o, ps_2, pu_f, pu_g, pu_w, pu_o, uI_s, uI_o, uI_j, uI_j1, uI_j2, uI_tw, or0, true_or, or_true, false_or, or_false, nar0, nar1, f_X11_tell, f_X11_refuse, f_X11_tellIf, f_X11_tellOrNone, f_X11_tellSooner, f_X11_deny, f_X11_succeed, f_X12_refuse, f_X12_no, hp0, m_isPlaceAt, mw, em, rs_s, rs_o, nk]
      · refine sc_no (c := f_X11_soonestTwo n 0 (zI x) (zI y) (zI z)) (m := f_X12_soonestTwo n 227 (zI x) (zI y) (zI z)) hO2 (r := zI (-1)) (s := zI 9) ?_ (fun X => ?_)
        · unfold f_X11_soonestTwo
          simp (disch := first | omega | assumption) only [↓lt, Option.bind_some, zl, ll, zadd, zsub, zmul, zneg, ladd, lsub, lmul, lneg, zltT, zltF, zleT, zleF, zeqT, zeqF, zidx, ixT, zwide, bIT, bIF, if_true, if_false, ↓reduceIte, Nat.reduceAdd, Int.reduceAdd, Int.reduceMul, Int.reduceSub, Int.reduceNeg, cs_c, cs_o, cs_2, cu_c, cu_o, Int.cast_ofNat_Int, ps_f, ps_g, ps_w, ps_o, ps_2, pu_f, pu_g, pu_w, pu_o, uI_s, uI_o, uI_j, uI_j1, uI_j2, uI_tw, or0, true_or, or_true, false_or, or_false, nar0, nar1, f_X11_tell, f_X11_refuse, f_X11_tellIf, f_X11_tellOrNone, f_X11_tellSooner, f_X11_deny, f_X11_succeed, f_X12_refuse, f_X12_no, hp0, c_hasPlace hL, ew, g5, g6]
        · unfold f_X12_soonestTwo
          simp (disch := first | omega | assumption) only [↓lt, Option.bind_some, zl, ll, zadd, zsub, zmul, zneg, ladd, lsub, lmul, lneg, zltT, zltF, zleT, zleF, zeqT, zeqF, zidx, ixT, zwide, bIT, bIF, if_true, if_false, ↓reduceIte, Nat.reduceAdd, Int.reduceAdd, Int.reduceMul, Int.reduceSub, Int.reduceNeg, cs_c, cs_o, cs_2, cu_c, cu_o, Int.cast_ofNat_Int, ps_f, ps_g, ps_w, ps_o, ps_2, pu_f, pu_g, pu_w, pu_o, uI_s, uI_o, uI_j, uI_j1, uI_j2, uI_tw, or0, true_or, or_true, false_or, or_false, nar0, nar1, f_X11_tell, f_X11_refuse, f_X11_tellIf, f_X11_tellOrNone, f_X11_tellSooner, f_X11_deny, f_X11_succeed, f_X12_refuse, f_X12_no, hp0, m_isPlaceAt, mw]
  · refine sc_no (c := f_X11_soonestTwo n 0 (zI x) (zI y) (zI z)) (m := f_X12_soonestTwo n 227 (zI x) (zI y) (zI z)) hO2 (r := zI (-1)) (s := zI 2) ?_ (fun X => ?_)
    · unfold f_X11_soonestTwo
      simp (disch := first | omega | assumption) only [↓lt, Option.bind_some, zl, ll, zadd, zsub, zmul, zneg, ladd, lsub, lmul, lneg, zltT, zltF, zleT, zleF, zeqT, zeqF, zidx, ixT, zwide, bIT, bIF, if_true, if_false, ↓reduceIte, Nat.reduceAdd, Int.reduceAdd, Int.reduceMul, Int.reduceSub, Int.reduceNeg, cs_c, cs_o, cs_2, cu_c, cu_o, Int.cast_ofNat_Int, ps_f, ps_g, ps_w, ps_o, ps_2, pu_f, pu_g, pu_w, pu_o, uI_s, uI_o, uI_j, uI_j1, uI_j2, uI_tw, or0, true_or, or_true, false_or, or_false, nar0, nar1, f_X11_tell, f_X11_refuse, f_X11_tellIf, f_X11_tellOrNone, f_X11_tellSooner, f_X11_deny, f_X11_succeed, f_X12_refuse, f_X12_no, hp0, c_hasPlace hL]
    · unfold f_X12_soonestTwo
      have ep := fun K => m_isPlaceAt (b := b) (p := z) (n := n) (M := K) hz1 hz2 hi.2.2.1 hi.2.2.2.1
      simp only [bIF v] at ep
      simp (maxSteps := 1000000) (disch := first | omega | assumption) only [↓lt, Option.bind_some, zl, ll, zadd, zsub, zmul, zneg, ladd, lsub, lmul, lneg, zltT, zltF, zleT, zleF, zeqT, zeqF, zidx, ixT, zwide, bIT, bIF, if_true, if_false, ↓reduceIte, Nat.reduceAdd, Int.reduceAdd, Int.reduceMul, Int.reduceSub, Int.reduceNeg, cs_c, cs_o, cs_2, cu_c, cu_o, Int.cast_ofNat_Int, ps_f, ps_g, ps_w, ps_o, ps_2, pu_f, pu_g, pu_w, pu_o, uI_s, uI_o, uI_j, uI_j1, uI_j2, uI_tw, or0, true_or, or_true, false_or, or_false, nar0, nar1, f_X11_tell, f_X11_refuse, f_X11_tellIf, f_X11_tellOrNone, f_X11_tellSooner, f_X11_deny, f_X11_succeed, f_X12_refuse, f_X12_no, hp0, ep]
