/-! ===== soonest, soonestTwo ===== -/
/-- why somebody can't be asked: the class -/
theorem c_whyNotAt {b : Int → Int} {x : Int} {L n : Nat} {M : KM} {g : Int → Int → Int → Int} (hL : HL M L b) (hg : GR g b) (hb : WB b) (hp0 : M.2.2 0 10 = L) (h1 : -2147483648 ≤ x) (h2 : x < 2147483648) : f_X11_whyNotAtPlace n 0 (zI x) (ps M L g) = some (zI (if 0 ≤ x ∧ x < b 2 then (if 0 ≤ b (66 + x) then 9 else 0) else 2)) := by
  have hh := hb.1
  unfold WH at hh
  have hi : 0 ≤ b 2 ∧ b 2 ≤ 8 := by omega
  clear hh
  unfold f_X11_whyNotAtPlace f_X7_isAtPlace
  by_cases w : 0 ≤ x ∧ x < b 2
  · have gp := hg.1 x w.1 w.2
    have ez := WPb hb w.1 w.2
    unfold GP at gp
    rw [if_pos w]
    by_cases y : 0 ≤ b (66 + x)
    · have g5 : g x 0 5 = -1 := by omega
      rw [if_pos y]
      clear gp ez
      simp (disch := first | omega | assumption) only [↓lt, Option.bind_some, zl, ll, zadd, zsub, zmul, zneg, ladd, lsub, lmul, lneg, zltT, zltF, zleT, zleF, zeqT, zeqF, zidx, ixT, zwide, bIT, bIF, if_true, if_false, ↓reduceIte, Nat.reduceAdd, Int.reduceAdd, Int.reduceMul, Int.reduceSub, Int.reduceNeg, cs_c, cs_o, cs_2, cu_c, cu_o, Int.cast_ofNat_Int, ps_f, ps_g, ps_w, ps_o, ps_2, pu_f, pu_g, pu_w, pu_o, uI_s, uI_o, uI_j, uI_j1, uI_j2, uI_tw, or0, true_or, or_true, false_or, or_false, nar0, nar1, hp0, c_hasPerson hL, g5]
    · have g5 : g x 0 5 = b (58 + x) := by omega
      have i5 : 0 ≤ b (58 + x) ∧ b (58 + x) < 8 := by
        have := hb.1
        unfold WH at this
        omega
      rw [if_neg y]
      clear gp ez
      simp (disch := first | omega | assumption) only [↓lt, Option.bind_some, zl, ll, zadd, zsub, zmul, zneg, ladd, lsub, lmul, lneg, zltT, zltF, zleT, zleF, zeqT, zeqF, zidx, ixT, zwide, bIT, bIF, if_true, if_false, ↓reduceIte, Nat.reduceAdd, Int.reduceAdd, Int.reduceMul, Int.reduceSub, Int.reduceNeg, cs_c, cs_o, cs_2, cu_c, cu_o, Int.cast_ofNat_Int, ps_f, ps_g, ps_w, ps_o, ps_2, pu_f, pu_g, pu_w, pu_o, uI_s, uI_o, uI_j, uI_j1, uI_j2, uI_tw, or0, true_or, or_true, false_or, or_false, nar0, nar1, hp0, c_hasPerson hL, g5]
  · rw [if_neg w]
    simp (disch := first | omega | assumption) only [↓lt, Option.bind_some, zl, ll, zadd, zsub, zmul, zneg, ladd, lsub, lmul, lneg, zltT, zltF, zleT, zleF, zeqT, zeqF, zidx, ixT, zwide, bIT, bIF, if_true, if_false, ↓reduceIte, Nat.reduceAdd, Int.reduceAdd, Int.reduceMul, Int.reduceSub, Int.reduceNeg, cs_c, cs_o, cs_2, cu_c, cu_o, Int.cast_ofNat_Int, ps_f, ps_g, ps_w, ps_o, ps_2, pu_f, pu_g, pu_w, pu_o, uI_s, uI_o, uI_j, uI_j1, uI_j2, uI_tw, or0, true_or, or_true, false_or, or_false, nar0, nar1, hp0, c_hasPerson hL]
theorem TT_v {b : Int → Int} {p q f s j : Int} (hb : WB b) (h1 : 0 ≤ s) (h2 : s ≤ 110000) (j1 : 0 ≤ j) (j2 : j < 8) : 0 ≤ TT b p q f s j ∧ (TT b p q f s j ≤ 700000 ∨ TT b p q f s j = 1000000000) := TT_ok hb h1 (Or.inl h2) j j1 j2
/-- the class's answer: minutes from the present one, or none -/
theorem c_minutesTo {b : Int → Int} {dd : Int → Int} {x q y : Int} {L n : Nat} {M : KM} {g : Int → Int → Int → Int} (hL : HL (cs M dd) L b) (hl : 23 ≤ L ∧ L ≤ 61) (hg : GR g b) (hb : WB b) (h5 : b 5 ≤ 99999) (h1 : 0 ≤ x) (h2 : x < b 2) (h6 : b (66 + x) = -1) (hq : q = -1 ∨ (0 ≤ q ∧ q < b 2)) (y1 : 0 ≤ y) (y2 : y < b 0) (hn : 200 < n) : f_X6_minutesTo n 14 L (zI x) (zI q) (zI y) (ps (cs M dd) L g) = some (zI (if TT b x q (b (58 + x)) (b 5) y < 1000000000 then TT b x q (b (58 + x)) (b 5) y - b 5 else 1000000000), ps (cs (rs M 15 (TT b x q (b (58 + x)) (b 5))) dd) L g) := by
  have hh := hb.1
  unfold WH at hh
  have hi : 0 ≤ b 2 ∧ b 2 ≤ 8 ∧ 0 ≤ b 0 ∧ b 0 ≤ 8 ∧ 0 ≤ b 5 := by omega
  clear hh
  have gp := hg.1 x h1 h2
  have ez := WPb hb h1 h2
  unfold GP at gp
  have g5 : g x 0 5 = b (58 + x) := by omega
  have i5 : 0 ≤ b (58 + x) ∧ b (58 + x) < b 0 := by omega
  clear gp ez
  have q5 : M.1 L 11 = zI (b 5) := ((HL_cs hl.2).mp hL).2.2.2.1
  have e := c_findTimes (n := n) (M := M) (g := g) (f := b (58 + x)) (s := b 5) hL hl hg hb h1 h2 hq i5.1 i5.2 (by omega) (by omega) hn
  have tv := TT_v (p := x) (q := q) (f := b (58 + x)) (s := b 5) (j := y) hb (by omega) (by omega) y1 (by omega)
  generalize TT b x q (b (58 + x)) (b 5) = T at *
  unfold f_X6_minutesTo f_X6_minutesFrom
  by_cases w : T y < 1000000000
  · rw [if_pos w]
    simp (disch := first | omega | assumption) only [↓lt, Option.bind_some, zl, ll, zadd, zsub, zmul, zneg, ladd, lsub, lmul, lneg, zltT, zltF, zleT, zleF, zeqT, zeqF, zidx, ixT, zwide, bIT, bIF, if_true, if_false, ↓reduceIte, Nat.reduceAdd, Int.reduceAdd, Int.reduceMul, Int.reduceSub, Int.reduceNeg, cs_c, cs_o, cs_2, cu_c, cu_o, Int.cast_ofNat_Int, ps_f, ps_g, ps_w, ps_o, ps_2, pu_f, pu_g, pu_w, pu_o, uI_s, uI_o, uI_j, uI_j1, uI_j2, uI_tw, or0, true_or, or_true, false_or, or_false, nar0, nar1, rs_o, rs_s, q5, g5, e]
  · rw [if_neg w]
    simp (disch := first | omega | assumption) only [↓lt, Option.bind_some, zl, ll, zadd, zsub, zmul, zneg, ladd, lsub, lmul, lneg, zltT, zltF, zleT, zleF, zeqT, zeqF, zidx, ixT, zwide, bIT, bIF, if_true, if_false, ↓reduceIte, Nat.reduceAdd, Int.reduceAdd, Int.reduceMul, Int.reduceSub, Int.reduceNeg, cs_c, cs_o, cs_2, cu_c, cu_o, Int.cast_ofNat_Int, ps_f, ps_g, ps_w, ps_o, ps_2, pu_f, pu_g, pu_w, pu_o, uI_s, uI_o, uI_j, uI_j1, uI_j2, uI_tw, or0, true_or, or_true, false_or, or_false, nar0, nar1, rs_o, rs_s, q5, g5, e]
