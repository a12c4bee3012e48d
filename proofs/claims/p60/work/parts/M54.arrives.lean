theorem dQ_wk {b : Int → Int} {q : Int} (hb : WB b) (h : goQ b q) : dQ b (wkB b q) = dQ b q := by
  obtain ⟨-, w2, w3, -⟩ := wk_of hb h
  unfold dQ
  rw [w2, w3]
theorem c_toGoal2 {b : Int → Int} {p : Int} {L n : Nat} {M : KM} {g : Int → Int → Int → Int} (hL : HL M L b) (hg : GR g b) (hb : WB b) (y : goQ b p) : f_X2_minutesToGoal n L (zI p) (ps M L g) = some (zI (toG b (wkB b p))) := by
  have hM := hL
  obtain ⟨q0, q1, q2, q5, q6, q7, q8, q9, q3, q4, qd, qa, qb, qc, qs⟩ := hL
  have hh := hb.1
  unfold WH at hh
  have hi : 0 ≤ b 2 ∧ b 2 ≤ 8 := by omega
  have gp := hg.1 p y.1 y.2.1
  unfold GP at gp
  have ez := WPb hb y.1 y.2.1
  have p0 := y.1
  have p1 := y.2.1
  have g9 : g p 0 9 = b (82 + p) := gp.2.2.2.2.1
  obtain ⟨w1, w2, w3, w4⟩ := wk_of hb y
  have lw : b (82 + wkB b p) = -1 := by
    by_cases l : 0 ≤ b (82 + p)
    · obtain ⟨-, -, -, -, k5, -⟩ := led_of hb p0 p1 l rfl
      rw [wk_l l]; exact k5
    · rw [wk_s l]; omega
  have gw := hg.1 (wkB b p) w1.1 w1.2.1
  unfold GP at gw
  have ew := WP_of hb w1.1 w1.2.1
  unfold WP at ew
  have gg := w1.2.2
  have hr : 0 ≤ b (122 + wkB b p) ∧ b (122 + wkB b p) < b 1 := by omega
  have w9 : g (wkB b p) 0 9 = -1 := by omega
  have e := c_toGoal (n := n) hM hb w1.1 w1.2.1 gg lw gw.1 gw.2.1 (hg.2.1 _ _ w1.1 w1.2.1 hr.1 hr.2) (by omega) w9 (by omega)
  clear gp gw ew hh
  by_cases l : 0 ≤ b (82 + p)
  · rw [wk_l l] at e w9 w1 ⊢
    have r0 := w1.1
    have r1 := w1.2.1
    unfold f_X2_minutesToGoal at e ⊢
    simp (disch := first | omega | assumption) only [↓lt, Option.bind_some, zl, ll, zadd, zsub, zmul, zneg, ladd, lsub, lmul, lneg, zltT, zltF, zleT, zleF, zeqT, zeqF, zidx, ixT, zwide, bIT, bIF, if_true, if_false, ↓reduceIte, Nat.reduceAdd, Int.reduceAdd, Int.reduceMul, Int.reduceSub, Int.reduceNeg, cs_c, cs_o, cs_2, cu_c, cu_o, Int.cast_ofNat_Int, ps_f, ps_g, ps_w, ps_o, ps_2, pu_f, pu_g, pu_w, pu_o, uI_s, uI_o, uI_j, uI_j1, uI_j2, uI_tw, or0, true_or, or_true, false_or, or_false, nar0, nar1, w9, c_hasPerson hM] at e
    simp (disch := first | omega | assumption) only [↓lt, Option.bind_some, zl, ll, zadd, zsub, zmul, zneg, ladd, lsub, lmul, lneg, zltT, zltF, zleT, zleF, zeqT, zeqF, zidx, ixT, zwide, bIT, bIF, if_true, if_false, ↓reduceIte, Nat.reduceAdd, Int.reduceAdd, Int.reduceMul, Int.reduceSub, Int.reduceNeg, cs_c, cs_o, cs_2, cu_c, cu_o, Int.cast_ofNat_Int, ps_f, ps_g, ps_w, ps_o, ps_2, pu_f, pu_g, pu_w, pu_o, uI_s, uI_o, uI_j, uI_j1, uI_j2, uI_tw, or0, true_or, or_true, false_or, or_false, nar0, nar1, g9, c_hasPerson hM]
    exact e
  · rw [wk_s l] at e ⊢
    exact e
