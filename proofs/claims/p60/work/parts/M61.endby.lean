/-! ===== when a road is done, as the class reckons it ===== -/
def aI (b : Int → Int) (p r s : Int) : Int := dnI (b 3) (b 4) (pcB b p r) s (b (34 + r))
theorem c_arrivalBy {b : Int → Int} {p r s : Int} {L n : Nat} {M : KM} {g : Int → Int → Int → Int} (hL : HL M L b) (hg : GR g b) (hb : WB b) (h1 : 0 ≤ p) (h2 : p < b 2) (h3 : 0 ≤ r) (h4 : r < b 1) (hs : 0 ≤ s) (hs2 : s ≤ 900000 ∨ s = 1000000000) : f_X2_arrivalBy n L (zI p) (zI r) (zI s) (ps M L g) = some (zI (aI b p r s)) := by
  have hM := hL
  obtain ⟨q0, q1, q2, q5, q6, q7, q8, q9, q3, q4, qd, qa, qb, qc, qs⟩ := hL
  have hh := hb.1
  unfold WH at hh
  have hR := hb.2.1 r h3 h4
  unfold WR at hR
  have gp := hg.1 p h1 h2
  have e1 := c_pace_l (n := n) hM hb h1 h2 h3 h4 gp.1 gp.2.1 (hg.2.1 p r h1 h2 h3 h4)
  have e2 := c_doneAt (n := n) (s := s) (k := b (34 + r)) (HL_H (g := g) hM) (by omega) (by omega) (by omega) (by omega) hs (by omega) (by omega) hs2 (pcB_r (b := b) (p := p) (r := r))
  have ec := qc r h3 h4
  have i1 : b 1 ≤ 12 := by omega
  clear hh hR
  unfold f_X2_arrivalBy aI
  simp (disch := first | omega | assumption) only [↓lt, Option.bind_some, zl, ll, zadd, zsub, zmul, zneg, ladd, lsub, lmul, lneg, zltT, zltF, zleT, zleF, zeqT, zeqF, zidx, ixT, zwide, bIT, bIF, if_true, if_false, ↓reduceIte, Nat.reduceAdd, Int.reduceAdd, Int.reduceMul, Int.reduceSub, Int.reduceNeg, cs_c, cs_o, cs_2, cu_c, cu_o, Int.cast_ofNat_Int, ps_f, ps_g, ps_w, ps_o, ps_2, pu_f, pu_g, pu_w, pu_o, uI_s, uI_o, uI_j, uI_j1, uI_j2, uI_tw, or0, true_or, or_true, false_or, or_false, nar0, nar1, e1, ec, e2]
theorem aI_r {b : Int → Int} {p r s : Int} (hb : WB b) (h3 : 0 ≤ r) (h4 : r < b 1) (hs : 0 ≤ s) (hs2 : s ≤ 900000 ∨ s = 1000000000) : (s ≤ 900000 → s < aI b p r s) ∧ s ≤ aI b p r s ∧ aI b p r s ≤ 1000000000 ∧ (aI b p r s = 1000000000 ∨ aI b p r s ≤ s + 2880) := by
  have hh := hb.1
  unfold WH at hh
  have hR := hb.2.1 r h3 h4
  unfold WR at hR
  have hi : 0 ≤ b 3 ∧ b 3 ≤ 23 ∧ b 3 < b 4 ∧ b 4 ≤ 24 ∧ 1 ≤ b (34 + r) ∧ b (34 + r) ≤ 99 := by omega
  clear hh hR
  unfold aI
  rcases hs2 with hs2 | hs2
  · have w0 : ¬ 1000000000 ≤ s := by omega
    rcases pcB_r (b := b) (p := p) (r := r) with e | e | e
    · rw [e, dnI_0 w0]; omega
    · rw [e]
      by_cases w : b 3 = 0 ∧ b 4 = 24
      · rw [w.1, w.2, dnI_F w0]; omega
      · rw [dnI_1 w0 w]
        have := dnC_b (s := s) (k := b (34 + r)) hi.1 hi.2.1 hi.2.2.1 hi.2.2.2.1 hs hi.2.2.2.2.1 hi.2.2.2.2.2 w
        omega
    · rw [e, dnI_2]; omega
  · subst hs2
    unfold dnI
    rw [if_pos (Or.inr (by omega))]
    omega
/-- the class's far and the reference's never -/
def nv (v : Int) : Int := if v < 1000000000 then v else -1
theorem eI_nv {b : Int → Int} {p r s : Int} : eI b p r s = nv (aI b p r s) := rfl
def a2I (b : Int → Int) (p q r s : Int) : Int := if q = -1 then aI b p r s else if aI b q r s < aI b p r s then aI b q r s else aI b p r s
theorem c_arrival {b : Int → Int} {p q r s : Int} {L n : Nat} {M : KM} {g : Int → Int → Int → Int} (hL : HL M L b) (hg : GR g b) (hb : WB b) (h1 : 0 ≤ p) (h2 : p < b 2) (hq : q = -1 ∨ (0 ≤ q ∧ q < b 2)) (h3 : 0 ≤ r) (h4 : r < b 1) (hs : 0 ≤ s) (hs2 : s ≤ 900000 ∨ s = 1000000000) : f_X6_arrival n L (zI p) (zI q) (zI r) (zI s) (ps M L g) = some (zI (a2I b p q r s)) := by
  have e1 := c_arrivalBy (n := n) hL hg hb h1 h2 h3 h4 hs hs2
  have r1 := aI_r (p := p) hb h3 h4 hs hs2
  have l1 : 0 ≤ aI b p r s := by omega
  have hh := hb.1
  unfold WH at hh
  have i2 : b 2 ≤ 8 := by omega
  clear hh
  unfold f_X6_arrival a2I
  rcases hq with hq | hq
  · subst hq
    rw [if_pos rfl]
    simp (disch := first | omega | assumption) only [↓lt, Option.bind_some, zl, ll, zadd, zsub, zmul, zneg, ladd, lsub, lmul, lneg, zltT, zltF, zleT, zleF, zeqT, zeqF, zidx, ixT, zwide, bIT, bIF, if_true, if_false, ↓reduceIte, Nat.reduceAdd, Int.reduceAdd, Int.reduceMul, Int.reduceSub, Int.reduceNeg, cs_c, cs_o, cs_2, cu_c, cu_o, Int.cast_ofNat_Int, ps_f, ps_g, ps_w, ps_o, ps_2, pu_f, pu_g, pu_w, pu_o, uI_s, uI_o, uI_j, uI_j1, uI_j2, uI_tw, or0, true_or, or_true, false_or, or_false, nar0, nar1, e1]
  · have e2 := c_arrivalBy (n := n) hL hg hb hq.1 hq.2 h3 h4 hs hs2
    have r2 := aI_r (p := q) hb h3 h4 hs hs2
    have l2 : 0 ≤ aI b q r s := by omega
    have qn : ¬ q = -1 := by omega
    by_cases w : aI b q r s < aI b p r s
    · simp only [if_neg qn, if_pos w]
      simp (disch := first | omega | assumption) only [↓lt, Option.bind_some, zl, ll, zadd, zsub, zmul, zneg, ladd, lsub, lmul, lneg, zltT, zltF, zleT, zleF, zeqT, zeqF, zidx, ixT, zwide, bIT, bIF, if_true, if_false, ↓reduceIte, Nat.reduceAdd, Int.reduceAdd, Int.reduceMul, Int.reduceSub, Int.reduceNeg, cs_c, cs_o, cs_2, cu_c, cu_o, Int.cast_ofNat_Int, ps_f, ps_g, ps_w, ps_o, ps_2, pu_f, pu_g, pu_w, pu_o, uI_s, uI_o, uI_j, uI_j1, uI_j2, uI_tw, or0, true_or, or_true, false_or, or_false, nar0, nar1, e1, e2]
    · simp only [if_neg qn, if_neg w]
      simp (disch := first | omega | assumption) only [↓lt, Option.bind_some, zl, ll, zadd, zsub, zmul, zneg, ladd, lsub, lmul, lneg, zltT, zltF, zleT, zleF, zeqT, zeqF, zidx, ixT, zwide, bIT, bIF, if_true, if_false, ↓reduceIte, Nat.reduceAdd, Int.reduceAdd, Int.reduceMul, Int.reduceSub, Int.reduceNeg, cs_c, cs_o, cs_2, cu_c, cu_o, Int.cast_ofNat_Int, ps_f, ps_g, ps_w, ps_o, ps_2, pu_f, pu_g, pu_w, pu_o, uI_s, uI_o, uI_j, uI_j1, uI_j2, uI_tw, or0, true_or, or_true, false_or, or_false, nar0, nar1, e1, e2]
