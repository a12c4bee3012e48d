/-! ===== going out: the calls' cores ===== -/
abbrev goR (b : Int → Int) (p to : Int) : Int := btB b (b (58 + p)) to
abbrev stOK (b : Int → Int) (p to : Int) : Prop := b (66 + p) < 0 ∧ 0 ≤ goR b p to ∧ canN b p (goR b p to)
def ouG (b : Int → Int) (g : Int → Int → Int → Int) (p s to : Int) : Int → Int → Int → Int := lvG (goR b p to) to (b (34 + goR b p to)) (-1) (fI (gIf (hasS s) (lvG (goR b p to) to (b (34 + goR b p to)) p)) (b 2).toNat 0 g) p
def ouB (b : Int → Int) (p s to : Int) : Int → Int := lvB2 (goR b p to) to (b (34 + goR b p to)) (-1) (fI (bIf (hasS s) (lvB2 (goR b p to) to (b (34 + goR b p to)) p)) (b 2).toNat 0 b) p
theorem c_setOut_F {b : Int → Int} {p s to : Int} {L n : Nat} {M : KM} {g : Int → Int → Int → Int} (hL : HL M L b) (hg : GR g b) (hb : WB b) (h1 : 0 ≤ p) (h2 : p < b 2) (h3 : 0 ≤ s) (h4 : s < 256) (h5 : 0 ≤ to) (h6 : to < b 0) (hn : 20 < n) (h : ¬ (stOK b p to ∧ awB b p s = -1)) : f_X2_setOut n L (zI p) (zI s) (zI to) (ps M L g) = some (zI (-1), ps M L g) := by
  have hh := hb.1
  unfold WH at hh
  have e2 := WPb hb h1 h2
  have e := hg.1 p h1 h2
  unfold GP at e
  have hi : 0 ≤ b 2 ∧ b 2 ≤ 8 ∧ b 0 ≤ 8 ∧ 0 ≤ b 0 ∧ 0 ≤ b 1 ∧ b 1 ≤ 12 := by omega
  have hr := btB_r (b := b) (x := b (58 + p)) (y := to) hi.2.2.2.2.1
  clear hh
  unfold f_X2_setOut
  rw [c_placeOf hL hb h1 h2]
  by_cases t1 : b (66 + p) < 0
  · have e5 : g p 0 5 = b (58 + p) := by omega
    clear e
    by_cases t2 : goR b p to = -1
    · simp (disch := first | omega | assumption) only [↓lt, Option.bind_some, zl, ll, zadd, zsub, zmul, zneg, ladd, lsub, lmul, lneg, zltT, zltF, zleT, zleF, zeqT, zeqF, zidx, ixT, zwide, bIT, bIF, if_true, if_false, ↓reduceIte, Nat.reduceAdd, Int.reduceAdd, Int.reduceMul, Int.reduceSub, Int.reduceNeg, cs_c, cs_o, cs_2, cu_c, cu_o, Int.cast_ofNat_Int, ps_f, ps_g, ps_w, ps_o, ps_2, pu_f, pu_g, pu_w, pu_o, uI_s, uI_o, uI_j, uI_j1, uI_j2, uI_tw, or0, true_or, or_true, false_or, or_false, nar0, nar1, e5, c_hasPlace hL, c_roadBetween hL hb, show btB b (b (58 + p)) to = -1 from t2, c_hasRoad hL]
    · by_cases t3 : canN b p (goR b p to)
      · have t4 : ¬ awB b p s = -1 := fun z => h ⟨⟨t1, by show 0 ≤ btB _ _ _; have : ¬ btB b (b (58 + p)) to = -1 := t2; omega, t3⟩, z⟩
        have t5 : 0 ≤ btB b (b (58 + p)) to := by have : ¬ btB b (b (58 + p)) to = -1 := t2; omega
        simp (disch := first | omega | assumption) only [↓lt, Option.bind_some, zl, ll, zadd, zsub, zmul, zneg, ladd, lsub, lmul, lneg, zltT, zltF, zleT, zleF, zeqT, zeqF, zidx, ixT, zwide, bIT, bIF, if_true, if_false, ↓reduceIte, Nat.reduceAdd, Int.reduceAdd, Int.reduceMul, Int.reduceSub, Int.reduceNeg, cs_c, cs_o, cs_2, cu_c, cu_o, Int.cast_ofNat_Int, ps_f, ps_g, ps_w, ps_o, ps_2, pu_f, pu_g, pu_w, pu_o, uI_s, uI_o, uI_j, uI_j1, uI_j2, uI_tw, or0, true_or, or_true, false_or, or_false, nar0, nar1, e5, c_hasPlace hL, c_roadBetween hL hb, c_hasRoad hL, c_isAble hL hg hb, c_areAllAt hL hg hb h1 h2, if_neg t4]
      · have t5 : 0 ≤ btB b (b (58 + p)) to := by have : ¬ btB b (b (58 + p)) to = -1 := t2; omega
        simp (disch := first | omega | assumption) only [↓lt, Option.bind_some, zl, ll, zadd, zsub, zmul, zneg, ladd, lsub, lmul, lneg, zltT, zltF, zleT, zleF, zeqT, zeqF, zidx, ixT, zwide, bIT, bIF, if_true, if_false, ↓reduceIte, Nat.reduceAdd, Int.reduceAdd, Int.reduceMul, Int.reduceSub, Int.reduceNeg, cs_c, cs_o, cs_2, cu_c, cu_o, Int.cast_ofNat_Int, ps_f, ps_g, ps_w, ps_o, ps_2, pu_f, pu_g, pu_w, pu_o, uI_s, uI_o, uI_j, uI_j1, uI_j2, uI_tw, or0, true_or, or_true, false_or, or_false, nar0, nar1, e5, c_hasPlace hL, c_roadBetween hL hb, c_hasRoad hL, c_isAble hL hg hb]
  · have e5 : g p 0 5 = -1 := by omega
    clear e
    simp (disch := first | omega | assumption) only [↓lt, Option.bind_some, zl, ll, zadd, zsub, zmul, zneg, ladd, lsub, lmul, lneg, zltT, zltF, zleT, zleF, zeqT, zeqF, zidx, ixT, zwide, bIT, bIF, if_true, if_false, ↓reduceIte, Nat.reduceAdd, Int.reduceAdd, Int.reduceMul, Int.reduceSub, Int.reduceNeg, cs_c, cs_o, cs_2, cu_c, cu_o, Int.cast_ofNat_Int, ps_f, ps_g, ps_w, ps_o, ps_2, pu_f, pu_g, pu_w, pu_o, uI_s, uI_o, uI_j, uI_j1, uI_j2, uI_tw, or0, true_or, or_true, false_or, or_false, nar0, nar1, e5, c_hasPlace hL, c_hasRoad hL]
theorem c_setOut_T {b : Int → Int} {p s to : Int} {L n : Nat} {M : KM} {g : Int → Int → Int → Int} (hL : HL M L b) (hg : GR g b) (hb : WB b) (h1 : 0 ≤ p) (h2 : p < b 2) (h3 : 0 ≤ s) (h4 : s < 256) (h5 : 0 ≤ to) (h6 : to < b 0) (hn : 20 < n) (ht : stOK b p to) (ha : awB b p s = -1) : f_X2_setOut n L (zI p) (zI s) (zI to) (ps M L g) = some (zI (b (34 + goR b p to)), ps M L (ouG b g p s to)) := by
  have hM := hL
  have hh := hb.1
  unfold WH at hh
  have e2 := WPb hb h1 h2
  have e := hg.1 p h1 h2
  unfold GP at e
  have hi : 0 ≤ b 2 ∧ b 2 ≤ 8 ∧ b 0 ≤ 8 ∧ 0 ≤ b 0 ∧ 0 ≤ b 1 ∧ b 1 ≤ 12 := by omega
  have hr := btB_r (b := b) (x := b (58 + p)) (y := to) hi.2.2.2.2.1
  obtain ⟨q0, q1, q2, -, -, -, -, -, -, -, -, -, -, qc, -⟩ := hM
  clear hh
  have e5 : g p 0 5 = b (58 + p) := by omega
  clear e
  obtain ⟨t1, t2, t3⟩ := ht
  have t5 : 0 ≤ btB b (b (58 + p)) to := t2
  have e6 := qc (btB b (b (58 + p)) to) t5 hr.2
  have lp : ∀ k : KM → Option (Int32 × KM), lp_X2_setOut_63 n L (zI p) (zI s) (zI to) (zI (btB b (b (58 + p)) to)) (zI 0) (ps M L g) k = k (ps M L (fI (gIf (hasS s) (lvG (goR b p to) to (b (34 + goR b p to)) p)) (b 2).toNat 0 g)) := fun k => (loop_f (lp := fun n i w => lp_X2_setOut_63 n L (zI p) (zI s) (zI to) (zI (btB b (b (58 + p)) to)) i (ps M L w) k) (f := gIf (hasS s) (lvG (goR b p to) to (b (34 + goR b p to)) p)) (fin := fun w => k (ps M L w)) (fun _ _ => True) (N := 0) (R := b 2) (by
    intro n i w _ h7 h8 _
    refine ⟨?_, trivial⟩
    rw [lp_X2_setOut_63]
    unfold gIf
    by_cases t : hasS s i = true
    · rw [if_pos t]
      simp (disch := first | omega | assumption) only [↓lt, Option.bind_some, zl, ll, zadd, zsub, zmul, zneg, ladd, lsub, lmul, lneg, zltT, zltF, zleT, zleF, zeqT, zeqF, zidx, ixT, zwide, bIT, bIF, if_true, if_false, ↓reduceIte, Nat.reduceAdd, Int.reduceAdd, Int.reduceMul, Int.reduceSub, Int.reduceNeg, cs_c, cs_o, cs_2, cu_c, cu_o, Int.cast_ofNat_Int, ps_f, ps_g, ps_w, ps_o, ps_2, pu_f, pu_g, pu_w, pu_o, uI_s, uI_o, uI_j, uI_j1, uI_j2, uI_tw, or0, true_or, or_true, false_or, or_false, nar0, nar1, q2, hs_c, t, not_true_eq_false, e6, c_leaveBy]
    · rw [if_neg t]
      simp (disch := first | omega | assumption) only [↓lt, Option.bind_some, zl, ll, zadd, zsub, zmul, zneg, ladd, lsub, lmul, lneg, zltT, zltF, zleT, zleF, zeqT, zeqF, zidx, ixT, zwide, bIT, bIF, if_true, if_false, ↓reduceIte, Nat.reduceAdd, Int.reduceAdd, Int.reduceMul, Int.reduceSub, Int.reduceNeg, cs_c, cs_o, cs_2, cu_c, cu_o, Int.cast_ofNat_Int, ps_f, ps_g, ps_w, ps_o, ps_2, pu_f, pu_g, pu_w, pu_o, uI_s, uI_o, uI_j, uI_j1, uI_j2, uI_tw, or0, true_or, or_true, false_or, or_false, nar0, nar1, q2, hs_c, t, not_false_eq_true, Bool.false_eq_true]) (by
    intro n w _ _
    rw [lp_X2_setOut_63]
    simp (disch := first | omega | assumption) only [↓lt, Option.bind_some, zl, ll, zadd, zsub, zmul, zneg, ladd, lsub, lmul, lneg, zltT, zltF, zleT, zleF, zeqT, zeqF, zidx, ixT, zwide, bIT, bIF, if_true, if_false, ↓reduceIte, Nat.reduceAdd, Int.reduceAdd, Int.reduceMul, Int.reduceSub, Int.reduceNeg, cs_c, cs_o, cs_2, cu_c, cu_o, Int.cast_ofNat_Int, ps_f, ps_g, ps_w, ps_o, ps_2, pu_f, pu_g, pu_w, pu_o, uI_s, uI_o, uI_j, uI_j1, uI_j2, uI_tw, or0, true_or, or_true, false_or, or_false, nar0, nar1, q2]) (b 2).toNat 0 g n (by omega) (by omega) (by omega) trivial).1
  unfold f_X2_setOut
  rw [c_placeOf hL hb h1 h2]
  simp (disch := first | omega | assumption) only [↓lt, Option.bind_some, zl, ll, zadd, zsub, zmul, zneg, ladd, lsub, lmul, lneg, zltT, zltF, zleT, zleF, zeqT, zeqF, zidx, ixT, zwide, bIT, bIF, if_true, if_false, ↓reduceIte, Nat.reduceAdd, Int.reduceAdd, Int.reduceMul, Int.reduceSub, Int.reduceNeg, cs_c, cs_o, cs_2, cu_c, cu_o, Int.cast_ofNat_Int, ps_f, ps_g, ps_w, ps_o, ps_2, pu_f, pu_g, pu_w, pu_o, uI_s, uI_o, uI_j, uI_j1, uI_j2, uI_tw, or0, true_or, or_true, false_or, or_false, nar0, nar1, e5, c_hasPlace hL, c_roadBetween hL hb, c_hasRoad hL, c_isAble hL hg hb, c_areAllAt hL hg hb h1 h2, if_pos ha, lp, e6, c_leaveBy]
  rfl
/-- of the reference, who goes keeps that nobody leads him -/
theorem bu_same {b : Int → Int} {e v : Int} (h : b e = v) : bu b e v = b := by
  funext z
  unfold bu
  by_cases q : z = e
  · rw [if_pos q, q, h]
  · rw [if_neg q]
