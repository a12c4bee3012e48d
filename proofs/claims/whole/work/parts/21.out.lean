/-! ===== going out: the calls' cores ===== -/
abbrev goR (b : Int → Int) (p to : Int) : Int := btB b (b (58 + p)) to
abbrev stOK (b : Int → Int) (p to : Int) : Prop := b (66 + p) < 0 ∧ 0 ≤ goR b p to ∧ canN b p (goR b p to)
def ouG (b : Int → Int) (g : Int → Int → Int → Int) (p s to : Int) : Int → Int → Int → Int := lvG (goR b p to) to (b (34 + goR b p to)) (-1) (fI (gIf (hasS s) (lvG (goR b p to) to (b (34 + goR b p to)) p)) (b 2).toNat 0 g) p
def ouB (b : Int → Int) (p s to : Int) : Int → Int := lvB2 (goR b p to) to (b (34 + goR b p to)) (-1) (fI (bIf (hasS s) (lvB2 (goR b p to) to (b (34 + goR b p to)) p)) (b 2).toNat 0 b) p
theorem c_setOut_F {b : Int → Int} {p s to : Int} {L n : Nat} {M : KM} {g : Int → Int → Int → Int} (hL : HL M L b) (hg : GR g b) (hb : WB b) (h1 : 0 ≤ p) (h2 : p < b 2) (h3 : 0 ≤ s) (h4 : s < 256) (h5 : 0 ≤ to) (h6 : to < b 0) (hn : 20 < n) (h : ¬ (stOK b p to ∧ awB b p s = -1)) : f_X2_setOut n L (zI p) (zI s) (zI to) (ps M L g) = some (zI (-1), ps M L g) := by
  have hh := hb.1
  unfold WH at hh
  have e2 := WPb hb h1 h2
  have e := hg.1 p h1 h2
  unfold GP at e
  have hi : 0 ≤ b 2 ∧ b 2 ≤ 8 ∧ b 0 ≤ 8 ∧ 0 ≤ b 0 ∧ 0 ≤ b 1 ∧ b 1 ≤ 12 := by omega
  have hr := btB_r (b := b) (x := b (58 + p)) (y := to) hi.2.2.2.2.1
  clear hh
  unfold f_X2_setOut
  rw [c_placeOf hL hb h1 h2]
  by_cases t1 : b (66 + p) < 0
  · have e5 : g p 0 5 = b (58 + p) := by omega
    clear e
    by_cases t2 : goR b p to = -1
    · simp (disch := first | omega | assumption) only [↓lt, Option.bind_some, zl, ll, zadd, zsub, zmul, zneg, ladd, lsub, lmul, lneg, zltT, zltF, zleT, zleF, zeqT, zeqF, zidx, ixT, zwide, bIT, bIF, if_true, if_false, ↓reduceIte, Nat.reduceAdd, Int.reduceAdd, Int.reduceMul, Int.reduceSub, Int.reduceNeg, cs_c, cs_o, cs_2, cu_c, cu_o, Int.cast_ofNat_Int, ps_f, ps_g, ps_w, ps_o, ps_2, pu_f, pu_g, pu_w, pu_o, uI_s, uI_o, uI_j, uI_j1, uI_j2, uI_tw, or0, true_or, or_true, false_or, or_false, nar0, nar1, e5, c_hasPlace hL, c_roadBetween hL hb, show btB b (b (58 + p)) to = -1 from t2, c_hasRoad hL]
    · by_cases t3 : canN b p (goR b p to)
      · have t4 : ¬ awB b p s = -1 := fun z => h ⟨⟨t1, by show 0 ≤ btB _ _ _; have : ¬ btB b (b (58 + p)) to = -1 := t2; omega, t3⟩, z⟩
        have t5 : 0 ≤ btB b (b (58 + p)) to := by have : ¬ btB b (b (58 + p)) to = -1 := t2; omega
        simp (disch := first | omega | assumption) only [↓lt, Option.bind_some, zl, ll, zadd, zsub, zmul, zneg, ladd, lsub, lmul, lneg, zltT, zltF, zleT, zleF, zeqT, zeqF, zidx, ixT, zwide, bIT, bIF, if_true, if_false, ↓reduceIte, Nat.reduceAdd, Int.reduceAdd, Int.reduceMul, Int.reduceSub, Int.reduceNeg, cs_c, cs_o, cs_2, cu_c, cu_o, Int.cast_ofNat_Int, ps_f, ps_g, ps_w, ps_o, ps_2, pu_f, pu_g, pu_w, pu_o, uI_s, uI_o, uI_j, uI_j1, uI_j2, uI_tw, or0, true_or, or_true, false_or, or_false, nar0, nar1, e5, c_hasPlace hL, c_roadBetween hL hb, c_hasRoad hL, c_isAble hL hg hb, c_areAllAt hL hg hb h1 h2, if_neg t4]
      · have t5 : 0 ≤ btB b (b (58 + p)) to := by have : ¬ btB b (b (58 + p)) to = -1 := t2; omega
        simp (disch := first | omega | assumption) only [↓lt, Option.bind_some, zl, ll, zadd, zsub, zmul, zneg, ladd, lsub, lmul, lneg, zltT, zltF, zleT, zleF, zeqT, zeqF, zidx, ixT, zwide, bIT, bIF, if_true, if_false, ↓reduceIte, Nat.reduceAdd, Int.reduceAdd, Int.reduceMul, Int.reduceSub, Int.reduceNeg, cs_c, cs_o, cs_2, cu_c, cu_o, Int.cast_ofNat_Int, ps_f, ps_g, ps_w, ps_o, ps_2, pu_f, pu_g, pu_w, pu_o, uI_s, uI_o, uI_j, uI_j1, uI_j2, uI_tw, or0, true_or, or_true, false_or, or_false, nar0, nar1, e5, c_hasPlace hL, c_roadBetween hL hb, c_hasRoad hL, c_isAble hL hg hb]
  · have e5 : g p 0 5 = -1 := by omega
    clear e
    simp (disch := first | omega | assumption) only [↓lt, Option.bind_some, zl, ll, zadd, zsub, zmul, zneg, ladd, lsub, lmul, lneg, zltT, zltF, zleT, zleF, zeqT, zeqF, zidx, ixT, zwide, bIT, bIF, if_true, if_false, ↓reduceIte, Nat.reduceAdd, Int.reduceAdd, Int.reduceMul, Int.reduceSub, Int.reduceNeg, cs_c, cs_o, cs_2, cu_c, cu_o, Int.cast_ofNat_Int, ps_f, ps_g, ps_w, ps_o, ps_2, pu_f, pu_g, pu_w, pu_o, uI_s, uI_o, uI_j, uI_j1, uI_j2, uI_tw, or0, true_or, or_true, false_or, or_false, nar0, nar1, e5, c_hasPlace hL, c_hasRoad hL]
theorem c_setOut_T {b : Int → Int} {p s to : Int} {L n : Nat} {M : KM} {g : Int → Int → Int → Int} (hL : HL M L b) (hg : GR g b) (hb : WB b) (h1 : 0 ≤ p) (h2 : p < b 2) (h3 : 0 ≤ s) (h4 : s < 256) (h5 : 0 ≤ to) (h6 : to < b 0) (hn : 20 < n) (ht : stOK b p to) (ha : awB b p s = -1) : f_X2_setOut n L (zI p) (zI s) (zI to) (ps M L g) = some (zI (b (34 + goR b p to)), ps M L (ouG b g p s to)) := by
  have hM := hL
  have hh := hb.1
  unfold WH at hh
  have e2 := WPb hb h1 h2
  have e := hg.1 p h1 h2
  unfold GP at e
  have hi : 0 ≤ b 2 ∧ b 2 ≤ 8 ∧ b 0 ≤ 8 ∧ 0 ≤ b 0 ∧ 0 ≤ b 1 ∧ b 1 ≤ 12 := by omega
  have hr := btB_r (b := b) (x := b (58 + p)) (y := to) hi.2.2.2.2.1
  obtain ⟨q0, q1, q2, -, -, -, -, -, -, -, -, -, -, qc, -⟩ := hM
  clear hh
  have e5 : g p 0 5 = b (58 + p) := by omega
  clear e
  obtain ⟨t1, t2, t3⟩ := ht
  have t5 : 0 ≤ btB b (b (58 + p)) to := t2
  have e6 := qc (btB b (b (58 + p)) to) t5 hr.2
  have lp : ∀ k : KM → Option (Int32 × KM), lp_X2_setOut_63 n L (zI p) (zI s) (zI to) (zI (btB b (b (58 + p)) to)) (zI 0) (ps M L g) k = k (ps M L (fI (gIf (hasS s) (lvG (goR b p to) to (b (34 + goR b p to)) p)) (b 2).toNat 0 g)) := fun k => (loop_f (lp := fun n i w => lp_X2_setOut_63 n L (zI p) (zI s) (zI to) (zI (btB b (b (58 + p)) to)) i (ps M L w) k) (f := gIf (hasS s) (lvG (goR b p to) to (b (34 + goR b p to)) p)) (fin := fun w => k (ps M L w)) (fun _ _ => True) (N := 0) (R := b 2) (by
    intro n i w _ h7 h8 _
    refine ⟨?_, trivial⟩
    rw [lp_X2_setOut_63]
    unfold gIf
    by_cases t : hasS s i = true
    · rw [if_pos t]
      simp (disch := first | omega | assumption) only [↓lt, Option.bind_some, zl, ll, zadd, zsub, zmul, zneg, ladd, lsub, lmul, lneg, zltT, zltF, zleT, zleF, zeqT, zeqF, zidx, ixT, zwide, bIT, bIF, if_true, if_false, ↓reduceIte, Nat.reduceAdd, Int.reduceAdd, Int.reduceMul, Int.reduceSub, Int.reduceNeg, cs_c, cs_o, cs_2, cu_c, cu_o, Int.cast_ofNat_Int, ps_f, ps_g, ps_w, ps_o, ps_2, pu_f, pu_g, pu_w, pu_o, uI_s, uI_o, uI_j, uI_j1, uI_j2, uI_tw, or0, true_or, or_true, false_or, or_false, nar0, nar1, q2, hs_c, t, not_true_eq_false, e6, c_leaveBy]
    · rw [if_neg t]
      simp (disch := first | omega | assumption) only [↓lt, Option.bind_some, zl, ll, zadd, zsub, zmul, zneg, ladd, lsub, lmul, lneg, zltT, zltF, zleT, zleF, zeqT, zeqF, zidx, ixT, zwide, bIT, bIF, if_true, if_false, ↓reduceIte, Nat.reduceAdd, Int.reduceAdd, Int.reduceMul, Int.reduceSub, Int.reduceNeg, cs_c, cs_o, cs_2, cu_c, cu_o, Int.cast_ofNat_Int, ps_f, ps_g, ps_w, ps_o, ps_2, pu_f, pu_g, pu_w, pu_o, uI_s, uI_o, uI_j, uI_j1, uI_j2, uI_tw, or0, true_or, or_true, false_or, or_false, nar0, nar1, q2, hs_c, t, not_false_eq_true, Bool.false_eq_true]) (by
    intro n w _ _
    rw [lp_X2_setOut_63]
    simp (disch := first | omega | assumption) only [↓lt, Option.bind_some, zl, ll, zadd, zsub, zmul, zneg, ladd, lsub, lmul, lneg, zltT, zltF, zleT, zleF, zeqT, zeqF, zidx, ixT, zwide, bIT, bIF, if_true, if_false, ↓reduceIte, Nat.reduceAdd, Int.reduceAdd, Int.reduceMul, Int.reduceSub, Int.reduceNeg, cs_c, cs_o, cs_2, cu_c, cu_o, Int.cast_ofNat_Int, ps_f, ps_g, ps_w, ps_o, ps_2, pu_f, pu_g, pu_w, pu_o, uI_s, uI_o, uI_j, uI_j1, uI_j2, uI_tw, or0, true_or, or_true, false_or, or_false, nar0, nar1, q2]) (b 2).toNat 0 g n (by omega) (by omega) (by omega) trivial).1
  unfold f_X2_setOut
  rw [c_placeOf hL hb h1 h2]
  simp (disch := first | omega | assumption) only [↓lt, Option.bind_some, zl, ll, zadd, zsub, zmul, zneg, ladd, lsub, lmul, lneg, zltT, zltF, zleT, zleF, zeqT, zeqF, zidx, ixT, zwide, bIT, bIF, if_true, if_false, ↓reduceIte, Nat.reduceAdd, Int.reduceAdd, Int.reduceMul, Int.reduceSub, Int.reduceNeg, cs_c, cs_o, cs_2, cu_c, cu_o, Int.cast_ofNat_Int, ps_f, ps_g, ps_w, ps_o, ps_2, pu_f, pu_g, pu_w, pu_o, uI_s, uI_o, uI_j, uI_j1, uI_j2, uI_tw, or0, true_or, or_true, false_or, or_false, nar0, nar1, e5, c_hasPlace hL, c_roadBetween hL hb, c_hasRoad hL, c_isAble hL hg hb, c_areAllAt hL hg hb h1 h2, if_pos ha, lp, e6, c_leaveBy]
  rfl
theorem m_canStart {b : Int → Int} {p to : Int} {n : Nat} {X : KM} (hb : WB b) (h1 : 0 ≤ p) (h2 : p < b 2) (h5 : 0 ≤ to) (h6 : to < b 0) (hn : 20 < n) : f_X12_canStart n 227 (zI p) (zI to) (cs X b) = some (bI (stOK b p to)) := by
  have hh := hb.1
  unfold WH at hh
  have e2 := WPb hb h1 h2
  have hi : 0 ≤ b 2 ∧ b 2 ≤ 8 ∧ b 0 ≤ 8 ∧ 0 ≤ b 0 ∧ 0 ≤ b 1 ∧ b 1 ≤ 12 := by omega
  have hr := btB_r (b := b) (x := b (58 + p)) (y := to) hi.2.2.2.2.1
  clear hh
  unfold f_X12_canStart
  by_cases t1 : b (66 + p) < 0
  · by_cases t2 : btB b (b (58 + p)) to = -1
    · rw [bIF (c := stOK b p to) (fun z => by have : 0 ≤ btB b (b (58 + p)) to := z.2.1; omega)]
      simp (disch := first | omega | assumption) only [↓lt, Option.bind_some, zl, ll, zadd, zsub, zmul, zneg, ladd, lsub, lmul, lneg, zltT, zltF, zleT, zleF, zeqT, zeqF, zidx, ixT, zwide, bIT, bIF, if_true, if_false, ↓reduceIte, Nat.reduceAdd, Int.reduceAdd, Int.reduceMul, Int.reduceSub, Int.reduceNeg, cs_c, cs_o, cs_2, cu_c, cu_o, Int.cast_ofNat_Int, ps_f, ps_g, ps_w, ps_o, ps_2, pu_f, pu_g, pu_w, pu_o, uI_s, uI_o, uI_j, uI_j1, uI_j2, uI_tw, or0, true_or, or_true, false_or, or_false, nar0, nar1, m_isGoing, m_between hb, t2]
    · by_cases t3 : canN b p (goR b p to)
      · rw [bIT (c := stOK b p to) ⟨t1, by show 0 ≤ btB _ _ _; omega, t3⟩]
        simp (disch := first | omega | assumption) only [↓lt, Option.bind_some, zl, ll, zadd, zsub, zmul, zneg, ladd, lsub, lmul, lneg, zltT, zltF, zleT, zleF, zeqT, zeqF, zidx, ixT, zwide, bIT, bIF, if_true, if_false, ↓reduceIte, Nat.reduceAdd, Int.reduceAdd, Int.reduceMul, Int.reduceSub, Int.reduceNeg, cs_c, cs_o, cs_2, cu_c, cu_o, Int.cast_ofNat_Int, ps_f, ps_g, ps_w, ps_o, ps_2, pu_f, pu_g, pu_w, pu_o, uI_s, uI_o, uI_j, uI_j1, uI_j2, uI_tw, or0, true_or, or_true, false_or, or_false, nar0, nar1, m_isGoing, m_between hb, m_canNow hb]
      · rw [bIF (c := stOK b p to) (fun z => t3 z.2.2)]
        simp (disch := first | omega | assumption) only [↓lt, Option.bind_some, zl, ll, zadd, zsub, zmul, zneg, ladd, lsub, lmul, lneg, zltT, zltF, zleT, zleF, zeqT, zeqF, zidx, ixT, zwide, bIT, bIF, if_true, if_false, ↓reduceIte, Nat.reduceAdd, Int.reduceAdd, Int.reduceMul, Int.reduceSub, Int.reduceNeg, cs_c, cs_o, cs_2, cu_c, cu_o, Int.cast_ofNat_Int, ps_f, ps_g, ps_w, ps_o, ps_2, pu_f, pu_g, pu_w, pu_o, uI_s, uI_o, uI_j, uI_j1, uI_j2, uI_tw, or0, true_or, or_true, false_or, or_false, nar0, nar1, m_isGoing, m_between hb, m_canNow hb]
  · rw [bIF (c := stOK b p to) (fun z => t1 z.1)]
    simp (disch := first | omega | assumption) only [↓lt, Option.bind_some, zl, ll, zadd, zsub, zmul, zneg, ladd, lsub, lmul, lneg, zltT, zltF, zleT, zleF, zeqT, zeqF, zidx, ixT, zwide, bIT, bIF, if_true, if_false, ↓reduceIte, Nat.reduceAdd, Int.reduceAdd, Int.reduceMul, Int.reduceSub, Int.reduceNeg, cs_c, cs_o, cs_2, cu_c, cu_o, Int.cast_ofNat_Int, ps_f, ps_g, ps_w, ps_o, ps_2, pu_f, pu_g, pu_w, pu_o, uI_s, uI_o, uI_j, uI_j1, uI_j2, uI_tw, or0, true_or, or_true, false_or, or_false, nar0, nar1, m_isGoing]
theorem m_goes_F {b : Int → Int} {p to : Int} {n : Nat} {X : KM} (hb : WB b) (h1 : 0 ≤ p) (h2 : p < b 2) (h5 : 0 ≤ to) (h6 : to < b 0) (hn : 20 < n) (h : ¬ stOK b p to) : f_X12_goes n 227 (zI p) (zI to) (cs X b) = some (zI 0, cs X b) := by
  unfold f_X12_goes
  rw [m_canStart hb h1 h2 h5 h6 hn, bIF h]
  rfl
/-- of the reference, who goes keeps that nobody leads him -/
theorem bu_same {b : Int → Int} {e v : Int} (h : b e = v) : bu b e v = b := by
  funext z
  unfold bu
  by_cases q : z = e
  · rw [if_pos q, q, h]
  · rw [if_neg q]
theorem m_goes_T {b : Int → Int} {p to : Int} {n : Nat} {X : KM} (hb : WB b) (h1 : 0 ≤ p) (h2 : p < b 2) (h5 : 0 ≤ to) (h6 : to < b 0) (hn : 20 < n) (h : stOK b p to) : f_X12_goes n 227 (zI p) (zI to) (cs X b) = some (zI 1, cs X (lvB2 (goR b p to) to (b (34 + goR b p to)) (-1) b p)) := by
  have hh := hb.1
  unfold WH at hh
  have e2 := WPb hb h1 h2
  have e3 := WP_of hb h1 h2
  have hi : 0 ≤ b 2 ∧ b 2 ≤ 8 ∧ b 0 ≤ 8 ∧ 0 ≤ b 0 ∧ 0 ≤ b 1 ∧ b 1 ≤ 12 := by omega
  have hr := btB_r (b := b) (x := b (58 + p)) (y := to) hi.2.2.2.2.1
  clear hh
  unfold f_X12_goes
  rw [m_canStart hb h1 h2 h5 h6 hn, bIT h]
  obtain ⟨t1, t2, t3⟩ := h
  have t5 : 0 ≤ btB b (b (58 + p)) to := t2
  have t6 : b (82 + p) = -1 := by unfold WP at e3; omega
  clear e3
  simp (disch := first | omega | assumption) only [↓lt, Option.bind_some, zl, ll, zadd, zsub, zmul, zneg, ladd, lsub, lmul, lneg, zltT, zltF, zleT, zleF, zeqT, zeqF, zidx, ixT, zwide, bIT, bIF, if_true, if_false, ↓reduceIte, Nat.reduceAdd, Int.reduceAdd, Int.reduceMul, Int.reduceSub, Int.reduceNeg, cs_c, cs_o, cs_2, cu_c, cu_o, Int.cast_ofNat_Int, ps_f, ps_g, ps_w, ps_o, ps_2, pu_f, pu_g, pu_w, pu_o, uI_s, uI_o, uI_j, uI_j1, uI_j2, uI_tw, or0, true_or, or_true, false_or, or_false, nar0, nar1, m_between hb, m_sets]
  unfold lvB2
  rw [bu_same (e := 82 + p)]
  simp (disch := first | omega | assumption) only [bu_o]
  exact t6
theorem m_leads1 {b : Int → Int} {p s to : Int} {n : Nat} {X : KM} {k : Option (Int32 × KM)} (hb : WB b) (h1 : 0 ≤ p) (h2 : p < b 2) (h3 : 0 ≤ s) (h4 : s < 256) (hn : 20 < n) : lp_X12_leads_14 n 227 (zI p) (zI s) (zI to) (cs X b) (zI 0) k = if awB b p s = -1 then k else some (zI 0, cs X b) := by
  have hh := hb.1
  unfold WH at hh
  have e2 := WPb hb h1 h2
  have hi : 0 ≤ b 2 ∧ b 2 ≤ 8 ∧ b 0 ≤ 8 := by omega
  clear hh
  unfold awB
  refine loop_fst (lp := fun n i => lp_X12_leads_14 n 227 (zI p) (zI s) (zI to) (cs X b) i k) (P := fun q => hasS s q && !(decide (b (66 + q) < 0 ∧ b (58 + q) = b (58 + p)))) (res := fun i => if i = -1 then k else some (zI 0, cs X b)) (N := 0) (R := b 2) ?_ ?_ _ 0 n (by omega) (by omega) (by omega)
  · intro n i _ h5 h6
    have e3 := WPb hb h5 h6
    rw [lp_X12_leads_14]
    by_cases t : hasS s i = true
    · by_cases t2 : b (66 + i) < 0 ∧ b (58 + i) = b (58 + p)
      · have e5 := t2.1
        rw [t, decide_eq_true t2]
        simp (disch := first | omega | assumption) only [↓lt, Option.bind_some, zl, ll, zadd, zsub, zmul, zneg, ladd, lsub, lmul, lneg, zltT, zltF, zleT, zleF, zeqT, zeqF, zidx, ixT, zwide, bIT, bIF, if_true, if_false, ↓reduceIte, Nat.reduceAdd, Int.reduceAdd, Int.reduceMul, Int.reduceSub, Int.reduceNeg, cs_c, cs_o, cs_2, cu_c, cu_o, Int.cast_ofNat_Int, ps_f, ps_g, ps_w, ps_o, ps_2, pu_f, pu_g, pu_w, pu_o, uI_s, uI_o, uI_j, uI_j1, uI_j2, uI_tw, or0, true_or, or_true, false_or, or_false, nar0, nar1, hs_m, m_isGoing, Bool.not_true, Bool.and_false, Bool.false_eq_true]
      · rw [t, decide_eq_false t2]
        by_cases t3 : b (66 + i) < 0
        · simp (disch := first | omega | assumption) only [↓lt, Option.bind_some, zl, ll, zadd, zsub, zmul, zneg, ladd, lsub, lmul, lneg, zltT, zltF, zleT, zleF, zeqT, zeqF, zidx, ixT, zwide, bIT, bIF, if_true, if_false, ↓reduceIte, Nat.reduceAdd, Int.reduceAdd, Int.reduceMul, Int.reduceSub, Int.reduceNeg, cs_c, cs_o, cs_2, cu_c, cu_o, Int.cast_ofNat_Int, ps_f, ps_g, ps_w, ps_o, ps_2, pu_f, pu_g, pu_w, pu_o, uI_s, uI_o, uI_j, uI_j1, uI_j2, uI_tw, or0, true_or, or_true, false_or, or_false, nar0, nar1, hs_m, m_isGoing, Bool.not_false, Bool.and_true]
          rw [if_neg (by omega)]
        · simp (disch := first | omega | assumption) only [↓lt, Option.bind_some, zl, ll, zadd, zsub, zmul, zneg, ladd, lsub, lmul, lneg, zltT, zltF, zleT, zleF, zeqT, zeqF, zidx, ixT, zwide, bIT, bIF, if_true, if_false, ↓reduceIte, Nat.reduceAdd, Int.reduceAdd, Int.reduceMul, Int.reduceSub, Int.reduceNeg, cs_c, cs_o, cs_2, cu_c, cu_o, Int.cast_ofNat_Int, ps_f, ps_g, ps_w, ps_o, ps_2, pu_f, pu_g, pu_w, pu_o, uI_s, uI_o, uI_j, uI_j1, uI_j2, uI_tw, or0, true_or, or_true, false_or, or_false, nar0, nar1, hs_m, m_isGoing, Bool.not_false, Bool.and_true]
          rw [if_neg (by omega)]
    · have t2 : hasS s i = false := by simpa using t
      rw [t2]
      simp (disch := first | omega | assumption) only [↓lt, Option.bind_some, zl, ll, zadd, zsub, zmul, zneg, ladd, lsub, lmul, lneg, zltT, zltF, zleT, zleF, zeqT, zeqF, zidx, ixT, zwide, bIT, bIF, if_true, if_false, ↓reduceIte, Nat.reduceAdd, Int.reduceAdd, Int.reduceMul, Int.reduceSub, Int.reduceNeg, cs_c, cs_o, cs_2, cu_c, cu_o, Int.cast_ofNat_Int, ps_f, ps_g, ps_w, ps_o, ps_2, pu_f, pu_g, pu_w, pu_o, uI_s, uI_o, uI_j, uI_j1, uI_j2, uI_tw, or0, true_or, or_true, false_or, or_false, nar0, nar1, hs_m, Bool.false_and, Bool.false_eq_true]
  · intro n _
    rw [lp_X12_leads_14]
    simp (disch := first | omega | assumption) only [↓lt, Option.bind_some, zl, ll, zadd, zsub, zmul, zneg, ladd, lsub, lmul, lneg, zltT, zltF, zleT, zleF, zeqT, zeqF, zidx, ixT, zwide, bIT, bIF, if_true, if_false, ↓reduceIte, Nat.reduceAdd, Int.reduceAdd, Int.reduceMul, Int.reduceSub, Int.reduceNeg, cs_c, cs_o, cs_2, cu_c, cu_o, Int.cast_ofNat_Int, ps_f, ps_g, ps_w, ps_o, ps_2, pu_f, pu_g, pu_w, pu_o, uI_s, uI_o, uI_j, uI_j1, uI_j2, uI_tw, or0, true_or, or_true, false_or, or_false, nar0, nar1]
theorem m_leads_F {b : Int → Int} {p s to : Int} {n : Nat} {X : KM} (hb : WB b) (h1 : 0 ≤ p) (h2 : p < b 2) (h3 : 0 ≤ s) (h4 : s < 256) (h5 : 0 ≤ to) (h6 : to < b 0) (hn : 20 < n) (h : ¬ (stOK b p to ∧ awB b p s = -1)) : f_X12_leads n 227 (zI p) (zI s) (zI to) (cs X b) = some (zI 0, cs X b) := by
  unfold f_X12_leads
  rw [m_canStart hb h1 h2 h5 h6 hn]
  by_cases t : stOK b p to
  · have t2 : ¬ awB b p s = -1 := fun z => h ⟨t, z⟩
    rw [bIT t]
    simp (disch := first | omega | assumption) only [↓lt, Option.bind_some, zl, ll, zadd, zsub, zmul, zneg, ladd, lsub, lmul, lneg, zltT, zltF, zleT, zleF, zeqT, zeqF, zidx, ixT, zwide, bIT, bIF, if_true, if_false, ↓reduceIte, Nat.reduceAdd, Int.reduceAdd, Int.reduceMul, Int.reduceSub, Int.reduceNeg, cs_c, cs_o, cs_2, cu_c, cu_o, Int.cast_ofNat_Int, ps_f, ps_g, ps_w, ps_o, ps_2, pu_f, pu_g, pu_w, pu_o, uI_s, uI_o, uI_j, uI_j1, uI_j2, uI_tw, or0, true_or, or_true, false_or, or_false, nar0, nar1]
    rw [m_leads1 hb h1 h2 h3 h4 hn, if_neg t2]
  · rw [bIF t]
    simp (disch := first | omega | assumption) only [↓lt, Option.bind_some, zl, ll, zadd, zsub, zmul, zneg, ladd, lsub, lmul, lneg, zltT, zltF, zleT, zleF, zeqT, zeqF, zidx, ixT, zwide, bIT, bIF, if_true, if_false, ↓reduceIte, Nat.reduceAdd, Int.reduceAdd, Int.reduceMul, Int.reduceSub, Int.reduceNeg, cs_c, cs_o, cs_2, cu_c, cu_o, Int.cast_ofNat_Int, ps_f, ps_g, ps_w, ps_o, ps_2, pu_f, pu_g, pu_w, pu_o, uI_s, uI_o, uI_j, uI_j1, uI_j2, uI_tw, or0, true_or, or_true, false_or, or_false, nar0, nar1]
theorem m_leads_T {b : Int → Int} {p s to : Int} {n : Nat} {X : KM} (hb : WB b) (h1 : 0 ≤ p) (h2 : p < b 2) (h3 : 0 ≤ s) (h4 : s < 256) (h5 : 0 ≤ to) (h6 : to < b 0) (hn : 20 < n) (h : stOK b p to) (ha : awB b p s = -1) (hs : hasS s p = false) : f_X12_leads n 227 (zI p) (zI s) (zI to) (cs X b) = some (zI 1, cs X (ouB b p s to)) := by
  have hh := hb.1
  unfold WH at hh
  have e2 := WPb hb h1 h2
  have e3 := WP_of hb h1 h2
  have hi : 0 ≤ b 2 ∧ b 2 ≤ 8 ∧ b 0 ≤ 8 ∧ 0 ≤ b 0 ∧ 0 ≤ b 1 ∧ b 1 ≤ 12 := by omega
  have hr := btB_r (b := b) (x := b (58 + p)) (y := to) hi.2.2.2.2.1
  clear hh
  unfold f_X12_leads
  rw [m_canStart hb h1 h2 h5 h6 hn, bIT h]
  obtain ⟨t1, t2, t3⟩ := h
  have t5 : 0 ≤ btB b (b (58 + p)) to := t2
  have t6 : b (82 + p) = -1 := by unfold WP at e3; omega
  clear e3
  have lp : ∀ k : KM → Option (Int32 × KM), lp_X12_leads_92 n 227 (zI p) (zI s) (zI to) (zI (goR b p to)) (zI 0) (cs X b) k = k (cs X (fI (bIf (hasS s) (lvB2 (goR b p to) to (b (34 + goR b p to)) p)) (b 2).toNat 0 b)) := fun k => (loop_f (lp := fun n i w => lp_X12_leads_92 n 227 (zI p) (zI s) (zI to) (zI (goR b p to)) i (cs X w) k) (f := bIf (hasS s) (lvB2 (goR b p to) to (b (34 + goR b p to)) p)) (fin := fun w => k (cs X w)) (fun _ w => ∀ z, ¬ (58 ≤ z ∧ z < 226) → w z = b z) (N := 0) (R := b 2) (by
    intro n i w _ h7 h8 hv
    have e4 := hv 2 (by omega)
    have e5 := hv (34 + goR b p to) (by show ¬ (58 ≤ 34 + btB _ _ _ ∧ _); omega)
    have hr2 : 0 ≤ goR b p to ∧ goR b p to < 12 := ⟨t5, by show btB _ _ _ < 12; omega⟩
    refine ⟨?_, fun z hz => ?_⟩
    · rw [lp_X12_leads_92]
      unfold bIf
      by_cases t : hasS s i = true
      · rw [if_pos t]
        unfold lvB2
        rw [← e5]
        simp (disch := first | omega | assumption) only [↓lt, Option.bind_some, zl, ll, zadd, zsub, zmul, zneg, ladd, lsub, lmul, lneg, zltT, zltF, zleT, zleF, zeqT, zeqF, zidx, ixT, zwide, bIT, bIF, if_true, if_false, ↓reduceIte, Nat.reduceAdd, Int.reduceAdd, Int.reduceMul, Int.reduceSub, Int.reduceNeg, cs_c, cs_o, cs_2, cu_c, cu_o, Int.cast_ofNat_Int, ps_f, ps_g, ps_w, ps_o, ps_2, pu_f, pu_g, pu_w, pu_o, uI_s, uI_o, uI_j, uI_j1, uI_j2, uI_tw, or0, true_or, or_true, false_or, or_false, nar0, nar1, hs_m, m_sets]
      · rw [if_neg t]
        simp (disch := first | omega | assumption) only [↓lt, Option.bind_some, zl, ll, zadd, zsub, zmul, zneg, ladd, lsub, lmul, lneg, zltT, zltF, zleT, zleF, zeqT, zeqF, zidx, ixT, zwide, bIT, bIF, if_true, if_false, ↓reduceIte, Nat.reduceAdd, Int.reduceAdd, Int.reduceMul, Int.reduceSub, Int.reduceNeg, cs_c, cs_o, cs_2, cu_c, cu_o, Int.cast_ofNat_Int, ps_f, ps_g, ps_w, ps_o, ps_2, pu_f, pu_g, pu_w, pu_o, uI_s, uI_o, uI_j, uI_j1, uI_j2, uI_tw, or0, true_or, or_true, false_or, or_false, nar0, nar1, hs_m]
    · unfold bIf
      by_cases t : hasS s i = true
      · rw [if_pos t, lvB2' _ _ _ _ _ _ _ h7 (by omega) (by rw [own_n hz]; omega)]; exact hv z hz
      · rw [if_neg t]; exact hv z hz) (by
    intro n w _ hv
    have e4 := hv 2 (by omega)
    rw [lp_X12_leads_92]
    simp (disch := first | omega | assumption) only [↓lt, Option.bind_some, zl, ll, zadd, zsub, zmul, zneg, ladd, lsub, lmul, lneg, zltT, zltF, zleT, zleF, zeqT, zeqF, zidx, ixT, zwide, bIT, bIF, if_true, if_false, ↓reduceIte, Nat.reduceAdd, Int.reduceAdd, Int.reduceMul, Int.reduceSub, Int.reduceNeg, cs_c, cs_o, cs_2, cu_c, cu_o, Int.cast_ofNat_Int, ps_f, ps_g, ps_w, ps_o, ps_2, pu_f, pu_g, pu_w, pu_o, uI_s, uI_o, uI_j, uI_j1, uI_j2, uI_tw, or0, true_or, or_true, false_or, or_false, nar0, nar1]) (b 2).toNat 0 b n (by omega) (by omega) (by omega) (fun _ _ => rfl)).1
  have hf : ∀ z, fI (bIf (hasS s) (lvB2 (goR b p to) to (b (34 + goR b p to)) p)) (b 2).toNat 0 b z = if 0 ≤ own z ∧ own z < 0 + ((b 2).toNat : Int) ∧ hasS s (own z) = true then lvB2 (goR b p to) to (b (34 + goR b p to)) p b (own z) z else b z := fun z => fold_b (lvB1 _ _ _ _) (lvB2' _ _ _ _) _ _ _ _ (by omega) (by omega)
  simp (disch := first | omega | assumption) only [↓lt, Option.bind_some, zl, ll, zadd, zsub, zmul, zneg, ladd, lsub, lmul, lneg, zltT, zltF, zleT, zleF, zeqT, zeqF, zidx, ixT, zwide, bIT, bIF, if_true, if_false, ↓reduceIte, Nat.reduceAdd, Int.reduceAdd, Int.reduceMul, Int.reduceSub, Int.reduceNeg, cs_c, cs_o, cs_2, cu_c, cu_o, Int.cast_ofNat_Int, ps_f, ps_g, ps_w, ps_o, ps_2, pu_f, pu_g, pu_w, pu_o, uI_s, uI_o, uI_j, uI_j1, uI_j2, uI_tw, or0, true_or, or_true, false_or, or_false, nar0, nar1]
  rw [m_leads1 hb h1 h2 h3 h4 hn, if_pos ha]
  simp (disch := first | omega | assumption) only [↓lt, Option.bind_some, zl, ll, zadd, zsub, zmul, zneg, ladd, lsub, lmul, lneg, zltT, zltF, zleT, zleF, zeqT, zeqF, zidx, ixT, zwide, bIT, bIF, if_true, if_false, ↓reduceIte, Nat.reduceAdd, Int.reduceAdd, Int.reduceMul, Int.reduceSub, Int.reduceNeg, cs_c, cs_o, cs_2, cu_c, cu_o, Int.cast_ofNat_Int, ps_f, ps_g, ps_w, ps_o, ps_2, pu_f, pu_g, pu_w, pu_o, uI_s, uI_o, uI_j, uI_j1, uI_j2, uI_tw, or0, true_or, or_true, false_or, or_false, nar0, nar1, m_between hb, lp]
  have hr2 : 0 ≤ goR b p to ∧ goR b p to < 12 := ⟨t5, by show btB _ _ _ < 12; omega⟩
  rw [show btB b (b (58 + p)) to = goR b p to from rfl, m_sets h1 (by omega) hr2.1 hr2.2]
  unfold ouB
  rw [show (34 : Int) + goR b p to = 34 + goR b p to from rfl, hf (34 + goR b p to), own_n (by show ¬ (58 ≤ 34 + btB _ _ _ ∧ _); have : btB b (b (58 + p)) to < 12 := hr2.2; omega), if_neg (by omega)]
  simp (disch := first | omega | assumption) only [↓lt, Option.bind_some, zl, ll, zadd, zsub, zmul, zneg, ladd, lsub, lmul, lneg, zltT, zltF, zleT, zleF, zeqT, zeqF, zidx, ixT, zwide, bIT, bIF, if_true, if_false, ↓reduceIte, Nat.reduceAdd, Int.reduceAdd, Int.reduceMul, Int.reduceSub, Int.reduceNeg, cs_c, cs_o, cs_2, cu_c, cu_o, Int.cast_ofNat_Int, ps_f, ps_g, ps_w, ps_o, ps_2, pu_f, pu_g, pu_w, pu_o, uI_s, uI_o, uI_j, uI_j1, uI_j2, uI_tw, or0, true_or, or_true, false_or, or_false, nar0, nar1]
  unfold lvB2
  rw [bu_same (e := 82 + p)]
  have hf2 := hf (82 + p)
  rw [own_3 h1 (by omega), if_neg (fun z => by rw [hs] at z; exact absurd z.2.2 (by decide))] at hf2
  unfold lvB2 at hf2
  rw [bu_o (by omega), bu_o (by omega), bu_o (by omega), bu_o (by omega)]
  exact hf2.trans t6
