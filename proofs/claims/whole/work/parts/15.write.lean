/-! ===== calls that change one or two people: cure, settle ===== -/
theorem WL_eq {b b' : Int → Int} {p : Int} (hb : WB b) (h1 : 0 ≤ p) (h2 : p < b 2) (h : ∀ z, 58 ≤ z → z < 90 → b' z = b z) (h' : ∀ z, 114 ≤ z → z < 130 → b' z = b z) : WL b' p := by
  have e := hb.2.2.2.2.2 p h1 h2
  have e2 := WPb hb h1 h2
  have hh := hb.1
  unfold WH at hh
  unfold WL at e ⊢
  rw [h (82 + p) (by omega) (by omega)]
  by_cases q : b (82 + p) = -1
  · exact Or.inl q
  · rw [h (66 + p) (by omega) (by omega), h' (122 + p) (by omega) (by omega), h (74 + p) (by omega) (by omega), h' (114 + p) (by omega) (by omega), h (66 + b (82 + p)) (by omega) (by omega), h' (122 + b (82 + p)) (by omega) (by omega), h (74 + b (82 + p)) (by omega) (by omega), h' (114 + b (82 + p)) (by omega) (by omega), h (82 + b (82 + p)) (by omega) (by omega)]
    exact e
theorem WP_eq {b b' : Int → Int} {p : Int} (hb : WB b) (h1 : 0 ≤ p) (h2 : p < b 2) (h0 : ∀ z, 0 ≤ z → z < 58 → b' z = b z) (h : ∀ z, 58 ≤ z → z < 90 → b' z = b z) (h' : ∀ z, 114 ≤ z → z < 130 → b' z = b z) (h3 : 0 ≤ b' (90 + p) ∧ b' (90 + p) ≤ b 5 ∧ 0 ≤ b' (98 + p) ∧ b' (98 + p) ≤ 1 ∧ 0 ≤ b' (106 + p) ∧ b' (106 + p) ≤ 1) : WP b' p := by
  have e := hb.2.2.1 p h1 h2
  have hh := hb.1
  unfold WH at hh
  have hh2 : b 1 ≤ 12 ∧ b 2 ≤ 8 := by omega
  clear hh
  unfold WP at e ⊢
  rw [h0 0 (by omega) (by omega), h0 1 (by omega) (by omega), h0 2 (by omega) (by omega), h0 5 (by omega) (by omega), h (58 + p) (by omega) (by omega), h (66 + p) (by omega) (by omega), h (74 + p) (by omega) (by omega), h (82 + p) (by omega) (by omega), h' (122 + p) (by omega) (by omega), h' (114 + p) (by omega) (by omega)]
  obtain ⟨a1, a2, a3, a4, a5, a6, a7, a8, a9, a10, a11, a12, a13, a14, a15⟩ := e
  obtain ⟨c1, c2, c3, c4, c5, c6⟩ := h3
  refine ⟨a1, a2, a3, a4, a5, a6, a7, a8, c1, c2, c3, c4, c5, c6, ?_⟩
  rcases a15 with d | ⟨d1, d2, d3, d4⟩
  · exact Or.inl d
  · right
    rw [h0 (34 + b (122 + p)) (by omega) (by omega)]
    exact ⟨d1, d2, d3, d4⟩
/-- one person's fields, by field-wise facts -/
theorem GR_q {g g' : Int → Int → Int → Int} {b b' : Int → Int} (hg : GR g b) (h1 : b' 1 = b 1) (h2 : b' 2 = b 2) (hf : ∀ p, 0 ≤ p → p < b 2 → GP g b p → GP g' b' p) (hG : ∀ p r, 0 ≤ p → p < b 2 → 0 ≤ r → r < b 1 → g' p 1 r = g p 1 r ∧ b' (130 + 12 * p + r) = b (130 + 12 * p + r) ∨ g' p 1 r = b' (130 + 12 * p + r)) (hO : ∀ p q, 0 ≤ p → p < b 2 → 0 ≤ q → q < b 2 → g' p 2 q = g p 2 q ∧ b' (226 + 8 * p + q) = b (226 + 8 * p + q) ∨ g' p 2 q = b' (226 + 8 * p + q)) (hB : ∀ p, b 2 ≤ p → p < 8 → g' p 0 3 = g p 0 3 ∧ g' p 0 4 = g p 0 4) (hW : ∀ p, 0 ≤ p → p < b' 2 → 0 ≤ b' (98 + p) ∧ b' (98 + p) ≤ 1 ∧ 0 ≤ b' (106 + p) ∧ b' (106 + p) ≤ 1) : GR g' b' := by
  have hf' := fun p x y => hf p x y (hg.1 p x y)
  refine ⟨fun p x y => hf p x (by omega) (hg.1 p x (by omega)), fun p r x y z w => ?_, fun p q x y z w => ?_, fun p x y => ?_⟩
  · rcases hG p r x (by omega) z (by omega) with e | e
    · rw [e.1, e.2]; exact hg.2.1 p r x (by omega) z (by omega)
    · exact e
  · rcases hO p q x (by omega) z (by omega) with e | e
    · rw [e.1, e.2]; exact hg.2.2.1 p q x (by omega) z (by omega)
    · exact e
  · by_cases w : p < b 2
    · have e := hf' p x w
      have e2 := hW p x (by omega)
      unfold GP at e
      omega
    · rw [(hB p (by omega) y).1, (hB p (by omega) y).2]; exact hg.2.2.2 p x y
theorem k_cure (p : Int32) (y : Int) (hy : y = 0 ∨ y = 1) (n : Nat) (hn : 100 ≤ n) : OKm (f_X11_cure n 0 p (zI y)) (f_X12_cure n 227 p (zI y)) := by
  obtain ⟨x, hx1, hx2, rfl⟩ := z_ex p
  refine ok_wr (fun M L g b hO => ?_)
  have hO2 := hO
  obtain ⟨hP, hL, hg, hb, hm, hC⟩ := hO; have hp0 : M.2.2 0 10 = L := hP.1; have hl := Ptr_L hP; have hM := (HL_cs hl.2).mp hL; have hh := hb.1; unfold WH at hh
  by_cases w1 : 0 ≤ x ∧ x < b 2
  · have e := hg.1 x w1.1 w1.2
    unfold GP at e
    obtain ⟨g3, g4, -, -, -, -, -⟩ := e
    have e2 := WPb hb w1.1 w1.2
    by_cases w : b (106 + x) = 1 - y
    · refine wr_no (c := f_X11_cure n 0 (zI x) (zI y)) (m := f_X12_cure n 227 (zI x) (zI y)) hO2 (r := zI 0) (s := zI 9) ?_ (fun X => ?_)
      · unfold f_X11_cure
        simp (disch := first | omega | assumption) only [↓lt, Option.bind_some, zl, ll, zadd, zsub, zmul, zneg, ladd, lsub, lmul, lneg, zltT, zltF, zleT, zleF, zeqT, zeqF, zidx, ixT, zwide, bIT, bIF, if_true, if_false, ↓reduceIte, Nat.reduceAdd, Int.reduceAdd, Int.reduceMul, Int.reduceSub, Int.reduceNeg, cs_c, cs_o, cs_2, cu_c, cu_o, Int.cast_ofNat_Int, ps_f, ps_g, ps_w, ps_o, ps_2, pu_f, pu_g, pu_w, pu_o, uI_s, uI_o, uI_j, uI_j1, uI_j2, uI_tw, or0, true_or, or_true, false_or, or_false, nar0, nar1, c_hasPlace hL, c_hasRoad hL, c_hasPerson hL, f_X11_tell, f_X11_refuse, f_X11_tellIf, f_X11_tellOrNone, f_X11_deny, f_X11_succeed, f_X12_refuse, f_X12_no, hp0, g3, g4]
      · unfold f_X12_cure
        rcases hy with rfl | rfl
        · simp (disch := first | omega | assumption) only [↓lt, Option.bind_some, zl, ll, zadd, zsub, zmul, zneg, ladd, lsub, lmul, lneg, zltT, zltF, zleT, zleF, zeqT, zeqF, zidx, ixT, zwide, bIT, bIF, if_true, if_false, ↓reduceIte, Nat.reduceAdd, Int.reduceAdd, Int.reduceMul, Int.reduceSub, Int.reduceNeg, cs_c, cs_o, cs_2, cu_c, cu_o, Int.cast_ofNat_Int, ps_f, ps_g, ps_w, ps_o, ps_2, pu_f, pu_g, pu_w, pu_o, uI_s, uI_o, uI_j, uI_j1, uI_j2, uI_tw, or0, true_or, or_true, false_or, or_false, nar0, nar1, f_X11_tell, f_X11_refuse, f_X11_tellIf, f_X11_tellOrNone, f_X11_deny, f_X11_succeed, f_X12_refuse, f_X12_no, hp0, m_isPlaceAt, m_isRoadAt, m_isPerson, m_isIn]
        · simp (disch := first | omega | assumption) only [↓lt, Option.bind_some, zl, ll, zadd, zsub, zmul, zneg, ladd, lsub, lmul, lneg, zltT, zltF, zleT, zleF, zeqT, zeqF, zidx, ixT, zwide, bIT, bIF, if_true, if_false, ↓reduceIte, Nat.reduceAdd, Int.reduceAdd, Int.reduceMul, Int.reduceSub, Int.reduceNeg, cs_c, cs_o, cs_2, cu_c, cu_o, Int.cast_ofNat_Int, ps_f, ps_g, ps_w, ps_o, ps_2, pu_f, pu_g, pu_w, pu_o, uI_s, uI_o, uI_j, uI_j1, uI_j2, uI_tw, or0, true_or, or_true, false_or, or_false, nar0, nar1, f_X11_tell, f_X11_refuse, f_X11_tellIf, f_X11_tellOrNone, f_X11_deny, f_X11_succeed, f_X12_refuse, f_X12_no, hp0, m_isPlaceAt, m_isRoadAt, m_isPerson, m_isIn]
    · have hpu : ∀ z, ¬ z = 106 + x → ¬ z = 98 + x → bu (bu b (106 + x) (1 - y)) (98 + x) 0 z = b z := fun z u v => by rw [bu_o v, bu_o u]
      have hwq : ∀ p, 0 ≤ p → p < bu (bu b (106 + x) (1 - y)) (98 + x) 0 2 → 0 ≤ bu (bu b (106 + x) (1 - y)) (98 + x) 0 (98 + p) ∧ bu (bu b (106 + x) (1 - y)) (98 + x) 0 (98 + p) ≤ 1 ∧ 0 ≤ bu (bu b (106 + x) (1 - y)) (98 + x) 0 (106 + p) ∧ bu (bu b (106 + x) (1 - y)) (98 + x) 0 (106 + p) ≤ 1 := fun p u v => by
        rw [hpu 2 (by omega) (by omega)] at v
        have e3 := WPb hb u v
        by_cases q : p = x
        · subst q
          rw [bu_s, bu_o (by omega), bu_s]
          omega
        · rw [hpu (98 + p) (by omega) (by omega), hpu (106 + p) (by omega) (by omega)]
          omega
      refine wr_p (c := f_X11_cure n 0 (zI x) (zI y)) (m := f_X12_cure n 227 (zI x) (zI y)) hO2 (r := zI 1) (g' := gu (gu g x 0 3 y) x 0 4 0) (b' := bu (bu b (106 + x) (1 - y)) (98 + x) 0) ?_ (fun X => ?_) (fun z u v => hpu z (by omega) (by omega)) (fun z u v => hpu z (by omega) (by omega)) (GR_q hg (hpu 1 (by omega) (by omega)) (hpu 2 (by omega) (by omega)) (fun p u v e => ?_) (fun p r u v i j => Or.inl ⟨?_, hpu _ (by omega) (by omega)⟩) (fun p r u v i j => Or.inl ⟨?_, hpu _ (by omega) (by omega)⟩) (fun p u v => by rw [gu_o (by omega), gu_o (by omega), gu_o (by omega), gu_o (by omega)]; exact ⟨rfl, rfl⟩) hwq) (fun p u v => WP_eq hb u v (fun z i j => hpu z (by omega) (by omega)) (fun z i j => hpu z (by omega) (by omega)) (fun z i j => hpu z (by omega) (by omega)) ?_) (fun p r u v i j => ?_) (fun p r u v i j => ?_) (fun p u v => WL_eq hb u v (fun z i j => hpu z (by omega) (by omega)) (fun z i j => hpu z (by omega) (by omega)))
      · unfold f_X11_cure
        rcases hy with rfl | rfl
        · simp (disch := first | omega | assumption) only [↓lt, Option.bind_some, zl, ll, zadd, zsub, zmul, zneg, ladd, lsub, lmul, lneg, zltT, zltF, zleT, zleF, zeqT, zeqF, zidx, ixT, zwide, bIT, bIF, if_true, if_false, ↓reduceIte, Nat.reduceAdd, Int.reduceAdd, Int.reduceMul, Int.reduceSub, Int.reduceNeg, cs_c, cs_o, cs_2, cu_c, cu_o, Int.cast_ofNat_Int, ps_f, ps_g, ps_w, ps_o, ps_2, pu_f, pu_g, pu_w, pu_o, uI_s, uI_o, uI_j, uI_j1, uI_j2, uI_tw, or0, true_or, or_true, false_or, or_false, nar0, nar1, c_hasPlace hL, c_hasRoad hL, c_hasPerson hL, f_X11_tell, f_X11_refuse, f_X11_tellIf, f_X11_tellOrNone, f_X11_deny, f_X11_succeed, f_X12_refuse, f_X12_no, hp0, g3, g4]
        · simp (disch := first | omega | assumption) only [↓lt, Option.bind_some, zl, ll, zadd, zsub, zmul, zneg, ladd, lsub, lmul, lneg, zltT, zltF, zleT, zleF, zeqT, zeqF, zidx, ixT, zwide, bIT, bIF, if_true, if_false, ↓reduceIte, Nat.reduceAdd, Int.reduceAdd, Int.reduceMul, Int.reduceSub, Int.reduceNeg, cs_c, cs_o, cs_2, cu_c, cu_o, Int.cast_ofNat_Int, ps_f, ps_g, ps_w, ps_o, ps_2, pu_f, pu_g, pu_w, pu_o, uI_s, uI_o, uI_j, uI_j1, uI_j2, uI_tw, or0, true_or, or_true, false_or, or_false, nar0, nar1, c_hasPlace hL, c_hasRoad hL, c_hasPerson hL, f_X11_tell, f_X11_refuse, f_X11_tellIf, f_X11_tellOrNone, f_X11_deny, f_X11_succeed, f_X12_refuse, f_X12_no, hp0, g3, g4]
      · unfold f_X12_cure
        rcases hy with rfl | rfl
        · simp (disch := first | omega | assumption) only [↓lt, Option.bind_some, zl, ll, zadd, zsub, zmul, zneg, ladd, lsub, lmul, lneg, zltT, zltF, zleT, zleF, zeqT, zeqF, zidx, ixT, zwide, bIT, bIF, if_true, if_false, ↓reduceIte, Nat.reduceAdd, Int.reduceAdd, Int.reduceMul, Int.reduceSub, Int.reduceNeg, cs_c, cs_o, cs_2, cu_c, cu_o, Int.cast_ofNat_Int, ps_f, ps_g, ps_w, ps_o, ps_2, pu_f, pu_g, pu_w, pu_o, uI_s, uI_o, uI_j, uI_j1, uI_j2, uI_tw, or0, true_or, or_true, false_or, or_false, nar0, nar1, f_X11_tell, f_X11_refuse, f_X11_tellIf, f_X11_tellOrNone, f_X11_deny, f_X11_succeed, f_X12_refuse, f_X12_no, hp0, m_isPlaceAt, m_isRoadAt, m_isPerson, m_isIn]
        · simp (disch := first | omega | assumption) only [↓lt, Option.bind_some, zl, ll, zadd, zsub, zmul, zneg, ladd, lsub, lmul, lneg, zltT, zltF, zleT, zleF, zeqT, zeqF, zidx, ixT, zwide, bIT, bIF, if_true, if_false, ↓reduceIte, Nat.reduceAdd, Int.reduceAdd, Int.reduceMul, Int.reduceSub, Int.reduceNeg, cs_c, cs_o, cs_2, cu_c, cu_o, Int.cast_ofNat_Int, ps_f, ps_g, ps_w, ps_o, ps_2, pu_f, pu_g, pu_w, pu_o, uI_s, uI_o, uI_j, uI_j1, uI_j2, uI_tw, or0, true_or, or_true, false_or, or_false, nar0, nar1, f_X11_tell, f_X11_refuse, f_X11_tellIf, f_X11_tellOrNone, f_X11_deny, f_X11_succeed, f_X12_refuse, f_X12_no, hp0, m_isPlaceAt, m_isRoadAt, m_isPerson, m_isIn]
      · clear hO2 hC hL hM hP hl hb e2 hm hp0
        unfold GP at e ⊢
        by_cases q : p = x
        · subst q
          clear w1
          rw [hpu (66 + p) (by omega) (by omega), hpu (58 + p) (by omega) (by omega), hpu (122 + p) (by omega) (by omega), hpu (114 + p) (by omega) (by omega), hpu (82 + p) (by omega) (by omega), hpu (74 + p) (by omega) (by omega), hpu (90 + p) (by omega) (by omega)]
          simp (disch := first | omega | assumption) only [bu_o, bu_s, gu_o, gu_s, true_and]
          exact ⟨by omega, e.2.2⟩
        · rw [hpu (106 + p) (by omega) (by omega), hpu (98 + p) (by omega) (by omega), hpu (66 + p) (by omega) (by omega), hpu (58 + p) (by omega) (by omega), hpu (122 + p) (by omega) (by omega), hpu (114 + p) (by omega) (by omega), hpu (82 + p) (by omega) (by omega), hpu (74 + p) (by omega) (by omega), hpu (90 + p) (by omega) (by omega)]
          simp (disch := first | omega | assumption) only [gu_o]
          exact e
      · rw [gu_o (by omega), gu_o (by omega)]
      · rw [gu_o (by omega), gu_o (by omega)]
      · have e3 := WPb hb u v
        rw [hpu (90 + p) (by omega) (by omega)]
        by_cases q : p = x
        · subst q
          rw [bu_s, bu_o (by omega), bu_s]
          omega
        · rw [hpu (98 + p) (by omega) (by omega), hpu (106 + p) (by omega) (by omega)]
          omega
      · rw [hpu _ (by omega) (by omega)]
        exact hb.2.2.2.1 p r u v i j
      · rw [hpu _ (by omega) (by omega), hpu _ (by omega) (by omega)]
        exact hb.2.2.2.2.1 p r u v i j
  · refine wr_no (c := f_X11_cure n 0 (zI x) (zI y)) (m := f_X12_cure n 227 (zI x) (zI y)) hO2 (r := zI 0) (s := zI 2) ?_ (fun X => ?_)
    · unfold f_X11_cure
      simp (disch := first | omega | assumption) only [↓lt, Option.bind_some, zl, ll, zadd, zsub, zmul, zneg, ladd, lsub, lmul, lneg, zltT, zltF, zleT, zleF, zeqT, zeqF, zidx, ixT, zwide, bIT, bIF, if_true, if_false, ↓reduceIte, Nat.reduceAdd, Int.reduceAdd, Int.reduceMul, Int.reduceSub, Int.reduceNeg, cs_c, cs_o, cs_2, cu_c, cu_o, Int.cast_ofNat_Int, ps_f, ps_g, ps_w, ps_o, ps_2, pu_f, pu_g, pu_w, pu_o, uI_s, uI_o, uI_j, uI_j1, uI_j2, uI_tw, or0, true_or, or_true, false_or, or_false, nar0, nar1, c_hasPlace hL, c_hasRoad hL, c_hasPerson hL, f_X11_tell, f_X11_refuse, f_X11_tellIf, f_X11_tellOrNone, f_X11_deny, f_X11_succeed, f_X12_refuse, f_X12_no, hp0]
    · unfold f_X12_cure
      simp (disch := first | omega | assumption) only [↓lt, Option.bind_some, zl, ll, zadd, zsub, zmul, zneg, ladd, lsub, lmul, lneg, zltT, zltF, zleT, zleF, zeqT, zeqF, zidx, ixT, zwide, bIT, bIF, if_true, if_false, ↓reduceIte, Nat.reduceAdd, Int.reduceAdd, Int.reduceMul, Int.reduceSub, Int.reduceNeg, cs_c, cs_o, cs_2, cu_c, cu_o, Int.cast_ofNat_Int, ps_f, ps_g, ps_w, ps_o, ps_2, pu_f, pu_g, pu_w, pu_o, uI_s, uI_o, uI_j, uI_j1, uI_j2, uI_tw, or0, true_or, or_true, false_or, or_false, nar0, nar1, f_X11_tell, f_X11_refuse, f_X11_tellIf, f_X11_tellOrNone, f_X11_deny, f_X11_succeed, f_X12_refuse, f_X12_no, hp0, m_isPlaceAt, m_isRoadAt, m_isPerson, m_isIn]
theorem k_settle (p q : Int32) (n : Nat) (hn : 100 ≤ n) : OKm (f_X11_settle n 0 p q) (f_X12_settle n 227 p q) := by
  obtain ⟨x, hx1, hx2, rfl⟩ := z_ex p
  obtain ⟨y, hy1, hy2, rfl⟩ := z_ex q
  refine ok_wr (fun M L g b hO => ?_)
  have hO2 := hO
  obtain ⟨hP, hL, hg, hb, hm, hC⟩ := hO; have hp0 : M.2.2 0 10 = L := hP.1; have hl := Ptr_L hP; have hM := (HL_cs hl.2).mp hL; have hh := hb.1; unfold WH at hh
  have hw := c_whyNoTwo (M := cs M b) (g := g) hp0 hL hx1 hx2 hy1 hy2 (by omega) (by omega)
  by_cases w1 : 0 ≤ x ∧ x < b 2 ∧ 0 ≤ y ∧ y < b 2
  · rw [if_pos w1] at hw
    have e := hg.2.2.1 x y w1.1 w1.2.1 w1.2.2.1 w1.2.2.2
    by_cases w2 : x = y
    · rw [if_pos w2] at hw
      refine wr_no (c := f_X11_settle n 0 (zI x) (zI y)) (m := f_X12_settle n 227 (zI x) (zI y)) hO2 (r := zI (-1)) (s := zI 9) ?_ (fun X => ?_)
      · unfold f_X11_settle
        rw [hw]
        simp (disch := first | omega | assumption) only [↓lt, Option.bind_some, zl, ll, zadd, zsub, zmul, zneg, ladd, lsub, lmul, lneg, zltT, zltF, zleT, zleF, zeqT, zeqF, zidx, ixT, zwide, bIT, bIF, if_true, if_false, ↓reduceIte, Nat.reduceAdd, Int.reduceAdd, Int.reduceMul, Int.reduceSub, Int.reduceNeg, cs_c, cs_o, cs_2, cu_c, cu_o, Int.cast_ofNat_Int, ps_f, ps_g, ps_w, ps_o, ps_2, pu_f, pu_g, pu_w, pu_o, uI_s, uI_o, uI_j, uI_j1, uI_j2, uI_tw, or0, true_or, or_true, false_or, or_false, nar0, nar1, f_X11_tell, f_X11_refuse, f_X11_tellIf, f_X11_tellOrNone, f_X11_deny, f_X11_succeed, f_X12_refuse, f_X12_no, hp0]
      · unfold f_X12_settle
        simp (disch := first | omega | assumption) only [↓lt, Option.bind_some, zl, ll, zadd, zsub, zmul, zneg, ladd, lsub, lmul, lneg, zltT, zltF, zleT, zleF, zeqT, zeqF, zidx, ixT, zwide, bIT, bIF, if_true, if_false, ↓reduceIte, Nat.reduceAdd, Int.reduceAdd, Int.reduceMul, Int.reduceSub, Int.reduceNeg, cs_c, cs_o, cs_2, cu_c, cu_o, Int.cast_ofNat_Int, ps_f, ps_g, ps_w, ps_o, ps_2, pu_f, pu_g, pu_w, pu_o, uI_s, uI_o, uI_j, uI_j1, uI_j2, uI_tw, or0, true_or, or_true, false_or, or_false, nar0, nar1, f_X11_tell, f_X11_refuse, f_X11_tellIf, f_X11_tellOrNone, f_X11_deny, f_X11_succeed, f_X12_refuse, f_X12_no, hp0, m_isPlaceAt, m_isRoadAt, m_isPerson, m_isIn]
    · rw [if_neg w2] at hw
      have hpu : ∀ z, ¬ z = 226 + 8 * x + y → ¬ z = 226 + 8 * y + x → bu (bu b (226 + 8 * x + y) 0) (226 + 8 * y + x) 0 z = b z := fun z u v => by rw [bu_o v, bu_o u]
      refine wr_p (c := f_X11_settle n 0 (zI x) (zI y)) (m := f_X12_settle n 227 (zI x) (zI y)) hO2 (r := zI (b (226 + 8 * x + y))) (g' := gu (gu g x 2 y 0) y 2 x 0) (b' := bu (bu b (226 + 8 * x + y) 0) (226 + 8 * y + x) 0) ?_ (fun X => ?_) (fun z u v => hpu z (by omega) (by omega)) (fun z u v => hpu z (by omega) (by omega)) (GR_q hg (hpu 1 (by omega) (by omega)) (hpu 2 (by omega) (by omega)) (fun p u v e => ?_) (fun p r u v i j => Or.inl ⟨?_, hpu _ (by omega) (by omega)⟩) (fun p r u v i j => ?_) (fun p u v => by rw [gu_o (by omega), gu_o (by omega), gu_o (by omega), gu_o (by omega)]; exact ⟨rfl, rfl⟩) (fun p u v => by rw [hpu 2 (by omega) (by omega)] at v; have e3 := WPb hb u v; rw [hpu (98 + p) (by omega) (by omega), hpu (106 + p) (by omega) (by omega)]; omega)) (fun p u v => WP_eq hb u v (fun z i j => hpu z (by omega) (by omega)) (fun z i j => hpu z (by omega) (by omega)) (fun z i j => hpu z (by omega) (by omega)) ?_) (fun p r u v i j => ?_) (fun p r u v i j => ?_) (fun p u v => WL_eq hb u v (fun z i j => hpu z (by omega) (by omega)) (fun z i j => hpu z (by omega) (by omega)))
      · unfold f_X11_settle
        rw [hw]
        simp (disch := first | omega | assumption) only [↓lt, Option.bind_some, zl, ll, zadd, zsub, zmul, zneg, ladd, lsub, lmul, lneg, zltT, zltF, zleT, zleF, zeqT, zeqF, zidx, ixT, zwide, bIT, bIF, if_true, if_false, ↓reduceIte, Nat.reduceAdd, Int.reduceAdd, Int.reduceMul, Int.reduceSub, Int.reduceNeg, cs_c, cs_o, cs_2, cu_c, cu_o, Int.cast_ofNat_Int, ps_f, ps_g, ps_w, ps_o, ps_2, pu_f, pu_g, pu_w, pu_o, uI_s, uI_o, uI_j, uI_j1, uI_j2, uI_tw, or0, true_or, or_true, false_or, or_false, nar0, nar1, f_X11_tell, f_X11_refuse, f_X11_tellIf, f_X11_tellOrNone, f_X11_deny, f_X11_succeed, f_X12_refuse, f_X12_no, hp0, e]
      · unfold f_X12_settle
        simp (disch := first | omega | assumption) only [↓lt, Option.bind_some, zl, ll, zadd, zsub, zmul, zneg, ladd, lsub, lmul, lneg, zltT, zltF, zleT, zleF, zeqT, zeqF, zidx, ixT, zwide, bIT, bIF, if_true, if_false, ↓reduceIte, Nat.reduceAdd, Int.reduceAdd, Int.reduceMul, Int.reduceSub, Int.reduceNeg, cs_c, cs_o, cs_2, cu_c, cu_o, Int.cast_ofNat_Int, ps_f, ps_g, ps_w, ps_o, ps_2, pu_f, pu_g, pu_w, pu_o, uI_s, uI_o, uI_j, uI_j1, uI_j2, uI_tw, or0, true_or, or_true, false_or, or_false, nar0, nar1, f_X11_tell, f_X11_refuse, f_X11_tellIf, f_X11_tellOrNone, f_X11_deny, f_X11_succeed, f_X12_refuse, f_X12_no, hp0, m_isPlaceAt, m_isRoadAt, m_isPerson, m_isIn]
      · clear hO2 hC hL hM hP hl hb hm hp0
        unfold GP at e ⊢
        rw [hpu (106 + p) (by omega) (by omega), hpu (98 + p) (by omega) (by omega), hpu (66 + p) (by omega) (by omega), hpu (58 + p) (by omega) (by omega), hpu (122 + p) (by omega) (by omega), hpu (114 + p) (by omega) (by omega), hpu (82 + p) (by omega) (by omega), hpu (74 + p) (by omega) (by omega), hpu (90 + p) (by omega) (by omega)]
        simp (disch := first | omega | assumption) only [gu_o]
        assumption
      · rw [gu_o (by omega), gu_o (by omega)]
      · by_cases w3 : p = x ∧ r = y
        · right
          rw [w3.1, w3.2, gu_o (by omega), gu_s, bu_o (by omega), bu_s]
        · by_cases w4 : p = y ∧ r = x
          · right
            rw [w4.1, w4.2, gu_s, bu_s]
          · left
            rw [gu_o (by omega), gu_o (by omega), hpu _ (by omega) (by omega)]
            exact ⟨rfl, rfl⟩
      · have e3 := WPb hb u v
        rw [hpu (90 + p) (by omega) (by omega), hpu (98 + p) (by omega) (by omega), hpu (106 + p) (by omega) (by omega)]
        omega
      · rw [hpu _ (by omega) (by omega)]
        exact hb.2.2.2.1 p r u v i j
      · have e4 := hb.2.2.2.2.1 p r u v i j
        by_cases w3 : p = x ∧ r = y
        · rw [w3.1, w3.2, bu_s, bu_o (by omega), bu_s]; omega
        · by_cases w4 : p = y ∧ r = x
          · rw [w4.1, w4.2, bu_s, bu_o (by omega), bu_s]; omega
          · rw [hpu (226 + 8 * p + r) (by omega) (by omega), hpu (226 + 8 * r + p) (by omega) (by omega)]
            exact e4
  · rw [if_neg w1] at hw
    refine wr_no (c := f_X11_settle n 0 (zI x) (zI y)) (m := f_X12_settle n 227 (zI x) (zI y)) hO2 (r := zI (-1)) (s := zI 2) ?_ (fun X => ?_)
    · unfold f_X11_settle
      rw [hw]
      simp (disch := first | omega | assumption) only [↓lt, Option.bind_some, zl, ll, zadd, zsub, zmul, zneg, ladd, lsub, lmul, lneg, zltT, zltF, zleT, zleF, zeqT, zeqF, zidx, ixT, zwide, bIT, bIF, if_true, if_false, ↓reduceIte, Nat.reduceAdd, Int.reduceAdd, Int.reduceMul, Int.reduceSub, Int.reduceNeg, cs_c, cs_o, cs_2, cu_c, cu_o, Int.cast_ofNat_Int, ps_f, ps_g, ps_w, ps_o, ps_2, pu_f, pu_g, pu_w, pu_o, uI_s, uI_o, uI_j, uI_j1, uI_j2, uI_tw, or0, true_or, or_true, false_or, or_false, nar0, nar1, f_X11_tell, f_X11_refuse, f_X11_tellIf, f_X11_tellOrNone, f_X11_deny, f_X11_succeed, f_X12_refuse, f_X12_no, hp0]
    · unfold f_X12_settle
      by_cases w2 : 0 ≤ x ∧ x < b 2
      · simp (disch := first | omega | assumption) only [↓lt, Option.bind_some, zl, ll, zadd, zsub, zmul, zneg, ladd, lsub, lmul, lneg, zltT, zltF, zleT, zleF, zeqT, zeqF, zidx, ixT, zwide, bIT, bIF, if_true, if_false, ↓reduceIte, Nat.reduceAdd, Int.reduceAdd, Int.reduceMul, Int.reduceSub, Int.reduceNeg, cs_c, cs_o, cs_2, cu_c, cu_o, Int.cast_ofNat_Int, ps_f, ps_g, ps_w, ps_o, ps_2, pu_f, pu_g, pu_w, pu_o, uI_s, uI_o, uI_j, uI_j1, uI_j2, uI_tw, or0, true_or, or_true, false_or, or_false, nar0, nar1, f_X11_tell, f_X11_refuse, f_X11_tellIf, f_X11_tellOrNone, f_X11_deny, f_X11_succeed, f_X12_refuse, f_X12_no, hp0, m_isPlaceAt, m_isRoadAt, m_isPerson, m_isIn]
      · simp (disch := first | omega | assumption) only [↓lt, Option.bind_some, zl, ll, zadd, zsub, zmul, zneg, ladd, lsub, lmul, lneg, zltT, zltF, zleT, zleF, zeqT, zeqF, zidx, ixT, zwide, bIT, bIF, if_true, if_false, ↓reduceIte, Nat.reduceAdd, Int.reduceAdd, Int.reduceMul, Int.reduceSub, Int.reduceNeg, cs_c, cs_o, cs_2, cu_c, cu_o, Int.cast_ofNat_Int, ps_f, ps_g, ps_w, ps_o, ps_2, pu_f, pu_g, pu_w, pu_o, uI_s, uI_o, uI_j, uI_j1, uI_j2, uI_tw, or0, true_or, or_true, false_or, or_false, nar0, nar1, f_X11_tell, f_X11_refuse, f_X11_tellIf, f_X11_tellOrNone, f_X11_deny, f_X11_succeed, f_X12_refuse, f_X12_no, hp0, m_isPlaceAt, m_isRoadAt, m_isPerson, m_isIn]
