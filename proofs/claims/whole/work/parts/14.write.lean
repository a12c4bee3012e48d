/-! ===== calls that change one or two people ===== -/
theorem HL_b {M : KM} {L : Nat} {b b' : Int → Int} (hL : HL M L b) (h : ∀ z, 0 ≤ z → z < 58 → b' z = b z) (h1 : b 1 ≤ 12) : HL M L b' := by
  obtain ⟨q0, q1, q2, q5, q6, q7, q8, q9, q3, q4, qd, qa, qb, qc, qs⟩ := hL
  refine ⟨?_, ?_, ?_, ?_, ?_, ?_, ?_, ?_, ?_, ?_, ?_, ?_, ?_, ?_, ?_⟩
  · rw [h _ (by omega) (by omega)]; exact q0
  · rw [h _ (by omega) (by omega)]; exact q1
  · rw [h _ (by omega) (by omega)]; exact q2
  · rw [h _ (by omega) (by omega)]; exact q5
  · rw [h _ (by omega) (by omega)]; exact q6
  · rw [h _ (by omega) (by omega)]; exact q7
  · rw [h _ (by omega) (by omega)]; exact q8
  · rw [h _ (by omega) (by omega)]; exact q9
  · rw [h _ (by omega) (by omega)]; exact q3
  · rw [h _ (by omega) (by omega)]; exact q4
  · rw [h 4 (by omega) (by omega), h 3 (by omega) (by omega)]; exact qd
  · intro r x y; rw [h 1 (by omega) (by omega)] at y; rw [h _ (by omega) (by omega)]; exact qa r x y
  · intro r x y; rw [h 1 (by omega) (by omega)] at y; rw [h _ (by omega) (by omega)]; exact qb r x y
  · intro r x y; rw [h 1 (by omega) (by omega)] at y; rw [h _ (by omega) (by omega)]; exact qc r x y
  · intro r x y; rw [h 1 (by omega) (by omega)] at y; rw [h _ (by omega) (by omega)]; exact qs r x y
/-- the people change alone -/
theorem wr_p {M : KM} {L : Nat} {g g' : Int → Int → Int → Int} {b b' : Int → Int} {ρ : Type} {c m : KM → Option (ρ × KM)} {r : ρ} (hO : Opn M L g b) (h1 : c (ps (cs M b) L g) = some (r, ps (uI (cs M b) 0 15 (zI 0)) L g')) (h2 : ∀ X, m (cs X b) = some (r, cs (uI (uI X 227 1 (zI 0)) 227 0 (zI 0)) b')) (h3 : ∀ z, 0 ≤ z → z < 58 → b' z = b z) (h4 : ∀ z, 290 ≤ z → z < 2248 → b' z = b z) (h5 : GR g' b') (h6 : ∀ p, 0 ≤ p → p < b 2 → WP b' p) (h7 : WG b') (h8 : WO b') (h9 : ∀ p, 0 ≤ p → p < b 2 → WL b' p) : ∃ (r : ρ) (s : Int32) (N : KM) (g' : Int → Int → Int → Int) (b' : Int → Int), c (ps (cs M b) L g) = some (r, ps (cs N b) L g') ∧ (∀ X, ∃ Y, m (cs X b) = some (r, cs Y b') ∧ Y.1 227 0 = s ∧ MF X Y) ∧ N.1 0 15 = s ∧ N.2.2 = M.2.2 ∧ (∀ a k, KI L (M.2.2 L 7) a k → N.1 a k = M.1 a k) ∧ (∀ a k, KJ L a k → N.2.1 a k = M.2.1 a k) ∧ HL N L b' ∧ GR g' b' ∧ WB b' ∧ b' 5 ≤ 99999 ∧ (∀ z, 290 ≤ z → z < 2248 → b' z = b z) ∧ b' 0 = b 0 ∧ b' 2 = b 2 := by
  have hl := Ptr_L hO.1
  have hq := Ptr_P hO.1
  obtain ⟨a1, a2, a3, a4, a5, a6⟩ := hO
  have hh := a4.1
  unfold WH at hh
  refine ⟨r, zI 0, uI M 0 15 (zI 0), g', b', ?_, fun X => ⟨_, h2 X, uI_s, MF_st⟩, uI_s, rfl, fun a k x => ?_, fun a k x => rfl, ?_, h5, ⟨?_, fun r x y => ?_, fun p x y => h6 p x (by rw [← h3 2 (by omega) (by omega)]; exact y), h7, h8, fun p x y => h9 p x (by rw [← h3 2 (by omega) (by omega)]; exact y)⟩, ?_, h4, h3 0 (by omega) (by omega), h3 2 (by omega) (by omega)⟩
  · rw [h1, cu_o (by omega)]
  · exact uI_o (KI_out hq x).2.2.2
  · exact HL_b (HL_of (fun a k x y => uI_o (by omega)) ((HL_cs hl.2).mp a2)) h3 (by omega)
  · unfold WH
    rw [h3 0 (by omega) (by omega), h3 1 (by omega) (by omega), h3 2 (by omega) (by omega), h3 3 (by omega) (by omega), h3 4 (by omega) (by omega), h3 5 (by omega) (by omega), h3 6 (by omega) (by omega), h3 7 (by omega) (by omega), h3 8 (by omega) (by omega), h3 9 (by omega) (by omega)]
    exact hh
  · rw [h3 1 (by omega) (by omega)] at y
    have e := a4.2.1 r x y
    unfold WR at e ⊢
    rw [h3 0 (by omega) (by omega), h3 (10 + r) (by omega) (by omega), h3 (22 + r) (by omega) (by omega), h3 (34 + r) (by omega) (by omega), h3 (46 + r) (by omega) (by omega)]
    exact e
  · rw [h3 5 (by omega) (by omega)]; exact a5
theorem WPb {b : Int → Int} (hb : WB b) {p : Int} (h1 : 0 ≤ p) (h2 : p < b 2) : 0 ≤ b (58 + p) ∧ b (58 + p) < b 0 ∧ -1 ≤ b (66 + p) ∧ b (66 + p) < b 0 ∧ 0 ≤ b (74 + p) ∧ b (74 + p) ≤ 99 ∧ -1 ≤ b (82 + p) ∧ b (82 + p) < b 2 ∧ 0 ≤ b (90 + p) ∧ b (90 + p) ≤ b 5 ∧ 0 ≤ b (98 + p) ∧ b (98 + p) ≤ 1 ∧ 0 ≤ b (106 + p) ∧ b (106 + p) ≤ 1 := by
  have e := hb.2.2.1 p h1 h2
  unfold WP at e
  omega
theorem k_glasses (p : Int32) (y : Int) (hy : y = 0 ∨ y = 1) (n : Nat) (hn : 100 ≤ n) : OKm (f_X11_glasses n 0 p (zI y)) (f_X12_glasses n 227 p (zI y)) := by
  obtain ⟨x, hx1, hx2, rfl⟩ := z_ex p
  refine ok_wr (fun M L g b hO => ?_)
  have hO2 := hO
  obtain ⟨hP, hL, hg, hb, hm, hC⟩ := hO; have hp0 : M.2.2 0 10 = L := hP.1; have hl := Ptr_L hP; have hM := (HL_cs hl.2).mp hL; have hh := hb.1; unfold WH at hh
  by_cases w1 : 0 ≤ x ∧ x < b 2
  · have e := hg.1 x w1.1 w1.2
    unfold GP at e
    obtain ⟨g3, g4, -, -, -, -, -⟩ := e
    have e2 := WPb hb w1.1 w1.2
    by_cases w : b (106 + x) = 1 ∨ b (98 + x) = y
    · refine wr_no (c := f_X11_glasses n 0 (zI x) (zI y)) (m := f_X12_glasses n 227 (zI x) (zI y)) hO2 (r := zI 0) (s := zI 9) ?_ (fun X => ?_)
      · unfold f_X11_glasses
        by_cases w3 : b (106 + x) = 1
        · clear w hy
          simp (disch := first | omega | assumption) only [lt, Option.bind_some, zl, ll, zadd, zsub, zmul, zneg, ladd, lsub, lmul, lneg, zltT, zltF, zleT, zleF, zeqT, zeqF, zidx, ixT, zwide, bIT, bIF, if_true, if_false, ↓reduceIte, Nat.reduceAdd, Int.reduceAdd, Int.reduceMul, Int.reduceSub, Int.reduceNeg, cs_c, cs_o, cs_2, cu_c, cu_o, Int.cast_ofNat_Int, ps_f, ps_g, ps_w, ps_o, ps_2, pu_f, pu_g, pu_w, pu_o, uI_s, uI_o, uI_j, uI_j1, uI_j2, uI_tw, or0, true_or, or_true, false_or, or_false, nar0, nar1, c_hasPlace hL, c_hasRoad hL, c_hasPerson hL, f_X11_tell, f_X11_refuse, f_X11_tellIf, f_X11_tellOrNone, f_X11_deny, f_X11_succeed, f_X12_refuse, f_X12_no, hp0, g3, g4]
        · have w4 : b (98 + x) = y := by omega
          clear w hy
          simp (disch := first | omega | assumption) only [lt, Option.bind_some, zl, ll, zadd, zsub, zmul, zneg, ladd, lsub, lmul, lneg, zltT, zltF, zleT, zleF, zeqT, zeqF, zidx, ixT, zwide, bIT, bIF, if_true, if_false, ↓reduceIte, Nat.reduceAdd, Int.reduceAdd, Int.reduceMul, Int.reduceSub, Int.reduceNeg, cs_c, cs_o, cs_2, cu_c, cu_o, Int.cast_ofNat_Int, ps_f, ps_g, ps_w, ps_o, ps_2, pu_f, pu_g, pu_w, pu_o, uI_s, uI_o, uI_j, uI_j1, uI_j2, uI_tw, or0, true_or, or_true, false_or, or_false, nar0, nar1, c_hasPlace hL, c_hasRoad hL, c_hasPerson hL, f_X11_tell, f_X11_refuse, f_X11_tellIf, f_X11_tellOrNone, f_X11_deny, f_X11_succeed, f_X12_refuse, f_X12_no, hp0, g3, g4]
      · unfold f_X12_glasses
        by_cases w3 : b (106 + x) = 1
        · simp (disch := first | omega | assumption) only [lt, Option.bind_some, zl, ll, zadd, zsub, zmul, zneg, ladd, lsub, lmul, lneg, zltT, zltF, zleT, zleF, zeqT, zeqF, zidx, ixT, zwide, bIT, bIF, if_true, if_false, ↓reduceIte, Nat.reduceAdd, Int.reduceAdd, Int.reduceMul, Int.reduceSub, Int.reduceNeg, cs_c, cs_o, cs_2, cu_c, cu_o, Int.cast_ofNat_Int, ps_f, ps_g, ps_w, ps_o, ps_2, pu_f, pu_g, pu_w, pu_o, uI_s, uI_o, uI_j, uI_j1, uI_j2, uI_tw, or0, true_or, or_true, false_or, or_false, nar0, nar1, f_X11_tell, f_X11_refuse, f_X11_tellIf, f_X11_tellOrNone, f_X11_deny, f_X11_succeed, f_X12_refuse, f_X12_no, hp0, m_isPlaceAt, m_isRoadAt, m_isPerson, m_isIn]
        · rcases hy with rfl | rfl
          · simp (disch := first | omega | assumption) only [lt, Option.bind_some, zl, ll, zadd, zsub, zmul, zneg, ladd, lsub, lmul, lneg, zltT, zltF, zleT, zleF, zeqT, zeqF, zidx, ixT, zwide, bIT, bIF, if_true, if_false, ↓reduceIte, Nat.reduceAdd, Int.reduceAdd, Int.reduceMul, Int.reduceSub, Int.reduceNeg, cs_c, cs_o, cs_2, cu_c, cu_o, Int.cast_ofNat_Int, ps_f, ps_g, ps_w, ps_o, ps_2, pu_f, pu_g, pu_w, pu_o, uI_s, uI_o, uI_j, uI_j1, uI_j2, uI_tw, or0, true_or, or_true, false_or, or_false, nar0, nar1, f_X11_tell, f_X11_refuse, f_X11_tellIf, f_X11_tellOrNone, f_X11_deny, f_X11_succeed, f_X12_refuse, f_X12_no, hp0, m_isPlaceAt, m_isRoadAt, m_isPerson, m_isIn]
          · simp (disch := first | omega | assumption) only [lt, Option.bind_some, zl, ll, zadd, zsub, zmul, zneg, ladd, lsub, lmul, lneg, zltT, zltF, zleT, zleF, zeqT, zeqF, zidx, ixT, zwide, bIT, bIF, if_true, if_false, ↓reduceIte, Nat.reduceAdd, Int.reduceAdd, Int.reduceMul, Int.reduceSub, Int.reduceNeg, cs_c, cs_o, cs_2, cu_c, cu_o, Int.cast_ofNat_Int, ps_f, ps_g, ps_w, ps_o, ps_2, pu_f, pu_g, pu_w, pu_o, uI_s, uI_o, uI_j, uI_j1, uI_j2, uI_tw, or0, true_or, or_true, false_or, or_false, nar0, nar1, f_X11_tell, f_X11_refuse, f_X11_tellIf, f_X11_tellOrNone, f_X11_deny, f_X11_succeed, f_X12_refuse, f_X12_no, hp0, m_isPlaceAt, m_isRoadAt, m_isPerson, m_isIn]
    · refine wr_p (c := f_X11_glasses n 0 (zI x) (zI y)) (m := f_X12_glasses n 227 (zI x) (zI y)) hO2 (r := zI 1) (g' := gu g x 0 4 y) (b' := bu b (98 + x) y) ?_ (fun X => ?_) (fun z u v => bu_o (by omega)) (fun z u v => bu_o (by omega)) ⟨fun p u v => ?_, fun p r u v i j => ?_, fun p r u v i j => ?_, fun p u v => ?_⟩ (fun p u v => ?_) (fun p r u v i j => ?_) (fun p r u v i j => ?_) (fun p u v => ?_)
      · unfold f_X11_glasses
        rcases hy with rfl | rfl
        · simp (disch := first | omega | assumption) only [lt, Option.bind_some, zl, ll, zadd, zsub, zmul, zneg, ladd, lsub, lmul, lneg, zltT, zltF, zleT, zleF, zeqT, zeqF, zidx, ixT, zwide, bIT, bIF, if_true, if_false, ↓reduceIte, Nat.reduceAdd, Int.reduceAdd, Int.reduceMul, Int.reduceSub, Int.reduceNeg, cs_c, cs_o, cs_2, cu_c, cu_o, Int.cast_ofNat_Int, ps_f, ps_g, ps_w, ps_o, ps_2, pu_f, pu_g, pu_w, pu_o, uI_s, uI_o, uI_j, uI_j1, uI_j2, uI_tw, or0, true_or, or_true, false_or, or_false, nar0, nar1, c_hasPlace hL, c_hasRoad hL, c_hasPerson hL, f_X11_tell, f_X11_refuse, f_X11_tellIf, f_X11_tellOrNone, f_X11_deny, f_X11_succeed, f_X12_refuse, f_X12_no, hp0, g3, g4]
        · simp (disch := first | omega | assumption) only [lt, Option.bind_some, zl, ll, zadd, zsub, zmul, zneg, ladd, lsub, lmul, lneg, zltT, zltF, zleT, zleF, zeqT, zeqF, zidx, ixT, zwide, bIT, bIF, if_true, if_false, ↓reduceIte, Nat.reduceAdd, Int.reduceAdd, Int.reduceMul, Int.reduceSub, Int.reduceNeg, cs_c, cs_o, cs_2, cu_c, cu_o, Int.cast_ofNat_Int, ps_f, ps_g, ps_w, ps_o, ps_2, pu_f, pu_g, pu_w, pu_o, uI_s, uI_o, uI_j, uI_j1, uI_j2, uI_tw, or0, true_or, or_true, false_or, or_false, nar0, nar1, c_hasPlace hL, c_hasRoad hL, c_hasPerson hL, f_X11_tell, f_X11_refuse, f_X11_tellIf, f_X11_tellOrNone, f_X11_deny, f_X11_succeed, f_X12_refuse, f_X12_no, hp0, g3, g4]
      · unfold f_X12_glasses
        rcases hy with rfl | rfl
        · simp (disch := first | omega | assumption) only [lt, Option.bind_some, zl, ll, zadd, zsub, zmul, zneg, ladd, lsub, lmul, lneg, zltT, zltF, zleT, zleF, zeqT, zeqF, zidx, ixT, zwide, bIT, bIF, if_true, if_false, ↓reduceIte, Nat.reduceAdd, Int.reduceAdd, Int.reduceMul, Int.reduceSub, Int.reduceNeg, cs_c, cs_o, cs_2, cu_c, cu_o, Int.cast_ofNat_Int, ps_f, ps_g, ps_w, ps_o, ps_2, pu_f, pu_g, pu_w, pu_o, uI_s, uI_o, uI_j, uI_j1, uI_j2, uI_tw, or0, true_or, or_true, false_or, or_false, nar0, nar1, f_X11_tell, f_X11_refuse, f_X11_tellIf, f_X11_tellOrNone, f_X11_deny, f_X11_succeed, f_X12_refuse, f_X12_no, hp0, m_isPlaceAt, m_isRoadAt, m_isPerson, m_isIn]
        · simp (disch := first | omega | assumption) only [lt, Option.bind_some, zl, ll, zadd, zsub, zmul, zneg, ladd, lsub, lmul, lneg, zltT, zltF, zleT, zleF, zeqT, zeqF, zidx, ixT, zwide, bIT, bIF, if_true, if_false, ↓reduceIte, Nat.reduceAdd, Int.reduceAdd, Int.reduceMul, Int.reduceSub, Int.reduceNeg, cs_c, cs_o, cs_2, cu_c, cu_o, Int.cast_ofNat_Int, ps_f, ps_g, ps_w, ps_o, ps_2, pu_f, pu_g, pu_w, pu_o, uI_s, uI_o, uI_j, uI_j1, uI_j2, uI_tw, or0, true_or, or_true, false_or, or_false, nar0, nar1, f_X11_tell, f_X11_refuse, f_X11_tellIf, f_X11_tellOrNone, f_X11_deny, f_X11_succeed, f_X12_refuse, f_X12_no, hp0, m_isPlaceAt, m_isRoadAt, m_isPerson, m_isIn]
      · rw [bu_o (by omega)] at v
        have e := hg.1 p u v
        unfold GP at e ⊢
        by_cases q : p = x
        · subst q
          simp (disch := first | omega | assumption) only [bu_o, bu_s, gu_o, gu_s, true_and]
          exact ⟨e.1, e.2.2⟩
        · simp (disch := first | omega | assumption) only [bu_o, gu_o]
          exact e
      · rw [bu_o (by omega)] at v j
        simp (disch := first | omega | assumption) only [bu_o, gu_o]
        exact hg.2.1 p r u v i j
      · rw [bu_o (by omega)] at v j
        simp (disch := first | omega | assumption) only [bu_o, gu_o]
        exact hg.2.2.1 p r u v i j
      · have e3 := hg.2.2.2 p u v
        by_cases q : p = x
        · subst q
          rw [gu_o (by omega), gu_s]; omega
        · rw [gu_o (by omega), gu_o (by omega)]; exact e3
      · have e := WP_of hb u v
        unfold WP at e ⊢
        by_cases q : p = x
        · subst q
          by_cases q2 : b (66 + p) = -1
          · simp (disch := first | omega | assumption) only [bu_o, bu_s]
            omega
          · simp (disch := first | omega | assumption) only [bu_o, bu_s]
            omega
        · by_cases q2 : b (66 + p) = -1
          · simp (disch := first | omega | assumption) only [bu_o]
            omega
          · simp (disch := first | omega | assumption) only [bu_o]
            omega
      · simp (disch := first | omega | assumption) only [bu_o]
        exact hb.2.2.2.1 p r u v i j
      · simp (disch := first | omega | assumption) only [bu_o]
        exact hb.2.2.2.2.1 p r u v i j
      · have e := hb.2.2.2.2.2 p u v
        have e2 := WP_of hb u v
        unfold WP at e2
        unfold WL at e ⊢
        by_cases q2 : b (82 + p) = -1
        · left; rw [bu_o (by omega)]; exact q2
        · simp (disch := first | omega | assumption) only [bu_o]
          exact e
  · refine wr_no (c := f_X11_glasses n 0 (zI x) (zI y)) (m := f_X12_glasses n 227 (zI x) (zI y)) hO2 (r := zI 0) (s := zI 2) ?_ (fun X => ?_)
    · unfold f_X11_glasses
      simp (disch := first | omega | assumption) only [lt, Option.bind_some, zl, ll, zadd, zsub, zmul, zneg, ladd, lsub, lmul, lneg, zltT, zltF, zleT, zleF, zeqT, zeqF, zidx, ixT, zwide, bIT, bIF, if_true, if_false, ↓reduceIte, Nat.reduceAdd, Int.reduceAdd, Int.reduceMul, Int.reduceSub, Int.reduceNeg, cs_c, cs_o, cs_2, cu_c, cu_o, Int.cast_ofNat_Int, ps_f, ps_g, ps_w, ps_o, ps_2, pu_f, pu_g, pu_w, pu_o, uI_s, uI_o, uI_j, uI_j1, uI_j2, uI_tw, or0, true_or, or_true, false_or, or_false, nar0, nar1, c_hasPlace hL, c_hasRoad hL, c_hasPerson hL, f_X11_tell, f_X11_refuse, f_X11_tellIf, f_X11_tellOrNone, f_X11_deny, f_X11_succeed, f_X12_refuse, f_X12_no, hp0]
    · unfold f_X12_glasses
      simp (disch := first | omega | assumption) only [lt, Option.bind_some, zl, ll, zadd, zsub, zmul, zneg, ladd, lsub, lmul, lneg, zltT, zltF, zleT, zleF, zeqT, zeqF, zidx, ixT, zwide, bIT, bIF, if_true, if_false, ↓reduceIte, Nat.reduceAdd, Int.reduceAdd, Int.reduceMul, Int.reduceSub, Int.reduceNeg, cs_c, cs_o, cs_2, cu_c, cu_o, Int.cast_ofNat_Int, ps_f, ps_g, ps_w, ps_o, ps_2, pu_f, pu_g, pu_w, pu_o, uI_s, uI_o, uI_j, uI_j1, uI_j2, uI_tw, or0, true_or, or_true, false_or, or_false, nar0, nar1, f_X11_tell, f_X11_refuse, f_X11_tellIf, f_X11_tellOrNone, f_X11_deny, f_X11_succeed, f_X12_refuse, f_X12_no, hp0, m_isPlaceAt, m_isRoadAt, m_isPerson, m_isIn]
