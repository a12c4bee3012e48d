/-! ===== what is done ===== -/
/-- the land's head too -/
def Wr (L : Nat) (M N : KM) : Prop := N.2 = M.2 ∧ ∀ a k, ¬ (a = 0 ∧ k = 15) → ¬ (14 ≤ a ∧ a ≤ 22) → ¬ (L ≤ a ∧ a < L + 8) → N.1 a k = M.1 a k
theorem Wr_Sc {L : Nat} {M N : KM} (h : Sc M N) : Wr L M N := ⟨h.1, fun a k u v _ => h.2 a k u v⟩
theorem Wr_t {L : Nat} {M N K : KM} (h : Wr L M N) (g : Wr L N K) : Wr L M K := ⟨g.1.trans h.1, fun a k u v w => (g.2 a k u v w).trans (h.2 a k u v w)⟩
theorem CI_mk {M N : KM} {L : Nat} {g g' : Int → Int → Int → Int} {b b' : Int → Int} (h : CI M L g b) (w : Wr L M N) (h1 : HL N L b') (h2 : GR g' b') (h3 : WB b') (h4 : b' 5 ≤ 99999) : CI N L g' b' := by
  obtain ⟨hP, hL, hg, hb, hm, hC⟩ := h
  have hl := Ptr_L hP
  have hq := Ptr_P hP
  refine ⟨?_, h1, h2, h3, h4, ?_⟩
  · unfold Ptr; rw [w.1]; exact hP
  · rw [w.1, w.2 _ _ (by omega) (by omega) (by omega)]; exact hC
theorem sb8_nn : ∀ p0 p1 p2 p3 p4 p5 p6 p7 : Bool, 0 ≤ sb8 p0 p1 p2 p3 p4 p5 p6 p7 ∧ sb8 p0 p1 p2 p3 p4 p5 p6 p7 < 256 := by decide +kernel
theorem setB_nn {P : Int → Bool} : 0 ≤ setB P 8 ∧ setB P 8 < 256 := by rw [sb8_of]; exact sb8_nn _ _ _ _ _ _ _ _
theorem q_go_F {x y : Int} {M : KM} {L n : Nat} {g : Int → Int → Int → Int} {b : Int → Int} (h : CI M L g b) (hn : 100 ≤ n) (w1 : 0 ≤ x ∧ x < b 2) (w2 : 0 ≤ y ∧ y < b 0) (w3 : ¬ stOK b x y) : Ro (f_X11_go n 0 (zI x) (zI y)) M L g (zI (-1)) := by
  obtain ⟨hP, hL, hg, hb, hm, hC⟩ := h; have hp0 : M.2.2 0 10 = L := hP.1; have hl := Ptr_L hP; have hq := Ptr_P hP; have hh := hb.1; unfold WH at hh
  have hi : 0 ≤ b 2 ∧ b 2 ≤ 8 ∧ b 0 ≤ 8 ∧ 0 ≤ b 0 ∧ b 1 ≤ 12 := by omega
  clear hh
  refine ro_s (s := zI 9) ?_
  unfold f_X11_go
  simp (disch := first | omega | assumption) only [↓lt, Option.bind_some, zl, ll, zadd, zsub, zmul, zneg, ladd, lsub, lmul, lneg, zltT, zltF, zleT, zleF, zeqT, zeqF, zidx, ixT, zwide, bIT, bIF, if_true, if_false, ↓reduceIte, Nat.reduceAdd, Int.reduceAdd, Int.reduceMul, Int.reduceSub, Int.reduceNeg, cs_c, cs_o, cs_2, cu_c, cu_o, Int.cast_ofNat_Int, ps_f, ps_g, ps_w, ps_o, ps_2, pu_f, pu_g, pu_w, pu_o, uI_s, uI_o, uI_j, uI_j1, uI_j2, uI_tw, or0, true_or, or_true, false_or, or_false, nar0, nar1, c_hasPlace hL, c_hasRoad hL, c_hasPerson hL, f_X11_tell, f_X11_refuse, f_X11_tellIf, f_X11_tellOrNone, f_X11_deny, f_X11_succeed, hp0, c_setOut_F hL hg hb w1.1 w1.2 (show (0 : Int) ≤ 0 by decide) (show (0 : Int) < 256 by decide) w2.1 w2.2 (show 20 < n by omega) (fun z => w3 z.1)]
theorem ou_CI {x y s : Int} {M N : KM} {L : Nat} {g : Int → Int → Int → Int} {b : Int → Int} (h : CI M L g b) (hs : hasS s x = false) (w1 : 0 ≤ x ∧ x < b 2) (w2 : 0 ≤ y ∧ y < b 0) (w3 : stOK b x y) (wa : awB b x s = -1) (e : Sc M N) : CI N L (ouG b g x s y) (ouB b x s y) ∧ Led b (ouB b x s y) x s y := by
  have h0 := h
  obtain ⟨hP, hL, hg, hb, hm, hC⟩ := h; have hp0 : M.2.2 0 10 = L := hP.1; have hl := Ptr_L hP; have hq := Ptr_P hP; have hh := hb.1; unfold WH at hh
  have hi : 0 ≤ b 2 ∧ b 2 ≤ 8 ∧ b 1 ≤ 12 := by omega
  clear hh
  have hT := ou_T (b := b) (p := x) (s := s) (to := y) hi.1 hi.2.1 w1.1 w1.2 hs
  have hN := CI_Sc h0 e
  have e0 : ouB b x s y 0 = b 0 := hT.1 0 (by omega)
  have e1 : ouB b x s y 1 = b 1 := hT.1 1 (by omega)
  have e2 : ouB b x s y 2 = b 2 := hT.1 2 (by omega)
  have e5 : ouB b x s y 5 = b 5 := hT.1 5 (by omega)
  refine ⟨CI_mk hN (Wr_Sc Sc_r) (HL_b hN.2.1 (fun z u v => hT.1 z (by omega)) hi.2.2) (out_GR hb hg w3 wa hs w2.1 w1.1 w1.2) ⟨?_, fun r u v => ?_, fun p u v => ?_, fun p r u v i j => ?_, fun p q u v i j => ?_, fun p u v => ?_⟩ (by rw [e5]; exact hm), hT⟩
  · have hW := hb.1
    unfold WH at hW ⊢
    rw [e0, e1, e2, e5, hT.1 3 (by omega), hT.1 4 (by omega), hT.1 6 (by omega), hT.1 7 (by omega), hT.1 8 (by omega), hT.1 9 (by omega)]
    exact hW
  · rw [e1] at v
    have := hb.2.1 r u v
    unfold WR at this ⊢
    rw [e0, hT.1 _ (by omega), hT.1 _ (by omega), hT.1 _ (by omega), hT.1 _ (by omega)]
    exact this
  · rw [e2] at v
    exact out_WP hb hT w3 w2.1 w2.2 w1.1 w1.2 u v
  · rw [hT.1 _ (by omega)]
    exact hb.2.2.2.1 p r u v i j
  · rw [hT.1 _ (by omega), hT.1 _ (by omega)]
    exact hb.2.2.2.2.1 p q u v i j
  · rw [e2] at v
    exact out_WL hb hT w3 wa w2.1 w1.1 w1.2 u v
theorem q_go_T {x y : Int} {M : KM} {L n : Nat} {g : Int → Int → Int → Int} {b : Int → Int} (h : CI M L g b) (hn : 100 ≤ n) (w1 : 0 ≤ x ∧ x < b 2) (w2 : 0 ≤ y ∧ y < b 0) (w3 : stOK b x y) : ∃ N, f_X11_go n 0 (zI x) (zI y) (ps M L g) = some (zI (b (34 + goR b x y)), ps N L (ouG b g x 0 y)) ∧ Sc M N ∧ CI N L (ouG b g x 0 y) (ouB b x 0 y) ∧ Led b (ouB b x 0 y) x 0 y := by
  have h0 := h
  obtain ⟨hP, hL, hg, hb, hm, hC⟩ := h; have hp0 : M.2.2 0 10 = L := hP.1; have hl := Ptr_L hP; have hq := Ptr_P hP; have hh := hb.1; unfold WH at hh
  have hi : 0 ≤ b 2 ∧ b 2 ≤ 8 ∧ b 0 ≤ 8 ∧ 0 ≤ b 0 ∧ b 1 ≤ 12 := by omega
  clear hh
  have hgr := go_r hb w3
  refine ⟨uI M 0 15 (zI 0), ?_, Sc_s, ou_CI h0 hs_0 w1 w2 w3 aw_0 Sc_s⟩
  unfold f_X11_go
  simp (disch := first | omega | assumption) only [↓lt, Option.bind_some, zl, ll, zadd, zsub, zmul, zneg, ladd, lsub, lmul, lneg, zltT, zltF, zleT, zleF, zeqT, zeqF, zidx, ixT, zwide, bIT, bIF, if_true, if_false, ↓reduceIte, Nat.reduceAdd, Int.reduceAdd, Int.reduceMul, Int.reduceSub, Int.reduceNeg, cs_c, cs_o, cs_2, cu_c, cu_o, Int.cast_ofNat_Int, ps_f, ps_g, ps_w, ps_o, ps_2, pu_f, pu_g, pu_w, pu_o, uI_s, uI_o, uI_j, uI_j1, uI_j2, uI_tw, or0, true_or, or_true, false_or, or_false, nar0, nar1, c_hasPlace hL, c_hasRoad hL, c_hasPerson hL, f_X11_tell, f_X11_refuse, f_X11_tellIf, f_X11_tellOrNone, f_X11_deny, f_X11_succeed, hp0, c_setOut_T hL hg hb w1.1 w1.2 (show (0 : Int) ≤ 0 by decide) (show (0 : Int) < 256 by decide) w2.1 w2.2 (show 20 < n by omega) w3 aw_0]
/-- a call after which the land is another, its places, roads, hours and minute the same -/
def Go (c : KM → Option (Int32 × KM)) (M : KM) (L : Nat) (g : Int → Int → Int → Int) (b : Int → Int) : Prop := ∃ r N g' b', c (ps M L g) = some (r, ps N L g') ∧ Sc M N ∧ CI N L g' b' ∧ (∀ z, ¬ (58 ≤ z ∧ z < 130) → b' z = b z)
theorem q_go {x y : Int} {M : KM} {L n : Nat} {g : Int → Int → Int → Int} {b : Int → Int} (h : CI M L g b) (hn : 100 ≤ n) (w1 : 0 ≤ x ∧ x < b 2) (w2 : 0 ≤ y ∧ y < b 0) : Go (f_X11_go n 0 (zI x) (zI y)) M L g b := by
  by_cases w3 : stOK b x y
  · obtain ⟨N, e, s, c, l⟩ := q_go_T h hn w1 w2 w3
    exact ⟨_, N, _, _, e, s, c, l.1⟩
  · obtain ⟨N, e, s⟩ := q_go_F h hn w1 w2 w3
    exact ⟨_, N, g, b, e, s, CI_Sc h s, fun _ _ => rfl⟩
theorem q_lead {x y z : Int} {M : KM} {L n : Nat} {g : Int → Int → Int → Int} {b : Int → Int} (h : CI M L g b) (hn : 100 ≤ n) (w1 : 0 ≤ x ∧ x < b 2) (w2 : 0 ≤ y ∧ y < b 0) (hz1 : -2147483648 ≤ z) (hz2 : z < 2147483648) : Go (f_X11_lead n 0 (zI x) (zI z) (zI y)) M L g b := by
  have h0 := h
  obtain ⟨hP, hL, hg, hb, hm, hC⟩ := h; have hp0 : M.2.2 0 10 = L := hP.1; have hl := Ptr_L hP; have hq := Ptr_P hP; have hh := hb.1; unfold WH at hh
  have hi : 0 ≤ b 2 ∧ b 2 ≤ 8 ∧ b 0 ≤ 8 ∧ 0 ≤ b 0 ∧ b 1 ≤ 12 ∧ 1 ≤ b 6 ∧ b 6 ≤ 9 := by omega
  clear hh
  have hp := p2_r (i := b 2) hi.1 (by omega)
  by_cases w0 : tmB b x z
  · have w0b := w0.2.1
    have w0c : hasS z x = false := by simpa using w0.2.2.1
    have hz0 : 0 ≤ z ∧ z < 256 := ⟨by have := w0.1; omega, by omega⟩
    have ht := c_isTeam (x := x) (z := z) (g := g) hL hb w1.1 w1.2 hz1 hz2
    rw [bIT w0] at ht
    by_cases w3 : stOK b x y ∧ awB b x z = -1
    · have hgr := go_r hb w3.1
      have hc := ou_CI (N := uI M 0 15 (zI 0)) h0 w0c w1 w2 w3.1 w3.2 Sc_s
      refine ⟨zI (b (34 + goR b x y)), uI M 0 15 (zI 0), _, _, ?_, Sc_s, hc.1, hc.2.1⟩
      have e := c_setOut_T (n := n) hL hg hb w1.1 w1.2 hz0.1 hz0.2 w2.1 w2.2 (show 20 < n by omega) w3.1 w3.2
      clear w0 w0b hp hc
      unfold f_X11_lead
      simp (disch := first | omega | assumption) only [↓lt, Option.bind_some, zl, ll, zadd, zsub, zmul, zneg, ladd, lsub, lmul, lneg, zltT, zltF, zleT, zleF, zeqT, zeqF, zidx, ixT, zwide, bIT, bIF, if_true, if_false, ↓reduceIte, Nat.reduceAdd, Int.reduceAdd, Int.reduceMul, Int.reduceSub, Int.reduceNeg, cs_c, cs_o, cs_2, cu_c, cu_o, Int.cast_ofNat_Int, ps_f, ps_g, ps_w, ps_o, ps_2, pu_f, pu_g, pu_w, pu_o, uI_s, uI_o, uI_j, uI_j1, uI_j2, uI_tw, or0, true_or, or_true, false_or, or_false, nar0, nar1, c_hasPlace hL, c_hasRoad hL, c_hasPerson hL, f_X11_tell, f_X11_refuse, f_X11_tellIf, f_X11_tellOrNone, f_X11_deny, f_X11_succeed, hp0, ht, e]
    · have e := c_setOut_F (n := n) hL hg hb w1.1 w1.2 hz0.1 hz0.2 w2.1 w2.2 (show 20 < n by omega) w3
      refine ⟨zI (-1), uI M 0 15 (zI 9), g, b, ?_, Sc_s, CI_Sc h0 Sc_s, fun _ _ => rfl⟩
      clear w0 w0b hp
      unfold f_X11_lead
      simp (disch := first | omega | assumption) only [↓lt, Option.bind_some, zl, ll, zadd, zsub, zmul, zneg, ladd, lsub, lmul, lneg, zltT, zltF, zleT, zleF, zeqT, zeqF, zidx, ixT, zwide, bIT, bIF, if_true, if_false, ↓reduceIte, Nat.reduceAdd, Int.reduceAdd, Int.reduceMul, Int.reduceSub, Int.reduceNeg, cs_c, cs_o, cs_2, cu_c, cu_o, Int.cast_ofNat_Int, ps_f, ps_g, ps_w, ps_o, ps_2, pu_f, pu_g, pu_w, pu_o, uI_s, uI_o, uI_j, uI_j1, uI_j2, uI_tw, or0, true_or, or_true, false_or, or_false, nar0, nar1, c_hasPlace hL, c_hasRoad hL, c_hasPerson hL, f_X11_tell, f_X11_refuse, f_X11_tellIf, f_X11_tellOrNone, f_X11_deny, f_X11_succeed, hp0, ht, e]
  · have ht := c_isTeam (x := x) (z := z) (g := g) hL hb w1.1 w1.2 hz1 hz2
    rw [bIF w0] at ht
    refine ⟨zI (-1), uI M 0 15 (zI 5), g, b, ?_, Sc_s, CI_Sc h0 Sc_s, fun _ _ => rfl⟩
    clear w0 hp
    unfold f_X11_lead
    simp (disch := first | omega | assumption) only [↓lt, Option.bind_some, zl, ll, zadd, zsub, zmul, zneg, ladd, lsub, lmul, lneg, zltT, zltF, zleT, zleF, zeqT, zeqF, zidx, ixT, zwide, bIT, bIF, if_true, if_false, ↓reduceIte, Nat.reduceAdd, Int.reduceAdd, Int.reduceMul, Int.reduceSub, Int.reduceNeg, cs_c, cs_o, cs_2, cu_c, cu_o, Int.cast_ofNat_Int, ps_f, ps_g, ps_w, ps_o, ps_2, pu_f, pu_g, pu_w, pu_o, uI_s, uI_o, uI_j, uI_j1, uI_j2, uI_tw, or0, true_or, or_true, false_or, or_false, nar0, nar1, c_hasPlace hL, c_hasRoad hL, c_hasPerson hL, f_X11_tell, f_X11_refuse, f_X11_tellIf, f_X11_tellOrNone, f_X11_deny, f_X11_succeed, hp0, ht]
theorem q_cloud {p : Int} {M : KM} {L n : Nat} {g : Int → Int → Int → Int} {b : Int → Int} (h : CI M L g b) (hn : 100 ≤ n) (hp : p = 0 ∨ p = 1) : ∃ r N b', f_X11_cloud n 0 (zI p) (ps M L g) = some (r, ps N L g) ∧ Wr L M N ∧ CI N L g b' ∧ (∀ z, ¬ z = 9 → b' z = b z) := by
  have h0 := h
  obtain ⟨hP, hL, hg, hb, hm, hC⟩ := h; have hp0 : M.2.2 0 10 = L := hP.1; have hl := Ptr_L hP; have hq := Ptr_P hP; have hh := hb.1; unfold WH at hh
  have hL2 := hL
  obtain ⟨q0, q1, q2, q5, q6, q7, q8, q9, q3, q4, qd, qa, qb, qc, qs⟩ := hL
  by_cases w : b 9 = p
  · refine ⟨zI 0, uI M 0 15 (zI 9), b, ?_, Wr_Sc Sc_s, CI_Sc h0 Sc_s, fun _ _ => rfl⟩
    unfold f_X11_cloud
    simp (disch := first | omega | assumption) only [lt, Option.bind_some, zl, ll, zadd, zsub, zmul, zneg, ladd, lsub, lmul, lneg, zltT, zltF, zleT, zleF, zeqT, zeqF, zidx, ixT, zwide, bIT, bIF, if_true, if_false, ↓reduceIte, Nat.reduceAdd, Int.reduceAdd, Int.reduceMul, Int.reduceSub, Int.reduceNeg, cs_c, cs_o, cs_2, cu_c, cu_o, Int.cast_ofNat_Int, ps_f, ps_g, ps_w, ps_o, ps_2, pu_f, pu_g, pu_w, pu_o, uI_s, uI_o, uI_j, uI_j1, uI_j2, uI_tw, or0, true_or, or_true, false_or, or_false, nar0, nar1, f_X11_tell, f_X11_refuse, f_X11_tellIf, f_X11_tellOrNone, f_X11_deny, f_X11_succeed, hp0, q0, q1, q2, q5, q6, q7, q8, q9, q3, q4, qd, qa, qb, qc, qs]
  · have hw : Wr L M (uI (uI M L 15 (zI p)) 0 15 (zI 0)) := ⟨rfl, fun a k u v w => by rw [uI_o u, uI_o (by omega)]⟩
    refine ⟨zI 1, uI (uI M L 15 (zI p)) 0 15 (zI 0), bu b 9 p, ?_, hw, CI_mk h0 hw ?_ ?_ ?_ ?_, fun z u => bu_o u⟩
    · unfold f_X11_cloud
      rcases hp with rfl | rfl
      · simp (disch := first | omega | assumption) only [lt, Option.bind_some, zl, ll, zadd, zsub, zmul, zneg, ladd, lsub, lmul, lneg, zltT, zltF, zleT, zleF, zeqT, zeqF, zidx, ixT, zwide, bIT, bIF, if_true, if_false, ↓reduceIte, Nat.reduceAdd, Int.reduceAdd, Int.reduceMul, Int.reduceSub, Int.reduceNeg, cs_c, cs_o, cs_2, cu_c, cu_o, Int.cast_ofNat_Int, ps_f, ps_g, ps_w, ps_o, ps_2, pu_f, pu_g, pu_w, pu_o, uI_s, uI_o, uI_j, uI_j1, uI_j2, uI_tw, or0, true_or, or_true, false_or, or_false, nar0, nar1, f_X11_tell, f_X11_refuse, f_X11_tellIf, f_X11_tellOrNone, f_X11_deny, f_X11_succeed, hp0, q0, q1, q2, q5, q6, q7, q8, q9, q3, q4, qd, qa, qb, qc, qs]
      · simp (disch := first | omega | assumption) only [lt, Option.bind_some, zl, ll, zadd, zsub, zmul, zneg, ladd, lsub, lmul, lneg, zltT, zltF, zleT, zleF, zeqT, zeqF, zidx, ixT, zwide, bIT, bIF, if_true, if_false, ↓reduceIte, Nat.reduceAdd, Int.reduceAdd, Int.reduceMul, Int.reduceSub, Int.reduceNeg, cs_c, cs_o, cs_2, cu_c, cu_o, Int.cast_ofNat_Int, ps_f, ps_g, ps_w, ps_o, ps_2, pu_f, pu_g, pu_w, pu_o, uI_s, uI_o, uI_j, uI_j1, uI_j2, uI_tw, or0, true_or, or_true, false_or, or_false, nar0, nar1, f_X11_tell, f_X11_refuse, f_X11_tellIf, f_X11_tellOrNone, f_X11_deny, f_X11_succeed, hp0, q0, q1, q2, q5, q6, q7, q8, q9, q3, q4, qd, qa, qb, qc, qs]
    · exact HL_c hL2 (fun a k x y z => by rw [uI_o (by omega), uI_o z]) (by rw [uI_o (by omega), uI_s])
    · exact GR_p hg (bu_o (by omega)) (bu_o (by omega)) (fun z x y => bu_o (by omega)) hb
    · refine WB_h hb ?_ (bu_o (by omega)) (bu_o (by omega)) (bu_o (by omega)) (fun z x y => bu_o (by omega)) (fun r x y => Or.inr (bu_o (by omega))) (fun z x y => bu_o (by omega)) (by rw [bu_o (by omega)]; omega)
      unfold WH
      simp (disch := first | omega | assumption) only [bu_s, bu_o]
      omega
    · rw [bu_o (by omega)]; exact hm
/-- a road that doesn't smell is planted -/
theorem q_plant {x : Int} {M : KM} {L n : Nat} {g : Int → Int → Int → Int} {b : Int → Int} (h : CI M L g b) (hn : 100 ≤ n) (w1 : 0 ≤ x ∧ x < b 1) (w : b (46 + x) = 0) : ∃ N, f_X11_plant n 0 (zI x) (1 : Int32) (ps M L g) = some (zI 1, ps N L g) ∧ Wr L M N ∧ CI N L g (bu b (46 + x) 1) := by
  have h0 := h
  obtain ⟨hP, hL, hg, hb, hm, hC⟩ := h; have hp0 : M.2.2 0 10 = L := hP.1; have hl := Ptr_L hP; have hq := Ptr_P hP; have hh := hb.1; unfold WH at hh
  have hL2 := hL
  have hc := c_hasRoad (g := g) (p := x) hL (by omega) (by omega) (by omega) (by omega)
  rw [bIT w1] at hc
  have e1 := hb.2.1 x w1.1 w1.2
  unfold WR at e1
  have hw : Wr L M (uI (uI M (L + 5) x.toNat (zI 1)) 0 15 (zI 0)) := ⟨rfl, fun a k u v w => by rw [uI_o u, uI_o (by omega)]⟩
  refine ⟨uI (uI M (L + 5) x.toNat (zI 1)) 0 15 (zI 0), ?_, hw, CI_mk h0 hw ?_ ?_ ?_ ?_⟩
  · obtain ⟨q0, q1, q2, q5, q6, q7, q8, q9, q3, q4, qd, qa, qb, qc, qs⟩ := hL
    have e5 := qs x w1.1 w1.2
    rw [w] at e5
    unfold f_X11_plant
    simp (disch := first | omega | assumption) only [lt, Option.bind_some, zl, ll, zadd, zsub, zmul, zneg, ladd, lsub, lmul, lneg, zltT, zltF, zleT, zleF, zeqT, zeqF, zidx, ixT, zwide, bIT, bIF, if_true, if_false, ↓reduceIte, Nat.reduceAdd, Int.reduceAdd, Int.reduceMul, Int.reduceSub, Int.reduceNeg, cs_c, cs_o, cs_2, cu_c, cu_o, Int.cast_ofNat_Int, ps_f, ps_g, ps_w, ps_o, ps_2, pu_f, pu_g, pu_w, pu_o, uI_s, uI_o, uI_j, uI_j1, uI_j2, uI_tw, or0, true_or, or_true, false_or, or_false, nar0, nar1, hc, f_X11_tell, f_X11_refuse, f_X11_tellIf, f_X11_tellOrNone, f_X11_deny, f_X11_succeed, hp0, e5]
  · exact HL_s hL2 (fun a k x y z => by rw [uI_o (by omega), uI_o z]) w1.1 (by omega) (by rw [uI_o (by omega), uI_s])
  · exact GR_p hg (bu_o (by omega)) (bu_o (by omega)) (fun z x y => bu_o (by omega)) hb
  · refine WB_h hb ?_ (bu_o (by omega)) (bu_o (by omega)) (bu_o (by omega)) (fun z x y => bu_o (by omega)) (fun r u v => ?_) (fun z x y => bu_o (by omega)) (by rw [bu_o (by omega)]; omega)
    · unfold WH
      simp (disch := first | omega | assumption) only [bu_s, bu_o]
      omega
    · by_cases q : r = x
      · left; rw [q, bu_s]; omega
      · right; exact bu_o (by omega)
  · rw [bu_o (by omega)]; exact hm
theorem q_passes {x : Int} {M : KM} {L n : Nat} {g : Int → Int → Int → Int} {b : Int → Int} (h : CI M L g b) (hn : 300 ≤ n) (w : 1 ≤ x ∧ x ≤ 999) (w2 : b 5 + x ≤ 99999) : ∃ N, f_X11_passes n 0 (zI x) (ps M L g) = some (aS b x, ps N L (gC g b x (AG b) (AG b))) ∧ Wr L M N ∧ CI N L (gC g b x (AG b) (AG b)) (cI b x) := by
  have h0 := h
  obtain ⟨hP, hL, hg, hb, hm, hC⟩ := h; have hp0 : M.2.2 0 10 = L := hP.1; have hl := Ptr_L hP; have hq := Ptr_P hP; have hh := hb.1; unfold WH at hh
  have i5 : 0 ≤ b 5 := by omega
  clear hh
  have q5 : M.1 L 11 = zI (b 5) := hL.2.2.2.1
  have e := c_passMinutes (n := n) hL hg hb w2 w.1 w.2 (by omega)
  have en := aS_ne (b := b) (N := x)
  have hw : Wr L M (uI (uI M L 11 (zI (b 5 + x))) 0 15 (zI 0)) := ⟨rfl, fun a k u v w => by rw [uI_o u, uI_o (by omega)]⟩
  refine ⟨uI (uI M L 11 (zI (b 5 + x))) 0 15 (zI 0), ?_, hw, CI_mk h0 hw (HL_cI hb hL hl.1) (GR_c hg hb) (WB_cI' hb (by omega) (by omega)) ?_⟩
  · unfold f_X11_passes
    simp (disch := first | omega | assumption) only [↓lt, Option.bind_some, zl, zltF, zleT, if_false, if_true, ps_2, hp0, e, en, f_X11_tell, pu_o]
  · rw [cI_5]; exact w2
theorem q_lostIn {x : Int} {M : KM} {L n : Nat} {g : Int → Int → Int → Int} {b : Int → Int} (h : CI M L g b) (hn : 100 ≤ n) (w : 0 ≤ x ∧ x ≤ 999) : Ro (f_X11_lostIn n 0 (zI x)) M L g (zI (lT b x)) := by
  obtain ⟨hP, hL, hg, hb, hm, hC⟩ := h; have hp0 : M.2.2 0 10 = L := hP.1; have hl := Ptr_L hP; have hq := Ptr_P hP; have hh := hb.1; unfold WH at hh
  have i3 : 0 ≤ b 3 ∧ b 3 ≤ 23 ∧ b 3 < b 4 ∧ b 4 ≤ 24 := by omega
  clear hh
  have e := c_lostWithin (n := n) (N := x) hL hg hb (HL_H hL) i3.1 i3.2.1 i3.2.2.1 i3.2.2.2 w.1 (by omega) (by omega)
  rw [hB_id] at e
  refine ro_s (s := zI 0) ?_
  unfold f_X11_lostIn
  simp (disch := first | omega | assumption) only [↓lt, Option.bind_some, zl, ll, zadd, zsub, zmul, zneg, ladd, lsub, lmul, lneg, zltT, zltF, zleT, zleF, zeqT, zeqF, zidx, ixT, zwide, bIT, bIF, if_true, if_false, ↓reduceIte, Nat.reduceAdd, Int.reduceAdd, Int.reduceMul, Int.reduceSub, Int.reduceNeg, cs_c, cs_o, cs_2, cu_c, cu_o, Int.cast_ofNat_Int, ps_f, ps_g, ps_w, ps_o, ps_2, pu_f, pu_g, pu_w, pu_o, uI_s, uI_o, uI_j, uI_j1, uI_j2, uI_tw, or0, true_or, or_true, false_or, or_false, nar0, nar1, f_X11_tell, f_X11_refuse, f_X11_tellIf, f_X11_tellOrNone, f_X11_deny, f_X11_succeed, hp0, e]
theorem q_lostBy {x f t : Int} {M : KM} {L n : Nat} {g : Int → Int → Int → Int} {b : Int → Int} (h : CI M L g b) (hn : 100 ≤ n) (w : 0 ≤ x ∧ x ≤ 999) (i3 : 0 ≤ f ∧ f ≤ 23 ∧ f < t ∧ t ≤ 24) : Ro (f_X11_lostBy n 0 (zI x) (zI f) (zI t)) M L g (zI (lT (hB b f t) x)) := by
  obtain ⟨hP, hL, hg, hb, hm, hC⟩ := h; have hp0 : M.2.2 0 10 = L := hP.1; have hl := Ptr_L hP; have hq := Ptr_P hP; have hh := hb.1; unfold WH at hh
  clear hh
  have hcs : ∀ N : KM, (∀ k, N.1 232 k = M.1 232 k) → cs N (rw2 M) = N := fun N k => cs_rw k
  have e1 := c_set (f := f) (t := t) (M := M) (dd := rw2 M) (g := g) hl.1
  rw [hcs M (fun _ => rfl), hcs (s22 M f t) (fun k => s22_o (by omega))] at e1
  have e := c_lostWithin (n := n) (N := x) (s22_L hl (HL_rw hl hL)) hg hb (s22_H (f := f) (t := t) hl.1) i3.1 i3.2.1 i3.2.2.1 i3.2.2.2 w.1 (by omega) (by omega)
  rw [hcs (s22 M f t) (fun k => s22_o (by omega))] at e
  refine ⟨uI (s22 M f t) 0 15 (zI 0), ?_, Sc_s2 Sc_22⟩
  have hp1 : (s22 M f t).2.2 0 10 = L := hp0
  unfold f_X11_lostBy
  rw [c_canBe3 (by omega) (by omega) (by omega) (by omega), bIT i3, e1]
  simp (disch := first | omega | assumption) only [↓lt, Option.bind_some, zl, zltF, zleT, zeqF, if_false, if_true, ps_2, hp1, e, f_X11_tell, pu_o]
/-- the best hours -/
def bfR (b : Int → Int) (x : Int) : Int := (fI (bf b x (b 4 - b 3)) 24 0 (0, 1000000000)).1
theorem bf_min {b : Int → Int} {N c : Int} : ∀ (k : Nat) (i : Int) (w : Int × Int), (w.2 = vB b N c w.1 ∧ 0 ≤ w.1 ∧ w.1 < i) → ((fI (bf b N c) k i w).2 = vB b N c (fI (bf b N c) k i w).1 ∧ 0 ≤ (fI (bf b N c) k i w).1 ∧ (fI (bf b N c) k i w).1 < i + k) ∧ (fI (bf b N c) k i w).2 ≤ w.2 ∧ ∀ j, i ≤ j → j < i + k → (fI (bf b N c) k i w).2 ≤ vB b N c j := by
  intro k
  induction k with
  | zero => intro i w h; exact ⟨⟨h.1, h.2.1, by show w.1 < i + 0; omega⟩, Int.le_refl _, fun j h1 h2 => absurd h1 (by omega)⟩
  | succ k ih =>
    intro i w h
    have e : fI (bf b N c) (k + 1) i w = fI (bf b N c) k (i + 1) (bf b N c i w) := rfl
    rw [e]
    have hb : ((bf b N c i w).2 = vB b N c (bf b N c i w).1 ∧ 0 ≤ (bf b N c i w).1 ∧ (bf b N c i w).1 < i + 1) ∧ (bf b N c i w).2 ≤ w.2 ∧ (bf b N c i w).2 ≤ vB b N c i := by
      unfold bf
      by_cases q : w.2 ≤ vB b N c i
      · rw [if_pos q]; exact ⟨⟨h.1, h.2.1, by omega⟩, Int.le_refl _, q⟩
      · rw [if_neg q]; exact ⟨⟨rfl, by dsimp only; omega, by dsimp only; omega⟩, by dsimp only; omega, Int.le_refl _⟩
    obtain ⟨⟨a1, a2, a3⟩, a4, a5⟩ := ih (i + 1) (bf b N c i w) hb.1
    refine ⟨⟨a1, a2, by omega⟩, by omega, fun j h1 h2 => ?_⟩
    by_cases q : j = i
    · rw [q]; omega
    · exact a5 j (by omega) (by omega)
theorem bfR_r {b : Int → Int} {x : Int} (hb : WB b) (w : 0 ≤ x ∧ x ≤ 999) : 0 ≤ bfR b x ∧ bfR b x ≤ 23 ∧ lT (hB b (bfR b x) (mT (bfR b x) (b 4 - b 3))) x ≤ lT b x := by
  have hh := hb.1
  unfold WH at hh
  have i3 : 0 ≤ b 3 ∧ b 3 ≤ 23 ∧ b 3 < b 4 ∧ b 4 ≤ 24 := by omega
  clear hh
  have ev := vB_r (i := 0) (c := b 4 - b 3) hb w.1 w.2 (by omega) (by omega) (by omega)
  have e0 : fI (bf b x (b 4 - b 3)) 24 0 (0, 1000000000) = fI (bf b x (b 4 - b 3)) 23 1 (0, vB b x (b 4 - b 3) 0) := by
    show fI (bf b x (b 4 - b 3)) 23 (0 + 1) (bf b x (b 4 - b 3) 0 (0, 1000000000)) = _
    congr 1
    unfold bf
    rw [if_neg (by dsimp only; omega)]
  have hm := bf_min (b := b) (N := x) (c := b 4 - b 3) 23 1 (0, vB b x (b 4 - b 3) 0) ⟨rfl, by dsimp only; omega, by dsimp only; omega⟩
  unfold bfR
  rw [e0]
  obtain ⟨⟨a1, a2, a3⟩, a4, a5⟩ := hm
  refine ⟨a2, by omega, ?_⟩
  have e3 : vB b x (b 4 - b 3) (b 3) = lT b x := by
    unfold vB mT
    rw [show b 3 + (b 4 - b 3) = b 4 by omega]
    have : (if b 4 < 24 then b 4 else 24) = b 4 := by
      by_cases q : b 4 < 24
      · rw [if_pos q]
      · rw [if_neg q]; omega
    rw [this, hB_id]
  have e4 : (fI (bf b x (b 4 - b 3)) 23 1 (0, vB b x (b 4 - b 3) 0)).2 ≤ vB b x (b 4 - b 3) (b 3) := by
    by_cases q : b 3 = 0
    · rw [q]
      rw [q] at a4
      exact a4
    · exact a5 (b 3) (by omega) (by omega)
  rw [e3, a1] at e4
  exact e4
theorem q_bestFrom {x : Int} {M : KM} {L n : Nat} {g : Int → Int → Int → Int} {b : Int → Int} (h : CI M L g b) (hn : 100 ≤ n) (w : 0 ≤ x ∧ x ≤ 999) : Ro (f_X11_bestFrom n 0 (zI x)) M L g (zI (bfR b x)) := by
  obtain ⟨hP, hL, hg, hb, hm, hC⟩ := h; have hp0 : M.2.2 0 10 = L := hP.1; have hl := Ptr_L hP; have hq := Ptr_P hP; have hh := hb.1; unfold WH at hh
  have hL2 := hL
  obtain ⟨-, -, -, -, -, -, -, -, q3, q4, -, -, -, -, -⟩ := hL
  have i3 : 0 ≤ b 3 ∧ b 3 ≤ 23 ∧ b 3 < b 4 ∧ b 4 ≤ 24 := by omega
  clear hh
  have hcs : ∀ N : KM, (∀ k, N.1 232 k = M.1 232 k) → cs N (rw2 M) = N := fun N k => cs_rw k
  obtain ⟨FF, hFF⟩ : ∃ F : Int, F = 1000000000 := ⟨_, rfl⟩
  have hc1 := c_bestL (N := x) (c := b 4 - b 3) (κ := fun (u14 : Int32) (M15 : KM) => some ((f_X11_tell 0 u14 M15).1, (f_X11_tell 0 u14 M15).2)) hg hb hl w.1 w.2 (by omega) (by omega) 24 0 n (0, FF) M (by omega) (by omega) (by omega) (HL_rw hl hL2) hp0 ⟨by dsimp only; omega, by dsimp only; omega, by dsimp only; omega, by dsimp only; omega⟩
  obtain ⟨M', e1, e2, e3⟩ := hc1
  rw [hcs M (fun _ => rfl), hcs M' (fun k => e3 _ _ (by omega))] at e1
  dsimp only at e1
  rw [hFF] at e1
  refine ⟨uI M' 0 15 (zI 0), ?_, Sc_s2 ⟨e2, fun a k u v => e3 a k (by omega)⟩⟩
  unfold bfR
  generalize (fI (bf b x (b 4 - b 3)) 24 0 (0, 1000000000)).1 = R at *
  unfold f_X11_bestFrom
  simp (disch := first | omega | assumption) only [↓lt, Option.bind_some, zl, ll, zadd, zsub, zmul, zneg, ladd, lsub, lmul, lneg, zltT, zltF, zleT, zleF, zeqT, zeqF, zidx, ixT, zwide, bIT, bIF, if_true, if_false, ↓reduceIte, Nat.reduceAdd, Int.reduceAdd, Int.reduceMul, Int.reduceSub, Int.reduceNeg, cs_c, cs_o, cs_2, cu_c, cu_o, Int.cast_ofNat_Int, ps_f, ps_g, ps_w, ps_o, ps_2, pu_f, pu_g, pu_w, pu_o, uI_s, uI_o, uI_j, uI_j1, uI_j2, uI_tw, or0, true_or, or_true, false_or, or_false, nar0, nar1, hp0, q3, q4]
  rw [e1]
  simp (disch := first | omega | assumption) only [↓lt, Option.bind_some, zl, ll, zadd, zsub, zmul, zneg, ladd, lsub, lmul, lneg, zltT, zltF, zleT, zleF, zeqT, zeqF, zidx, ixT, zwide, bIT, bIF, if_true, if_false, ↓reduceIte, Nat.reduceAdd, Int.reduceAdd, Int.reduceMul, Int.reduceSub, Int.reduceNeg, cs_c, cs_o, cs_2, cu_c, cu_o, Int.cast_ofNat_Int, ps_f, ps_g, ps_w, ps_o, ps_2, pu_f, pu_g, pu_w, pu_o, uI_s, uI_o, uI_j, uI_j1, uI_j2, uI_tw, or0, true_or, or_true, false_or, or_false, nar0, nar1, f_X11_tell, f_X11_refuse, f_X11_tellIf, f_X11_tellOrNone, f_X11_deny, f_X11_succeed, hp0]
