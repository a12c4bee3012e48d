/-! ===== the class between the calls, by itself ===== -/
/-- only the rows that calls use for themselves, and the status -/
def Sc (M N : KM) : Prop := N.2 = M.2 ∧ ∀ a k, ¬ (a = 0 ∧ k = 15) → ¬ (14 ≤ a ∧ a ≤ 22) → N.1 a k = M.1 a k
theorem Sc_r {M : KM} : Sc M M := ⟨rfl, fun _ _ _ _ => rfl⟩
theorem Sc_t {M N K : KM} (h : Sc M N) (g : Sc N K) : Sc M K := ⟨g.1.trans h.1, fun a k u v => (g.2 a k u v).trans (h.2 a k u v)⟩
theorem Sc_s {M : KM} {s : Int32} : Sc M (uI M 0 15 s) := ⟨rfl, fun a k u _ => uI_o u⟩
theorem Sc_s2 {M N : KM} {s : Int32} (h : Sc M N) : Sc M (uI N 0 15 s) := Sc_t h Sc_s
theorem Sc_22 {M : KM} {f t : Int} : Sc M (s22 M f t) := ⟨rfl, fun a k _ v => s22_o (by omega)⟩
theorem Sc_rs {M : KM} {a : Nat} {T : Int → Int} (h : 14 ≤ a ∧ a ≤ 22) : Sc M (rs M a T) := ⟨rfl, fun c k _ v => rs_o (by omega)⟩
/-- the land at L is b, its people g -/
def CI (M : KM) (L : Nat) (g : Int → Int → Int → Int) (b : Int → Int) : Prop := Ptr M L ∧ HL M L b ∧ GR g b ∧ WB b ∧ b 5 ≤ 99999 ∧ (M.1 (M.2.2 L 7) 7 = zI 0 ∨ M.1 (M.2.2 L 7) 7 = zI 1)
theorem CI_Sc {M N : KM} {L : Nat} {g : Int → Int → Int → Int} {b : Int → Int} (h : CI M L g b) (s : Sc M N) : CI N L g b := by
  obtain ⟨hP, hL, hg, hb, hm, hC⟩ := h
  have hl := Ptr_L hP
  have hq := Ptr_P hP
  refine ⟨?_, HL_of (fun a k x y => s.2 a k (by omega) (by omega)) hL, hg, hb, hm, ?_⟩
  · unfold Ptr; rw [s.1]; exact hP
  · rw [s.1, s.2 _ _ (by omega) (by omega)]; exact hC
/-- a call that changes nothing that lasts -/
def Ro (c : KM → Option (Int32 × KM)) (M : KM) (L : Nat) (g : Int → Int → Int → Int) (r : Int32) : Prop := ∃ N, c (ps M L g) = some (r, ps N L g) ∧ Sc M N
theorem ro_s {c : KM → Option (Int32 × KM)} {M : KM} {L : Nat} {g : Int → Int → Int → Int} {r s : Int32} (h : c (ps M L g) = some (r, ps (uI M 0 15 s) L g)) : Ro c M L g r := ⟨_, h, Sc_s⟩
/-- over any row 232 -/
def rw2 (M : KM) : Int → Int := fun z => (M.1 232 z.toNat).toInt
theorem cs_rw {M N : KM} (h : ∀ k, N.1 232 k = M.1 232 k) : cs N (rw2 M) = N := by
  refine Prod.ext ?_ rfl
  funext a k
  simp only [cs, rw2]
  by_cases w : a = 232
  · rw [if_pos w, w, Int.toNat_natCast, ← z_of, h]
  · rw [if_neg w]
theorem HL_rw {M : KM} {L : Nat} {b : Int → Int} (hl : 23 ≤ L ∧ L ≤ 61) (h : HL M L b) : HL (cs M (rw2 M)) L b := (HL_cs hl.2).mpr h
theorem q_many {x : Int} {M : KM} {L n : Nat} {g : Int → Int → Int → Int} {b : Int → Int} (h : CI M L g b) (hn : 100 ≤ n) :
    Ro (f_X11_many n 0 (3 : Int32)) M L g (zI (b 3)) ∧ Ro (f_X11_many n 0 (4 : Int32)) M L g (zI (b 4)) ∧ Ro (f_X11_many n 0 (9 : Int32)) M L g (bI (glB b (b 5))) ∧
    Ro (f_X11_many n 0 (11 : Int32)) M L g (setB (fun q => decide (b (106 + q) = 1)) (b 2)) ∧ Ro (f_X11_many n 0 (12 : Int32)) M L g (setB (fun q => decide (0 ≤ b (66 + q))) (b 2)) ∧
    Ro (f_X11_many n 0 (13 : Int32)) M L g (setB (fun q => decide (0 ≤ b (82 + q))) (b 2)) ∧ Ro (f_X11_many n 0 (14 : Int32)) M L g (zI (sumB (fun q => b (90 + q)) (b 2))) := by
  obtain ⟨hP, hL, hg, hb, hm, hC⟩ := h; have hp0 : M.2.2 0 10 = L := hP.1; have hl := Ptr_L hP; have hh := hb.1; unfold WH at hh
  refine ⟨ro_s (s := zI 0) ?_, ro_s (s := zI 0) ?_, ro_s (s := zI 0) ?_, ro_s (s := zI 0) ?_, ro_s (s := zI 0) ?_, ro_s (s := zI 0) ?_, ro_s (s := zI 0) ?_⟩
  · obtain ⟨q0, q1, q2, q5, q6, q7, q8, q9, q3, q4, qd, qa, qb, qc, qs⟩ := hL
    unfold f_X11_many
    simp (disch := first | omega | assumption) only [lt, Option.bind_some, zl, ll, zadd, zsub, zmul, zneg, ladd, lsub, lmul, lneg, zltT, zltF, zleT, zleF, zeqT, zeqF, zidx, ixT, zwide, bIT, bIF, if_true, if_false, ↓reduceIte, Nat.reduceAdd, Int.reduceAdd, Int.reduceMul, Int.reduceSub, Int.reduceNeg, cs_c, cs_o, cs_2, cu_c, cu_o, Int.cast_ofNat_Int, ps_f, ps_g, ps_w, ps_o, ps_2, pu_f, pu_g, pu_w, pu_o, uI_s, uI_o, uI_j, uI_j1, uI_j2, uI_tw, or0, true_or, or_true, false_or, or_false, nar0, nar1, f_X11_tell, f_X11_refuse, f_X11_tellIf, f_X11_tellOrNone, f_X11_deny, f_X11_succeed, hp0, q0, q1, q2, q5, q6, q7, q8, q9, q3, q4, qd, qa, qb, qc, qs]
  · obtain ⟨q0, q1, q2, q5, q6, q7, q8, q9, q3, q4, qd, qa, qb, qc, qs⟩ := hL
    unfold f_X11_many
    simp (disch := first | omega | assumption) only [lt, Option.bind_some, zl, ll, zadd, zsub, zmul, zneg, ladd, lsub, lmul, lneg, zltT, zltF, zleT, zleF, zeqT, zeqF, zidx, ixT, zwide, bIT, bIF, if_true, if_false, ↓reduceIte, Nat.reduceAdd, Int.reduceAdd, Int.reduceMul, Int.reduceSub, Int.reduceNeg, cs_c, cs_o, cs_2, cu_c, cu_o, Int.cast_ofNat_Int, ps_f, ps_g, ps_w, ps_o, ps_2, pu_f, pu_g, pu_w, pu_o, uI_s, uI_o, uI_j, uI_j1, uI_j2, uI_tw, or0, true_or, or_true, false_or, or_false, nar0, nar1, f_X11_tell, f_X11_refuse, f_X11_tellIf, f_X11_tellOrNone, f_X11_deny, f_X11_succeed, hp0, q0, q1, q2, q5, q6, q7, q8, q9, q3, q4, qd, qa, qb, qc, qs]
  · unfold f_X11_many
    have e := c_isGlaring (n := n) (g := g) hL hb.1 (t := b 5) (by omega) (by omega)
    obtain ⟨q0, q1, q2, q5, q6, q7, q8, q9, q3, q4, qd, qa, qb, qc, qs⟩ := hL
    simp (disch := first | omega | assumption) only [lt, Option.bind_some, zl, ll, zadd, zsub, zmul, zneg, ladd, lsub, lmul, lneg, zltT, zltF, zleT, zleF, zeqT, zeqF, zidx, ixT, zwide, bIT, bIF, if_true, if_false, ↓reduceIte, Nat.reduceAdd, Int.reduceAdd, Int.reduceMul, Int.reduceSub, Int.reduceNeg, cs_c, cs_o, cs_2, cu_c, cu_o, Int.cast_ofNat_Int, ps_f, ps_g, ps_w, ps_o, ps_2, pu_f, pu_g, pu_w, pu_o, uI_s, uI_o, uI_j, uI_j1, uI_j2, uI_tw, or0, true_or, or_true, false_or, or_false, nar0, nar1, q0, q1, q2, q5, q6, q7, q8, q9, q3, q4, qd, qa, qb, qc, qs, f_X11_tell, f_X11_refuse, f_X11_tellIf, f_X11_tellOrNone, f_X11_deny, f_X11_succeed, hp0, e]
    by_cases w2 : glB b (b 5)
    · simp (disch := first | omega | assumption) only [lt, Option.bind_some, zl, ll, zadd, zsub, zmul, zneg, ladd, lsub, lmul, lneg, zltT, zltF, zleT, zleF, zeqT, zeqF, zidx, ixT, zwide, bIT, bIF, if_true, if_false, ↓reduceIte, Nat.reduceAdd, Int.reduceAdd, Int.reduceMul, Int.reduceSub, Int.reduceNeg, cs_c, cs_o, cs_2, cu_c, cu_o, Int.cast_ofNat_Int, ps_f, ps_g, ps_w, ps_o, ps_2, pu_f, pu_g, pu_w, pu_o, uI_s, uI_o, uI_j, uI_j1, uI_j2, uI_tw, or0, true_or, or_true, false_or, or_false, nar0, nar1]
    · simp (disch := first | omega | assumption) only [lt, Option.bind_some, zl, ll, zadd, zsub, zmul, zneg, ladd, lsub, lmul, lneg, zltT, zltF, zleT, zleF, zeqT, zeqF, zidx, ixT, zwide, bIT, bIF, if_true, if_false, ↓reduceIte, Nat.reduceAdd, Int.reduceAdd, Int.reduceMul, Int.reduceSub, Int.reduceNeg, cs_c, cs_o, cs_2, cu_c, cu_o, Int.cast_ofNat_Int, ps_f, ps_g, ps_w, ps_o, ps_2, pu_f, pu_g, pu_w, pu_o, uI_s, uI_o, uI_j, uI_j1, uI_j2, uI_tw, or0, true_or, or_true, false_or, or_false, nar0, nar1]
  · unfold f_X11_many
    simp (disch := first | omega | assumption) only [lt, Option.bind_some, zl, ll, zadd, zsub, zmul, zneg, ladd, lsub, lmul, lneg, zltT, zltF, zleT, zleF, zeqT, zeqF, zidx, ixT, zwide, bIT, bIF, if_true, if_false, ↓reduceIte, Nat.reduceAdd, Int.reduceAdd, Int.reduceMul, Int.reduceSub, Int.reduceNeg, cs_c, cs_o, cs_2, cu_c, cu_o, Int.cast_ofNat_Int, ps_f, ps_g, ps_w, ps_o, ps_2, pu_f, pu_g, pu_w, pu_o, uI_s, uI_o, uI_j, uI_j1, uI_j2, uI_tw, or0, true_or, or_true, false_or, or_false, nar0, nar1, f_X11_tell, f_X11_refuse, f_X11_tellIf, f_X11_tellOrNone, f_X11_deny, f_X11_succeed, hp0, c_blindSet hL hg hb]
  · unfold f_X11_many
    simp (disch := first | omega | assumption) only [lt, Option.bind_some, zl, ll, zadd, zsub, zmul, zneg, ladd, lsub, lmul, lneg, zltT, zltF, zleT, zleF, zeqT, zeqF, zidx, ixT, zwide, bIT, bIF, if_true, if_false, ↓reduceIte, Nat.reduceAdd, Int.reduceAdd, Int.reduceMul, Int.reduceSub, Int.reduceNeg, cs_c, cs_o, cs_2, cu_c, cu_o, Int.cast_ofNat_Int, ps_f, ps_g, ps_w, ps_o, ps_2, pu_f, pu_g, pu_w, pu_o, uI_s, uI_o, uI_j, uI_j1, uI_j2, uI_tw, or0, true_or, or_true, false_or, or_false, nar0, nar1, f_X11_tell, f_X11_refuse, f_X11_tellIf, f_X11_tellOrNone, f_X11_deny, f_X11_succeed, hp0, c_walkingSet hL hg hb]
  · unfold f_X11_many
    simp (disch := first | omega | assumption) only [lt, Option.bind_some, zl, ll, zadd, zsub, zmul, zneg, ladd, lsub, lmul, lneg, zltT, zltF, zleT, zleF, zeqT, zeqF, zidx, ixT, zwide, bIT, bIF, if_true, if_false, ↓reduceIte, Nat.reduceAdd, Int.reduceAdd, Int.reduceMul, Int.reduceSub, Int.reduceNeg, cs_c, cs_o, cs_2, cu_c, cu_o, Int.cast_ofNat_Int, ps_f, ps_g, ps_w, ps_o, ps_2, pu_f, pu_g, pu_w, pu_o, uI_s, uI_o, uI_j, uI_j1, uI_j2, uI_tw, or0, true_or, or_true, false_or, or_false, nar0, nar1, f_X11_tell, f_X11_refuse, f_X11_tellIf, f_X11_tellOrNone, f_X11_deny, f_X11_succeed, hp0, c_ledSet hL hg hb]
  · unfold f_X11_many
    simp (disch := first | omega | assumption) only [lt, Option.bind_some, zl, ll, zadd, zsub, zmul, zneg, ladd, lsub, lmul, lneg, zltT, zltF, zleT, zleF, zeqT, zeqF, zidx, ixT, zwide, bIT, bIF, if_true, if_false, ↓reduceIte, Nat.reduceAdd, Int.reduceAdd, Int.reduceMul, Int.reduceSub, Int.reduceNeg, cs_c, cs_o, cs_2, cu_c, cu_o, Int.cast_ofNat_Int, ps_f, ps_g, ps_w, ps_o, ps_2, pu_f, pu_g, pu_w, pu_o, uI_s, uI_o, uI_j, uI_j1, uI_j2, uI_tw, or0, true_or, or_true, false_or, or_false, nar0, nar1, f_X11_tell, f_X11_refuse, f_X11_tellIf, f_X11_tellOrNone, f_X11_deny, f_X11_succeed, hp0, c_lostOfAll hL hg hb]
theorem q_person {x : Int} {M : KM} {L n : Nat} {g : Int → Int → Int → Int} {b : Int → Int} (h : CI M L g b) (hn : 100 ≤ n) (w1 : 0 ≤ x ∧ x < b 2) :
    Ro (f_X11_person n 0 (zI x) (0 : Int32)) M L g (zI (if 0 ≤ b (66 + x) then -1 else b (58 + x))) ∧ Ro (f_X11_person n 0 (zI x) (1 : Int32)) M L g (zI (if 0 ≤ b (66 + x) then b (66 + x) else -1)) ∧
    Ro (f_X11_person n 0 (zI x) (2 : Int32)) M L g (zI (b (74 + x))) ∧ Ro (f_X11_person n 0 (zI x) (3 : Int32)) M L g (zI (if 0 ≤ b (82 + x) then b (82 + x) else -1)) := by
  obtain ⟨hP, hL, hg, hb, hm, hC⟩ := h; have hp0 : M.2.2 0 10 = L := hP.1; have hl := Ptr_L hP; have hh := hb.1; unfold WH at hh
  have e := hg.1 x w1.1 w1.2
  unfold GP at e
  obtain ⟨g3, g4, g5, g8, g9, g10, g11⟩ := e
  have e2 := WP_of hb w1.1 w1.2
  unfold WP at e2
  refine ⟨?_, ?_, ?_, ?_⟩
  · by_cases w4 : 0 ≤ b (66 + x)
    · rw [if_pos w4]
      refine ro_s (s := zI 8) ?_
      unfold f_X11_person
      simp (disch := first | omega | assumption) only [lt, Option.bind_some, zl, ll, zadd, zsub, zmul, zneg, ladd, lsub, lmul, lneg, zltT, zltF, zleT, zleF, zeqT, zeqF, zidx, ixT, zwide, bIT, bIF, if_true, if_false, ↓reduceIte, Nat.reduceAdd, Int.reduceAdd, Int.reduceMul, Int.reduceSub, Int.reduceNeg, cs_c, cs_o, cs_2, cu_c, cu_o, Int.cast_ofNat_Int, ps_f, ps_g, ps_w, ps_o, ps_2, pu_f, pu_g, pu_w, pu_o, uI_s, uI_o, uI_j, uI_j1, uI_j2, uI_tw, or0, true_or, or_true, false_or, or_false, nar0, nar1, f_X11_tell, f_X11_refuse, f_X11_tellIf, f_X11_tellOrNone, f_X11_deny, f_X11_succeed, hp0, c_hasPlace hL, c_hasRoad hL, c_hasPerson hL]
    · rw [if_neg w4]
      refine ro_s (s := zI 0) ?_
      unfold f_X11_person
      simp (disch := first | omega | assumption) only [lt, Option.bind_some, zl, ll, zadd, zsub, zmul, zneg, ladd, lsub, lmul, lneg, zltT, zltF, zleT, zleF, zeqT, zeqF, zidx, ixT, zwide, bIT, bIF, if_true, if_false, ↓reduceIte, Nat.reduceAdd, Int.reduceAdd, Int.reduceMul, Int.reduceSub, Int.reduceNeg, cs_c, cs_o, cs_2, cu_c, cu_o, Int.cast_ofNat_Int, ps_f, ps_g, ps_w, ps_o, ps_2, pu_f, pu_g, pu_w, pu_o, uI_s, uI_o, uI_j, uI_j1, uI_j2, uI_tw, or0, true_or, or_true, false_or, or_false, nar0, nar1, f_X11_tell, f_X11_refuse, f_X11_tellIf, f_X11_tellOrNone, f_X11_deny, f_X11_succeed, hp0, c_hasPlace hL, c_hasRoad hL, c_hasPerson hL, show g x 0 5 = b (58 + x) by omega]
  · by_cases w4 : 0 ≤ b (66 + x)
    · rw [if_pos w4]
      refine ro_s (s := zI 0) ?_
      unfold f_X11_person
      simp (disch := first | omega | assumption) only [lt, Option.bind_some, zl, ll, zadd, zsub, zmul, zneg, ladd, lsub, lmul, lneg, zltT, zltF, zleT, zleF, zeqT, zeqF, zidx, ixT, zwide, bIT, bIF, if_true, if_false, ↓reduceIte, Nat.reduceAdd, Int.reduceAdd, Int.reduceMul, Int.reduceSub, Int.reduceNeg, cs_c, cs_o, cs_2, cu_c, cu_o, Int.cast_ofNat_Int, ps_f, ps_g, ps_w, ps_o, ps_2, pu_f, pu_g, pu_w, pu_o, uI_s, uI_o, uI_j, uI_j1, uI_j2, uI_tw, or0, true_or, or_true, false_or, or_false, nar0, nar1, f_X11_tell, f_X11_refuse, f_X11_tellIf, f_X11_tellOrNone, f_X11_deny, f_X11_succeed, hp0, c_hasPlace hL, c_hasRoad hL, c_hasPerson hL, g8]
    · rw [if_neg w4]
      refine ro_s (s := zI 8) ?_
      unfold f_X11_person
      simp (disch := first | omega | assumption) only [lt, Option.bind_some, zl, ll, zadd, zsub, zmul, zneg, ladd, lsub, lmul, lneg, zltT, zltF, zleT, zleF, zeqT, zeqF, zidx, ixT, zwide, bIT, bIF, if_true, if_false, ↓reduceIte, Nat.reduceAdd, Int.reduceAdd, Int.reduceMul, Int.reduceSub, Int.reduceNeg, cs_c, cs_o, cs_2, cu_c, cu_o, Int.cast_ofNat_Int, ps_f, ps_g, ps_w, ps_o, ps_2, pu_f, pu_g, pu_w, pu_o, uI_s, uI_o, uI_j, uI_j1, uI_j2, uI_tw, or0, true_or, or_true, false_or, or_false, nar0, nar1, f_X11_tell, f_X11_refuse, f_X11_tellIf, f_X11_tellOrNone, f_X11_deny, f_X11_succeed, hp0, c_hasPlace hL, c_hasRoad hL, c_hasPerson hL, g8]
  · refine ro_s (s := zI 0) ?_
    unfold f_X11_person
    simp (disch := first | omega | assumption) only [lt, Option.bind_some, zl, ll, zadd, zsub, zmul, zneg, ladd, lsub, lmul, lneg, zltT, zltF, zleT, zleF, zeqT, zeqF, zidx, ixT, zwide, bIT, bIF, if_true, if_false, ↓reduceIte, Nat.reduceAdd, Int.reduceAdd, Int.reduceMul, Int.reduceSub, Int.reduceNeg, cs_c, cs_o, cs_2, cu_c, cu_o, Int.cast_ofNat_Int, ps_f, ps_g, ps_w, ps_o, ps_2, pu_f, pu_g, pu_w, pu_o, uI_s, uI_o, uI_j, uI_j1, uI_j2, uI_tw, or0, true_or, or_true, false_or, or_false, nar0, nar1, f_X11_tell, f_X11_refuse, f_X11_tellIf, f_X11_tellOrNone, f_X11_deny, f_X11_succeed, hp0, c_hasPlace hL, c_hasRoad hL, c_hasPerson hL, c_leftOf hL hg hb]
  · by_cases w4 : 0 ≤ b (82 + x)
    · rw [if_pos w4]
      refine ro_s (s := zI 0) ?_
      unfold f_X11_person
      simp (disch := first | omega | assumption) only [lt, Option.bind_some, zl, ll, zadd, zsub, zmul, zneg, ladd, lsub, lmul, lneg, zltT, zltF, zleT, zleF, zeqT, zeqF, zidx, ixT, zwide, bIT, bIF, if_true, if_false, ↓reduceIte, Nat.reduceAdd, Int.reduceAdd, Int.reduceMul, Int.reduceSub, Int.reduceNeg, cs_c, cs_o, cs_2, cu_c, cu_o, Int.cast_ofNat_Int, ps_f, ps_g, ps_w, ps_o, ps_2, pu_f, pu_g, pu_w, pu_o, uI_s, uI_o, uI_j, uI_j1, uI_j2, uI_tw, or0, true_or, or_true, false_or, or_false, nar0, nar1, f_X11_tell, f_X11_refuse, f_X11_tellIf, f_X11_tellOrNone, f_X11_deny, f_X11_succeed, hp0, c_hasPlace hL, c_hasRoad hL, c_hasPerson hL, g9]
    · rw [if_neg w4]
      refine ro_s (s := zI 8) ?_
      unfold f_X11_person
      simp (disch := first | omega | assumption) only [lt, Option.bind_some, zl, ll, zadd, zsub, zmul, zneg, ladd, lsub, lmul, lneg, zltT, zltF, zleT, zleF, zeqT, zeqF, zidx, ixT, zwide, bIT, bIF, if_true, if_false, ↓reduceIte, Nat.reduceAdd, Int.reduceAdd, Int.reduceMul, Int.reduceSub, Int.reduceNeg, cs_c, cs_o, cs_2, cu_c, cu_o, Int.cast_ofNat_Int, ps_f, ps_g, ps_w, ps_o, ps_2, pu_f, pu_g, pu_w, pu_o, uI_s, uI_o, uI_j, uI_j1, uI_j2, uI_tw, or0, true_or, or_true, false_or, or_false, nar0, nar1, f_X11_tell, f_X11_refuse, f_X11_tellIf, f_X11_tellOrNone, f_X11_deny, f_X11_succeed, hp0, c_hasPlace hL, c_hasRoad hL, c_hasPerson hL, g9]
theorem q_owes {x y : Int} {M : KM} {L n : Nat} {g : Int → Int → Int → Int} {b : Int → Int} (h : CI M L g b) (hn : 100 ≤ n) (w1 : 0 ≤ x ∧ x < b 2 ∧ 0 ≤ y ∧ y < b 2) (w2 : ¬ x = y) : Ro (f_X11_owes n 0 (zI x) (zI y)) M L g (zI (b (226 + 8 * x + y))) := by
  obtain ⟨hP, hL, hg, hb, hm, hC⟩ := h; have hp0 : M.2.2 0 10 = L := hP.1; have hl := Ptr_L hP; have hh := hb.1; unfold WH at hh
  have hw := c_whyNoTwo (M := M) (g := g) (p := x) (q := y) hp0 hL (by omega) (by omega) (by omega) (by omega) (by omega) (by omega)
  rw [if_pos w1, if_neg w2] at hw
  have e := hg.2.2.1 x y w1.1 w1.2.1 w1.2.2.1 w1.2.2.2
  refine ro_s (s := zI 0) ?_
  unfold f_X11_owes
  rw [hw]
  simp (disch := first | omega | assumption) only [lt, Option.bind_some, zl, ll, zadd, zsub, zmul, zneg, ladd, lsub, lmul, lneg, zltT, zltF, zleT, zleF, zeqT, zeqF, zidx, ixT, zwide, bIT, bIF, if_true, if_false, ↓reduceIte, Nat.reduceAdd, Int.reduceAdd, Int.reduceMul, Int.reduceSub, Int.reduceNeg, cs_c, cs_o, cs_2, cu_c, cu_o, Int.cast_ofNat_Int, ps_f, ps_g, ps_w, ps_o, ps_2, pu_f, pu_g, pu_w, pu_o, uI_s, uI_o, uI_j, uI_j1, uI_j2, uI_tw, or0, true_or, or_true, false_or, or_false, nar0, nar1, f_X11_tell, f_X11_refuse, f_X11_tellIf, f_X11_tellOrNone, f_X11_deny, f_X11_succeed, hp0, c_hasPlace hL, c_hasRoad hL, c_hasPerson hL, e]
theorem q_net {x : Int} {M : KM} {L n : Nat} {g : Int → Int → Int → Int} {b : Int → Int} (h : CI M L g b) (hn : 100 ≤ n) (w1 : 0 ≤ x ∧ x < b 2) : Ro (f_X11_net n 0 (zI x)) M L g (zI (sumB (fun q => b (226 + 8 * q + x)) (b 2))) := by
  obtain ⟨hP, hL, hg, hb, hm, hC⟩ := h; have hp0 : M.2.2 0 10 = L := hP.1; have hl := Ptr_L hP; have hh := hb.1; unfold WH at hh
  refine ro_s (s := zI 0) ?_
  have e := loop_sum (lp := fun n i w => lp_X2_owedTo_4 n L (zI x) (ps M L g) w i) (fun q => b (226 + 8 * q + x)) (fin := some) (N := 0) (R := b 2) (by omega) (fun n i w _ h1 h2 => by
    have e := hg.2.2.1 i x h1 h2 w1.1 w1.2
    obtain ⟨q0, q1, q2, q5, q6, q7, q8, q9, q3, q4, qd, qa, qb, qc, qs⟩ := hL
    rw [lp_X2_owedTo_4]
    simp (disch := first | omega | assumption) only [lt, Option.bind_some, zl, ll, zadd, zsub, zmul, zneg, ladd, lsub, lmul, lneg, zltT, zltF, zleT, zleF, zeqT, zeqF, zidx, ixT, zwide, bIT, bIF, if_true, if_false, ↓reduceIte, Nat.reduceAdd, Int.reduceAdd, Int.reduceMul, Int.reduceSub, Int.reduceNeg, cs_c, cs_o, cs_2, cu_c, cu_o, Int.cast_ofNat_Int, ps_f, ps_g, ps_w, ps_o, ps_2, pu_f, pu_g, pu_w, pu_o, uI_s, uI_o, uI_j, uI_j1, uI_j2, uI_tw, or0, true_or, or_true, false_or, or_false, nar0, nar1, q0, q1, q2, q5, q6, q7, q8, q9, q3, q4, qd, qa, qb, qc, qs, e]) (fun n w _ => by
    obtain ⟨q0, q1, q2, q5, q6, q7, q8, q9, q3, q4, qd, qa, qb, qc, qs⟩ := hL
    rw [lp_X2_owedTo_4]
    simp (disch := first | omega | assumption) only [lt, Option.bind_some, zl, ll, zadd, zsub, zmul, zneg, ladd, lsub, lmul, lneg, zltT, zltF, zleT, zleF, zeqT, zeqF, zidx, ixT, zwide, bIT, bIF, if_true, if_false, ↓reduceIte, Nat.reduceAdd, Int.reduceAdd, Int.reduceMul, Int.reduceSub, Int.reduceNeg, cs_c, cs_o, cs_2, cu_c, cu_o, Int.cast_ofNat_Int, ps_f, ps_g, ps_w, ps_o, ps_2, pu_f, pu_g, pu_w, pu_o, uI_s, uI_o, uI_j, uI_j1, uI_j2, uI_tw, or0, true_or, or_true, false_or, or_false, nar0, nar1, q0, q1, q2, q5, q6, q7, q8, q9, q3, q4, qd, qa, qb, qc, qs]) (n := n) (by omega)
  unfold f_X11_net f_X2_owedTo
  simp (disch := first | omega | assumption) only [lt, Option.bind_some, zl, ll, zadd, zsub, zmul, zneg, ladd, lsub, lmul, lneg, zltT, zltF, zleT, zleF, zeqT, zeqF, zidx, ixT, zwide, bIT, bIF, if_true, if_false, ↓reduceIte, Nat.reduceAdd, Int.reduceAdd, Int.reduceMul, Int.reduceSub, Int.reduceNeg, cs_c, cs_o, cs_2, cu_c, cu_o, Int.cast_ofNat_Int, ps_f, ps_g, ps_w, ps_o, ps_2, pu_f, pu_g, pu_w, pu_o, uI_s, uI_o, uI_j, uI_j1, uI_j2, uI_tw, or0, true_or, or_true, false_or, or_false, nar0, nar1, f_X11_tell, f_X11_refuse, f_X11_tellIf, f_X11_tellOrNone, f_X11_deny, f_X11_succeed, hp0, c_hasPlace hL, c_hasRoad hL, c_hasPerson hL, e]
theorem q_stuck {M : KM} {L n : Nat} {g : Int → Int → Int → Int} {b : Int → Int} (h : CI M L g b) (hn : 100 ≤ n) : Ro (f_X11_stuck n 0) M L g (setB (fun i => decide (b (66 + i) < 0 ∧ lvB b i = -1)) (b 2)) := by
  obtain ⟨hP, hL, hg, hb, hm, hC⟩ := h; have hp0 : M.2.2 0 10 = L := hP.1; have hl := Ptr_L hP; have hh := hb.1; unfold WH at hh
  refine ro_s (s := zI 0) ?_
  have e := loop_set (lp := fun n i w => lp_X2_stuckSet_4 n L (ps M L g) w i) (fun i => decide (b (66 + i) < 0 ∧ lvB b i = -1)) (fin := some) (N := 21) (R := b 2) (by omega) (fun n i w hN h1 h2 h3 => by
    have e := hg.1 i h1 h2
    unfold GP at e
    have e2 := WP_of hb h1 h2
    unfold WP at e2
    have h4 : b (66 + i) < 0 ∧ lvB b i = -1 := of_decide_eq_true h3
    have h5 := h4.1
    have e3 := c_canLeave (n := n) hL hg hb h1 h2 h5 (by omega)
    obtain ⟨q0, q1, q2, q5, q6, q7, q8, q9, q3, q4, qd, qa, qb, qc, qs⟩ := hL
    rw [lp_X2_stuckSet_4]
    simp (disch := first | omega | assumption) only [lt, Option.bind_some, zl, ll, zadd, zsub, zmul, zneg, ladd, lsub, lmul, lneg, zltT, zltF, zleT, zleF, zeqT, zeqF, zidx, ixT, zwide, bIT, bIF, if_true, if_false, ↓reduceIte, Nat.reduceAdd, Int.reduceAdd, Int.reduceMul, Int.reduceSub, Int.reduceNeg, cs_c, cs_o, cs_2, cu_c, cu_o, Int.cast_ofNat_Int, ps_f, ps_g, ps_w, ps_o, ps_2, pu_f, pu_g, pu_w, pu_o, uI_s, uI_o, uI_j, uI_j1, uI_j2, uI_tw, or0, true_or, or_true, false_or, or_false, nar0, nar1, q0, q1, q2, q5, q6, q7, q8, q9, q3, q4, qd, qa, qb, qc, qs, f_X7_isAtPlace, e3, h4.2]) (fun n i w hN h1 h2 h3 => by
    have e := hg.1 i h1 h2
    unfold GP at e
    have e2 := WP_of hb h1 h2
    unfold WP at e2
    have h4 : ¬ (b (66 + i) < 0 ∧ lvB b i = -1) := of_decide_eq_false h3
    by_cases w : b (66 + i) < 0
    · have e3 := c_canLeave (n := n) hL hg hb h1 h2 w (by omega)
      rw [if_neg (fun z => h4 ⟨w, z⟩)] at e3
      obtain ⟨q0, q1, q2, q5, q6, q7, q8, q9, q3, q4, qd, qa, qb, qc, qs⟩ := hL
      rw [lp_X2_stuckSet_4]
      simp (disch := first | omega | assumption) only [lt, Option.bind_some, zl, ll, zadd, zsub, zmul, zneg, ladd, lsub, lmul, lneg, zltT, zltF, zleT, zleF, zeqT, zeqF, zidx, ixT, zwide, bIT, bIF, if_true, if_false, ↓reduceIte, Nat.reduceAdd, Int.reduceAdd, Int.reduceMul, Int.reduceSub, Int.reduceNeg, cs_c, cs_o, cs_2, cu_c, cu_o, Int.cast_ofNat_Int, ps_f, ps_g, ps_w, ps_o, ps_2, pu_f, pu_g, pu_w, pu_o, uI_s, uI_o, uI_j, uI_j1, uI_j2, uI_tw, or0, true_or, or_true, false_or, or_false, nar0, nar1, q0, q1, q2, q5, q6, q7, q8, q9, q3, q4, qd, qa, qb, qc, qs, f_X7_isAtPlace, e3]
    · obtain ⟨q0, q1, q2, q5, q6, q7, q8, q9, q3, q4, qd, qa, qb, qc, qs⟩ := hL
      rw [lp_X2_stuckSet_4]
      simp (disch := first | omega | assumption) only [lt, Option.bind_some, zl, ll, zadd, zsub, zmul, zneg, ladd, lsub, lmul, lneg, zltT, zltF, zleT, zleF, zeqT, zeqF, zidx, ixT, zwide, bIT, bIF, if_true, if_false, ↓reduceIte, Nat.reduceAdd, Int.reduceAdd, Int.reduceMul, Int.reduceSub, Int.reduceNeg, cs_c, cs_o, cs_2, cu_c, cu_o, Int.cast_ofNat_Int, ps_f, ps_g, ps_w, ps_o, ps_2, pu_f, pu_g, pu_w, pu_o, uI_s, uI_o, uI_j, uI_j1, uI_j2, uI_tw, or0, true_or, or_true, false_or, or_false, nar0, nar1, q0, q1, q2, q5, q6, q7, q8, q9, q3, q4, qd, qa, qb, qc, qs, f_X7_isAtPlace]) (fun n w _ => by
    obtain ⟨q0, q1, q2, q5, q6, q7, q8, q9, q3, q4, qd, qa, qb, qc, qs⟩ := hL
    rw [lp_X2_stuckSet_4]
    simp (disch := first | omega | assumption) only [lt, Option.bind_some, zl, ll, zadd, zsub, zmul, zneg, ladd, lsub, lmul, lneg, zltT, zltF, zleT, zleF, zeqT, zeqF, zidx, ixT, zwide, bIT, bIF, if_true, if_false, ↓reduceIte, Nat.reduceAdd, Int.reduceAdd, Int.reduceMul, Int.reduceSub, Int.reduceNeg, cs_c, cs_o, cs_2, cu_c, cu_o, Int.cast_ofNat_Int, ps_f, ps_g, ps_w, ps_o, ps_2, pu_f, pu_g, pu_w, pu_o, uI_s, uI_o, uI_j, uI_j1, uI_j2, uI_tw, or0, true_or, or_true, false_or, or_false, nar0, nar1, q0, q1, q2, q5, q6, q7, q8, q9, q3, q4, qd, qa, qb, qc, qs]) (n := n) (by omega)
  unfold f_X11_stuck f_X2_stuckSet
  simp (disch := first | omega | assumption) only [lt, Option.bind_some, zl, ll, zadd, zsub, zmul, zneg, ladd, lsub, lmul, lneg, zltT, zltF, zleT, zleF, zeqT, zeqF, zidx, ixT, zwide, bIT, bIF, if_true, if_false, ↓reduceIte, Nat.reduceAdd, Int.reduceAdd, Int.reduceMul, Int.reduceSub, Int.reduceNeg, cs_c, cs_o, cs_2, cu_c, cu_o, Int.cast_ofNat_Int, ps_f, ps_g, ps_w, ps_o, ps_2, pu_f, pu_g, pu_w, pu_o, uI_s, uI_o, uI_j, uI_j1, uI_j2, uI_tw, or0, true_or, or_true, false_or, or_false, nar0, nar1, f_X11_tell, f_X11_refuse, f_X11_tellIf, f_X11_tellOrNone, f_X11_deny, f_X11_succeed, hp0, c_hasPlace hL, c_hasRoad hL, c_hasPerson hL, e]
theorem q_can {x y : Int} {M : KM} {L n : Nat} {g : Int → Int → Int → Int} {b : Int → Int} (h : CI M L g b) (hn : 100 ≤ n) (w1 : 0 ≤ x ∧ x < b 2) (w2 : 0 ≤ y ∧ y < b 1) : Ro (f_X11_can n 0 (zI x) (zI y)) M L g (bI (canN b x y)) := by
  obtain ⟨hP, hL, hg, hb, hm, hC⟩ := h; have hp0 : M.2.2 0 10 = L := hP.1; have hl := Ptr_L hP; have hh := hb.1; unfold WH at hh
  refine ro_s (s := zI 0) ?_
  unfold f_X11_can
  have e := c_isAble (n := n) (p := x) (r := y) hL hg hb w1.1 w1.2 w2.1 w2.2
  simp (disch := first | omega | assumption) only [lt, Option.bind_some, zl, ll, zadd, zsub, zmul, zneg, ladd, lsub, lmul, lneg, zltT, zltF, zleT, zleF, zeqT, zeqF, zidx, ixT, zwide, bIT, bIF, if_true, if_false, ↓reduceIte, Nat.reduceAdd, Int.reduceAdd, Int.reduceMul, Int.reduceSub, Int.reduceNeg, cs_c, cs_o, cs_2, cu_c, cu_o, Int.cast_ofNat_Int, ps_f, ps_g, ps_w, ps_o, ps_2, pu_f, pu_g, pu_w, pu_o, uI_s, uI_o, uI_j, uI_j1, uI_j2, uI_tw, or0, true_or, or_true, false_or, or_false, nar0, nar1, f_X11_tell, f_X11_refuse, f_X11_tellIf, f_X11_tellOrNone, f_X11_deny, f_X11_succeed, hp0, c_hasPlace hL, c_hasRoad hL, c_hasPerson hL, e]
  by_cases w3 : canN b x y
  · simp (disch := first | omega | assumption) only [lt, Option.bind_some, zl, ll, zadd, zsub, zmul, zneg, ladd, lsub, lmul, lneg, zltT, zltF, zleT, zleF, zeqT, zeqF, zidx, ixT, zwide, bIT, bIF, if_true, if_false, ↓reduceIte, Nat.reduceAdd, Int.reduceAdd, Int.reduceMul, Int.reduceSub, Int.reduceNeg, cs_c, cs_o, cs_2, cu_c, cu_o, Int.cast_ofNat_Int, ps_f, ps_g, ps_w, ps_o, ps_2, pu_f, pu_g, pu_w, pu_o, uI_s, uI_o, uI_j, uI_j1, uI_j2, uI_tw, or0, true_or, or_true, false_or, or_false, nar0, nar1]
  · simp (disch := first | omega | assumption) only [lt, Option.bind_some, zl, ll, zadd, zsub, zmul, zneg, ladd, lsub, lmul, lneg, zltT, zltF, zleT, zleF, zeqT, zeqF, zidx, ixT, zwide, bIT, bIF, if_true, if_false, ↓reduceIte, Nat.reduceAdd, Int.reduceAdd, Int.reduceMul, Int.reduceSub, Int.reduceNeg, cs_c, cs_o, cs_2, cu_c, cu_o, Int.cast_ofNat_Int, ps_f, ps_g, ps_w, ps_o, ps_2, pu_f, pu_g, pu_w, pu_o, uI_s, uI_o, uI_j, uI_j1, uI_j2, uI_tw, or0, true_or, or_true, false_or, or_false, nar0, nar1]
theorem q_roadOf {x y : Int} {M : KM} {L n : Nat} {g : Int → Int → Int → Int} {b : Int → Int} (h : CI M L g b) (hn : 100 ≤ n) (w1 : 0 ≤ x ∧ x < b 0) (w2 : 0 ≤ y ∧ y < b 0) (w3 : ¬ btB b x y = -1) : Ro (f_X11_roadOf n 0 (zI x) (zI y)) M L g (zI (btB b x y)) := by
  obtain ⟨hP, hL, hg, hb, hm, hC⟩ := h; have hp0 : M.2.2 0 10 = L := hP.1; have hl := Ptr_L hP; have hh := hb.1; unfold WH at hh
  have hr := btB_r (b := b) (x := x) (y := y) (by omega)
  refine ro_s (s := zI 0) ?_
  unfold f_X11_roadOf
  have e := c_roadBetween (n := n) (g := g) (x := x) (y := y) hL hb (by omega) (by omega) (by omega) (by omega) (by omega)
  simp (disch := first | omega | assumption) only [lt, Option.bind_some, zl, ll, zadd, zsub, zmul, zneg, ladd, lsub, lmul, lneg, zltT, zltF, zleT, zleF, zeqT, zeqF, zidx, ixT, zwide, bIT, bIF, if_true, if_false, ↓reduceIte, Nat.reduceAdd, Int.reduceAdd, Int.reduceMul, Int.reduceSub, Int.reduceNeg, cs_c, cs_o, cs_2, cu_c, cu_o, Int.cast_ofNat_Int, ps_f, ps_g, ps_w, ps_o, ps_2, pu_f, pu_g, pu_w, pu_o, uI_s, uI_o, uI_j, uI_j1, uI_j2, uI_tw, or0, true_or, or_true, false_or, or_false, nar0, nar1, f_X11_tell, f_X11_refuse, f_X11_tellIf, f_X11_tellOrNone, f_X11_deny, f_X11_succeed, hp0, c_hasPlace hL, c_hasRoad hL, c_hasPerson hL, e]
theorem q_reach {x : Int} {M : KM} {L n : Nat} {g : Int → Int → Int → Int} {b : Int → Int} (h : CI M L g b) (hn : 200 ≤ n) (w : 0 ≤ x ∧ x < b 2) (y : b (66 + x) < 0) : Ro (f_X11_reach n 0 (zI x)) M L g (setB (itR b x 8 0 (fun i => decide (i = b (58 + x)))) 8) := by
  obtain ⟨hP, hL, hg, hb, hm, hC⟩ := h; have hp0 : M.2.2 0 10 = L := hP.1; have hl := Ptr_L hP; have hh := hb.1; unfold WH at hh
  have hi : 0 ≤ b 2 ∧ b 2 ≤ 8 ∧ b 0 ≤ 8 := by omega
  clear hC hh
  have ez := WPb hb w.1 w.2
  have gp := hg.1 x w.1 w.2
  unfold GP at gp
  have g5 : g x 0 5 = b (58 + x) := by omega
  have i5 : 0 ≤ b (58 + x) ∧ b (58 + x) < 8 ∧ 1 ≤ b 0 ∧ b (58 + x) < b 0 := by omega
  have e8 := itR_8 (x := x) (P := fun i => decide (i = b (58 + x))) hb (fun i hi => by have := of_decide_eq_true hi; omega) (cd_one i5.1 i5.2.1)
  have eo := setB_one i5.1 i5.2.1
  have ec := c_reachL (n := n) (P := fun i => decide (i = b (58 + x))) hL hg hb w.1 w.2 i5.2.2.1 (by omega)
  rw [← e8, ← eo] at ec
  generalize setB (itR b x 8 0 fun i => decide (i = b (58 + x))) 8 = S at *
  refine ro_s (s := zI 0) ?_
  clear gp ez
  unfold f_X11_reach f_X11_whyNotAtPlace f_X2_reachSet f_X7_isAtPlace
  simp (disch := first | omega | assumption) only [↓lt, Option.bind_some, zl, ll, zadd, zsub, zmul, zneg, ladd, lsub, lmul, lneg, zltT, zltF, zleT, zleF, zeqT, zeqF, zidx, ixT, zwide, bIT, bIF, if_true, if_false, ↓reduceIte, Nat.reduceAdd, Int.reduceAdd, Int.reduceMul, Int.reduceSub, Int.reduceNeg, cs_c, cs_o, cs_2, cu_c, cu_o, Int.cast_ofNat_Int, ps_f, ps_g, ps_w, ps_o, ps_2, pu_f, pu_g, pu_w, pu_o, uI_s, uI_o, uI_j, uI_j1, uI_j2, uI_tw, or0, true_or, or_true, false_or, or_false, nar0, nar1, f_X11_tell, f_X11_refuse, f_X11_tellIf, f_X11_tellOrNone, f_X11_deny, f_X11_succeed, hp0, c_hasPerson hL, g5, ec]
