/-! ===== passes, as the class reckons it: one who goes ===== -/
theorem c_pace_l {b : Int → Int} {p r : Int} {L n : Nat} {M : KM} {g : Int → Int → Int → Int} (hL : HL M L b) (hb : WB b) (h1 : 0 ≤ p) (h2 : p < b 2) (h3 : 0 ≤ r) (h4 : r < b 1) (f3 : g p 0 3 = 1 - b (106 + p)) (f4 : g p 0 4 = b (98 + p)) (f1 : g p 1 r = b (130 + 12 * p + r)) : f_X2_paceOf n L (zI p) (zI r) (ps M L g) = some (zI (pcB b p r)) := by
  obtain ⟨q0, q1, q2, q5, q6, q7, q8, q9, q3, q4, qd, qa, qb, qc, qs⟩ := hL
  obtain ⟨hh, hr, hp, hgo, -, -⟩ := hb
  have e1 := hr r h3 h4
  have e2 := hp p h1 h2
  unfold WH at hh
  unfold WR at e1
  unfold WP at e2
  have e3 := hgo p r h1 (by omega) h3 (by omega)
  have i2 : 0 ≤ b (98 + p) ∧ b (98 + p) ≤ 1 ∧ 0 ≤ b (106 + p) ∧ b (106 + p) ≤ 1 := by omega
  clear e2 hp hr hgo
  unfold f_X2_paceOf
  by_cases w : b (106 + p) = 1
  · by_cases v : b (46 + r) = 1
    · rw [show pcB b p r = 0 by unfold pcB; rw [if_pos w, if_pos (Or.inl v)]]
      simp (disch := first | omega | assumption) only [↓lt, Option.bind_some, zl, ll, zadd, zsub, zmul, zneg, ladd, lsub, lmul, lneg, zltT, zltF, zleT, zleF, zeqT, zeqF, zidx, ixT, zwide, bIT, bIF, if_true, if_false, ↓reduceIte, Nat.reduceAdd, Int.reduceAdd, Int.reduceMul, Int.reduceSub, Int.reduceNeg, cs_c, cs_o, cs_2, cu_c, cu_o, Int.cast_ofNat_Int, ps_f, ps_g, ps_w, ps_o, ps_2, pu_f, pu_g, pu_w, pu_o, uI_s, uI_o, uI_j, uI_j1, uI_j2, uI_tw, or0, true_or, or_true, false_or, or_false, nar0, nar1, q0, q1, q2, q5, q6, q7, q8, q9, q3, q4, qd, qa, qb, qc, qs, f3, f4, f1]
    · by_cases u : b 7 ≤ b (130 + 12 * p + r)
      · rw [show pcB b p r = 0 by unfold pcB; rw [if_pos w, if_pos (Or.inr u)]]
        simp (disch := first | omega | assumption) only [↓lt, Option.bind_some, zl, ll, zadd, zsub, zmul, zneg, ladd, lsub, lmul, lneg, zltT, zltF, zleT, zleF, zeqT, zeqF, zidx, ixT, zwide, bIT, bIF, if_true, if_false, ↓reduceIte, Nat.reduceAdd, Int.reduceAdd, Int.reduceMul, Int.reduceSub, Int.reduceNeg, cs_c, cs_o, cs_2, cu_c, cu_o, Int.cast_ofNat_Int, ps_f, ps_g, ps_w, ps_o, ps_2, pu_f, pu_g, pu_w, pu_o, uI_s, uI_o, uI_j, uI_j1, uI_j2, uI_tw, or0, true_or, or_true, false_or, or_false, nar0, nar1, q0, q1, q2, q5, q6, q7, q8, q9, q3, q4, qd, qa, qb, qc, qs, f3, f4, f1]
      · rw [show pcB b p r = 2 by unfold pcB; rw [if_pos w, if_neg (fun z => z.elim v u)]]
        simp (disch := first | omega | assumption) only [↓lt, Option.bind_some, zl, ll, zadd, zsub, zmul, zneg, ladd, lsub, lmul, lneg, zltT, zltF, zleT, zleF, zeqT, zeqF, zidx, ixT, zwide, bIT, bIF, if_true, if_false, ↓reduceIte, Nat.reduceAdd, Int.reduceAdd, Int.reduceMul, Int.reduceSub, Int.reduceNeg, cs_c, cs_o, cs_2, cu_c, cu_o, Int.cast_ofNat_Int, ps_f, ps_g, ps_w, ps_o, ps_2, pu_f, pu_g, pu_w, pu_o, uI_s, uI_o, uI_j, uI_j1, uI_j2, uI_tw, or0, true_or, or_true, false_or, or_false, nar0, nar1, q0, q1, q2, q5, q6, q7, q8, q9, q3, q4, qd, qa, qb, qc, qs, f3, f4, f1]
  · by_cases v : b (98 + p) = 1
    · rw [show pcB b p r = 0 by unfold pcB; rw [if_neg w, if_pos (Or.inl v)]]
      simp (disch := first | omega | assumption) only [↓lt, Option.bind_some, zl, ll, zadd, zsub, zmul, zneg, ladd, lsub, lmul, lneg, zltT, zltF, zleT, zleF, zeqT, zeqF, zidx, ixT, zwide, bIT, bIF, if_true, if_false, ↓reduceIte, Nat.reduceAdd, Int.reduceAdd, Int.reduceMul, Int.reduceSub, Int.reduceNeg, cs_c, cs_o, cs_2, cu_c, cu_o, Int.cast_ofNat_Int, ps_f, ps_g, ps_w, ps_o, ps_2, pu_f, pu_g, pu_w, pu_o, uI_s, uI_o, uI_j, uI_j1, uI_j2, uI_tw, or0, true_or, or_true, false_or, or_false, nar0, nar1, q0, q1, q2, q5, q6, q7, q8, q9, q3, q4, qd, qa, qb, qc, qs, f3, f4, f1]
    · by_cases u : b 9 = 0
      · rw [show pcB b p r = 1 by unfold pcB; rw [if_neg w, if_neg (fun z => z.elim v (fun y => y u))]]
        simp (disch := first | omega | assumption) only [↓lt, Option.bind_some, zl, ll, zadd, zsub, zmul, zneg, ladd, lsub, lmul, lneg, zltT, zltF, zleT, zleF, zeqT, zeqF, zidx, ixT, zwide, bIT, bIF, if_true, if_false, ↓reduceIte, Nat.reduceAdd, Int.reduceAdd, Int.reduceMul, Int.reduceSub, Int.reduceNeg, cs_c, cs_o, cs_2, cu_c, cu_o, Int.cast_ofNat_Int, ps_f, ps_g, ps_w, ps_o, ps_2, pu_f, pu_g, pu_w, pu_o, uI_s, uI_o, uI_j, uI_j1, uI_j2, uI_tw, or0, true_or, or_true, false_or, or_false, nar0, nar1, q0, q1, q2, q5, q6, q7, q8, q9, q3, q4, qd, qa, qb, qc, qs, f3, f4, f1]
      · rw [show pcB b p r = 0 by unfold pcB; rw [if_neg w, if_pos (Or.inr u)]]
        simp (disch := first | omega | assumption) only [↓lt, Option.bind_some, zl, ll, zadd, zsub, zmul, zneg, ladd, lsub, lmul, lneg, zltT, zltF, zleT, zleF, zeqT, zeqF, zidx, ixT, zwide, bIT, bIF, if_true, if_false, ↓reduceIte, Nat.reduceAdd, Int.reduceAdd, Int.reduceMul, Int.reduceSub, Int.reduceNeg, cs_c, cs_o, cs_2, cu_c, cu_o, Int.cast_ofNat_Int, ps_f, ps_g, ps_w, ps_o, ps_2, pu_f, pu_g, pu_w, pu_o, uI_s, uI_o, uI_j, uI_j1, uI_j2, uI_tw, or0, true_or, or_true, false_or, or_false, nar0, nar1, q0, q1, q2, q5, q6, q7, q8, q9, q3, q4, qd, qa, qb, qc, qs, f3, f4, f1]
theorem dnI_b {f t pace s k : Int} (h1 : 0 ≤ f) (h2 : f ≤ 23) (h3 : f < t) (h4 : t ≤ 24) (h5 : 0 ≤ s) (h5' : s ≤ 900000) (h6 : 1 ≤ k) (h6' : k ≤ 99) (hp : pace = 0 ∨ pace = 1 ∨ pace = 2) : s < dnI f t pace s k ∧ dnI f t pace s k ≤ 1000000000 := by
  have w0 : ¬ 1000000000 ≤ s := by omega
  rcases hp with rfl | rfl | rfl
  · rw [dnI_0 w0]; omega
  · by_cases w : f = 0 ∧ t = 24
    · obtain ⟨rfl, rfl⟩ := w
      rw [dnI_F w0]; omega
    · rw [dnI_1 w0 w]
      have e := dnC_b h1 h2 h3 h4 h5 h6 h6' w
      omega
  · rw [dnI_2]; omega
/-- minutes lost within N, for one who goes by himself, in a glare from f to t -/
def LOf (f t : Int) (b : Int → Int) (N p : Int) : Int := if dnI f t (pcQ b p) (b 5) (b (74 + p)) - b 5 ≤ N then dnI f t (pcQ b p) (b 5) (b (74 + p)) - b 5 - b (74 + p) else N - mvI f t (pcQ b p) (b 5) N
theorem mvI_r {f t pace m : Int} (h1 : 0 ≤ f) (h2 : f ≤ 23) (h3 : f < t) (h4 : t ≤ 24) (h5 : 0 ≤ m) (hp : pace = 0 ∨ pace = 1 ∨ pace = 2) {n : Int} (h6 : 0 ≤ n) : 0 ≤ mvI f t pace m n ∧ mvI f t pace m n ≤ n := by
  rcases hp with rfl | rfl | rfl
  · rw [mvI_0]; omega
  · rw [mvI_1]
    have e := cl_m h1 h2 h3 h4 h5 (show m ≤ m + n by omega)
    omega
  · rw [mvI_2]; omega
theorem c_lostOf {b : Int → Int} {f t N p : Int} {L n a : Nat} {M : KM} {g : Int → Int → Int → Int} (hL : HL M L b) (hb : WB b) (hH : HH (ps M L g) a f t) (t1 : 0 ≤ f) (t2 : f ≤ 23) (t3 : f < t) (t4 : t ≤ 24) (hN : 0 ≤ N) (hN2 : N ≤ 10000) (h1 : 0 ≤ p) (h2 : p < b 2) (hg : 0 ≤ b (66 + p)) (hl : b (82 + p) = -1) (f3 : g p 0 3 = 1 - b (106 + p)) (f4 : g p 0 4 = b (98 + p)) (f1 : g p 1 (b (122 + p)) = b (130 + 12 * p + b (122 + p))) (f6 : g p 0 6 = b (122 + p)) (f10 : g p 0 10 = b (74 + p)) : f_X2_lostOf n L (zI p) (zI N) a (ps M L g) = some (zI (LOf f t b N p)) := by
  have hM := hL
  obtain ⟨q0, q1, q2, q5, q6, q7, q8, q9, q3, q4, qd, qa, qb, qc, qs⟩ := hL
  have hh := hb.1
  unfold WH at hh
  have ep := WP_of hb h1 h2
  unfold WP at ep
  have hr : 0 ≤ b (122 + p) ∧ b (122 + p) < b 1 := by omega
  have hR := hb.2.1 _ hr.1 hr.2
  unfold WR at hR
  have ek : 1 ≤ b (74 + p) ∧ b (74 + p) ≤ 99 := by omega
  have hi : 0 ≤ b 1 ∧ b 1 ≤ 12 ∧ 0 ≤ b 2 ∧ b 2 ≤ 8 ∧ 0 ≤ b 5 ∧ b 5 ≤ 200000 := by omega
  have ew : pcQ b p = pcB b p (b (122 + p)) := by unfold pcQ; rw [wk_s (by omega)]
  have e1 := c_pace_l (n := n) hM hb h1 h2 hr.1 hr.2 f3 f4 f1
  rw [← ew] at e1
  have hpc : pcQ b p = 0 ∨ pcQ b p = 1 ∨ pcQ b p = 2 := pcB_r
  have e2 := c_doneAt (n := n) (s := b 5) (k := b (74 + p)) hH t1 t2 t3 t4 hi.2.2.2.2.1 ek.1 ek.2 (Or.inl (by omega)) hpc
  have e3 := c_movedIn (n := n) (m := b 5) (k := N) hH t1 t2 t3 t4 hi.2.2.2.2.1 hN hN2 (by omega) hpc
  have e4 := dnI_b (s := b 5) (k := b (74 + p)) t1 t2 t3 t4 hi.2.2.2.2.1 (by omega) ek.1 ek.2 hpc
  have e5 := mvI_r (m := b 5) t1 t2 t3 t4 hi.2.2.2.2.1 hpc hN
  clear ep hh hR
  unfold f_X2_lostOf LOf
  generalize dnI f t (pcQ b p) (b 5) (b (74 + p)) = D at *
  generalize mvI f t (pcQ b p) (b 5) N = K at *
  by_cases w : D - b 5 ≤ N
  · rw [if_pos w]
    simp (disch := first | omega | assumption) only [↓lt, Option.bind_some, zl, ll, zadd, zsub, zmul, zneg, ladd, lsub, lmul, lneg, zltT, zltF, zleT, zleF, zeqT, zeqF, zidx, ixT, zwide, bIT, bIF, if_true, if_false, ↓reduceIte, Nat.reduceAdd, Int.reduceAdd, Int.reduceMul, Int.reduceSub, Int.reduceNeg, cs_c, cs_o, cs_2, cu_c, cu_o, Int.cast_ofNat_Int, ps_f, ps_g, ps_w, ps_o, ps_2, pu_f, pu_g, pu_w, pu_o, uI_s, uI_o, uI_j, uI_j1, uI_j2, uI_tw, or0, true_or, or_true, false_or, or_false, nar0, nar1, q0, q1, q2, q5, q6, q7, q8, q9, q3, q4, qd, qa, qb, qc, qs, c_hasRoad hM, f6, f10, e1, e2]
  · rw [if_neg w]
    simp (disch := first | omega | assumption) only [↓lt, Option.bind_some, zl, ll, zadd, zsub, zmul, zneg, ladd, lsub, lmul, lneg, zltT, zltF, zleT, zleF, zeqT, zeqF, zidx, ixT, zwide, bIT, bIF, if_true, if_false, ↓reduceIte, Nat.reduceAdd, Int.reduceAdd, Int.reduceMul, Int.reduceSub, Int.reduceNeg, cs_c, cs_o, cs_2, cu_c, cu_o, Int.cast_ofNat_Int, ps_f, ps_g, ps_w, ps_o, ps_2, pu_f, pu_g, pu_w, pu_o, uI_s, uI_o, uI_j, uI_j1, uI_j2, uI_tw, or0, true_or, or_true, false_or, or_false, nar0, nar1, q0, q1, q2, q5, q6, q7, q8, q9, q3, q4, qd, qa, qb, qc, qs, c_hasRoad hM, f6, f10, e1, e2, e3]
/-- minutes to his goal, as the class reckons them -/
def toG (b : Int → Int) (p : Int) : Int := if dnI (b 3) (b 4) (pcQ b p) (b 5) (b (74 + p)) < 1000000000 then dQ b p else 1000000000
theorem c_toGoal {b : Int → Int} {p : Int} {L n : Nat} {M : KM} {g : Int → Int → Int → Int} (hL : HL M L b) (hb : WB b) (h1 : 0 ≤ p) (h2 : p < b 2) (hg : 0 ≤ b (66 + p)) (hl : b (82 + p) = -1) (f3 : g p 0 3 = 1 - b (106 + p)) (f4 : g p 0 4 = b (98 + p)) (f1 : g p 1 (b (122 + p)) = b (130 + 12 * p + b (122 + p))) (f6 : g p 0 6 = b (122 + p)) (f9 : g p 0 9 = -1) (f10 : g p 0 10 = b (74 + p)) : f_X2_minutesToGoal n L (zI p) (ps M L g) = some (zI (toG b p)) := by
  have hM := hL
  have hH := HL_H (g := g) hL
  obtain ⟨q0, q1, q2, q5, q6, q7, q8, q9, q3, q4, qd, qa, qb, qc, qs⟩ := hL
  have hh := hb.1
  unfold WH at hh
  have ep := WP_of hb h1 h2
  unfold WP at ep
  have hr : 0 ≤ b (122 + p) ∧ b (122 + p) < b 1 := by omega
  have hR := hb.2.1 _ hr.1 hr.2
  unfold WR at hR
  have ek : 1 ≤ b (74 + p) ∧ b (74 + p) ≤ 99 := by omega
  have hi : 0 ≤ b 1 ∧ b 1 ≤ 12 ∧ 0 ≤ b 2 ∧ b 2 ≤ 8 ∧ 0 ≤ b 5 ∧ b 5 ≤ 200000 := by omega
  have ew : pcQ b p = pcB b p (b (122 + p)) := by unfold pcQ; rw [wk_s (by omega)]
  have e1 := c_pace_l (n := n) hM hb h1 h2 hr.1 hr.2 f3 f4 f1
  rw [← ew] at e1
  have hpc : pcQ b p = 0 ∨ pcQ b p = 1 ∨ pcQ b p = 2 := pcB_r
  have e2 := c_doneAt (n := n) (s := b 5) (k := b (74 + p)) hH (by omega) (by omega) (by omega) (by omega) hi.2.2.2.2.1 ek.1 ek.2 (Or.inl (by omega)) hpc
  have e4 := dnI_b (f := b 3) (t := b 4) (s := b 5) (k := b (74 + p)) (by omega) (by omega) (by omega) (by omega) hi.2.2.2.2.1 (by omega) ek.1 ek.2 hpc
  clear ep hh hR
  unfold f_X2_minutesToGoal toG dQ
  generalize dnI (b 3) (b 4) (pcQ b p) (b 5) (b (74 + p)) = D at *
  by_cases w : D < 1000000000
  · rw [if_pos w]
    simp (disch := first | omega | assumption) only [↓lt, Option.bind_some, zl, ll, zadd, zsub, zmul, zneg, ladd, lsub, lmul, lneg, zltT, zltF, zleT, zleF, zeqT, zeqF, zidx, ixT, zwide, bIT, bIF, if_true, if_false, ↓reduceIte, Nat.reduceAdd, Int.reduceAdd, Int.reduceMul, Int.reduceSub, Int.reduceNeg, cs_c, cs_o, cs_2, cu_c, cu_o, Int.cast_ofNat_Int, ps_f, ps_g, ps_w, ps_o, ps_2, pu_f, pu_g, pu_w, pu_o, uI_s, uI_o, uI_j, uI_j1, uI_j2, uI_tw, or0, true_or, or_true, false_or, or_false, nar0, nar1, q0, q1, q2, q5, q6, q7, q8, q9, q3, q4, qd, qa, qb, qc, qs, c_hasRoad hM, c_hasPerson hM, f6, f9, f10, e1, e2]
  · rw [if_neg w]
    simp (disch := first | omega | assumption) only [↓lt, Option.bind_some, zl, ll, zadd, zsub, zmul, zneg, ladd, lsub, lmul, lneg, zltT, zltF, zleT, zleF, zeqT, zeqF, zidx, ixT, zwide, bIT, bIF, if_true, if_false, ↓reduceIte, Nat.reduceAdd, Int.reduceAdd, Int.reduceMul, Int.reduceSub, Int.reduceNeg, cs_c, cs_o, cs_2, cu_c, cu_o, Int.cast_ofNat_Int, ps_f, ps_g, ps_w, ps_o, ps_2, pu_f, pu_g, pu_w, pu_o, uI_s, uI_o, uI_j, uI_j1, uI_j2, uI_tw, or0, true_or, or_true, false_or, or_false, nar0, nar1, q0, q1, q2, q5, q6, q7, q8, q9, q3, q4, qd, qa, qb, qc, qs, c_hasRoad hM, c_hasPerson hM, f6, f9, f10, e1, e2]
def LO (b : Int → Int) (N q : Int) : Int := if b (74 + q) ≤ kQ b N q then dQ b q - b (74 + q) else N - kQ b N q
theorem LO_eq {b : Int → Int} {N q : Int} (hb : WB b) (hN : 0 ≤ N) (hN2 : N ≤ 300000) (h : goQ b q) : LOf (b 3) (b 4) b N q = LO b N q := by
  have e : dnI (b 3) (b 4) (pcQ b q) (b 5) (b (74 + q)) - b 5 ≤ N ↔ arQ b N q := d_c hb hN hN2 h
  unfold LOf LO
  by_cases w : b (74 + q) ≤ kQ b N q
  · rw [if_pos w, if_pos (e.mpr ⟨h, w⟩)]
    rfl
  · rw [if_neg w, if_neg (fun z => w (e.mp z).2)]
    rfl
theorem LO_wk {b : Int → Int} {N q : Int} (hb : WB b) (h : goQ b q) : LO b N (wkB b q) = LO b N q := by
  obtain ⟨-, w2, w3, -⟩ := wk_of hb h
  unfold LO kQ dQ
  rw [w2, w3]
theorem ar_wk {b : Int → Int} {N q : Int} (hb : WB b) (h : goQ b q) : arQ b N (wkB b q) ↔ arQ b N q := by
  obtain ⟨w1, w2, w3, -⟩ := wk_of hb h
  have e : kQ b N (wkB b q) = kQ b N q := by unfold kQ; rw [w2]
  constructor
  · intro z
    refine ⟨h, ?_⟩
    have := z.2
    rw [e, w3] at this
    exact this
  · intro z
    refine ⟨w1, ?_⟩
    rw [e, w3]
    exact z.2

