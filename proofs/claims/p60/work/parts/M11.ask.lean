/-- the first road that q can go from where he is; -1: none -/
def lvB (b : Int → Int) (q : Int) : Int := fstI (fun r => decide ((b (10 + r) = b (58 + q) ∨ b (22 + r) = b (58 + q)) ∧ canN b q r)) (b 1).toNat 0
theorem c_canLeave {b : Int → Int} {q : Int} {L n : Nat} {M : KM} {g : Int → Int → Int → Int} (hL : HL M L b) (hg : GR g b) (hb : WB b) (h1 : 0 ≤ q) (h2 : q < b 2) (h3 : b (66 + q) < 0) (hn : 20 < n) : f_X2_canLeave n L (zI q) (ps M L g) = some (zI (if lvB b q = -1 then 0 else 1)) := by
  have hM := hL
  have hh := hb.1
  unfold WH at hh
  have e := hg.1 q h1 h2
  unfold GP at e
  have e2 := WP_of hb h1 h2
  unfold WP at e2
  have e3 : g q 0 5 = b (58 + q) := by omega
  obtain ⟨q0, q1, q2, q5, q6, q7, q8, q9, q3, q4, qd, qa, qb, qc, qs⟩ := hM
  unfold f_X2_canLeave lvB
  rw [show (0 : Int32) = zI 0 from rfl]
  refine loop_fst (lp := fun n i => lp_X2_canLeave_2 n L (zI q) (ps M L g) i) (P := fun r => decide ((b (10 + r) = b (58 + q) ∨ b (22 + r) = b (58 + q)) ∧ canN b q r)) (res := fun i => some (zI (if i = -1 then 0 else 1))) (N := 0) (R := b 1) ?_ ?_ _ 0 n (by omega) (by omega) (by omega)
  · intro n i _ h4 h5
    have e1 := hb.2.1 i h4 h5
    unfold WR at e1
    by_cases w : (b (10 + i) = b (58 + q) ∨ b (22 + i) = b (58 + q)) ∧ canN b q i
    · rw [if_pos (decide_eq_true w), if_neg (by omega), lp_X2_canLeave_2]
      obtain ⟨w1, w2⟩ := w
      by_cases w3 : b (10 + i) = b (58 + q)
      · simp (disch := first | omega | assumption) only [lt, Option.bind_some, zl, ll, zadd, zsub, zmul, zneg, ladd, lsub, lmul, lneg, zltT, zltF, zleT, zleF, zeqT, zeqF, zidx, ixT, zwide, bIT, bIF, if_true, if_false, ↓reduceIte, Nat.reduceAdd, Int.reduceAdd, Int.reduceMul, Int.reduceSub, Int.reduceNeg, cs_c, cs_o, cs_2, cu_c, cu_o, Int.cast_ofNat_Int, ps_f, ps_g, ps_w, ps_o, ps_2, pu_f, pu_g, pu_w, pu_o, uI_s, uI_o, uI_j, uI_j1, uI_j2, uI_tw, or0, true_or, or_true, false_or, or_false, nar0, nar1, q0, q1, q2, q5, q6, q7, q8, q9, q3, q4, qd, qa, qb, qc, qs, e3, c_otherEnd hL hb, c_isAble hL hg hb, w3]
      · have w4 : b (22 + i) = b (58 + q) := by omega
        simp (disch := first | omega | assumption) only [lt, Option.bind_some, zl, ll, zadd, zsub, zmul, zneg, ladd, lsub, lmul, lneg, zltT, zltF, zleT, zleF, zeqT, zeqF, zidx, ixT, zwide, bIT, bIF, if_true, if_false, ↓reduceIte, Nat.reduceAdd, Int.reduceAdd, Int.reduceMul, Int.reduceSub, Int.reduceNeg, cs_c, cs_o, cs_2, cu_c, cu_o, Int.cast_ofNat_Int, ps_f, ps_g, ps_w, ps_o, ps_2, pu_f, pu_g, pu_w, pu_o, uI_s, uI_o, uI_j, uI_j1, uI_j2, uI_tw, or0, true_or, or_true, false_or, or_false, nar0, nar1, q0, q1, q2, q5, q6, q7, q8, q9, q3, q4, qd, qa, qb, qc, qs, e3, c_otherEnd hL hb, c_isAble hL hg hb, w3, w4]
    · rw [if_neg (fun z => w (of_decide_eq_true z)), lp_X2_canLeave_2]
      by_cases w3 : b (10 + i) = b (58 + q)
      · have w2 : ¬ canN b q i := fun z => w ⟨Or.inl w3, z⟩
        simp (disch := first | omega | assumption) only [lt, Option.bind_some, zl, ll, zadd, zsub, zmul, zneg, ladd, lsub, lmul, lneg, zltT, zltF, zleT, zleF, zeqT, zeqF, zidx, ixT, zwide, bIT, bIF, if_true, if_false, ↓reduceIte, Nat.reduceAdd, Int.reduceAdd, Int.reduceMul, Int.reduceSub, Int.reduceNeg, cs_c, cs_o, cs_2, cu_c, cu_o, Int.cast_ofNat_Int, ps_f, ps_g, ps_w, ps_o, ps_2, pu_f, pu_g, pu_w, pu_o, uI_s, uI_o, uI_j, uI_j1, uI_j2, uI_tw, or0, true_or, or_true, false_or, or_false, nar0, nar1, q0, q1, q2, q5, q6, q7, q8, q9, q3, q4, qd, qa, qb, qc, qs, e3, c_otherEnd hL hb, c_isAble hL hg hb, w3]
      · by_cases w4 : b (22 + i) = b (58 + q)
        · have w2 : ¬ canN b q i := fun z => w ⟨Or.inr w4, z⟩
          simp (disch := first | omega | assumption) only [lt, Option.bind_some, zl, ll, zadd, zsub, zmul, zneg, ladd, lsub, lmul, lneg, zltT, zltF, zleT, zleF, zeqT, zeqF, zidx, ixT, zwide, bIT, bIF, if_true, if_false, ↓reduceIte, Nat.reduceAdd, Int.reduceAdd, Int.reduceMul, Int.reduceSub, Int.reduceNeg, cs_c, cs_o, cs_2, cu_c, cu_o, Int.cast_ofNat_Int, ps_f, ps_g, ps_w, ps_o, ps_2, pu_f, pu_g, pu_w, pu_o, uI_s, uI_o, uI_j, uI_j1, uI_j2, uI_tw, or0, true_or, or_true, false_or, or_false, nar0, nar1, q0, q1, q2, q5, q6, q7, q8, q9, q3, q4, qd, qa, qb, qc, qs, e3, c_otherEnd hL hb, c_isAble hL hg hb, w3, w4]
        · simp (disch := first | omega | assumption) only [lt, Option.bind_some, zl, ll, zadd, zsub, zmul, zneg, ladd, lsub, lmul, lneg, zltT, zltF, zleT, zleF, zeqT, zeqF, zidx, ixT, zwide, bIT, bIF, if_true, if_false, ↓reduceIte, Nat.reduceAdd, Int.reduceAdd, Int.reduceMul, Int.reduceSub, Int.reduceNeg, cs_c, cs_o, cs_2, cu_c, cu_o, Int.cast_ofNat_Int, ps_f, ps_g, ps_w, ps_o, ps_2, pu_f, pu_g, pu_w, pu_o, uI_s, uI_o, uI_j, uI_j1, uI_j2, uI_tw, or0, true_or, or_true, false_or, or_false, nar0, nar1, q0, q1, q2, q5, q6, q7, q8, q9, q3, q4, qd, qa, qb, qc, qs, e3, c_otherEnd hL hb, c_isAble hL hg hb, w3, w4]
  · intro n _
    rw [lp_X2_canLeave_2]
    simp (disch := first | omega | assumption) only [lt, Option.bind_some, zl, ll, zadd, zsub, zmul, zneg, ladd, lsub, lmul, lneg, zltT, zltF, zleT, zleF, zeqT, zeqF, zidx, ixT, zwide, bIT, bIF, if_true, if_false, ↓reduceIte, Nat.reduceAdd, Int.reduceAdd, Int.reduceMul, Int.reduceSub, Int.reduceNeg, cs_c, cs_o, cs_2, cu_c, cu_o, Int.cast_ofNat_Int, ps_f, ps_g, ps_w, ps_o, ps_2, pu_f, pu_g, pu_w, pu_o, uI_s, uI_o, uI_j, uI_j1, uI_j2, uI_tw, or0, true_or, or_true, false_or, or_false, nar0, nar1, q0, q1, q2, q5, q6, q7, q8, q9, q3, q4, qd, qa, qb, qc, qs]
def flF (P : Int → Bool) (r w : Int) : Int := if w = 0 then 0 else if P r = true then 0 else 1
theorem flF_0 {P : Int → Bool} {r : Int} : flF P r 0 = 0 := if_pos rfl
theorem flF_T {P : Int → Bool} {r w : Int} (h : P r = true) : flF P r w = 0 := by
  unfold flF; rw [if_pos h]; by_cases q : w = 0 <;> simp [q]
theorem flF_F {P : Int → Bool} {r : Int} (h : P r = false) : flF P r 1 = 1 := by
  unfold flF; rw [if_neg (by decide), if_neg (by rw [h]; decide)]
theorem fI_flag (P : Int → Bool) : ∀ (k : Nat) (i : Int) (w : Int), 0 ≤ i → fI (flF P) k i w = if w = 0 then 0 else if k = 0 then w else if fstI P k i = -1 then 1 else 0 := by
  intro k
  induction k with
  | zero => intro i w _; simp only [fI, if_true]; by_cases h : w = 0 <;> simp [h]
  | succ k ih =>
    intro i w hi
    simp only [fI, fstI]
    rw [ih (i + 1) _ (by omega)]
    unfold flF
    by_cases h : w = 0
    · simp [h]
    · by_cases h2 : P i = true
      · have h3 : ¬ i = -1 := by omega
        simp [h, h2, h3]
      · by_cases h4 : k = 0
        · subst h4
          simp [h, h2, fstI]
        · simp [h, h2, h4]
