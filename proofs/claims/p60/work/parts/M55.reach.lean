/-! ===== reach ===== -/
theorem or0I : ∀ a c : Fin 8, ∀ p q : Bool, ((if p = true then zI 1 <<< (zI (a.val : Int) &&& zI 31) else zI 0) ||| (if q = true then zI 1 <<< (zI (c.val : Int) &&& zI 31) else zI 0) = zI 0) ↔ (p = false ∧ q = false) := by decide +kernel
theorem sb8_and : ∀ p0 p1 p2 p3 p4 p5 p6 p7 : Bool, sb8 p0 p1 p2 p3 p4 p5 p6 p7 &&& (zI 1 <<< (zI 0 &&& zI 31)) = (if p0 = true then zI 1 <<< (zI 0 &&& zI 31) else zI 0) ∧ sb8 p0 p1 p2 p3 p4 p5 p6 p7 &&& (zI 1 <<< (zI 1 &&& zI 31)) = (if p1 = true then zI 1 <<< (zI 1 &&& zI 31) else zI 0) ∧ sb8 p0 p1 p2 p3 p4 p5 p6 p7 &&& (zI 1 <<< (zI 2 &&& zI 31)) = (if p2 = true then zI 1 <<< (zI 2 &&& zI 31) else zI 0) ∧ sb8 p0 p1 p2 p3 p4 p5 p6 p7 &&& (zI 1 <<< (zI 3 &&& zI 31)) = (if p3 = true then zI 1 <<< (zI 3 &&& zI 31) else zI 0) ∧ sb8 p0 p1 p2 p3 p4 p5 p6 p7 &&& (zI 1 <<< (zI 4 &&& zI 31)) = (if p4 = true then zI 1 <<< (zI 4 &&& zI 31) else zI 0) ∧ sb8 p0 p1 p2 p3 p4 p5 p6 p7 &&& (zI 1 <<< (zI 5 &&& zI 31)) = (if p5 = true then zI 1 <<< (zI 5 &&& zI 31) else zI 0) ∧ sb8 p0 p1 p2 p3 p4 p5 p6 p7 &&& (zI 1 <<< (zI 6 &&& zI 31)) = (if p6 = true then zI 1 <<< (zI 6 &&& zI 31) else zI 0) ∧ sb8 p0 p1 p2 p3 p4 p5 p6 p7 &&& (zI 1 <<< (zI 7 &&& zI 31)) = (if p7 = true then zI 1 <<< (zI 7 &&& zI 31) else zI 0) := by decide +kernel
theorem setB_and {P : Int → Bool} {q : Int} (h1 : 0 ≤ q) (h2 : q < 8) : setB P 8 &&& (zI 1 <<< (zI q &&& zI 31)) = if P q = true then zI 1 <<< (zI q &&& zI 31) else zI 0 := by
  rw [sb8_of P]
  obtain ⟨e0, e1, e2, e3, e4, e5, e6, e7⟩ := sb8_and (P 0) (P 1) (P 2) (P 3) (P 4) (P 5) (P 6) (P 7)
  have : q = 0 ∨ q = 1 ∨ q = 2 ∨ q = 3 ∨ q = 4 ∨ q = 5 ∨ q = 6 ∨ q = 7 := by omega
  rcases this with rfl | rfl | rfl | rfl | rfl | rfl | rfl | rfl
  · exact e0
  · exact e1
  · exact e2
  · exact e3
  · exact e4
  · exact e5
  · exact e6
  · exact e7
theorem and_or32 (x y z : Int32) : x &&& (y ||| z) = (x &&& y) ||| (x &&& z) := by
  apply Int32.toBitVec_inj.mp
  simp only [Int32.toBitVec_and, Int32.toBitVec_or]
  refine BitVec.eq_of_getLsbD_eq (fun i h => ?_)
  simp only [BitVec.getLsbD_and, BitVec.getLsbD_or, Bool.and_or_distrib_left]
theorem setB_and2 {P : Int → Bool} {a c : Int} (h1 : 0 ≤ a) (h2 : a < 8) (h3 : 0 ≤ c) (h4 : c < 8) : (setB P 8 &&& ((zI 1 <<< (zI a &&& zI 31)) ||| (zI 1 <<< (zI c &&& zI 31))) = zI 0) ↔ (P a = false ∧ P c = false) := by
  rw [and_or32, setB_and h1 h2, setB_and h3 h4]
  have e := or0I ⟨a.toNat, by omega⟩ ⟨c.toNat, by omega⟩ (P a) (P c)
  simp only [Int.toNat_of_nonneg h1, Int.toNat_of_nonneg h3] at e
  exact e
theorem sb8_has : ∀ p0 p1 p2 p3 p4 p5 p6 p7 : Bool, ((sb8 p0 p1 p2 p3 p4 p5 p6 p7 >>> (zI 0 &&& zI 31)) &&& zI 1 = zI 1 ↔ p0 = true) ∧ ((sb8 p0 p1 p2 p3 p4 p5 p6 p7 >>> (zI 1 &&& zI 31)) &&& zI 1 = zI 1 ↔ p1 = true) ∧ ((sb8 p0 p1 p2 p3 p4 p5 p6 p7 >>> (zI 2 &&& zI 31)) &&& zI 1 = zI 1 ↔ p2 = true) ∧ ((sb8 p0 p1 p2 p3 p4 p5 p6 p7 >>> (zI 3 &&& zI 31)) &&& zI 1 = zI 1 ↔ p3 = true) ∧ ((sb8 p0 p1 p2 p3 p4 p5 p6 p7 >>> (zI 4 &&& zI 31)) &&& zI 1 = zI 1 ↔ p4 = true) ∧ ((sb8 p0 p1 p2 p3 p4 p5 p6 p7 >>> (zI 5 &&& zI 31)) &&& zI 1 = zI 1 ↔ p5 = true) ∧ ((sb8 p0 p1 p2 p3 p4 p5 p6 p7 >>> (zI 6 &&& zI 31)) &&& zI 1 = zI 1 ↔ p6 = true) ∧ ((sb8 p0 p1 p2 p3 p4 p5 p6 p7 >>> (zI 7 &&& zI 31)) &&& zI 1 = zI 1 ↔ p7 = true) := by decide +kernel
abbrev joins (b : Int → Int) (x r : Int) (P : Int → Bool) : Prop := canN b x r ∧ ¬ (P (b (10 + r)) = false ∧ P (b (22 + r)) = false)
def stR (b : Int → Int) (x r : Int) (P : Int → Bool) : Int → Bool := if joins b x r P then adA (adA P (b (10 + r))) (b (22 + r)) else P
theorem stR_t {b : Int → Int} {x r : Int} {P : Int → Bool} (h : joins b x r P) : stR b x r P = adA (adA P (b (10 + r))) (b (22 + r)) := if_pos h
theorem stR_f {b : Int → Int} {x r : Int} {P : Int → Bool} (h : ¬ joins b x r P) : stR b x r P = P := if_neg h
def psR (b : Int → Int) (x : Int) (P : Int → Bool) : Int → Bool := fI (stR b x) (b 1).toNat 0 P
theorem setB_ad {P : Int → Bool} {a c : Int} (h1 : 0 ≤ a) (h2 : a < 8) (h3 : 0 ≤ c) (h4 : c < 8) : setB P 8 ||| ((zI 1 <<< (zI a &&& zI 31)) ||| (zI 1 <<< (zI c &&& zI 31))) = setB (adA (adA P a) c) 8 := by
  rw [← Int32.or_assoc, setB_add (P := P) (Q := adA P a) h1 h2 adA_s (fun i hi => adA_o hi), setB_add (P := adA P a) (Q := adA (adA P a) c) h3 h4 adA_s (fun i hi => adA_o hi)]
theorem c_reachIn {b : Int → Int} {x : Int} {L n : Nat} {M : KM} {g : Int → Int → Int → Int} {c3 : Int32} {κ : Int32 → Option Int32} {P : Int → Bool} (hL : HL M L b) (hg : GR g b) (hb : WB b) (h1 : 0 ≤ x) (h2 : x < b 2) (hn : 60 < n) : lp_X2_reachSet_39 n L (zI x) c3 (ps M L g) (setB P 8) (zI 0) κ = κ (setB (psR b x P) 8) := by
  have hM := hL
  obtain ⟨q0, q1, q2, q5, q6, q7, q8, q9, q3, q4, qd, qa, qb, qc, qs⟩ := hL
  have hh := hb.1
  unfold WH at hh
  have hi : 0 ≤ b 0 ∧ b 0 ≤ 8 ∧ 0 ≤ b 1 ∧ b 1 ≤ 12 := by omega
  clear hh
  refine (loop_f (lp := fun k r P => lp_X2_reachSet_39 k L (zI x) c3 (ps M L g) (setB P 8) r κ) (f := stR b x) (fin := fun P => κ (setB P 8)) (fun _ _ => True) (N := 30) (R := b 1) (fun k r P hk u v _ => ⟨?_, trivial⟩) (fun k P _ _ => ?_) (b 1).toNat 0 P n (by omega) (by omega) (by omega) trivial).1
  · have hR := hb.2.1 r u v
    unfold WR at hR
    have ea := qa r u v
    have eb := qb r u v
    have i1 : 0 ≤ b (10 + r) ∧ b (10 + r) < 8 ∧ 0 ≤ b (22 + r) ∧ b (22 + r) < 8 := by omega
    have e2 := setB_and2 (P := P) i1.1 i1.2.1 i1.2.2.1 i1.2.2.2
    have e3 := setB_ad (P := P) i1.1 i1.2.1 i1.2.2.1 i1.2.2.2
    have ec := c_isAble (n := k) hM hg hb h1 h2 u v
    clear hR
    rw [lp_X2_reachSet_39]
    by_cases w : P (b (10 + r)) = false ∧ P (b (22 + r)) = false
    · rw [stR_f (fun z => z.2 w)]
      have e4 := e2.mpr w
      simp (disch := first | omega | assumption) only [↓lt, Option.bind_some, zl, ll, zadd, zsub, zmul, zneg, ladd, lsub, lmul, lneg, zltT, zltF, zleT, zleF, zeqT, zeqF, zidx, ixT, zwide, bIT, bIF, if_true, if_false, ↓reduceIte, Nat.reduceAdd, Int.reduceAdd, Int.reduceMul, Int.reduceSub, Int.reduceNeg, cs_c, cs_o, cs_2, cu_c, cu_o, Int.cast_ofNat_Int, ps_f, ps_g, ps_w, ps_o, ps_2, pu_f, pu_g, pu_w, pu_o, uI_s, uI_o, uI_j, uI_j1, uI_j2, uI_tw, or0, true_or, or_true, false_or, or_false, nar0, nar1, q1, ea, eb, e4]
    · have e4 : ¬ (setB P 8 &&& ((zI 1 <<< (zI (b (10 + r)) &&& zI 31)) ||| (zI 1 <<< (zI (b (22 + r)) &&& zI 31))) = zI 0) := fun z => w (e2.mp z)
      by_cases w2 : canN b x r
      · rw [stR_t ⟨w2, w⟩]
        rw [bIT w2] at ec
        simp (disch := first | omega | assumption) only [↓lt, Option.bind_some, zl, ll, zadd, zsub, zmul, zneg, ladd, lsub, lmul, lneg, zltT, zltF, zleT, zleF, zeqT, zeqF, zidx, ixT, zwide, bIT, bIF, if_true, if_false, ↓reduceIte, Nat.reduceAdd, Int.reduceAdd, Int.reduceMul, Int.reduceSub, Int.reduceNeg, cs_c, cs_o, cs_2, cu_c, cu_o, Int.cast_ofNat_Int, ps_f, ps_g, ps_w, ps_o, ps_2, pu_f, pu_g, pu_w, pu_o, uI_s, uI_o, uI_j, uI_j1, uI_j2, uI_tw, or0, true_or, or_true, false_or, or_false, nar0, nar1, q1, ea, eb, e4, ec, e3]
      · rw [stR_f (fun z => w2 z.1)]
        rw [bIF w2] at ec
        simp (disch := first | omega | assumption) only [↓lt, Option.bind_some, zl, ll, zadd, zsub, zmul, zneg, ladd, lsub, lmul, lneg, zltT, zltF, zleT, zleF, zeqT, zeqF, zidx, ixT, zwide, bIT, bIF, if_true, if_false, ↓reduceIte, Nat.reduceAdd, Int.reduceAdd, Int.reduceMul, Int.reduceSub, Int.reduceNeg, cs_c, cs_o, cs_2, cu_c, cu_o, Int.cast_ofNat_Int, ps_f, ps_g, ps_w, ps_o, ps_2, pu_f, pu_g, pu_w, pu_o, uI_s, uI_o, uI_j, uI_j1, uI_j2, uI_tw, or0, true_or, or_true, false_or, or_false, nar0, nar1, q1, ea, eb, e4, ec]
  · rw [lp_X2_reachSet_39]
    simp (disch := first | omega | assumption) only [↓lt, Option.bind_some, zl, ll, zadd, zsub, zmul, zneg, ladd, lsub, lmul, lneg, zltT, zltF, zleT, zleF, zeqT, zeqF, zidx, ixT, zwide, bIT, bIF, if_true, if_false, ↓reduceIte, Nat.reduceAdd, Int.reduceAdd, Int.reduceMul, Int.reduceSub, Int.reduceNeg, cs_c, cs_o, cs_2, cu_c, cu_o, Int.cast_ofNat_Int, ps_f, ps_g, ps_w, ps_o, ps_2, pu_f, pu_g, pu_w, pu_o, uI_s, uI_o, uI_j, uI_j1, uI_j2, uI_tw, or0, true_or, or_true, false_or, or_false, nar0, nar1, q1]
