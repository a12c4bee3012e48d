/-! ===== pour ===== -/
/-- many numbers from s on come to d on, as they were -/
def cpJ (M : KM) (s d lo hi : Int) : KM := (M.1, (fun (c j : Nat) => if c = 230 ∧ d + lo ≤ (j : Int) ∧ (j : Int) < d + hi then M.2.1 230 ((j : Int) - d + s).toNat else M.2.1 c j), M.2.2)
theorem cpJ_i {M : KM} {s d lo hi : Int} : (cpJ M s d lo hi).1 = M.1 := rfl
theorem cpJ_0 {M : KM} {s d lo : Int} : cpJ M s d lo lo = M := by
  refine Prod.ext rfl (Prod.ext ?_ rfl)
  funext c j
  show (if _ then _ else _) = _
  rw [if_neg (by omega)]
theorem cpJ_up {M : KM} {s d k : Int} (hs : 0 ≤ s) (hd : 0 ≤ d) (hk : 0 ≤ k) (h : s ≥ d ∨ s + k < d) : uJ (cpJ M s d 0 k) 230 (d + k).toNat ((cpJ M s d 0 k).2.1 230 (s + k).toNat) = cpJ M s d 0 (k + 1) := by
  refine Prod.ext rfl (Prod.ext ?_ rfl)
  funext c j
  show (uJ _ _ _ _).2.1 c j = (if _ then _ else _)
  by_cases w : c = 230 ∧ j = (d + k).toNat
  · rw [w.1, w.2, uJ_s, if_pos (by omega)]
    show (if _ then _ else _) = _
    rw [if_neg (by omega)]
    exact congrArg (M.2.1 230) (by omega)
  · rw [uJ_o w]
    show (if _ then _ else _) = _
    by_cases v : c = 230 ∧ d + 0 ≤ (j : Int) ∧ (j : Int) < d + k
    · rw [if_pos v, if_pos (by omega)]
    · rw [if_neg v, if_neg (by omega)]
theorem cpJ_dn {M : KM} {s d m k : Int} (hs : 0 ≤ s) (hd : 0 ≤ d) (hk : 0 ≤ k) (hm : k < m) (h : s < d ∨ d + m ≤ s) : uJ (cpJ M s d (m - k) m) 230 (d + (m - 1 - k)).toNat ((cpJ M s d (m - k) m).2.1 230 (s + (m - 1 - k)).toNat) = cpJ M s d (m - (k + 1)) m := by
  refine Prod.ext rfl (Prod.ext ?_ rfl)
  funext c j
  show (uJ _ _ _ _).2.1 c j = (if _ then _ else _)
  by_cases w : c = 230 ∧ j = (d + (m - 1 - k)).toNat
  · rw [w.1, w.2, uJ_s, if_pos (by omega)]
    show (if _ then _ else _) = _
    rw [if_neg (by omega)]
    exact congrArg (M.2.1 230) (by omega)
  · rw [uJ_o w]
    show (if _ then _ else _) = _
    by_cases v : c = 230 ∧ d + (m - k) ≤ (j : Int) ∧ (j : Int) < d + m
    · rw [if_pos v, if_pos (by omega)]
    · rw [if_neg v, if_neg (by omega)]
theorem m_pourLoop {x i u j m w : Int} {n : Nat} {L : Nat} {g : Int → Int → Int → Int} {b : Int → Int} {W : KM} (hx : 0 ≤ x ∧ x < 4) (hu : 0 ≤ u ∧ u < 4) (hi : 0 ≤ i) (hj : 0 ≤ j) (hm : 0 ≤ m) (h1 : i + m ≤ 60) (h2 : j + m ≤ 60) (hw : (i < j ∧ w = 1) ∨ (j ≤ i ∧ w = 0)) (hn : 100 ≤ n) : lp_X12_pour_158 n 227 (zI x) (zI i) (zI u) (zI j) (zI m) (zI w) (zI 0) (cs (ps W L g) b) = some (zI 1, cs (ps (cpJ W (60 * x + i) (60 * u + j) 0 m) L g) b) := by
  rcases hw with ⟨h3, rfl⟩ | ⟨h3, rfl⟩
  · have e := (loop_f (lp := fun n k V => lp_X12_pour_158 n 227 (zI x) (zI i) (zI u) (zI j) (zI m) (zI 1) k (cs (ps V L g) b)) (f := fun k V => uJ V 230 (60 * u + j + (m - 1 - k)).toNat (V.2.1 230 (60 * x + i + (m - 1 - k)).toNat)) (fin := fun V => some (zI 1, cs (ps V L g) b)) (fun k V => V = cpJ W (60 * x + i) (60 * u + j) (m - k) m) (N := 0) (R := m) (fun n k V _ h4 h5 hv => ⟨by
      rw [lp_X12_pour_158]
      simp (disch := first | omega | assumption) only [↓lt, Option.bind_some, zl, ll, zadd, zsub, zmul, zneg, ladd, lsub, lmul, lneg, zltT, zltF, zleT, zleF, zeqT, zeqF, zidx, ixT, zwide, bIT, bIF, if_true, if_false, ↓reduceIte, Nat.reduceAdd, Int.reduceAdd, Int.reduceMul, Int.reduceSub, Int.reduceNeg, cs_c, cs_o, cs_2, cu_c, cu_o, Int.cast_ofNat_Int, ps_f, ps_g, ps_w, ps_o, ps_2, pu_f, pu_g, pu_w, pu_o, uI_s, uI_o, uI_j, uI_j1, uI_j2, uI_tw, or0, true_or, or_true, false_or, or_false, nar0, nar1, psJ, csJ, uJ_i, uJ_r, uJ_s, uJ_o], by rw [hv]; exact cpJ_dn (by omega) (by omega) h4 h5 (by omega)⟩) (fun n V _ _ => by
      rw [lp_X12_pour_158]
      simp (disch := first | omega | assumption) only [↓lt, Option.bind_some, zl, ll, zadd, zsub, zmul, zneg, ladd, lsub, lmul, lneg, zltT, zltF, zleT, zleF, zeqT, zeqF, zidx, ixT, zwide, bIT, bIF, if_true, if_false, ↓reduceIte, Nat.reduceAdd, Int.reduceAdd, Int.reduceMul, Int.reduceSub, Int.reduceNeg, cs_c, cs_o, cs_2, cu_c, cu_o, Int.cast_ofNat_Int, ps_f, ps_g, ps_w, ps_o, ps_2, pu_f, pu_g, pu_w, pu_o, uI_s, uI_o, uI_j, uI_j1, uI_j2, uI_tw, or0, true_or, or_true, false_or, or_false, nar0, nar1]) m.toNat 0 W n (by omega) (by omega) (by omega) (by rw [Int.sub_zero]; exact cpJ_0.symm))
    refine e.1.trans ?_
    rw [e.2, show m - m = 0 by omega]
  · have e := (loop_f (lp := fun n k V => lp_X12_pour_158 n 227 (zI x) (zI i) (zI u) (zI j) (zI m) (zI 0) k (cs (ps V L g) b)) (f := fun k V => uJ V 230 (60 * u + j + k).toNat (V.2.1 230 (60 * x + i + k).toNat)) (fin := fun V => some (zI 1, cs (ps V L g) b)) (fun k V => V = cpJ W (60 * x + i) (60 * u + j) 0 k) (N := 0) (R := m) (fun n k V _ h4 h5 hv => ⟨by
      rw [lp_X12_pour_158]
      simp (disch := first | omega | assumption) only [↓lt, Option.bind_some, zl, ll, zadd, zsub, zmul, zneg, ladd, lsub, lmul, lneg, zltT, zltF, zleT, zleF, zeqT, zeqF, zidx, ixT, zwide, bIT, bIF, if_true, if_false, ↓reduceIte, Nat.reduceAdd, Int.reduceAdd, Int.reduceMul, Int.reduceSub, Int.reduceNeg, cs_c, cs_o, cs_2, cu_c, cu_o, Int.cast_ofNat_Int, ps_f, ps_g, ps_w, ps_o, ps_2, pu_f, pu_g, pu_w, pu_o, uI_s, uI_o, uI_j, uI_j1, uI_j2, uI_tw, or0, true_or, or_true, false_or, or_false, nar0, nar1, psJ, csJ, uJ_i, uJ_r, uJ_s, uJ_o], by rw [hv]; exact cpJ_up (by omega) (by omega) h4 (by omega)⟩) (fun n V _ _ => by
      rw [lp_X12_pour_158]
      simp (disch := first | omega | assumption) only [↓lt, Option.bind_some, zl, ll, zadd, zsub, zmul, zneg, ladd, lsub, lmul, lneg, zltT, zltF, zleT, zleF, zeqT, zeqF, zidx, ixT, zwide, bIT, bIF, if_true, if_false, ↓reduceIte, Nat.reduceAdd, Int.reduceAdd, Int.reduceMul, Int.reduceSub, Int.reduceNeg, cs_c, cs_o, cs_2, cu_c, cu_o, Int.cast_ofNat_Int, ps_f, ps_g, ps_w, ps_o, ps_2, pu_f, pu_g, pu_w, pu_o, uI_s, uI_o, uI_j, uI_j1, uI_j2, uI_tw, or0, true_or, or_true, false_or, or_false, nar0, nar1]) m.toNat 0 W n (by omega) (by omega) (by omega) cpJ_0.symm)
    refine e.1.trans ?_
    rw [e.2]
theorem c_hasRun {a : Nat} {y m l : Int} {M : KM} (h1 : -2147483648 ≤ y) (h2 : y < 2147483648) (h3 : 0 ≤ m) (h4 : m < 2147483648) (hl : 0 ≤ l) (hl2 : l ≤ 60) (h : M.1 a 2 = zI l) : f_X10_hasRun a (zI y) (zI m) M = bI (0 ≤ y ∧ y + m ≤ l) := by
  unfold f_X10_hasRun
  by_cases w1 : 0 ≤ y
  · by_cases w2 : y ≤ l
    · by_cases w3 : y + m ≤ l
      · simp (disch := first | omega | assumption) only [↓lt, Option.bind_some, zl, ll, zadd, zsub, zmul, zneg, ladd, lsub, lmul, lneg, zltT, zltF, zleT, zleF, zeqT, zeqF, zidx, ixT, zwide, bIT, bIF, if_true, if_false, ↓reduceIte, Nat.reduceAdd, Int.reduceAdd, Int.reduceMul, Int.reduceSub, Int.reduceNeg, cs_c, cs_o, cs_2, cu_c, cu_o, Int.cast_ofNat_Int, ps_f, ps_g, ps_w, ps_o, ps_2, pu_f, pu_g, pu_w, pu_o, uI_s, uI_o, uI_j, uI_j1, uI_j2, uI_tw, or0, true_or, or_true, false_or, or_false, nar0, nar1, h]
      · simp (disch := first | omega | assumption) only [↓lt, Option.bind_some, zl, ll, zadd, zsub, zmul, zneg, ladd, lsub, lmul, lneg, zltT, zltF, zleT, zleF, zeqT, zeqF, zidx, ixT, zwide, bIT, bIF, if_true, if_false, ↓reduceIte, Nat.reduceAdd, Int.reduceAdd, Int.reduceMul, Int.reduceSub, Int.reduceNeg, cs_c, cs_o, cs_2, cu_c, cu_o, Int.cast_ofNat_Int, ps_f, ps_g, ps_w, ps_o, ps_2, pu_f, pu_g, pu_w, pu_o, uI_s, uI_o, uI_j, uI_j1, uI_j2, uI_tw, or0, true_or, or_true, false_or, or_false, nar0, nar1, h]
    · simp (disch := first | omega | assumption) only [↓lt, Option.bind_some, zl, ll, zadd, zsub, zmul, zneg, ladd, lsub, lmul, lneg, zltT, zltF, zleT, zleF, zeqT, zeqF, zidx, ixT, zwide, bIT, bIF, if_true, if_false, ↓reduceIte, Nat.reduceAdd, Int.reduceAdd, Int.reduceMul, Int.reduceSub, Int.reduceNeg, cs_c, cs_o, cs_2, cu_c, cu_o, Int.cast_ofNat_Int, ps_f, ps_g, ps_w, ps_o, ps_2, pu_f, pu_g, pu_w, pu_o, uI_s, uI_o, uI_j, uI_j1, uI_j2, uI_tw, or0, true_or, or_true, false_or, or_false, nar0, nar1, h]
  · simp (disch := first | omega | assumption) only [↓lt, Option.bind_some, zl, ll, zadd, zsub, zmul, zneg, ladd, lsub, lmul, lneg, zltT, zltF, zleT, zleF, zeqT, zeqF, zidx, ixT, zwide, bIT, bIF, if_true, if_false, ↓reduceIte, Nat.reduceAdd, Int.reduceAdd, Int.reduceMul, Int.reduceSub, Int.reduceNeg, cs_c, cs_o, cs_2, cu_c, cu_o, Int.cast_ofNat_Int, ps_f, ps_g, ps_w, ps_o, ps_2, pu_f, pu_g, pu_w, pu_o, uI_s, uI_o, uI_j, uI_j1, uI_j2, uI_tw, or0, true_or, or_true, false_or, or_false, nar0, nar1, h]
theorem lg_le {a b : Int} (h1 : -9223372036854775808 ≤ a) (h2 : a < 9223372036854775808) (h3 : -9223372036854775808 ≤ b) (h4 : b < 9223372036854775808) : (lg_cmp (lI a) (lI b) ≤ 0) = (a ≤ b) := by
  have e := lg_gt h1 h2 h3 h4
  by_cases w : a ≤ b
  · have : ¬ (0 < lg_cmp (lI a) (lI b)) := by rw [e]; omega
    refine propext ⟨fun _ => w, fun _ => ?_⟩
    rw [Int32.le_iff_toInt_le]
    rw [Int32.lt_iff_toInt_lt] at this
    omega
  · have : 0 < lg_cmp (lI a) (lI b) := by rw [e]; omega
    refine propext ⟨fun z => ?_, fun z => absurd z w⟩
    rw [Int32.le_iff_toInt_le] at z
    rw [Int32.lt_iff_toInt_lt] at this
    omega
theorem gT {a b : Int} (h : -1000000000000 < a ∧ a < 1000000000000 ∧ -1000000000000 < b ∧ b < 1000000000000 ∧ b < a) : (zI 0 < lg_cmp (lI a) (lI b)) = True := (lg_gt (by omega) (by omega) (by omega) (by omega)).trans (eq_true h.2.2.2.2)
theorem gF {a b : Int} (h : -1000000000000 < a ∧ a < 1000000000000 ∧ -1000000000000 < b ∧ b < 1000000000000 ∧ ¬ b < a) : (zI 0 < lg_cmp (lI a) (lI b)) = False := (lg_gt (by omega) (by omega) (by omega) (by omega)).trans (eq_false h.2.2.2.2)
theorem eT {a b : Int} (h : -1000000000000 < a ∧ a < 1000000000000 ∧ -1000000000000 < b ∧ b < 1000000000000 ∧ a ≤ b) : (lg_cmp (lI a) (lI b) ≤ zI 0) = True := (lg_le (by omega) (by omega) (by omega) (by omega)).trans (eq_true h.2.2.2.2)
theorem eF {a b : Int} (h : -1000000000000 < a ∧ a < 1000000000000 ∧ -1000000000000 < b ∧ b < 1000000000000 ∧ ¬ a ≤ b) : (lg_cmp (lI a) (lI b) ≤ zI 0) = False := (lg_le (by omega) (by omega) (by omega) (by omega)).trans (eq_false h.2.2.2.2)
theorem uJs_ps {M : KM} {L a : Nat} {g : Int → Int → Int → Int} {f : Nat → Int64} : uJs (ps M L g) a f = ps (uJs M a f) L g := rfl
theorem uJs_cs {M : KM} {a : Nat} {b : Int → Int} {f : Nat → Int64} : uJs (cs M b) a f = cs (uJs M a f) b := rfl
theorem k_pour (p q r s t : Int32) (n : Nat) (hn : 200 ≤ n) : OKm (f_X11_pour n 0 p q r s t) (f_X12_pour n 227 p q r s t) := by
  obtain ⟨x, hx1, hx2, rfl⟩ := z_ex p
  obtain ⟨i, hi1, hi2, rfl⟩ := z_ex q
  obtain ⟨u, hu1, hu2, rfl⟩ := z_ex r
  obtain ⟨j, hj1, hj2, rfl⟩ := z_ex s
  obtain ⟨m, hm1, hm2, rfl⟩ := z_ex t
  refine ok_cr (fun M L g b hO => ?_)
  have hO2 := hO
  have hq := Ptr_P hO.1
  obtain ⟨hP, hL, hg, hb, hm, hC⟩ := hO; have hp0 : M.2.2 0 10 = L := hP.1; have hl := Ptr_L hP; have hT := TR_at hl hC
  obtain ⟨l1, a1, a2, a3, a4, a5⟩ := TR_m hT x
  obtain ⟨l2, b1, b2, b3, b4, b5⟩ := TR_m hT u
  clear hb hg hL hm
  by_cases w1 : 0 ≤ x ∧ x < 4 ∧ 0 ≤ u ∧ u < 4
  · have a3 := a3 w1.1 w1.2.1
    have a4 := a4 w1.1 w1.2.1
    obtain ⟨s1, c1, c2, c3, c4, c5⟩ := a5 w1.1 w1.2.1
    have b3 := b3 w1.2.2.1 w1.2.2.2
    have b4 := b4 w1.2.2.1 w1.2.2.2
    obtain ⟨s2, d1, d2, d3, d4, d5⟩ := b5 w1.2.2.1 w1.2.2.2
    clear a5 b5
    have a3w : (ps (cs M b) L g).1 (0 + 1 + 104 + 2 * x.toNat) 2 = zI l1 := by rw [ps_o (by omega), cs_o (by omega)]; exact a3
    have b3w : (ps (cs M b) L g).1 (0 + 1 + 104 + 2 * u.toNat) 2 = zI l2 := by rw [ps_o (by omega), cs_o (by omega)]; exact b3
    by_cases w2 : 0 ≤ l1 ∧ 0 ≤ l2
    · by_cases w3 : s1 = s2
      · by_cases w4 : 0 ≤ m
        · have r1 : f_X10_hasRun (0 + 1 + 104 + 2 * x.toNat) (zI i) (zI m) (ps (cs M b) L g) = bI (0 ≤ i ∧ i + m ≤ l1) := c_hasRun hi1 hi2 w4 hm2 w2.1 (by omega) a3w
          have r2 : f_X10_hasRun (0 + 1 + 104 + 2 * u.toNat) (zI j) (zI m) (ps (cs M b) L g) = bI (0 ≤ j ∧ j + m ≤ l2) := c_hasRun hj1 hj2 w4 hm2 w2.2 (by omega) b3w
          by_cases w5 : 0 ≤ i ∧ 0 ≤ j ∧ i + m ≤ l1 ∧ j + m ≤ l2
          · refine ⟨zI 1, uI (uJs M (0 + 1 + 104 + 2 * u.toNat + 1) (va_cpy (M.2.1 (0 + 1 + 104 + 2 * x.toNat + 1)) (M.2.1 (0 + 1 + 104 + 2 * u.toNat + 1)) i.toNat j.toNat m.toNat)) 0 15 (zI 0), cpJ (uI (uI (uI (uJs M (0 + 1 + 104 + 2 * u.toNat + 1) (va_cpy (M.2.1 (0 + 1 + 104 + 2 * x.toNat + 1)) (M.2.1 (0 + 1 + 104 + 2 * u.toNat + 1)) i.toNat j.toNat m.toNat)) 0 15 (zI 0)) 227 1 (zI 0)) 227 0 (zI 0)) (60 * x + i) (60 * u + j) 0 m, ?_, ?_, ?_, ?_, ?_, ?_⟩
            · unfold f_X11_pour f_X10_isMissing
              simp (disch := first | omega | assumption) only [↓lt, Option.bind_some, zl, c_isTray, bIT, zeqF, zeqT, zltF, zleT, if_false, if_true, ↓reduceIte, ixT, zidx, ps_o, cs_o, ps_2, cs_2, a3, b3, c3, d3, zneg, bIF, r1, r2, and_true, true_and, and_self, not_false_eq_true, uJs_ps, uJs_cs, cu_o, pu_o, f_X11_succeed]
              rw [if_pos ⟨by omega, by omega⟩]
            · have e := fun (V : KM) (w : Int) (hw : (i < j ∧ w = 1) ∨ (j ≤ i ∧ w = 0)) => m_pourLoop (x := x) (i := i) (u := u) (j := j) (m := m) (w := w) (n := n) (L := L) (g := g) (b := b) (W := V) ⟨w1.1, w1.2.1⟩ w1.2.2 w5.1 w5.2.1 w4 (by omega) (by omega) hw (by omega)
              have a4' : (uJs M (0 + 1 + 104 + 2 * u.toNat + 1) (va_cpy (M.2.1 (0 + 1 + 104 + 2 * x.toNat + 1)) (M.2.1 (0 + 1 + 104 + 2 * u.toNat + 1)) i.toNat j.toNat m.toNat)).1 229 x.toNat = zI l1 := a4
              have b4' : (uJs M (0 + 1 + 104 + 2 * u.toNat + 1) (va_cpy (M.2.1 (0 + 1 + 104 + 2 * x.toNat + 1)) (M.2.1 (0 + 1 + 104 + 2 * u.toNat + 1)) i.toNat j.toNat m.toNat)).1 229 u.toNat = zI l2 := b4
              have c4' : (uJs M (0 + 1 + 104 + 2 * u.toNat + 1) (va_cpy (M.2.1 (0 + 1 + 104 + 2 * x.toNat + 1)) (M.2.1 (0 + 1 + 104 + 2 * u.toNat + 1)) i.toNat j.toNat m.toNat)).1 228 x.toNat = zI s1 := c4
              have d4' : (uJs M (0 + 1 + 104 + 2 * u.toNat + 1) (va_cpy (M.2.1 (0 + 1 + 104 + 2 * x.toNat + 1)) (M.2.1 (0 + 1 + 104 + 2 * u.toNat + 1)) i.toNat j.toNat m.toNat)).1 228 u.toNat = zI s2 := d4
              unfold f_X12_pour
              by_cases w6 : i < j
              · simp (disch := first | omega | assumption) only [↓lt, Option.bind_some, zl, zeqF, zeqT, zltF, zltT, zleT, zleF, if_false, if_true, ↓reduceIte, ixT, zidx, ps_o, cs_o, cu_o, pu_o, uI_o, Nat.reduceAdd, a4', b4', c4', d4', zwide, ladd, gT, gF, eT, eF]
                rw [e _ 1 (by omega)]
              · simp (disch := first | omega | assumption) only [↓lt, Option.bind_some, zl, zeqF, zeqT, zltF, zltT, zleT, zleF, if_false, if_true, ↓reduceIte, ixT, zidx, ps_o, cs_o, cu_o, pu_o, uI_o, Nat.reduceAdd, a4', b4', c4', d4', zwide, ladd, gT, gF, eT, eF]
                rw [e _ 0 (by omega)]
            · rw [cpJ_i, uI_o (by omega), uI_o (by omega), uI_s, uI_s]
            · rfl
            · intro a k h1 h2
              show (uI (uI (uI _ 0 15 _) 227 1 _) 227 0 (zI 0)).1 a k = _
              rw [uI_o (by omega), uI_o (by omega), uI_o (by omega)]
              rfl
            · have hJ : ∀ c k, (uJs M (0 + 1 + 104 + 2 * u.toNat + 1) (va_cpy (M.2.1 (0 + 1 + 104 + 2 * x.toNat + 1)) (M.2.1 (0 + 1 + 104 + 2 * u.toNat + 1)) i.toNat j.toNat m.toNat)).2.1 c k = if c = 0 + 1 + 104 + 2 * u.toNat + 1 then (if j.toNat ≤ k ∧ k < j.toNat + m.toNat then M.2.1 (0 + 1 + 104 + 2 * x.toNat + 1) (i.toNat + (k - j.toNat)) else M.2.1 (0 + 1 + 104 + 2 * u.toNat + 1) k) else M.2.1 c k := fun c k => by
                show (if c = 0 + 1 + 104 + 2 * u.toNat + 1 then va_cpy (M.2.1 (0 + 1 + 104 + 2 * x.toNat + 1)) (M.2.1 (0 + 1 + 104 + 2 * u.toNat + 1)) i.toNat j.toNat m.toNat else M.2.1 c) k = _
                by_cases v : c = 0 + 1 + 104 + 2 * u.toNat + 1
                · rw [if_pos v, if_pos v]; rfl
                · rw [if_neg v, if_neg v]
              refine CR_tr hO2 (fun a k h1 h2 h3 h4 h5 => ?_) (fun a k h1 h2 => ?_) rfl (fun t h1 h2 => ?_)
              · show (uI (uI (uI _ 0 15 _) 227 1 _) 227 0 (zI 0)).1 a k = _
                rw [uI_o (by omega), uI_o (by omega), uI_o (by omega)]
                rfl
              · show (if _ then _ else (uJs M _ _).2.1 a k) = _
                rw [if_neg (by omega), hJ, if_neg (by omega)]
              · obtain ⟨s', m', f1, f2, f3, f4, f5, f6, f7, f8, f9⟩ := hT t h1 h2
                have hI : ∀ a k, (105 ≤ a ∧ a < 113 ∨ a = 228 ∨ a = 229) → (uI (uI (uI (uJs M (0 + 1 + 104 + 2 * u.toNat + 1) (va_cpy (M.2.1 (0 + 1 + 104 + 2 * x.toNat + 1)) (M.2.1 (0 + 1 + 104 + 2 * u.toNat + 1)) i.toNat j.toNat m.toNat)) 0 15 (zI 0)) 227 1 (zI 0)) 227 0 (zI 0)).1 a k = M.1 a k := fun a k h => by
                  rw [uI_o (by omega), uI_o (by omega), uI_o (by omega)]
                  rfl
                refine ⟨s', m', f1, f2, f3, f4, (hI _ _ (by omega)).trans f5, (hI _ _ (by omega)).trans f6, (hI _ _ (by omega)).trans f7, (hI _ _ (by omega)).trans f8, fun k h3 h4 => ?_⟩
                show (if _ then _ else (uJs M _ _).2.1 _ _) = (if _ then (uJs M _ _).2.1 _ _ else (uJs M _ _).2.1 _ _)
                rw [if_neg (by omega), hJ]
                by_cases v : t = u
                · subst v
                  rw [if_pos (by omega)]
                  by_cases v2 : j.toNat ≤ k.toNat ∧ k.toNat < j.toNat + m.toNat
                  · rw [if_pos v2, if_pos (by omega), hJ, if_neg (by omega)]
                    have e := c5 (i + (k - j)) (by omega) (by omega)
                    rw [show i.toNat + (k.toNat - j.toNat) = (i + (k - j)).toNat by omega, e]
                    exact congrArg (M.2.1 230) (by omega)
                  · rw [if_neg v2, if_neg (by omega), hJ, if_neg (by omega)]
                    have e := f9 k h3 h4
                    rw [show 0 + 1 + 104 + 2 * t.toNat + 1 = 1 + 104 + 2 * t.toNat + 1 by omega]
                    exact e
                · rw [if_neg (by omega), if_neg (by omega), hJ, if_neg (by omega)]
                  exact f9 k h3 h4
          · refine cr_no (c := f_X11_pour n 0 (zI x) (zI i) (zI u) (zI j) (zI m)) (m := f_X12_pour n 227 (zI x) (zI i) (zI u) (zI j) (zI m)) hO2 (r := zI 0) (s := zI 4) ?_ ?_
            · unfold f_X11_pour f_X10_isMissing
              by_cases v : 0 ≤ i ∧ i + m ≤ l1
              · simp (disch := first | omega | assumption) only [↓lt, Option.bind_some, zl, c_isTray, bIT, bIF, zeqF, zeqT, zltF, zleT, if_false, if_true, ↓reduceIte, ixT, zidx, ps_o, cs_o, ps_2, cs_2, a3, b3, c3, d3, zneg, bIF, r1, r2, and_true, true_and, and_self, not_false_eq_true, pu_o, f_X11_deny]
              · simp (disch := first | omega | assumption) only [↓lt, Option.bind_some, zl, c_isTray, bIT, bIF, zeqF, zeqT, zltF, zleT, if_false, if_true, ↓reduceIte, ixT, zidx, ps_o, cs_o, ps_2, cs_2, a3, b3, c3, d3, zneg, bIF, r1, r2, and_true, true_and, and_self, not_false_eq_true, pu_o, f_X11_deny]
            · unfold f_X12_pour
              by_cases v1 : 0 ≤ i
              · by_cases v2 : 0 ≤ j
                · simp (disch := first | omega | assumption) only [↓lt, Option.bind_some, zl, zeqF, zeqT, zltF, zltT, zleT, zleF, if_false, if_true, ↓reduceIte, ixT, zidx, ps_o, cs_o, cu_o, pu_o, uI_o, uI_tw, Nat.reduceAdd, a4, b4, c4, d4, zwide, ladd, f_X12_no]
                  by_cases v3 : l1 < i + m
                  · simp (disch := omega) only [gT, if_true]
                  · simp (disch := omega) only [gF, eF, if_false]
                · simp (disch := first | omega | assumption) only [↓lt, Option.bind_some, zl, zeqF, zeqT, zltF, zltT, zleT, zleF, if_false, if_true, ↓reduceIte, ixT, zidx, ps_o, cs_o, cu_o, pu_o, uI_o, uI_tw, Nat.reduceAdd, a4, b4, c4, d4, f_X12_no]
              · simp (disch := first | omega | assumption) only [↓lt, Option.bind_some, zl, zeqF, zeqT, zltF, zltT, zleT, zleF, if_false, if_true, ↓reduceIte, ixT, zidx, ps_o, cs_o, cu_o, pu_o, uI_o, uI_tw, Nat.reduceAdd, a4, b4, c4, d4, f_X12_no]
        · refine cr_no (c := f_X11_pour n 0 (zI x) (zI i) (zI u) (zI j) (zI m)) (m := f_X12_pour n 227 (zI x) (zI i) (zI u) (zI j) (zI m)) hO2 (r := zI 0) (s := zI 6) ?_ ?_
          · unfold f_X11_pour f_X10_isMissing
            simp (disch := first | omega | assumption) only [↓lt, Option.bind_some, zl, ll, zadd, zsub, zmul, zneg, ladd, lsub, lmul, lneg, zltT, zltF, zleT, zleF, zeqT, zeqF, zidx, ixT, zwide, bIT, bIF, if_true, if_false, ↓reduceIte, Nat.reduceAdd, Int.reduceAdd, Int.reduceMul, Int.reduceSub, Int.reduceNeg, cs_c, cs_o, cs_2, cu_c, cu_o, Int.cast_ofNat_Int, ps_f, ps_g, ps_w, ps_o, ps_2, pu_f, pu_g, pu_w, pu_o, uI_s, uI_o, uI_j, uI_j1, uI_j2, uI_tw, or0, true_or, or_true, false_or, or_false, nar0, nar1, f_X11_tell, f_X11_refuse, f_X11_tellIf, f_X11_tellOrNone, f_X11_deny, f_X11_succeed, f_X12_refuse, f_X12_no, hp0, c_isTray, a3, b3, c3, d3]
          · unfold f_X12_pour
            simp (disch := first | omega | assumption) only [↓lt, Option.bind_some, zl, ll, zadd, zsub, zmul, zneg, ladd, lsub, lmul, lneg, zltT, zltF, zleT, zleF, zeqT, zeqF, zidx, ixT, zwide, bIT, bIF, if_true, if_false, ↓reduceIte, Nat.reduceAdd, Int.reduceAdd, Int.reduceMul, Int.reduceSub, Int.reduceNeg, cs_c, cs_o, cs_2, cu_c, cu_o, Int.cast_ofNat_Int, ps_f, ps_g, ps_w, ps_o, ps_2, pu_f, pu_g, pu_w, pu_o, uI_s, uI_o, uI_j, uI_j1, uI_j2, uI_tw, or0, true_or, or_true, false_or, or_false, nar0, nar1, f_X11_tell, f_X11_refuse, f_X11_tellIf, f_X11_tellOrNone, f_X11_deny, f_X11_succeed, f_X12_refuse, f_X12_no, hp0, a4, b4, c4, d4]
      · refine cr_no (c := f_X11_pour n 0 (zI x) (zI i) (zI u) (zI j) (zI m)) (m := f_X12_pour n 227 (zI x) (zI i) (zI u) (zI j) (zI m)) hO2 (r := zI 0) (s := zI 11) ?_ ?_
        · unfold f_X11_pour f_X10_isMissing
          simp (disch := first | omega | assumption) only [↓lt, Option.bind_some, zl, ll, zadd, zsub, zmul, zneg, ladd, lsub, lmul, lneg, zltT, zltF, zleT, zleF, zeqT, zeqF, zidx, ixT, zwide, bIT, bIF, if_true, if_false, ↓reduceIte, Nat.reduceAdd, Int.reduceAdd, Int.reduceMul, Int.reduceSub, Int.reduceNeg, cs_c, cs_o, cs_2, cu_c, cu_o, Int.cast_ofNat_Int, ps_f, ps_g, ps_w, ps_o, ps_2, pu_f, pu_g, pu_w, pu_o, uI_s, uI_o, uI_j, uI_j1, uI_j2, uI_tw, or0, true_or, or_true, false_or, or_false, nar0, nar1, f_X11_tell, f_X11_refuse, f_X11_tellIf, f_X11_tellOrNone, f_X11_deny, f_X11_succeed, f_X12_refuse, f_X12_no, hp0, c_isTray, a3, b3, c3, d3]
        · unfold f_X12_pour
          simp (disch := first | omega | assumption) only [↓lt, Option.bind_some, zl, ll, zadd, zsub, zmul, zneg, ladd, lsub, lmul, lneg, zltT, zltF, zleT, zleF, zeqT, zeqF, zidx, ixT, zwide, bIT, bIF, if_true, if_false, ↓reduceIte, Nat.reduceAdd, Int.reduceAdd, Int.reduceMul, Int.reduceSub, Int.reduceNeg, cs_c, cs_o, cs_2, cu_c, cu_o, Int.cast_ofNat_Int, ps_f, ps_g, ps_w, ps_o, ps_2, pu_f, pu_g, pu_w, pu_o, uI_s, uI_o, uI_j, uI_j1, uI_j2, uI_tw, or0, true_or, or_true, false_or, or_false, nar0, nar1, f_X11_tell, f_X11_refuse, f_X11_tellIf, f_X11_tellOrNone, f_X11_deny, f_X11_succeed, f_X12_refuse, f_X12_no, hp0, a4, b4, c4, d4]
    · refine cr_no (c := f_X11_pour n 0 (zI x) (zI i) (zI u) (zI j) (zI m)) (m := f_X12_pour n 227 (zI x) (zI i) (zI u) (zI j) (zI m)) hO2 (r := zI 0) (s := zI 3) ?_ ?_
      · unfold f_X11_pour f_X10_isMissing
        by_cases v : 0 ≤ l1
        · simp (disch := first | omega | assumption) only [↓lt, Option.bind_some, zl, ll, zadd, zsub, zmul, zneg, ladd, lsub, lmul, lneg, zltT, zltF, zleT, zleF, zeqT, zeqF, zidx, ixT, zwide, bIT, bIF, if_true, if_false, ↓reduceIte, Nat.reduceAdd, Int.reduceAdd, Int.reduceMul, Int.reduceSub, Int.reduceNeg, cs_c, cs_o, cs_2, cu_c, cu_o, Int.cast_ofNat_Int, ps_f, ps_g, ps_w, ps_o, ps_2, pu_f, pu_g, pu_w, pu_o, uI_s, uI_o, uI_j, uI_j1, uI_j2, uI_tw, or0, true_or, or_true, false_or, or_false, nar0, nar1, f_X11_tell, f_X11_refuse, f_X11_tellIf, f_X11_tellOrNone, f_X11_deny, f_X11_succeed, f_X12_refuse, f_X12_no, hp0, c_isTray, a3, b3]
        · simp (disch := first | omega | assumption) only [↓lt, Option.bind_some, zl, ll, zadd, zsub, zmul, zneg, ladd, lsub, lmul, lneg, zltT, zltF, zleT, zleF, zeqT, zeqF, zidx, ixT, zwide, bIT, bIF, if_true, if_false, ↓reduceIte, Nat.reduceAdd, Int.reduceAdd, Int.reduceMul, Int.reduceSub, Int.reduceNeg, cs_c, cs_o, cs_2, cu_c, cu_o, Int.cast_ofNat_Int, ps_f, ps_g, ps_w, ps_o, ps_2, pu_f, pu_g, pu_w, pu_o, uI_s, uI_o, uI_j, uI_j1, uI_j2, uI_tw, or0, true_or, or_true, false_or, or_false, nar0, nar1, f_X11_tell, f_X11_refuse, f_X11_tellIf, f_X11_tellOrNone, f_X11_deny, f_X11_succeed, f_X12_refuse, f_X12_no, hp0, c_isTray, a3, b3]
      · unfold f_X12_pour
        by_cases v : 0 ≤ l1
        · simp (disch := first | omega | assumption) only [↓lt, Option.bind_some, zl, ll, zadd, zsub, zmul, zneg, ladd, lsub, lmul, lneg, zltT, zltF, zleT, zleF, zeqT, zeqF, zidx, ixT, zwide, bIT, bIF, if_true, if_false, ↓reduceIte, Nat.reduceAdd, Int.reduceAdd, Int.reduceMul, Int.reduceSub, Int.reduceNeg, cs_c, cs_o, cs_2, cu_c, cu_o, Int.cast_ofNat_Int, ps_f, ps_g, ps_w, ps_o, ps_2, pu_f, pu_g, pu_w, pu_o, uI_s, uI_o, uI_j, uI_j1, uI_j2, uI_tw, or0, true_or, or_true, false_or, or_false, nar0, nar1, f_X11_tell, f_X11_refuse, f_X11_tellIf, f_X11_tellOrNone, f_X11_deny, f_X11_succeed, f_X12_refuse, f_X12_no, hp0, a4, b4]
        · simp (disch := first | omega | assumption) only [↓lt, Option.bind_some, zl, ll, zadd, zsub, zmul, zneg, ladd, lsub, lmul, lneg, zltT, zltF, zleT, zleF, zeqT, zeqF, zidx, ixT, zwide, bIT, bIF, if_true, if_false, ↓reduceIte, Nat.reduceAdd, Int.reduceAdd, Int.reduceMul, Int.reduceSub, Int.reduceNeg, cs_c, cs_o, cs_2, cu_c, cu_o, Int.cast_ofNat_Int, ps_f, ps_g, ps_w, ps_o, ps_2, pu_f, pu_g, pu_w, pu_o, uI_s, uI_o, uI_j, uI_j1, uI_j2, uI_tw, or0, true_or, or_true, false_or, or_false, nar0, nar1, f_X11_tell, f_X11_refuse, f_X11_tellIf, f_X11_tellOrNone, f_X11_deny, f_X11_succeed, f_X12_refuse, f_X12_no, hp0, a4, b4]
  · refine cr_no (c := f_X11_pour n 0 (zI x) (zI i) (zI u) (zI j) (zI m)) (m := f_X12_pour n 227 (zI x) (zI i) (zI u) (zI j) (zI m)) hO2 (r := zI 0) (s := zI 1) ?_ ?_
    · unfold f_X11_pour
      by_cases v : 0 ≤ x ∧ x < 4
      · simp (disch := first | omega | assumption) only [↓lt, Option.bind_some, zl, ll, zadd, zsub, zmul, zneg, ladd, lsub, lmul, lneg, zltT, zltF, zleT, zleF, zeqT, zeqF, zidx, ixT, zwide, bIT, bIF, if_true, if_false, ↓reduceIte, Nat.reduceAdd, Int.reduceAdd, Int.reduceMul, Int.reduceSub, Int.reduceNeg, cs_c, cs_o, cs_2, cu_c, cu_o, Int.cast_ofNat_Int, ps_f, ps_g, ps_w, ps_o, ps_2, pu_f, pu_g, pu_w, pu_o, uI_s, uI_o, uI_j, uI_j1, uI_j2, uI_tw, or0, true_or, or_true, false_or, or_false, nar0, nar1, f_X11_tell, f_X11_refuse, f_X11_tellIf, f_X11_tellOrNone, f_X11_deny, f_X11_succeed, f_X12_refuse, f_X12_no, hp0, c_isTray]
      · simp (disch := first | omega | assumption) only [↓lt, Option.bind_some, zl, ll, zadd, zsub, zmul, zneg, ladd, lsub, lmul, lneg, zltT, zltF, zleT, zleF, zeqT, zeqF, zidx, ixT, zwide, bIT, bIF, if_true, if_false, ↓reduceIte, Nat.reduceAdd, Int.reduceAdd, Int.reduceMul, Int.reduceSub, Int.reduceNeg, cs_c, cs_o, cs_2, cu_c, cu_o, Int.cast_ofNat_Int, ps_f, ps_g, ps_w, ps_o, ps_2, pu_f, pu_g, pu_w, pu_o, uI_s, uI_o, uI_j, uI_j1, uI_j2, uI_tw, or0, true_or, or_true, false_or, or_false, nar0, nar1, f_X11_tell, f_X11_refuse, f_X11_tellIf, f_X11_tellOrNone, f_X11_deny, f_X11_succeed, f_X12_refuse, f_X12_no, hp0, c_isTray]
    · unfold f_X12_pour
      by_cases v1 : 0 ≤ x
      · by_cases v2 : x < 4
        · by_cases v3 : 0 ≤ u
          · simp (disch := first | omega | assumption) only [↓lt, Option.bind_some, zl, ll, zadd, zsub, zmul, zneg, ladd, lsub, lmul, lneg, zltT, zltF, zleT, zleF, zeqT, zeqF, zidx, ixT, zwide, bIT, bIF, if_true, if_false, ↓reduceIte, Nat.reduceAdd, Int.reduceAdd, Int.reduceMul, Int.reduceSub, Int.reduceNeg, cs_c, cs_o, cs_2, cu_c, cu_o, Int.cast_ofNat_Int, ps_f, ps_g, ps_w, ps_o, ps_2, pu_f, pu_g, pu_w, pu_o, uI_s, uI_o, uI_j, uI_j1, uI_j2, uI_tw, or0, true_or, or_true, false_or, or_false, nar0, nar1, f_X11_tell, f_X11_refuse, f_X11_tellIf, f_X11_tellOrNone, f_X11_deny, f_X11_succeed, f_X12_refuse, f_X12_no, hp0]
          · simp (disch := first | omega | assumption) only [↓lt, Option.bind_some, zl, ll, zadd, zsub, zmul, zneg, ladd, lsub, lmul, lneg, zltT, zltF, zleT, zleF, zeqT, zeqF, zidx, ixT, zwide, bIT, bIF, if_true, if_false, ↓reduceIte, Nat.reduceAdd, Int.reduceAdd, Int.reduceMul, Int.reduceSub, Int.reduceNeg, cs_c, cs_o, cs_2, cu_c, cu_o, Int.cast_ofNat_Int, ps_f, ps_g, ps_w, ps_o, ps_2, pu_f, pu_g, pu_w, pu_o, uI_s, uI_o, uI_j, uI_j1, uI_j2, uI_tw, or0, true_or, or_true, false_or, or_false, nar0, nar1, f_X11_tell, f_X11_refuse, f_X11_tellIf, f_X11_tellOrNone, f_X11_deny, f_X11_succeed, f_X12_refuse, f_X12_no, hp0]
        · simp (disch := first | omega | assumption) only [↓lt, Option.bind_some, zl, ll, zadd, zsub, zmul, zneg, ladd, lsub, lmul, lneg, zltT, zltF, zleT, zleF, zeqT, zeqF, zidx, ixT, zwide, bIT, bIF, if_true, if_false, ↓reduceIte, Nat.reduceAdd, Int.reduceAdd, Int.reduceMul, Int.reduceSub, Int.reduceNeg, cs_c, cs_o, cs_2, cu_c, cu_o, Int.cast_ofNat_Int, ps_f, ps_g, ps_w, ps_o, ps_2, pu_f, pu_g, pu_w, pu_o, uI_s, uI_o, uI_j, uI_j1, uI_j2, uI_tw, or0, true_or, or_true, false_or, or_false, nar0, nar1, f_X11_tell, f_X11_refuse, f_X11_tellIf, f_X11_tellOrNone, f_X11_deny, f_X11_succeed, f_X12_refuse, f_X12_no, hp0]
      · simp (disch := first | omega | assumption) only [↓lt, Option.bind_some, zl, ll, zadd, zsub, zmul, zneg, ladd, lsub, lmul, lneg, zltT, zltF, zleT, zleF, zeqT, zeqF, zidx, ixT, zwide, bIT, bIF, if_true, if_false, ↓reduceIte, Nat.reduceAdd, Int.reduceAdd, Int.reduceMul, Int.reduceSub, Int.reduceNeg, cs_c, cs_o, cs_2, cu_c, cu_o, Int.cast_ofNat_Int, ps_f, ps_g, ps_w, ps_o, ps_2, pu_f, pu_g, pu_w, pu_o, uI_s, uI_o, uI_j, uI_j1, uI_j2, uI_tw, or0, true_or, or_true, false_or, or_false, nar0, nar1, f_X11_tell, f_X11_refuse, f_X11_tellIf, f_X11_tellOrNone, f_X11_deny, f_X11_succeed, f_X12_refuse, f_X12_no, hp0]
