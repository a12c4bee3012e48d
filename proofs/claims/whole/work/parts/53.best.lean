/-! ===== bestFrom ===== -/
def mT (i c : Int) : Int := if i + c < 24 then i + c else 24
def vB (b : Int → Int) (N c i : Int) : Int := lT (hB b i (mT i c)) N
def bf (b : Int → Int) (N c i : Int) (w : Int × Int) : Int × Int := if w.2 ≤ vB b N c i then w else (i, vB b N c i)
theorem mT_r {i c : Int} (h1 : 0 ≤ i) (h2 : i < 24) (h3 : 1 ≤ c) : i < mT i c ∧ mT i c ≤ 24 := by
  unfold mT
  by_cases w : i + c < 24
  · rw [if_pos w]; omega
  · rw [if_neg w]; omega
theorem vB_r {b : Int → Int} {N c i : Int} (hb : WB b) (hN : 0 ≤ N) (hN2 : N ≤ 999) (h1 : 0 ≤ i) (h2 : i < 24) (h3 : 1 ≤ c) : -800 ≤ vB b N c i ∧ vB b N c i ≤ 80000 := by
  have e := mT_r h1 h2 h3
  exact lT_r (WB_hB hb h1 (by omega) e.1 e.2) hN (by omega)
theorem c_bestL {b : Int → Int} {N c : Int} {L : Nat} {g : Int → Int → Int → Int} {κ : Int32 → KM → Option (Int32 × KM)} (hg : GR g b) (hb : WB b) (hl : 23 ≤ L ∧ L ≤ 61) (hN : 0 ≤ N) (hN2 : N ≤ 999) (hc : 1 ≤ c) (hc2 : c ≤ 24) : ∀ (k : Nat) (i : Int) (n : Nat) (w : Int × Int) (M : KM), 0 ≤ i → i + k = 24 → 60 + k < n → HL (cs M b) L b → M.2.2 0 10 = L → (0 ≤ w.1 ∧ w.1 ≤ 24 ∧ -1000 ≤ w.2 ∧ w.2 ≤ 1000000000) → ∃ M', lp_X11_bestFrom_48 n 0 (zI N) (zI c) (zI w.1) (zI w.2) (zI i) (ps (cs M b) L g) κ = κ (zI (fI (bf b N c) k i w).1) (ps (cs M' b) L g) ∧ M'.2 = M.2 ∧ (∀ a k, ¬ a = 22 → M'.1 a k = M.1 a k) := by
  intro k
  induction k with
  | zero =>
    intro i n w M h1 h2 h3 hL hp hw
    obtain ⟨m, rfl⟩ : ∃ m, n = m + 1 := ⟨n - 1, by omega⟩
    have e : i = 24 := by omega
    subst e
    refine ⟨M, ?_, rfl, fun _ _ _ => rfl⟩
    rw [lp_X11_bestFrom_48]
    simp (disch := first | omega | assumption) only [↓lt, Option.bind_some, zl, ll, zadd, zsub, zmul, zneg, ladd, lsub, lmul, lneg, zltT, zltF, zleT, zleF, zeqT, zeqF, zidx, ixT, zwide, bIT, bIF, if_true, if_false, ↓reduceIte, Nat.reduceAdd, Int.reduceAdd, Int.reduceMul, Int.reduceSub, Int.reduceNeg, cs_c, cs_o, cs_2, cu_c, cu_o, Int.cast_ofNat_Int, ps_f, ps_g, ps_w, ps_o, ps_2, pu_f, pu_g, pu_w, pu_o, uI_s, uI_o, uI_j, uI_j1, uI_j2, uI_tw, or0, true_or, or_true, false_or, or_false, nar0, nar1]
    rfl
  | succ k ih =>
    intro i n w M h1 h2 h3 hL hp hw
    obtain ⟨m, rfl⟩ : ∃ m, n = m + 1 := ⟨n - 1, by omega⟩
    have et := mT_r (i := i) (c := c) h1 (by omega) hc
    have ev := vB_r (i := i) hb hN hN2 h1 (by omega) hc
    have hL2 := s22_L (f := i) (t := mT i c) hl hL
    have e := c_lostWithin (n := m) (N := N) hL2 hg hb (s22_H (f := i) (t := mT i c) hl.1) h1 (by omega) et.1 et.2 hN (by omega) (by omega)
    have ev2 : lT (hB b i (mT i c)) N = vB b N c i := rfl
    rw [ev2] at e
    have hp1 : (s22 M i (mT i c)).2.2 0 10 = L := hp
    obtain ⟨M', e1, e2, e3⟩ := ih (i + 1) m (bf b N c i w) (s22 M i (mT i c)) (by omega) (by omega) (by omega) hL2 hp1 (by
      unfold bf
      by_cases y : w.2 ≤ vB b N c i
      · rw [if_pos y]; exact hw
      · rw [if_neg y]
        dsimp only
        omega)
    refine ⟨M', ?_, by rw [e2]; rfl, fun a k h => by rw [e3 a k h, s22_o h]⟩
    rw [lp_X11_bestFrom_48]
    have em : (if zI (i + c) < zI 24 then zI (i + c) else zI 24) = zI (mT i c) := by
      unfold mT
      by_cases y : i + c < 24
      · rw [if_pos y]
        simp (disch := first | omega | assumption) only [↓lt, Option.bind_some, zl, ll, zadd, zsub, zmul, zneg, ladd, lsub, lmul, lneg, zltT, zltF, zleT, zleF, zeqT, zeqF, zidx, ixT, zwide, bIT, bIF, if_true, if_false, ↓reduceIte, Nat.reduceAdd, Int.reduceAdd, Int.reduceMul, Int.reduceSub, Int.reduceNeg, cs_c, cs_o, cs_2, cu_c, cu_o, Int.cast_ofNat_Int, ps_f, ps_g, ps_w, ps_o, ps_2, pu_f, pu_g, pu_w, pu_o, uI_s, uI_o, uI_j, uI_j1, uI_j2, uI_tw, or0, true_or, or_true, false_or, or_false, nar0, nar1]
      · rw [if_neg y]
        simp (disch := first | omega | assumption) only [↓lt, Option.bind_some, zl, ll, zadd, zsub, zmul, zneg, ladd, lsub, lmul, lneg, zltT, zltF, zleT, zleF, zeqT, zeqF, zidx, ixT, zwide, bIT, bIF, if_true, if_false, ↓reduceIte, Nat.reduceAdd, Int.reduceAdd, Int.reduceMul, Int.reduceSub, Int.reduceNeg, cs_c, cs_o, cs_2, cu_c, cu_o, Int.cast_ofNat_Int, ps_f, ps_g, ps_w, ps_o, ps_2, pu_f, pu_g, pu_w, pu_o, uI_s, uI_o, uI_j, uI_j1, uI_j2, uI_tw, or0, true_or, or_true, false_or, or_false, nar0, nar1]
    simp only [fI]
    unfold bf at e1 ⊢
    by_cases y : w.2 ≤ vB b N c i
    · rw [if_pos y] at e1 ⊢
      simp (disch := first | omega | assumption) only [↓lt, Option.bind_some, zl, zadd, zltF, if_false, em, c_set hl.1, ps_2, cs_2, hp1, e, zleT, if_true]
      exact e1
    · rw [if_neg y] at e1 ⊢
      simp (disch := first | omega | assumption) only [↓lt, Option.bind_some, zl, zadd, zltF, if_false, em, c_set hl.1, ps_2, cs_2, hp1, e, zleF, if_true]
      exact e1
theorem m_bestL {b : Int → Int} {N c : Int} (hb : WB b) (h5 : b 5 ≤ 99999) (hN : 0 ≤ N) (hN2 : N ≤ 999) (hc : 1 ≤ c) (hc2 : c ≤ 24) : ∀ (k : Nat) (i : Int) (n : Nat) (w : Int × Int) (X : KM), 0 ≤ i → i + k = 24 → 2100 + k < n → (0 ≤ w.1 ∧ w.1 ≤ 24 ∧ -1000 ≤ w.2 ∧ w.2 ≤ 1000000000) → ∃ Y, lp_X12_bestFrom_50 n 227 (zI N) (zI c) (zI w.1) (zI w.2) (zI i) (cs X b) = some (zI (fI (bf b N c) k i w).1, cs Y b) ∧ MF X Y ∧ Y.1 227 0 = X.1 227 0 := by
  intro k
  induction k with
  | zero =>
    intro i n w X h1 h2 h3 hw
    obtain ⟨m, rfl⟩ : ∃ m, n = m + 1 := ⟨n - 1, by omega⟩
    have e : i = 24 := by omega
    subst e
    refine ⟨X, ?_, MF_rf, rfl⟩
    rw [lp_X12_bestFrom_50]
    simp (disch := first | omega | assumption) only [↓lt, Option.bind_some, zl, ll, zadd, zsub, zmul, zneg, ladd, lsub, lmul, lneg, zltT, zltF, zleT, zleF, zeqT, zeqF, zidx, ixT, zwide, bIT, bIF, if_true, if_false, ↓reduceIte, Nat.reduceAdd, Int.reduceAdd, Int.reduceMul, Int.reduceSub, Int.reduceNeg, cs_c, cs_o, cs_2, cu_c, cu_o, Int.cast_ofNat_Int, ps_f, ps_g, ps_w, ps_o, ps_2, pu_f, pu_g, pu_w, pu_o, uI_s, uI_o, uI_j, uI_j1, uI_j2, uI_tw, or0, true_or, or_true, false_or, or_false, nar0, nar1]
    rfl
  | succ k ih =>
    intro i n w X h1 h2 h3 hw
    obtain ⟨m, rfl⟩ : ∃ m, n = m + 1 := ⟨n - 1, by omega⟩
    have et := mT_r (i := i) (c := c) h1 (by omega) hc
    have ev := vB_r (i := i) hb hN hN2 h1 (by omega) hc
    obtain ⟨Y, e1, e2, e3⟩ := m_losesBy (n := m) (X := X) hb h5 h1 (by omega) et.1 et.2 hN hN2 (by omega)
    have ev2 : lT (hB b i (mT i c)) N = vB b N c i := rfl
    rw [ev2] at e1
    obtain ⟨Z, f1, f2, f3⟩ := ih (i + 1) m (bf b N c i w) Y (by omega) (by omega) (by omega) (by
      unfold bf
      by_cases y : w.2 ≤ vB b N c i
      · rw [if_pos y]; exact hw
      · rw [if_neg y]
        dsimp only
        omega)
    refine ⟨Z, ?_, MF_tr e2 f2, f3.trans e3⟩
    rw [lp_X12_bestFrom_50]
    have em : (if zI (i + c) < zI 24 then zI (i + c) else zI 24) = zI (mT i c) := by
      unfold mT
      by_cases y : i + c < 24
      · rw [if_pos y]
        simp (disch := first | omega | assumption) only [↓lt, Option.bind_some, zl, ll, zadd, zsub, zmul, zneg, ladd, lsub, lmul, lneg, zltT, zltF, zleT, zleF, zeqT, zeqF, zidx, ixT, zwide, bIT, bIF, if_true, if_false, ↓reduceIte, Nat.reduceAdd, Int.reduceAdd, Int.reduceMul, Int.reduceSub, Int.reduceNeg, cs_c, cs_o, cs_2, cu_c, cu_o, Int.cast_ofNat_Int, ps_f, ps_g, ps_w, ps_o, ps_2, pu_f, pu_g, pu_w, pu_o, uI_s, uI_o, uI_j, uI_j1, uI_j2, uI_tw, or0, true_or, or_true, false_or, or_false, nar0, nar1]
      · rw [if_neg y]
        simp (disch := first | omega | assumption) only [↓lt, Option.bind_some, zl, ll, zadd, zsub, zmul, zneg, ladd, lsub, lmul, lneg, zltT, zltF, zleT, zleF, zeqT, zeqF, zidx, ixT, zwide, bIT, bIF, if_true, if_false, ↓reduceIte, Nat.reduceAdd, Int.reduceAdd, Int.reduceMul, Int.reduceSub, Int.reduceNeg, cs_c, cs_o, cs_2, cu_c, cu_o, Int.cast_ofNat_Int, ps_f, ps_g, ps_w, ps_o, ps_2, pu_f, pu_g, pu_w, pu_o, uI_s, uI_o, uI_j, uI_j1, uI_j2, uI_tw, or0, true_or, or_true, false_or, or_false, nar0, nar1]
    simp only [fI]
    unfold bf at f1 ⊢
    by_cases y : w.2 ≤ vB b N c i
    · rw [if_pos y] at f1 ⊢
      simp (disch := first | omega | assumption) only [↓lt, Option.bind_some, zl, zadd, zleF, if_false, em, e1, zltF]
      exact f1
    · rw [if_neg y] at f1 ⊢
      simp (disch := first | omega | assumption) only [↓lt, Option.bind_some, zl, zadd, zleF, if_false, em, e1, zltF, zltT, if_true]
      exact f1
theorem fI_s {α : Type} {f : Int → α → α} {k : Nat} {i : Int} {w : α} : fI f (k + 1) i w = fI f k (i + 1) (f i w) := rfl
theorem m_bestE {m : Nat} {x c v R : Int} {X Y Z : KM} {b : Int → Int} (hc : 1 ≤ c) (hc2 : c ≤ 24) (hx : 0 ≤ x) (hx2 : x ≤ 999) (g1 : f_X12_losesBy m 227 (zI x) (zI 0) (zI (mT 0 c)) (cs X b) = some (zI v, cs Y b)) (f1 : lp_X12_bestFrom_50 m 227 (zI x) (zI c) (zI 0) (zI v) (zI (0 + 1)) (cs Y b) = some (zI R, cs Z b)) : lp_X12_bestFrom_50 (m + 1) 227 (zI x) (zI c) (zI (-1)) (zI 0) (zI 0) (cs X b) = some (zI R, cs Z b) := by
  have em : (if zI (0 + c) < zI 24 then zI (0 + c) else zI 24) = zI (mT 0 c) := by
    unfold mT
    by_cases y : 0 + c < 24
    · rw [if_pos y]
      simp (disch := first | omega | assumption) only [↓lt, Option.bind_some, zl, ll, zadd, zsub, zmul, zneg, ladd, lsub, lmul, lneg, zltT, zltF, zleT, zleF, zeqT, zeqF, zidx, ixT, zwide, bIT, bIF, if_true, if_false, ↓reduceIte, Nat.reduceAdd, Int.reduceAdd, Int.reduceMul, Int.reduceSub, Int.reduceNeg, cs_c, cs_o, cs_2, cu_c, cu_o, Int.cast_ofNat_Int, ps_f, ps_g, ps_w, ps_o, ps_2, pu_f, pu_g, pu_w, pu_o, uI_s, uI_o, uI_j, uI_j1, uI_j2, uI_tw, or0, true_or, or_true, false_or, or_false, nar0, nar1]
    · rw [if_neg y]
      simp (disch := first | omega | assumption) only [↓lt, Option.bind_some, zl, ll, zadd, zsub, zmul, zneg, ladd, lsub, lmul, lneg, zltT, zltF, zleT, zleF, zeqT, zeqF, zidx, ixT, zwide, bIT, bIF, if_true, if_false, ↓reduceIte, Nat.reduceAdd, Int.reduceAdd, Int.reduceMul, Int.reduceSub, Int.reduceNeg, cs_c, cs_o, cs_2, cu_c, cu_o, Int.cast_ofNat_Int, ps_f, ps_g, ps_w, ps_o, ps_2, pu_f, pu_g, pu_w, pu_o, uI_s, uI_o, uI_j, uI_j1, uI_j2, uI_tw, or0, true_or, or_true, false_or, or_false, nar0, nar1]
  rw [lp_X12_bestFrom_50]
  simp (disch := first | omega | assumption) only [↓lt, Option.bind_some, zl, zneg, zadd, zleF, if_false, em, g1, zltT, if_true]
  exact f1
theorem m_bestS {n m : Nat} {x v R : Int} {X Y Z : KM} {b : Int → Int} (hn : n = m + 1) (hw : 0 ≤ b 3 ∧ b 3 ≤ 23 ∧ b 3 < b 4 ∧ b 4 ≤ 24) (hx : 0 ≤ x) (hx2 : x ≤ 999) (g1 : f_X12_losesBy m 227 (zI x) (zI 0) (zI (mT 0 (b 4 - b 3))) (cs (uI (uI X 227 1 (zI 0)) 227 0 (zI 0)) b) = some (zI v, cs Y b)) (f1 : lp_X12_bestFrom_50 m 227 (zI x) (zI (b 4 - b 3)) (zI 0) (zI v) (zI (0 + 1)) (cs Y b) = some (zI R, cs Z b)) : f_X12_bestFrom n 227 (zI x) (cs X b) = some (zI R, cs Z b) := by
  have e := m_bestE (by omega) (by omega) hx hx2 g1 f1
  rw [← hn] at e
  unfold f_X12_bestFrom
  simp (disch := first | omega | assumption) only [↓lt, Option.bind_some, zl, ll, zadd, zsub, zmul, zneg, ladd, lsub, lmul, lneg, zltT, zltF, zleT, zleF, zeqT, zeqF, zidx, ixT, zwide, bIT, bIF, if_true, if_false, ↓reduceIte, Nat.reduceAdd, Int.reduceAdd, Int.reduceMul, Int.reduceSub, Int.reduceNeg, cs_c, cs_o, cs_2, cu_c, cu_o, Int.cast_ofNat_Int, ps_f, ps_g, ps_w, ps_o, ps_2, pu_f, pu_g, pu_w, pu_o, uI_s, uI_o, uI_j, uI_j1, uI_j2, uI_tw, or0, true_or, or_true, false_or, or_false, nar0, nar1, f_X11_tell, f_X11_refuse, f_X11_tellIf, f_X11_tellOrNone, f_X11_deny, f_X11_succeed, f_X12_refuse, f_X12_no, m_isIn]
  exact e
theorem k_bestFrom (p : Int32) (n : Nat) (hn : 2200 ≤ n) : OKm (f_X11_bestFrom n 0 p) (f_X12_bestFrom n 227 p) := by
  obtain ⟨x, hx1, hx2, rfl⟩ := z_ex p
  refine ok_wr (fun M L g b hO => ?_)
  have hO2 := hO
  obtain ⟨hP, hL, hg, hb, hm, hC⟩ := hO
  have hp0 : M.2.2 0 10 = L := hP.1
  have hl := Ptr_L hP
  have hLM := (HL_cs hl.2).mp hL
  obtain ⟨-, -, -, -, -, -, -, -, q3, q4, -, -, -, -, -⟩ := hLM
  have hh := hb.1
  unfold WH at hh
  have i3 : 0 ≤ b 3 ∧ b 3 ≤ 23 ∧ b 3 < b 4 ∧ b 4 ≤ 24 := by omega
  clear hC hh
  by_cases w : 0 ≤ x ∧ x ≤ 999
  · have ev := vB_r (i := 0) (c := b 4 - b 3) hb w.1 w.2 (by omega) (by omega) (by omega)
    obtain ⟨FF, hFF⟩ : ∃ F : Int, F = 1000000000 := ⟨_, rfl⟩
    have eb : bf b x (b 4 - b 3) 0 (0, FF) = (0, vB b x (b 4 - b 3) 0) := by
      unfold bf
      rw [if_neg (by dsimp only; omega)]
    have e0 : fI (bf b x (b 4 - b 3)) (23 + 1) 0 (0, FF) = fI (bf b x (b 4 - b 3)) 23 (0 + 1) (0, vB b x (b 4 - b 3) 0) := by
      rw [fI_s, eb]
    have hc1 := c_bestL (N := x) (c := b 4 - b 3) (κ := fun (u14 : Int32) (M15 : KM) => some ((f_X11_tell 0 u14 M15).1, (f_X11_tell 0 u14 M15).2)) hg hb hl w.1 w.2 (by omega) (by omega) (23 + 1) 0 n (0, FF) M (by omega) (by omega) (by omega) hL hp0 ⟨by dsimp only; omega, by dsimp only; omega, by dsimp only; omega, by dsimp only; omega⟩
    have hm1 := fun (m : Nat) (Y : KM) (h : 2123 < m) => m_bestL (N := x) (c := b 4 - b 3) hb hm w.1 w.2 (by omega) (by omega) 23 (0 + 1) m (0, vB b x (b 4 - b 3) 0) Y (by omega) (by omega) (by omega) ⟨by dsimp only; omega, by dsimp only; omega, by dsimp only; omega, by dsimp only; omega⟩
    rw [← e0] at hm1
    clear e0
    generalize (fI (bf b x (b 4 - b 3)) (23 + 1) 0 (0, FF)).1 = R at hc1 hm1
    obtain ⟨M', e1, e2, e3⟩ := hc1
    dsimp only at e1
    rw [hFF] at e1
    refine wr_sc (c := f_X11_bestFrom n 0 (zI x)) (m := f_X12_bestFrom n 227 (zI x)) (N := uI M' 0 15 (zI 0)) (r := zI R) (s := zI 0) hO2 ?_ uI_s e2 (fun a k h1 h2 => by rw [uI_o h1, e3 a k h2]) (fun X => ?_)
    · unfold f_X11_bestFrom
      simp (disch := first | omega | assumption) only [↓lt, Option.bind_some, zl, ll, zadd, zsub, zmul, zneg, ladd, lsub, lmul, lneg, zltT, zltF, zleT, zleF, zeqT, zeqF, zidx, ixT, zwide, bIT, bIF, if_true, if_false, ↓reduceIte, Nat.reduceAdd, Int.reduceAdd, Int.reduceMul, Int.reduceSub, Int.reduceNeg, cs_c, cs_o, cs_2, cu_c, cu_o, Int.cast_ofNat_Int, ps_f, ps_g, ps_w, ps_o, ps_2, pu_f, pu_g, pu_w, pu_o, uI_s, uI_o, uI_j, uI_j1, uI_j2, uI_tw, or0, true_or, or_true, false_or, or_false, nar0, nar1, hp0, q3, q4]
      rw [e1]
      simp (disch := first | omega | assumption) only [↓lt, Option.bind_some, zl, ll, zadd, zsub, zmul, zneg, ladd, lsub, lmul, lneg, zltT, zltF, zleT, zleF, zeqT, zeqF, zidx, ixT, zwide, bIT, bIF, if_true, if_false, ↓reduceIte, Nat.reduceAdd, Int.reduceAdd, Int.reduceMul, Int.reduceSub, Int.reduceNeg, cs_c, cs_o, cs_2, cu_c, cu_o, Int.cast_ofNat_Int, ps_f, ps_g, ps_w, ps_o, ps_2, pu_f, pu_g, pu_w, pu_o, uI_s, uI_o, uI_j, uI_j1, uI_j2, uI_tw, or0, true_or, or_true, false_or, or_false, nar0, nar1, f_X11_tell, f_X11_refuse, f_X11_tellIf, f_X11_tellOrNone, f_X11_deny, f_X11_succeed, f_X12_refuse, f_X12_no]
    · have et := mT_r (i := 0) (c := b 4 - b 3) (by omega) (by omega) (by omega)
      obtain ⟨m, hnm⟩ : ∃ m, n = m + 1 := ⟨n - 1, by omega⟩
      obtain ⟨Y, g1, g2, g3⟩ := m_losesBy (n := m) (f := 0) (N := x) (X := uI (uI X 227 1 (zI 0)) 227 0 (zI 0)) hb hm (by omega) (by omega) et.1 et.2 w.1 w.2 (by omega)
      have ev2 : lT (hB b 0 (mT 0 (b 4 - b 3))) x = vB b x (b 4 - b 3) 0 := rfl
      rw [ev2] at g1
      obtain ⟨Z, f1, f2, f3⟩ := hm1 m Y (by omega)
      dsimp only at f1
      refine ⟨Z, ?_, by rw [f3, g3, uI_s], MF_tr MF_st (MF_tr g2 f2)⟩
      exact m_bestS hnm i3 w.1 w.2 g1 f1
  · refine wr_no (c := f_X11_bestFrom n 0 (zI x)) (m := f_X12_bestFrom n 227 (zI x)) hO2 (r := zI (-1)) (s := zI 5) ?_ (fun X => ?_)
    · unfold f_X11_bestFrom
      by_cases v : x < 0
      · simp (disch := first | omega | assumption) only [↓lt, Option.bind_some, zl, ll, zadd, zsub, zmul, zneg, ladd, lsub, lmul, lneg, zltT, zltF, zleT, zleF, zeqT, zeqF, zidx, ixT, zwide, bIT, bIF, if_true, if_false, ↓reduceIte, Nat.reduceAdd, Int.reduceAdd, Int.reduceMul, Int.reduceSub, Int.reduceNeg, cs_c, cs_o, cs_2, cu_c, cu_o, Int.cast_ofNat_Int, ps_f, ps_g, ps_w, ps_o, ps_2, pu_f, pu_g, pu_w, pu_o, uI_s, uI_o, uI_j, uI_j1, uI_j2, uI_tw, or0, true_or, or_true, false_or, or_false, nar0, nar1, f_X11_tell, f_X11_refuse, f_X11_tellIf, f_X11_tellOrNone, f_X11_deny, f_X11_succeed, f_X12_refuse, f_X12_no]
      · simp (disch := first | omega | assumption) only [↓lt, Option.bind_some, zl, ll, zadd, zsub, zmul, zneg, ladd, lsub, lmul, lneg, zltT, zltF, zleT, zleF, zeqT, zeqF, zidx, ixT, zwide, bIT, bIF, if_true, if_false, ↓reduceIte, Nat.reduceAdd, Int.reduceAdd, Int.reduceMul, Int.reduceSub, Int.reduceNeg, cs_c, cs_o, cs_2, cu_c, cu_o, Int.cast_ofNat_Int, ps_f, ps_g, ps_w, ps_o, ps_2, pu_f, pu_g, pu_w, pu_o, uI_s, uI_o, uI_j, uI_j1, uI_j2, uI_tw, or0, true_or, or_true, false_or, or_false, nar0, nar1, f_X11_tell, f_X11_refuse, f_X11_tellIf, f_X11_tellOrNone, f_X11_deny, f_X11_succeed, f_X12_refuse, f_X12_no]
    · unfold f_X12_bestFrom
      simp (disch := first | omega | assumption) only [↓lt, Option.bind_some, zl, ll, zadd, zsub, zmul, zneg, ladd, lsub, lmul, lneg, zltT, zltF, zleT, zleF, zeqT, zeqF, zidx, ixT, zwide, bIT, bIF, if_true, if_false, ↓reduceIte, Nat.reduceAdd, Int.reduceAdd, Int.reduceMul, Int.reduceSub, Int.reduceNeg, cs_c, cs_o, cs_2, cu_c, cu_o, Int.cast_ofNat_Int, ps_f, ps_g, ps_w, ps_o, ps_2, pu_f, pu_g, pu_w, pu_o, uI_s, uI_o, uI_j, uI_j1, uI_j2, uI_tw, or0, true_or, or_true, false_or, or_false, nar0, nar1, f_X11_tell, f_X11_refuse, f_X11_tellIf, f_X11_tellOrNone, f_X11_deny, f_X11_succeed, f_X12_refuse, f_X12_no, m_isIn]
