/-! ===== bestFrom ===== -/
def mT (i c : Int) : Int := if i + c < 24 then i + c else 24
def vB (b : Int → Int) (N c i : Int) : Int := lT (hB b i (mT i c)) N
def bf (b : Int → Int) (N c i : Int) (w : Int × Int) : Int × Int := if w.2 ≤ vB b N c i then w else (i, vB b N c i)
theorem mT_r {i c : Int} (h1 : 0 ≤ i) (h2 : i < 24) (h3 : 1 ≤ c) : i < mT i c ∧ mT i c ≤ 24 := by
  unfold mT
  by_cases w : i + c < 24
  · rw [if_pos w]; omega
  · rw [if_neg w]; omega
theorem vB_r {b : Int → Int} {N c i : Int} (hb : WB b) (hN : 0 ≤ N) (hN2 : N ≤ 999) (h1 : 0 ≤ i) (h2 : i < 24) (h3 : 1 ≤ c) : -800 ≤ vB b N c i ∧ vB b N c i ≤ 80000 := by
  have e := mT_r h1 h2 h3
  exact lT_r (WB_hB hb h1 (by omega) e.1 e.2) hN (by omega)
theorem c_bestL {b : Int → Int} {dd : Int → Int} {N c : Int} {L : Nat} {g : Int → Int → Int → Int} {κ : Int32 → KM → Option (Int32 × KM)} (hg : GR g b) (hb : WB b) (hl : 23 ≤ L ∧ L ≤ 61) (hN : 0 ≤ N) (hN2 : N ≤ 999) (hc : 1 ≤ c) (hc2 : c ≤ 24) : ∀ (k : Nat) (i : Int) (n : Nat) (w : Int × Int) (M : KM), 0 ≤ i → i + k = 24 → 60 + k < n → HL (cs M dd) L b → M.2.2 0 10 = L → (0 ≤ w.1 ∧ w.1 ≤ 24 ∧ -1000 ≤ w.2 ∧ w.2 ≤ 1000000000) → ∃ M', lp_X11_bestFrom_48 n 0 (zI N) (zI c) (zI w.1) (zI w.2) (zI i) (ps (cs M dd) L g) κ = κ (zI (fI (bf b N c) k i w).1) (ps (cs M' dd) L g) ∧ M'.2 = M.2 ∧ (∀ a k, ¬ a = 22 → M'.1 a k = M.1 a k) := by
  intro k
  induction k with
  | zero =>
    intro i n w M h1 h2 h3 hL hp hw
    obtain ⟨m, rfl⟩ : ∃ m, n = m + 1 := ⟨n - 1, by omega⟩
    have e : i = 24 := by omega
    subst e
    refine ⟨M, ?_, rfl, fun _ _ _ => rfl⟩
    rw [lp_X11_bestFrom_48]
    simp (disch := first | omega | assumption) only [↓lt, Option.bind_some, zl, ll, zadd, zsub, zmul, zneg, ladd, lsub, lmul, lneg, zltT, zltF, zleT, zleF, zeqT, zeqF, zidx, ixT, zwide, bIT, bIF, if_true, if_false, ↓reduceIte, Nat.reduceAdd, Int.reduceAdd, Int.reduceMul, Int.reduceSub, Int.reduceNeg, cs_c, cs_o, cs_2, cu_c, cu_o, Int.cast_ofNat_Int, ps_f, ps_g, ps_w, ps_o, ps_2, pu_f, pu_g, pu_w, pu_o, uI_s, uI_o, uI_j, uI_j1, uI_j2, uI_tw, or0, true_or, or_true, false_or, or_false, nar0, nar1]
    rfl
  | succ k ih =>
    intro i n w M h1 h2 h3 hL hp hw
    obtain ⟨m, rfl⟩ : ∃ m, n = m + 1 := ⟨n - 1, by omega⟩
    have et := mT_r (i := i) (c := c) h1 (by omega) hc
    have ev := vB_r (i := i) hb hN hN2 h1 (by omega) hc
    have hL2 := s22_L (f := i) (t := mT i c) hl hL
    have e := c_lostWithin (n := m) (N := N) hL2 hg hb (s22_H (f := i) (t := mT i c) hl.1) h1 (by omega) et.1 et.2 hN (by omega) (by omega)
    have ev2 : lT (hB b i (mT i c)) N = vB b N c i := rfl
    rw [ev2] at e
    have hp1 : (s22 M i (mT i c)).2.2 0 10 = L := hp
    obtain ⟨M', e1, e2, e3⟩ := ih (i + 1) m (bf b N c i w) (s22 M i (mT i c)) (by omega) (by omega) (by omega) hL2 hp1 (by
      unfold bf
      by_cases y : w.2 ≤ vB b N c i
      · rw [if_pos y]; exact hw
      · rw [if_neg y]
        dsimp only
        omega)
    refine ⟨M', ?_, by rw [e2]; rfl, fun a k h => by rw [e3 a k h, s22_o h]⟩
    rw [lp_X11_bestFrom_48]
    have em : (if zI (i + c) < zI 24 then zI (i + c) else zI 24) = zI (mT i c) := by
      unfold mT
      by_cases y : i + c < 24
      · rw [if_pos y]
        simp (disch := first | omega | assumption) only [↓lt, Option.bind_some, zl, ll, zadd, zsub, zmul, zneg, ladd, lsub, lmul, lneg, zltT, zltF, zleT, zleF, zeqT, zeqF, zidx, ixT, zwide, bIT, bIF, if_true, if_false, ↓reduceIte, Nat.reduceAdd, Int.reduceAdd, Int.reduceMul, Int.reduceSub, Int.reduceNeg, cs_c, cs_o, cs_2, cu_c, cu_o, Int.cast_ofNat_Int, ps_f, ps_g, ps_w, ps_o, ps_2, pu_f, pu_g, pu_w, pu_o, uI_s, uI_o, uI_j, uI_j1, uI_j2, uI_tw, or0, true_or, or_true, false_or, or_false, nar0, nar1]
      · rw [if_neg y]
        simp (disch := first | omega | assumption) only [↓lt, Option.bind_some, zl, ll, zadd, zsub, zmul, zneg, ladd, lsub, lmul, lneg, zltT, zltF, zleT, zleF, zeqT, zeqF, zidx, ixT, zwide, bIT, bIF, if_true, if_false, ↓reduceIte, Nat.reduceAdd, Int.reduceAdd, Int.reduceMul, Int.reduceSub, Int.reduceNeg, cs_c, cs_o, cs_2, cu_c, cu_o, Int.cast_ofNat_Int, ps_f, ps_g, ps_w, ps_o, ps_2, pu_f, pu_g, pu_w, pu_o, uI_s, uI_o, uI_j, uI_j1, uI_j2, uI_tw, or0, true_or, or_true, false_or, or_false, nar0, nar1]
    simp only [fI]
    unfold bf at e1 ⊢
    by_cases y : w.2 ≤ vB b N c i
    · rw [if_pos y] at e1 ⊢
      simp (disch := first | omega | assumption) only [↓lt, Option.bind_some, zl, zadd, zltF, if_false, em, c_set hl.1, ps_2, cs_2, hp1, e, zleT, if_true]
      exact e1
    · rw [if_neg y] at e1 ⊢
      simp (disch := first | omega | assumption) only [↓lt, Option.bind_some, zl, zadd, zltF, if_false, em, c_set hl.1, ps_2, cs_2, hp1, e, zleF, if_true]
      exact e1
theorem fI_s {α : Type} {f : Int → α → α} {k : Nat} {i : Int} {w : α} : fI f (k + 1) i w = fI f k (i + 1) (f i w) := rfl
