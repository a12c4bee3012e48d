/-! ===== one pass of the reference, all of them, and those of the class ===== -/
def bthm (b : Int → Int) (p q r : Int) (w : (Int → Int) × Int) : (Int → Int) × Int := (bth b p q r w.1, if a2I b p q r (w.1 (b (10 + r))) < w.1 (b (22 + r)) ∨ a2I b p q r (rlx b p q r (b (10 + r)) (b (22 + r)) w.1 (b (22 + r))) < rlx b p q r (b (10 + r)) (b (22 + r)) w.1 (b (10 + r)) ∨ ¬ w.2 = 0 then 1 else 0)
theorem bthm_1 {b : Int → Int} {p q : Int} : ∀ (k : Nat) (i : Int) (w : (Int → Int) × Int), (fI (bthm b p q) k i w).1 = fI (bth b p q) k i w.1 := by
  intro k
  induction k with
  | zero => intro i w; rfl
  | succ k ih => intro i w; exact ih (i + 1) (bthm b p q i w)
theorem bthm_0 {b : Int → Int} {p q r : Int} {w : (Int → Int) × Int} (h : (bthm b p q r w).2 = 0) : w.2 = 0 ∧ bth b p q r w.1 = w.1 := by
  unfold bthm at h
  by_cases e : a2I b p q r (w.1 (b (10 + r))) < w.1 (b (22 + r)) ∨ a2I b p q r (rlx b p q r (b (10 + r)) (b (22 + r)) w.1 (b (22 + r))) < rlx b p q r (b (10 + r)) (b (22 + r)) w.1 (b (10 + r)) ∨ ¬ w.2 = 0
  · simp only [if_pos e] at h; omega
  · have e1 : ¬ a2I b p q r (w.1 (b (10 + r))) < w.1 (b (22 + r)) := fun z => e (Or.inl z)
    have e2 : ¬ a2I b p q r (rlx b p q r (b (10 + r)) (b (22 + r)) w.1 (b (22 + r))) < rlx b p q r (b (10 + r)) (b (22 + r)) w.1 (b (10 + r)) := fun z => e (Or.inr (Or.inl z))
    have e3 : w.2 = 0 := Classical.byContradiction (fun z => e (Or.inr (Or.inr z)))
    refine ⟨e3, ?_⟩
    have d1 : rlx b p q r (b (10 + r)) (b (22 + r)) w.1 = w.1 := if_neg e1
    rw [d1] at e2
    unfold bth
    rw [d1]
    exact if_neg e2
theorem bthm_f {b : Int → Int} {p q : Int} : ∀ (k : Nat) (i : Int) (w : (Int → Int) × Int), (fI (bthm b p q) k i w).2 = 0 → w.2 = 0 ∧ fI (bth b p q) k i w.1 = w.1 := by
  intro k
  induction k with
  | zero => intro i w h; exact ⟨h, rfl⟩
  | succ k ih =>
    intro i w h
    have e := ih (i + 1) (bthm b p q i w) h
    have e2 := bthm_0 e.1
    refine ⟨e2.1, ?_⟩
    show fI (bth b p q) k (i + 1) (bth b p q i w.1) = w.1
    have e3 : fI (bth b p q) k (i + 1) (bth b p q i w.1) = bth b p q i w.1 := e.2
    rw [e3, e2.2]
/-- nothing to be done any more -/
def SF (b : Int → Int) (p q : Int) (T : Int → Int) : Prop := ∀ r, 0 ≤ r → r < b 1 → T (b (22 + r)) ≤ a2I b p q r (T (b (10 + r))) ∧ T (b (10 + r)) ≤ a2I b p q r (T (b (22 + r)))
theorem SF_bthm {b T : Int → Int} {p q r : Int} (h : SF b p q T) (h1 : 0 ≤ r) (h2 : r < b 1) : bthm b p q r (T, 0) = (T, 0) := by
  obtain ⟨e1, e2⟩ := h r h1 h2
  have d1 : rlx b p q r (b (10 + r)) (b (22 + r)) T = T := if_neg (by omega)
  have d2 : rlx b p q r (b (22 + r)) (b (10 + r)) T = T := if_neg (by omega)
  unfold bthm bth
  refine Prod.ext ?_ ?_
  · show rlx b p q r (b (22 + r)) (b (10 + r)) (rlx b p q r (b (10 + r)) (b (22 + r)) T) = T
    rw [d1, d2]
  · show (if a2I b p q r (T (b (10 + r))) < T (b (22 + r)) ∨ a2I b p q r (rlx b p q r (b (10 + r)) (b (22 + r)) T (b (22 + r))) < rlx b p q r (b (10 + r)) (b (22 + r)) T (b (10 + r)) ∨ ¬ (0 : Int) = 0 then (1 : Int) else 0) = 0
    rw [d1, if_neg (by omega)]
theorem SF_fI {b T : Int → Int} {p q : Int} (h : SF b p q T) : ∀ (k : Nat) (i : Int), 0 ≤ i → i + k ≤ b 1 → fI (bthm b p q) k i (T, 0) = (T, 0) := by
  intro k
  induction k with
  | zero => intro i _ _; rfl
  | succ k ih =>
    intro i h1 h2
    show fI (bthm b p q) k (i + 1) (bthm b p q i (T, 0)) = (T, 0)
    rw [SF_bthm h h1 (by omega)]
    exact ih (i + 1) (by omega) (by omega)
theorem SF_pass {b T : Int → Int} {p q : Int} (hb : WB b) (h : SF b p q T) : pass b p q T = T := by
  have hh := hb.1
  unfold WH at hh
  have e := bthm_1 (b := b) (p := p) (q := q) (b 1).toNat 0 (T, 0)
  rw [SF_fI h (b 1).toNat 0 (by omega) (by omega)] at e
  exact e.symm
theorem m_pass {b T : Int → Int} {p q B c : Int} {n a : Nat} {X : KM} {κ : Int32 → KM → Option KM} (ha : ¬ a = 232) (hb : WB b) (hB : 0 ≤ B ∧ B + 80000 ≤ 900000) (hT : okB2 B T) (hc : c = 0 ∨ c = 1) (h1 : 0 ≤ p) (h2 : p < b 2) (hq : q = -1 ∨ (0 ≤ q ∧ q < b 2)) (hn : 3050 < n) : lp_X12_laysWhen_47 n 227 a (zI p) (zI q) (zI c) (zI 0) (cs (rs X a (nT T)) b) κ = κ (zI (fI (bthm b p q) (b 1).toNat 0 (T, c)).2) (cs (rs X a (nT (fI (bthm b p q) (b 1).toNat 0 (T, c)).1)) b) := by
  have hh := hb.1
  unfold WH at hh
  have hi : 0 ≤ b 1 ∧ b 1 ≤ 12 ∧ 0 ≤ b 0 ∧ b 0 ≤ 8 := by omega
  clear hh
  refine (loop_f (lp := fun k r w => lp_X12_laysWhen_47 k 227 a (zI p) (zI q) (zI w.2) r (cs (rs X a (nT w.1)) b) κ) (f := bthm b p q) (fin := fun w => κ (zI w.2) (cs (rs X a (nT w.1)) b)) (fun r w => okB2 (B + 5760 * r) w.1 ∧ (w.2 = 0 ∨ w.2 = 1)) (N := 3020) (R := b 1) (fun k r w hk u v hV => ⟨?_, ?_⟩) (fun k w _ _ => ?_) (b 1).toNat 0 (T, c) n (by omega) (by omega) (by omega) ⟨by rw [Int.mul_zero, Int.add_zero]; exact hT, hc⟩).1
  · obtain ⟨T, c⟩ := w
    have hT : okB2 (B + 5760 * r) T := hV.1
    have hc : c = 0 ∨ c = 1 := hV.2
    clear hV
    have hR := hb.2.1 r u v
    unfold WR at hR
    have i1 : 0 ≤ b (10 + r) ∧ b (10 + r) < 8 ∧ 0 ≤ b (22 + r) ∧ b (22 + r) < 8 := by omega
    clear hR
    have ok0 : okT T := fun j j1 j2 => by have := hT j j1 j2; omega
    have ok1 := rlx_ok (p := p) (q := q) (t := b (22 + r)) hb (show B + 5760 * r ≤ 900000 by omega) hT u v i1.1 i1.2.1
    have ok2 : okT (rlx b p q r (b (10 + r)) (b (22 + r)) T) := fun j j1 j2 => by have := ok1 j j1 j2; omega
    have e1 := m_improves (n := k) (X := X) ha hb ok0 h1 h2 hq u v i1.1 i1.2.1 i1.2.2.1 i1.2.2.2 (by omega)
    have e2 := m_improves (n := k) (X := X) ha hb ok2 h1 h2 hq u v i1.2.2.1 i1.2.2.2 i1.1 i1.2.1 (by omega)
    clear ok0 ok1 ok2 hT
    show lp_X12_laysWhen_47 (k + 1) 227 a (zI p) (zI q) (zI c) (zI r) (cs (rs X a (nT T)) b) κ = lp_X12_laysWhen_47 k 227 a (zI p) (zI q) (zI (bthm b p q r (T, c)).2) (zI (r + 1)) (cs (rs X a (nT (bth b p q r T))) b) κ
    rw [lp_X12_laysWhen_47]
    by_cases w1 : a2I b p q r (T (b (10 + r))) < T (b (22 + r))
    · rw [bIT w1] at e1
      have ev : (bthm b p q r (T, c)).2 = 1 := if_pos (Or.inl w1)
      rw [ev]
      unfold bth
      by_cases w2 : a2I b p q r (rlx b p q r (b (10 + r)) (b (22 + r)) T (b (22 + r))) < rlx b p q r (b (10 + r)) (b (22 + r)) T (b (10 + r))
      · rw [bIT w2] at e2
        simp (disch := first | omega | assumption) only [↓lt, Option.bind_some, zl, ll, zadd, zsub, zmul, zneg, ladd, lsub, lmul, lneg, zltT, zltF, zleT, zleF, zeqT, zeqF, zidx, ixT, zwide, bIT, bIF, if_true, if_false, ↓reduceIte, Nat.reduceAdd, Int.reduceAdd, Int.reduceMul, Int.reduceSub, Int.reduceNeg, cs_c, cs_o, cs_2, cu_c, cu_o, Int.cast_ofNat_Int, ps_f, ps_g, ps_w, ps_o, ps_2, pu_f, pu_g, pu_w, pu_o, uI_s, uI_o, uI_j, uI_j1, uI_j2, uI_tw, or0, true_or, or_true, false_or, or_false, nar0, nar1, e1, e2]
      · rw [bIF w2] at e2
        simp (disch := first | omega | assumption) only [↓lt, Option.bind_some, zl, ll, zadd, zsub, zmul, zneg, ladd, lsub, lmul, lneg, zltT, zltF, zleT, zleF, zeqT, zeqF, zidx, ixT, zwide, bIT, bIF, if_true, if_false, ↓reduceIte, Nat.reduceAdd, Int.reduceAdd, Int.reduceMul, Int.reduceSub, Int.reduceNeg, cs_c, cs_o, cs_2, cu_c, cu_o, Int.cast_ofNat_Int, ps_f, ps_g, ps_w, ps_o, ps_2, pu_f, pu_g, pu_w, pu_o, uI_s, uI_o, uI_j, uI_j1, uI_j2, uI_tw, or0, true_or, or_true, false_or, or_false, nar0, nar1, e1, e2]
    · rw [bIF w1] at e1
      by_cases w2 : a2I b p q r (rlx b p q r (b (10 + r)) (b (22 + r)) T (b (22 + r))) < rlx b p q r (b (10 + r)) (b (22 + r)) T (b (10 + r))
      · rw [bIT w2] at e2
        have ev : (bthm b p q r (T, c)).2 = 1 := if_pos (Or.inr (Or.inl w2))
        rw [ev]
        unfold bth
        rcases hc with hc | hc
        · subst hc
          simp (disch := first | omega | assumption) only [↓lt, Option.bind_some, zl, ll, zadd, zsub, zmul, zneg, ladd, lsub, lmul, lneg, zltT, zltF, zleT, zleF, zeqT, zeqF, zidx, ixT, zwide, bIT, bIF, if_true, if_false, ↓reduceIte, Nat.reduceAdd, Int.reduceAdd, Int.reduceMul, Int.reduceSub, Int.reduceNeg, cs_c, cs_o, cs_2, cu_c, cu_o, Int.cast_ofNat_Int, ps_f, ps_g, ps_w, ps_o, ps_2, pu_f, pu_g, pu_w, pu_o, uI_s, uI_o, uI_j, uI_j1, uI_j2, uI_tw, or0, true_or, or_true, false_or, or_false, nar0, nar1, e1, e2]
        · subst hc
          simp (disch := first | omega | assumption) only [↓lt, Option.bind_some, zl, ll, zadd, zsub, zmul, zneg, ladd, lsub, lmul, lneg, zltT, zltF, zleT, zleF, zeqT, zeqF, zidx, ixT, zwide, bIT, bIF, if_true, if_false, ↓reduceIte, Nat.reduceAdd, Int.reduceAdd, Int.reduceMul, Int.reduceSub, Int.reduceNeg, cs_c, cs_o, cs_2, cu_c, cu_o, Int.cast_ofNat_Int, ps_f, ps_g, ps_w, ps_o, ps_2, pu_f, pu_g, pu_w, pu_o, uI_s, uI_o, uI_j, uI_j1, uI_j2, uI_tw, or0, true_or, or_true, false_or, or_false, nar0, nar1, e1, e2]
      · rw [bIF w2] at e2
        rcases hc with hc | hc
        · have ev : (bthm b p q r (T, c)).2 = 0 := if_neg (fun z => z.elim w1 (fun z => z.elim w2 (fun z => z hc)))
          rw [ev]
          subst hc
          unfold bth
          simp (disch := first | omega | assumption) only [↓lt, Option.bind_some, zl, ll, zadd, zsub, zmul, zneg, ladd, lsub, lmul, lneg, zltT, zltF, zleT, zleF, zeqT, zeqF, zidx, ixT, zwide, bIT, bIF, if_true, if_false, ↓reduceIte, Nat.reduceAdd, Int.reduceAdd, Int.reduceMul, Int.reduceSub, Int.reduceNeg, cs_c, cs_o, cs_2, cu_c, cu_o, Int.cast_ofNat_Int, ps_f, ps_g, ps_w, ps_o, ps_2, pu_f, pu_g, pu_w, pu_o, uI_s, uI_o, uI_j, uI_j1, uI_j2, uI_tw, or0, true_or, or_true, false_or, or_false, nar0, nar1, e1, e2]
        · have ev : (bthm b p q r (T, c)).2 = 1 := if_pos (Or.inr (Or.inr (fun z => by have : c = 0 := z; omega)))
          rw [ev]
          subst hc
          unfold bth
          simp (disch := first | omega | assumption) only [↓lt, Option.bind_some, zl, ll, zadd, zsub, zmul, zneg, ladd, lsub, lmul, lneg, zltT, zltF, zleT, zleF, zeqT, zeqF, zidx, ixT, zwide, bIT, bIF, if_true, if_false, ↓reduceIte, Nat.reduceAdd, Int.reduceAdd, Int.reduceMul, Int.reduceSub, Int.reduceNeg, cs_c, cs_o, cs_2, cu_c, cu_o, Int.cast_ofNat_Int, ps_f, ps_g, ps_w, ps_o, ps_2, pu_f, pu_g, pu_w, pu_o, uI_s, uI_o, uI_j, uI_j1, uI_j2, uI_tw, or0, true_or, or_true, false_or, or_false, nar0, nar1, e1, e2]
  · refine ⟨?_, ?_⟩
    · have := bth_ok (p := p) (q := q) (r := r) hb (show B + 5760 * r + 2880 ≤ 900000 by omega) hV.1 u v
      rw [show B + 5760 * (r + 1) = B + 5760 * r + 5760 by omega]
      exact this
    · unfold bthm
      by_cases e : a2I b p q r (w.1 (b (10 + r))) < w.1 (b (22 + r)) ∨ a2I b p q r (rlx b p q r (b (10 + r)) (b (22 + r)) w.1 (b (22 + r))) < rlx b p q r (b (10 + r)) (b (22 + r)) w.1 (b (10 + r)) ∨ ¬ w.2 = 0
      · exact Or.inr (if_pos e)
      · exact Or.inl (if_neg e)
  · obtain ⟨T, c⟩ := w
    show lp_X12_laysWhen_47 (k + 1) 227 a (zI p) (zI q) (zI c) (zI (b 1)) (cs (rs X a (nT T)) b) κ = _
    rw [lp_X12_laysWhen_47]
    simp (disch := first | omega | assumption) only [↓lt, Option.bind_some, zl, ll, zadd, zsub, zmul, zneg, ladd, lsub, lmul, lneg, zltT, zltF, zleT, zleF, zeqT, zeqF, zidx, ixT, zwide, bIT, bIF, if_true, if_false, ↓reduceIte, Nat.reduceAdd, Int.reduceAdd, Int.reduceMul, Int.reduceSub, Int.reduceNeg, cs_c, cs_o, cs_2, cu_c, cu_o, Int.cast_ofNat_Int, ps_f, ps_g, ps_w, ps_o, ps_2, pu_f, pu_g, pu_w, pu_o, uI_s, uI_o, uI_j, uI_j1, uI_j2, uI_tw, or0, true_or, or_true, false_or, or_false, nar0, nar1]
def itP (b : Int → Int) (p q : Int) : Nat → (Int → Int) → Int → Int
  | 0, T => T
  | k + 1, T => itP b p q k (pass b p q T)
theorem pass_ok {b T : Int → Int} {p q B : Int} (hb : WB b) (hB : 0 ≤ B ∧ B + 80000 ≤ 900000) (hT : okB2 B T) : okB2 (B + 70000) (pass b p q T) := by
  have hh := hb.1
  unfold WH at hh
  have hi : 0 ≤ b 1 ∧ b 1 ≤ 12 := by omega
  clear hh
  have g : ∀ (k : Nat) (i : Int) (T : Int → Int), 0 ≤ i → i + k = b 1 → okB2 (B + 5760 * i) T → okB2 (B + 5760 * b 1) (fI (bth b p q) k i T) := by
    intro k
    induction k with
    | zero =>
      intro i T h1 h2 h3
      have e : i = b 1 := by omega
      rw [← e]; exact h3
    | succ k ih =>
      intro i T h1 h2 h3
      refine ih (i + 1) (bth b p q i T) (by omega) (by omega) ?_
      have := bth_ok (p := p) (q := q) (r := i) hb (show B + 5760 * i + 2880 ≤ 900000 by omega) h3 h1 (by omega)
      rw [show B + 5760 * (i + 1) = B + 5760 * i + 5760 by omega]
      exact this
  have := g (b 1).toNat 0 T (by omega) (by omega) (by rw [Int.mul_zero, Int.add_zero]; exact hT)
  intro j j1 j2
  have := this j j1 j2
  unfold pass
  omega
theorem itP_st {b T : Int → Int} {p q : Int} (h : pass b p q T = T) : ∀ k : Nat, itP b p q k T = T := by
  intro k
  induction k with
  | zero => rfl
  | succ k ih => show itP b p q k (pass b p q T) = T; rw [h]; exact ih
theorem m_times {b : Int → Int} {p q : Int} {a : Nat} {X : KM} (ha : ¬ a = 232) (hb : WB b) (h1 : 0 ≤ p) (h2 : p < b 2) (hq : q = -1 ∨ (0 ≤ q ∧ q < b 2)) : ∀ (k : Nat) (B : Int) (T : Int → Int) (n : Nat), 0 ≤ B → B + 70000 * k + 80000 ≤ 900000 → okB2 B T → SF b p q (itP b p q k T) → 3100 + k < n → lp_X12_laysWhen_36 n 227 a (zI p) (zI q) (zI 1) (cs (rs X a (nT T)) b) = some (cs (rs X a (nT (itP b p q k T))) b) := by
  have hh := hb.1
  unfold WH at hh
  have hi : 0 ≤ b 1 ∧ b 1 ≤ 12 := by omega
  clear hh
  intro k
  induction k with
  | zero =>
    intro B T n hB hB2 hT hS hn
    obtain ⟨m, rfl⟩ : ∃ m, n = m + 1 := ⟨n - 1, by omega⟩
    obtain ⟨l, rfl⟩ : ∃ l, m = l + 1 := ⟨m - 1, by omega⟩
    have e := fun κ => m_pass (X := X) (κ := κ) (n := l + 1) ha hb ⟨hB, by omega⟩ hT (Or.inl rfl) h1 h2 hq (by omega)
    have hS2 : SF b p q T := hS
    rw [SF_fI hS2 (b 1).toNat 0 (by omega) (by omega)] at e
    rw [lp_X12_laysWhen_36]
    simp (disch := first | omega | assumption) only [↓lt, Option.bind_some, zl, ll, zadd, zsub, zmul, zneg, ladd, lsub, lmul, lneg, zltT, zltF, zleT, zleF, zeqT, zeqF, zidx, ixT, zwide, bIT, bIF, if_true, if_false, ↓reduceIte, Nat.reduceAdd, Int.reduceAdd, Int.reduceMul, Int.reduceSub, Int.reduceNeg, cs_c, cs_o, cs_2, cu_c, cu_o, Int.cast_ofNat_Int, ps_f, ps_g, ps_w, ps_o, ps_2, pu_f, pu_g, pu_w, pu_o, uI_s, uI_o, uI_j, uI_j1, uI_j2, uI_tw, or0, true_or, or_true, false_or, or_false, nar0, nar1, e]
    rw [lp_X12_laysWhen_36]
    simp (disch := first | omega | assumption) only [↓lt, Option.bind_some, zl, ll, zadd, zsub, zmul, zneg, ladd, lsub, lmul, lneg, zltT, zltF, zleT, zleF, zeqT, zeqF, zidx, ixT, zwide, bIT, bIF, if_true, if_false, ↓reduceIte, Nat.reduceAdd, Int.reduceAdd, Int.reduceMul, Int.reduceSub, Int.reduceNeg, cs_c, cs_o, cs_2, cu_c, cu_o, Int.cast_ofNat_Int, ps_f, ps_g, ps_w, ps_o, ps_2, pu_f, pu_g, pu_w, pu_o, uI_s, uI_o, uI_j, uI_j1, uI_j2, uI_tw, or0, true_or, or_true, false_or, or_false, nar0, nar1]
    rfl
  | succ k ih =>
    intro B T n hB hB2 hT hS hn
    obtain ⟨m, rfl⟩ : ∃ m, n = m + 1 := ⟨n - 1, by omega⟩
    obtain ⟨l, rfl⟩ : ∃ l, m = l + 1 := ⟨m - 1, by omega⟩
    have e := fun κ => m_pass (X := X) (κ := κ) (n := l + 1) ha hb ⟨hB, by omega⟩ hT (Or.inl rfl) h1 h2 hq (by omega)
    have ok := pass_ok (p := p) (q := q) hb ⟨hB, by omega⟩ hT
    have e3 := bthm_1 (b := b) (p := p) (q := q) (b 1).toNat 0 (T, 0)
    have e4 : (fI (bthm b p q) (b 1).toNat 0 (T, 0)).1 = pass b p q T := e3
    rw [e4] at e
    by_cases w : (fI (bthm b p q) (b 1).toNat 0 (T, 0)).2 = 0
    · have e5 := bthm_f (b 1).toNat 0 (T, 0) w
      have e6 : pass b p q T = T := e5.2
      rw [w, e6] at e
      rw [itP_st e6]
      rw [lp_X12_laysWhen_36]
      simp (disch := first | omega | assumption) only [↓lt, Option.bind_some, zl, ll, zadd, zsub, zmul, zneg, ladd, lsub, lmul, lneg, zltT, zltF, zleT, zleF, zeqT, zeqF, zidx, ixT, zwide, bIT, bIF, if_true, if_false, ↓reduceIte, Nat.reduceAdd, Int.reduceAdd, Int.reduceMul, Int.reduceSub, Int.reduceNeg, cs_c, cs_o, cs_2, cu_c, cu_o, Int.cast_ofNat_Int, ps_f, ps_g, ps_w, ps_o, ps_2, pu_f, pu_g, pu_w, pu_o, uI_s, uI_o, uI_j, uI_j1, uI_j2, uI_tw, or0, true_or, or_true, false_or, or_false, nar0, nar1, e]
      rw [lp_X12_laysWhen_36]
      simp (disch := first | omega | assumption) only [↓lt, Option.bind_some, zl, ll, zadd, zsub, zmul, zneg, ladd, lsub, lmul, lneg, zltT, zltF, zleT, zleF, zeqT, zeqF, zidx, ixT, zwide, bIT, bIF, if_true, if_false, ↓reduceIte, Nat.reduceAdd, Int.reduceAdd, Int.reduceMul, Int.reduceSub, Int.reduceNeg, cs_c, cs_o, cs_2, cu_c, cu_o, Int.cast_ofNat_Int, ps_f, ps_g, ps_w, ps_o, ps_2, pu_f, pu_g, pu_w, pu_o, uI_s, uI_o, uI_j, uI_j1, uI_j2, uI_tw, or0, true_or, or_true, false_or, or_false, nar0, nar1]
    · have e7 : (fI (bthm b p q) (b 1).toNat 0 (T, 0)).2 = 1 := by
        have g : ∀ (k : Nat) (i : Int) (w : (Int → Int) × Int), (w.2 = 0 ∨ w.2 = 1) → ((fI (bthm b p q) k i w).2 = 0 ∨ (fI (bthm b p q) k i w).2 = 1) := by
          intro k
          induction k with
          | zero => intro i w h; exact h
          | succ k ih =>
            intro i w h
            refine ih (i + 1) (bthm b p q i w) ?_
            unfold bthm
            by_cases e : a2I b p q i (w.1 (b (10 + i))) < w.1 (b (22 + i)) ∨ a2I b p q i (rlx b p q i (b (10 + i)) (b (22 + i)) w.1 (b (22 + i))) < rlx b p q i (b (10 + i)) (b (22 + i)) w.1 (b (10 + i)) ∨ ¬ w.2 = 0
            · exact Or.inr (if_pos e)
            · exact Or.inl (if_neg e)
        exact (g (b 1).toNat 0 (T, 0) (Or.inl rfl)).resolve_left w
      rw [e7] at e
      have ih2 := ih (B + 70000) (pass b p q T) (l + 1) (by omega) (by omega) ok hS (by omega)
      rw [lp_X12_laysWhen_36]
      simp (disch := first | omega | assumption) only [↓lt, Option.bind_some, zl, ll, zadd, zsub, zmul, zneg, ladd, lsub, lmul, lneg, zltT, zltF, zleT, zleF, zeqT, zeqF, zidx, ixT, zwide, bIT, bIF, if_true, if_false, ↓reduceIte, Nat.reduceAdd, Int.reduceAdd, Int.reduceMul, Int.reduceSub, Int.reduceNeg, cs_c, cs_o, cs_2, cu_c, cu_o, Int.cast_ofNat_Int, ps_f, ps_g, ps_w, ps_o, ps_2, pu_f, pu_g, pu_w, pu_o, uI_s, uI_o, uI_j, uI_j1, uI_j2, uI_tw, or0, true_or, or_true, false_or, or_false, nar0, nar1, e]
      exact ih2
