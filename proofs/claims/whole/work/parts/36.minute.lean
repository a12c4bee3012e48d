/-! ===== one minute of the reference, walked ===== -/
/-- who came, how many were lost: cells 28 and 29 of the reference -/
def cl2 (X : KM) (c : Int32) (l : Int) : KM := uI (uI X 227 28 c) 227 29 (zI l)
theorem cl2_c {X : KM} {c : Int32} {l : Int} : (cl2 X c l).1 227 28 = c := by unfold cl2; rw [uI_o (by omega), uI_s]
theorem cl2_l {X : KM} {c : Int32} {l : Int} : (cl2 X c l).1 227 29 = zI l := by unfold cl2; rw [uI_s]
theorem cl2_uc {X : KM} {c d : Int32} {l : Int} : uI (cl2 X c l) 227 28 d = cl2 X d l := by
  refine Prod.ext ?_ rfl
  funext a k
  unfold cl2
  by_cases h : a = 227 ∧ k = 28
  · rw [h.1, h.2, uI_s, uI_o (by omega), uI_s]
  · by_cases h2 : a = 227 ∧ k = 29
    · rw [h2.1, h2.2, uI_o (by omega), uI_s, uI_s]
    · rw [uI_o h, uI_o h2, uI_o h, uI_o h2, uI_o h]
theorem cl2_ul {X : KM} {c : Int32} {l m : Int} : uI (cl2 X c l) 227 29 (zI m) = cl2 X c m := by unfold cl2; rw [uI_tw]
theorem m_moves {b : Int → Int} {A : Int → Bool} {q p : Int} {n : Nat} {X : KM} {c : Int32} {l : Int} (hb : WB b) (h1 : 0 ≤ q) (h2 : q < b 2) (hA : A q = false) (hg : 0 ≤ b (66 + q)) (hp : p = wkB b q) (hl1 : 0 ≤ l) (hl2 : l < 1000) : f_X12_moves n 227 (zI q) (zI p) (bI (caB b q)) (bI (thB b q)) (cs (cl2 X c l) (bM b A)) = some (cs (cl2 X (if thB b q then c ||| (zI 1 <<< (zI q &&& zI 31)) else c) (if caB b q then l else l + 1)) (bM b (adA A q))) := by
  have hh := hb.1
  unfold WH at hh
  have e2 := WPb hb h1 h2
  have e3 := WP_of hb h1 h2
  have e4 := hb.2.2.2.2.2 q h1 h2
  unfold WP at e3
  unfold WL at e4
  have hr : 0 ≤ b (122 + q) ∧ b (122 + q) < 12 ∧ b (122 + q) < b 1 := by omega
  have hR := hb.2.1 (b (122 + q)) hr.1 hr.2.2
  unfold WR at hR
  have hG := hb.2.2.2.1 q (b (122 + q)) h1 (by omega) hr.1 hr.2.1
  have hi : 0 ≤ b 2 ∧ b 2 ≤ 8 ∧ b 0 ≤ 8 ∧ 0 ≤ b 5 ∧ b 5 ≤ 200000 := by omega
  have hp0 : 0 ≤ p ∧ p < 8 ∧ b (122 + p) = b (122 + q) ∧ (p = q ∨ (¬ p = q ∧ b (82 + q) = p ∧ b (82 + p) = -1)) := by
    unfold wkB at hp
    by_cases w : 0 ≤ b (82 + q)
    · rw [if_pos w] at hp
      have e5 := e4.resolve_left (by omega)
      rw [hp]
      exact ⟨w, by omega, e5.2.2.2.2.1, Or.inr ⟨e5.1, rfl, e5.2.2.2.1⟩⟩
    · rw [if_neg w] at hp
      rw [hp]
      exact ⟨h1, by omega, rfl, Or.inl rfl⟩
  have hpl : p = q → b (82 + q) = -1 := fun z => by
    unfold wkB at hp
    by_cases w : 0 ≤ b (82 + q)
    · rw [if_pos w] at hp
      have e5 := e4.resolve_left (by omega)
      omega
    · omega
  clear e3 e4 hp hh
  obtain ⟨hp1, hp2, hp3, hp4⟩ := hp0
  have c122 : bM b A (122 + p) = b (122 + q) := by
    have e := bM_f (b := b) (A := A) (q := p) (j := 8) hp1 hp2 (by omega) (by omega)
    rw [show 58 + 8 * 8 + p = 122 + p by omega] at e
    rw [e]
    by_cases w : A p = true
    · rw [if_pos w]
      unfold colF
      by_cases v1 : caB b p
      · rw [if_pos v1]
        by_cases v2 : b (74 + p) = 1
        · rw [if_pos v2, if_neg (by decide), if_neg (by decide), if_neg (by decide), if_neg (by decide), show 58 + 8 * 8 + p = 122 + p by omega]; exact hp3
        · rw [if_neg v2, if_neg (by decide), show 58 + 8 * 8 + p = 122 + p by omega]; exact hp3
      · rw [if_neg v1, if_neg (by decide), show 58 + 8 * 8 + p = 122 + p by omega]; exact hp3
    · rw [if_neg w, hp3]
  have f0 : ∀ j, 0 ≤ j → j < 9 → bM b A (58 + 8 * j + q) = b (58 + 8 * j + q) := fun j u v => bM_n h1 (by omega) u v hA
  have f66 : bM b A (66 + q) = b (66 + q) := f0 1 (by omega) (by omega)
  have f74 : bM b A (74 + q) = b (74 + q) := f0 2 (by omega) (by omega)
  have f90 : bM b A (90 + q) = b (90 + q) := f0 4 (by omega) (by omega)
  unfold f_X12_moves
  by_cases w : caB b q
  · by_cases w2 : b (74 + q) = 1
    · have hth : thB b q := ⟨w, w2⟩
      rw [if_pos hth, if_pos w]
      have f130 : bM b A (130 + 12 * q + b (122 + q)) = b (130 + 12 * q + b (122 + q)) := by
        rw [bM_g h1 (by omega) hr.1 hr.2.1, hA, if_neg (fun z => absurd z.1 (by decide))]
      have f34 : bM b A (34 + b (122 + q)) = b (34 + b (122 + q)) := bM_o (by omega)
      unfold f_X12_comes f_X12_owe
      rcases hp4 with hp4 | ⟨hp4, hp5, hp6⟩
      · have hbm := bM_there (b := b) (A := A) h1 (by omega) hA w w2 (hpl hp4) hr.1 hr.2.1
        rw [hp4] at c122 ⊢
        unfold mn99 at hbm
        by_cases w3 : b (130 + 12 * q + b (122 + q)) + 1 < 99
        · rw [if_pos w3] at hbm
          simp (disch := first | omega | assumption) only [↓lt, Option.bind_some, zl, ll, zadd, zsub, zmul, zneg, ladd, lsub, lmul, lneg, zltT, zltF, zleT, zleF, zeqT, zeqF, zidx, ixT, zwide, bIT, bIF, if_true, if_false, ↓reduceIte, Nat.reduceAdd, Int.reduceAdd, Int.reduceMul, Int.reduceSub, Int.reduceNeg, cs_c, cs_o, cs_2, cu_c, cu_o, Int.cast_ofNat_Int, ps_f, ps_g, ps_w, ps_o, ps_2, pu_f, pu_g, pu_w, pu_o, uI_s, uI_o, uI_j, uI_j1, uI_j2, uI_tw, or0, true_or, or_true, false_or, or_false, nar0, nar1, c122, f66, bu_o, f130, cl2_c, cl2_uc, hbm]
        · rw [if_neg w3] at hbm
          simp (disch := first | omega | assumption) only [↓lt, Option.bind_some, zl, ll, zadd, zsub, zmul, zneg, ladd, lsub, lmul, lneg, zltT, zltF, zleT, zleF, zeqT, zeqF, zidx, ixT, zwide, bIT, bIF, if_true, if_false, ↓reduceIte, Nat.reduceAdd, Int.reduceAdd, Int.reduceMul, Int.reduceSub, Int.reduceNeg, cs_c, cs_o, cs_2, cu_c, cu_o, Int.cast_ofNat_Int, ps_f, ps_g, ps_w, ps_o, ps_2, pu_f, pu_g, pu_w, pu_o, uI_s, uI_o, uI_j, uI_j1, uI_j2, uI_tw, or0, true_or, or_true, false_or, or_false, nar0, nar1, c122, f66, bu_o, f130, cl2_c, cl2_uc, hbm]
      · have hw := hb.2.2.2.2.1 q p h1 (by omega) hp1 hp2
        have f226 : bM b A (226 + 8 * q + p) = b (226 + 8 * q + p) := by
          rw [bM_w h1 (by omega) hp1 hp2, hA, if_neg (fun z => absurd z.1 (by decide)), if_neg (fun z => by omega)]
        have hbm := bM_led (b := b) (A := A) h1 (by omega) hp1 hp2 hA w w2 hp5 hp6 hp4 hr.1 hr.2.1 hw.2.2
        unfold mn99 debt at hbm
        by_cases w3 : b (130 + 12 * q + b (122 + q)) + 1 < 99
        · rw [if_pos w3] at hbm
          by_cases w4 : b (226 + 8 * q + p) + b (34 + b (122 + q)) < 9999
          · rw [if_pos w4] at hbm
            rw [if_pos (by omega)] at hbm
            simp (disch := first | omega | assumption) only [↓lt, Option.bind_some, zl, ll, zadd, zsub, zmul, zneg, ladd, lsub, lmul, lneg, zltT, zltF, zleT, zleF, zeqT, zeqF, zidx, ixT, zwide, bIT, bIF, if_true, if_false, ↓reduceIte, Nat.reduceAdd, Int.reduceAdd, Int.reduceMul, Int.reduceSub, Int.reduceNeg, cs_c, cs_o, cs_2, cu_c, cu_o, Int.cast_ofNat_Int, ps_f, ps_g, ps_w, ps_o, ps_2, pu_f, pu_g, pu_w, pu_o, uI_s, uI_o, uI_j, uI_j1, uI_j2, uI_tw, or0, true_or, or_true, false_or, or_false, nar0, nar1, c122, f66, bu_o, f130, f34, f226, cl2_c, cl2_uc, hbm]
          · rw [if_neg w4, if_pos (by omega)] at hbm
            simp (disch := first | omega | assumption) only [↓lt, Option.bind_some, zl, ll, zadd, zsub, zmul, zneg, ladd, lsub, lmul, lneg, zltT, zltF, zleT, zleF, zeqT, zeqF, zidx, ixT, zwide, bIT, bIF, if_true, if_false, ↓reduceIte, Nat.reduceAdd, Int.reduceAdd, Int.reduceMul, Int.reduceSub, Int.reduceNeg, cs_c, cs_o, cs_2, cu_c, cu_o, Int.cast_ofNat_Int, ps_f, ps_g, ps_w, ps_o, ps_2, pu_f, pu_g, pu_w, pu_o, uI_s, uI_o, uI_j, uI_j1, uI_j2, uI_tw, or0, true_or, or_true, false_or, or_false, nar0, nar1, c122, f66, bu_o, f130, f34, f226, cl2_c, cl2_uc, hbm]
        · rw [if_neg w3] at hbm
          by_cases w4 : b (226 + 8 * q + p) + b (34 + b (122 + q)) < 9999
          · rw [if_pos w4] at hbm
            rw [if_pos (by omega)] at hbm
            simp (disch := first | omega | assumption) only [↓lt, Option.bind_some, zl, ll, zadd, zsub, zmul, zneg, ladd, lsub, lmul, lneg, zltT, zltF, zleT, zleF, zeqT, zeqF, zidx, ixT, zwide, bIT, bIF, if_true, if_false, ↓reduceIte, Nat.reduceAdd, Int.reduceAdd, Int.reduceMul, Int.reduceSub, Int.reduceNeg, cs_c, cs_o, cs_2, cu_c, cu_o, Int.cast_ofNat_Int, ps_f, ps_g, ps_w, ps_o, ps_2, pu_f, pu_g, pu_w, pu_o, uI_s, uI_o, uI_j, uI_j1, uI_j2, uI_tw, or0, true_or, or_true, false_or, or_false, nar0, nar1, c122, f66, bu_o, f130, f34, f226, cl2_c, cl2_uc, hbm]
          · rw [if_neg w4, if_pos (by omega)] at hbm
            simp (disch := first | omega | assumption) only [↓lt, Option.bind_some, zl, ll, zadd, zsub, zmul, zneg, ladd, lsub, lmul, lneg, zltT, zltF, zleT, zleF, zeqT, zeqF, zidx, ixT, zwide, bIT, bIF, if_true, if_false, ↓reduceIte, Nat.reduceAdd, Int.reduceAdd, Int.reduceMul, Int.reduceSub, Int.reduceNeg, cs_c, cs_o, cs_2, cu_c, cu_o, Int.cast_ofNat_Int, ps_f, ps_g, ps_w, ps_o, ps_2, pu_f, pu_g, pu_w, pu_o, uI_s, uI_o, uI_j, uI_j1, uI_j2, uI_tw, or0, true_or, or_true, false_or, or_false, nar0, nar1, c122, f66, bu_o, f130, f34, f226, cl2_c, cl2_uc, hbm]
    · have hth : ¬ thB b q := fun z => w2 z.2
      rw [if_neg hth, if_pos w]
      have hbm := bM_goes (b := b) (A := A) h1 (by omega) hA w w2
      simp (disch := first | omega | assumption) only [↓lt, Option.bind_some, zl, ll, zadd, zsub, zmul, zneg, ladd, lsub, lmul, lneg, zltT, zltF, zleT, zleF, zeqT, zeqF, zidx, ixT, zwide, bIT, bIF, if_true, if_false, ↓reduceIte, Nat.reduceAdd, Int.reduceAdd, Int.reduceMul, Int.reduceSub, Int.reduceNeg, cs_c, cs_o, cs_2, cu_c, cu_o, Int.cast_ofNat_Int, ps_f, ps_g, ps_w, ps_o, ps_2, pu_f, pu_g, pu_w, pu_o, uI_s, uI_o, uI_j, uI_j1, uI_j2, uI_tw, or0, true_or, or_true, false_or, or_false, nar0, nar1, f74, hbm]
  · have hth : ¬ thB b q := fun z => w z.1
    rw [if_neg hth, if_neg w]
    have hbm := bM_lost (b := b) (A := A) h1 (by omega) hA w
    simp (disch := first | omega | assumption) only [↓lt, Option.bind_some, zl, ll, zadd, zsub, zmul, zneg, ladd, lsub, lmul, lneg, zltT, zltF, zleT, zleF, zeqT, zeqF, zidx, ixT, zwide, bIT, bIF, if_true, if_false, ↓reduceIte, Nat.reduceAdd, Int.reduceAdd, Int.reduceMul, Int.reduceSub, Int.reduceNeg, cs_c, cs_o, cs_2, cu_c, cu_o, Int.cast_ofNat_Int, ps_f, ps_g, ps_w, ps_o, ps_2, pu_f, pu_g, pu_w, pu_o, uI_s, uI_o, uI_j, uI_j1, uI_j2, uI_tw, or0, true_or, or_true, false_or, or_false, nar0, nar1, f90, hbm, cl2_l, cl2_ul]
