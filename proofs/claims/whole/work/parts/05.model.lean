/-! ===== a block of the reference: what holds of it, and its small questions ===== -/
def WH (b : Int → Int) : Prop := 0 ≤ b 0 ∧ b 0 ≤ 8 ∧ 0 ≤ b 1 ∧ b 1 ≤ 12 ∧ 0 ≤ b 2 ∧ b 2 ≤ 8 ∧ 0 ≤ b 3 ∧ b 3 ≤ 23 ∧ b 3 < b 4 ∧ b 4 ≤ 24 ∧ 0 ≤ b 5 ∧ b 5 ≤ 200000 ∧ 1 ≤ b 6 ∧ b 6 ≤ 9 ∧ 1 ≤ b 7 ∧ b 7 ≤ 9 ∧ 0 ≤ b 8 ∧ b 8 ≤ 16 ∧ 0 ≤ b 9 ∧ b 9 ≤ 1
def WR (b : Int → Int) (r : Int) : Prop := 0 ≤ b (10 + r) ∧ b (10 + r) < b 0 ∧ 0 ≤ b (22 + r) ∧ b (22 + r) < b 0 ∧ ¬ b (10 + r) = b (22 + r) ∧ 1 ≤ b (34 + r) ∧ b (34 + r) ≤ 99 ∧ 0 ≤ b (46 + r) ∧ b (46 + r) ≤ 1
def WP (b : Int → Int) (p : Int) : Prop := 0 ≤ b (58 + p) ∧ b (58 + p) < b 0 ∧ -1 ≤ b (66 + p) ∧ b (66 + p) < b 0 ∧ 0 ≤ b (74 + p) ∧ b (74 + p) ≤ 99 ∧ -1 ≤ b (82 + p) ∧ b (82 + p) < b 2 ∧ 0 ≤ b (90 + p) ∧ b (90 + p) ≤ b 5 ∧ 0 ≤ b (98 + p) ∧ b (98 + p) ≤ 1 ∧ 0 ≤ b (106 + p) ∧ b (106 + p) ≤ 1 ∧ ((b (66 + p) = -1 ∧ b (74 + p) = 0 ∧ b (82 + p) = -1) ∨ (0 ≤ b (66 + p) ∧ 0 ≤ b (122 + p) ∧ b (122 + p) < b 1 ∧ 1 ≤ b (74 + p) ∧ b (74 + p) ≤ b (34 + b (122 + p)) ∧ 0 ≤ b (114 + p) ∧ b (114 + p) < b 0))
def WG (b : Int → Int) : Prop := ∀ p r, 0 ≤ p → p < 8 → 0 ≤ r → r < 12 → 0 ≤ b (130 + 12 * p + r) ∧ b (130 + 12 * p + r) ≤ 99
def WO (b : Int → Int) : Prop := ∀ p q, 0 ≤ p → p < 8 → 0 ≤ q → q < 8 → -9999 ≤ b (226 + 8 * p + q) ∧ b (226 + 8 * p + q) ≤ 9999 ∧ b (226 + 8 * q + p) = -b (226 + 8 * p + q)
/-- who is led goes as his leader -/
def WL (b : Int → Int) (p : Int) : Prop := b (82 + p) = -1 ∨ (¬ b (82 + p) = p ∧ 0 ≤ b (66 + p) ∧ b (66 + b (82 + p)) = b (66 + p) ∧ b (82 + b (82 + p)) = -1 ∧ b (122 + b (82 + p)) = b (122 + p) ∧ b (74 + b (82 + p)) = b (74 + p) ∧ b (114 + b (82 + p)) = b (114 + p))
def WB (b : Int → Int) : Prop := WH b ∧ (∀ r, 0 ≤ r → r < b 1 → WR b r) ∧ (∀ p, 0 ≤ p → p < b 2 → WP b p) ∧ WG b ∧ WO b ∧ (∀ p, 0 ≤ p → p < b 2 → WL b p)
theorem m_isIn {a x y : Int} {M : KM} (h1 : -9223372036854775808 ≤ a) (h2 : a < 9223372036854775808) (h3 : -9223372036854775808 ≤ x) (h4 : x < 9223372036854775808) (h5 : -9223372036854775808 ≤ y) (h6 : y < 9223372036854775808) : f_X12_isIn (lI a) (lI x) (lI y) M = bI (x ≤ a ∧ a ≤ y) := by
  unfold f_X12_isIn
  simp only [lg_lt h1 h2 h3 h4, lg_gt h1 h2 h5 h6]
  by_cases q1 : a < x
  · rw [if_pos q1, bIF (by omega)]; rfl
  · rw [if_neg q1]
    by_cases q2 : y < a
    · rw [if_pos q2, bIF (by omega)]; rfl
    · rw [if_neg q2, bIT (by omega)]; rfl
theorem m_isTray {p : Int} {M : KM} (h1 : -2147483648 ≤ p) (h2 : p < 2147483648) : f_X12_isTray 227 (zI p) M = bI (0 ≤ p ∧ p < 4) := by
  unfold f_X12_isTray
  simp (disch := first | omega | assumption) only [lt, ll, zwide]
  rw [m_isIn (by omega) (by omega) (by omega) (by omega) (by omega) (by omega)]
  exact bI_c (by omega)
theorem m_isPlaceAt {b : Int → Int} {p : Int} {n : Nat} {M : KM} (h1 : -2147483648 ≤ p) (h2 : p < 2147483648) (h3 : 0 ≤ b 0) (h4 : b 0 ≤ 8) : f_X12_isPlaceAt n 227 (zI p) (cs M b) = some (bI (0 ≤ p ∧ p < b 0)) := by
  unfold f_X12_isPlaceAt
  simp (disch := first | omega | assumption) only [lt, Option.bind_some, zl, ll, zadd, zsub, zmul, zneg, ladd, lsub, lmul, lneg, zltT, zltF, zleT, zleF, zeqT, zeqF, zidx, ixT, zwide, bIT, bIF, if_true, if_false, ↓reduceIte, Nat.reduceAdd, Int.reduceAdd, Int.reduceMul, Int.reduceSub, Int.reduceNeg, cs_c, cs_o, cs_2, cu_c, cu_o, Int.cast_ofNat_Int, ps_f, ps_g, ps_w, ps_o, ps_2, pu_f, pu_g, pu_w, pu_o, uI_s, uI_o, uI_j, uI_j1, uI_j2, uI_tw, or0, true_or, or_true, false_or, or_false, nar0, nar1]
  rw [m_isIn (by omega) (by omega) (by omega) (by omega) (by omega) (by omega)]
  exact congrArg some (bI_c (by omega))
theorem m_isRoadAt {b : Int → Int} {p : Int} {n : Nat} {M : KM} (h1 : -2147483648 ≤ p) (h2 : p < 2147483648) (h3 : 0 ≤ b 1) (h4 : b 1 ≤ 12) : f_X12_isRoadAt n 227 (zI p) (cs M b) = some (bI (0 ≤ p ∧ p < b 1)) := by
  unfold f_X12_isRoadAt
  simp (disch := first | omega | assumption) only [lt, Option.bind_some, zl, ll, zadd, zsub, zmul, zneg, ladd, lsub, lmul, lneg, zltT, zltF, zleT, zleF, zeqT, zeqF, zidx, ixT, zwide, bIT, bIF, if_true, if_false, ↓reduceIte, Nat.reduceAdd, Int.reduceAdd, Int.reduceMul, Int.reduceSub, Int.reduceNeg, cs_c, cs_o, cs_2, cu_c, cu_o, Int.cast_ofNat_Int, ps_f, ps_g, ps_w, ps_o, ps_2, pu_f, pu_g, pu_w, pu_o, uI_s, uI_o, uI_j, uI_j1, uI_j2, uI_tw, or0, true_or, or_true, false_or, or_false, nar0, nar1]
  rw [m_isIn (by omega) (by omega) (by omega) (by omega) (by omega) (by omega)]
  exact congrArg some (bI_c (by omega))
theorem m_isPerson {b : Int → Int} {p : Int} {n : Nat} {M : KM} (h1 : -2147483648 ≤ p) (h2 : p < 2147483648) (h3 : 0 ≤ b 2) (h4 : b 2 ≤ 8) : f_X12_isPerson n 227 (zI p) (cs M b) = some (bI (0 ≤ p ∧ p < b 2)) := by
  unfold f_X12_isPerson
  simp (disch := first | omega | assumption) only [lt, Option.bind_some, zl, ll, zadd, zsub, zmul, zneg, ladd, lsub, lmul, lneg, zltT, zltF, zleT, zleF, zeqT, zeqF, zidx, ixT, zwide, bIT, bIF, if_true, if_false, ↓reduceIte, Nat.reduceAdd, Int.reduceAdd, Int.reduceMul, Int.reduceSub, Int.reduceNeg, cs_c, cs_o, cs_2, cu_c, cu_o, Int.cast_ofNat_Int, ps_f, ps_g, ps_w, ps_o, ps_2, pu_f, pu_g, pu_w, pu_o, uI_s, uI_o, uI_j, uI_j1, uI_j2, uI_tw, or0, true_or, or_true, false_or, or_false, nar0, nar1]
  rw [m_isIn (by omega) (by omega) (by omega) (by omega) (by omega) (by omega)]
  exact congrArg some (bI_c (by omega))
theorem m_isGoing {b : Int → Int} {p : Int} {n : Nat} {M : KM} (h1 : 0 ≤ p) (h2 : p < 8) (h3 : -1 ≤ b (66 + p)) (h4 : b (66 + p) < 8) : f_X12_isGoing n 227 (zI p) (cs M b) = some (bI (0 ≤ b (66 + p))) := by
  unfold f_X12_isGoing
  by_cases q : 0 ≤ b (66 + p)
  · simp (disch := first | omega | assumption) only [lt, Option.bind_some, zl, ll, zadd, zsub, zmul, zneg, ladd, lsub, lmul, lneg, zltT, zltF, zleT, zleF, zeqT, zeqF, zidx, ixT, zwide, bIT, bIF, if_true, if_false, ↓reduceIte, Nat.reduceAdd, Int.reduceAdd, Int.reduceMul, Int.reduceSub, Int.reduceNeg, cs_c, cs_o, cs_2, cu_c, cu_o, Int.cast_ofNat_Int, ps_f, ps_g, ps_w, ps_o, ps_2, pu_f, pu_g, pu_w, pu_o, uI_s, uI_o, uI_j, uI_j1, uI_j2, uI_tw, or0, true_or, or_true, false_or, or_false, nar0, nar1]
  · simp (disch := first | omega | assumption) only [lt, Option.bind_some, zl, ll, zadd, zsub, zmul, zneg, ladd, lsub, lmul, lneg, zltT, zltF, zleT, zleF, zeqT, zeqF, zidx, ixT, zwide, bIT, bIF, if_true, if_false, ↓reduceIte, Nat.reduceAdd, Int.reduceAdd, Int.reduceMul, Int.reduceSub, Int.reduceNeg, cs_c, cs_o, cs_2, cu_c, cu_o, Int.cast_ofNat_Int, ps_f, ps_g, ps_w, ps_o, ps_2, pu_f, pu_g, pu_w, pu_o, uI_s, uI_o, uI_j, uI_j1, uI_j2, uI_tw, or0, true_or, or_true, false_or, or_false, nar0, nar1]
abbrev glB (b : Int → Int) (t : Int) : Prop := b 9 = 0 ∧ b 3 ≤ t / 60 % 24 ∧ t / 60 % 24 < b 4
abbrev canB (b : Int → Int) (p r : Int) (g : Prop) : Prop := (b (106 + p) = 1 ∧ (b (46 + r) = 1 ∨ b 7 ≤ b (130 + 12 * p + r))) ∨ (b (106 + p) = 0 ∧ (¬ g ∨ b (98 + p) = 1))
abbrev canN (b : Int → Int) (p r : Int) : Prop := canB b p r (glB b (b 5))
theorem m_glares {b : Int → Int} {t : Int} {n : Nat} {M : KM} (hb : WH b) (h1 : 0 ≤ t) (h2 : t < 2147483648) : f_X12_glares n 227 (zI t) (cs M b) = some (bI (glB b t)) := by
  unfold WH at hb
  unfold f_X12_glares
  simp (disch := first | omega | assumption) only [lt, Option.bind_some, zl, ll, zadd, zsub, zmul, zneg, ladd, lsub, lmul, lneg, zltT, zltF, zleT, zleF, zeqT, zeqF, zidx, ixT, zwide, bIT, bIF, if_true, if_false, ↓reduceIte, Nat.reduceAdd, Int.reduceAdd, Int.reduceMul, Int.reduceSub, Int.reduceNeg, cs_c, cs_o, cs_2, cu_c, cu_o, Int.cast_ofNat_Int, ps_f, ps_g, ps_w, ps_o, ps_2, pu_f, pu_g, pu_w, pu_o, uI_s, uI_o, uI_j, uI_j1, uI_j2, uI_tw, or0, true_or, or_true, false_or, or_false, nar0, nar1, zdiv]
  by_cases q9 : b 9 = 0
  · by_cases q3 : b 3 ≤ t / 60 % 24
    · by_cases q4 : t / 60 % 24 < b 4
      · simp (disch := first | omega | assumption) only [lt, Option.bind_some, zl, ll, zadd, zsub, zmul, zneg, ladd, lsub, lmul, lneg, zltT, zltF, zleT, zleF, zeqT, zeqF, zidx, ixT, zwide, bIT, bIF, if_true, if_false, ↓reduceIte, Nat.reduceAdd, Int.reduceAdd, Int.reduceMul, Int.reduceSub, Int.reduceNeg, cs_c, cs_o, cs_2, cu_c, cu_o, Int.cast_ofNat_Int, ps_f, ps_g, ps_w, ps_o, ps_2, pu_f, pu_g, pu_w, pu_o, uI_s, uI_o, uI_j, uI_j1, uI_j2, uI_tw, or0, true_or, or_true, false_or, or_false, nar0, nar1]
      · simp (disch := first | omega | assumption) only [lt, Option.bind_some, zl, ll, zadd, zsub, zmul, zneg, ladd, lsub, lmul, lneg, zltT, zltF, zleT, zleF, zeqT, zeqF, zidx, ixT, zwide, bIT, bIF, if_true, if_false, ↓reduceIte, Nat.reduceAdd, Int.reduceAdd, Int.reduceMul, Int.reduceSub, Int.reduceNeg, cs_c, cs_o, cs_2, cu_c, cu_o, Int.cast_ofNat_Int, ps_f, ps_g, ps_w, ps_o, ps_2, pu_f, pu_g, pu_w, pu_o, uI_s, uI_o, uI_j, uI_j1, uI_j2, uI_tw, or0, true_or, or_true, false_or, or_false, nar0, nar1]
    · simp (disch := first | omega | assumption) only [lt, Option.bind_some, zl, ll, zadd, zsub, zmul, zneg, ladd, lsub, lmul, lneg, zltT, zltF, zleT, zleF, zeqT, zeqF, zidx, ixT, zwide, bIT, bIF, if_true, if_false, ↓reduceIte, Nat.reduceAdd, Int.reduceAdd, Int.reduceMul, Int.reduceSub, Int.reduceNeg, cs_c, cs_o, cs_2, cu_c, cu_o, Int.cast_ofNat_Int, ps_f, ps_g, ps_w, ps_o, ps_2, pu_f, pu_g, pu_w, pu_o, uI_s, uI_o, uI_j, uI_j1, uI_j2, uI_tw, or0, true_or, or_true, false_or, or_false, nar0, nar1]
  · simp (disch := first | omega | assumption) only [lt, Option.bind_some, zl, ll, zadd, zsub, zmul, zneg, ladd, lsub, lmul, lneg, zltT, zltF, zleT, zleF, zeqT, zeqF, zidx, ixT, zwide, bIT, bIF, if_true, if_false, ↓reduceIte, Nat.reduceAdd, Int.reduceAdd, Int.reduceMul, Int.reduceSub, Int.reduceNeg, cs_c, cs_o, cs_2, cu_c, cu_o, Int.cast_ofNat_Int, ps_f, ps_g, ps_w, ps_o, ps_2, pu_f, pu_g, pu_w, pu_o, uI_s, uI_o, uI_j, uI_j1, uI_j2, uI_tw, or0, true_or, or_true, false_or, or_false, nar0, nar1]
theorem m_canGo {b : Int → Int} {p r : Int} {n : Nat} {M : KM} {g : Prop} {_ : Decidable g} (h1 : 0 ≤ p) (h2 : p < 8) (h3 : 0 ≤ r) (h4 : r < 12) (h5 : 0 ≤ b (106 + p)) (h6 : b (106 + p) ≤ 1) (h7 : 0 ≤ b (46 + r)) (h8 : b (46 + r) ≤ 1) (h9 : 0 ≤ b (98 + p)) (h10 : b (98 + p) ≤ 1) (hg : WG b) (h11 : 1 ≤ b 7) (h12 : b 7 ≤ 9) : f_X12_canGo n 227 (zI p) (zI r) (bI g) (cs M b) = some (bI (canB b p r g)) := by
  have h13 := hg p r h1 h2 h3 h4
  unfold f_X12_canGo
  by_cases q : b (106 + p) = 1
  · by_cases q2 : b (46 + r) = 1
    · simp (disch := first | omega | assumption) only [lt, Option.bind_some, zl, ll, zadd, zsub, zmul, zneg, ladd, lsub, lmul, lneg, zltT, zltF, zleT, zleF, zeqT, zeqF, zidx, ixT, zwide, bIT, bIF, if_true, if_false, ↓reduceIte, Nat.reduceAdd, Int.reduceAdd, Int.reduceMul, Int.reduceSub, Int.reduceNeg, cs_c, cs_o, cs_2, cu_c, cu_o, Int.cast_ofNat_Int, ps_f, ps_g, ps_w, ps_o, ps_2, pu_f, pu_g, pu_w, pu_o, uI_s, uI_o, uI_j, uI_j1, uI_j2, uI_tw, or0, true_or, or_true, false_or, or_false, nar0, nar1]
    · by_cases q3 : b 7 ≤ b (130 + 12 * p + r)
      · simp (disch := first | omega | assumption) only [lt, Option.bind_some, zl, ll, zadd, zsub, zmul, zneg, ladd, lsub, lmul, lneg, zltT, zltF, zleT, zleF, zeqT, zeqF, zidx, ixT, zwide, bIT, bIF, if_true, if_false, ↓reduceIte, Nat.reduceAdd, Int.reduceAdd, Int.reduceMul, Int.reduceSub, Int.reduceNeg, cs_c, cs_o, cs_2, cu_c, cu_o, Int.cast_ofNat_Int, ps_f, ps_g, ps_w, ps_o, ps_2, pu_f, pu_g, pu_w, pu_o, uI_s, uI_o, uI_j, uI_j1, uI_j2, uI_tw, or0, true_or, or_true, false_or, or_false, nar0, nar1]
      · simp (disch := first | omega | assumption) only [lt, Option.bind_some, zl, ll, zadd, zsub, zmul, zneg, ladd, lsub, lmul, lneg, zltT, zltF, zleT, zleF, zeqT, zeqF, zidx, ixT, zwide, bIT, bIF, if_true, if_false, ↓reduceIte, Nat.reduceAdd, Int.reduceAdd, Int.reduceMul, Int.reduceSub, Int.reduceNeg, cs_c, cs_o, cs_2, cu_c, cu_o, Int.cast_ofNat_Int, ps_f, ps_g, ps_w, ps_o, ps_2, pu_f, pu_g, pu_w, pu_o, uI_s, uI_o, uI_j, uI_j1, uI_j2, uI_tw, or0, true_or, or_true, false_or, or_false, nar0, nar1]
  · by_cases q2 : g
    · by_cases q3 : b (98 + p) = 1
      · rw [bIT (c := canB b p r g) (Or.inr ⟨by omega, Or.inr q3⟩)]
        simp (disch := first | omega | assumption) only [lt, Option.bind_some, zl, ll, zadd, zsub, zmul, zneg, ladd, lsub, lmul, lneg, zltT, zltF, zleT, zleF, zeqT, zeqF, zidx, ixT, zwide, bIT, bIF, if_true, if_false, ↓reduceIte, Nat.reduceAdd, Int.reduceAdd, Int.reduceMul, Int.reduceSub, Int.reduceNeg, cs_c, cs_o, cs_2, cu_c, cu_o, Int.cast_ofNat_Int, ps_f, ps_g, ps_w, ps_o, ps_2, pu_f, pu_g, pu_w, pu_o, uI_s, uI_o, uI_j, uI_j1, uI_j2, uI_tw, or0, true_or, or_true, false_or, or_false, nar0, nar1]
      · rw [bIF (c := canB b p r g) (by rintro (⟨e, -⟩ | ⟨-, e | e⟩); exact q e; exact e q2; exact q3 e)]
        simp (disch := first | omega | assumption) only [lt, Option.bind_some, zl, ll, zadd, zsub, zmul, zneg, ladd, lsub, lmul, lneg, zltT, zltF, zleT, zleF, zeqT, zeqF, zidx, ixT, zwide, bIT, bIF, if_true, if_false, ↓reduceIte, Nat.reduceAdd, Int.reduceAdd, Int.reduceMul, Int.reduceSub, Int.reduceNeg, cs_c, cs_o, cs_2, cu_c, cu_o, Int.cast_ofNat_Int, ps_f, ps_g, ps_w, ps_o, ps_2, pu_f, pu_g, pu_w, pu_o, uI_s, uI_o, uI_j, uI_j1, uI_j2, uI_tw, or0, true_or, or_true, false_or, or_false, nar0, nar1]
    · rw [bIT (c := canB b p r g) (Or.inr ⟨by omega, Or.inl q2⟩)]
      simp (disch := first | omega | assumption) only [lt, Option.bind_some, zl, ll, zadd, zsub, zmul, zneg, ladd, lsub, lmul, lneg, zltT, zltF, zleT, zleF, zeqT, zeqF, zidx, ixT, zwide, bIT, bIF, if_true, if_false, ↓reduceIte, Nat.reduceAdd, Int.reduceAdd, Int.reduceMul, Int.reduceSub, Int.reduceNeg, cs_c, cs_o, cs_2, cu_c, cu_o, Int.cast_ofNat_Int, ps_f, ps_g, ps_w, ps_o, ps_2, pu_f, pu_g, pu_w, pu_o, uI_s, uI_o, uI_j, uI_j1, uI_j2, uI_tw, or0, true_or, or_true, false_or, or_false, nar0, nar1]
theorem m_canNow {b : Int → Int} {p r : Int} {n : Nat} {M : KM} (hb : WB b) (h1 : 0 ≤ p) (h2 : p < b 2) (h3 : 0 ≤ r) (h4 : r < b 1) : f_X12_canNow n 227 (zI p) (zI r) (cs M b) = some (bI (canN b p r)) := by
  obtain ⟨hh, hr, hp, hg, -, -⟩ := hb
  have e1 := hr r h3 h4
  have e2 := hp p h1 h2
  have hh2 := hh
  unfold WH at hh
  unfold WR at e1
  unfold WP at e2
  unfold f_X12_canNow
  simp (disch := first | omega | assumption) only [lt, Option.bind_some, zl, ll, zadd, zsub, zmul, zneg, ladd, lsub, lmul, lneg, zltT, zltF, zleT, zleF, zeqT, zeqF, zidx, ixT, zwide, bIT, bIF, if_true, if_false, ↓reduceIte, Nat.reduceAdd, Int.reduceAdd, Int.reduceMul, Int.reduceSub, Int.reduceNeg, cs_c, cs_o, cs_2, cu_c, cu_o, Int.cast_ofNat_Int, ps_f, ps_g, ps_w, ps_o, ps_2, pu_f, pu_g, pu_w, pu_o, uI_s, uI_o, uI_j, uI_j1, uI_j2, uI_tw, or0, true_or, or_true, false_or, or_false, nar0, nar1]
  rw [m_glares hh2 (by omega) (by omega)]
  simp (disch := first | omega | assumption) only [lt, Option.bind_some, zl, ll, zadd, zsub, zmul, zneg, ladd, lsub, lmul, lneg, zltT, zltF, zleT, zleF, zeqT, zeqF, zidx, ixT, zwide, bIT, bIF, if_true, if_false, ↓reduceIte, Nat.reduceAdd, Int.reduceAdd, Int.reduceMul, Int.reduceSub, Int.reduceNeg, cs_c, cs_o, cs_2, cu_c, cu_o, Int.cast_ofNat_Int, ps_f, ps_g, ps_w, ps_o, ps_2, pu_f, pu_g, pu_w, pu_o, uI_s, uI_o, uI_j, uI_j1, uI_j2, uI_tw, or0, true_or, or_true, false_or, or_false, nar0, nar1]
  rw [m_canGo h1 (by omega) h3 (by omega) (by omega) (by omega) (by omega) (by omega) (by omega) (by omega) hg (by omega) (by omega)]
  rfl
/-- the road between two places of the block at k; -1: none -/
def rdK (b : Int → Int) (k x y : Int) : Int := fstI (fun r => decide ((b (k + 10 + r) = x ∧ b (k + 22 + r) = y) ∨ (b (k + 10 + r) = y ∧ b (k + 22 + r) = x))) (b (k + 1)).toNat 0
def rdB (b : Int → Int) (x y : Int) : Int := fstI (fun r => decide ((b (10 + r) = x ∧ b (22 + r) = y) ∨ (b (10 + r) = y ∧ b (22 + r) = x))) (b 1).toNat 0
theorem rdK0 {b : Int → Int} {x y : Int} : rdK b 0 x y = rdB b x y := by
  unfold rdK rdB
  simp only [Int.zero_add, Int.reduceAdd]
theorem m_roadByK {b : Int → Int} {k x y : Int} {n : Nat} {M : KM} (hk : 0 ≤ k) (hk2 : k ≤ 2248) (hx1 : -2147483648 ≤ x) (hx2 : x < 2147483648) (hy1 : -2147483648 ≤ y) (hy2 : y < 2147483648) (hn : 13 < n) (h1 : 0 ≤ b (k + 1)) (h2 : b (k + 1) ≤ 12) (hr : ∀ r, 0 ≤ r → r < b (k + 1) → 0 ≤ b (k + 10 + r) ∧ b (k + 10 + r) < 8 ∧ 0 ≤ b (k + 22 + r) ∧ b (k + 22 + r) < 8) : lp_X12_roadBy_10 n 227 (zI x) (zI y) (zI k) (cs M b) (zI 0) = some (zI (rdK b k x y)) := by
  unfold rdK
  refine loop_fst (lp := fun n i => lp_X12_roadBy_10 n 227 (zI x) (zI y) (zI k) (cs M b) i) (res := fun i => some (zI i)) (N := 0) (R := b (k + 1)) ?_ ?_ _ 0 n (by omega) (by omega) (by omega)
  · intro n i _ hi hi2
    have e := hr i hi hi2
    simp only [decide_eq_true_eq]
    by_cases q1 : b (k + 10 + i) = x
    · by_cases q2 : b (k + 22 + i) = y
      · rw [if_pos (by omega), lp_X12_roadBy_10]
        simp (disch := first | omega | assumption) only [lt, Option.bind_some, zl, ll, zadd, zsub, zmul, zneg, ladd, lsub, lmul, lneg, zltT, zltF, zleT, zleF, zeqT, zeqF, zidx, ixT, zwide, bIT, bIF, if_true, if_false, ↓reduceIte, Nat.reduceAdd, Int.reduceAdd, Int.reduceMul, Int.reduceSub, Int.reduceNeg, cs_c, cs_o, cs_2, cu_c, cu_o, Int.cast_ofNat_Int, ps_f, ps_g, ps_w, ps_o, ps_2, pu_f, pu_g, pu_w, pu_o, uI_s, uI_o, uI_j, uI_j1, uI_j2, uI_tw, or0, true_or, or_true, false_or, or_false, nar0, nar1]
      · by_cases q3 : b (k + 10 + i) = y
        · by_cases q4 : b (k + 22 + i) = x
          · exfalso; omega
          · rw [if_neg (by omega), lp_X12_roadBy_10]
            simp (disch := first | omega | assumption) only [lt, Option.bind_some, zl, ll, zadd, zsub, zmul, zneg, ladd, lsub, lmul, lneg, zltT, zltF, zleT, zleF, zeqT, zeqF, zidx, ixT, zwide, bIT, bIF, if_true, if_false, ↓reduceIte, Nat.reduceAdd, Int.reduceAdd, Int.reduceMul, Int.reduceSub, Int.reduceNeg, cs_c, cs_o, cs_2, cu_c, cu_o, Int.cast_ofNat_Int, ps_f, ps_g, ps_w, ps_o, ps_2, pu_f, pu_g, pu_w, pu_o, uI_s, uI_o, uI_j, uI_j1, uI_j2, uI_tw, or0, true_or, or_true, false_or, or_false, nar0, nar1]
        · rw [if_neg (by omega), lp_X12_roadBy_10]
          simp (disch := first | omega | assumption) only [lt, Option.bind_some, zl, ll, zadd, zsub, zmul, zneg, ladd, lsub, lmul, lneg, zltT, zltF, zleT, zleF, zeqT, zeqF, zidx, ixT, zwide, bIT, bIF, if_true, if_false, ↓reduceIte, Nat.reduceAdd, Int.reduceAdd, Int.reduceMul, Int.reduceSub, Int.reduceNeg, cs_c, cs_o, cs_2, cu_c, cu_o, Int.cast_ofNat_Int, ps_f, ps_g, ps_w, ps_o, ps_2, pu_f, pu_g, pu_w, pu_o, uI_s, uI_o, uI_j, uI_j1, uI_j2, uI_tw, or0, true_or, or_true, false_or, or_false, nar0, nar1]
    · by_cases q3 : b (k + 10 + i) = y
      · by_cases q4 : b (k + 22 + i) = x
        · rw [if_pos (by omega), lp_X12_roadBy_10]
          simp (disch := first | omega | assumption) only [lt, Option.bind_some, zl, ll, zadd, zsub, zmul, zneg, ladd, lsub, lmul, lneg, zltT, zltF, zleT, zleF, zeqT, zeqF, zidx, ixT, zwide, bIT, bIF, if_true, if_false, ↓reduceIte, Nat.reduceAdd, Int.reduceAdd, Int.reduceMul, Int.reduceSub, Int.reduceNeg, cs_c, cs_o, cs_2, cu_c, cu_o, Int.cast_ofNat_Int, ps_f, ps_g, ps_w, ps_o, ps_2, pu_f, pu_g, pu_w, pu_o, uI_s, uI_o, uI_j, uI_j1, uI_j2, uI_tw, or0, true_or, or_true, false_or, or_false, nar0, nar1]
        · rw [if_neg (by omega), lp_X12_roadBy_10]
          simp (disch := first | omega | assumption) only [lt, Option.bind_some, zl, ll, zadd, zsub, zmul, zneg, ladd, lsub, lmul, lneg, zltT, zltF, zleT, zleF, zeqT, zeqF, zidx, ixT, zwide, bIT, bIF, if_true, if_false, ↓reduceIte, Nat.reduceAdd, Int.reduceAdd, Int.reduceMul, Int.reduceSub, Int.reduceNeg, cs_c, cs_o, cs_2, cu_c, cu_o, Int.cast_ofNat_Int, ps_f, ps_g, ps_w, ps_o, ps_2, pu_f, pu_g, pu_w, pu_o, uI_s, uI_o, uI_j, uI_j1, uI_j2, uI_tw, or0, true_or, or_true, false_or, or_false, nar0, nar1]
      · rw [if_neg (by omega), lp_X12_roadBy_10]
        simp (disch := first | omega | assumption) only [lt, Option.bind_some, zl, ll, zadd, zsub, zmul, zneg, ladd, lsub, lmul, lneg, zltT, zltF, zleT, zleF, zeqT, zeqF, zidx, ixT, zwide, bIT, bIF, if_true, if_false, ↓reduceIte, Nat.reduceAdd, Int.reduceAdd, Int.reduceMul, Int.reduceSub, Int.reduceNeg, cs_c, cs_o, cs_2, cu_c, cu_o, Int.cast_ofNat_Int, ps_f, ps_g, ps_w, ps_o, ps_2, pu_f, pu_g, pu_w, pu_o, uI_s, uI_o, uI_j, uI_j1, uI_j2, uI_tw, or0, true_or, or_true, false_or, or_false, nar0, nar1]
  · intro n _
    rw [lp_X12_roadBy_10]
    simp (disch := first | omega | assumption) only [lt, Option.bind_some, zl, ll, zadd, zsub, zmul, zneg, ladd, lsub, lmul, lneg, zltT, zltF, zleT, zleF, zeqT, zeqF, zidx, ixT, zwide, bIT, bIF, if_true, if_false, ↓reduceIte, Nat.reduceAdd, Int.reduceAdd, Int.reduceMul, Int.reduceSub, Int.reduceNeg, cs_c, cs_o, cs_2, cu_c, cu_o, Int.cast_ofNat_Int, ps_f, ps_g, ps_w, ps_o, ps_2, pu_f, pu_g, pu_w, pu_o, uI_s, uI_o, uI_j, uI_j1, uI_j2, uI_tw, or0, true_or, or_true, false_or, or_false, nar0, nar1]
theorem m_roadBy {b : Int → Int} {x y : Int} {n : Nat} {M : KM} (hb : WB b) (hx1 : -2147483648 ≤ x) (hx2 : x < 2147483648) (hy1 : -2147483648 ≤ y) (hy2 : y < 2147483648) (hn : 13 < n) : f_X12_roadBy n 227 (zI 0) (zI x) (zI y) (cs M b) = some (zI (rdB b x y)) := by
  obtain ⟨hh, hr, -, -, -, -⟩ := hb
  unfold WH at hh
  unfold f_X12_roadBy
  simp (disch := first | omega | assumption) only [lt, Option.bind_some, zl, ll, zadd, zsub, zmul, zneg, ladd, lsub, lmul, lneg, zltT, zltF, zleT, zleF, zeqT, zeqF, zidx, ixT, zwide, bIT, bIF, if_true, if_false, ↓reduceIte, Nat.reduceAdd, Int.reduceAdd, Int.reduceMul, Int.reduceSub, Int.reduceNeg, cs_c, cs_o, cs_2, cu_c, cu_o, Int.cast_ofNat_Int, ps_f, ps_g, ps_w, ps_o, ps_2, pu_f, pu_g, pu_w, pu_o, uI_s, uI_o, uI_j, uI_j1, uI_j2, uI_tw, or0, true_or, or_true, false_or, or_false, nar0, nar1]
  rw [← rdK0]
  refine m_roadByK (by omega) (by omega) hx1 hx2 hy1 hy2 hn (by simp only [Int.zero_add]; omega) (by simp only [Int.zero_add]; omega) ?_
  intro r h1 h2
  simp only [Int.zero_add] at h2
  have e := hr r h1 h2
  unfold WR at e
  simp only [Int.reduceAdd]
  omega
def btB (b : Int → Int) (x y : Int) : Int := if x = y then -1 else rdB b x y
theorem m_between {b : Int → Int} {x y : Int} {n : Nat} {M : KM} (hb : WB b) (hx1 : -2147483648 ≤ x) (hx2 : x < 2147483648) (hy1 : -2147483648 ≤ y) (hy2 : y < 2147483648) (hn : 13 < n) : f_X12_between n 227 (zI x) (zI y) (cs M b) = some (zI (btB b x y)) := by
  unfold f_X12_between btB
  by_cases q : x = y
  · simp (disch := first | omega | assumption) only [lt, Option.bind_some, zl, ll, zadd, zsub, zmul, zneg, ladd, lsub, lmul, lneg, zltT, zltF, zleT, zleF, zeqT, zeqF, zidx, ixT, zwide, bIT, bIF, if_true, if_false, ↓reduceIte, Nat.reduceAdd, Int.reduceAdd, Int.reduceMul, Int.reduceSub, Int.reduceNeg, cs_c, cs_o, cs_2, cu_c, cu_o, Int.cast_ofNat_Int, ps_f, ps_g, ps_w, ps_o, ps_2, pu_f, pu_g, pu_w, pu_o, uI_s, uI_o, uI_j, uI_j1, uI_j2, uI_tw, or0, true_or, or_true, false_or, or_false, nar0, nar1]
    rw [if_pos q]
  · simp (disch := first | omega | assumption) only [lt, Option.bind_some, zl, ll, zadd, zsub, zmul, zneg, ladd, lsub, lmul, lneg, zltT, zltF, zleT, zleF, zeqT, zeqF, zidx, ixT, zwide, bIT, bIF, if_true, if_false, ↓reduceIte, Nat.reduceAdd, Int.reduceAdd, Int.reduceMul, Int.reduceSub, Int.reduceNeg, cs_c, cs_o, cs_2, cu_c, cu_o, Int.cast_ofNat_Int, ps_f, ps_g, ps_w, ps_o, ps_2, pu_f, pu_g, pu_w, pu_o, uI_s, uI_o, uI_j, uI_j1, uI_j2, uI_tw, or0, true_or, or_true, false_or, or_false, nar0, nar1]
    rw [m_roadBy hb hx1 hx2 hy1 hy2 hn, if_neg q]
    rfl
theorem rdB_r {b : Int → Int} {x y : Int} (h : 0 ≤ b 1) : -1 ≤ rdB b x y ∧ rdB b x y < b 1 := by
  unfold rdB
  rcases fst_r (P := fun r => decide ((b (10 + r) = x ∧ b (22 + r) = y) ∨ (b (10 + r) = y ∧ b (22 + r) = x))) (b 1).toNat 0 (by omega) with ⟨e, -⟩ | ⟨e1, e2, -, -⟩
  · rw [e]; omega
  · omega
theorem btB_r {b : Int → Int} {x y : Int} (h : 0 ≤ b 1) : -1 ≤ btB b x y ∧ btB b x y < b 1 := by
  unfold btB
  by_cases q : x = y
  · rw [if_pos q]; omega
  · rw [if_neg q]; exact rdB_r h
