/-! ===== where two meet ===== -/
def mxT (T U : Int → Int) (j : Int) : Int := if T j < U j then U j else T j
/-- the place where the later one comes soonest, of those from i on, after w -/
def mtS (T U : Int → Int) (i w : Int) : Int := if mxT T U i < 1000000000 ∧ (w = -1 ∨ mxT T U i < mxT T U w) then i else w
theorem mtS_t {T U : Int → Int} {i w : Int} (h1 : mxT T U i < 1000000000) (h2 : w = -1 ∨ mxT T U i < mxT T U w) : mtS T U i w = i := if_pos ⟨h1, h2⟩
theorem mtS_f {T U : Int → Int} {i w : Int} (h : ¬ (mxT T U i < 1000000000 ∧ (w = -1 ∨ mxT T U i < mxT T U w))) : mtS T U i w = w := if_neg h
/-- the class's two cells while it seeks -/
def inO (T U : Int → Int) (s w : Int) : Int := if w = -1 then 1000000000 else mxT T U w - s
def okM (T U : Int → Int) (i w : Int) : Prop := w = -1 ∨ (0 ≤ w ∧ w < i ∧ mxT T U w < 1000000000)
theorem okM_st {T U : Int → Int} {i w : Int} (hi : 0 ≤ i) (h : okM T U i w) : okM T U (i + 1) (mtS T U i w) := by
  unfold okM at *
  by_cases e : mxT T U i < 1000000000 ∧ (w = -1 ∨ mxT T U i < mxT T U w)
  · rw [mtS_t e.1 e.2]
    exact Or.inr ⟨hi, by omega, e.1⟩
  · rw [mtS_f e]
    rcases h with h | h
    · exact Or.inl h
    · exact Or.inr ⟨h.1, by omega, h.2.2⟩
theorem mxT_r {T U : Int → Int} {j : Int} (hT : okB2 700000 T) (hU : okB2 700000 U) (h1 : 0 ≤ j) (h2 : j < 8) : 0 ≤ mxT T U j ∧ (mxT T U j ≤ 700000 ∨ mxT T U j = 1000000000) := by
  have a1 := hT j h1 h2
  have a2 := hU j h1 h2
  unfold mxT
  by_cases e : T j < U j
  · rw [if_pos e]; omega
  · rw [if_neg e]; omega
theorem c_meetL {b T U : Int → Int} {dd : Int → Int} {L : Nat} {M : KM} {g : Int → Int → Int → Int} (hL : HL (cs M dd) L b) (hl : 23 ≤ L ∧ L ≤ 61) (hb : WB b) (h5 : b 5 ≤ 99999) (hT : okB2 700000 T) (hU : okB2 700000 U) : ∀ (k : Nat) (i w : Int) (N : KM) (n : Nat), 0 ≤ i → i + k = b 0 → 20 + k < n → okM T U i w → N.1 14 4 = zI w → N.1 14 5 = zI (inO T U (b 5) w) → (∀ a k, ¬ (a = 14 ∧ (k = 4 ∨ k = 5)) → N.1 a k = (rs (rs M 16 U) 15 T).1 a k) → N.2 = M.2 → ∃ N', lp_X6_findMeeting_69 n 14 L (zI i) (ps (cs N dd) L g) = some (ps (cs N' dd) L g) ∧ N'.1 14 4 = zI (fI (mtS T U) k i w) ∧ N'.1 14 5 = zI (inO T U (b 5) (fI (mtS T U) k i w)) ∧ (∀ a k, ¬ (a = 14 ∧ (k = 4 ∨ k = 5)) → N'.1 a k = (rs (rs M 16 U) 15 T).1 a k) ∧ N'.2 = M.2 := by
  have hh := hb.1
  unfold WH at hh
  have hi : 0 ≤ b 0 ∧ b 0 ≤ 8 ∧ 0 ≤ b 5 := by omega
  clear hh
  have w0 : M.1 L 8 = zI (b 0) := ((HL_cs hl.2).mp hL).1
  have w5 : M.1 L 11 = zI (b 5) := ((HL_cs hl.2).mp hL).2.2.2.1
  intro k
  induction k with
  | zero =>
    intro i w N n i1 i2 hn hw h4 h5 h6 h7
    obtain ⟨m, rfl⟩ : ∃ m, n = m + 1 := ⟨n - 1, by omega⟩
    have e0 : N.1 L 8 = zI (b 0) := by rw [h6 L 8 (by omega), rs_o (by omega), rs_o (by omega), w0]
    have : i = b 0 := by omega
    subst this
    refine ⟨N, ?_, h4, h5, h6, h7⟩
    rw [lp_X6_findMeeting_69]
    simp (disch := first | omega | assumption) only [↓lt, Option.bind_some, zl, ll, zadd, zsub, zmul, zneg, ladd, lsub, lmul, lneg, zltT, zltF, zleT, zleF, zeqT, zeqF, zidx, ixT, zwide, bIT, bIF, if_true, if_false, ↓reduceIte, Nat.reduceAdd, Int.reduceAdd, Int.reduceMul, Int.reduceSub, Int.reduceNeg, cs_c, cs_o, cs_2, cu_c, cu_o, Int.cast_ofNat_Int, ps_f, ps_g, ps_w, ps_o, ps_2, pu_f, pu_g, pu_w, pu_o, uI_s, uI_o, uI_j, uI_j1, uI_j2, uI_tw, or0, true_or, or_true, false_or, or_false, nar0, nar1, e0]
  | succ k ih =>
    intro i w N n i1 i2 hn hw h4 h5 h6 h7
    obtain ⟨m, rfl⟩ : ∃ m, n = m + 1 := ⟨n - 1, by omega⟩
    have e0 : N.1 L 8 = zI (b 0) := by rw [h6 L 8 (by omega), rs_o (by omega), rs_o (by omega), w0]
    have e5 : N.1 L 11 = zI (b 5) := by rw [h6 L 11 (by omega), rs_o (by omega), rs_o (by omega), w5]
    have eT : N.1 15 i.toNat = zI (T i) := by rw [h6 15 _ (by omega), rs_s i1 (by omega)]
    have eU : N.1 16 i.toNat = zI (U i) := by rw [h6 16 _ (by omega), rs_o (by omega), rs_s i1 (by omega)]
    have hst := okM_st i1 hw
    have a1 := hT i i1 (by omega)
    have a2 := hU i i1 (by omega)
    have am := mxT_r (j := i) hT hU i1 (by omega)
    have aw : 0 ≤ w → 0 ≤ mxT T U w ∧ mxT T U w ≤ 700000 := fun hw0 => by
      have := mxT_r (j := w) hT hU hw0 (by unfold okM at hw; omega)
      unfold okM at hw
      omega
    have em : (if zI (T i) < zI (U i) then zI (U i) else zI (T i)) = zI (mxT T U i) := by
      unfold mxT
      by_cases z : T i < U i
      · rw [if_pos z, if_pos (of_eq_true (zltT z (by omega) (by omega)))]
      · rw [if_neg z, if_neg (of_eq_false (zltF (show U i ≤ T i by omega) (by omega) (by omega)))]
    have el : f_X6_minutesFrom (zI (mxT T U i)) (zI (b 5)) (ps (cs N dd) L g) = zI (if mxT T U i < 1000000000 then mxT T U i - b 5 else 1000000000) := by
      unfold f_X6_minutesFrom
      by_cases z : mxT T U i < 1000000000
      · rw [if_pos z]
        simp (disch := first | omega | assumption) only [↓lt, Option.bind_some, zl, ll, zadd, zsub, zmul, zneg, ladd, lsub, lmul, lneg, zltT, zltF, zleT, zleF, zeqT, zeqF, zidx, ixT, zwide, bIT, bIF, if_true, if_false, ↓reduceIte, Nat.reduceAdd, Int.reduceAdd, Int.reduceMul, Int.reduceSub, Int.reduceNeg, cs_c, cs_o, cs_2, cu_c, cu_o, Int.cast_ofNat_Int, ps_f, ps_g, ps_w, ps_o, ps_2, pu_f, pu_g, pu_w, pu_o, uI_s, uI_o, uI_j, uI_j1, uI_j2, uI_tw, or0, true_or, or_true, false_or, or_false, nar0, nar1]
      · rw [if_neg z]
        simp (disch := first | omega | assumption) only [↓lt, Option.bind_some, zl, ll, zadd, zsub, zmul, zneg, ladd, lsub, lmul, lneg, zltT, zltF, zleT, zleF, zeqT, zeqF, zidx, ixT, zwide, bIT, bIF, if_true, if_false, ↓reduceIte, Nat.reduceAdd, Int.reduceAdd, Int.reduceMul, Int.reduceSub, Int.reduceNeg, cs_c, cs_o, cs_2, cu_c, cu_o, Int.cast_ofNat_Int, ps_f, ps_g, ps_w, ps_o, ps_2, pu_f, pu_g, pu_w, pu_o, uI_s, uI_o, uI_j, uI_j1, uI_j2, uI_tw, or0, true_or, or_true, false_or, or_false, nar0, nar1]
    simp only [fI]
    by_cases e : mxT T U i < 1000000000 ∧ (w = -1 ∨ mxT T U i < mxT T U w)
    · rw [mtS_t e.1 e.2] at hst ⊢
      rw [if_pos e.1] at el
      have eo : mxT T U i - b 5 < inO T U (b 5) w := by
        unfold inO
        by_cases z : w = -1
        · rw [if_pos z]; omega
        · rw [if_neg z]
          have := e.2.resolve_left z
          omega
      have eb : inO T U (b 5) w ≤ 1000000000 ∧ -100000 ≤ inO T U (b 5) w := by
        unfold inO
        by_cases z : w = -1
        · rw [if_pos z]; omega
        · rw [if_neg z]
          have := aw (by unfold okM at hw; omega)
          omega
      obtain ⟨N', f1, f2⟩ := ih (i + 1) i (uI (uI N 14 5 (zI (mxT T U i - b 5))) 14 4 (zI i)) m (by omega) (by omega) (by omega) hst uI_s (by rw [uI_o (by omega), uI_s]; unfold inO; rw [if_neg (by omega)]) (fun a k h => by rw [uI_o (by omega), uI_o (by omega)]; exact h6 a k h) h7
      refine ⟨N', ?_, f2⟩
      rw [← f1]
      rw [lp_X6_findMeeting_69]
      generalize inO T U (b 5) w = I0 at *
      generalize mxT T U i = V at *
      clear aw hw hst a1 a2 e f2 f1 ih h6 hT hU
      simp (disch := first | omega | assumption) only [↓lt, Option.bind_some, zl, ll, zadd, zsub, zmul, zneg, ladd, lsub, lmul, lneg, zltT, zltF, zleT, zleF, zeqT, zeqF, zidx, ixT, zwide, bIT, bIF, if_true, if_false, ↓reduceIte, Nat.reduceAdd, Int.reduceAdd, Int.reduceMul, Int.reduceSub, Int.reduceNeg, cs_c, cs_o, cs_2, cu_c, cu_o, Int.cast_ofNat_Int, ps_f, ps_g, ps_w, ps_o, ps_2, pu_f, pu_g, pu_w, pu_o, uI_s, uI_o, uI_j, uI_j1, uI_j2, uI_tw, or0, true_or, or_true, false_or, or_false, nar0, nar1, e0, e5, eT, eU, em, el, h5]
    · rw [mtS_f e] at hst ⊢
      obtain ⟨N', f1, f2⟩ := ih (i + 1) w N m (by omega) (by omega) (by omega) hst h4 h5 h6 h7
      refine ⟨N', ?_, f2⟩
      rw [← f1]
      rw [lp_X6_findMeeting_69]
      have eb : inO T U (b 5) w ≤ 1000000000 ∧ -100000 ≤ inO T U (b 5) w := by
        unfold inO
        by_cases z : w = -1
        · rw [if_pos z]; omega
        · rw [if_neg z]
          have := aw (by unfold okM at hw; omega)
          omega
      have eo : inO T U (b 5) w ≤ (if mxT T U i < 1000000000 then mxT T U i - b 5 else 1000000000) := by
        by_cases z : mxT T U i < 1000000000
        · rw [if_pos z]
          have y : ¬ w = -1 := fun y => e ⟨z, Or.inl y⟩
          have y2 : ¬ mxT T U i < mxT T U w := fun y => e ⟨z, Or.inr y⟩
          unfold inO
          rw [if_neg y]
          omega
        · rw [if_neg z]; exact eb.1
      have eq : (if mxT T U i < 1000000000 then mxT T U i - b 5 else 1000000000) ≤ 1000000000 := by
        by_cases z : mxT T U i < 1000000000
        · rw [if_pos z]; omega
        · rw [if_neg z]; omega
      generalize (if mxT T U i < 1000000000 then mxT T U i - b 5 else 1000000000) = Q at *
      generalize inO T U (b 5) w = I0 at *
      generalize mxT T U i = V at *
      clear aw hw hst a1 a2 e f2 f1 ih h6 hT hU
      simp (disch := first | omega | assumption) only [↓lt, Option.bind_some, zl, ll, zadd, zsub, zmul, zneg, ladd, lsub, lmul, lneg, zltT, zltF, zleT, zleF, zeqT, zeqF, zidx, ixT, zwide, bIT, bIF, if_true, if_false, ↓reduceIte, Nat.reduceAdd, Int.reduceAdd, Int.reduceMul, Int.reduceSub, Int.reduceNeg, cs_c, cs_o, cs_2, cu_c, cu_o, Int.cast_ofNat_Int, ps_f, ps_g, ps_w, ps_o, ps_2, pu_f, pu_g, pu_w, pu_o, uI_s, uI_o, uI_j, uI_j1, uI_j2, uI_tw, or0, true_or, or_true, false_or, or_false, nar0, nar1, e0, e5, eT, eU, em, el, h5]
