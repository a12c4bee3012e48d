/-! ===== a fraction, both alike ===== -/
theorem eu_1 {a c : Int} (h1 : 0 ≤ a) (h2 : 1 ≤ c) (h3 : a ≤ 100000000000000000) (h4 : c ≤ 100000000000000000) : 1 ≤ eu 200 a c ∧ eu 200 a c ≤ 100000000000000000 := by
  have m1 := Int.emod_nonneg a (show ¬ c = 0 by omega)
  have m2 := Int.emod_lt_of_pos a (show 0 < c by omega)
  rw [show 200 = 199 + 1 from rfl, eu_s (by omega)]
  exact eu_r 199 c (a % c) h2 m1 h4 (by omega)
theorem p60 : (2 : Int) ^ 60 = 1152921504606846976 := by decide
theorem c_setFraction {a c : Int} {n : Nat} {M : KM} (h1 : 0 ≤ a) (h2 : 1 ≤ c) (h3 : a ≤ 100000000000000000) (h4 : c ≤ 100000000000000000) (hn : 300 < n) : f_X11_setFraction n 0 (lI a) (lI c) M = some (uJ (uJ M 0 18 (lI (a / eu 200 a c))) 0 19 (lI (c / eu 200 a c))) := by
  have e := c_divL 200 a c 0 n M h1 (by omega) (by omega) (by omega) (by omega) (by omega) (by omega)
  have r := eu_1 h1 h2 h3 h4
  generalize eu 200 a c = G at *
  have g : (zI 0 < lg_cmp (lI G) (lI 0)) = True := (lg_gt (by omega) (by omega) (by omega) (by omega)).trans (eq_true (by omega))
  have g0 : ¬ G = 0 := by omega
  unfold f_X11_setFraction f_X11_commonDivisor
  simp (disch := first | omega | assumption) only [↓lt, Option.bind_some, zl, ll, e, g, if_true, l_eq, g0, not_false_eq_true, ldiv]
theorem m_fraction {a c : Int} {n : Nat} {M : KM} (h1 : 0 ≤ a) (h2 : 1 ≤ c) (h3 : a ≤ 100000000000000000) (h4 : c ≤ 100000000000000000) (hn : 300 < n) : f_X12_fraction n 227 (lI a) (lI c) M = some (zI 1, uJ (uJ M 227 2 (lI (a / eu 200 a c))) 227 3 (lI (c / eu 200 a c))) := by
  have e := fun κ => m_divL (κ := κ) (c1 := lI a) (c3 := lI c) 60 a c n M h1 (by omega) (by omega) (by omega) (by rw [p60]; omega) (by omega)
  have en := eu_enough 60 a c (2 * 60) 200 h1 (by omega) (by rw [p60]; omega) (by omega) (by omega)
  rw [en] at e
  have r := eu_1 h1 h2 h3 h4
  generalize eu 200 a c = G at *
  have g0 : ¬ G = 0 := by omega
  have ea : (if lI 0 < lI a then lI a else -lI a) = lI a := by
    have el : (lI 0 < lI a) = (0 < a) := l_lt (by omega) (by omega) (by omega) (by omega)
    by_cases w : 0 < a
    · rw [if_pos (el.mpr w)]
    · rw [if_neg (fun z => w (el.mp z)), lneg]
      congr 1
      omega
  unfold f_X12_fraction
  simp (disch := first | omega | assumption) only [↓lt, Option.bind_some, zl, ll, ea, e, if_true, l_eq, g0, not_false_eq_true, ldiv]
/-- a power, as the class reckons it -/
theorem c_power {x : Int} {M : KM} (hx : -2147483648 ≤ x) (hx2 : x < 2147483648) : ∀ (k : Nat) (i N : Int) (v : Int) (n : Nat), 0 ≤ i → i + k = N → N < 1000000 → k < n → lp_X11_power_5 n (zI x) (zI N) M (lI v) (zI i) = some (lI (v * x ^ k)) := by
  intro k
  induction k with
  | zero =>
    intro i N v n h1 h2 h3 h4
    obtain ⟨m, rfl⟩ : ∃ m, n = m + 1 := ⟨n - 1, by omega⟩
    have e : i = N := by omega
    subst e
    rw [lp_X11_power_5, Int.pow_zero, Int.mul_one]
    simp (disch := first | omega | assumption) only [↓lt, Option.bind_some, zl, ll, zadd, zsub, zmul, zneg, ladd, lsub, lmul, lneg, zltT, zltF, zleT, zleF, zeqT, zeqF, zidx, ixT, zwide, bIT, bIF, if_true, if_false, ↓reduceIte, Nat.reduceAdd, Int.reduceAdd, Int.reduceMul, Int.reduceSub, Int.reduceNeg, cs_c, cs_o, cs_2, cu_c, cu_o, Int.cast_ofNat_Int, ps_f, ps_g, ps_w, ps_o, ps_2, pu_f, pu_g, pu_w, pu_o, uI_s, uI_o, uI_j, uI_j1, uI_j2, uI_tw, or0, true_or, or_true, false_or, or_false, nar0, nar1]
  | succ k ih =>
    intro i N v n h1 h2 h3 h4
    obtain ⟨m, rfl⟩ : ∃ m, n = m + 1 := ⟨n - 1, by omega⟩
    have e := ih (i + 1) N (v * x) m (by omega) (by omega) h3 (by omega)
    rw [Int.pow_succ, Int.mul_comm (x ^ k) x, ← Int.mul_assoc, ← e, lp_X11_power_5]
    simp (disch := first | omega | assumption) only [↓lt, Option.bind_some, zl, ll, zadd, zsub, zmul, zneg, ladd, lsub, lmul, lneg, zltT, zltF, zleT, zleF, zeqT, zeqF, zidx, ixT, zwide, bIT, bIF, if_true, if_false, ↓reduceIte, Nat.reduceAdd, Int.reduceAdd, Int.reduceMul, Int.reduceSub, Int.reduceNeg, cs_c, cs_o, cs_2, cu_c, cu_o, Int.cast_ofNat_Int, ps_f, ps_g, ps_w, ps_o, ps_2, pu_f, pu_g, pu_w, pu_o, uI_s, uI_o, uI_j, uI_j1, uI_j2, uI_tw, or0, true_or, or_true, false_or, or_false, nar0, nar1]
