/-! ===== the class's hours, the reference's minutes ===== -/
theorem gB_day {f t m : Int} : gB f t (m + 1440) = gB f t m + (t - f) * 60 := by
  unfold gB
  rw [show (m + 1440) / 1440 = m / 1440 + 1 by omega, show (m + 1440) % 1440 = m % 1440 by omega, Int.add_mul, Int.one_mul]
  generalize m / 1440 * ((t - f) * 60) = q
  by_cases v : m % 1440 - f * 60 < 0
  · rw [if_pos v]; omega
  · rw [if_neg v]
    by_cases u : m % 1440 - f * 60 < (t - f) * 60
    · rw [if_pos u]; omega
    · rw [if_neg u]
theorem dnC_b {f t s k : Int} (h1 : 0 ≤ f) (h2 : f ≤ 23) (h3 : f < t) (h4 : t ≤ 24) (h5 : 0 ≤ s) (h6 : 1 ≤ k) (h6' : k ≤ 99) (h7 : ¬ (f = 0 ∧ t = 24)) : s < dnC f t s k ∧ dnC f t s k ≤ s + 2880 := by
  have e := dnC_le (n := s + 1440 + 1440) h1 h2 h3 h4 h5 h6 h7 (by omega)
  have e2 := dnC_le (n := s) h1 h2 h3 h4 h5 h6 h7 h5
  have a := gB_day (f := f) (t := t) (m := s + 1440)
  have c := gB_day (f := f) (t := t) (m := s)
  unfold clB at e e2
  constructor
  · omega
  · have := e.mpr (by omega)
    omega
def dnI (f t pace s k : Int) : Int := if pace = 2 ∨ 1000000000 ≤ s then 1000000000 else if pace = 0 then s + k else if f = 0 ∧ t = 24 then 1000000000 else dnC f t s k
theorem dnI_0 {f t s k : Int} (h : ¬ 1000000000 ≤ s) : dnI f t 0 s k = s + k := by
  unfold dnI
  rw [if_neg (by omega), if_pos rfl]
theorem dnI_1 {f t s k : Int} (h : ¬ 1000000000 ≤ s) (w : ¬ (f = 0 ∧ t = 24)) : dnI f t 1 s k = dnC f t s k := by
  unfold dnI
  rw [if_neg (by omega), if_neg (by decide), if_neg w]
theorem dnI_F {s k : Int} (h : ¬ 1000000000 ≤ s) : dnI 0 24 1 s k = 1000000000 := by
  unfold dnI
  rw [if_neg (by omega), if_neg (by decide), if_pos ⟨rfl, rfl⟩]
theorem dnI_2 {f t s k : Int} : dnI f t 2 s k = 1000000000 := by
  unfold dnI
  rw [if_pos (Or.inl rfl)]
theorem pr_le {m x : Int} (h1 : 0 ≤ m) (h2 : 0 ≤ x) (h3 : x ≤ 1440) : 0 ≤ m / 1440 * x ∧ m / 1440 * x ≤ m := by
  have h0 : 0 ≤ m / 1440 := by omega
  refine ⟨Int.mul_nonneg h0 h2, ?_⟩
  have := Int.mul_le_mul_of_nonneg_left h3 h0
  omega
theorem c_glareBefore {f t m : Int} {a n : Nat} {M : KM} (hH : HH M a f t) (h1 : 0 ≤ f) (h2 : f ≤ 23) (h3 : f < t) (h4 : t ≤ 24) (h5 : 0 ≤ m) (h6 : m < 1000000000) : f_X1_glareBefore n a (zI m) M = some (zI (gB f t m)) := by
  obtain ⟨e1, e2, e3⟩ := hH
  have hp := pr_le (m := m) (x := (t - f) * 60) h5 (by omega) (by omega)
  unfold f_X1_glareBefore gB
  rw [show m % 1440 = m - m / 1440 * 1440 by omega]
  by_cases v : m - m / 1440 * 1440 - f * 60 < 0
  · rw [if_pos v]
    simp (disch := first | omega | assumption) only [↓lt, Option.bind_some, zl, ll, zadd, zsub, zmul, zneg, ladd, lsub, lmul, lneg, zltT, zltF, zleT, zleF, zeqT, zeqF, zidx, ixT, zwide, bIT, bIF, if_true, if_false, ↓reduceIte, Nat.reduceAdd, Int.reduceAdd, Int.reduceMul, Int.reduceSub, Int.reduceNeg, cs_c, cs_o, cs_2, cu_c, cu_o, Int.cast_ofNat_Int, ps_f, ps_g, ps_w, ps_o, ps_2, pu_f, pu_g, pu_w, pu_o, uI_s, uI_o, uI_j, uI_j1, uI_j2, uI_tw, or0, true_or, or_true, false_or, or_false, nar0, nar1, zdiv, e1, e2, e3, Int.add_zero]
  · rw [if_neg v]
    by_cases u : m - m / 1440 * 1440 - f * 60 < (t - f) * 60
    · rw [if_pos u]
      simp (disch := first | omega | assumption) only [↓lt, Option.bind_some, zl, ll, zadd, zsub, zmul, zneg, ladd, lsub, lmul, lneg, zltT, zltF, zleT, zleF, zeqT, zeqF, zidx, ixT, zwide, bIT, bIF, if_true, if_false, ↓reduceIte, Nat.reduceAdd, Int.reduceAdd, Int.reduceMul, Int.reduceSub, Int.reduceNeg, cs_c, cs_o, cs_2, cu_c, cu_o, Int.cast_ofNat_Int, ps_f, ps_g, ps_w, ps_o, ps_2, pu_f, pu_g, pu_w, pu_o, uI_s, uI_o, uI_j, uI_j1, uI_j2, uI_tw, or0, true_or, or_true, false_or, or_false, nar0, nar1, zdiv, e1, e2, e3]
    · rw [if_neg u]
      simp (disch := first | omega | assumption) only [↓lt, Option.bind_some, zl, ll, zadd, zsub, zmul, zneg, ladd, lsub, lmul, lneg, zltT, zltF, zleT, zleF, zeqT, zeqF, zidx, ixT, zwide, bIT, bIF, if_true, if_false, ↓reduceIte, Nat.reduceAdd, Int.reduceAdd, Int.reduceMul, Int.reduceSub, Int.reduceNeg, cs_c, cs_o, cs_2, cu_c, cu_o, Int.cast_ofNat_Int, ps_f, ps_g, ps_w, ps_o, ps_2, pu_f, pu_g, pu_w, pu_o, uI_s, uI_o, uI_j, uI_j1, uI_j2, uI_tw, or0, true_or, or_true, false_or, or_false, nar0, nar1, zdiv, e1, e2, e3]
theorem dn_parts {f t s k : Int} (h1 : 0 ≤ f) (h2 : f ≤ 23) (h3 : f < t) (h4 : t ≤ 24) (h5 : 0 ≤ s) (h6 : 1 ≤ k) (h7 : ¬ (f = 0 ∧ t = 24)) (h8 : s ≤ 900000) (h9 : k ≤ 99) : 0 ≤ s - gB f t s + k - 1 ∧ s - gB f t s + k - 1 ≤ 900099 ∧ 0 ≤ (s - gB f t s + k - 1) / (1440 - (t - f) * 60) ∧ (s - gB f t s + k - 1) / (1440 - (t - f) * 60) ≤ 900099 ∧ 0 ≤ (s - gB f t s + k - 1) % (1440 - (t - f) * 60) ∧ (s - gB f t s + k - 1) % (1440 - (t - f) * 60) < 1440 - (t - f) * 60 ∧ (s - gB f t s + k - 1) - (s - gB f t s + k - 1) / (1440 - (t - f) * 60) * (1440 - (t - f) * 60) = (s - gB f t s + k - 1) % (1440 - (t - f) * 60) := by
  have e := cl_m h1 h2 h3 h4 (show (0 : Int) ≤ 0 by omega) h5
  have e0 : clB f t 0 = 0 := by
    unfold clB gB
    by_cases v : (0 : Int) % 1440 - f * 60 < 0
    · rw [if_pos v]; omega
    · rw [if_neg v, if_pos (by omega)]; omega
  have e1 := gB_0 (t := t) h1 h3 h5
  have hK : 0 ≤ s - gB f t s + k - 1 := by unfold clB at e e0; omega
  generalize hc : 1440 - (t - f) * 60 = c
  have hc0 : 0 < c := by omega
  generalize hKK : s - gB f t s + k - 1 = K at *
  have hdiv : c * (K / c) + K % c = K := Int.mul_ediv_add_emod K c
  have hself := Int.ediv_le_self c hK
  refine ⟨hK, by omega, Int.ediv_nonneg hK (by omega), by omega, Int.emod_nonneg _ (by omega), Int.emod_lt_of_pos _ hc0, ?_⟩
  rw [Int.mul_comm]
  omega
theorem c_doneAt {f t pace s k : Int} {a n : Nat} {M : KM} (hH : HH M a f t) (h1 : 0 ≤ f) (h2 : f ≤ 23) (h3 : f < t) (h4 : t ≤ 24) (h5 : 0 ≤ s) (h6 : 1 ≤ k) (h6' : k ≤ 99) (h8 : s ≤ 900000 ∨ s = 1000000000) (hp : pace = 0 ∨ pace = 1 ∨ pace = 2) : f_X1_doneAt n a (zI pace) (zI s) (zI k) M = some (zI (dnI f t pace s k)) := by
  have hH2 := hH
  obtain ⟨e1, e2, e3⟩ := hH
  unfold f_X1_doneAt dnI
  by_cases w1 : pace = 2
  · rw [if_pos (Or.inl w1), w1]
    simp (disch := first | omega | assumption) only [↓lt, Option.bind_some, zl, ll, zadd, zsub, zmul, zneg, ladd, lsub, lmul, lneg, zltT, zltF, zleT, zleF, zeqT, zeqF, zidx, ixT, zwide, bIT, bIF, if_true, if_false, ↓reduceIte, Nat.reduceAdd, Int.reduceAdd, Int.reduceMul, Int.reduceSub, Int.reduceNeg, cs_c, cs_o, cs_2, cu_c, cu_o, Int.cast_ofNat_Int, ps_f, ps_g, ps_w, ps_o, ps_2, pu_f, pu_g, pu_w, pu_o, uI_s, uI_o, uI_j, uI_j1, uI_j2, uI_tw, or0, true_or, or_true, false_or, or_false, nar0, nar1]
  · by_cases w2 : 1000000000 ≤ s
    · rw [if_pos (Or.inr w2)]
      simp (disch := first | omega | assumption) only [↓lt, Option.bind_some, zl, ll, zadd, zsub, zmul, zneg, ladd, lsub, lmul, lneg, zltT, zltF, zleT, zleF, zeqT, zeqF, zidx, ixT, zwide, bIT, bIF, if_true, if_false, ↓reduceIte, Nat.reduceAdd, Int.reduceAdd, Int.reduceMul, Int.reduceSub, Int.reduceNeg, cs_c, cs_o, cs_2, cu_c, cu_o, Int.cast_ofNat_Int, ps_f, ps_g, ps_w, ps_o, ps_2, pu_f, pu_g, pu_w, pu_o, uI_s, uI_o, uI_j, uI_j1, uI_j2, uI_tw, or0, true_or, or_true, false_or, or_false, nar0, nar1]
    · have w0 : ¬ (pace = 2 ∨ 1000000000 ≤ s) := by omega
      rw [if_neg w0]
      by_cases w3 : pace = 0
      · rw [if_pos w3, w3]
        simp (disch := first | omega | assumption) only [↓lt, Option.bind_some, zl, ll, zadd, zsub, zmul, zneg, ladd, lsub, lmul, lneg, zltT, zltF, zleT, zleF, zeqT, zeqF, zidx, ixT, zwide, bIT, bIF, if_true, if_false, ↓reduceIte, Nat.reduceAdd, Int.reduceAdd, Int.reduceMul, Int.reduceSub, Int.reduceNeg, cs_c, cs_o, cs_2, cu_c, cu_o, Int.cast_ofNat_Int, ps_f, ps_g, ps_w, ps_o, ps_2, pu_f, pu_g, pu_w, pu_o, uI_s, uI_o, uI_j, uI_j1, uI_j2, uI_tw, or0, true_or, or_true, false_or, or_false, nar0, nar1]
      · rw [if_neg w3]
        have w4 : pace = 1 := by omega
        subst w4
        by_cases w5 : f = 0 ∧ t = 24
        · obtain ⟨rfl, rfl⟩ := w5
          simp (disch := first | omega | assumption) only [↓lt, Option.bind_some, zl, ll, zadd, zsub, zmul, zneg, ladd, lsub, lmul, lneg, zltT, zltF, zleT, zleF, zeqT, zeqF, zidx, ixT, zwide, bIT, bIF, if_true, if_false, ↓reduceIte, Nat.reduceAdd, Int.reduceAdd, Int.reduceMul, Int.reduceSub, Int.reduceNeg, cs_c, cs_o, cs_2, cu_c, cu_o, Int.cast_ofNat_Int, ps_f, ps_g, ps_w, ps_o, ps_2, pu_f, pu_g, pu_w, pu_o, uI_s, uI_o, uI_j, uI_j1, uI_j2, uI_tw, or0, true_or, or_true, false_or, or_false, nar0, nar1, e3, and_self]
        · rw [if_neg w5]
          obtain ⟨p1, p2, p3, p4, p5, p6, p7⟩ := dn_parts h1 h2 h3 h4 h5 h6 w5 (by omega) h6'
          simp (disch := first | omega | assumption) only [↓lt, Option.bind_some, zl, ll, zadd, zsub, zmul, zneg, ladd, lsub, lmul, lneg, zltT, zltF, zleT, zleF, zeqT, zeqF, zidx, ixT, zwide, bIT, bIF, if_true, if_false, ↓reduceIte, Nat.reduceAdd, Int.reduceAdd, Int.reduceMul, Int.reduceSub, Int.reduceNeg, cs_c, cs_o, cs_2, cu_c, cu_o, Int.cast_ofNat_Int, ps_f, ps_g, ps_w, ps_o, ps_2, pu_f, pu_g, pu_w, pu_o, uI_s, uI_o, uI_j, uI_j1, uI_j2, uI_tw, or0, true_or, or_true, false_or, or_false, nar0, nar1, e3]
          rw [c_glareBefore hH2 h1 h2 h3 h4 h5 (by omega)]
          unfold dnC
          generalize hK : s - gB f t s + k - 1 = K at *
          by_cases w6 : K % (1440 - (t - f) * 60) + 1 ≤ f * 60
          · rw [if_pos w6]
            simp (disch := first | omega | assumption) only [↓lt, Option.bind_some, zl, ll, zadd, zsub, zmul, zneg, ladd, lsub, lmul, lneg, zltT, zltF, zleT, zleF, zeqT, zeqF, zidx, ixT, zwide, bIT, bIF, if_true, if_false, ↓reduceIte, Nat.reduceAdd, Int.reduceAdd, Int.reduceMul, Int.reduceSub, Int.reduceNeg, cs_c, cs_o, cs_2, cu_c, cu_o, Int.cast_ofNat_Int, ps_f, ps_g, ps_w, ps_o, ps_2, pu_f, pu_g, pu_w, pu_o, uI_s, uI_o, uI_j, uI_j1, uI_j2, uI_tw, or0, true_or, or_true, false_or, or_false, nar0, nar1, zdiv, hK, e1, e3, not_false_eq_true, p7]
          · rw [if_neg w6]
            simp (disch := first | omega | assumption) only [↓lt, Option.bind_some, zl, ll, zadd, zsub, zmul, zneg, ladd, lsub, lmul, lneg, zltT, zltF, zleT, zleF, zeqT, zeqF, zidx, ixT, zwide, bIT, bIF, if_true, if_false, ↓reduceIte, Nat.reduceAdd, Int.reduceAdd, Int.reduceMul, Int.reduceSub, Int.reduceNeg, cs_c, cs_o, cs_2, cu_c, cu_o, Int.cast_ofNat_Int, ps_f, ps_g, ps_w, ps_o, ps_2, pu_f, pu_g, pu_w, pu_o, uI_s, uI_o, uI_j, uI_j1, uI_j2, uI_tw, or0, true_or, or_true, false_or, or_false, nar0, nar1, zdiv, hK, e1, e3, not_false_eq_true, p7]
/-- minutes in which one of a pace gets on, of n from m on -/
def mvI (f t pace m n : Int) : Int := if pace = 2 then 0 else if pace = 0 then n else clB f t (m + n) - clB f t m
theorem mvI_0 {f t m n : Int} : mvI f t 0 m n = n := by
  unfold mvI
  rw [if_neg (by decide), if_pos rfl]
theorem mvI_1 {f t m n : Int} : mvI f t 1 m n = clB f t (m + n) - clB f t m := by
  unfold mvI
  rw [if_neg (by decide), if_neg (by decide)]
theorem mvI_2 {f t m n : Int} : mvI f t 2 m n = 0 := by
  unfold mvI
  rw [if_pos rfl]
theorem gB_b {f t m : Int} (h1 : 0 ≤ f) (h2 : f ≤ 23) (h3 : f < t) (h4 : t ≤ 24) (h5 : 0 ≤ m) : 0 ≤ gB f t m ∧ gB f t m ≤ m := by
  have e := cl_m h1 h2 h3 h4 (show (0 : Int) ≤ 0 by omega) h5
  have e0 : clB f t 0 = 0 := by
    unfold clB gB
    by_cases v : (0 : Int) % 1440 - f * 60 < 0
    · rw [if_pos v]; omega
    · rw [if_neg v, if_pos (by omega)]; omega
  have e1 := gB_0 (t := t) h1 h3 h5
  unfold clB at e e0
  omega
theorem c_movedIn {f t pace m k : Int} {a n : Nat} {M : KM} (hH : HH M a f t) (h1 : 0 ≤ f) (h2 : f ≤ 23) (h3 : f < t) (h4 : t ≤ 24) (h5 : 0 ≤ m) (h6 : 0 ≤ k) (h6' : k ≤ 10000) (h8 : m ≤ 900000) (hp : pace = 0 ∨ pace = 1 ∨ pace = 2) : f_X1_movedIn n a (zI pace) (zI m) (zI k) M = some (zI (mvI f t pace m k)) := by
  unfold f_X1_movedIn
  rcases hp with rfl | rfl | rfl
  · rw [mvI_0]
    simp (disch := first | omega | assumption) only [↓lt, Option.bind_some, zl, ll, zadd, zsub, zmul, zneg, ladd, lsub, lmul, lneg, zltT, zltF, zleT, zleF, zeqT, zeqF, zidx, ixT, zwide, bIT, bIF, if_true, if_false, ↓reduceIte, Nat.reduceAdd, Int.reduceAdd, Int.reduceMul, Int.reduceSub, Int.reduceNeg, cs_c, cs_o, cs_2, cu_c, cu_o, Int.cast_ofNat_Int, ps_f, ps_g, ps_w, ps_o, ps_2, pu_f, pu_g, pu_w, pu_o, uI_s, uI_o, uI_j, uI_j1, uI_j2, uI_tw, or0, true_or, or_true, false_or, or_false, nar0, nar1]
  · have e := c_glareBefore (n := n) hH h1 h2 h3 h4 (show 0 ≤ m + k by omega) (by omega)
    have e2 := c_glareBefore (n := n) hH h1 h2 h3 h4 h5 (by omega)
    have b1 := gB_b (f := f) (t := t) (m := m + k) h1 h2 h3 h4 (by omega)
    have b2 := gB_b (f := f) (t := t) (m := m) h1 h2 h3 h4 (by omega)
    rw [mvI_1]
    simp (disch := first | omega | assumption) only [↓lt, Option.bind_some, zl, ll, zadd, zsub, zmul, zneg, ladd, lsub, lmul, lneg, zltT, zltF, zleT, zleF, zeqT, zeqF, zidx, ixT, zwide, bIT, bIF, if_true, if_false, ↓reduceIte, Nat.reduceAdd, Int.reduceAdd, Int.reduceMul, Int.reduceSub, Int.reduceNeg, cs_c, cs_o, cs_2, cu_c, cu_o, Int.cast_ofNat_Int, ps_f, ps_g, ps_w, ps_o, ps_2, pu_f, pu_g, pu_w, pu_o, uI_s, uI_o, uI_j, uI_j1, uI_j2, uI_tw, or0, true_or, or_true, false_or, or_false, nar0, nar1, e, e2]
    unfold clB
    congr 2
    omega
  · rw [mvI_2]
    simp (disch := first | omega | assumption) only [↓lt, Option.bind_some, zl, ll, zadd, zsub, zmul, zneg, ladd, lsub, lmul, lneg, zltT, zltF, zleT, zleF, zeqT, zeqF, zidx, ixT, zwide, bIT, bIF, if_true, if_false, ↓reduceIte, Nat.reduceAdd, Int.reduceAdd, Int.reduceMul, Int.reduceSub, Int.reduceNeg, cs_c, cs_o, cs_2, cu_c, cu_o, Int.cast_ofNat_Int, ps_f, ps_g, ps_w, ps_o, ps_2, pu_f, pu_g, pu_w, pu_o, uI_s, uI_o, uI_j, uI_j1, uI_j2, uI_tw, or0, true_or, or_true, false_or, or_false, nar0, nar1]
theorem mv_0 {f t pace m : Int} : mvI f t pace m 0 = 0 := by
  unfold mvI
  by_cases w : pace = 2
  · rw [if_pos w]
  · rw [if_neg w]
    by_cases v : pace = 0
    · rw [if_pos v]
    · rw [if_neg v, Int.add_zero]; omega
theorem mv_step {f t pace m n : Int} (h1 : 0 ≤ f) (h2 : f ≤ 23) (h3 : f < t) (h4 : t ≤ 24) (h5 : 0 ≤ m) (h6 : 0 ≤ n) (hp : pace = 0 ∨ pace = 1 ∨ pace = 2) : mvI f t pace m (n + 1) = mvI f t pace m n + (if pace = 0 ∨ (pace = 1 ∧ ¬ glH f t (m + n)) then 1 else 0) := by
  rcases hp with rfl | rfl | rfl
  · rw [mvI_0, mvI_0, if_pos (Or.inl rfl)]
  · rw [mvI_1, mvI_1, ← Int.add_assoc, cl_step h1 h2 h3 h4 (by omega)]
    by_cases g : glH f t (m + n)
    · rw [if_pos g, if_neg (by simp [g])]; omega
    · rw [if_neg g, if_pos (Or.inr ⟨rfl, g⟩)]; omega
  · rw [mvI_2, mvI_2, if_neg (by omega)]; rfl
/-- whether what is left is gone within n minutes -/
theorem dn_mv {f t pace m k n : Int} (h1 : 0 ≤ f) (h2 : f ≤ 23) (h3 : f < t) (h4 : t ≤ 24) (h5 : 0 ≤ m) (h5' : m ≤ 900000) (h6 : 1 ≤ k) (h6' : k ≤ 99) (h7 : 0 ≤ n) (h7' : n ≤ 900000) (hp : pace = 0 ∨ pace = 1 ∨ pace = 2) : dnI f t pace m k - m ≤ n ↔ k ≤ mvI f t pace m n := by
  have w0 : ¬ 1000000000 ≤ m := by omega
  rcases hp with rfl | rfl | rfl
  · rw [mvI_0, dnI_0 w0]; omega
  · rw [mvI_1]
    by_cases w : f = 0 ∧ t = 24
    · obtain ⟨rfl, rfl⟩ := w
      rw [dnI_F w0]
      have : clB 0 24 (m + n) = 0 ∧ clB 0 24 m = 0 := by
        unfold clB gB
        constructor
        · rw [if_neg (by omega), if_pos (by omega)]; omega
        · rw [if_neg (by omega), if_pos (by omega)]; omega
      omega
    · rw [dnI_1 w0 w]
      have e := dnC_le (n := m + n) h1 h2 h3 h4 h5 h6 w (by omega)
      omega
  · rw [dnI_2, mvI_2]; omega
/-- and when it is gone, just so many got on -/
theorem dn_at {f t pace m k n : Int} (h1 : 0 ≤ f) (h2 : f ≤ 23) (h3 : f < t) (h4 : t ≤ 24) (h5 : 0 ≤ m) (h5' : m ≤ 900000) (h6 : 1 ≤ k) (h6' : k ≤ 99) (h7' : n ≤ 900000) (hp : pace = 0 ∨ pace = 1 ∨ pace = 2) (h : dnI f t pace m k - m ≤ n) : mvI f t pace m (dnI f t pace m k - m) = k ∧ 1 ≤ dnI f t pace m k - m := by
  have w0 : ¬ 1000000000 ≤ m := by omega
  rcases hp with rfl | rfl | rfl
  · rw [mvI_0, dnI_0 w0] at *; omega
  · by_cases w : f = 0 ∧ t = 24
    · obtain ⟨rfl, rfl⟩ := w
      rw [dnI_F w0] at h
      omega
    · rw [dnI_1 w0 w] at *
      obtain ⟨e1, e2, e3⟩ := dnC_ok h1 h2 h3 h4 h5 h6 w
      have e4 := dnC_b h1 h2 h3 h4 h5 h6 h6' w
      rw [mvI_1, show m + (dnC f t m k - m) = dnC f t m k by omega]
      omega
  · rw [dnI_2] at h; omega

