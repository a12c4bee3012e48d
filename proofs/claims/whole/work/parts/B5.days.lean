/-! ===== days: when ===== -/
theorem m_restWhen {X : KM} {n : Nat} {w : Int} (w0 : 0 ≤ w) (w1 : w + 8 < 2810) (hX : X.1 232 w.toNat = zI 6) : f_X12_readRest n 227 (zI w) X = f_X12_readTest n 227 (zI w) X := by
  unfold f_X12_readRest
  simp (disch := first | omega | assumption) only [↓lt, ↓reduceIte, zl, ixT, zidx, hX, zeqT, zeqF, zadd, bsome]
/-- the test's kind is known, its word read -/
theorem m_test0 {T : Int → Int} {E s k j v : Int} {M X X2 : KM} {n : Nat} {w : Int} (g : GD T E 8 s k j v M X) (hj : j = 0) (w0 : 0 ≤ w) (w1 : w + 8 < 2810) (e : f_X12_advance n 227 X = some X2) : f_X12_readTest n 227 (zI w) X = some (uI X2 232 (w + 6).toNat (zI 1)) := by
  have et : f_X12_testWord 227 X = zI 1 := by rw [m_testWord g.2.1, hj]; decide
  have em := m_must1 g.2.2.1 e
  unfold f_X12_readTest
  simp (disch := first | omega | assumption) only [↓lt, ↓reduceIte, zl, et, zltF, if_false, em, Option.bind_some, zadd, ixT, zidx, zeqT, ite_self]
theorem m_test1 {T : Int → Int} {E s k j v : Int} {M X X2 : KM} {n : Nat} {w : Int} (g : GD T E 8 s k j v M X) (hj : j = 11) (w0 : 0 ≤ w) (w1 : w + 8 < 2810) (e : f_X12_advance n 227 X = some X2) (h2 : X2.1 227 12 = zI 0) : f_X12_readTest n 227 (zI w) X = (f_X12_readTold n 227 (zI 0) (zI 1) (uI X2 232 (w + 6).toNat (zI 0))).bind fun v6 => (f_X12_readTold n 227 (zI 0) (zI 0) (uI v6.2 232 (w + 1).toNat v6.1)).bind fun v10 => some (uI v10.2 232 (w + 2).toNat v10.1) := by
  have et : f_X12_testWord 227 X = zI 0 := by rw [m_testWord g.2.1, hj]; decide
  have em := m_must1 g.2.2.1 e
  have h5 : (uI X2 232 (w + 6).toNat (zI 0)).1 227 12 = zI 0 := by rw [uI_o (by omega)]; exact h2
  unfold f_X12_readTest
  simp (disch := first | omega | assumption) only [↓lt, ↓reduceIte, zl, et, zltF, if_false, em, Option.bind_some, zadd, ixT, zidx, zeqF, zeqT, h5]
theorem m_test2 {T : Int → Int} {E s k j v : Int} {M X X2 : KM} {n : Nat} {w : Int} (g : GD T E 8 s k j v M X) (hj : j = 22) (w0 : 0 ≤ w) (w1 : w + 8 < 2810) (e : f_X12_advance n 227 X = some X2) (h2 : X2.1 227 12 = zI 0) : f_X12_readTest n 227 (zI w) X = (f_X12_readTold n 227 (zI 0) (zI 1) (uI X2 232 (w + 6).toNat (zI 2))).bind fun v6 => f_X12_readMany n 227 (zI w) (uI v6.2 232 (w + 1).toNat v6.1) := by
  have et : f_X12_testWord 227 X = zI 2 := by rw [m_testWord g.2.1, hj]; decide
  have em := m_must1 g.2.2.1 e
  have h5 : (uI X2 232 (w + 6).toNat (zI 2)).1 227 12 = zI 0 := by rw [uI_o (by omega)]; exact h2
  unfold f_X12_readTest
  simp (disch := first | omega | assumption) only [↓lt, ↓reduceIte, zl, et, zltF, if_false, em, Option.bind_some, zadd, ixT, zidx, zeqF, zeqT, h5, bsome]
theorem m_test3 {T : Int → Int} {E s k j v : Int} {M X X2 : KM} {n : Nat} {w : Int} (g : GD T E 8 s k j v M X) (hj : ¬ j = 0 ∧ ¬ j = 11 ∧ ¬ j = 22) (w0 : 0 ≤ w) (w1 : w + 8 < 2810) (e : f_X12_amiss 227 X = X2) (h2 : XB X2) : f_X12_readTest n 227 (zI w) X = some (uI X2 232 (w + 6).toNat (zI (-1))) := by
  have et : f_X12_testWord 227 X = zI (-1) := by
    rw [m_testWord g.2.1]
    unfold teW
    rw [if_neg hj.2.1, if_neg hj.1, if_neg hj.2.2]
  have em : f_X12_must n 227 (zI 0) X = some X2 := by rw [m_must0 g.2.2.1, e]
  obtain ⟨f, f1, f2, f3⟩ := h2
  have h5 : (uI X2 232 (w + 6).toNat (zI (-1))).1 227 12 = zI f := by rw [uI_o (by omega)]; exact f3
  unfold f_X12_readTest
  simp (disch := first | omega | assumption) only [↓lt, ↓reduceIte, zl, et, zltT, if_true, em, Option.bind_some, zadd, ixT, zidx, h5]
theorem xb_many {X : KM} {n : Nat} {w : Int32} (h : XB X) : f_X12_readMany n 227 w X = some X := by
  obtain ⟨f, f1, f2, f3⟩ := h
  unfold f_X12_readMany
  simp (disch := first | omega | assumption) only [↓lt, ↓reduceIte, zl, f3, zleF, if_false]
theorem m_many {T : Int → Int} {E s k j v : Int} {M X : KM} {n : Nat} {w : Int} (g : GD T E 8 s k j v M X) (w0 : 0 ≤ w) (w1 : w + 8 < 2810) :
    (k = 3 ∧ ¬ v = 59 → f_X12_readMany n 227 (zI w) X = (f_X12_must n 227 (zI 1) (uI X 232 (w + 7).toNat (zI v))).bind fun v6 => (f_X12_count n 227 (zI 0) (zI 9999) v6).bind fun v7 => some (uI v7.2 232 (w + 2).toNat v7.1)) ∧
    (¬ (k = 3 ∧ ¬ v = 59) → ∃ y, f_X12_readMany n 227 (zI w) X = (f_X12_must n 227 (zI 0) (uI X 232 (w + 7).toNat y)).bind fun v6 => (f_X12_count n 227 (zI 0) (zI 9999) v6).bind fun v7 => some (uI v7.2 232 (w + 2).toNat v7.1)) := by
  have x0 := g.2.2.1
  obtain ⟨-, -, -, s4, -, -, -, -, k1, k2, -⟩ := SG_s g.2.1
  have gw : ∀ y, GD T E 8 s k j v M (uI X 232 (w + 7).toNat y) := fun y => GD_of (M := M) (X := X) (fun _ _ _ => rfl) (fun _ _ _ => rfl) rfl (fun c i w => uI_o (by omega)) rfl g
  have i0 := fun y => m_isSign (gw y).2.1 (t := 60) (by omega) (by omega)
  have i1 := fun y => m_isSign (gw y).2.1 (t := 61) (by omega) (by omega)
  have i2 := fun y => m_isSign (gw y).2.1 (t := 62) (by omega) (by omega)
  by_cases c : k = 3
  · obtain ⟨q, l, ww, -, -, -, -, -, -, -, -, -, -, -, -, -, -, -, -, -, -, -, -, -, -, -, -, hs⟩ := g.2.1
    obtain ⟨-, x17, hv⟩ := hs c
    by_cases d : v = 59
    · refine ⟨fun z => absurd d z.2, fun _ => ⟨zI v, ?_⟩⟩
      unfold f_X12_readMany
      simp (disch := first | omega | assumption) only [↓lt, ↓reduceIte, zl, x0, zleT, if_true, s4, zeqT, x17, zadd, ixT, zidx]
      rw [i0, i1, i2, bIF (by omega), bIF (by omega), bIF (by omega)]
      rfl
    · refine ⟨fun _ => ?_, fun z => absurd ⟨c, d⟩ z⟩
      unfold f_X12_readMany
      simp (disch := first | omega | assumption) only [↓lt, ↓reduceIte, zl, x0, zleT, if_true, s4, zeqT, x17, zadd, ixT, zidx]
      rw [i0, i1, i2]
      have hv3 : v = 60 ∨ v = 61 ∨ v = 62 := by omega
      rcases hv3 with q | q | q
      · rw [bIT (c := k = 3 ∧ v = 60) (by omega)]; rfl
      · rw [bIF (c := k = 3 ∧ v = 60) (by omega), bIF (c := k = 3 ∧ v = 62) (by omega), bIT (c := k = 3 ∧ v = 61) (by omega)]; rfl
      · rw [bIF (c := k = 3 ∧ v = 60) (by omega), bIT (c := k = 3 ∧ v = 62) (by omega)]; rfl
  · refine ⟨fun z => absurd z.1 c, fun _ => ⟨zI 0, ?_⟩⟩
    unfold f_X12_readMany
    simp (disch := first | omega | assumption) only [↓lt, ↓reduceIte, zl, x0, zleT, if_true, s4, zeqF, if_false, zadd, ixT, zidx]
    rw [i0, i1, i2, bIF (by omega), bIF (by omega), bIF (by omega)]
    rfl
/-- the sign between who is lost and how long -/
theorem j_cmp {T : Int → Int} {E s k j v : Int} {M X : KM} {n m : Nat} (hE : 0 ≤ E ∧ E ≤ 900) (g : GD T E 8 s k j v M X) (hn : 1000 < n) (hm : 1000 < m) :
    (k = 3 ∧ ¬ v = 59 ∧ (v = 60 ∨ v = 61 ∨ v = 62) ∧ ∃ M' X', f_X9_takeComparison n 8 M = some (zI v, M') ∧ f_X12_advance m 227 X = some X' ∧ NX T E 8 s M X M' X') ∨
    (¬ (k = 3 ∧ ¬ v = 59) ∧ ∃ M' X', f_X9_takeComparison n 8 M = some (zI (-1), M') ∧ f_X12_amiss 227 X = X' ∧ FL 8 M M' X X') := by
  obtain ⟨s1, s2, s3, s4, -, -, -, -, k1, k2, -⟩ := SG_s g.2.1
  by_cases c : k = 3 ∧ ¬ v = 59
  · obtain ⟨q, l, ww, -, -, -, -, -, -, -, -, -, -, -, -, -, -, -, -, -, -, -, -, -, -, -, -, hs⟩ := g.2.1
    obtain ⟨x8, -, hv⟩ := hs c.1
    obtain ⟨M', X', e1, e2, e3⟩ := nx_adv2 (Or.inr rfl) hE g (by omega) hn hm
    refine Or.inl ⟨c.1, c.2, by omega, M', X', ?_, e2, e3⟩
    unfold f_X9_takeComparison
    simp (disch := first | omega | assumption) only [↓lt, ↓reduceIte, zl, s3, x8, zeqT, zeqF, if_true, if_false, e1, Option.bind_some]
  · obtain ⟨M', X', f1, f2, f3⟩ := fl_order g
    refine Or.inr ⟨c, M', X', ?_, f2, f3⟩
    unfold f_X9_takeComparison
    by_cases c3 : k = 3
    · obtain ⟨q, l, ww, -, -, -, -, -, -, -, -, -, -, -, -, -, -, -, -, -, -, -, -, -, -, -, -, hs⟩ := g.2.1
      obtain ⟨x8, -, hv⟩ := hs c3
      have : v = 59 := by omega
      subst this
      simp (disch := first | omega | assumption) only [↓lt, ↓reduceIte, zl, s3, x8, zeqT, if_true, f1, zneg, Int.reduceNeg]
    · simp (disch := first | omega | assumption) only [↓lt, ↓reduceIte, zl, s3, zeqF, if_false, f1, zneg, Int.reduceNeg]
