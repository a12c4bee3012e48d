/-! ===== land, days: words, numbers, marks taken by both ===== -/
def NX (T : Int → Int) (E : Int) (a : Nat) (s : Int) (M X M' X' : KM) : Prop := ∃ s' k' j' v', GD T E a s' k' j' v' M' X' ∧ s < s' ∧ M'.1 a 11 = zI s ∧ FC a M M' ∧ GC X X'
theorem nx_adv {T : Int → Int} {E s k j v : Int} {a : Nat} {M X : KM} {n : Nat} (ha : a = 5 ∨ a = 8) (hE : 0 ≤ E ∧ E ≤ 900) (h : GD T E a s k j v M X) (hk : ¬ k = 0) (hn : 1000 < n) : ∃ M' X', f_X9_advance n a M = some M' ∧ f_X12_advance n 227 X = some X' ∧ NX T E a s M X M' X' := by
  obtain ⟨M', X', s', k', j', v', e1, e2, e3, e4, e5, e6, e7, e8⟩ := gd_adv ha hE h hn
  exact ⟨M', X', e1, e2, s', k', j', v', e3, e5 hk, e6, e7, e8⟩
theorem m_must1 {X X' : KM} {n : Nat} (h : X.1 227 12 = zI 0) (e : f_X12_advance n 227 X = some X') : f_X12_must n 227 (zI 1) X = some X' := by
  unfold f_X12_must
  simp (disch := first | omega | assumption) only [↓reduceIte, zl, h, zleT, zeqF, if_true, if_false, e, Option.bind_some]
theorem m_must0 {X : KM} {n : Nat} (h : X.1 227 12 = zI 0) : f_X12_must n 227 (zI 0) X = some (f_X12_amiss 227 X) := by
  unfold f_X12_must
  simp (disch := first | omega | assumption) only [↓lt, ↓reduceIte, zl, h, zleT, zeqT, if_true]
theorem j_skipw {T : Int → Int} {E s k j v : Int} {a : Nat} {M X : KM} {n : Nat} (ha : a = 5 ∨ a = 8) (hE : 0 ≤ E ∧ E ≤ 900) (h : GD T E a s k j v M X) {i : Int} (i0 : 0 ≤ i) (i1 : i < 26) (hn : 1000 < n) :
    (j = i ∧ ∃ M' X', f_X9_skipWord n a (zI i) M = some (zI 1, M') ∧ f_X12_advance n 227 X = some X' ∧ f_X12_perhaps n 227 (bI (j = i)) X = some (zI 1, X') ∧ NX T E a s M X M' X') ∨ (¬ j = i ∧ f_X9_skipWord n a (zI i) M = some (zI 0, M) ∧ f_X12_perhaps n 227 (bI (j = i)) X = some (zI 0, X)) := by
  have sj := SG_j h.2.1
  have ss := SG_s h.2.1
  have x0 := h.2.2.1
  by_cases c : j = i
  · obtain ⟨M', X', e1, e2, e3⟩ := nx_adv ha hE h (fun z => by have := ss.2.2.2.2.2.2.2.2.2.2 (by omega); omega) hn
    refine Or.inl ⟨c, M', X', ?_, e2, ?_, e3⟩
    · unfold f_X9_skipWord
      simp (disch := first | omega | assumption) only [↓reduceIte, zl, ss.2.2.2.2.1, zeqT, if_true, e1, Option.bind_some]
    · unfold f_X12_perhaps
      rw [bIT c]
      simp (disch := first | omega | assumption) only [↓reduceIte, zl, x0, zltF, zeqF, if_false, e2, Option.bind_some]
  · refine Or.inr ⟨c, ?_, ?_⟩
    · unfold f_X9_skipWord
      simp (disch := first | omega | assumption) only [↓reduceIte, zl, ss.2.2.2.2.1, zeqF, if_false]
    · unfold f_X12_perhaps
      rw [bIF c]
      simp (disch := first | omega | assumption) only [↓reduceIte, zl, x0, zltF, zeqT, if_false, if_true]
theorem j_word {T : Int → Int} {E s k j v : Int} {a : Nat} {M X : KM} {n : Nat} (ha : a = 5 ∨ a = 8) (hE : 0 ≤ E ∧ E ≤ 900) (h : GD T E a s k j v M X) {i : Int} (i0 : 0 ≤ i) (i1 : i < 26) (hn : 1000 < n) :
    (j = i ∧ ∃ M' X', f_X9_takeWord n a (zI i) M = some (zI 1, M') ∧ f_X12_must n 227 (bI (j = i)) X = some X' ∧ NX T E a s M X M' X') ∨ (¬ j = i ∧ ∃ M' X', f_X9_takeWord n a (zI i) M = some (zI 0, M') ∧ f_X12_must n 227 (bI (j = i)) X = some X' ∧ FL a M M' X X') := by
  have x0 := h.2.2.1
  rcases j_skipw ha hE h i0 i1 hn with ⟨c, M', X', e1, e2, e3, e4⟩ | ⟨c, e1, e2⟩
  · refine Or.inl ⟨c, M', X', ?_, ?_, e4⟩
    · unfold f_X9_takeWord
      simp (disch := first | omega | assumption) only [↓lt, ↓reduceIte, zl, e1, Option.bind_some, zeqF, if_false]
    · rw [bIT c]; exact m_must1 x0 e2
  · obtain ⟨M', X', f1, f2, f3⟩ := fl_order h
    refine Or.inr ⟨c, M', X', ?_, ?_, f3⟩
    · unfold f_X9_takeWord
      simp (disch := first | omega | assumption) only [↓lt, ↓reduceIte, zl, e1, Option.bind_some, zeqT, if_true, f1]
    · rw [bIF c, m_must0 x0, f2]
theorem j_semi {T : Int → Int} {E s k j v : Int} {a : Nat} {M X : KM} {n : Nat} (ha : a = 5 ∨ a = 8) (hE : 0 ≤ E ∧ E ≤ 900) (h : GD T E a s k j v M X) (hn : 1000 < n) :
    (∃ M' X', f_X9_takeSemicolon n a M = some (zI 1, M') ∧ f_X12_must n 227 (f_X12_isSign 227 (zI 59) X) X = some X' ∧ NX T E a s M X M' X') ∨ (∃ M' X', f_X9_takeSemicolon n a M = some (zI 0, M') ∧ f_X12_must n 227 (f_X12_isSign 227 (zI 59) X) X = some X' ∧ FL a M M' X X') := by
  have x0 := h.2.2.1
  obtain ⟨s1, s2, s3, s4, -, -, -, -, k1, k2, -⟩ := SG_s h.2.1
  rw [m_isSign h.2.1 (by omega) (by omega)]
  by_cases c : k = 3
  · have hv : M.1 a 8 = zI v ∧ (v = 59 ∨ v = 60 ∨ v = 61 ∨ v = 62) := by
      obtain ⟨q, l, w, -, -, -, -, -, -, -, -, -, -, -, -, -, -, -, -, -, -, -, -, -, -, -, -, hs⟩ := h.2.1
      exact ⟨(hs c).1, (hs c).2.2⟩
    by_cases d : v = 59
    · obtain ⟨M', X', e1, e2, e3⟩ := nx_adv ha hE h (by omega) hn
      refine Or.inl ⟨M', X', ?_, ?_, e3⟩
      · unfold f_X9_takeSemicolon
        simp (disch := first | omega | assumption) only [↓lt, ↓reduceIte, zl, s3, hv.1, zeqT, if_true, e1, Option.bind_some]
      · rw [bIT ⟨c, d⟩]; exact m_must1 x0 e2
    · obtain ⟨M', X', f1, f2, f3⟩ := fl_order h
      refine Or.inr ⟨M', X', ?_, ?_, f3⟩
      · unfold f_X9_takeSemicolon
        simp (disch := first | omega | assumption) only [↓lt, ↓reduceIte, zl, s3, hv.1, zeqT, zeqF, if_true, if_false, f1]
      · rw [bIF (fun z => d z.2), m_must0 x0, f2]
  · obtain ⟨M', X', f1, f2, f3⟩ := fl_order h
    refine Or.inr ⟨M', X', ?_, ?_, f3⟩
    · unfold f_X9_takeSemicolon
      simp (disch := first | omega | assumption) only [↓lt, ↓reduceIte, zl, s3, zeqF, if_false, f1]
    · rw [bIF (fun z => c z.1), m_must0 x0, f2]
theorem j_num {T : Int → Int} {E s k j v : Int} {a : Nat} {M X : KM} {n : Nat} (ha : a = 5 ∨ a = 8) (hE : 0 ≤ E ∧ E ≤ 900) (h : GD T E a s k j v M X) {lo hi : Int} (l0 : 0 ≤ lo) (l1 : lo ≤ 10000) (i0 : 0 ≤ hi) (i1 : hi ≤ 10000) (hn : 1000 < n) :
    (∃ M' X' x, f_X9_takeNumber n a (zI lo) (zI hi) M = some (zI x, M') ∧ f_X12_count n 227 (zI lo) (zI hi) X = some (zI x, X') ∧ lo ≤ x ∧ x ≤ hi ∧ NX T E a s M X M' X') ∨ (∃ M' X', f_X9_takeNumber n a (zI lo) (zI hi) M = some (zI (-1), M') ∧ f_X12_count n 227 (zI lo) (zI hi) X = some (zI 0, X') ∧ FL a M M' X X') := by
  have x0 := h.2.2.1
  obtain ⟨s1, s2, s3, s4, -, -, -, -, k1, k2, -⟩ := SG_s h.2.1
  by_cases c : k = 2
  · have hv : M.1 a 8 = zI v ∧ X.1 227 17 = zI v ∧ 0 ≤ v ∧ v ≤ 9999 := by
      obtain ⟨q, l, w, -, -, -, -, -, -, -, -, -, -, -, -, -, -, -, -, -, -, -, -, -, -, -, hs, -⟩ := h.2.1
      exact hs c
    obtain ⟨v1, v2, v3, v4⟩ := hv
    have ii : f_X12_isIn (zI v).toInt64 (zI lo).toInt64 (zI hi).toInt64 X = bI (lo ≤ v ∧ v ≤ hi) := by
      rw [zwide (by omega) (by omega), zwide (by omega) (by omega), zwide (by omega) (by omega)]
      exact m_isIn (by omega) (by omega) (by omega) (by omega) (by omega) (by omega)
    by_cases d : lo ≤ v ∧ v ≤ hi
    · obtain ⟨M', X', e1, e2, e3⟩ := nx_adv ha hE h (by omega) hn
      rw [bIT d] at ii
      refine Or.inl ⟨M', X', v, ?_, ?_, d.1, d.2, e3⟩
      · unfold f_X9_takeNumber
        simp (disch := first | omega | assumption) only [↓lt, ↓reduceIte, zl, s3, v1, zeqT, zltF, zleT, if_true, if_false, e1, Option.bind_some]
      · unfold f_X12_count
        simp (disch := first | omega | assumption) only [↓lt, ↓reduceIte, zl, s4, v2, x0, zeqT, zeqF, zleT, if_true, if_false, ii, e2, Option.bind_some]
    · obtain ⟨M', X', f1, f2, f3⟩ := fl_fail (f := 4) h (by omega) (by omega)
      rw [bIF d] at ii
      have xb := BD_X f3.1
      obtain ⟨f, b1, b2, b3⟩ := xb
      refine Or.inr ⟨M', X', ?_, ?_, f3⟩
      · unfold f_X9_takeNumber
        by_cases e : v < lo
        · simp (disch := first | omega | assumption) only [↓lt, ↓reduceIte, zl, s3, v1, zeqT, zltT, if_true, if_false, f1, zneg, Int.reduceNeg]
        · simp (disch := first | omega | assumption) only [↓lt, ↓reduceIte, zl, s3, v1, zeqT, zltF, zleF, if_true, if_false, f1, zneg, Int.reduceNeg]
      · unfold f_X12_count
        simp (disch := first | omega | assumption) only [↓lt, ↓reduceIte, zl, s4, v2, x0, zeqT, if_true, ii, f2, b3, zleF, if_false]
  · obtain ⟨M', X', f1, f2, f3⟩ := fl_order h
    have xb := BD_X f3.1
    obtain ⟨f, b1, b2, b3⟩ := xb
    refine Or.inr ⟨M', X', ?_, ?_, f3⟩
    · unfold f_X9_takeNumber
      simp (disch := first | omega | assumption) only [↓lt, ↓reduceIte, zl, s3, zeqF, if_false, f1, zneg, Int.reduceNeg]
    · unfold f_X12_count
      simp (disch := first | omega | assumption) only [↓lt, ↓reduceIte, zl, s4, x0, zeqT, zeqF, if_true, if_false, f2, b3, zleF]
