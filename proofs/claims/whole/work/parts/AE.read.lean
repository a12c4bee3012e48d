/-! ===== land: any part ===== -/
theorem j_part {T : Int → Int} {E s k j v : Int} {M X : KM} {n S : Nat} {b : Int → Int} (hE : 0 ≤ E ∧ E ≤ 900) (hS : Sp S M) (h : GD T E 5 s k j v M X) (hL : LB S b M X) (hT : TO M X) (hn : 1000 < n) : PcR T E S s n M X (f_X3_readPart n 5 S M) (f_X12_readPart n 227 X) := by
  have hj := SG_j h.2.1
  have s7 := (SG_s h.2.1).2.2.2.2.1
  have S2 := hS.2
  have hp1 : P01 M S := hL.2.2.2.2.1
  have et := m_testWord h.2.1
  have e2 := m_isClock h.2.1
  have e3 := m_isRope h.2.1
  have e4 := m_isHabit h.2.1
  have e5 := m_isOdds h.2.1
  have e6 := m_isPlace h.2.1
  have e7 := m_isRoad h.2.1
  have e10 := m_isSighted h.2.1
  have e13 := m_isBlind h.2.1
  have e14 := m_isKnows h.2.1
  -- no part begins so
  have bad : f_X3_readPart n 5 S M = some ((f_X9_failOrder 5 M).1, (f_X9_failOrder 5 M).2) → f_X12_readPart n 227 X = some (f_X12_amiss 227 X) → PcR T E S s n M X (f_X3_readPart n 5 S M) (f_X12_readPart n 227 X) := fun c1 c2 => by
    obtain ⟨M', X', f1, f2, f3⟩ := fl_order h
    rw [c1, c2, f1, f2]
    exact pc_bad f3.1 (P01_C (Or.inl rfl) (by omega) f3.2.1 hp1) (FC_M f3.2.1) (GC_X f3.2.2)
  have hj2 : j = -1 ∨ j = 0 ∨ j = 1 ∨ j = 2 ∨ j = 3 ∨ j = 4 ∨ j = 5 ∨ j = 6 ∨ j = 7 ∨ j = 8 ∨ j = 9 ∨ j = 10 ∨ j = 11 ∨ j = 12 ∨ j = 13 ∨ j = 14 ∨ j = 15 ∨ j = 16 ∨ j = 17 ∨ j = 18 ∨ j = 19 ∨ j = 20 ∨ j = 21 ∨ j = 22 ∨ j = 23 ∨ j = 24 ∨ j = 25 := by omega
  rcases hj2 with rfl | rfl | rfl | rfl | rfl | rfl | rfl | rfl | rfl | rfl | rfl | rfl | rfl | rfl | rfl | rfl | rfl | rfl | rfl | rfl | rfl | rfl | rfl | rfl | rfl | rfl | rfl
  · refine bad ?_ ?_
    · unfold f_X3_readPart
      rw [lt, s7, if_neg (by decide), if_neg (by decide), if_neg (by decide), if_neg (by decide), if_neg (by decide), if_neg (by decide), if_neg (by decide), if_neg (by decide), if_neg (by decide), if_neg (by decide), if_neg (by decide), if_neg (by decide), if_neg (by decide), if_neg (by decide), if_neg (by decide)]
      rfl
    · unfold f_X12_readPart
      rw [lt, et, if_neg (by decide), lt, e2, if_pos (by decide), lt, e3, if_pos (by decide), lt, e4, if_pos (by decide), lt, e5, if_pos (by decide), lt, e6, if_pos (by decide), lt, e7, if_pos (by decide), lt, e10, if_pos (by decide), lt, e13, if_pos (by decide), lt, e14, if_pos (by decide)]
      rfl
  · have c1 : f_X3_readPart n 5 S M = sq (f_X3_startOnce n 5) (f_X3_readGlare n 5 S) M := by
      unfold f_X3_readPart
      rw [lt, s7, if_pos (by decide)]
      rfl
    have c2 : f_X12_readPart n 227 X = f_X12_readGlare n 227 X := by
      unfold f_X12_readPart
      rw [lt, et, if_pos (by decide)]
      exact bsome _
    rw [c1, c2]
    exact j_glare hE hS h hL hT hn
  · refine bad ?_ ?_
    · unfold f_X3_readPart
      rw [lt, s7, if_neg (by decide), if_pos (by decide)]
      rfl
    · unfold f_X12_readPart
      rw [lt, et, if_neg (by decide), lt, e2, if_pos (by decide), lt, e3, if_pos (by decide), lt, e4, if_pos (by decide), lt, e5, if_pos (by decide), lt, e6, if_pos (by decide), lt, e7, if_pos (by decide), lt, e10, if_pos (by decide), lt, e13, if_pos (by decide), lt, e14, if_pos (by decide)]
      rfl
  · have c1 : f_X3_readPart n 5 S M = sq (f_X3_startOnce n 5) (f_X3_readClock n 5 S) M := by
      unfold f_X3_readPart
      rw [lt, s7, if_neg (by decide), if_neg (by decide), if_pos (by decide)]
      rfl
    have c2 : f_X12_readPart n 227 X = f_X12_readOnce n 227 (zI 1) (zI 5) (zI 0) (zI 1439) X := by
      unfold f_X12_readPart
      rw [lt, et, if_neg (by decide), lt, e2, if_neg (by decide)]
      exact bsome _
    rw [c1, c2]
    exact j_clock hE hS h hL hT hn
  · have c1 : f_X3_readPart n 5 S M = sq (f_X3_startOnce n 5) (f_X3_readRope n 5 S) M := by
      unfold f_X3_readPart
      rw [lt, s7, if_neg (by decide), if_neg (by decide), if_neg (by decide), if_pos (by decide)]
      rfl
    have c2 : f_X12_readPart n 227 X = f_X12_readOnce n 227 (zI 2) (zI 6) (zI 1) (zI 9) X := by
      unfold f_X12_readPart
      rw [lt, et, if_neg (by decide), lt, e2, if_pos (by decide), lt, e3, if_neg (by decide)]
      exact bsome _
    rw [c1, c2]
    exact j_rope hE hS h hL hT hn
  · have c1 : f_X3_readPart n 5 S M = sq (f_X3_startOnce n 5) (f_X3_readHabit n 5 S) M := by
      unfold f_X3_readPart
      rw [lt, s7, if_neg (by decide), if_neg (by decide), if_neg (by decide), if_neg (by decide), if_pos (by decide)]
      rfl
    have c2 : f_X12_readPart n 227 X = f_X12_readHabit n 227 X := by
      unfold f_X12_readPart
      rw [lt, et, if_neg (by decide), lt, e2, if_pos (by decide), lt, e3, if_pos (by decide), lt, e4, if_neg (by decide)]
      exact bsome _
    rw [c1, c2]
    exact j_habit hE hS h hL hT hn
  · have c1 : f_X3_readPart n 5 S M = sq (f_X3_startOnce n 5) (f_X3_readOdds n 5 S) M := by
      unfold f_X3_readPart
      rw [lt, s7, if_neg (by decide), if_neg (by decide), if_neg (by decide), if_neg (by decide), if_neg (by decide), if_pos (by decide)]
      rfl
    have c2 : f_X12_readPart n 227 X = f_X12_readOnce n 227 (zI 4) (zI 8) (zI 0) (zI 16) X := by
      unfold f_X12_readPart
      rw [lt, et, if_neg (by decide), lt, e2, if_pos (by decide), lt, e3, if_pos (by decide), lt, e4, if_pos (by decide), lt, e5, if_neg (by decide)]
      exact bsome _
    rw [c1, c2]
    exact j_odds hE hS h hL hT hn
  · have c1 : f_X3_readPart n 5 S M = sq (fun M => f_X3_start n 5 (M.1 S 8) (8 : Int32) M) (f_X3_readPlace n 5 S) M := by
      unfold f_X3_readPart
      rw [lt, s7, if_neg (by decide), if_neg (by decide), if_neg (by decide), if_neg (by decide), if_neg (by decide), if_neg (by decide), if_pos (by decide)]
      rfl
    have c2 : f_X12_readPart n 227 X = f_X12_readPlace n 227 X := by
      unfold f_X12_readPart
      rw [lt, et, if_neg (by decide), lt, e2, if_pos (by decide), lt, e3, if_pos (by decide), lt, e4, if_pos (by decide), lt, e5, if_pos (by decide), lt, e6, if_neg (by decide)]
      exact bsome _
    rw [c1, c2]
    exact j_placePart hE hS h hL hT hn
  · have c1 : f_X3_readPart n 5 S M = sq (fun M => f_X3_start n 5 (M.1 S 9) (12 : Int32) M) (f_X3_readRoad n 5 S) M := by
      unfold f_X3_readPart
      rw [lt, s7, if_neg (by decide), if_neg (by decide), if_neg (by decide), if_neg (by decide), if_neg (by decide), if_neg (by decide), if_neg (by decide), if_pos (by decide)]
      rfl
    have c2 : f_X12_readPart n 227 X = f_X12_readRoad n 227 X := by
      unfold f_X12_readPart
      rw [lt, et, if_neg (by decide), lt, e2, if_pos (by decide), lt, e3, if_pos (by decide), lt, e4, if_pos (by decide), lt, e5, if_pos (by decide), lt, e6, if_pos (by decide), lt, e7, if_neg (by decide)]
      exact bsome _
    rw [c1, c2]
    exact j_roadPart hE hS h hL hT hn
  · refine bad ?_ ?_
    · unfold f_X3_readPart
      rw [lt, s7, if_neg (by decide), if_neg (by decide), if_neg (by decide), if_neg (by decide), if_neg (by decide), if_neg (by decide), if_neg (by decide), if_neg (by decide), if_pos (by decide)]
      rfl
    · unfold f_X12_readPart
      rw [lt, et, if_neg (by decide), lt, e2, if_pos (by decide), lt, e3, if_pos (by decide), lt, e4, if_pos (by decide), lt, e5, if_pos (by decide), lt, e6, if_pos (by decide), lt, e7, if_pos (by decide), lt, e10, if_pos (by decide), lt, e13, if_pos (by decide), lt, e14, if_pos (by decide)]
      rfl
  · refine bad ?_ ?_
    · unfold f_X3_readPart
      rw [lt, s7, if_neg (by decide), if_neg (by decide), if_neg (by decide), if_neg (by decide), if_neg (by decide), if_neg (by decide), if_neg (by decide), if_neg (by decide), if_neg (by decide), if_pos (by decide)]
      rfl
    · unfold f_X12_readPart
      rw [lt, et, if_neg (by decide), lt, e2, if_pos (by decide), lt, e3, if_pos (by decide), lt, e4, if_pos (by decide), lt, e5, if_pos (by decide), lt, e6, if_pos (by decide), lt, e7, if_pos (by decide), lt, e10, if_pos (by decide), lt, e13, if_pos (by decide), lt, e14, if_pos (by decide)]
      rfl
  · have c1 : f_X3_readPart n 5 S M = sq (fun M => f_X3_start n 5 (M.1 S 10) (8 : Int32) M) (f_X3_readPerson n 5 S (zI (1 - 0))) M := by
      unfold f_X3_readPart
      rw [lt, s7, if_neg (by decide), if_neg (by decide), if_neg (by decide), if_neg (by decide), if_neg (by decide), if_neg (by decide), if_neg (by decide), if_neg (by decide), if_neg (by decide), if_neg (by decide), if_pos (by decide)]
      rfl
    have c2 : f_X12_readPart n 227 X = f_X12_readPerson n 227 (zI 0) X := by
      unfold f_X12_readPart
      rw [lt, et, if_neg (by decide), lt, e2, if_pos (by decide), lt, e3, if_pos (by decide), lt, e4, if_pos (by decide), lt, e5, if_pos (by decide), lt, e6, if_pos (by decide), lt, e7, if_pos (by decide), lt, e10, if_neg (by decide)]
      exact bsome _
    rw [c1, c2]
    exact j_personPart (Or.inl rfl) hE hS h (by omega) hL hT hn
  · refine bad ?_ ?_
    · unfold f_X3_readPart
      rw [lt, s7, if_neg (by decide), if_neg (by decide), if_neg (by decide), if_neg (by decide), if_neg (by decide), if_neg (by decide), if_neg (by decide), if_neg (by decide), if_neg (by decide), if_neg (by decide), if_neg (by decide), if_pos (by decide)]
      rfl
    · unfold f_X12_readPart
      rw [lt, et, if_neg (by decide), lt, e2, if_pos (by decide), lt, e3, if_pos (by decide), lt, e4, if_pos (by decide), lt, e5, if_pos (by decide), lt, e6, if_pos (by decide), lt, e7, if_pos (by decide), lt, e10, if_pos (by decide), lt, e13, if_pos (by decide), lt, e14, if_pos (by decide)]
      rfl
  · refine bad ?_ ?_
    · unfold f_X3_readPart
      rw [lt, s7, if_neg (by decide), if_neg (by decide), if_neg (by decide), if_neg (by decide), if_neg (by decide), if_neg (by decide), if_neg (by decide), if_neg (by decide), if_neg (by decide), if_neg (by decide), if_neg (by decide), if_neg (by decide), if_pos (by decide)]
      rfl
    · unfold f_X12_readPart
      rw [lt, et, if_neg (by decide), lt, e2, if_pos (by decide), lt, e3, if_pos (by decide), lt, e4, if_pos (by decide), lt, e5, if_pos (by decide), lt, e6, if_pos (by decide), lt, e7, if_pos (by decide), lt, e10, if_pos (by decide), lt, e13, if_pos (by decide), lt, e14, if_pos (by decide)]
      rfl
  · have c1 : f_X3_readPart n 5 S M = sq (fun M => f_X3_start n 5 (M.1 S 10) (8 : Int32) M) (f_X3_readPerson n 5 S (zI (1 - 1))) M := by
      unfold f_X3_readPart
      rw [lt, s7, if_neg (by decide), if_neg (by decide), if_neg (by decide), if_neg (by decide), if_neg (by decide), if_neg (by decide), if_neg (by decide), if_neg (by decide), if_neg (by decide), if_neg (by decide), if_neg (by decide), if_neg (by decide), if_neg (by decide), if_pos (by decide)]
      rfl
    have c2 : f_X12_readPart n 227 X = f_X12_readPerson n 227 (zI 1) X := by
      unfold f_X12_readPart
      rw [lt, et, if_neg (by decide), lt, e2, if_pos (by decide), lt, e3, if_pos (by decide), lt, e4, if_pos (by decide), lt, e5, if_pos (by decide), lt, e6, if_pos (by decide), lt, e7, if_pos (by decide), lt, e10, if_pos (by decide), lt, e13, if_neg (by decide)]
      exact bsome _
    rw [c1, c2]
    exact j_personPart (Or.inr rfl) hE hS h (by omega) hL hT hn
  · have c1 : f_X3_readPart n 5 S M = f_X3_readKnows n 5 S M := by
      unfold f_X3_readPart
      rw [lt, s7, if_neg (by decide), if_neg (by decide), if_neg (by decide), if_neg (by decide), if_neg (by decide), if_neg (by decide), if_neg (by decide), if_neg (by decide), if_neg (by decide), if_neg (by decide), if_neg (by decide), if_neg (by decide), if_neg (by decide), if_neg (by decide), if_pos (by decide)]
      exact bsome _
    have c2 : f_X12_readPart n 227 X = f_X12_readKnows n 227 X := by
      unfold f_X12_readPart
      rw [lt, et, if_neg (by decide), lt, e2, if_pos (by decide), lt, e3, if_pos (by decide), lt, e4, if_pos (by decide), lt, e5, if_pos (by decide), lt, e6, if_pos (by decide), lt, e7, if_pos (by decide), lt, e10, if_pos (by decide), lt, e13, if_pos (by decide), lt, e14, if_neg (by decide)]
      exact bsome _
    rw [c1, c2]
    exact j_knownPart hE hS h hL hT hn
  · refine bad ?_ ?_
    · unfold f_X3_readPart
      rw [lt, s7, if_neg (by decide), if_neg (by decide), if_neg (by decide), if_neg (by decide), if_neg (by decide), if_neg (by decide), if_neg (by decide), if_neg (by decide), if_neg (by decide), if_neg (by decide), if_neg (by decide), if_neg (by decide), if_neg (by decide), if_neg (by decide), if_neg (by decide)]
      rfl
    · unfold f_X12_readPart
      rw [lt, et, if_neg (by decide), lt, e2, if_pos (by decide), lt, e3, if_pos (by decide), lt, e4, if_pos (by decide), lt, e5, if_pos (by decide), lt, e6, if_pos (by decide), lt, e7, if_pos (by decide), lt, e10, if_pos (by decide), lt, e13, if_pos (by decide), lt, e14, if_pos (by decide)]
      rfl
  · refine bad ?_ ?_
    · unfold f_X3_readPart
      rw [lt, s7, if_neg (by decide), if_neg (by decide), if_neg (by decide), if_neg (by decide), if_neg (by decide), if_neg (by decide), if_neg (by decide), if_neg (by decide), if_neg (by decide), if_neg (by decide), if_neg (by decide), if_neg (by decide), if_neg (by decide), if_neg (by decide), if_neg (by decide)]
      rfl
    · unfold f_X12_readPart
      rw [lt, et, if_neg (by decide), lt, e2, if_pos (by decide), lt, e3, if_pos (by decide), lt, e4, if_pos (by decide), lt, e5, if_pos (by decide), lt, e6, if_pos (by decide), lt, e7, if_pos (by decide), lt, e10, if_pos (by decide), lt, e13, if_pos (by decide), lt, e14, if_pos (by decide)]
      rfl
  · refine bad ?_ ?_
    · unfold f_X3_readPart
      rw [lt, s7, if_neg (by decide), if_neg (by decide), if_neg (by decide), if_neg (by decide), if_neg (by decide), if_neg (by decide), if_neg (by decide), if_neg (by decide), if_neg (by decide), if_neg (by decide), if_neg (by decide), if_neg (by decide), if_neg (by decide), if_neg (by decide), if_neg (by decide)]
      rfl
    · unfold f_X12_readPart
      rw [lt, et, if_neg (by decide), lt, e2, if_pos (by decide), lt, e3, if_pos (by decide), lt, e4, if_pos (by decide), lt, e5, if_pos (by decide), lt, e6, if_pos (by decide), lt, e7, if_pos (by decide), lt, e10, if_pos (by decide), lt, e13, if_pos (by decide), lt, e14, if_pos (by decide)]
      rfl
  · refine bad ?_ ?_
    · unfold f_X3_readPart
      rw [lt, s7, if_neg (by decide), if_neg (by decide), if_neg (by decide), if_neg (by decide), if_neg (by decide), if_neg (by decide), if_neg (by decide), if_neg (by decide), if_neg (by decide), if_neg (by decide), if_neg (by decide), if_neg (by decide), if_neg (by decide), if_neg (by decide), if_neg (by decide)]
      rfl
    · unfold f_X12_readPart
      rw [lt, et, if_neg (by decide), lt, e2, if_pos (by decide), lt, e3, if_pos (by decide), lt, e4, if_pos (by decide), lt, e5, if_pos (by decide), lt, e6, if_pos (by decide), lt, e7, if_pos (by decide), lt, e10, if_pos (by decide), lt, e13, if_pos (by decide), lt, e14, if_pos (by decide)]
      rfl
  · refine bad ?_ ?_
    · unfold f_X3_readPart
      rw [lt, s7, if_neg (by decide), if_neg (by decide), if_neg (by decide), if_neg (by decide), if_neg (by decide), if_neg (by decide), if_neg (by decide), if_neg (by decide), if_neg (by decide), if_neg (by decide), if_neg (by decide), if_neg (by decide), if_neg (by decide), if_neg (by decide), if_neg (by decide)]
      rfl
    · unfold f_X12_readPart
      rw [lt, et, if_neg (by decide), lt, e2, if_pos (by decide), lt, e3, if_pos (by decide), lt, e4, if_pos (by decide), lt, e5, if_pos (by decide), lt, e6, if_pos (by decide), lt, e7, if_pos (by decide), lt, e10, if_pos (by decide), lt, e13, if_pos (by decide), lt, e14, if_pos (by decide)]
      rfl
  · refine bad ?_ ?_
    · unfold f_X3_readPart
      rw [lt, s7, if_neg (by decide), if_neg (by decide), if_neg (by decide), if_neg (by decide), if_neg (by decide), if_neg (by decide), if_neg (by decide), if_neg (by decide), if_neg (by decide), if_neg (by decide), if_neg (by decide), if_neg (by decide), if_neg (by decide), if_neg (by decide), if_neg (by decide)]
      rfl
    · unfold f_X12_readPart
      rw [lt, et, if_neg (by decide), lt, e2, if_pos (by decide), lt, e3, if_pos (by decide), lt, e4, if_pos (by decide), lt, e5, if_pos (by decide), lt, e6, if_pos (by decide), lt, e7, if_pos (by decide), lt, e10, if_pos (by decide), lt, e13, if_pos (by decide), lt, e14, if_pos (by decide)]
      rfl
  · refine bad ?_ ?_
    · unfold f_X3_readPart
      rw [lt, s7, if_neg (by decide), if_neg (by decide), if_neg (by decide), if_neg (by decide), if_neg (by decide), if_neg (by decide), if_neg (by decide), if_neg (by decide), if_neg (by decide), if_neg (by decide), if_neg (by decide), if_neg (by decide), if_neg (by decide), if_neg (by decide), if_neg (by decide)]
      rfl
    · unfold f_X12_readPart
      rw [lt, et, if_neg (by decide), lt, e2, if_pos (by decide), lt, e3, if_pos (by decide), lt, e4, if_pos (by decide), lt, e5, if_pos (by decide), lt, e6, if_pos (by decide), lt, e7, if_pos (by decide), lt, e10, if_pos (by decide), lt, e13, if_pos (by decide), lt, e14, if_pos (by decide)]
      rfl
  · refine bad ?_ ?_
    · unfold f_X3_readPart
      rw [lt, s7, if_neg (by decide), if_neg (by decide), if_neg (by decide), if_neg (by decide), if_neg (by decide), if_neg (by decide), if_neg (by decide), if_neg (by decide), if_neg (by decide), if_neg (by decide), if_neg (by decide), if_neg (by decide), if_neg (by decide), if_neg (by decide), if_neg (by decide)]
      rfl
    · unfold f_X12_readPart
      rw [lt, et, if_neg (by decide), lt, e2, if_pos (by decide), lt, e3, if_pos (by decide), lt, e4, if_pos (by decide), lt, e5, if_pos (by decide), lt, e6, if_pos (by decide), lt, e7, if_pos (by decide), lt, e10, if_pos (by decide), lt, e13, if_pos (by decide), lt, e14, if_pos (by decide)]
      rfl
  · refine bad ?_ ?_
    · unfold f_X3_readPart
      rw [lt, s7, if_neg (by decide), if_neg (by decide), if_neg (by decide), if_neg (by decide), if_neg (by decide), if_neg (by decide), if_neg (by decide), if_neg (by decide), if_neg (by decide), if_neg (by decide), if_neg (by decide), if_neg (by decide), if_neg (by decide), if_neg (by decide), if_neg (by decide)]
      rfl
    · unfold f_X12_readPart
      rw [lt, et, if_neg (by decide), lt, e2, if_pos (by decide), lt, e3, if_pos (by decide), lt, e4, if_pos (by decide), lt, e5, if_pos (by decide), lt, e6, if_pos (by decide), lt, e7, if_pos (by decide), lt, e10, if_pos (by decide), lt, e13, if_pos (by decide), lt, e14, if_pos (by decide)]
      rfl
  · refine bad ?_ ?_
    · unfold f_X3_readPart
      rw [lt, s7, if_neg (by decide), if_neg (by decide), if_neg (by decide), if_neg (by decide), if_neg (by decide), if_neg (by decide), if_neg (by decide), if_neg (by decide), if_neg (by decide), if_neg (by decide), if_neg (by decide), if_neg (by decide), if_neg (by decide), if_neg (by decide), if_neg (by decide)]
      rfl
    · unfold f_X12_readPart
      rw [lt, et, if_neg (by decide), lt, e2, if_pos (by decide), lt, e3, if_pos (by decide), lt, e4, if_pos (by decide), lt, e5, if_pos (by decide), lt, e6, if_pos (by decide), lt, e7, if_pos (by decide), lt, e10, if_pos (by decide), lt, e13, if_pos (by decide), lt, e14, if_pos (by decide)]
      rfl
  · refine bad ?_ ?_
    · unfold f_X3_readPart
      rw [lt, s7, if_neg (by decide), if_neg (by decide), if_neg (by decide), if_neg (by decide), if_neg (by decide), if_neg (by decide), if_neg (by decide), if_neg (by decide), if_neg (by decide), if_neg (by decide), if_neg (by decide), if_neg (by decide), if_neg (by decide), if_neg (by decide), if_neg (by decide)]
      rfl
    · unfold f_X12_readPart
      rw [lt, et, if_neg (by decide), lt, e2, if_pos (by decide), lt, e3, if_pos (by decide), lt, e4, if_pos (by decide), lt, e5, if_pos (by decide), lt, e6, if_pos (by decide), lt, e7, if_pos (by decide), lt, e10, if_pos (by decide), lt, e13, if_pos (by decide), lt, e14, if_pos (by decide)]
      rfl
theorem c_isAtEnd {a : Nat} {k : Int} {M : KM} (h : M.1 a 6 = zI k) (h1 : 0 ≤ k) (h2 : k ≤ 4) : f_X9_isAtEnd a M = bI (k = 0) := by
  unfold f_X9_isAtEnd
  by_cases q : k = 0
  · rw [bIT q]
    simp (disch := first | omega | assumption) only [↓reduceIte, zl, h, zeqT, if_true]
  · rw [bIF q]
    simp (disch := first | omega | assumption) only [↓reduceIte, zl, h, zeqF, if_false]
/-- all parts: the class's loop and the reference's -/
theorem j_parts {T : Int → Int} {E : Int} {S : Nat} (hE : 0 ≤ E ∧ E ≤ 900) : ∀ (m : Nat) (M X : KM) (s k j v i : Int) (b : Int → Int) (n : Nat), E - s ≤ m → GD T E 5 s k j v M X → Sp S M → LB S b M X → TO M X → 0 ≤ i → i ≤ s → 1001 + m < n →
    ∃ r M' X', lp_X3_readInto_23 n 5 S (zI i) M = some (r, M') ∧ (∀ κ, lp_X12_land_38 n 227 X κ = κ X') ∧ FM S M M' ∧ FX X X' ∧ ((r = zI 1 ∧ (∃ b', LB S b' M' X') ∧ X'.1 227 12 = zI 0 ∧ M'.1 5 4 = zI 0 ∧ M'.1 5 5 = zI (-1)) ∨ (r = zI 0 ∧ BD 5 M' X' ∧ P01 M' S)) := by
  intro m
  induction m with
  | zero =>
    intro M X s k j v i b n hm h hS hL hT i0 i1 hn
    obtain ⟨n, rfl⟩ : ∃ q, n = q + 1 := ⟨n - 1, by omega⟩
    have ss := SG_s h.2.1
    have k0 : k = 0 := by
      by_cases q : k = 0
      · exact q
      · have := ss.2.2.2.2.2.2.2.1 q; omega
    refine ⟨zI 1, M, X, ?_, fun κ => ?_, ⟨fun _ _ _ _ => rfl, fun _ _ => rfl, fun _ _ _ _ => rfl, rfl⟩, ⟨fun _ _ _ _ => rfl, fun _ _ _ _ => rfl, rfl⟩, Or.inl ⟨rfl, ⟨b, hL⟩, h.2.2.1, h.2.2.2.1, h.2.2.2.2⟩⟩
    · rw [lp_X3_readInto_23]
      by_cases q : 900 ≤ i
      · rw [if_pos (by rw [show (900 : Int32) = zI 900 from rfl, zleT q (by omega) (by omega)]; trivial)]; rfl
      · rw [if_neg (by rw [show (900 : Int32) = zI 900 from rfl, zleF (by omega) (by omega) (by omega)]; exact id), lt]
        rw [c_isAtEnd ss.2.2.1 (by omega) (by omega), bIT k0, if_neg (by decide)]
        rfl
    · rw [lp_X12_land_38, if_pos (by rw [h.2.2.1]; rfl), if_pos (by rw [ss.2.2.2.1, k0]; rfl)]
  | succ m ih =>
    intro M X s k j v i b n hm h hS hL hT i0 i1 hn
    obtain ⟨n, rfl⟩ : ∃ q, n = q + 1 := ⟨n - 1, by omega⟩
    have ss := SG_s h.2.1
    by_cases k0 : k = 0
    · refine ⟨zI 1, M, X, ?_, fun κ => ?_, ⟨fun _ _ _ _ => rfl, fun _ _ => rfl, fun _ _ _ _ => rfl, rfl⟩, ⟨fun _ _ _ _ => rfl, fun _ _ _ _ => rfl, rfl⟩, Or.inl ⟨rfl, ⟨b, hL⟩, h.2.2.1, h.2.2.2.1, h.2.2.2.2⟩⟩
      · rw [lp_X3_readInto_23]
        by_cases q : 900 ≤ i
        · rw [if_pos (by rw [show (900 : Int32) = zI 900 from rfl, zleT q (by omega) (by omega)]; trivial)]; rfl
        · rw [if_neg (by rw [show (900 : Int32) = zI 900 from rfl, zleF (by omega) (by omega) (by omega)]; exact id), lt]
          rw [c_isAtEnd ss.2.2.1 (by omega) (by omega), bIT k0, if_neg (by decide)]
          rfl
      · rw [lp_X12_land_38, if_pos (by rw [h.2.2.1]; rfl), if_pos (by rw [ss.2.2.2.1, k0]; rfl)]
    · have sE := ss.2.2.2.2.2.2.2.1 k0
      obtain ⟨r, M1, X0, X1, c1, c2, c3, c4⟩ := j_part (n := n) hE hS h hL hT (by omega)
      have cl : lp_X3_readInto_23 (n + 1) 5 S (zI i) M = if r = 0 then some ((0 : Int32), M1) else lp_X3_readInto_23 n 5 S (zI (i + 1)) M1 := by
        rw [lp_X3_readInto_23, if_neg (by rw [show (900 : Int32) = zI 900 from rfl, zleF (by omega) (by omega) (by omega)]; exact id), lt]
        rw [c_isAtEnd ss.2.2.1 (by omega) (by omega), bIF k0, if_pos (by decide), c1, Option.bind_some, lt, show (1 : Int32) = zI 1 from rfl, zadd]
      have mo : ∀ κ, lp_X12_land_38 (n + 1) 227 X κ = lp_X12_land_38 n 227 X1 κ := fun κ => by
        rw [lp_X12_land_38, if_pos (by rw [h.2.2.1]; rfl), if_neg (by rw [ss.2.2.2.1, show (0 : Int32) = zI 0 from rfl, zeqF k0 (by omega) (by omega) (by omega) (by omega)]; exact id), c2, Option.bind_some, lt, show f_X12_must n 227 (f_X12_isSign 227 (59 : Int32) X0) X0 = _ from c3, Option.bind_some]
      rcases c4 with ⟨r1, b1, s1, k1, j1, v1, g1, l1, L1, T1, F1, G1⟩ | ⟨r0, B1, P1, F1, G1⟩
      · obtain ⟨r', M', X', d1, d2, d3, d4, d5⟩ := ih M1 X1 s1 k1 j1 v1 (i + 1) b1 n (by omega) g1 ⟨by rw [F1.2.2.2]; exact hS.1, hS.2⟩ L1 T1 (by omega) (by omega) (by omega)
        refine ⟨r', M', X', ?_, fun κ => ?_, FM_t F1 d3, FX_t G1 d4, d5⟩
        · rw [cl, r1, if_neg (by decide)]; exact d1
        · rw [mo, d2]
      · obtain ⟨n, rfl⟩ : ∃ q, n = q + 1 := ⟨n - 1, by omega⟩
        obtain ⟨f, f1, f2, f3⟩ := BD_X B1
        refine ⟨zI 0, M1, X1, ?_, fun κ => ?_, F1, G1, Or.inr ⟨rfl, B1, P1⟩⟩
        · rw [cl, r0, if_pos (by decide)]; rfl
        · rw [mo, lp_X12_land_38, if_neg (by rw [f3, show (0 : Int32) = zI 0 from rfl, zeqF (by omega) (by omega) (by omega) (by omega) (by omega)]; exact id)]
