/-! ===== land, days: the words of the reference ===== -/
theorem sp_0 {M : KM} : f_X12_spelled (103 : Int32) (108 : Int32) (97 : Int32) (114 : Int32) (101 : Int32) (0 : Int32) M = kwd 0 := by
  unfold f_X12_spelled kwd
  decide
theorem sp_1 {M : KM} : f_X12_spelled (116 : Int32) (111 : Int32) (0 : Int32) (0 : Int32) (0 : Int32) (0 : Int32) M = kwd 1 := by
  unfold f_X12_spelled kwd
  decide
theorem sp_2 {M : KM} : f_X12_spelled (99 : Int32) (108 : Int32) (111 : Int32) (99 : Int32) (107 : Int32) (0 : Int32) M = kwd 2 := by
  unfold f_X12_spelled kwd
  decide
theorem sp_3 {M : KM} : f_X12_spelled (114 : Int32) (111 : Int32) (112 : Int32) (101 : Int32) (0 : Int32) (0 : Int32) M = kwd 3 := by
  unfold f_X12_spelled kwd
  decide
theorem sp_4 {M : KM} : f_X12_spelled (104 : Int32) (97 : Int32) (98 : Int32) (105 : Int32) (116 : Int32) (0 : Int32) M = kwd 4 := by
  unfold f_X12_spelled kwd
  decide
theorem sp_5 {M : KM} : f_X12_spelled (111 : Int32) (100 : Int32) (100 : Int32) (115 : Int32) (0 : Int32) (0 : Int32) M = kwd 5 := by
  unfold f_X12_spelled kwd
  decide
theorem sp_6 {M : KM} : f_X12_spelled (112 : Int32) (108 : Int32) (97 : Int32) (99 : Int32) (101 : Int32) (0 : Int32) M = kwd 6 := by
  unfold f_X12_spelled kwd
  decide
theorem sp_7 {M : KM} : f_X12_spelled (114 : Int32) (111 : Int32) (97 : Int32) (100 : Int32) (0 : Int32) (0 : Int32) M = kwd 7 := by
  unfold f_X12_spelled kwd
  decide
theorem sp_8 {M : KM} : f_X12_spelled (109 : Int32) (105 : Int32) (110 : Int32) (117 : Int32) (116 : Int32) (101 : Int32) M * (32 : Int64) + (19 : Int64) = kwd 8 := by
  unfold f_X12_spelled kwd
  decide
theorem sp_9 {M : KM} : f_X12_spelled (115 : Int32) (109 : Int32) (101 : Int32) (108 : Int32) (108 : Int32) (115 : Int32) M = kwd 9 := by
  unfold f_X12_spelled kwd
  decide
theorem sp_10 {M : KM} : f_X12_spelled (115 : Int32) (105 : Int32) (103 : Int32) (104 : Int32) (116 : Int32) (101 : Int32) M * (32 : Int64) + (4 : Int64) = kwd 10 := by
  unfold f_X12_spelled kwd
  decide
theorem sp_11 {M : KM} : f_X12_spelled (97 : Int32) (116 : Int32) (0 : Int32) (0 : Int32) (0 : Int32) (0 : Int32) M = kwd 11 := by
  unfold f_X12_spelled kwd
  decide
theorem sp_12 {M : KM} : f_X12_spelled (103 : Int32) (108 : Int32) (97 : Int32) (115 : Int32) (115 : Int32) (101 : Int32) M * (32 : Int64) + (19 : Int64) = kwd 12 := by
  unfold f_X12_spelled kwd
  decide
theorem sp_13 {M : KM} : f_X12_spelled (98 : Int32) (108 : Int32) (105 : Int32) (110 : Int32) (100 : Int32) (0 : Int32) M = kwd 13 := by
  unfold f_X12_spelled kwd
  decide
theorem sp_14 {M : KM} : f_X12_spelled (107 : Int32) (110 : Int32) (111 : Int32) (119 : Int32) (115 : Int32) (0 : Int32) M = kwd 14 := by
  unfold f_X12_spelled kwd
  decide
theorem sp_15 {M : KM} : f_X12_spelled (119 : Int32) (97 : Int32) (105 : Int32) (116 : Int32) (0 : Int32) (0 : Int32) M = kwd 15 := by
  unfold f_X12_spelled kwd
  decide
theorem sp_16 {M : KM} : f_X12_spelled (103 : Int32) (111 : Int32) (0 : Int32) (0 : Int32) (0 : Int32) (0 : Int32) M = kwd 16 := by
  unfold f_X12_spelled kwd
  decide
theorem sp_17 {M : KM} : f_X12_spelled (108 : Int32) (101 : Int32) (97 : Int32) (100 : Int32) (0 : Int32) (0 : Int32) M = kwd 17 := by
  unfold f_X12_spelled kwd
  decide
theorem sp_18 {M : KM} : f_X12_spelled (97 : Int32) (110 : Int32) (121 : Int32) (0 : Int32) (0 : Int32) (0 : Int32) M = kwd 18 := by
  unfold f_X12_spelled kwd
  decide
theorem sp_19 {M : KM} : f_X12_spelled (99 : Int32) (108 : Int32) (111 : Int32) (117 : Int32) (100 : Int32) (0 : Int32) M = kwd 19 := by
  unfold f_X12_spelled kwd
  decide
theorem sp_20 {M : KM} : f_X12_spelled (99 : Int32) (108 : Int32) (101 : Int32) (97 : Int32) (114 : Int32) (0 : Int32) M = kwd 20 := by
  unfold f_X12_spelled kwd
  decide
theorem sp_21 {M : KM} : f_X12_spelled (119 : Int32) (104 : Int32) (101 : Int32) (110 : Int32) (0 : Int32) (0 : Int32) M = kwd 21 := by
  unfold f_X12_spelled kwd
  decide
theorem sp_22 {M : KM} : f_X12_spelled (108 : Int32) (111 : Int32) (115 : Int32) (116 : Int32) (0 : Int32) (0 : Int32) M = kwd 22 := by
  unfold f_X12_spelled kwd
  decide
theorem sp_23 {M : KM} : f_X12_spelled (108 : Int32) (111 : Int32) (111 : Int32) (112 : Int32) (0 : Int32) (0 : Int32) M = kwd 23 := by
  unfold f_X12_spelled kwd
  decide
theorem sp_24 {M : KM} : f_X12_spelled (101 : Int32) (110 : Int32) (100 : Int32) (0 : Int32) (0 : Int32) (0 : Int32) M = kwd 24 := by
  unfold f_X12_spelled kwd
  decide
theorem sp_25 {M : KM} : f_X12_spelled (115 : Int32) (116 : Int32) (111 : Int32) (112 : Int32) (0 : Int32) (0 : Int32) M = kwd 25 := by
  unfold f_X12_spelled kwd
  decide
theorem SG_j {a : Nat} {E s k j v : Int} {M X : KM} (h : SG a E s k j v M X) : -1 ≤ j ∧ j < 26 := by
  obtain ⟨q, l, w, -, -, -, -, -, -, j1, j2, -⟩ := h
  exact ⟨j1, j2⟩
theorem m_isWord {a : Nat} {E s k j v : Int} {M X : KM} (h : SG a E s k j v M X) {i : Nat} (hi : i < 26) : f_X12_isWord 227 (kwd i) X = bI (j = i) := by
  obtain ⟨q, l, w, -, -, -, -, k0, k4, -, -, -, -, -, -, -, -, -, x14, -, -, hw, -⟩ := h
  have e := hw i hi
  unfold f_X12_isWord
  rw [x14]
  by_cases c : k = 1
  · simp (disch := first | omega | assumption) only [↓reduceIte, zl, zeqT, if_true, lgz]
    by_cases d : X.2.1 227 19 = kwd i
    · rw [if_pos d, bIT (e.mp ⟨c, d⟩)]
    · rw [if_neg d, bIF (fun z => d (e.mpr z).2)]
  · simp (disch := first | omega | assumption) only [↓reduceIte, zl, zeqF, if_false]
    rw [bIF (fun z => c (e.mpr z).1)]
theorem m_isTo {a : Nat} {E s k j v : Int} {M X : KM} (h : SG a E s k j v M X) : f_X12_isTo 227 X = bI (j = 1) := by
  unfold f_X12_isTo
  simp only [lt, sp_1]
  exact m_isWord h (i := 1) (by omega)
theorem m_isClock {a : Nat} {E s k j v : Int} {M X : KM} (h : SG a E s k j v M X) : f_X12_isClock 227 X = bI (j = 2) := by
  unfold f_X12_isClock
  simp only [lt, sp_2]
  exact m_isWord h (i := 2) (by omega)
theorem m_isRope {a : Nat} {E s k j v : Int} {M X : KM} (h : SG a E s k j v M X) : f_X12_isRope 227 X = bI (j = 3) := by
  unfold f_X12_isRope
  simp only [lt, sp_3]
  exact m_isWord h (i := 3) (by omega)
theorem m_isHabit {a : Nat} {E s k j v : Int} {M X : KM} (h : SG a E s k j v M X) : f_X12_isHabit 227 X = bI (j = 4) := by
  unfold f_X12_isHabit
  simp only [lt, sp_4]
  exact m_isWord h (i := 4) (by omega)
theorem m_isOdds {a : Nat} {E s k j v : Int} {M X : KM} (h : SG a E s k j v M X) : f_X12_isOdds 227 X = bI (j = 5) := by
  unfold f_X12_isOdds
  simp only [lt, sp_5]
  exact m_isWord h (i := 5) (by omega)
theorem m_isPlace {a : Nat} {E s k j v : Int} {M X : KM} (h : SG a E s k j v M X) : f_X12_isPlace 227 X = bI (j = 6) := by
  unfold f_X12_isPlace
  simp only [lt, sp_6]
  exact m_isWord h (i := 6) (by omega)
theorem m_isRoad {a : Nat} {E s k j v : Int} {M X : KM} (h : SG a E s k j v M X) : f_X12_isRoad 227 X = bI (j = 7) := by
  unfold f_X12_isRoad
  simp only [lt, sp_7]
  exact m_isWord h (i := 7) (by omega)
theorem m_isMinutes {a : Nat} {E s k j v : Int} {M X : KM} (h : SG a E s k j v M X) : f_X12_isMinutes 227 X = bI (j = 8) := by
  unfold f_X12_isMinutes
  simp only [lt, sp_8]
  exact m_isWord h (i := 8) (by omega)
theorem m_isSmells {a : Nat} {E s k j v : Int} {M X : KM} (h : SG a E s k j v M X) : f_X12_isSmells 227 X = bI (j = 9) := by
  unfold f_X12_isSmells
  simp only [lt, sp_9]
  exact m_isWord h (i := 9) (by omega)
theorem m_isSighted {a : Nat} {E s k j v : Int} {M X : KM} (h : SG a E s k j v M X) : f_X12_isSighted 227 X = bI (j = 10) := by
  unfold f_X12_isSighted
  simp only [lt, sp_10]
  exact m_isWord h (i := 10) (by omega)
theorem m_isGlasses {a : Nat} {E s k j v : Int} {M X : KM} (h : SG a E s k j v M X) : f_X12_isGlasses 227 X = bI (j = 12) := by
  unfold f_X12_isGlasses
  simp only [lt, sp_12]
  exact m_isWord h (i := 12) (by omega)
theorem m_isBlind {a : Nat} {E s k j v : Int} {M X : KM} (h : SG a E s k j v M X) : f_X12_isBlind 227 X = bI (j = 13) := by
  unfold f_X12_isBlind
  simp only [lt, sp_13]
  exact m_isWord h (i := 13) (by omega)
theorem m_isKnows {a : Nat} {E s k j v : Int} {M X : KM} (h : SG a E s k j v M X) : f_X12_isKnows 227 X = bI (j = 14) := by
  unfold f_X12_isKnows
  simp only [lt, sp_14]
  exact m_isWord h (i := 14) (by omega)
theorem m_isEnd {a : Nat} {E s k j v : Int} {M X : KM} (h : SG a E s k j v M X) : f_X12_isEnd 227 X = bI (j = 24) := by
  unfold f_X12_isEnd
  simp only [lt, sp_24]
  exact m_isWord h (i := 24) (by omega)
def stW (j : Int) : Int := if j = 15 then 0 else (if j = 16 then 1 else (if j = 17 then 2 else (if j = 18 then 3 else (if j = 19 then 4 else (if j = 20 then 5 else (if j = 21 then 6 else (if j = 23 then 7 else (if j = 25 then 8 else -1))))))))
theorem m_stepWord {a : Nat} {E s k j v : Int} {M X : KM} (h : SG a E s k j v M X) : f_X12_stepWord 227 X = zI (stW j) := by
  have e15 : f_X12_isWord 227 (kwd 15) X = bI (j = 15) := m_isWord h (by omega)
  have e16 : f_X12_isWord 227 (kwd 16) X = bI (j = 16) := m_isWord h (by omega)
  have e17 : f_X12_isWord 227 (kwd 17) X = bI (j = 17) := m_isWord h (by omega)
  have e18 : f_X12_isWord 227 (kwd 18) X = bI (j = 18) := m_isWord h (by omega)
  have e19 : f_X12_isWord 227 (kwd 19) X = bI (j = 19) := m_isWord h (by omega)
  have e20 : f_X12_isWord 227 (kwd 20) X = bI (j = 20) := m_isWord h (by omega)
  have e21 : f_X12_isWord 227 (kwd 21) X = bI (j = 21) := m_isWord h (by omega)
  have e23 : f_X12_isWord 227 (kwd 23) X = bI (j = 23) := m_isWord h (by omega)
  have e25 : f_X12_isWord 227 (kwd 25) X = bI (j = 25) := m_isWord h (by omega)
  have hj := SG_j h
  clear h
  unfold f_X12_stepWord
  simp only [lt, sp_15, sp_16, sp_17, sp_18, sp_19, sp_20, sp_21, sp_23, sp_25, e15, e16, e17, e18, e19, e20, e21, e23, e25]
  clear e15 e16 e17 e18 e19 e20 e21 e23 e25
  have hj2 : j = -1 ∨ j = 0 ∨ j = 1 ∨ j = 2 ∨ j = 3 ∨ j = 4 ∨ j = 5 ∨ j = 6 ∨ j = 7 ∨ j = 8 ∨ j = 9 ∨ j = 10 ∨ j = 11 ∨ j = 12 ∨ j = 13 ∨ j = 14 ∨ j = 15 ∨ j = 16 ∨ j = 17 ∨ j = 18 ∨ j = 19 ∨ j = 20 ∨ j = 21 ∨ j = 22 ∨ j = 23 ∨ j = 24 ∨ j = 25 := by omega
  rcases hj2 with rfl | rfl | rfl | rfl | rfl | rfl | rfl | rfl | rfl | rfl | rfl | rfl | rfl | rfl | rfl | rfl | rfl | rfl | rfl | rfl | rfl | rfl | rfl | rfl | rfl | rfl | rfl <;> decide
def teW (j : Int) : Int := if j = 11 then 0 else (if j = 0 then 1 else (if j = 22 then 2 else -1))
theorem m_testWord {a : Nat} {E s k j v : Int} {M X : KM} (h : SG a E s k j v M X) : f_X12_testWord 227 X = zI (teW j) := by
  have e11 : f_X12_isWord 227 (kwd 11) X = bI (j = 11) := m_isWord h (by omega)
  have e0 : f_X12_isWord 227 (kwd 0) X = bI (j = 0) := m_isWord h (by omega)
  have e22 : f_X12_isWord 227 (kwd 22) X = bI (j = 22) := m_isWord h (by omega)
  have hj := SG_j h
  clear h
  unfold f_X12_testWord
  simp only [lt, sp_11, sp_0, sp_22, e11, e0, e22]
  clear e11 e0 e22
  have hj2 : j = -1 ∨ j = 0 ∨ j = 1 ∨ j = 2 ∨ j = 3 ∨ j = 4 ∨ j = 5 ∨ j = 6 ∨ j = 7 ∨ j = 8 ∨ j = 9 ∨ j = 10 ∨ j = 11 ∨ j = 12 ∨ j = 13 ∨ j = 14 ∨ j = 15 ∨ j = 16 ∨ j = 17 ∨ j = 18 ∨ j = 19 ∨ j = 20 ∨ j = 21 ∨ j = 22 ∨ j = 23 ∨ j = 24 ∨ j = 25 := by omega
  rcases hj2 with rfl | rfl | rfl | rfl | rfl | rfl | rfl | rfl | rfl | rfl | rfl | rfl | rfl | rfl | rfl | rfl | rfl | rfl | rfl | rfl | rfl | rfl | rfl | rfl | rfl | rfl | rfl <;> decide
theorem m_isKept {a : Nat} {E s k j v : Int} {M X : KM} (h : SG a E s k j v M X) : f_X12_isKept 227 X = bI (0 ≤ j) := by
  have hj := SG_j h
  have e1 := m_isTo h
  have e2 := m_isClock h
  have e3 := m_isRope h
  have e4 := m_isHabit h
  have e5 := m_isOdds h
  have e6 := m_isPlace h
  have e7 := m_isRoad h
  have e8 := m_isMinutes h
  have e9 := m_isSmells h
  have e10 := m_isSighted h
  have e12 := m_isGlasses h
  have e13 := m_isBlind h
  have e14 := m_isKnows h
  have e24 := m_isEnd h
  have es := m_stepWord h
  have et := m_testWord h
  clear h
  unfold f_X12_isKept
  simp only [lt, e1, e2, e3, e4, e5, e6, e7, e8, e9, e10, e12, e13, e14, e24, es, et]
  clear e1 e2 e3 e4 e5 e6 e7 e8 e9 e10 e12 e13 e14 e24 es et
  have hj2 : j = -1 ∨ j = 0 ∨ j = 1 ∨ j = 2 ∨ j = 3 ∨ j = 4 ∨ j = 5 ∨ j = 6 ∨ j = 7 ∨ j = 8 ∨ j = 9 ∨ j = 10 ∨ j = 11 ∨ j = 12 ∨ j = 13 ∨ j = 14 ∨ j = 15 ∨ j = 16 ∨ j = 17 ∨ j = 18 ∨ j = 19 ∨ j = 20 ∨ j = 21 ∨ j = 22 ∨ j = 23 ∨ j = 24 ∨ j = 25 := by omega
  rcases hj2 with rfl | rfl | rfl | rfl | rfl | rfl | rfl | rfl | rfl | rfl | rfl | rfl | rfl | rfl | rfl | rfl | rfl | rfl | rfl | rfl | rfl | rfl | rfl | rfl | rfl | rfl | rfl <;> decide
theorem m_isName {a : Nat} {E s k j v : Int} {M X : KM} (h : SG a E s k j v M X) : f_X12_isName 227 X = bI (¬ M.2.1 a 9 = lI 0) := by
  have ek := m_isKept h
  obtain ⟨q, l, w, -, -, -, -, k0, k4, j1, j2, l0, l9, -, -, -, -, -, x14, -, m9, -, x18, hw, -⟩ := h
  unfold f_X12_isName
  rw [x14, ek, m9]
  by_cases c : k = 1
  · rw [x18 c]
    by_cases d : l ≤ 8
    · by_cases e : 0 ≤ j
      · rw [bIT e, bIF (fun z => z (hw.mpr (fun y => by omega)))]
        simp (disch := first | omega | assumption) only [↓lt, ↓reduceIte, zl, zeqT, zeqF, zltF, if_true, if_false]
      · rw [bIF e, bIT (fun z => hw.mp z ⟨c, d, by omega⟩)]
        simp (disch := first | omega | assumption) only [↓lt, ↓reduceIte, zl, zeqT, zeqF, zltF, if_true, if_false]
    · rw [bIF (c := ¬ w = lI 0) (fun z => z (hw.mpr (fun y => d y.2.1)))]
      simp (disch := first | omega | assumption) only [↓lt, ↓reduceIte, zl, zeqT, zltT, if_true]
  · rw [bIF (c := ¬ w = lI 0) (fun z => z (hw.mpr (fun y => c y.1)))]
    simp (disch := first | omega | assumption) only [↓reduceIte, zl, zeqF, if_false]
theorem m_isSign {a : Nat} {E s k j v : Int} {M X : KM} (h : SG a E s k j v M X) {t : Int} (t1 : 59 ≤ t) (t2 : t ≤ 62) : f_X12_isSign 227 (zI t) X = bI (k = 3 ∧ v = t) := by
  obtain ⟨q, l, w, -, -, -, -, k0, k4, -, -, -, -, -, -, -, -, -, x14, -, -, -, -, -, -, -, -, hs⟩ := h
  unfold f_X12_isSign
  rw [x14]
  by_cases c : k = 3
  · obtain ⟨-, x17, v1⟩ := hs c
    rw [x17]
    by_cases d : v = t
    · rw [bIT ⟨c, d⟩]
      simp (disch := first | omega | assumption) only [↓reduceIte, zl, zeqT, if_true]
    · rw [bIF (fun z => d z.2)]
      simp (disch := first | omega | assumption) only [↓reduceIte, zl, zeqT, zeqF, if_true, if_false]
  · rw [bIF (fun z => c z.1)]
    simp (disch := first | omega | assumption) only [↓reduceIte, zl, zeqF, if_false]
