/-! ===== land: a new name ===== -/
/-- the reference reads a new name, in pieces -/
def nw3 (n : Nat) (o c : Int32) (M6 : KM) : Option (Int32 × KM) :=
  if (M6.1 227 12) ≤ 0 then
    if ix (((64 : Int32) + ((8 : Int32) * o)) + c) 80 then
    (f_X12_advance n 227 (uJ M6 235 ((((64 : Int32) + ((8 : Int32) * o)) + c)).toNatClampNeg (M6.2.1 227 19))).bind fun (v9 : KM) =>
    some (c, v9)
    else none
  else
    some ((0 : Int32), M6)
def nw2 (n : Nat) (o c : Int32) (M5 : KM) : Option (Int32 × KM) :=
  if (M5.1 227 12) = 0 then
    (f_X12_named n 227 (4 : Int32) (0 : Int32) M5).bind fun (v11 : Int32) =>
    if 0 ≤ v11 then
      nw3 n o c (f_X12_fail 227 (3 : Int32) (M5.1 227 15) M5)
    else
      (f_X12_named n 227 (4 : Int32) (1 : Int32) M5).bind fun (v13 : Int32) =>
      if v13 < 0 then
        nw3 n o c M5
      else
        nw3 n o c (f_X12_fail 227 (3 : Int32) (M5.1 227 15) M5)
  else
    nw3 n o c M5
def nw1 (n : Nat) (o c : Int32) (M2 : KM) : Option (Int32 × KM) :=
  if (M2.1 227 12) ≤ 0 then
    (f_X12_advance n 227 M2).bind fun (v3 : KM) =>
    if f_X12_isName 227 v3 = 0 then
      nw2 n o c (f_X12_amiss 227 v3)
    else
      nw2 n o c v3
  else
    some ((0 : Int32), M2)
theorem m_readNew_eq {n : Nat} {o : Int32} {X : KM} : f_X12_readNew n 227 o X = (f_X12_manyOf n 227 (4 : Int32) o X).bind fun (v1 : Int32) => if v1 = (8 : Int32) then nw1 n o v1 (f_X12_fail 227 (6 : Int32) (X.1 227 15) X) else nw1 n o v1 X := rfl
theorem nw3_bad {n : Nat} {o c : Int32} {Y : KM} (h : XB Y) : nw3 n o c Y = some (zI 0, Y) := by
  obtain ⟨f, f1, f2, f3⟩ := h
  unfold nw3
  simp (disch := first | omega | assumption) only [↓reduceIte, zl, f3, zleF, if_false]
theorem nw2_bad {n : Nat} {o c : Int32} {Y : KM} (h : XB Y) : nw2 n o c Y = some (zI 0, Y) := by
  have e := nw3_bad (n := n) (o := o) (c := c) h
  obtain ⟨f, f1, f2, f3⟩ := h
  unfold nw2
  simp (disch := first | omega | assumption) only [↓reduceIte, zl, f3, zeqF, if_false, e]
theorem nw1_bad {n : Nat} {o c : Int32} {Y : KM} (h : XB Y) : nw1 n o c Y = some (zI 0, Y) := by
  obtain ⟨f, f1, f2, f3⟩ := h
  unfold nw1
  simp (disch := first | omega | assumption) only [↓reduceIte, zl, f3, zleF, if_false]
theorem j_new {T : Int → Int} {E s k j v : Int} {a S : Nat} {M X : KM} {n : Nat} {c0 c2 o cnt : Int} (ha : a = 5 ∨ a = 8) (hE : 0 ≤ E ∧ E ≤ 900) (h : GD T E a s k j v M X) (hk : ¬ k = 0) (hS : 23 ≤ S) (hN : NA S 4 c0 c2 M X) (ho : (o = 0 ∧ cnt = c0) ∨ (o = 1 ∧ cnt = c2)) (hn : 1000 < n) :
    (∃ M' X', f_X3_start n a (zI cnt) (zI 8) M = some (zI 0, M') ∧ f_X12_readNew n 227 (zI o) X = some (zI 0, X') ∧ FL a M M' X X') ∨
    (∃ M1, f_X3_start n a (zI cnt) (zI 8) M = some (zI 1, M1) ∧
      ((∃ M' X', f_X9_takeNewName n a S M1 = some (lI 0, M') ∧ f_X12_readNew n 227 (zI o) X = some (zI 0, X') ∧ FL a M M' X X') ∨
       (∃ M' X' w s' k' j' v', ¬ w = lI 0 ∧ cnt < 8 ∧ f_X9_takeNewName n a S M1 = some (w, M') ∧ f_X12_readNew n 227 (zI o) X = some (zI cnt, X') ∧ GD T E a s' k' j' v' M' X' ∧ s < s' ∧ FC a M M' ∧ (∀ c i, ¬ (c = 227 ∧ 12 ≤ i ∧ i ≤ 18) → X'.1 c i = X.1 c i) ∧ (∀ c i, ¬ (c = 227 ∧ i = 19) → ¬ (c = 235 ∧ i = (64 + 8 * o + cnt).toNat) → X'.2.1 c i = X.2.1 c i) ∧ X'.2.1 235 (64 + 8 * o + cnt).toNat = w ∧ X'.2.2 = X.2.2))) := by
  have q0 := hN.1
  have x0 := h.2.2.1
  have ss := SG_s h.2.1
  have hc : 0 ≤ cnt ∧ cnt ≤ 8 := by omega
  have mo : f_X12_manyOf n 227 (zI 4) (zI o) X = some (zI cnt) := by
    unfold f_X12_manyOf
    have x1 : X.1 232 2248 = zI c0 := hN.2.2.2.1
    have x2 : X.1 232 2250 = zI c2 := hN.2.2.2.2.1
    have n1 : ((562 : Int32) * zI 4 + 0).toNatClampNeg = 2248 := by decide
    have n2 : ((562 : Int32) * zI 4 + 2).toNatClampNeg = 2250 := by decide
    rcases ho with ⟨o1, o2⟩ | ⟨o1, o2⟩
    · rw [o1, if_pos (by decide), if_pos (by decide), n1, o2]
      exact congrArg some x1
    · rw [o1, if_neg (by decide), if_pos (by decide), n2, o2]
      exact congrArg some x2
  by_cases c8 : cnt = 8
  · -- too many
    obtain ⟨M', X', f1, f2, f3⟩ := fl_fail (f := 6) h (by omega) (by omega)
    obtain ⟨f, b1, b2, b3⟩ := BD_X f3.1
    refine Or.inl ⟨M', X', ?_, ?_, f3⟩
    · unfold f_X3_start
      simp (disch := first | omega | assumption) only [↓lt, ↓reduceIte, zl, zltF, if_false, f1]
    · rw [m_readNew_eq, show ((4 : Int32)) = zI 4 from rfl, mo]
      simp (disch := first | omega | assumption) only [↓reduceIte, zl, Option.bind_some, zeqT, if_true, f2]
      exact nw1_bad (BD_X f3.1)
  · right
    obtain ⟨M1, X1, s1, k1, j1, v1, e1, e2, e3, e4, e5, e6, e7, e8⟩ := gd_adv ha hE h hn
    have e5' := e5 hk
    have hN1 := NA_C (k := 4) (by omega) ha hS e7 e8 hN
    refine ⟨M1, ?_, ?_⟩
    · unfold f_X3_start f_X9_skip
      simp (disch := first | omega | assumption) only [↓reduceIte, zl, zltT, if_true, e1, Option.bind_some]
    · have x01 := e3.2.2.1
      have nm := m_isName e3.2.1
      obtain ⟨p0, p1, p2, p3, p4, p5, p6⟩ := hN1
      by_cases c : M1.2.1 a 9 = lI 0
      · obtain ⟨M', X', f1, f2, f3⟩ := fl_order e3
        obtain ⟨f, b1, b2, b3⟩ := BD_X f3.1
        rw [bIF (fun z => z c)] at nm
        refine Or.inl ⟨M', X', ?_, ?_, FL_t e7 e8 f3⟩
        · unfold f_X9_takeNewName
          rw [if_pos (lgT (show M1.2.1 a 9 = (0 : Int64) from c))]
          simp only [↓lt, ↓reduceIte, f1]
          rfl
        · rw [m_readNew_eq, show ((4 : Int32)) = zI 4 from rfl, mo]
          simp (disch := first | omega | assumption) only [↓reduceIte, zl, Option.bind_some, zeqF, if_false]
          unfold nw1
          simp (disch := first | omega | assumption) only [↓reduceIte, zl, x0, zleT, if_true, e2, Option.bind_some, nm, zeqT, f2]
          exact nw2_bad (BD_X f3.1)
      · rw [bIT c] at nm
        have ne : ¬ M1.2.1 a 9 = (0 : Int64) := c
        have hx : X1.2.1 227 19 = M1.2.1 a 9 := by
          obtain ⟨q, l, w, -, -, -, -, -, -, -, -, -, -, -, -, -, -, -, -, -, m9, -, -, hw, hx, -⟩ := e3.2.1
          rw [m9] at c ⊢
          exact hx c
        have d1 := c_placeNamed (w := M1.2.1 a 9) (n := n) p1 p0.1 p0.2.1 (by omega)
        have d2 := c_personNamed (w := M1.2.1 a 9) (n := n) p2 p0.2.2.1 p0.2.2.2 (by omega)
        have d3 := m_named0 (k := 4) (n := n) (by omega) (by omega) p3 p0.1 p0.2.1 (by omega)
        have d4 := m_named1 (k := 4) (n := n) (by omega) (by omega) p4 p0.2.2.1 p0.2.2.2 (by omega)
        rw [hx, fst_c (Q := fun i => decide (M1.2.1 (S + 1) i.toNat = M1.2.1 a 9)) _ _ (fun i u w => by rw [p5 i u (by omega)])] at d3
        rw [hx, fst_c (Q := fun i => decide (M1.2.1 (S + 14 + 3 * i.toNat) 2 = M1.2.1 a 9)) _ _ (fun i u w => by rw [p6 i u (by omega)])] at d4
        have r3 := fst_r (P := fun i => decide (M1.2.1 (S + 1) i.toNat = M1.2.1 a 9)) c0.toNat 0 (by omega)
        have r4 := fst_r (P := fun i => decide (M1.2.1 (S + 14 + 3 * i.toNat) 2 = M1.2.1 a 9)) c2.toNat 0 (by omega)
        generalize fstI (fun i => decide (M1.2.1 (S + 1) i.toNat = M1.2.1 a 9)) c0.toNat 0 = ra at d1 d3 r3
        generalize fstI (fun i => decide (M1.2.1 (S + 14 + 3 * i.toNat) 2 = M1.2.1 a 9)) c2.toNat 0 = rb at d2 d4 r4
        have ra1 : -1 ≤ ra ∧ ra < 8 := by omega
        have rb1 : -1 ≤ rb ∧ rb < 8 := by omega
        clear r3 r4
        by_cases w1 : ra = -1 ∧ rb = -1
        · -- a new one
          obtain ⟨w1, w2⟩ := w1
          subst w1
          subst w2
          have hk1 : ¬ k1 = 0 := by
            obtain ⟨q, l, w, -, -, -, -, -, -, -, -, -, -, -, -, -, -, -, -, -, m9, -, -, hw, -⟩ := e3.2.1
            intro z
            exact c (by rw [m9]; exact hw.mpr (fun y => by omega))
          have e3' : GD T E a s1 k1 j1 v1 M1 (uJ X1 235 (64 + 8 * o + cnt).toNat (X1.2.1 227 19)) := GD_of (M := M1) (X := X1) (fun _ _ _ => rfl) (fun _ _ _ => rfl) rfl (fun _ _ _ => rfl) (uJ_o (by omega)) e3
          obtain ⟨M2, X2, s2, k2, j2, v2, g1, g2, g3, g4, g5, g6, g7, g8⟩ := gd_adv ha hE e3' hn
          have g5' := g5 hk1
          refine Or.inr ⟨M2, X2, M1.2.1 a 9, s2, k2, j2, v2, c, by omega, ?_, ?_, g3, by omega, FC_t e7 g7, fun c i w => ?_, fun c i w1 w2 => ?_, ?_, ?_⟩
          · unfold f_X9_takeNewName
            rw [if_neg (lgF ne)]
            simp (disch := first | omega | assumption) only [↓lt, ↓reduceIte, zl, zneg, Int.reduceNeg, d1, d2, Option.bind_some, zeqT, if_true, g1]
          · rw [m_readNew_eq, show ((4 : Int32)) = zI 4 from rfl, mo]
            simp (disch := first | omega | assumption) only [↓reduceIte, zl, Option.bind_some, zeqF, if_false]
            unfold nw1
            simp (disch := first | omega | assumption) only [↓reduceIte, zl, x0, zleT, if_true, e2, Option.bind_some, nm, zeqF, if_false]
            unfold nw2
            simp (disch := first | omega | assumption) only [↓reduceIte, zl, x01, zeqT, if_true, d3, d4, Option.bind_some, zleF, if_false, zltT]
            unfold nw3
            simp (disch := first | omega | assumption) only [↓reduceIte, zl, x01, zleT, if_true, zmul, zadd, ixT, zidx, g2, Option.bind_some]
          · rw [g8.1 c i w]
            exact e8.1 c i w
          · rw [g8.2.1 c i w1, uJ_o w2]
            exact e8.2.1 c i w1
          · rw [g8.2.1 235 _ (by omega), uJ_s, hx]
          · rw [g8.2.2]
            exact e8.2.2
        · -- one that is there
          obtain ⟨M', X', f1, f2, f3⟩ := fl_fail (f := 3) e3 (by omega) (by omega)
          obtain ⟨f, b1, b2, b3⟩ := BD_X f3.1
          refine Or.inl ⟨M', X', ?_, ?_, FL_t e7 e8 f3⟩
          · unfold f_X9_takeNewName
            rw [if_neg (lgF ne)]
            by_cases u : ra = -1
            · subst u
              simp (disch := first | omega | assumption) only [↓lt, ↓reduceIte, zl, ll, zneg, Int.reduceNeg, d1, d2, Option.bind_some, zeqT, zeqF, if_true, if_false, f1]
            · simp (disch := first | omega | assumption) only [↓lt, ↓reduceIte, zl, ll, zneg, Int.reduceNeg, d1, d2, Option.bind_some, zeqT, zeqF, if_true, if_false, f1]
          · rw [m_readNew_eq, show ((4 : Int32)) = zI 4 from rfl, mo]
            simp (disch := first | omega | assumption) only [↓reduceIte, zl, Option.bind_some, zeqF, if_false]
            unfold nw1
            simp (disch := first | omega | assumption) only [↓reduceIte, zl, x0, zleT, if_true, e2, Option.bind_some, nm, zeqF, if_false]
            have nb := nw3_bad (n := n) (o := zI o) (c := zI cnt) (BD_X f3.1)
            unfold nw2
            by_cases u : 0 ≤ ra
            · simp (disch := first | omega | assumption) only [↓reduceIte, zl, x01, zeqT, if_true, d3, Option.bind_some, zleT, f2, nb]
            · simp (disch := first | omega | assumption) only [↓reduceIte, zl, x01, zeqT, if_true, d3, d4, Option.bind_some, zleF, if_false, zltF, f2, nb]
