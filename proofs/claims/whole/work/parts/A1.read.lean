/-! ===== land, days: names ===== -/
theorem c_placeNamed {M : KM} {L n : Nat} {w : Int64} {c : Int} (h8 : M.1 L 8 = zI c) (c0 : 0 ≤ c) (c8 : c ≤ 8) (hn : 10 < n) : f_X2_placeNamed n L w M = some (zI (fstI (fun i => decide (M.2.1 (L + 1) i.toNat = w)) c.toNat 0)) := by
  unfold f_X2_placeNamed
  refine loop_fst (lp := fun n i => lp_X2_placeNamed_2 n L w M i) (P := fun i => decide (M.2.1 (L + 1) i.toNat = w)) (res := fun i => some (zI i)) (N := 0) (R := c) (fun n i hn h1 h2 => ?_) (fun n hn => ?_) c.toNat 0 n (by omega) (by omega) (by omega)
  · rw [lp_X2_placeNamed_2]
    simp (disch := first | omega | assumption) only [↓lt, ↓reduceIte, zl, lgz, h8, zleF, if_false, ixT, zidx, if_true, zadd]
    by_cases q : M.2.1 (L + 1) i.toNat = w
    · rw [if_pos q, if_pos (decide_eq_true q)]
    · rw [if_neg q, if_neg (by simpa using q)]
  · rw [lp_X2_placeNamed_2]
    simp (disch := first | omega | assumption) only [↓reduceIte, zl, h8, zleT, if_true]
    rfl
theorem c_personNamed {M : KM} {L n : Nat} {w : Int64} {c : Int} (h8 : M.1 L 10 = zI c) (c0 : 0 ≤ c) (c8 : c ≤ 8) (hn : 10 < n) : f_X2_personNamed n L w M = some (zI (fstI (fun i => decide (M.2.1 (L + 14 + 3 * i.toNat) 2 = w)) c.toNat 0)) := by
  unfold f_X2_personNamed
  refine loop_fst (lp := fun n i => lp_X2_personNamed_2 n L w M i) (P := fun i => decide (M.2.1 (L + 14 + 3 * i.toNat) 2 = w)) (res := fun i => some (zI i)) (N := 0) (R := c) (fun n i hn h1 h2 => ?_) (fun n hn => ?_) c.toNat 0 n (by omega) (by omega) (by omega)
  · rw [lp_X2_personNamed_2]
    simp (disch := first | omega | assumption) only [↓lt, ↓reduceIte, zl, lgz, h8, zleF, if_false, ixT, zidx, if_true, zadd]
    by_cases q : M.2.1 (L + 14 + 3 * i.toNat) 2 = w
    · rw [if_pos q, if_pos (decide_eq_true q)]
    · rw [if_neg q, if_neg (by simpa using q)]
  · rw [lp_X2_personNamed_2]
    simp (disch := first | omega | assumption) only [↓reduceIte, zl, h8, zleT, if_true]
    rfl
theorem m_named0 {X : KM} {n : Nat} {k c : Int} (hk : 0 ≤ k) (hk2 : k ≤ 4) (h : X.1 232 (562 * k).toNat = zI c) (c0 : 0 ≤ c) (c8 : c ≤ 8) (hn : 10 < n) : f_X12_named n 227 (zI k) (zI 0) X = some (zI (fstI (fun i => decide (X.2.1 235 (16 * k + i).toNat = X.2.1 227 19)) c.toNat 0)) := by
  have mo : ∀ m, f_X12_manyOf m 227 (zI k) (zI 0) X = some (zI c) := fun m => by
    unfold f_X12_manyOf
    simp (disch := first | omega | assumption) only [↓reduceIte, zl, zeqT, if_true, zmul, zadd, ixT, zidx, Int.add_zero, h]
  unfold f_X12_named
  refine loop_fst (lp := fun n i => lp_X12_named_2 n 227 (zI k) (zI 0) X i) (P := fun i => decide (X.2.1 235 (16 * k + i).toNat = X.2.1 227 19)) (res := fun i => some (zI i)) (N := 0) (R := c) (fun n i hn h1 h2 => ?_) (fun n hn => ?_) c.toNat 0 n (by omega) (by omega) (by omega)
  · rw [lp_X12_named_2]
    simp (disch := first | omega | assumption) only [↓lt, ↓reduceIte, zl, lgz, mo, Option.bind_some, zleF, if_false, zmul, zadd, Int.mul_zero, Int.add_zero, ixT, zidx, if_true]
    by_cases q : X.2.1 235 (16 * k + i).toNat = X.2.1 227 19
    · rw [if_pos q, if_pos (decide_eq_true q)]
    · rw [if_neg q, if_neg (by simpa using q)]
  · rw [lp_X12_named_2]
    simp (disch := first | omega | assumption) only [↓reduceIte, zl, mo, Option.bind_some, zleT, if_true]
    rfl
theorem m_named1 {X : KM} {n : Nat} {k c : Int} (hk : 0 ≤ k) (hk2 : k ≤ 4) (h : X.1 232 (562 * k + 2).toNat = zI c) (c0 : 0 ≤ c) (c8 : c ≤ 8) (hn : 10 < n) : f_X12_named n 227 (zI k) (zI 1) X = some (zI (fstI (fun i => decide (X.2.1 235 (16 * k + 8 + i).toNat = X.2.1 227 19)) c.toNat 0)) := by
  have mo : ∀ m, f_X12_manyOf m 227 (zI k) (zI 1) X = some (zI c) := fun m => by
    unfold f_X12_manyOf
    simp (disch := first | omega | assumption) only [↓reduceIte, zl, zeqF, if_true, if_false, zmul, zadd, ixT, zidx, h]
  unfold f_X12_named
  refine loop_fst (lp := fun n i => lp_X12_named_2 n 227 (zI k) (zI 1) X i) (P := fun i => decide (X.2.1 235 (16 * k + 8 + i).toNat = X.2.1 227 19)) (res := fun i => some (zI i)) (N := 0) (R := c) (fun n i hn h1 h2 => ?_) (fun n hn => ?_) c.toNat 0 n (by omega) (by omega) (by omega)
  · rw [lp_X12_named_2]
    simp (disch := first | omega | assumption) only [↓lt, ↓reduceIte, zl, lgz, mo, Option.bind_some, zleF, if_false, zmul, zadd, Int.mul_one, ixT, zidx, if_true]
    by_cases q : X.2.1 235 (16 * k + 8 + i).toNat = X.2.1 227 19
    · rw [if_pos q, if_pos (decide_eq_true q)]
    · rw [if_neg q, if_neg (by simpa using q)]
  · rw [lp_X12_named_2]
    simp (disch := first | omega | assumption) only [↓reduceIte, zl, mo, Option.bind_some, zleT, if_true]
    rfl
/-- the names of the class's land at L are those of the reference's block k -/
def NA (L : Nat) (k c0 c2 : Int) (M X : KM) : Prop := (0 ≤ c0 ∧ c0 ≤ 8 ∧ 0 ≤ c2 ∧ c2 ≤ 8) ∧ M.1 L 8 = zI c0 ∧ M.1 L 10 = zI c2 ∧ X.1 232 (562 * k).toNat = zI c0 ∧ X.1 232 (562 * k + 2).toNat = zI c2 ∧ (∀ i, 0 ≤ i → i < c0 → M.2.1 (L + 1) i.toNat = X.2.1 235 (16 * k + i).toNat) ∧ ∀ i, 0 ≤ i → i < c2 → M.2.1 (L + 14 + 3 * i.toNat) 2 = X.2.1 235 (16 * k + 8 + i).toNat
theorem NA_of {L : Nat} {k c0 c2 : Int} {M M' X X' : KM} (hk : 0 ≤ k) (h1 : ∀ i, M'.1 L i = M.1 L i) (h2 : ∀ c i, L ≤ c → c < L + 38 → M'.2.1 c i = M.2.1 c i) (h3 : ∀ i : Int, 562 * k ≤ i → i ≤ 562 * k + 2 → X'.1 232 i.toNat = X.1 232 i.toNat) (h4 : ∀ i, X'.2.1 235 i = X.2.1 235 i) (h : NA L k c0 c2 M X) : NA L k c0 c2 M' X' := by
  obtain ⟨q0, q1, q2, q3, q4, q5, q6⟩ := h
  exact ⟨q0, by rw [h1]; exact q1, by rw [h1]; exact q2, by rw [h3 _ (by omega) (by omega)]; exact q3, by rw [h3 _ (by omega) (by omega)]; exact q4, fun i u w => by rw [h2 _ _ (by omega) (by omega), h4]; exact q5 i u w, fun i u w => by rw [h2 _ _ (by omega) (by omega), h4]; exact q6 i u w⟩
theorem NA_C {L a : Nat} {k c0 c2 : Int} {M M' X X' : KM} (hk : 0 ≤ k) (ha : a = 5 ∨ a = 8) (hL : 23 ≤ L) (h1 : FC a M M') (h2 : GC X X') (h : NA L k c0 c2 M X) : NA L k c0 c2 M' X' :=
  NA_of hk (fun i => h1.1 _ _ (by omega)) (fun c i u w => h1.2.1 _ _ (by omega)) (fun i u w => h2.1 _ _ (by omega)) (fun i => h2.2.1 _ _ (by omega)) h
theorem j_known {T : Int → Int} {E s k j v : Int} {a : Nat} {M X : KM} {n : Nat} (ha : a = 5 ∨ a = 8) (hE : 0 ≤ E ∧ E ≤ 900) (h : GD T E a s k j v M X) {b o : Int32} {r : Int} (r0 : -1 ≤ r) (r1 : r ≤ 8) (em : ¬ M.2.1 a 9 = lI 0 → f_X12_named n 227 b o X = some (zI r)) (hn : 1000 < n) :
    (0 ≤ r ∧ ∃ M' X', f_X9_takeKnown n a (zI r) M = some (zI r, M') ∧ f_X12_told n 227 b o X = some (zI r, X) ∧ f_X12_advance n 227 X = some X' ∧ NX T E a s M X M' X') ∨ (∃ M' X', f_X9_takeKnown n a (zI r) M = some (zI (-1), M') ∧ f_X12_told n 227 b o X = some (zI 0, X') ∧ FL a M M' X X') := by
  have x0 := h.2.2.1
  have nm := m_isName h.2.1
  by_cases c : M.2.1 a 9 = lI 0
  · obtain ⟨M', X', f1, f2, f3⟩ := fl_order h
    obtain ⟨f, b1, b2, b3⟩ := BD_X f3.1
    rw [bIF (fun z => z c)] at nm
    refine Or.inr ⟨M', X', ?_, ?_, f3⟩
    · unfold f_X9_takeKnown
      rw [if_pos (lgT (show M.2.1 a 9 = (0 : Int64) from c))]
      simp (disch := first | omega | assumption) only [↓lt, ↓reduceIte, zl, f1, zneg, Int.reduceNeg]
    · unfold f_X12_told
      simp (disch := first | omega | assumption) only [↓lt, ↓reduceIte, zl, x0, zeqT, zleF, if_true, if_false, nm, f2, b3]
  · have e := em c
    rw [bIT c] at nm
    have ne : ¬ M.2.1 a 9 = (0 : Int64) := c
    by_cases d : 0 ≤ r
    · have hk : ¬ k = 0 := by
        obtain ⟨q, l, w, -, -, -, -, -, -, -, -, -, -, -, -, -, -, -, -, -, m9, -, -, hw, -⟩ := h.2.1
        intro z
        exact c (by rw [m9]; exact hw.mpr (fun y => by omega))
      obtain ⟨M', X', e1, e2, e3⟩ := nx_adv ha hE h hk hn
      refine Or.inl ⟨d, M', X', ?_, ?_, e2, e3⟩
      · unfold f_X9_takeKnown
        rw [if_neg (lgF ne)]
        simp (disch := first | omega | assumption) only [↓lt, ↓reduceIte, zl, zneg, Int.reduceNeg, zeqF, if_false, e1, Option.bind_some]
      · unfold f_X12_told
        simp (disch := first | omega | assumption) only [↓lt, ↓reduceIte, zl, x0, zeqT, zeqF, zleT, if_true, if_false, nm, e, Option.bind_some]
        by_cases u : 0 < r
        · simp (disch := first | omega | assumption) only [zltT, if_true]
        · have : r = 0 := by omega
          subst this
          simp (disch := first | omega | assumption) only [zltF, if_false]
    · have : r = -1 := by omega
      subst this
      obtain ⟨M', X', f1, f2, f3⟩ := fl_fail (f := 3) h (by omega) (by omega)
      refine Or.inr ⟨M', X', ?_, ?_, f3⟩
      · unfold f_X9_takeKnown
        rw [if_neg (lgF ne)]
        simp (disch := first | omega | assumption) only [↓lt, ↓reduceIte, zl, zneg, Int.reduceNeg, zeqT, if_true, f1]
      · unfold f_X12_told
        simp (disch := first | omega | assumption) only [↓lt, ↓reduceIte, zl, x0, zeqT, zeqF, zleT, zleF, zltF, if_true, if_false, nm, e, f2, Option.bind_some]
theorem j_place {T : Int → Int} {E s k j v : Int} {a L : Nat} {M X : KM} {n : Nat} {B c0 c2 : Int} (ha : a = 5 ∨ a = 8) (hE : 0 ≤ E ∧ E ≤ 900) (h : GD T E a s k j v M X) (hB : 0 ≤ B ∧ B ≤ 4) (hN : NA L B c0 c2 M X) (hn : 1000 < n) :
    (∃ M' X' r, 0 ≤ r ∧ r < c0 ∧ f_X9_takePlace n a L M = some (zI r, M') ∧ f_X12_told n 227 (zI B) (zI 0) X = some (zI r, X) ∧ f_X12_advance n 227 X = some X' ∧ NX T E a s M X M' X') ∨ (∃ M' X', f_X9_takePlace n a L M = some (zI (-1), M') ∧ f_X12_told n 227 (zI B) (zI 0) X = some (zI 0, X') ∧ FL a M M' X X') := by
  obtain ⟨q0, q1, q2, q3, q4, q5, q6⟩ := hN
  have e1 := c_placeNamed (w := M.2.1 a 9) (n := n) q1 q0.1 q0.2.1 (by omega)
  have e2 := m_named0 (n := n) hB.1 hB.2 q3 q0.1 q0.2.1 (by omega)
  have fr := fst_r (P := fun i => decide (M.2.1 (L + 1) i.toNat = M.2.1 a 9)) c0.toNat 0 (by omega)
  have em : ¬ M.2.1 a 9 = lI 0 → fstI (fun i => decide (X.2.1 235 (16 * B + i).toNat = X.2.1 227 19)) c0.toNat 0 = fstI (fun i => decide (M.2.1 (L + 1) i.toNat = M.2.1 a 9)) c0.toNat 0 := fun c => by
    obtain ⟨q, l, w, -, -, -, -, -, -, -, -, -, -, -, -, -, -, -, -, -, m9, -, -, hw, hx, -⟩ := h.2.1
    rw [m9] at c ⊢
    rw [hx c]
    exact fst_c _ _ (fun i u w => by rw [q5 i u (by omega)])
  generalize fstI (fun i => decide (M.2.1 (L + 1) i.toNat = M.2.1 a 9)) c0.toNat 0 = r at *
  have rr : -1 ≤ r ∧ r < c0 := by omega
  have K := j_known (n := n) ha hE h (b := zI B) (o := zI 0) rr.1 (show r ≤ 8 by omega) (fun c => by rw [e2, em c]) hn
  have U : ∀ x : Int32 × KM, f_X9_takeKnown n a (zI r) M = some x → f_X9_takePlace n a L M = some x := fun x hx => by
    unfold f_X9_takePlace
    rw [e1, Option.bind_some, hx]; rfl
  rcases K with ⟨d, M', X', k1, k2, k3, k4⟩ | ⟨M', X', k1, k2, k3⟩
  · exact Or.inl ⟨M', X', r, d, rr.2, U _ k1, k2, k3, k4⟩
  · exact Or.inr ⟨M', X', U _ k1, k2, k3⟩
theorem j_person {T : Int → Int} {E s k j v : Int} {a L : Nat} {M X : KM} {n : Nat} {B c0 c2 : Int} (ha : a = 5 ∨ a = 8) (hE : 0 ≤ E ∧ E ≤ 900) (h : GD T E a s k j v M X) (hB : 0 ≤ B ∧ B ≤ 4) (hN : NA L B c0 c2 M X) (hn : 1000 < n) :
    (∃ M' X' r, 0 ≤ r ∧ r < c2 ∧ f_X9_takePerson n a L M = some (zI r, M') ∧ f_X12_told n 227 (zI B) (zI 1) X = some (zI r, X) ∧ f_X12_advance n 227 X = some X' ∧ NX T E a s M X M' X') ∨ (∃ M' X', f_X9_takePerson n a L M = some (zI (-1), M') ∧ f_X12_told n 227 (zI B) (zI 1) X = some (zI 0, X') ∧ FL a M M' X X') := by
  obtain ⟨q0, q1, q2, q3, q4, q5, q6⟩ := hN
  have e1 := c_personNamed (w := M.2.1 a 9) (n := n) q2 q0.2.2.1 q0.2.2.2 (by omega)
  have e2 := m_named1 (n := n) hB.1 hB.2 q4 q0.2.2.1 q0.2.2.2 (by omega)
  have fr := fst_r (P := fun i => decide (M.2.1 (L + 14 + 3 * i.toNat) 2 = M.2.1 a 9)) c2.toNat 0 (by omega)
  have em : ¬ M.2.1 a 9 = lI 0 → fstI (fun i => decide (X.2.1 235 (16 * B + 8 + i).toNat = X.2.1 227 19)) c2.toNat 0 = fstI (fun i => decide (M.2.1 (L + 14 + 3 * i.toNat) 2 = M.2.1 a 9)) c2.toNat 0 := fun c => by
    obtain ⟨q, l, w, -, -, -, -, -, -, -, -, -, -, -, -, -, -, -, -, -, m9, -, -, hw, hx, -⟩ := h.2.1
    rw [m9] at c ⊢
    rw [hx c]
    exact fst_c _ _ (fun i u w => by rw [q6 i u (by omega)])
  generalize fstI (fun i => decide (M.2.1 (L + 14 + 3 * i.toNat) 2 = M.2.1 a 9)) c2.toNat 0 = r at *
  have rr : -1 ≤ r ∧ r < c2 := by omega
  have K := j_known (n := n) ha hE h (b := zI B) (o := zI 1) rr.1 (show r ≤ 8 by omega) (fun c => by rw [e2, em c]) hn
  have U : ∀ x : Int32 × KM, f_X9_takeKnown n a (zI r) M = some x → f_X9_takePerson n a L M = some x := fun x hx => by
    unfold f_X9_takePerson
    rw [e1, Option.bind_some, hx]; rfl
  rcases K with ⟨d, M', X', k1, k2, k3, k4⟩ | ⟨M', X', k1, k2, k3⟩
  · exact Or.inl ⟨M', X', r, d, rr.2, U _ k1, k2, k3, k4⟩
  · exact Or.inr ⟨M', X', U _ k1, k2, k3⟩
