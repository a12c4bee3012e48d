/-! ===== land: what has been read so far ===== -/
/-- the block of a land that has just been told -/
def CB (c : Int → Int) : Prop := (0 ≤ c 0 ∧ c 0 ≤ 8 ∧ 0 ≤ c 1 ∧ c 1 ≤ 12 ∧ 0 ≤ c 2 ∧ c 2 ≤ 8 ∧ 0 ≤ c 3 ∧ c 3 < c 4 ∧ c 4 ≤ 24 ∧ 0 ≤ c 5 ∧ c 5 ≤ 1439 ∧ 1 ≤ c 6 ∧ c 6 ≤ 9 ∧ 1 ≤ c 7 ∧ c 7 ≤ 9 ∧ 0 ≤ c 8 ∧ c 8 ≤ 16 ∧ c 9 = 0) ∧
  (∀ r, 0 ≤ r → r < c 1 → WR c r) ∧ (∀ r, c 1 ≤ r → r < 12 → c (46 + r) = 0) ∧
  (∀ p, 0 ≤ p → p < 8 → c (66 + p) = -1 ∧ c (74 + p) = 0 ∧ c (82 + p) = -1 ∧ c (90 + p) = 0 ∧ 0 ≤ c (98 + p) ∧ c (98 + p) ≤ 1 ∧ 0 ≤ c (106 + p) ∧ c (106 + p) ≤ 1 ∧ (p < c 2 → 0 ≤ c (58 + p) ∧ c (58 + p) < c 0) ∧ (c 2 ≤ p → c (98 + p) = 0 ∧ c (106 + p) = 0)) ∧
  (∀ p r, 0 ≤ p → p < 8 → 0 ≤ r → r < 12 → 0 ≤ c (130 + 12 * p + r) ∧ c (130 + 12 * p + r) ≤ 9 ∧ (c 2 ≤ p ∨ c 1 ≤ r → c (130 + 12 * p + r) = 0)) ∧
  (∀ z, 226 ≤ z → z < 292 → c z = 0)
theorem CB_WB {c : Int → Int} (h : CB c) : WB c ∧ c 5 ≤ 99999 := by
  obtain ⟨h1, h2, h3, h4, h5, h6⟩ := h
  refine ⟨⟨by unfold WH; omega, h2, fun p u v => ?_, fun p r u v w x => ?_, fun p q u v w x => ?_, fun p u v => ?_⟩, by omega⟩
  · have := h4 p u (by omega)
    unfold WP
    omega
  · have := h5 p r u v w x
    omega
  · rw [h6 _ (by omega) (by omega), h6 _ (by omega) (by omega)]
    omega
  · unfold WL
    exact Or.inl (h4 p u (by omega)).2.2.1
/-- heads changed, or a place more -/
theorem CB_h {c c' : Int → Int} (h : CB c) (e : ∀ z, 10 ≤ z → z < 562 → c' z = c z) (e1 : c' 1 = c 1) (e2 : c' 2 = c 2) (e9 : c' 9 = c 9) (b : c 0 ≤ c' 0 ∧ c' 0 ≤ 8 ∧ 0 ≤ c' 3 ∧ c' 3 < c' 4 ∧ c' 4 ≤ 24 ∧ 0 ≤ c' 5 ∧ c' 5 ≤ 1439 ∧ 1 ≤ c' 6 ∧ c' 6 ≤ 9 ∧ 1 ≤ c' 7 ∧ c' 7 ≤ 9 ∧ 0 ≤ c' 8 ∧ c' 8 ≤ 16) : CB c' := by
  obtain ⟨h1, h2, h3, h4, h5, h6⟩ := h
  refine ⟨by omega, fun r u v => ?_, fun r u v => ?_, fun p u v => ?_, fun p r u v w x => ?_, fun z u v => ?_⟩
  · have := h2 r u (by omega)
    unfold WR at this ⊢
    rw [e (10 + r) (by omega) (by omega), e (22 + r) (by omega) (by omega), e (34 + r) (by omega) (by omega), e (46 + r) (by omega) (by omega)]
    omega
  · rw [e _ (by omega) (by omega)]; exact h3 r (by omega) v
  · have := h4 p u v
    rw [e (66 + p) (by omega) (by omega), e (74 + p) (by omega) (by omega), e (82 + p) (by omega) (by omega), e (90 + p) (by omega) (by omega), e (98 + p) (by omega) (by omega), e (106 + p) (by omega) (by omega), e (58 + p) (by omega) (by omega), e2]
    refine ⟨this.1, this.2.1, this.2.2.1, this.2.2.2.1, this.2.2.2.2.1, this.2.2.2.2.2.1, this.2.2.2.2.2.2.1, this.2.2.2.2.2.2.2.1, fun z => ?_, this.2.2.2.2.2.2.2.2.2⟩
    have := this.2.2.2.2.2.2.2.2.1 z
    omega
  · rw [e _ (by omega) (by omega), e1, e2]; exact h5 p r u v w x
  · rw [e _ (by omega) (by omega)]; exact h6 z u v
/-- a road more -/
theorem CB_road {c c' : Int → Int} {x y m q : Int} (h : CB c) (h12 : c 1 < 12) (e : ∀ z, 0 ≤ z → z < 562 → ¬ z = 1 → ¬ z = 10 + c 1 → ¬ z = 22 + c 1 → ¬ z = 34 + c 1 → ¬ z = 46 + c 1 → c' z = c z) (e1 : c' 1 = c 1 + 1) (ex : c' (10 + c 1) = x) (ey : c' (22 + c 1) = y) (em : c' (34 + c 1) = m) (eq : c' (46 + c 1) = q) (b : 0 ≤ x ∧ x < c 0 ∧ 0 ≤ y ∧ y < c 0 ∧ ¬ x = y ∧ 1 ≤ m ∧ m ≤ 99 ∧ 0 ≤ q ∧ q ≤ 1) : CB c' := by
  obtain ⟨h1, h2, h3, h4, h5, h6⟩ := h
  have e0 : c' 0 = c 0 := e 0 (by omega) (by omega) (by omega) (by omega) (by omega) (by omega) (by omega)
  have e2 : c' 2 = c 2 := e 2 (by omega) (by omega) (by omega) (by omega) (by omega) (by omega) (by omega)
  refine ⟨?_, fun r u v => ?_, fun r u v => ?_, fun p u v => ?_, fun p r u v w x => ?_, fun z u v => ?_⟩
  · rw [e0, e1, e2, e 3 (by omega) (by omega) (by omega) (by omega) (by omega) (by omega) (by omega), e 4 (by omega) (by omega) (by omega) (by omega) (by omega) (by omega) (by omega), e 5 (by omega) (by omega) (by omega) (by omega) (by omega) (by omega) (by omega), e 6 (by omega) (by omega) (by omega) (by omega) (by omega) (by omega) (by omega), e 7 (by omega) (by omega) (by omega) (by omega) (by omega) (by omega) (by omega), e 8 (by omega) (by omega) (by omega) (by omega) (by omega) (by omega) (by omega), e 9 (by omega) (by omega) (by omega) (by omega) (by omega) (by omega) (by omega)]
    omega
  · by_cases w : r = c 1
    · subst w
      unfold WR
      rw [ex, ey, em, eq, e0]
      omega
    · have := h2 r u (by omega)
      unfold WR at this ⊢
      rw [e0, e (10 + r) (by omega) (by omega) (by omega) (by omega) (by omega) (by omega) (by omega), e (22 + r) (by omega) (by omega) (by omega) (by omega) (by omega) (by omega) (by omega), e (34 + r) (by omega) (by omega) (by omega) (by omega) (by omega) (by omega) (by omega), e (46 + r) (by omega) (by omega) (by omega) (by omega) (by omega) (by omega) (by omega)]
      exact this
  · rw [e _ (by omega) (by omega) (by omega) (by omega) (by omega) (by omega) (by omega)]; exact h3 r (by omega) v
  · have := h4 p u v
    rw [e (66 + p) (by omega) (by omega) (by omega) (by omega) (by omega) (by omega) (by omega), e (74 + p) (by omega) (by omega) (by omega) (by omega) (by omega) (by omega) (by omega), e (82 + p) (by omega) (by omega) (by omega) (by omega) (by omega) (by omega) (by omega), e (90 + p) (by omega) (by omega) (by omega) (by omega) (by omega) (by omega) (by omega), e (98 + p) (by omega) (by omega) (by omega) (by omega) (by omega) (by omega) (by omega), e (106 + p) (by omega) (by omega) (by omega) (by omega) (by omega) (by omega) (by omega), e (58 + p) (by omega) (by omega) (by omega) (by omega) (by omega) (by omega) (by omega), e2, e0]
    exact this
  · have := h5 p r u v w x
    rw [e _ (by omega) (by omega) (by omega) (by omega) (by omega) (by omega) (by omega), e1, e2]
    exact ⟨this.1, this.2.1, fun z => this.2.2 (by omega)⟩
  · rw [e _ (by omega) (by omega) (by omega) (by omega) (by omega) (by omega) (by omega)]; exact h6 z u v
/-- one more of the people -/
theorem CB_person {c c' : Int → Int} {x g b : Int} (h : CB c) (h8 : c 2 < 8) (e : ∀ z, 0 ≤ z → z < 562 → ¬ z = 2 → ¬ z = 58 + c 2 → ¬ z = 98 + c 2 → ¬ z = 106 + c 2 → c' z = c z) (e2 : c' 2 = c 2 + 1) (ex : c' (58 + c 2) = x) (eg : c' (98 + c 2) = g) (eb : c' (106 + c 2) = b) (k : 0 ≤ x ∧ x < c 0 ∧ 0 ≤ g ∧ g ≤ 1 ∧ 0 ≤ b ∧ b ≤ 1) : CB c' := by
  obtain ⟨h1, h2, h3, h4, h5, h6⟩ := h
  have e0 : c' 0 = c 0 := e 0 (by omega) (by omega) (by omega) (by omega) (by omega) (by omega)
  have e1 : c' 1 = c 1 := e 1 (by omega) (by omega) (by omega) (by omega) (by omega) (by omega)
  refine ⟨?_, fun r u v => ?_, fun r u v => ?_, fun p u v => ?_, fun p r u v w x => ?_, fun z u v => ?_⟩
  · rw [e0, e1, e2, e 3 (by omega) (by omega) (by omega) (by omega) (by omega) (by omega), e 4 (by omega) (by omega) (by omega) (by omega) (by omega) (by omega), e 5 (by omega) (by omega) (by omega) (by omega) (by omega) (by omega), e 6 (by omega) (by omega) (by omega) (by omega) (by omega) (by omega), e 7 (by omega) (by omega) (by omega) (by omega) (by omega) (by omega), e 8 (by omega) (by omega) (by omega) (by omega) (by omega) (by omega), e 9 (by omega) (by omega) (by omega) (by omega) (by omega) (by omega)]
    omega
  · have := h2 r u (by omega)
    unfold WR at this ⊢
    rw [e0, e (10 + r) (by omega) (by omega) (by omega) (by omega) (by omega) (by omega), e (22 + r) (by omega) (by omega) (by omega) (by omega) (by omega) (by omega), e (34 + r) (by omega) (by omega) (by omega) (by omega) (by omega) (by omega), e (46 + r) (by omega) (by omega) (by omega) (by omega) (by omega) (by omega)]
    exact this
  · rw [e _ (by omega) (by omega) (by omega) (by omega) (by omega) (by omega)]; exact h3 r (by omega) v
  · have := h4 p u v
    rw [e (66 + p) (by omega) (by omega) (by omega) (by omega) (by omega) (by omega), e (74 + p) (by omega) (by omega) (by omega) (by omega) (by omega) (by omega), e (82 + p) (by omega) (by omega) (by omega) (by omega) (by omega) (by omega), e (90 + p) (by omega) (by omega) (by omega) (by omega) (by omega) (by omega)]
    by_cases w : p = c 2
    · subst w
      rw [ex, eg, eb, e0, e2]
      omega
    · rw [e (98 + p) (by omega) (by omega) (by omega) (by omega) (by omega) (by omega), e (106 + p) (by omega) (by omega) (by omega) (by omega) (by omega) (by omega), e (58 + p) (by omega) (by omega) (by omega) (by omega) (by omega) (by omega), e2, e0]
      refine ⟨this.1, this.2.1, this.2.2.1, this.2.2.2.1, this.2.2.2.2.1, this.2.2.2.2.2.1, this.2.2.2.2.2.2.1, this.2.2.2.2.2.2.2.1, fun z => ?_, fun z => ?_⟩
      · exact this.2.2.2.2.2.2.2.2.1 (by omega)
      · exact this.2.2.2.2.2.2.2.2.2 (by omega)
  · have := h5 p r u v w x
    rw [e _ (by omega) (by omega) (by omega) (by omega) (by omega) (by omega), e1, e2]
    exact ⟨this.1, this.2.1, fun z => this.2.2 (by omega)⟩
  · rw [e _ (by omega) (by omega) (by omega) (by omega) (by omega) (by omega)]; exact h6 z u v
/-- a road known -/
theorem CB_known {c c' : Int → Int} {x r : Int} (h : CB c) (x0 : 0 ≤ x) (x1 : x < c 2) (r0 : 0 ≤ r) (r1 : r < c 1) (e : ∀ z, 0 ≤ z → z < 562 → ¬ z = 130 + 12 * x + r → c' z = c z) (ek : c' (130 + 12 * x + r) = c 7) : CB c' := by
  obtain ⟨h1, h2, h3, h4, h5, h6⟩ := h
  have e0 : c' 0 = c 0 := e 0 (by omega) (by omega) (by omega)
  have e1 : c' 1 = c 1 := e 1 (by omega) (by omega) (by omega)
  have e2 : c' 2 = c 2 := e 2 (by omega) (by omega) (by omega)
  refine ⟨?_, fun r u v => ?_, fun r u v => ?_, fun p u v => ?_, fun p q u v w y => ?_, fun z u v => ?_⟩
  · rw [e0, e1, e2, e 3 (by omega) (by omega) (by omega), e 4 (by omega) (by omega) (by omega), e 5 (by omega) (by omega) (by omega), e 6 (by omega) (by omega) (by omega), e 7 (by omega) (by omega) (by omega), e 8 (by omega) (by omega) (by omega), e 9 (by omega) (by omega) (by omega)]
    omega
  · have := h2 r u (by omega)
    unfold WR at this ⊢
    rw [e0, e (10 + r) (by omega) (by omega) (by omega), e (22 + r) (by omega) (by omega) (by omega), e (34 + r) (by omega) (by omega) (by omega), e (46 + r) (by omega) (by omega) (by omega)]
    exact this
  · rw [e _ (by omega) (by omega) (by omega)]; exact h3 r (by omega) v
  · have := h4 p u v
    rw [e (66 + p) (by omega) (by omega) (by omega), e (74 + p) (by omega) (by omega) (by omega), e (82 + p) (by omega) (by omega) (by omega), e (90 + p) (by omega) (by omega) (by omega), e (98 + p) (by omega) (by omega) (by omega), e (106 + p) (by omega) (by omega) (by omega), e (58 + p) (by omega) (by omega) (by omega), e2, e0]
    exact this
  · by_cases z : p = x ∧ q = r
    · rw [z.1, z.2, ek, e1, e2]
      exact ⟨by omega, by omega, fun z => by omega⟩
    · have := h5 p q u v w y
      rw [e _ (by omega) (by omega) (by omega), e1, e2]
      exact this
  · rw [e _ (by omega) (by omega) (by omega)]; exact h6 z u v
theorem sh_at {b : Int → Int} {k e : Int} (h1 : 0 ≤ e) (h2 : e < 562) : sh b k e = b (k + e) := if_pos ⟨h1, h2⟩
/-- the class's people of a land that has just been told -/
def PB (M : KM) (S : Nat) (c : Int → Int) : Prop := ∀ p, 0 ≤ p → p < c 2 → M.1 (S + 14 + 3 * p.toNat) 3 = zI (1 - c (106 + p)) ∧ M.1 (S + 14 + 3 * p.toNat) 4 = zI (c (98 + p)) ∧ M.1 (S + 14 + 3 * p.toNat) 5 = zI (c (58 + p)) ∧ M.1 (S + 14 + 3 * p.toNat) 6 = zI (-1) ∧ M.1 (S + 14 + 3 * p.toNat) 7 = zI (-1) ∧ M.1 (S + 14 + 3 * p.toNat) 8 = zI (-1) ∧ M.1 (S + 14 + 3 * p.toNat) 9 = zI (-1) ∧ M.1 (S + 14 + 3 * p.toNat) 10 = zI 0 ∧ M.1 (S + 14 + 3 * p.toNat) 11 = zI 0 ∧ (∀ r, 0 ≤ r → r < 12 → M.1 (S + 14 + 3 * p.toNat + 1) r.toNat = zI (c (130 + 12 * p + r))) ∧ ∀ q : Int, 0 ≤ q → q < 8 → M.1 (S + 14 + 3 * p.toNat + 2) q.toNat = zI 0
def P01 (M : KM) (S : Nat) : Prop := ∀ p : Nat, p < 8 → (M.1 (S + 14 + 3 * p) 3 = zI 0 ∨ M.1 (S + 14 + 3 * p) 3 = zI 1) ∧ (M.1 (S + 14 + 3 * p) 4 = zI 0 ∨ M.1 (S + 14 + 3 * p) 4 = zI 1)
/-- the class's land at S and the reference's fifth block: the same, as far as told -/
def LB (S : Nat) (b : Int → Int) (M X : KM) : Prop := (∀ k : Nat, X.1 232 k = zI (b k)) ∧ CB (sh b 2248) ∧ HL M S (sh b 2248) ∧ PB M S (sh b 2248) ∧ P01 M S ∧ (∀ k, 0 ≤ k → k < sh b 2248 0 → M.2.1 (S + 1) k.toNat = X.2.1 235 (64 + k).toNat) ∧ (∀ p, 0 ≤ p → p < sh b 2248 2 → M.2.1 (S + 14 + 3 * p.toNat) 2 = X.2.1 235 (72 + p).toNat) ∧ M.1 (M.2.2 S 7) 5 = zI 0 ∧ M.1 (M.2.2 S 7) 6 = zI 0 ∧ M.1 (M.2.2 S 7) 7 = zI 0
theorem LB_NA {S : Nat} {b : Int → Int} {M X : KM} (h : LB S b M X) : NA S 4 (sh b 2248 0) (sh b 2248 2) M X := by
  obtain ⟨h1, h2, h3, h4, h5, h6, h7, -⟩ := h
  have hh := h2.1
  refine ⟨by omega, h3.1, h3.2.2.1, ?_, ?_, fun i u v => ?_, fun i u v => ?_⟩
  · rw [sh_at (by omega) (by omega)]; exact h1 2248
  · rw [sh_at (by omega) (by omega)]; exact h1 2250
  · rw [h6 i u v]; rfl
  · rw [h7 i u v]; rfl
theorem PB_of {M M' : KM} {S : Nat} {c c' : Int → Int} (h1 : ∀ a k, S + 14 ≤ a → a < S + 38 → M'.1 a k = M.1 a k) (h2 : ∀ z, 58 ≤ z → z < 290 → c' z = c z) (e2 : c' 2 = c 2) (h8 : c 2 ≤ 8) (h : PB M S c) : PB M' S c' := by
  intro p u v
  rw [e2] at v
  obtain ⟨q3, q4, q5, q6, q7, q8, q9, q10, q11, qg, qo⟩ := h p u v
  refine ⟨?_, ?_, ?_, ?_, ?_, ?_, ?_, ?_, ?_, fun r x y => ?_, fun q x y => ?_⟩
  · rw [h1 _ _ (by omega) (by omega), h2 _ (by omega) (by omega)]; exact q3
  · rw [h1 _ _ (by omega) (by omega), h2 _ (by omega) (by omega)]; exact q4
  · rw [h1 _ _ (by omega) (by omega), h2 _ (by omega) (by omega)]; exact q5
  · rw [h1 _ _ (by omega) (by omega)]; exact q6
  · rw [h1 _ _ (by omega) (by omega)]; exact q7
  · rw [h1 _ _ (by omega) (by omega)]; exact q8
  · rw [h1 _ _ (by omega) (by omega)]; exact q9
  · rw [h1 _ _ (by omega) (by omega)]; exact q10
  · rw [h1 _ _ (by omega) (by omega)]; exact q11
  · rw [h1 _ _ (by omega) (by omega), h2 _ (by omega) (by omega)]; exact qg r x y
  · rw [h1 _ _ (by omega) (by omega)]; exact qo q x y
theorem P01_of {M M' : KM} {S : Nat} (h1 : ∀ a k, S + 14 ≤ a → a < S + 38 → M'.1 a k = M.1 a k) (h : P01 M S) : P01 M' S := by
  intro p u
  rw [h1 _ _ (by omega) (by omega), h1 _ _ (by omega) (by omega)]
  exact h p u
/-- the land is the same where nothing of it was touched -/
theorem LB_of {S : Nat} {b : Int → Int} {M M' X X' : KM} (hP : M.2.2 S 7 = 31 ∨ M.2.2 S 7 = 69 ∨ M.2.2 S 7 = 99) (h1 : ∀ a k, 23 ≤ a → a < 105 → M'.1 a k = M.1 a k) (hS : 23 ≤ S ∧ S ≤ 61) (h2 : ∀ a k, 23 ≤ a → a < 105 → M'.2.1 a k = M.2.1 a k) (h3 : M'.2.2 S 7 = M.2.2 S 7) (h4 : ∀ k, X'.1 232 k = X.1 232 k) (h5 : ∀ k, X'.2.1 235 k = X.2.1 235 k) (h : LB S b M X) : LB S b M' X' := by
  obtain ⟨a1, a2, a3, a4, a5, a6, a7, a8, a9, a10⟩ := h
  have hh := a2.1
  refine ⟨fun k => by rw [h4]; exact a1 k, a2, HL_of (fun a k u v => h1 a k (by omega) (by omega)) a3, PB_of (fun a k u v => h1 a k (by omega) (by omega)) (fun _ _ _ => rfl) rfl (by omega) a4, P01_of (fun a k u v => h1 a k (by omega) (by omega)) a5, fun k u v => by rw [h2 _ _ (by omega) (by omega), h5]; exact a6 k u v, fun k u v => by rw [h2 _ _ (by omega) (by omega), h5]; exact a7 k u v, ?_, ?_, ?_⟩
  · rw [h3, h1 _ _ (by omega) (by omega)]; exact a8
  · rw [h3, h1 _ _ (by omega) (by omega)]; exact a9
  · rw [h3, h1 _ _ (by omega) (by omega)]; exact a10
theorem LB_C {S a : Nat} {b : Int → Int} {M M' X X' : KM} (ha : a = 5 ∨ a = 8) (hP : M.2.2 S 7 = 31 ∨ M.2.2 S 7 = 69 ∨ M.2.2 S 7 = 99) (hS : 23 ≤ S ∧ S ≤ 61) (h1 : FC a M M') (h2 : GC X X') (h : LB S b M X) : LB S b M' X' :=
  LB_of hP (fun c i u v => h1.1 _ _ (by omega)) hS (fun c i u v => h1.2.1 _ _ (by omega)) (by rw [h1.2.2]) (fun k => h2.1 _ _ (by omega)) (fun k => h2.2.1 _ _ (by omega)) h

