/-! ===== land: one of the people, the class ===== -/
theorem c_zero30 {Q : Nat} {κ : KM → Option KM} : ∀ (k : Nat) (i : Int) (M : KM) (n : Nat), 0 ≤ i → i + k = 12 → k < n → ∃ N, lp_X7_begin_30 n Q (zI i) M κ = κ N ∧ N.2 = M.2 ∧ (∀ a (j : Nat), ¬ (a = Q + 1 ∧ i ≤ (j : Int)) → N.1 a j = M.1 a j) ∧ ∀ (j : Nat), i ≤ (j : Int) → j < 12 → N.1 (Q + 1) j = zI 0 := by
  intro k
  induction k with
  | zero =>
    intro i M n h1 h2 h3
    obtain ⟨n, rfl⟩ : ∃ m, n = m + 1 := ⟨n - 1, by omega⟩
    have : i = 12 := by omega
    subst this
    refine ⟨M, ?_, rfl, fun _ _ _ => rfl, fun j a b => by omega⟩
    rw [lp_X7_begin_30]
    simp (disch := first | omega | assumption) only [↓reduceIte, zl, zleT, if_true]
  | succ k ih =>
    intro i M n h1 h2 h3
    obtain ⟨n, rfl⟩ : ∃ m, n = m + 1 := ⟨n - 1, by omega⟩
    obtain ⟨N, e1, e2, e3, e4⟩ := ih (i + 1) (uI M (Q + 1) i.toNat (zI 0)) n (by omega) (by omega) (by omega)
    refine ⟨N, ?_, by rw [e2]; rfl, fun a j q => ?_, fun j a b => ?_⟩
    · rw [lp_X7_begin_30]
      simp (disch := first | omega | assumption) only [↓lt, ↓reduceIte, zl, zleF, if_false, ixT, zidx, if_true, zadd]
      exact e1
    · rw [e3 a j (by omega), uI_o (by omega)]
    · by_cases w : (j : Int) = i
      · rw [e3 _ j (by omega), show j = i.toNat by omega, uI_s]
      · exact e4 j (by omega) b
theorem c_zero54 {Q : Nat} : ∀ (k : Nat) (i : Int) (M : KM) (n : Nat), 0 ≤ i → i + k = 8 → k < n → ∃ N, lp_X7_begin_54 n Q (zI i) M = some N ∧ N.2 = M.2 ∧ (∀ a (j : Nat), ¬ (a = Q + 2 ∧ i ≤ (j : Int)) → N.1 a j = M.1 a j) ∧ ∀ (j : Nat), i ≤ (j : Int) → j < 8 → N.1 (Q + 2) j = zI 0 := by
  intro k
  induction k with
  | zero =>
    intro i M n h1 h2 h3
    obtain ⟨n, rfl⟩ : ∃ m, n = m + 1 := ⟨n - 1, by omega⟩
    have : i = 8 := by omega
    subst this
    refine ⟨M, ?_, rfl, fun _ _ _ => rfl, fun j a b => by omega⟩
    rw [lp_X7_begin_54]
    simp (disch := first | omega | assumption) only [↓reduceIte, zl, zleT, if_true]
  | succ k ih =>
    intro i M n h1 h2 h3
    obtain ⟨n, rfl⟩ : ∃ m, n = m + 1 := ⟨n - 1, by omega⟩
    obtain ⟨N, e1, e2, e3, e4⟩ := ih (i + 1) (uI M (Q + 2) i.toNat (zI 0)) n (by omega) (by omega) (by omega)
    refine ⟨N, ?_, by rw [e2]; rfl, fun a j q => ?_, fun j a b => ?_⟩
    · rw [lp_X7_begin_54]
      simp (disch := first | omega | assumption) only [↓lt, ↓reduceIte, zl, zleF, if_false, ixT, zidx, if_true, zadd]
      exact e1
    · rw [e3 a j (by omega), uI_o (by omega)]
    · by_cases w : (j : Int) = i
      · rw [e3 _ j (by omega), show j = i.toNat by omega, uI_s]
      · exact e4 j (by omega) b
theorem c_stay2 {Q : Nat} {p : Int32} {M : KM} : f_X7_stayAt Q p M = uI (uI (uI (uI (uI (uI M Q 5 p) Q 6 (zI (-1))) Q 7 (zI (-1))) Q 8 (zI (-1))) Q 9 (zI (-1))) Q 10 (zI 0) := rfl
theorem c_addPerson {M : KM} {S n : Nat} {w : Int64} {c q g x : Int} (h : M.1 S 10 = zI c) (c0 : 0 ≤ c) (c8 : c < 8) (q0 : q = 0 ∨ q = 1) (g0 : g = 0 ∨ g = 1) (hn : 1000 < n) :
    ∃ N, f_X2_addPerson n S w (zI q) (zI g) (zI x) M = some N ∧ N.2.2 = M.2.2 ∧ (∀ a k, ¬ (a = S + 14 + 3 * c.toNat ∧ k = 2) → N.2.1 a k = M.2.1 a k) ∧ N.2.1 (S + 14 + 3 * c.toNat) 2 = w ∧ (∀ a k, ¬ (a = S ∧ k = 10) → ¬ (S + 14 + 3 * c.toNat ≤ a ∧ a < S + 14 + 3 * c.toNat + 3) → N.1 a k = M.1 a k) ∧ N.1 S 10 = zI (c + 1) ∧
      N.1 (S + 14 + 3 * c.toNat) 3 = zI q ∧ N.1 (S + 14 + 3 * c.toNat) 4 = zI g ∧ N.1 (S + 14 + 3 * c.toNat) 5 = zI x ∧ N.1 (S + 14 + 3 * c.toNat) 6 = zI (-1) ∧ N.1 (S + 14 + 3 * c.toNat) 7 = zI (-1) ∧ N.1 (S + 14 + 3 * c.toNat) 8 = zI (-1) ∧ N.1 (S + 14 + 3 * c.toNat) 9 = zI (-1) ∧ N.1 (S + 14 + 3 * c.toNat) 10 = zI 0 ∧ N.1 (S + 14 + 3 * c.toNat) 11 = zI 0 ∧ (∀ r : Int, 0 ≤ r → r < 12 → N.1 (S + 14 + 3 * c.toNat + 1) r.toNat = zI 0) ∧ ∀ r : Int, 0 ≤ r → r < 8 → N.1 (S + 14 + 3 * c.toNat + 2) r.toNat = zI 0 := by
  generalize hQ : S + 14 + 3 * c.toNat = Q at *
  have e6 : S + 6 + 8 + 3 * c.toNat = Q := by omega
  have Q1 : S + 14 ≤ Q := by omega
  obtain ⟨N1, a1, a2, a3, a4⟩ := c_zero30 (Q := Q) (κ := fun M12 => lp_X7_begin_54 n Q (0 : Int32) M12) 12 0 (f_X7_stayAt Q (zI x) (uI (uI (uI (uJ M Q 2 w) Q 3 (zI q)) Q 4 (zI g)) Q 11 (zI 0))) n (by omega) (by omega) (by omega)
  obtain ⟨N2, b1, b2, b3, b4⟩ := c_zero54 (Q := Q) 8 0 N1 n (by omega) (by omega) (by omega)
  have bg : f_X7_begin n Q w (zI q) (zI g) (zI x) M = some N2 := by
    unfold f_X7_begin
    rw [lt, if_pos (by rcases q0 with q0 | q0 <;> rw [q0] <;> decide), lt, if_pos (by rcases g0 with g0 | g0 <;> rw [g0] <;> decide), lt, lt, lt]
    exact a1.trans b1
  have k10 : N2.1 S 10 = zI c := by
    rw [b3 _ _ (by omega), a3 _ _ (by omega), c_stay2, uI_o (by omega), uI_o (by omega), uI_o (by omega), uI_o (by omega), uI_o (by omega), uI_o (by omega), uI_o (by omega), uI_o (by omega), uI_o (by omega)]
    exact h
  have cell : ∀ k, k < 12 → N2.1 Q k = (f_X7_stayAt Q (zI x) (uI (uI (uI (uJ M Q 2 w) Q 3 (zI q)) Q 4 (zI g)) Q 11 (zI 0))).1 Q k := fun k hk => by
    rw [b3 _ _ (by omega), a3 _ _ (by omega)]
  refine ⟨uI N2 S 10 (zI (c + 1)), ?_, ?_, fun a k u => ?_, ?_, fun a k u v => ?_, uI_s, ?_, ?_, ?_, ?_, ?_, ?_, ?_, ?_, ?_, fun r u v => ?_, fun r u v => ?_⟩
  · unfold f_X2_addPerson
    simp (disch := first | omega | assumption) only [↓lt, ↓reduceIte, zl, h, zleF, if_false, ixT, zidx, if_true, e6, bg, Option.bind_some, k10, zadd]
  · show N2.2.2 = _
    rw [b2, a2]; rfl
  · show N2.2.1 a k = _
    rw [b2, a2]
    show (uJ M Q 2 w).2.1 a k = _
    rw [uJ_o u]
  · show N2.2.1 Q 2 = _
    rw [b2, a2]
    exact uJ_s
  · rw [uI_o u, b3 _ _ (by omega), a3 _ _ (by omega), c_stay2, uI_o (by omega), uI_o (by omega), uI_o (by omega), uI_o (by omega), uI_o (by omega), uI_o (by omega), uI_o (by omega), uI_o (by omega), uI_o (by omega)]
    rfl
  · rw [uI_o (by omega), cell _ (by omega), c_stay2, uI_o (by omega), uI_o (by omega), uI_o (by omega), uI_o (by omega), uI_o (by omega), uI_o (by omega), uI_o (by omega), uI_o (by omega), uI_s]
  · rw [uI_o (by omega), cell _ (by omega), c_stay2, uI_o (by omega), uI_o (by omega), uI_o (by omega), uI_o (by omega), uI_o (by omega), uI_o (by omega), uI_o (by omega), uI_s]
  · rw [uI_o (by omega), cell _ (by omega), c_stay2, uI_o (by omega), uI_o (by omega), uI_o (by omega), uI_o (by omega), uI_o (by omega), uI_s]
  · rw [uI_o (by omega), cell _ (by omega), c_stay2, uI_o (by omega), uI_o (by omega), uI_o (by omega), uI_o (by omega), uI_s]
  · rw [uI_o (by omega), cell _ (by omega), c_stay2, uI_o (by omega), uI_o (by omega), uI_o (by omega), uI_s]
  · rw [uI_o (by omega), cell _ (by omega), c_stay2, uI_o (by omega), uI_o (by omega), uI_s]
  · rw [uI_o (by omega), cell _ (by omega), c_stay2, uI_o (by omega), uI_s]
  · rw [uI_o (by omega), cell _ (by omega), c_stay2, uI_s]
  · rw [uI_o (by omega), cell _ (by omega), c_stay2, uI_o (by omega), uI_o (by omega), uI_o (by omega), uI_o (by omega), uI_o (by omega), uI_o (by omega), uI_s]
  · rw [uI_o (by omega), b3 _ _ (by omega)]
    exact a4 r.toNat (by omega) (by omega)
  · rw [uI_o (by omega)]
    exact b4 r.toNat (by omega) (by omega)
/-- one of the people laid behind those that are there -/
theorem LB_person {S : Nat} {b b' : Int → Int} {M M' X X' : KM} {c x g l : Int} (hS : Sp S M) (h : LB S b M X) (hc : c = sh b 2248 2) (c8 : c < 8) (hq : 0 ≤ x ∧ x < sh b 2248 0 ∧ 0 ≤ g ∧ g ≤ 1 ∧ 0 ≤ l ∧ l ≤ 1) (hr : ∀ k : Nat, X'.1 232 k = zI (b' k)) (hb : ∀ z, 2248 ≤ z → z < 2810 → ¬ z = 2250 → ¬ z = 2306 + c → ¬ z = 2346 + c → ¬ z = 2354 + c → b' z = b z) (b2 : b' 2250 = c + 1) (bx : b' (2306 + c) = x) (bg : b' (2346 + c) = g) (bl : b' (2354 + c) = l)
    (hR : M'.2.2 = M.2.2) (hJ : ∀ a k, 23 ≤ a → a < 105 → ¬ (a = S + 14 + 3 * c.toNat ∧ k = 2) → M'.2.1 a k = M.2.1 a k) (hw : M'.2.1 (S + 14 + 3 * c.toNat) 2 = X'.2.1 235 (72 + c).toNat) (hM : ∀ a k, 23 ≤ a → a < 105 → ¬ (a = S ∧ k = 10) → ¬ (S + 14 + 3 * c.toNat ≤ a ∧ a < S + 14 + 3 * c.toNat + 3) → M'.1 a k = M.1 a k) (q10 : M'.1 S 10 = zI (c + 1))
    (p3 : M'.1 (S + 14 + 3 * c.toNat) 3 = zI (1 - l)) (p4 : M'.1 (S + 14 + 3 * c.toNat) 4 = zI g) (p5 : M'.1 (S + 14 + 3 * c.toNat) 5 = zI x) (p6 : M'.1 (S + 14 + 3 * c.toNat) 6 = zI (-1)) (p7 : M'.1 (S + 14 + 3 * c.toNat) 7 = zI (-1)) (p8 : M'.1 (S + 14 + 3 * c.toNat) 8 = zI (-1)) (p9 : M'.1 (S + 14 + 3 * c.toNat) 9 = zI (-1)) (p10 : M'.1 (S + 14 + 3 * c.toNat) 10 = zI 0) (p11 : M'.1 (S + 14 + 3 * c.toNat) 11 = zI 0) (pg : ∀ r : Int, 0 ≤ r → r < 12 → M'.1 (S + 14 + 3 * c.toNat + 1) r.toNat = zI 0) (po : ∀ r : Int, 0 ≤ r → r < 8 → M'.1 (S + 14 + 3 * c.toNat + 2) r.toNat = zI 0) (hW : ∀ k, ¬ k = (72 + c).toNat → X'.2.1 235 k = X.2.1 235 k) : LB S b' M' X' := by
  obtain ⟨a1, a2, a3, a4, a5, a6, a7, a8, a9, a10⟩ := h
  have hh := a2.1
  obtain ⟨hP, hS⟩ := hS
  have sb : ∀ z, 0 ≤ z → z < 562 → ¬ z = 2 → ¬ z = 58 + c → ¬ z = 98 + c → ¬ z = 106 + c → sh b' 2248 z = sh b 2248 z := fun z u v e1 e2 e3 e4 => by
    rw [sh_at u v, sh_at u v]; exact hb _ (by omega) (by omega) (by omega) (by omega) (by omega) (by omega)
  have s2 : sh b' 2248 2 = c + 1 := by rw [sh_at (by omega) (by omega)]; exact b2
  have sx : sh b' 2248 (58 + c) = x := by rw [sh_at (by omega) (by omega), ← bx]; congr 1; omega
  have sg : sh b' 2248 (98 + c) = g := by rw [sh_at (by omega) (by omega), ← bg]; congr 1; omega
  have sl : sh b' 2248 (106 + c) = l := by rw [sh_at (by omega) (by omega), ← bl]; congr 1; omega
  have hC : CB (sh b' 2248) := CB_person (c := sh b 2248) (x := x) (g := g) (b := l) a2 (by omega) (fun z u v e1 e2 e3 e4 => sb z u v e1 (by omega) (by omega) (by omega)) (by rw [← hc]; exact s2) (by rw [← hc]; exact sx) (by rw [← hc]; exact sg) (by rw [← hc]; exact sl) hq
  have z0 := sb 0 (by omega) (by omega) (by omega) (by omega) (by omega) (by omega)
  have z1 := sb 1 (by omega) (by omega) (by omega) (by omega) (by omega) (by omega)
  have z3 := sb 3 (by omega) (by omega) (by omega) (by omega) (by omega) (by omega)
  have z4 := sb 4 (by omega) (by omega) (by omega) (by omega) (by omega) (by omega)
  have z5 := sb 5 (by omega) (by omega) (by omega) (by omega) (by omega) (by omega)
  have z6 := sb 6 (by omega) (by omega) (by omega) (by omega) (by omega) (by omega)
  have z7 := sb 7 (by omega) (by omega) (by omega) (by omega) (by omega) (by omega)
  have z8 := sb 8 (by omega) (by omega) (by omega) (by omega) (by omega) (by omega)
  have z9 := sb 9 (by omega) (by omega) (by omega) (by omega) (by omega) (by omega)
  have gn := a2.2.2.2.2.1
  obtain ⟨c0, c1, c2, c5, c6, c7, cc8, c9, c3, c4, cd, ca, cb, cc, cs⟩ := a3
  refine ⟨hr, hC, ⟨?_, ?_, ?_, ?_, ?_, ?_, ?_, ?_, ?_, ?_, ?_, fun r u v => ?_, fun r u v => ?_, fun r u v => ?_, fun r u v => ?_⟩, fun p u v => ?_, fun p u => ?_, fun k u v => ?_, fun k u v => ?_, ?_, ?_, ?_⟩
  · rw [z0, hM _ _ (by omega) (by omega) (by omega) (by omega)]; exact c0
  · rw [z1, hM _ _ (by omega) (by omega) (by omega) (by omega)]; exact c1
  · rw [s2]; exact q10
  · rw [z5, hM _ _ (by omega) (by omega) (by omega) (by omega)]; exact c5
  · rw [z6, hM _ _ (by omega) (by omega) (by omega) (by omega)]; exact c6
  · rw [z7, hM _ _ (by omega) (by omega) (by omega) (by omega)]; exact c7
  · rw [z8, hM _ _ (by omega) (by omega) (by omega) (by omega)]; exact cc8
  · rw [z9, hM _ _ (by omega) (by omega) (by omega) (by omega)]; exact c9
  · rw [z3, hM _ _ (by omega) (by omega) (by omega) (by omega)]; exact c3
  · rw [z4, hM _ _ (by omega) (by omega) (by omega) (by omega)]; exact c4
  · rw [z3, z4, hM _ _ (by omega) (by omega) (by omega) (by omega)]; exact cd
  · rw [z1] at v; rw [sb _ (by omega) (by omega) (by omega) (by omega) (by omega) (by omega), hM _ _ (by omega) (by omega) (by omega) (by omega)]; exact ca r u v
  · rw [z1] at v; rw [sb _ (by omega) (by omega) (by omega) (by omega) (by omega) (by omega), hM _ _ (by omega) (by omega) (by omega) (by omega)]; exact cb r u v
  · rw [z1] at v; rw [sb _ (by omega) (by omega) (by omega) (by omega) (by omega) (by omega), hM _ _ (by omega) (by omega) (by omega) (by omega)]; exact cc r u v
  · rw [z1] at v; rw [sb _ (by omega) (by omega) (by omega) (by omega) (by omega) (by omega), hM _ _ (by omega) (by omega) (by omega) (by omega)]; exact cs r u v
  · rw [s2] at v
    by_cases w : p = c
    · subst w
      have gz : ∀ r, 0 ≤ r → r < 12 → sh b' 2248 (130 + 12 * p + r) = 0 := fun r u2 v2 => by
        rw [sb _ (by omega) (by omega) (by omega) (by omega) (by omega) (by omega)]
        exact (gn p r u (by omega) u2 v2).2.2 (Or.inl (by omega))
      rw [sl, sg, sx]
      exact ⟨p3, p4, p5, p6, p7, p8, p9, p10, p11, fun r u2 v2 => by rw [gz r u2 v2]; exact pg r u2 v2, po⟩
    · obtain ⟨q3, q4, q5, q6, q7, q8, q9, q10, q11, qg, qo⟩ := a4 p u (by omega)
      refine ⟨?_, ?_, ?_, ?_, ?_, ?_, ?_, ?_, ?_, fun r u2 v2 => ?_, fun q u2 v2 => ?_⟩
      · rw [sb (106 + p) (by omega) (by omega) (by omega) (by omega) (by omega) (by omega), hM _ _ (by omega) (by omega) (by omega) (by omega)]; exact q3
      · rw [sb (98 + p) (by omega) (by omega) (by omega) (by omega) (by omega) (by omega), hM _ _ (by omega) (by omega) (by omega) (by omega)]; exact q4
      · rw [sb (58 + p) (by omega) (by omega) (by omega) (by omega) (by omega) (by omega), hM _ _ (by omega) (by omega) (by omega) (by omega)]; exact q5
      · rw [hM _ _ (by omega) (by omega) (by omega) (by omega)]; exact q6
      · rw [hM _ _ (by omega) (by omega) (by omega) (by omega)]; exact q7
      · rw [hM _ _ (by omega) (by omega) (by omega) (by omega)]; exact q8
      · rw [hM _ _ (by omega) (by omega) (by omega) (by omega)]; exact q9
      · rw [hM _ _ (by omega) (by omega) (by omega) (by omega)]; exact q10
      · rw [hM _ _ (by omega) (by omega) (by omega) (by omega)]; exact q11
      · rw [sb _ (by omega) (by omega) (by omega) (by omega) (by omega) (by omega), hM _ _ (by omega) (by omega) (by omega) (by omega)]; exact qg r u2 v2
      · rw [hM _ _ (by omega) (by omega) (by omega) (by omega)]; exact qo q u2 v2
  · by_cases w : p = c.toNat
    · subst w
      rw [p3, p4]
      refine ⟨?_, ?_⟩
      · have : l = 0 ∨ l = 1 := by omega
        rcases this with r | r
        · rw [r]; exact Or.inr rfl
        · rw [r]; exact Or.inl rfl
      · have : g = 0 ∨ g = 1 := by omega
        rcases this with r | r
        · rw [r]; exact Or.inl rfl
        · rw [r]; exact Or.inr rfl
    · rw [hM _ _ (by omega) (by omega) (by omega) (by omega), hM _ _ (by omega) (by omega) (by omega) (by omega)]
      exact a5 p u
  · rw [z0] at v; rw [hJ _ _ (by omega) (by omega) (by omega), hW _ (by omega)]; exact a6 k u v
  · rw [s2] at v
    by_cases w : k = c
    · rw [w]; exact hw
    · rw [hJ _ _ (by omega) (by omega) (by omega), hW _ (by omega)]; exact a7 k u (by omega)
  · rw [hR, hM _ _ (by omega) (by omega) (by omega) (by omega)]; exact a8
  · rw [hR, hM _ _ (by omega) (by omega) (by omega) (by omega)]; exact a9
  · rw [hR, hM _ _ (by omega) (by omega) (by omega) (by omega)]; exact a10
