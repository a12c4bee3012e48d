/-! ===== the law's draws: people; all ===== -/
theorem dr149 {M : KM} {c2 : Int32} {Ln : Nat} {xs : Nat → Int32} {κ : KM → Option KM} (hLn : Ln ≤ 260) : ∀ (k n : Nat) (w : Int) (h : Int → Int), RD h w (w + 1) → 0 ≤ w → w + k = h 0 → k + 10 < n → ∃ h', (RD h' 10 0) ∧ lp_L_draw_149 n Ln xs 228 c2 (zI w) (hs M h) κ = κ (hs M h') := by
  intro k
  induction k with
  | zero =>
    intro n w h hr w0 hk hn
    obtain ⟨m, rfl⟩ : ∃ m, n = m + 1 := ⟨n - 1, by omega⟩
    have h01 := hr.1
    unfold D1 at h01
    have : w = h 0 := by omega
    subst this
    refine ⟨h, RD_up hr (by omega), ?_⟩
    rw [lp_L_draw_149]
    simp only [zl]
    rw [if_pos (ixP (by omega) (by omega) (by omega)), hs_h (by omega) (by omega), if_pos (leP (by omega) (by omega) (by omega))]
  | succ k ih =>
    intro n w h hr w0 hk hn
    obtain ⟨m, rfl⟩ : ∃ m, n = m + 1 := ⟨n - 1, by omega⟩
    have h01 := hr.1
    unfold D1 at h01
    obtain ⟨h', ⟨q1, q2⟩, q3⟩ := dr161 (M := M) (c2 := c2) (a := w) (xs := xs) (κ := fun (M56 : KM) => (
          lt (zI (w + 1)) fun (v57 : Int32) =>
          lp_L_draw_149 m Ln xs 228 c2 v57 M56 κ
        )) hLn w0 k m (w + 1) h hr (by omega) (by omega) (by omega)
    obtain ⟨h2, q4, q5⟩ := ih m (w + 1) h' (RD_up q1 (by omega)) (by omega) (by omega) (by omega)
    refine ⟨h2, q4, ?_⟩
    rw [lp_L_draw_149]
    simp only [zl]
    rw [if_pos (ixP (by omega) (by omega) (by omega)), hs_h (j := 0) (by omega) (by omega), if_neg (leN (by omega) (by omega) (by omega)), lt_hd, zadd]
    rw [q3, lt_hd]
    exact q5
def PQ (h : Int → Int) (p w : Int) : Prop := ∀ r, 0 ≤ r → r < w → h (37 + 4 * p + r) = 0 ∨ (r < h 1 ∧ h (37 + 4 * p + r) = h 7)
theorem dr415 {M : KM} {c2 D : Int32} {p : Int} {Ln : Nat} {xs : Nat → Int32} {κ : KM → Option KM} (p0 : 0 ≤ p) (p4 : p < 4) : ∀ (k n : Nat) (w : Int) (h : Int → Int), PQ h p w → 0 ≤ h 1 → h 1 ≤ 4 → 0 ≤ w → w + k = 4 → k < n → ∃ h', (PQ h' p 4 ∧ ∀ z, ¬ (37 + 4 * p ≤ z ∧ z < 41 + 4 * p) → h' z = h z) ∧ lp_L_draw_415 n Ln xs 228 c2 (zI p) D (zI w) (hs M h) κ = κ (hs M h') := by
  intro k
  induction k with
  | zero =>
    intro n w h hr h10 h14 w0 hk hn
    obtain ⟨m, rfl⟩ : ∃ m, n = m + 1 := ⟨n - 1, by omega⟩
    have : w = 4 := by omega
    subst this
    refine ⟨h, ⟨hr, fun _ _ => rfl⟩, ?_⟩
    rw [lp_L_draw_415]
    simp only [zl]
    rw [if_pos (leP (by omega) (by omega) (by omega))]
  | succ k ih =>
    intro n w h hr h10 h14 w0 hk hn
    obtain ⟨m, rfl⟩ : ∃ m, n = m + 1 := ⟨n - 1, by omega⟩
    have nx : ∀ v : Int, (v = 0 ∨ (w < h 1 ∧ v = h 7)) → ∃ h', (PQ h' p 4 ∧ ∀ z, ¬ (37 + 4 * p ≤ z ∧ z < 41 + 4 * p) → h' z = h z) ∧ lp_L_draw_415 m Ln xs 228 c2 (zI p) D (zI (w + 1)) (hs M (bu h (37 + 4 * p + w) v)) κ = κ (hs M h') := fun v hv => by
      have e1 : bu h (37 + 4 * p + w) v 1 = h 1 := bu_o (by omega)
      have e7 : bu h (37 + 4 * p + w) v 7 = h 7 := bu_o (by omega)
      obtain ⟨h', ⟨q1, q2⟩, q3⟩ := ih m (w + 1) (bu h (37 + 4 * p + w) v) (fun r r1 r2 => by
        rw [e1, e7]
        by_cases e : r = w
        · rw [e, bu_s]; exact hv
        · rw [bu_o (by omega)]; exact hr r r1 (by omega)) (by omega) (by omega) (by omega) (by omega) (by omega)
      exact ⟨h', ⟨q1, fun z hz => (q2 z hz).trans (bu_o (by omega))⟩, q3⟩
    rw [lp_L_draw_415]
    simp only [zl]
    rw [if_neg (leN (by omega) (by omega) (by omega)), if_pos (ixP (by omega) (by omega) (by omega)), hs_h (j := 1) (by omega) (by omega)]
    by_cases q1 : h 1 ≤ w
    · simp (disch := first | omega | assumption) only [↓lt, ↓reduceIte, ixT, hs_h, hs_u, bu_o, bu_s, zadd, zmul, if_true, if_false, zeqF, zeqT, zleT]
      exact nx 0 (Or.inl rfl)
    · by_cases q2 : D >>> (zI (w + 4) &&& zI 31) &&& zI 3 = zI 2
      · simp (disch := first | omega | assumption) only [↓lt, ↓reduceIte, ixT, hs_h, hs_u, bu_o, bu_s, zadd, zmul, if_true, if_false, zeqF, zeqT, zleF, q2]
        exact nx (h 7) (Or.inr ⟨by omega, rfl⟩)
      · simp (disch := first | omega | assumption) only [↓lt, ↓reduceIte, ixT, hs_h, hs_u, bu_o, bu_s, zadd, zmul, if_true, if_false, zeqF, zeqT, zleF, q2]
        exact nx 0 (Or.inl rfl)
def PD (h : Int → Int) (p : Int) : Prop := RD h 10 0 ∧ ∀ q, 0 ≤ q → q < p → 0 ≤ h (25 + q) ∧ h (25 + q) < h 0 ∧ 0 ≤ h (33 + q) ∧ h (33 + q) ≤ 1 ∧ 0 ≤ h (29 + q) ∧ h (29 + q) ≤ 1 ∧ (h (29 + q) = 1 → h (33 + q) = 0) ∧ PQ h q 4
theorem RD_25 {h h' : Int → Int} {a w : Int} (e : ∀ z, 0 ≤ z → z < 25 → h' z = h z) (hr : RD h a w) : RD h' a w := by
  obtain ⟨h1, h2, h3, h4, h5⟩ := hr
  have e1 := e 1 (by omega) (by omega)
  have ek : ∀ r, 0 ≤ r → r < h 1 → key h' r = key h r := fun r r1 r2 => by
    unfold key
    rw [e (9 + r) (by omega) (by omega), e (13 + r) (by omega) (by omega)]
  refine ⟨?_, by omega, by omega, fun r r1 r2 => ?_, fun r q r1 r2 q2 => ?_⟩
  · unfold D1 at h1 ⊢
    rw [e 0 (by omega) (by omega), e 2 (by omega) (by omega), e 3 (by omega) (by omega), e 4 (by omega) (by omega), e 5 (by omega) (by omega), e 6 (by omega) (by omega), e 7 (by omega) (by omega), e 8 (by omega) (by omega)]
    exact h1
  · rw [ek r r1 (by omega), e (9 + r) (by omega) (by omega), e (13 + r) (by omega) (by omega), e (17 + r) (by omega) (by omega), e (21 + r) (by omega) (by omega), e 0 (by omega) (by omega)]
    exact h4 r r1 (by omega)
  · rw [ek r r1 (by omega), ek q (by omega) (by omega)]
    exact h5 r q r1 r2 (by omega)
theorem ex_h2 {P : (Int → Int) → Prop} {M : KM} {K : Int32 → Option KM} {B : (Int32 → Option KM) → Option KM} (h1 : ∀ D, ∃ h', P h' ∧ K D = some (hs M h')) (h2 : ∀ K' : Int32 → Option KM, (∀ D, ∃ h', P h' ∧ K' D = some (hs M h')) → ∃ h', P h' ∧ B K' = some (hs M h')) : ∃ h', P h' ∧ lt K B = some (hs M h') := h2 K h1
theorem dr324 {M : KM} {c2 : Int32} {Ln : Nat} {xs : Nat → Int32} (hLn : Ln ≤ 260) : ∀ (k n : Nat) (w : Int) (h : Int → Int), PD h w → 0 ≤ w → w + k = 4 → k + 10 < n → ∃ h', PD h' 4 ∧ lp_L_draw_324 n Ln xs 228 c2 (zI w) (hs M h) = some (hs M h') := by
  intro k
  induction k with
  | zero =>
    intro n w h hr w0 hk hn
    obtain ⟨m, rfl⟩ : ∃ m, n = m + 1 := ⟨n - 1, by omega⟩
    have : w = 4 := by omega
    subst this
    refine ⟨h, hr, ?_⟩
    rw [lp_L_draw_324]
    simp only [zl]
    rw [if_pos (leP (by omega) (by omega) (by omega))]
  | succ k ih =>
    intro n w h hr w0 hk hn
    obtain ⟨m, rfl⟩ : ∃ m, n = m + 1 := ⟨n - 1, by omega⟩
    have h01 := hr.1.1
    unfold D1 at h01
    have h11 := hr.1.2.1
    have h14 := hr.1.2.2.1
    rw [lp_L_draw_324]
    simp only [zl]
    rw [if_neg (leN (by omega) (by omega) (by omega))]
    refine ex_h2 (fun D => ?_) (fun K hK => ?_)
    · obtain ⟨v, v0, v1, ev⟩ := and_lo D (m := zI 3) 2 rfl
      obtain ⟨u, u0, u1, eu⟩ := and_lo (D >>> (zI 2 &&& zI 31)) (m := zI 1) 1 rfl
      have y1 := Int.emod_nonneg v (show h 0 ≠ 0 by omega)
      have y2 := Int.emod_lt_of_pos v (show 0 < h 0 by omega)
      have er := rem_z (a := v) (d := h 0) v0 (by omega) (by omega) (by omega)
      have nx : ∀ g : Int, 0 ≤ g → g ≤ 1 → (g = 1 → u = 0) → ∃ h', PD h' 4 ∧ lp_L_draw_415 m Ln xs 228 c2 (zI w) D (zI 0) (hs M (bu (bu (bu h (25 + w) (v % h 0)) (33 + w) u) (29 + w) g)) (fun (M80 : KM) => lp_L_draw_324 m Ln xs 228 c2 (zI (w + 1)) M80) = some (hs M h') := fun g g0 g1 gu => by
        have o : ∀ z, ¬ z = 25 + w → ¬ z = 33 + w → ¬ z = 29 + w → bu (bu (bu h (25 + w) (v % h 0)) (33 + w) u) (29 + w) g z = h z := fun z z1 z2 z3 => by rw [bu_o z3, bu_o z2, bu_o z1]
        have a1 : bu (bu (bu h (25 + w) (v % h 0)) (33 + w) u) (29 + w) g (25 + w) = v % h 0 := by rw [bu_o (by omega), bu_o (by omega), bu_s]
        have a2 : bu (bu (bu h (25 + w) (v % h 0)) (33 + w) u) (29 + w) g (33 + w) = u := by rw [bu_o (by omega), bu_s]
        have a3 : bu (bu (bu h (25 + w) (v % h 0)) (33 + w) u) (29 + w) g (29 + w) = g := bu_s
        generalize bu (bu (bu h (25 + w) (v % h 0)) (33 + w) u) (29 + w) g = d at *
        have o1 := o 1 (by omega) (by omega) (by omega)
        have o7 := o 7 (by omega) (by omega) (by omega)
        have o0 := o 0 (by omega) (by omega) (by omega)
        obtain ⟨h', ⟨q1, q2⟩, q3⟩ := dr415 (M := M) (c2 := c2) (D := D) (p := w) (Ln := Ln) (xs := xs) (κ := fun (M80 : KM) => lp_L_draw_324 m Ln xs 228 c2 (zI (w + 1)) M80) w0 (by omega) 4 m 0 d (fun r r1 r2 => by omega) (by omega) (by omega) (by omega) (by omega) (by omega)
        have p0 := q2 0 (by omega)
        have p1 := q2 1 (by omega)
        have p7 := q2 7 (by omega)
        obtain ⟨h2, q4, q5⟩ := ih m (w + 1) h' ⟨RD_25 (fun z z0 z1 => (q2 z (by omega)).trans (o z (by omega) (by omega) (by omega))) hr.1, fun q r1 r2 => by
          by_cases e : q = w
          · subst e
            rw [q2 (25 + q) (by omega), q2 (33 + q) (by omega), q2 (29 + q) (by omega), p0, a1, a2, a3, o0]
            exact ⟨y1, y2, by omega, by omega, g0, g1, gu, q1⟩
          · have := hr.2 q r1 (by omega)
            rw [q2 (25 + q) (by omega), q2 (33 + q) (by omega), q2 (29 + q) (by omega), p0, o0, o (25 + q) (by omega) (by omega) (by omega), o (33 + q) (by omega) (by omega) (by omega), o (29 + q) (by omega) (by omega) (by omega)]
            refine ⟨this.1, this.2.1, this.2.2.1, this.2.2.2.1, this.2.2.2.2.1, this.2.2.2.2.2.1, this.2.2.2.2.2.2.1, fun r r3 r4 => ?_⟩
            rw [q2 (37 + 4 * q + r) (by omega), o (37 + 4 * q + r) (by omega) (by omega) (by omega), p1, o1, p7, o7]
            exact this.2.2.2.2.2.2.2 r r3 r4⟩ (by omega) (by omega) (by omega)
        refine ⟨h2, q4, ?_⟩
        rw [q3]
        exact q5
      by_cases d3 : (D >>> (zI 3 &&& zI 31)) &&& zI 3 = zI 1
      · by_cases z : u = 0
        · simp (disch := first | omega | assumption) only [↓lt, ↓reduceIte, ixT, hs_h, hs_u, bu_o, bu_s, zadd, zmul, if_true, if_false, zeqF, zeqT, ev, eu, er, d3, z, not_false_eq_true]
          have := nx 1 (by omega) (by omega) (fun _ => z)
          rw [z] at this
          exact this
        · simp (disch := first | omega | assumption) only [↓lt, ↓reduceIte, ixT, hs_h, hs_u, bu_o, bu_s, zadd, zmul, if_true, if_false, zeqF, zeqT, ev, eu, er, d3, not_false_eq_true]
          exact nx 0 (by omega) (by omega) (by omega)
      · by_cases z : u = 0
        · simp (disch := first | omega | assumption) only [↓lt, ↓reduceIte, ixT, hs_h, hs_u, bu_o, bu_s, zadd, zmul, if_true, if_false, zeqF, zeqT, ev, eu, er, d3, z, not_false_eq_true]
          have := nx 0 (by omega) (by omega) (by omega)
          rw [z] at this
          exact this
        · simp (disch := first | omega | assumption) only [↓lt, ↓reduceIte, ixT, hs_h, hs_u, bu_o, bu_s, zadd, zmul, if_true, if_false, zeqF, zeqT, ev, eu, er, d3, not_false_eq_true]
          exact nx 0 (by omega) (by omega) (by omega)
    · rw [zadd, nI_z]
      by_cases q : (Ln : Int) ≤ w + 2
      · rw [if_pos (leP q (by omega) (by omega))]; exact hK _
      · rw [if_neg (leN (by omega) (by omega) (by omega)), if_pos (ixP (by omega) (by omega) (by omega))]; exact hK _
theorem rem_z2 {a d : Int} (h1 : 0 ≤ a) (h2 : a < 2147483648) (h3 : 0 < d) (h4 : d < 2147483648) : zI (a - a / d * d) = zI (a % d) := by
  rw [← rem_z h1 h2 h3 h4, zdiv h1 h2 h3 h4, zmul, zsub]
def dr0 (h : Int → Int) (x0 x2 x3 x4 x5 x6 x7 x8 : Int) : Int → Int := bu (bu (bu (bu (bu (bu (bu (bu (bu h 0 x0) 2 x2) 3 x3) 4 x4) 5 x5) 6 x6) 7 x7) 8 x8) 1 0
theorem dr0_v {h : Int → Int} {x0 x2 x3 x4 x5 x6 x7 x8 : Int} : dr0 h x0 x2 x3 x4 x5 x6 x7 x8 0 = x0 ∧ dr0 h x0 x2 x3 x4 x5 x6 x7 x8 2 = x2 ∧ dr0 h x0 x2 x3 x4 x5 x6 x7 x8 3 = x3 ∧ dr0 h x0 x2 x3 x4 x5 x6 x7 x8 4 = x4 ∧ dr0 h x0 x2 x3 x4 x5 x6 x7 x8 5 = x5 ∧ dr0 h x0 x2 x3 x4 x5 x6 x7 x8 6 = x6 ∧ dr0 h x0 x2 x3 x4 x5 x6 x7 x8 7 = x7 ∧ dr0 h x0 x2 x3 x4 x5 x6 x7 x8 8 = x8 ∧ dr0 h x0 x2 x3 x4 x5 x6 x7 x8 1 = 0 := ⟨rfl, rfl, rfl, rfl, rfl, rfl, rfl, rfl, rfl⟩
theorem dr_nx {M : KM} {c : Int32} {Ln : Nat} {xs : Nat → Int32} {n : Nat} (hLn : Ln ≤ 260) (hn : 100 ≤ n) (h : Int → Int) {x0 x2 x3 x4 x5 x6 x7 x8 : Int} (e : 1 ≤ x0 ∧ x0 ≤ 4 ∧ 0 ≤ x2 ∧ x2 ≤ 4 ∧ 0 ≤ x3 ∧ x3 ≤ 23 ∧ x3 < x4 ∧ x4 ≤ 24 ∧ 0 ≤ x5 ∧ x5 ≤ 1439 ∧ 1 ≤ x6 ∧ x6 ≤ 4 ∧ 1 ≤ x7 ∧ x7 ≤ 4 ∧ 0 ≤ x8 ∧ x8 ≤ 16) : ∃ h', PD h' 4 ∧ lp_L_draw_149 n Ln xs 228 c (zI 0) (hs M (dr0 h x0 x2 x3 x4 x5 x6 x7 x8)) (fun (M59 : KM) => (
          lp_L_draw_324 n Ln xs 228 c (zI 0) M59
        )) = some (hs M h') := by
  obtain ⟨f0, f2, f3, f4, f5, f6, f7, f8, f1⟩ := dr0_v (h := h) (x0 := x0) (x2 := x2) (x3 := x3) (x4 := x4) (x5 := x5) (x6 := x6) (x7 := x7) (x8 := x8)
  generalize dr0 h x0 x2 x3 x4 x5 x6 x7 x8 = d at *
  have hd : D1 d := by
    unfold D1
    rw [f0, f2, f3, f4, f5, f6, f7, f8]
    exact e
  obtain ⟨h', q1, q2⟩ := dr149 (M := M) (c2 := c) (xs := xs) (κ := fun (M59 : KM) => (
          lp_L_draw_324 n Ln xs 228 c (zI 0) M59
        )) hLn (d 0).toNat n 0 d ⟨hd, by omega, by omega, fun r r1 r2 => by omega, fun r q r1 r2 q2 => by omega⟩ (by omega) (by omega) (by omega)
  obtain ⟨h2, q3, q4⟩ := dr324 (M := M) (c2 := c) (xs := xs) hLn 4 n 0 h' ⟨q1, fun q r1 r2 => by omega⟩ (by omega) (by omega) (by omega)
  exact ⟨h2, q3, q2.trans q4⟩
theorem dr_vals (c : Int32) : ∃ v0 v2 v3 v4 v5 v6 v7 v8 : Int, (0 ≤ v0 ∧ v0 ≤ 3 ∧ 0 ≤ v2 ∧ v2 ≤ 4 ∧ 0 ≤ v3 ∧ v3 ≤ 23 ∧ 0 ≤ v4 ∧ v4 ≤ 7 ∧ 0 ≤ v5 ∧ v5 ≤ 127 ∧ 0 ≤ v6 ∧ v6 ≤ 3 ∧ 0 ≤ v7 ∧ v7 ≤ 3 ∧ 0 ≤ v8 ∧ v8 ≤ 16) ∧ c &&& zI 3 = zI v0 ∧ ((c >>> (zI 2 &&& zI 31) &&& zI 7) - (c >>> (zI 2 &&& zI 31) &&& zI 7) / zI 5 * zI 5) = zI v2 ∧ ((c >>> (zI 1 &&& zI 31) &&& zI 31) - (c >>> (zI 1 &&& zI 31) &&& zI 31) / zI 24 * zI 24) = zI v3 ∧ c >>> (zI 5 &&& zI 31) &&& zI 7 = zI v4 ∧ c >>> (zI 3 &&& zI 31) &&& (127 : Int32) = zI v5 ∧ c >>> (zI 4 &&& zI 31) &&& zI 3 = zI v6 ∧ c >>> (zI 6 &&& zI 31) &&& zI 3 = zI v7 ∧ ((c >>> (zI 2 &&& zI 31) &&& zI 31) - (c >>> (zI 2 &&& zI 31) &&& zI 31) / zI 17 * zI 17) = zI v8 := by
  obtain ⟨v0, a0, b0, e0⟩ := and_lo c (m := zI 3) 2 rfl
  obtain ⟨v2, a2, b2, e2⟩ := and_lo (c >>> (zI 2 &&& zI 31)) (m := zI 7) 3 rfl
  obtain ⟨v3, a3, b3, e3⟩ := and_lo (c >>> (zI 1 &&& zI 31)) (m := zI 31) 5 rfl
  obtain ⟨v4, a4, b4, e4⟩ := and_lo (c >>> (zI 5 &&& zI 31)) (m := zI 7) 3 rfl
  obtain ⟨v5, a5, b5, e5⟩ := and_lo (c >>> (zI 3 &&& zI 31)) (m := (127 : Int32)) 7 rfl
  obtain ⟨v6, a6, b6, e6⟩ := and_lo (c >>> (zI 4 &&& zI 31)) (m := zI 3) 2 rfl
  obtain ⟨v7, a7, b7, e7⟩ := and_lo (c >>> (zI 6 &&& zI 31)) (m := zI 3) 2 rfl
  obtain ⟨v8, a8, b8, e8⟩ := and_lo (c >>> (zI 2 &&& zI 31)) (m := zI 31) 5 rfl
  refine ⟨v0, v2 % 5, v3 % 24, v4, v5, v6, v7, v8 % 17, by omega, e0, ?_, ?_, e4, e5, e6, e7, ?_⟩
  · rw [e2]; exact rem_z a2 (by omega) (by omega) (by omega)
  · rw [e3]; exact rem_z a3 (by omega) (by omega) (by omega)
  · rw [e8]; exact rem_z a8 (by omega) (by omega) (by omega)
theorem rem_1440 {a : Int} (h1 : 0 ≤ a) (h2 : a ≤ 10000) : zI a - zI a / zI 1440 * zI 1440 = zI (a % 1440) := rem_z h1 (by omega) (by omega) (by omega)
theorem c_draw {M : KM} {Ln : Nat} {xs : Nat → Int32} {n : Nat} (hLn : Ln ≤ 260) (hn : 100 ≤ n) (h : Int → Int) : ∃ h', PD h' 4 ∧ f_L_draw Ln xs n 228 (hs M h) = some (hs M h') := by
  unfold f_L_draw
  simp only [zl]
  refine ex_h2 (fun c => ?_) (fun K hK => ?_)
  · obtain ⟨v0, v2, v3, v4, v5, v6, v7, v8, vr, e0, e2, e3, e4, e5, e6, e7, e8⟩ := dr_vals c
    have r5 := rem_1440 (a := 60 * v3 + 1440 - v5) (by omega) (by omega)
    have nx := fun v (w1 : v3 < v) (w2 : v ≤ 24) => dr_nx (M := M) (c := c) (xs := xs) hLn hn h (x0 := 1 + v0) (x2 := v2) (x3 := v3) (x4 := v) (x5 := (60 * v3 + 1440 - v5) % 1440) (x6 := 1 + v6) (x7 := 1 + v7) (x8 := v8) (by omega)
    rw [e0, e2, e3, e4, e5, e6, e7, e8]
    rw [if_pos (ixP (by omega) (by omega) (by omega)), zadd, hs_u (by omega) (by omega), lt_hd]
    rw [if_pos (ixP (by omega) (by omega) (by omega)), hs_u (by omega) (by omega), lt_hd]
    rw [if_pos (ixP (by omega) (by omega) (by omega)), hs_u (by omega) (by omega), lt_hd]
    rw [if_pos (ixP (by omega) (by omega) (by omega)), hs_h (by omega) (by omega), bu_s, zadd v3 1, zadd (v3 + 1) v4]
    have fin : ∀ v, v3 < v → v ≤ 24 → ∃ h', PD h' 4 ∧ (fun (x9 : Int32) => (
      if ix (zI 4) 53 then
      lt (uI (hs M (bu (bu (bu h 0 (1 + v0)) 2 v2) 3 v3)) 228 ((zI 4)).toNatClampNeg x9) fun (M11 : KM) =>
      if ix (zI 3) 53 then
      if ix (zI 5) 53 then
      lt (uI M11 228 ((zI 5)).toNatClampNeg ((((zI 60 * (M11.1 228 ((zI 3)).toNatClampNeg)) + zI 1440) - zI v5) - (((zI 60 * (M11.1 228 ((zI 3)).toNatClampNeg)) + zI 1440) - zI v5) / zI 1440 * zI 1440)) fun (M14 : KM) =>
      if ix (zI 6) 53 then
      lt (uI M14 228 ((zI 6)).toNatClampNeg (zI 1 + zI v6)) fun (M16 : KM) =>
      if ix (zI 7) 53 then
      lt (uI M16 228 ((zI 7)).toNatClampNeg (zI 1 + zI v7)) fun (M18 : KM) =>
      if ix (zI 8) 53 then
      lt (uI M18 228 ((zI 8)).toNatClampNeg (zI v8)) fun (M20 : KM) =>
      if ix (zI 1) 53 then
      lt (uI M20 228 ((zI 1)).toNatClampNeg (zI 0)) fun (M22 : KM) =>
      lp_L_draw_149 n Ln xs 228 c (zI 0) M22
        (fun (M59 : KM) => (
          lp_L_draw_324 n Ln xs 228 c (zI 0) M59
        ))
      else none
      else none
      else none
      else none
      else none
      else none
      else none
    ) : Int32 → Option KM) (zI v) = some (hs M h') := fun v w1 w2 => by
      dsimp only
      rw [if_pos (ixP (by omega) (by omega) (by omega)), hs_u (by omega) (by omega), lt_hd]
      rw [if_pos (ixP (by omega) (by omega) (by omega)), if_pos (ixP (by omega) (by omega) (by omega)), hs_h (by omega) (by omega), bu_o (by omega), bu_s, zmul, zadd, zsub, r5, hs_u (by omega) (by omega), lt_hd]
      rw [if_pos (ixP (by omega) (by omega) (by omega)), zadd, hs_u (by omega) (by omega), lt_hd]
      rw [if_pos (ixP (by omega) (by omega) (by omega)), zadd, hs_u (by omega) (by omega), lt_hd]
      rw [if_pos (ixP (by omega) (by omega) (by omega)), hs_u (by omega) (by omega), lt_hd]
      rw [if_pos (ixP (by omega) (by omega) (by omega)), hs_u (by omega) (by omega), lt_hd]
      exact nx v w1 w2
    rw [lt_hd]
    by_cases q : v3 + 1 + v4 ≤ 24
    · rw [if_pos (leP q (by omega) (by omega)), if_pos (ixP (by omega) (by omega) (by omega))]
      exact fin (v3 + 1 + v4) (by omega) q
    · rw [if_neg (leN (by omega) (by omega) (by omega))]
      exact fin 24 (by omega) (by omega)
  · rw [nI_z]
    by_cases q : (Ln : Int) = 0
    · rw [if_pos (by rw [q])]; exact hK _
    · rw [if_neg (eqN q (by omega) (by omega) (by omega) (by omega)), if_pos (ixP (by omega) (by omega) (by omega))]; exact hK _
