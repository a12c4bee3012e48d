/-! ===== what two owe; where two meet ===== -/
theorem leP {a b : Int} (h : a ≤ b) (h1 : -2147483648 ≤ a) (h2 : b < 2147483648) : zI a ≤ zI b := of_eq_true (zleT h h1 h2)
theorem leN {a b : Int} (h : b < a) (h1 : -2147483648 ≤ b) (h2 : a < 2147483648) : ¬ zI a ≤ zI b := of_eq_false (zleF h h1 h2)
theorem ltP {a b : Int} (h : a < b) (h1 : -2147483648 ≤ a) (h2 : b < 2147483648) : zI a < zI b := of_eq_true (zltT h h1 h2)
theorem ltN {a b : Int} (h : b ≤ a) (h1 : -2147483648 ≤ b) (h2 : a < 2147483648) : ¬ zI a < zI b := of_eq_false (zltF h h1 h2)
theorem eqN {a b : Int} (h : ¬ a = b) (h1 : -2147483648 ≤ a) (h2 : a < 2147483648) (h3 : -2147483648 ≤ b) (h4 : b < 2147483648) : ¬ zI a = zI b := of_eq_false (zeqF h h1 h2 h3 h4)
theorem ixP {a : Int} {n : Nat} (h : 0 ≤ a) (h2 : a < (n : Int)) (h3 : a < 2147483648) : ix (zI a) n := of_eq_true (ixT h h2 h3)
theorem lp336 {b : Int → Int} {bm : Option (Int → Int)} {x : Int} {Ln : Nat} {xs : Nat → Int32} {c4 c5 c6 c7 c8 c9 c10 c12 : Int32} {κ : KM → Option Int32} (hb : WB b) (x1 : 0 ≤ x ∧ x < b 2) :
    ∀ (k n : Nat) (X : KM) (q : Int), SS X b bm → 0 ≤ q → q + k = x → k + 200 ≤ n → ∃ Y, SS Y b bm ∧ lp_L_law_336 n Ln xs 0 228 c4 c5 c6 c7 c8 c9 c10 (zI x) c12 (zI q) X κ = κ Y := by
  have hh := hb.1
  unfold WH at hh
  have hi : b 2 ≤ 8 := by omega
  clear hh
  intro k
  induction k with
  | zero =>
    intro n X q hX q0 hk hn
    obtain ⟨m, rfl⟩ : ∃ m, n = m + 1 := ⟨n - 1, by omega⟩
    refine ⟨X, hX, ?_⟩
    rw [lp_L_law_336]
    simp (disch := first | omega | assumption) only [zleT, if_true]
  | succ k ih =>
    intro n X q hX q0 hk hn
    obtain ⟨m, rfl⟩ : ∃ m, n = m + 1 := ⟨n - 1, by omega⟩
    obtain ⟨X1, e1, s1⟩ := r_owes (b := b) (n := m) (x := x) (y := q) (by omega) (by omega) (by omega) X bm hX
    obtain ⟨X2, e2, s2⟩ := r_owes (b := b) (n := m) (x := q) (y := x) (by omega) (by omega) (by omega) X1 bm s1
    obtain ⟨Y, y1, y2⟩ := ih m X2 (q + 1) s2 (by omega) (by omega) (by omega)
    refine ⟨Y, y1, ?_⟩
    have ow := hb.2.2.2.2.1 x q x1.1 (by omega) q0 (by omega)
    rw [lp_L_law_336]
    generalize b (226 + 8 * x + q) = u at *
    generalize b (226 + 8 * q + x) = v at *
    simp (disch := first | omega | assumption) only [↓lt, ↓reduceIte, zl, zleF, zeqT, zadd, if_true, if_false, e1, e2, Option.bind_some, y2]
theorem mxT_sym {T U : Int → Int} {j : Int} : mxT T U j = mxT U T j := by
  unfold mxT
  by_cases a : T j < U j
  · rw [if_pos a, if_neg (by omega)]
  · by_cases c : U j < T j
    · rw [if_neg a, if_pos c]
    · rw [if_neg a, if_neg c]; omega
theorem mtF_sym {b : Int → Int} {x y : Int} : mtF b y x = mtF b x y := by
  unfold mtF
  refine fI_c _ _ _ (fun j v _ _ => ?_)
  unfold mtS
  rw [mxT_sym (j := j), mxT_sym (j := v)]
theorem soB_r {b : Int → Int} {x y : Int} (hb : WB b) (h5 : b 5 ≤ 99999) (y1 : 0 ≤ y) (y2 : y < 8) : soB b x (-1) y = -1 ∨ (0 ≤ soB b x (-1) y ∧ TT b x (-1) (b (58 + x)) (b 5) y < 1000000000 ∧ soB b x (-1) y = TT b x (-1) (b (58 + x)) (b 5) y - b 5) := by
  have hh := hb.1
  unfold WH at hh
  have S := TT_Slf (b := b) (p := x) (q := -1) (f := b (58 + x)) (s := b 5) hb (by omega) (by omega)
  unfold soB
  by_cases w : TT b x (-1) (b (58 + x)) (b 5) y < 1000000000
  · rw [if_pos w]
    right
    refine ⟨?_, w, rfl⟩
    by_cases e : y = b (58 + x)
    · rw [e, S.1]; omega
    · have := S.2 y y1 y2 e; omega
  · rw [if_neg w]; exact Or.inl rfl
theorem soB_0 {b : Int → Int} {x y : Int} (hb : WB b) (h5 : b 5 ≤ 99999) (y1 : 0 ≤ y) (y2 : y < 8) : soB b x (-1) y = 0 ↔ b (58 + x) = y := by
  have hh := hb.1
  unfold WH at hh
  have S := TT_Slf (b := b) (p := x) (q := -1) (f := b (58 + x)) (s := b 5) hb (by omega) (by omega)
  unfold soB
  constructor
  · intro h
    refine Classical.byContradiction fun e => ?_
    have := S.2 y y1 y2 (fun z => e z.symm)
    by_cases w : TT b x (-1) (b (58 + x)) (b 5) y < 1000000000
    · rw [if_pos w] at h; omega
    · rw [if_neg w] at h; omega
  · intro h
    rw [← h, S.1, if_pos (by omega)]
    omega
theorem soB_b {b : Int → Int} {x y : Int} (hb : WB b) (h0 : b 0 ≤ 4) (h4 : b 1 ≤ 4) (h5 : b 5 ≤ 99999) (y1 : 0 ≤ y) (y2 : y < 8) : soB b x (-1) y ≤ 69120 := by
  have hh := hb.1
  unfold WH at hh
  have e := TT_b (p := x) (q := -1) (f := b (58 + x)) (s := b 5) hb h0 h4 (by omega) (by omega) y y1 y2
  unfold soB
  by_cases w : TT b x (-1) (b (58 + x)) (b 5) y < 1000000000
  · rw [if_pos w]; omega
  · rw [if_neg w]; omega
theorem TT_ge {b : Int → Int} {p q f s j : Int} (hb : WB b) (s1 : 0 ≤ s) (s2 : s ≤ 110000) (j1 : 0 ≤ j) (j2 : j < 8) : s ≤ TT b p q f s j := by
  have S := TT_Slf (b := b) (p := p) (q := q) (f := f) (s := s) hb s1 s2
  by_cases e : j = f
  · rw [e, S.1]; exact Int.le_refl _
  · have := S.2 j j1 j2 e; omega
theorem lp784 {b : Int → Int} {bm : Option (Int → Int)} {x : Int} {Ln : Nat} {xs : Nat → Int32} {c4 c5 c6 c7 c8 c9 c10 : Int32} {κ : KM → Option Int32} (x1 : 0 ≤ x ∧ x < b 2) (hx : b (66 + x) < 0) :
    ∀ (k n : Nat) (X : KM) (q : Int), SS X b bm → 0 ≤ q → q + k = b 2 → k + 500 ≤ n → ∃ Y, SS Y b bm ∧ lp_L_law_784 n Ln xs 0 228 c4 c5 c6 c7 c8 c9 c10 (zI x) (zI q) X κ = κ Y := by
  intro k
  induction k with
  | zero =>
    intro n X q hX q0 hk hn
    obtain ⟨m, rfl⟩ : ∃ m, n = m + 1 := ⟨n - 1, by omega⟩
    have h2 := (SS_h hX).2.2
    have : q = b 2 := by omega
    subst this
    have hh := (SS_WB hX).1.1
    unfold WH at hh
    refine ⟨X, hX, ?_⟩
    rw [lp_L_law_784]
    simp only [zl]
    rw [if_pos (ixP (by omega) (by omega) (by omega)), h2, if_pos (leP (by omega) (by omega) (by omega))]
  | succ k ih =>
    intro n X q hX q0 hk hn
    obtain ⟨m, rfl⟩ : ∃ m, n = m + 1 := ⟨n - 1, by omega⟩
    have h2 := (SS_h hX).2.2
    obtain ⟨hb, h5⟩ := SS_WB hX
    have hh := hb.1
    unfold WH at hh
    have hi : b 2 ≤ 8 ∧ b 0 ≤ 8 ∧ 0 ≤ b 5 := by omega
    clear hh
    obtain ⟨X1, e1, s1⟩ := r_meet (b := b) (n := m) (x := x) (y := q) (by omega) (by omega) (by omega) X bm hX
    by_cases w : x = q ∨ 0 ≤ b (66 + x) ∨ 0 ≤ b (66 + q)
    · rw [if_pos w] at e1
      obtain ⟨Y, y1, y2⟩ := ih m X1 (q + 1) s1 (by omega) (by omega) (by omega)
      refine ⟨Y, y1, ?_⟩
      rw [lp_L_law_784]
      simp only [zl]
      rw [if_pos (ixP (by omega) (by omega) (by omega)), h2, if_neg (leN (by omega) (by omega) (by omega)), e1, Option.bind_some]
      dsimp only [lt]
      rw [if_neg (leN (by omega) (by omega) (by omega)), zadd]
      exact y2
    · rw [if_neg w] at e1
      have hF := mtF_r (b := b) (x := x) (y := q) hb
      rcases hF with hF | hF
      · rw [hF] at e1
        obtain ⟨Y, y1, y2⟩ := ih m X1 (q + 1) s1 (by omega) (by omega) (by omega)
        refine ⟨Y, y1, ?_⟩
        rw [lp_L_law_784]
        simp only [zl]
        rw [if_pos (ixP (by omega) (by omega) (by omega)), h2, if_neg (leN (by omega) (by omega) (by omega)), e1, Option.bind_some]
        dsimp only [lt]
        rw [if_neg (leN (by omega) (by omega) (by omega)), zadd]
        exact y2
      · have z1 := WPb hb x1.1 x1.2
        have z2 := WPb hb q0 (show q < b 2 by omega)
        obtain ⟨X2, e2, s2⟩ := r_soonest (b := b) (n := m) (x := x) (y := mtF b x q) (by omega) (by omega) (by omega) hx X1 bm s1
        obtain ⟨X3, e3, s3⟩ := r_soonest (b := b) (n := m) (x := q) (y := mtF b x q) (by omega) (by omega) (by omega) (by omega) X2 bm s2
        obtain ⟨X4, e4, s4⟩ := r_meetIn (b := b) (n := m) (x := x) (y := q) (by omega) (by omega) (by omega) w (by omega) X3 bm s3
        obtain ⟨X5, e5, s5⟩ := r_meet (b := b) (n := m) (x := q) (y := x) (by omega) (by omega) (by omega) X4 bm s4
        rw [if_neg (by omega), mtF_sym] at e5
        obtain ⟨X6, e6, s6⟩ := r_two (b := b) (n := m) (x := x) (y := q) (z := mtF b x q) (by omega) (by omega) (by omega) (by omega) hx (by omega) (by omega) X5 bm s5
        obtain ⟨Y, y1, y2⟩ := ih m X6 (q + 1) s6 (by omega) (by omega) (by omega)
        refine ⟨Y, y1, ?_⟩
        have r1 := soB_r (x := x) (y := mtF b x q) hb h5 (by omega) (by omega)
        have r2 := soB_r (x := q) (y := mtF b x q) hb h5 (by omega) (by omega)
        have tv1 := TT_v (p := x) (q := -1) (f := b (58 + x)) (s := b 5) (j := mtF b x q) hb (by omega) (by omega) (by omega) (by omega)
        have tv2 := TT_v (p := q) (q := -1) (f := b (58 + q)) (s := b 5) (j := mtF b x q) hb (by omega) (by omega) (by omega) (by omega)
        have tv3 := TT_v (p := x) (q := q) (f := b (58 + x)) (s := b 5) (j := mtF b x q) hb (by omega) (by omega) (by omega) (by omega)
        have g1 := TT_ge (p := x) (q := -1) (f := b (58 + x)) (s := b 5) (j := mtF b x q) hb (by omega) (by omega) (by omega) (by omega)
        have g2 := TT_ge (p := q) (q := -1) (f := b (58 + q)) (s := b 5) (j := mtF b x q) hb (by omega) (by omega) (by omega) (by omega)
        have g3 := TT_ge (p := x) (q := q) (f := b (58 + x)) (s := b 5) (j := mtF b x q) hb (by omega) (by omega) (by omega) (by omega)
        have tw := TT_two (x := x) (y := q) (f := b (58 + x)) (s := b 5) hb z1.1 z1.2.1 (by omega) (by omega) (by omega) (mtF b x q) (by omega) (by omega)
        have so1 : soB b x (-1) (mtF b x q) = if TT b x (-1) (b (58 + x)) (b 5) (mtF b x q) < 1000000000 then TT b x (-1) (b (58 + x)) (b 5) (mtF b x q) - b 5 else -1 := rfl
        have so2 : soB b q (-1) (mtF b x q) = if TT b q (-1) (b (58 + q)) (b 5) (mtF b x q) < 1000000000 then TT b q (-1) (b (58 + q)) (b 5) (mtF b x q) - b 5 else -1 := rfl
        have so3 : soB b x q (mtF b x q) = if TT b x q (b (58 + x)) (b 5) (mtF b x q) < 1000000000 then TT b x q (b (58 + x)) (b 5) (mtF b x q) - b 5 else -1 := rfl
        have em : mxT (TT b x (-1) (b (58 + x)) (b 5)) (TT b q (-1) (b (58 + q)) (b 5)) (mtF b x q) = if TT b x (-1) (b (58 + x)) (b 5) (mtF b x q) < TT b q (-1) (b (58 + q)) (b 5) (mtF b x q) then TT b q (-1) (b (58 + q)) (b 5) (mtF b x q) else TT b x (-1) (b (58 + x)) (b 5) (mtF b x q) := rfl
        have etw : b (58 + x) = b (58 + q) → TT b x q (b (58 + x)) (b 5) (mtF b x q) ≤ TT b x (-1) (b (58 + x)) (b 5) (mtF b x q) ∧ TT b x q (b (58 + x)) (b 5) (mtF b x q) ≤ TT b q (-1) (b (58 + q)) (b 5) (mtF b x q) := fun z => ⟨tw.1, by rw [← z]; exact tw.2⟩
        rw [lp_L_law_784]
        simp only [zl]
        rw [if_pos (ixP (by omega) (by omega) (by omega)), h2, if_neg (leN (by omega) (by omega) (by omega)), e1, Option.bind_some]
        dsimp only [lt]
        rw [if_pos (leP (by omega) (by omega) (by omega)), e2, Option.bind_some]
        dsimp only
        rw [e3, Option.bind_some]
        dsimp only
        generalize mtF b x q = F at *
        generalize mxT (TT b x (-1) (b (58 + x)) (b 5)) (TT b q (-1) (b (58 + q)) (b 5)) F = MX at *
        generalize TT b x (-1) (b (58 + x)) (b 5) F = A at *
        generalize TT b q (-1) (b (58 + q)) (b 5) F = C at *
        generalize TT b x q (b (58 + x)) (b 5) F = D at *
        generalize soB b x (-1) F = a at *
        generalize soB b q (-1) F = c at *
        generalize soB b x q F = t at *
        have hA : A < 1000000000 ∧ C < 1000000000 := by
          by_cases k : A < C
          · rw [if_pos k] at em; omega
          · rw [if_neg k] at em; omega
        rw [if_pos hA.1] at so1
        rw [if_pos hA.2] at so2
        clear tw r1 r2
        have tt : -1 ≤ t ∧ t < 2147483648 := by
          by_cases k : D < 1000000000
          · rw [if_pos k] at so3; omega
          · rw [if_neg k] at so3; omega
        rw [if_neg (ltN (by omega) (by omega) (by omega)), if_neg (ltN (by omega) (by omega) (by omega)), e4, Option.bind_some]
        dsimp only
        by_cases ac : a ≤ c
        · have eM : MX - b 5 = c := by
            by_cases k : A < C
            · rw [if_pos k] at em; omega
            · rw [if_neg k] at em; omega
          rw [if_pos (leP (by omega) (by omega) (by omega)), eM, if_pos rfl, e5, Option.bind_some]
          dsimp only
          rw [if_pos rfl]
          by_cases ef : b (58 + x) = b (58 + q)
          · rw [if_pos ef] at e6
            have l := etw ef
            rw [if_pos (by omega)] at so3
            clear em
            rw [e6, Option.bind_some]
            dsimp only
            by_cases t0 : t < 0
            · rw [if_pos (ltP (by omega) (by omega) (by omega)), zadd]
              exact y2
            · rw [if_neg (ltN (by omega) (by omega) (by omega)), if_neg (ltN (by omega) (by omega) (by omega)), if_pos (leP (by omega) (by omega) (by omega)), zadd]
              exact y2
          · rw [if_neg ef] at e6
            rw [e6, Option.bind_some]
            dsimp only
            rw [if_pos (ltP (by omega) (by omega) (by omega)), zadd]
            exact y2
        · have eM : MX - b 5 = a := by
            by_cases k : A < C
            · rw [if_pos k] at em; omega
            · rw [if_neg k] at em; omega
          rw [if_neg (leN (by omega) (by omega) (by omega)), eM, if_pos rfl, e5, Option.bind_some]
          dsimp only
          rw [if_pos rfl]
          by_cases ef : b (58 + x) = b (58 + q)
          · rw [if_pos ef] at e6
            have l := etw ef
            rw [if_pos (by omega)] at so3
            clear em
            rw [e6, Option.bind_some]
            dsimp only
            by_cases t0 : t < 0
            · rw [if_pos (ltP (by omega) (by omega) (by omega)), zadd]
              exact y2
            · rw [if_neg (ltN (by omega) (by omega) (by omega)), if_neg (ltN (by omega) (by omega) (by omega)), if_pos (leP (by omega) (by omega) (by omega)), zadd]
              exact y2
          · rw [if_neg ef] at e6
            rw [e6, Option.bind_some]
            dsimp only
            rw [if_pos (ltP (by omega) (by omega) (by omega)), zadd]
            exact y2
/-! who is blind and comes to a place is there some time; who is stuck comes nowhere -/
theorem rch_so {b : Int → Int} {x y : Int} (hb : WB b) (hx : b (106 + x) = 1) (x1 : 0 ≤ x ∧ x < b 2) (h5 : b 5 ≤ 99999) (h : itR b x 8 0 (fun i => decide (i = b (58 + x))) y = true) : TT b x (-1) (b (58 + x)) (b 5) y < 1000000000 := by
  have hh := hb.1
  unfold WH at hh
  have hi : 0 ≤ b 1 ∧ b 1 ≤ 12 ∧ 0 ≤ b 5 ∧ b 0 ≤ 8 := by omega
  clear hh
  have ez := WPb hb x1.1 x1.2
  have S := TT_Slf (b := b) (p := x) (q := -1) (f := b (58 + x)) (s := b 5) hb (by omega) (by omega)
  have ok := TT_ok9 (b := b) (p := x) (q := -1) (f := b (58 + x)) (s := b 5) hb (by omega) (by omega)
  have sf : ∀ r f t, Ed b r f t → canN b x r → TT b x (-1) (b (58 + x)) (b 5) f < 1000000000 → TT b x (-1) (b (58 + x)) (b 5) t < 1000000000 := fun r f t he hc hf => by
    have hr := Ed_r hb he
    have s := TT_SF (p := x) (q := -1) (f := b (58 + x)) (s := b 5) hb ez.1 ez.2.1 (by omega) (by omega) he
    have cp := (can_pc (b := b) (p := x) (r := r) (m := b 5) (by omega) (by omega)).mp hc
    have p0 : pcB b x r = 0 := by
      rcases cp with z | z
      · exact z
      · have z1 := z.1
        unfold pcB at z1
        rw [if_pos hx] at z1
        by_cases q : b (46 + r) = 1 ∨ b 7 ≤ b (130 + 12 * x + r)
        · rw [if_pos q] at z1; omega
        · rw [if_neg q] at z1; omega
    have of := ok f hr.1 (by omega)
    have hR := hb.2.1 r he.1 he.2.1
    unfold WR at hR
    rw [a2_1] at s
    unfold aI at s
    rw [p0, dnI_0 (by omega)] at s
    omega
  have st : ∀ r (P : Int → Bool), 0 ≤ r → r < b 1 → (∀ j, P j = true → TT b x (-1) (b (58 + x)) (b 5) j < 1000000000) → ∀ j, stR b x r P j = true → TT b x (-1) (b (58 + x)) (b 5) j < 1000000000 := fun r P r1 r2 hP j hj => by
    by_cases w : joins b x r P
    · rw [stR_t w] at hj
      have hor : TT b x (-1) (b (58 + x)) (b 5) (b (10 + r)) < 1000000000 ∧ TT b x (-1) (b (58 + x)) (b 5) (b (22 + r)) < 1000000000 := by
        by_cases a : P (b (10 + r)) = true
        · exact ⟨hP _ a, sf r _ _ ⟨r1, r2, Or.inl ⟨rfl, rfl⟩⟩ w.1 (hP _ a)⟩
        · have c : P (b (22 + r)) = true := Classical.byContradiction fun z => w.2 ⟨by simpa using a, by simpa using z⟩
          exact ⟨sf r _ _ ⟨r1, r2, Or.inr ⟨rfl, rfl⟩⟩ w.1 (hP _ c), hP _ c⟩
      rcases ad_r hj with e | e | e
      · exact hP j e
      · rw [e]; exact hor.1
      · rw [e]; exact hor.2
    · rw [stR_f w] at hj; exact hP j hj
  have g := fI_ind (f := fun _ P => psR b x P) (V := fun P : Int → Bool => ∀ j, P j = true → TT b x (-1) (b (58 + x)) (b 5) j < 1000000000) (R := 8) (fun i P _ _ hP => fI_ind (f := stR b x) (V := fun P : Int → Bool => ∀ j, P j = true → TT b x (-1) (b (58 + x)) (b 5) j < 1000000000) (R := b 1) (fun r P r1 r2 hP => st r P r1 r2 hP) (b 1).toNat 0 P (by omega) (by omega) hP) 8 0 (fun i => decide (i = b (58 + x))) (by omega) (by omega) (fun j hj => by rw [of_decide_eq_true hj, S.1]; omega)
  exact g y h
theorem stk_1 {b : Int → Int} {x : Int} (hb : WB b) (x1 : 0 ≤ x ∧ x < b 2) (h : lvB b x = -1) : itR b x 8 0 (fun i => decide (i = b (58 + x))) = fun i => decide (i = b (58 + x)) := by
  have hh := hb.1
  unfold WH at hh
  have hf : ∀ r, 0 ≤ r → r < b 1 → ¬ ((b (10 + r) = b (58 + x) ∨ b (22 + r) = b (58 + x)) ∧ canN b x r) := fun r r1 r2 => by
    unfold lvB at h
    rcases fst_r (P := fun r => decide ((b (10 + r) = b (58 + x) ∨ b (22 + r) = b (58 + x)) ∧ canN b x r)) (b 1).toNat 0 (by omega) with ⟨-, e⟩ | ⟨e1, -⟩
    · exact of_decide_eq_false (e r r1 (by omega))
    · omega
  have st : ∀ r, 0 ≤ r → r < b 1 → stR b x r (fun i => decide (i = b (58 + x))) = fun i => decide (i = b (58 + x)) := fun r r1 r2 => by
    refine stR_f fun w => hf r r1 r2 ⟨?_, w.1⟩
    refine Classical.byContradiction fun z => w.2 ⟨decide_eq_false (fun y => z (Or.inl y)), decide_eq_false (fun y => z (Or.inr y))⟩
  have ps : psR b x (fun i => decide (i = b (58 + x))) = fun i => decide (i = b (58 + x)) := by
    unfold psR
    exact fI_ind (f := stR b x) (V := fun P : Int → Bool => P = fun i => decide (i = b (58 + x))) (R := b 1) (fun r P r1 r2 hP => by rw [hP]; exact st r r1 r2) (b 1).toNat 0 _ (by omega) (by omega) rfl
  exact itR_st ps 8 0
theorem cd_is1 {f : Int} (h1 : 0 ≤ f) (h2 : f < 8) : cdB (fun i => decide (i = f)) = 1 := by
  have hf : f = 0 ∨ f = 1 ∨ f = 2 ∨ f = 3 ∨ f = 4 ∨ f = 5 ∨ f = 6 ∨ f = 7 := by omega
  rcases hf with rfl | rfl | rfl | rfl | rfl | rfl | rfl | rfl <;> decide
