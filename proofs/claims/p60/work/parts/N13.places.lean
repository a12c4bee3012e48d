/-! ===== the loop over the places ===== -/
theorem ex_k {Q : KM → Prop} {κ K : KM → Option Int32} {B : (KM → Option Int32) → Option Int32} (h1 : ∀ Z, Q Z → ∃ Y, Q Y ∧ K Z = κ Y) (h2 : ∀ K' : KM → Option Int32, (∀ Z, Q Z → ∃ Y, Q Y ∧ K' Z = κ Y) → ∃ Y, Q Y ∧ B K' = κ Y) : ∃ Y, Q Y ∧ lt K B = κ Y := h2 K h1
theorem lt_if {α : Type} {K : Int32 → α} {c : Prop} [Decidable c] {a d : Int32} : lt K (fun j => if c then j a else j d) = K (if c then a else d) := by
  show (if c then K a else K d) = K (if c then a else d)
  by_cases h : c
  · rw [if_pos h, if_pos h]
  · rw [if_neg h, if_neg h]
theorem b01 {p q : Prop} [Decidable p] [Decidable q] (h : p ↔ q) : (if p then zI 1 else zI 0) = (if q then zI 1 else zI 0) := by
  by_cases w : p
  · rw [if_pos w, if_pos (h.mp w)]
  · rw [if_neg w, if_neg (fun z => w (h.mpr z))]
theorem z_iff {a c : Int} (h1 : -2147483648 ≤ a) (h2 : a < 2147483648) (h3 : -2147483648 ≤ c) (h4 : c < 2147483648) : (zI a = zI c) ↔ a = c := by rw [zeq h1 h2 h3 h4]
theorem lp414 {b : Int → Int} {x : Int} {Ln : Nat} {xs : Nat → Int32} {c4 c5 c6 c7 c9 c10 : Int32} {κ : KM → Option Int32} (hu : UR b) (b0 : b 0 ≤ 4) (b1 : b 1 ≤ 4) (b5 : b 5 ≤ 3000) (x1 : 0 ≤ x ∧ x < b 2) (hx : b (66 + x) < 0) :
    ∀ (k n : Nat) (X : KM) (w : Int), SS X b none → 0 ≤ w → w + k = b 0 → k + 80000 ≤ n → ∃ Y, SS Y b none ∧ lp_L_law_414 n Ln xs 0 228 c4 c5 c6 c7 (setB (fun q => decide (b (106 + q) = 1)) (b 2)) c9 c10 (zI x) (setB (itR b x 8 0 (fun i => decide (i = b (58 + x)))) 8) (zI w) X κ = κ Y := by
  intro k
  induction k with
  | zero =>
    intro n X w hX w0 hk hn
    obtain ⟨m, rfl⟩ : ∃ m, n = m + 1 := ⟨n - 1, by omega⟩
    have h0 := (SS_h hX).1
    have : w = b 0 := by omega
    subst this
    have hh := (SS_WB hX).1.1
    unfold WH at hh
    refine ⟨X, hX, ?_⟩
    rw [lp_L_law_414]
    simp only [zl]
    rw [if_pos (ixP (by omega) (by omega) (by omega)), h0, if_pos (leP (by omega) (by omega) (by omega))]
  | succ k ih =>
    intro n X w hX w0 hk hn
    obtain ⟨m, rfl⟩ : ∃ m, n = m + 1 := ⟨n - 1, by omega⟩
    have h0 := (SS_h hX).1
    obtain ⟨hb, h5⟩ := SS_WB hX
    have hh := hb.1
    unfold WH at hh
    have hi : b 2 ≤ 8 ∧ b 0 ≤ 8 ∧ 0 ≤ b 5 ∧ 0 ≤ b 2 ∧ 0 ≤ b 1 := by omega
    clear hh
    have ez := WPb hb x1.1 x1.2
    obtain ⟨X1, e1, s1⟩ := r_soonest (b := b) (n := m) (x := x) (y := w) (by omega) x1 (by omega) hx X none hX
    have r1 := soB_r (x := x) (y := w) hb h5 w0 (by omega)
    have r2 := soB_0 (x := x) (y := w) hb h5 w0 (by omega)
    have r3 := soB_b (x := x) (y := w) hb b0 b1 h5 w0 (by omega)
    have rs := rch_so (x := x) (y := w) hb
    have eb := setBk_01 (P := itR b x 8 0 (fun i => decide (i = b (58 + x)))) (k := 8) (q := w) (by omega) (by omega) w0 (by omega)
    have ec := setBk_01 (P := fun q => decide (b (106 + q) = 1)) (k := b 2) (q := x) hi.2.2.2.1 hi.1 x1.1 x1.2
    simp only [zl] at eb ec
    rw [lp_L_law_414]
    simp only [zl]
    rw [if_pos (ixP (by omega) (by omega) (by omega)), h0, if_neg (leN (by omega) (by omega) (by omega)), e1, Option.bind_some]
    dsimp only
    refine ex_k (Q := fun Y => SS Y b none) ?_ ?_
    · intro Z hZ
      obtain ⟨Z1, f1, t1⟩ := (r_person (b := b) (n := m) (x := x) (by omega) x1).1 Z none hZ
      rw [if_neg (by omega)] at f1
      simp only [zl] at f1
      obtain ⟨Z2, f2, t2⟩ := r_plantSet (b := b) (n := m) (x := x) (y := w) (by omega) x1 (by omega) hx Z1 none t1
      rw [lt_if, f1, Option.bind_some]
      dsimp only
      rw [lt_if]
      rw [if_pos (b01 (by rw [z_iff (by omega) (by omega) (by omega) (by omega), z_iff (by omega) (by omega) (by omega) (by omega)]; exact r2)), f2, Option.bind_some]
      dsimp only
      refine ex_k (Q := fun Y => SS Y b none) ?_ ?_
      · intro V hV
        refine ex_k (Q := fun Y => SS Y b none) ?_ ?_
        · intro W hW
          dsimp only [lt]
          rw [zadd]
          exact ih m W (w + 1) hW (by omega) (by omega) (by omega)
        · intro K hK
          by_cases sp : 0 < soB b x (-1) w
          · rw [if_pos (ltP (by omega) (by omega) (by omega))]
            obtain ⟨V1, g1, u1⟩ := SS_mark (n := m) hV (by omega)
            rw [g1, Option.bind_some]
            dsimp only
            rw [if_pos rfl]
            have hT : TT b x (-1) (b (58 + x)) (b 5) w = b 5 + soB b x (-1) w := by omega
            obtain ⟨V2, e, u2, w2, g2⟩ := lp661 (b := b) (bm := some b) (x := x) (y := w) (T := b 5 + soB b x (-1) w) (soon := soB b x (-1) w) (Ln := Ln) (xs := xs) (c4 := c4) (c5 := c5) (c6 := c6) (c7 := c7) (c8 := setB (fun q => decide (b (106 + q) = 1)) (b 2)) (c9 := c9) (c10 := c10) (c15 := setB (itR b x 8 0 (fun i => decide (i = b (58 + x)))) 8) (κ := fun (u60 : Int32) (M61 : KM) => (
                        if u60 = zI (soB b x (-1) w) then
                          (f_X11_back m 0 M61).bind fun (v62 : (Int32 × KM)) =>
                          if v62.1 = zI 0 then
                            K v62.2
                          else
                            some (zI 0)
                        else
                          some (zI 0))) hb hu x1 (by omega) rfl (by omega) (soB b x (-1) w).toNat m V1 b 0 u1 (Or.inl ⟨Wk_r, by omega, hT⟩) (by omega) (by omega) (by omega) (by omega)
            rw [g2]
            obtain ⟨V3, g3, u3⟩ := SS_back (n := m) u2 (w2.1 0 (by omega) (by omega)).symm (w2.1 1 (by omega) (by omega)).symm (w2.1 2 (by omega) (by omega)).symm (by omega)
            rw [if_pos rfl, g3, Option.bind_some]
            dsimp only
            rw [if_pos rfl]
            exact hK V3 u3
          · rw [if_neg (ltN (by omega) (by omega) (by omega))]
            exact hK V hV
      · intro K hK
        by_cases hbl : b (106 + x) = 1
        · rw [if_pos hbl]
          have hpt : ptB b x w < 4096 ∧ -1 ≤ ptB b x w := by
            rcases plant_eq hb hbl x1.1 x1.2 w0 (show w < 8 by omega) with ⟨e, -⟩ | ⟨e0, e2, -⟩
            · omega
            · omega
          by_cases hp : 0 ≤ ptB b x w
          · rw [if_neg (ltN (by omega) (by omega) (by omega))]
            obtain ⟨V1, u1, g1⟩ := lp518 (b := b) (x := x) (y := w) (Ln := Ln) (xs := xs) (c4 := c4) (c5 := c5) (c6 := c6) (c7 := c7) (c8 := setB (fun q => decide (b (106 + q) = 1)) (b 2)) (c9 := c9) (c10 := c10) (c15 := setB (itR b x 8 0 (fun i => decide (i = b (58 + x)))) 8) (c17 := zI (soB b x (-1) w)) (κ := K) hb hbl x1 hx w0 (by omega) hp (b 1 + 1).toNat m Z2 (-1) t2 (by omega) (by omega) (by omega)
            obtain ⟨Y, q1, q2⟩ := hK V1 u1
            exact ⟨Y, q1, g1.trans q2⟩
          · rw [if_pos (ltP (by omega) (by omega) (by omega))]
            exact hK Z2 t2
        · rw [if_neg hbl, if_pos (ltP (by omega) (by omega) (by omega))]
          exact hK Z2 t2
    · intro K hK
      rw [eb]
      by_cases hr : itR b x 8 0 (fun i => decide (i = b (58 + x))) w = true
      · rw [if_pos hr, if_pos rfl]
        by_cases s0 : 0 ≤ soB b x (-1) w
        · rw [if_pos (leP (by omega) (by omega) (by omega))]
          exact hK X1 s1
        · rw [if_neg (leN (by omega) (by omega) (by omega))]
          have hnb : ¬ b (106 + x) = 1 := fun z => by
            have := rs z x1 h5 hr
            unfold soB at s0
            rw [if_pos this] at s0
            have := TT_ge (p := x) (q := -1) (f := b (58 + x)) (s := b 5) (j := w) hb (by omega) (by omega) w0 (by omega)
            omega
          obtain ⟨X2, e2, s2⟩ := (r_many (b := b) (n := m) (by omega)).2.2.1 X1 none s1
          simp only [zl] at e2
          rw [e2, Option.bind_some]
          dsimp only
          by_cases gl : bI (glB b (b 5)) = zI 0
          · rw [if_neg (show ¬ decide (b (106 + x) = 1) = true by rw [decide_eq_false hnb]; exact Bool.false_ne_true)] at ec
            rw [if_pos gl, ec, if_neg (show ¬ zI 0 = zI 1 by decide)]
            exact hK X2 s2
          · rw [if_neg gl]; exact hK X2 s2
      · rw [if_neg hr, if_neg (show ¬ zI 0 = zI 1 by decide)]
        exact hK X1 s1
