/-! ===== the loop in which one goes there ===== -/
theorem led_goal {b e : Int → Int} {x s t : Int} (x1 : 0 ≤ x ∧ x < b 2) (l : Led b e x s t) : e (66 + x) = t := (l.2.2.1 x x1.1 x1.2 (Or.inl rfl)).1
theorem aS_nn {b : Int → Int} {n : Int} : zI 0 ≤ aS b n := setB_nn.1
theorem lp661 {b : Int → Int} {bm : Option (Int → Int)} {x y T soon : Int} {Ln : Nat} {xs : Nat → Int32} {c4 c5 c6 c7 c8 c9 c10 c15 : Int32} {κ : Int32 → KM → Option Int32} (hbb : WB b) (hu : UR b) (x1 : 0 ≤ x ∧ x < b 2) (y1 : 0 ≤ y ∧ y < b 0) (hT : T = b 5 + soon) (hs : 0 ≤ soon ∧ b 5 + soon ≤ 80000) :
    ∀ (k n : Nat) (X : KM) (d : Int → Int) (u : Int), SS X d bm → (SA b d x y T ∨ SB b d x y T) → d 5 = b 5 + u → 0 ≤ u → u + k = soon → k + 500 ≤ n → ∃ Y e, SS Y e bm ∧ Wk b e x ∧ lp_L_law_661 n Ln xs 0 228 c4 c5 c6 c7 c8 c9 c10 (zI x) c15 (zI y) (zI soon) (zI u) X κ = κ (zI soon) Y := by
  have hh := hbb.1
  unfold WH at hh
  have hi : 0 ≤ b 5 ∧ b 1 ≤ 12 ∧ b 0 ≤ 8 ∧ b 2 ≤ 8 ∧ 0 ≤ b 1 := by omega
  clear hh
  intro k
  induction k with
  | zero =>
    intro n X d u hX hS e5 u0 hk hn
    obtain ⟨m, rfl⟩ : ∃ m, n = m + 1 := ⟨n - 1, by omega⟩
    obtain ⟨hb, h5⟩ := SS_WB hX
    have hA : SA b d x y T := by
      rcases hS with h | h
      · exact h
      · have := SB_in hb (by omega) y1.1 (by omega) h hbb; omega
    obtain ⟨w, e66, ht⟩ := hA
    have w0 : d 0 = b 0 := w.1 0 (by omega) (by omega)
    have w2 : d 2 = b 2 := w.1 2 (by omega) (by omega)
    have ez := WPb hb x1.1 (by omega : x < d 2)
    have S := TT_Slf (b := b) (p := x) (q := -1) (f := d (58 + x)) (s := d 5) hbb (by omega) (by omega)
    have ey : y = d (58 + x) := Classical.byContradiction fun z => by
      have := S.2 y y1.1 (by omega) z
      omega
    obtain ⟨Y, e1, s1⟩ := (r_person (n := m) (x := x) (by omega) (by omega)).1 X bm hX
    rw [if_neg (by omega)] at e1
    simp only [zl] at e1
    refine ⟨Y, d, s1, w, ?_⟩
    rw [lp_L_law_661]
    simp (disch := first | omega | assumption) only [↓lt, zl, zltF, if_false, e1, Option.bind_some, ey]
    rw [if_pos trivial, show u = soon by omega]
  | succ k ih =>
    intro n X d u hX hS e5 u0 hk hn
    obtain ⟨m, rfl⟩ : ∃ m, n = m + 1 := ⟨n - 1, by omega⟩
    obtain ⟨hb, h5⟩ := SS_WB hX
    have pas : ∀ (Z : KM) (e : Int → Int), SS Z e bm → e 5 = d 5 → (SA b (cI e 1) x y T ∨ SB b (cI e 1) x y T) → ∃ Y f, SS Y f bm ∧ Wk b f x ∧ (match (f_X11_passes m 0 (zI 1) Z) with | none => none | some v => if zI 0 ≤ v.1 then lp_L_law_661 m Ln xs 0 228 c4 c5 c6 c7 c8 c9 c10 (zI x) c15 (zI y) (zI soon) (zI (u + 1)) v.2 κ else some (zI 0)) = κ (zI soon) Y := by
      intro Z e hZ he hq
      obtain ⟨Y, e1, s1⟩ := s_passes (x := 1) (n := m) hZ (by omega) (by omega) (by omega)
      obtain ⟨Y2, f, s2, w2, e2⟩ := ih m Y (cI e 1) (u + 1) s1 hq (by rw [cI_5]; omega) (by omega) (by omega) (by omega)
      refine ⟨Y2, f, s2, w2, ?_⟩
      rw [e1]
      show (if zI 0 ≤ aS e 1 then _ else _) = _
      rw [if_pos aS_nn]
      exact e2
    have w : Wk b d x := by
      rcases hS with h | h
      · exact h.1
      · exact h.1
    have w0 : d 0 = b 0 := w.1 0 (by omega) (by omega)
    have w1 : d 1 = b 1 := w.1 1 (by omega) (by omega)
    have w2 : d 2 = b 2 := w.1 2 (by omega) (by omega)
    have ez := WPb hb x1.1 (by omega : x < d 2)
    have hud : UR d := UR_c hi.2.1 (fun z z1 z2 _ => w.1 z z1 z2) hu
    obtain ⟨X1, e1, s1⟩ := (r_person (n := m) (x := x) (by omega) (by omega)).1 X bm hX
    obtain ⟨X2, e2, s2⟩ := (r_person (n := m) (x := x) (by omega) (by omega)).1 X1 bm s1
    simp only [zl] at e1 e2
    rcases hS with hA | hB
    · have e66 := hA.2.1
      rw [if_neg (by omega)] at e1 e2
      have S := TT_Slf (b := b) (p := x) (q := -1) (f := d (58 + x)) (s := d 5) hbb (by omega) (by omega)
      have ny : ¬ y = d (58 + x) := fun z => by
        have := hA.2.2
        rw [z, S.1] at this
        omega
      obtain ⟨t1, f1, f2, f3, f4, f5⟩ := SA_fi hb (by omega) hud hi.2.1 (by omega) (by omega) hA ny (by omega)
      have br := btB_r (b := d) (x := d (58 + x)) (y := fiB d x y) (by omega)
      obtain ⟨X3, e3, s3⟩ := r_first (n := m) (x := x) (y := y) (by omega) (by omega) (by omega) (by omega) (by omega) t1 X2 bm s2
      obtain ⟨X4, e4, s4⟩ := (r_person (n := m) (x := x) (by omega) (by omega)).1 X3 bm s3
      rw [if_neg (by omega)] at e4
      obtain ⟨X5, e5', s5⟩ := r_roadOf (n := m) (b := d) (x := d (58 + x)) (y := fiB d x y) (by omega) (by omega) (by omega) (by omega) X4 bm s4
      obtain ⟨X6, e6, s6⟩ := r_can (n := m) (b := d) (x := x) (y := btB d (d (58 + x)) (fiB d x y)) (by omega) (by omega) (by omega) X5 bm s5
      simp only [zl] at e3 e4 e5' e6
      have h8 : d 0 ≤ 8 := by omega
      by_cases c : canN d x (btB d (d (58 + x)) (fiB d x y))
      · obtain ⟨X7, e7, s7, l⟩ := s_go_T (n := m) (x := x) (y := fiB d x y) s6 (by omega) (by omega) (by omega) ⟨by omega, f3, c⟩
        have hg := SA_go hb (by omega) hud hi.2.1 (by omega) (by omega) hA ny (by omega) l
        obtain ⟨hb7, -⟩ := SS_WB s7
        have l5 : ouB d x 0 (fiB d x y) 5 = d 5 := l.1 5 (by omega)
        have hst := SB_step hb7 (by omega) y1.1 (by omega) hbb hg
        obtain ⟨Y, f, q1, q2, q3⟩ := pas X7 _ s7 l5 hst
        refine ⟨Y, f, q1, q2, ?_⟩
        rw [← q3]
        rw [bIT c] at e6
        have hR := hb.2.1 _ f3 br.2
        unfold WR at hR
        have g34 : 0 ≤ d (34 + goR d x (fiB d x y)) ∧ d (34 + goR d x (fiB d x y)) ≤ 99 := ⟨by have := hR.2.2.2.2.2.1; exact Int.le_trans (by decide) this, hR.2.2.2.2.2.2.1⟩
        rw [lp_L_law_661]
        generalize d (34 + goR d x (fiB d x y)) = V at *
        generalize fiB d x y = F at *
        generalize btB d (d (58 + x)) F = R at *
        clear hR t1 f4 f5 hst hg l
        simp (disch := first | omega | assumption) only [↓lt, zl, zltF, zltT, zleT, zeqF, zeqT, zadd, if_false, if_true, e1, e2, e3, e4, e5', e6, e7, Option.bind_some]
        cases f_X11_passes m 0 (zI 1) X7 with
        | none => rfl
        | some v => rfl
      · have hwt := SA_wait hb (by omega) hud hi.2.1 (by omega) (by omega) hA ny (by omega) c
        obtain ⟨Y, f, q1, q2, q3⟩ := pas X6 _ s6 rfl (Or.inl hwt)
        refine ⟨Y, f, q1, q2, ?_⟩
        rw [← q3]
        rw [bIF c] at e6
        rw [lp_L_law_661]
        generalize fiB d x y = F at *
        generalize btB d (d (58 + x)) F = R at *
        clear t1 f4 f5 hwt
        simp (disch := first | omega | assumption) only [↓lt, zl, zltF, zltT, zleT, zeqF, zeqT, zadd, if_false, if_true, e1, e2, e3, e4, e5', e6, Option.bind_some]
        cases f_X11_passes m 0 (zI 1) X6 with
        | none => rfl
        | some v => rfl
    · have g66 := hB.2.1.2.2
      rw [if_pos g66] at e1 e2
      have hst := SB_step hb (by omega) y1.1 (by omega) hbb hB
      obtain ⟨Y, f, q1, q2, q3⟩ := pas X2 _ s2 rfl hst
      refine ⟨Y, f, q1, q2, ?_⟩
      rw [← q3]
      rw [lp_L_law_661]
      simp (disch := first | omega | assumption) only [↓lt, zl, zltF, zltT, zleT, zeqF, zeqT, zadd, if_false, if_true, e1, e2, Option.bind_some]
      cases f_X11_passes m 0 (zI 1) X2 with
      | none => rfl
      | some v => rfl
