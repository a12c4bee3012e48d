/-! ===== one goes to a place by the soonest way ===== -/
theorem cI_k {b : Int → Int} {n q j : Int} (h1 : 0 ≤ q) (h2 : q < 8) (h3 : 5 ≤ j) (h4 : j < 9) : cI b n (58 + 8 * j + q) = b (58 + 8 * j + q) := by
  rw [cI_f h1 h2 (by omega) h4]
  by_cases g : goQ b q
  · by_cases a : arQ b n q
    · rw [cF_ar a, if_neg (by omega), if_neg (by omega), if_neg (by omega), if_neg (by omega), if_neg (by omega)]
    · rw [cF_on g a, if_neg (by omega), if_neg (by omega)]
  · rw [cF_g0 g]
theorem wk_1 {b : Int → Int} {x : Int} (h : b (82 + x) = -1) : wkB b x = x := if_neg (by omega)
theorem pc_cI {d : Int → Int} {x r : Int} (hb : WB d) (x1 : 0 ≤ x) (x2 : x < d 2) (r1 : 0 ≤ r) (r2 : r < d 1) (h : ¬ goQ d x ∨ d (82 + x) = -1) : pcB (cI d 1) x r = pcB d x r := by
  have hh := hb.1
  unfold WH at hh
  have hi : d 2 ≤ 8 ∧ d 1 ≤ 12 ∧ d 7 ≤ 9 := by omega
  clear hh
  have e5 := cI_k (b := d) (n := 1) (q := x) (j := 5) x1 (by omega) (by omega) (by omega)
  have e6 := cI_k (b := d) (n := 1) (q := x) (j := 6) x1 (by omega) (by omega) (by omega)
  rw [show 58 + 8 * 5 + x = 98 + x by omega] at e5
  rw [show 58 + 8 * 6 + x = 106 + x by omega] at e6
  have eg := cI_g (b := d) (n := 1) (q := x) (r := r) x1 (by omega) r1 (by omega)
  unfold pcB
  rw [e5, e6, cI_o (z := 46 + r) (by omega) (by omega), cI_o (z := 7) (by omega) (by omega), cI_o (z := 9) (by omega) (by omega), eg]
  by_cases a : arQ d 1 x ∧ r = d (122 + x)
  · rw [if_pos a]
    obtain ⟨a1, a2⟩ := a
    have e82 : d (82 + x) = -1 := by
      rcases h with h | h
      · exact absurd a1.1 h
      · exact h
    have ez := hb.2.2.1 x x1 x2
    unfold WP at ez
    have g := a1.1
    have k := a1.2
    have hk : ¬ pcQ d x = 2 := fun z => by
      unfold kQ at k
      rw [z, mvI_2] at k
      have := g.2.2
      omega
    unfold pcQ at hk
    rw [wk_1 e82, ← a2] at hk
    unfold pcB at hk
    by_cases w : d (106 + x) = 1
    · rw [if_pos w] at hk
      rw [if_pos w, if_pos w]
      by_cases v : d (46 + r) = 1 ∨ d 7 ≤ d (130 + 12 * x + r)
      · rw [if_pos v]
        refine if_pos ?_
        rcases v with v | v
        · exact Or.inl v
        · right
          unfold mn99
          by_cases u : d (130 + 12 * x + r) + 1 < 99
          · rw [if_pos u]; omega
          · rw [if_neg u]; omega
      · rw [if_neg v] at hk
        exact absurd rfl hk
    · rw [if_neg w, if_neg w]
  · rw [if_neg a]
/-- d is b some minutes later, as far as it is the matter of x -/
def Wk (b d : Int → Int) (x : Int) : Prop := (∀ z, ¬ (58 ≤ z ∧ z < 290) → ¬ z = 5 → d z = b z) ∧ ∀ r, 0 ≤ r → r < b 1 → pcB d x r = pcB b x r
theorem Wk_r {b : Int → Int} {x : Int} : Wk b b x := ⟨fun _ _ _ => rfl, fun _ _ _ => rfl⟩
theorem Wk_Sm {b d : Int → Int} {x : Int} (h1 : b 1 ≤ 12) (h : Wk b d x) : Sm b d x := by
  obtain ⟨e, p⟩ := h
  refine ⟨e _ (by omega) (by omega), e _ (by omega) (by omega), e _ (by omega) (by omega), e _ (by omega) (by omega), fun r r1 r2 => ⟨e _ (by omega) (by omega), e _ (by omega) (by omega), e _ (by omega) (by omega), p r r1 r2⟩⟩
theorem Wk_cI {b d : Int → Int} {x : Int} (hb : WB d) (x1 : 0 ≤ x) (x2 : x < d 2) (h : ¬ goQ d x ∨ d (82 + x) = -1) (w : Wk b d x) : Wk b (cI d 1) x := by
  obtain ⟨e, p⟩ := w
  have e1 := e 1 (by omega) (by omega)
  refine ⟨fun z z1 z2 => by rw [cI_o z1 z2]; exact e z z1 z2, fun r r1 r2 => ?_⟩
  rw [pc_cI hb x1 x2 r1 (by omega) h]
  exact p r r1 r2
theorem Wk_Led {b d e : Int → Int} {x y s t : Int} (hb : WB d) (x1 : 0 ≤ x) (x2 : x < d 2) (l : Led d e y s t) (w : Wk b d x) : Wk b e x := by
  have hh := hb.1
  unfold WH at hh
  obtain ⟨w1, w2⟩ := w
  have e1 := w1 1 (by omega) (by omega)
  have l2 := l.2.1 x x1 x2
  refine ⟨fun z z1 z2 => by rw [l.1 z (by omega)]; exact w1 z z1 z2, fun r r1 r2 => ?_⟩
  rw [← w2 r r1 r2]
  unfold pcB
  rw [l2.2.2.1, l2.2.2.2, l.1 (46 + r) (by omega), l.1 7 (by omega), l.1 9 (by omega), l.1 (130 + 12 * x + r) (by omega)]
theorem UR_c {b d : Int → Int} (h1 : b 1 ≤ 12) (h : ∀ z, ¬ (58 ≤ z ∧ z < 290) → ¬ z = 5 → ¬ z = 9 → d z = b z) (u : UR b) : UR d := by
  have e1 := h 1 (by omega) (by omega) (by omega)
  intro r f t ⟨r1, r2, r3⟩
  rw [h (10 + r) (by omega) (by omega) (by omega), h (22 + r) (by omega) (by omega) (by omega)] at r3
  have := u r f t ⟨r1, by omega, r3⟩
  rw [← this]
  unfold btB rdB
  by_cases e : f = t
  · rw [if_pos e, if_pos e]
  · rw [if_neg e, if_neg e, e1]
    refine fst_c _ _ (fun j j1 j2 => ?_)
    rw [h (10 + j) (by omega) (by omega) (by omega), h (22 + j) (by omega) (by omega) (by omega)]
/-- x stands at a place, on the soonest way to y, there at T -/
def SA (b d : Int → Int) (x y T : Int) : Prop := Wk b d x ∧ d (66 + x) = -1 ∧ TT b x (-1) (d (58 + x)) (d 5) y = T
/-- or is on a road -/
def SB (b d : Int → Int) (x y T : Int) : Prop := Wk b d x ∧ goQ d x ∧ d (82 + x) = -1 ∧ d 5 + dQ d x < 1000000000 ∧ TT b x (-1) (d (66 + x)) (d 5 + dQ d x) y = T
theorem SB_in {b d : Int → Int} {x y T : Int} (hb : WB d) (h5 : d 5 ≤ 100000) (y1 : 0 ≤ y) (y2 : y < 8) (h : SB b d x y T) (hbb : WB b) : d 5 + 1 ≤ d 5 + dQ d x ∧ d 5 + dQ d x ≤ T := by
  have hh := hb.1
  unfold WH at hh
  obtain ⟨w, g, e82, hd, ht⟩ := h
  have ez := hb.2.2.1 x g.1 g.2.1
  unfold WP at ez
  have hp := pcB_r (b := d) (p := wkB d x) (r := d (122 + x))
  have e := dn_at (m := d 5) (k := d (74 + x)) (n := dQ d x) (f := d 3) (t := d 4) (pace := pcQ d x) (by omega) (by omega) (by omega) (by omega) (by omega) (by omega) (by omega) (by omega)
  by_cases q : dQ d x ≤ 900000
  · have e2 := e q hp (Int.le_refl _)
    have e3 : 1 ≤ dQ d x := e2.2
    refine ⟨by omega, ?_⟩
    by_cases q2 : d 5 + dQ d x ≤ 110000
    · have S := TT_Slf (b := b) (p := x) (q := -1) (f := d (66 + x)) (s := d 5 + dQ d x) hbb (by omega) q2
      by_cases q3 : y = d (66 + x)
      · rw [← ht, q3, S.1]; exact Int.le_refl _
      · have := S.2 y y1 y2 q3
        omega
    · exfalso
      have hr := aI_r (p := wkB d x) (r := d (122 + x)) (s := d 5) hb (by omega) (by omega) (by omega) (by omega)
      have hm := dn_at (m := d 5) (k := d (34 + d (122 + x))) (n := 0) (f := d 3) (t := d 4) (pace := pcQ d x) (by omega) (by omega) (by omega) (by omega) (by omega) (by omega)
      have hR := hb.2.1 (d (122 + x)) (by omega) (by omega)
      unfold WR at hR
      have ha : aI d (wkB d x) (d (122 + x)) (d 5) = dnI (d 3) (d 4) (pcQ d x) (d 5) (d (34 + d (122 + x))) := rfl
      have h2 : dnI (d 3) (d 4) (pcQ d x) (d 5) (d (74 + x)) ≤ d 5 + 2880 := by
        have h7 : d 5 + dQ d x = dnI (d 3) (d 4) (pcQ d x) (d 5) (d (74 + x)) := by unfold dQ; omega
        rcases hp with z | z | z
        · rw [show pcQ d x = 0 from z, dnI_0 (by omega)]; omega
        · rw [show pcQ d x = 1 from z] at h7 ⊢
          by_cases w : d 3 = 0 ∧ d 4 = 24
          · rw [w.1, w.2, dnI_F (by omega)] at h7; omega
          · rw [dnI_1 (by omega) w]
            exact (dnC_b (by omega) (by omega) (by omega) (by omega) (by omega) (by omega) (by omega) w).2
        · rw [show pcQ d x = 2 from z, dnI_2] at h7; omega
      unfold dQ at q2
      omega
  · exfalso
    unfold dQ at q hd
    rcases hp with z | z | z
    · rw [show pcQ d x = 0 from z, dnI_0 (by omega)] at q; omega
    · rw [show pcQ d x = 1 from z] at hd q
      by_cases w : d 3 = 0 ∧ d 4 = 24
      · rw [w.1, w.2, dnI_F (by omega)] at hd; omega
      · rw [dnI_1 (by omega) w] at q
        have := (dnC_b (f := d 3) (t := d 4) (s := d 5) (k := d (74 + x)) (by omega) (by omega) (by omega) (by omega) (by omega) (by omega) (by omega) w).2
        omega
    · rw [show pcQ d x = 2 from z, dnI_2] at hd; omega
theorem SB_step {b d : Int → Int} {x y T : Int} (hb : WB d) (h5 : d 5 ≤ 100000) (y1 : 0 ≤ y) (y2 : y < 8) (hbb : WB b) (h : SB b d x y T) : SA b (cI d 1) x y T ∨ SB b (cI d 1) x y T := by
  have hi := SB_in hb h5 y1 y2 h hbb
  have hh := hb.1
  unfold WH at hh
  have hw : 0 ≤ d 3 ∧ d 3 ≤ 23 ∧ d 3 < d 4 ∧ d 4 ≤ 24 ∧ 0 ≤ d 5 ∧ d 2 ≤ 8 := by omega
  clear hh
  obtain ⟨w, g, e82, hd, ht⟩ := h
  have wc := Wk_cI hb g.1 g.2.1 (Or.inr e82) w
  have hdc := d_c (n := 1) hb (by omega) (by omega) g
  by_cases a : arQ d 1 x
  · left
    have f0 := cI_f (b := d) (n := 1) (q := x) (j := 0) g.1 (by omega) (by omega) (by omega)
    have f1 := cI_f (b := d) (n := 1) (q := x) (j := 1) g.1 (by omega) (by omega) (by omega)
    rw [cF_ar a, if_pos rfl, show 58 + 8 * 0 + x = 58 + x by omega] at f0
    rw [cF_ar a, if_neg (by omega), if_pos rfl, show 58 + 8 * 1 + x = 66 + x by omega] at f1
    refine ⟨wc, f1, ?_⟩
    have := hdc.mpr a
    rw [f0, cI_5, show d 5 + 1 = d 5 + dQ d x by omega]
    exact ht
  · right
    obtain ⟨o0, o1, o2, o3, -⟩ := cI_on (by omega) g a
    have e2 : cI d 1 2 = d 2 := cI_o (by omega) (by omega)
    have e3 : cI d 1 3 = d 3 := cI_o (by omega) (by omega)
    have e4 : cI d 1 4 = d 4 := cI_o (by omega) (by omega)
    have e8 := cI_8 (b := d) (n := 1) (q := x) g.1 (by omega)
    have ez := hb.2.2.1 x g.1 g.2.1
    unfold WP at ez
    have g66 := g.2.2
    have ep : pcQ (cI d 1) x = pcQ d x := by
      unfold pcQ
      rw [wk_1 (o3.trans e82), wk_1 e82, e8]
      exact pc_cI hb g.1 g.2.1 (by omega) (by omega) (Or.inr e82)
    have eD : cI d 1 5 + dQ (cI d 1) x = d 5 + dQ d x := by
      have en := dn_next (f := d 3) (t := d 4) (pc := pcQ d x) (s := d 5) (k := d (74 + x)) hw.1 hw.2.1 hw.2.2.1 hw.2.2.2.1 hw.2.2.2.2.1 (by omega) (pcB_r (b := d) (p := wkB d x) (r := d (122 + x)))
      unfold dQ
      rw [e3, e4, ep, o2, cI_5]
      unfold kQ
      rw [en]
      omega
    refine ⟨wc, ⟨g.1, by rw [e2]; exact g.2.1, by rw [o1]; exact g66⟩, o3.trans e82, by rw [eD]; exact hd, ?_⟩
    rw [o1, eD]
    exact ht
theorem SA_fi {b d : Int → Int} {x y T : Int} (hb : WB d) (h5 : d 5 ≤ 100000) (hu : UR d) (h1 : b 1 ≤ 12) (x1 : 0 ≤ x ∧ x < d 2) (y1 : 0 ≤ y ∧ y < d 0) (h : SA b d x y T) (ny : ¬ y = d (58 + x)) (hT : T < 1000000000) : TT d x (-1) (d (58 + x)) (d 5) y < 1000000000 ∧ 0 ≤ fiB d x y ∧ fiB d x y < d 0 ∧ 0 ≤ btB d (d (58 + x)) (fiB d x y) ∧ aI d x (btB d (d (58 + x)) (fiB d x y)) (d 5) < 1000000000 ∧ TT b x (-1) (fiB d x y) (aI d x (btB d (d (58 + x)) (fiB d x y)) (d 5)) y = T := by
  obtain ⟨w, e66, ht⟩ := h
  have c := Wk_Sm h1 w
  have t0 : TT d x (-1) (d (58 + x)) (d 5) y = T := by rw [TT_c c]; exact ht
  obtain ⟨f1, f2, f3, f4, f5⟩ := fi_ok hb hu h5 x1 y1 ny (by omega)
  refine ⟨by omega, f1, f2, f3, f4, ?_⟩
  rw [← TT_c c, f5]
  exact t0
theorem SA_go {b d e : Int → Int} {x y T : Int} (hb : WB d) (h5 : d 5 ≤ 100000) (hu : UR d) (h1 : b 1 ≤ 12) (x1 : 0 ≤ x ∧ x < d 2) (y1 : 0 ≤ y ∧ y < d 0) (h : SA b d x y T) (ny : ¬ y = d (58 + x)) (hT : T < 1000000000) (l : Led d e x 0 (fiB d x y)) : SB b e x y T := by
  obtain ⟨-, f1, f2, f3, f4, f5⟩ := SA_fi hb h5 hu h1 x1 y1 h ny hT
  have hh := hb.1
  unfold WH at hh
  obtain ⟨w, e66, ht⟩ := h
  have we := Wk_Led hb x1.1 x1.2 l w
  have br := btB_r (b := d) (x := d (58 + x)) (y := fiB d x y) (by omega)
  obtain ⟨l66, l74, l82, -, l122⟩ := l.2.2.1 x x1.1 x1.2 (Or.inl rfl)
  rw [if_pos rfl] at l82
  have hp : pcB e x (goR d x (fiB d x y)) = pcB d x (goR d x (fiB d x y)) := by
    have w1 := w.1 1 (by omega) (by omega)
    rw [we.2 _ f3 (by omega), w.2 _ f3 (by omega)]
  have eD : e 5 + dQ e x = aI d x (btB d (d (58 + x)) (fiB d x y)) (d 5) := by
    unfold dQ pcQ
    rw [wk_1 l82, l122, hp, l74, l.1 3 (by omega), l.1 4 (by omega), l.1 5 (by omega)]
    exact (show ∀ a c : Int, a + (c - a) = c by omega) _ _
  refine ⟨we, ⟨x1.1, by rw [l.1 2 (by omega)]; exact x1.2, by rw [l66]; exact f1⟩, l82, by rw [eD]; exact f4, ?_⟩
  rw [eD, l66]
  exact f5
theorem SA_wait {b d : Int → Int} {x y T : Int} (hb : WB d) (h5 : d 5 ≤ 90000) (hu : UR d) (h1 : b 1 ≤ 12) (x1 : 0 ≤ x ∧ x < d 2) (y1 : 0 ≤ y ∧ y < d 0) (h : SA b d x y T) (ny : ¬ y = d (58 + x)) (hT : T < 1000000000) (nc : ¬ canN d x (btB d (d (58 + x)) (fiB d x y))) : SA b (cI d 1) x y T := by
  obtain ⟨-, f1, f2, f3, f4, f5⟩ := SA_fi hb (by omega) hu h1 x1 y1 h ny hT
  have hh := hb.1
  unfold WH at hh
  have hw : 0 ≤ d 3 ∧ d 3 ≤ 23 ∧ d 3 < d 4 ∧ d 4 ≤ 24 ∧ 0 ≤ d 5 ∧ d 2 ≤ 8 ∧ d 0 ≤ 8 := by omega
  clear hh
  obtain ⟨w, e66, ht⟩ := h
  have ez := WPb hb x1.1 x1.2
  have ng : ¬ goQ d x := fun z => by have := z.2.2; omega
  have wc := Wk_cI hb x1.1 x1.2 (Or.inl ng) w
  have f0 := cI_f (b := d) (n := 1) (q := x) (j := 0) x1.1 (by omega) (by omega) (by omega)
  have g1 := cI_f (b := d) (n := 1) (q := x) (j := 1) x1.1 (by omega) (by omega) (by omega)
  rw [cF_g0 ng, show 58 + 8 * 0 + x = 58 + x by omega] at f0
  rw [cF_g0 ng, show 58 + 8 * 1 + x = 66 + x by omega] at g1
  refine ⟨wc, g1.trans e66, ?_⟩
  have cp := can_pc (b := d) (p := x) (r := btB d (d (58 + x)) (fiB d x y)) (m := d 5) (by omega) (by omega)
  have n0 := fun z => nc (cp.mpr z)
  have p2 : ¬ pcB d x (btB d (d (58 + x)) (fiB d x y)) = 2 := fun z => by
    unfold aI at f4
    rw [z, dnI_2] at f4
    omega
  have p1 : pcB d x (btB d (d (58 + x)) (fiB d x y)) = 1 := by
    rcases pcB_r (b := d) (p := x) (r := btB d (d (58 + x)) (fiB d x y)) with z | z | z
    · exact absurd (Or.inl z) n0
    · exact z
    · exact absurd z p2
  have gl : glH (d 3) (d 4) (d 5) := Classical.byContradiction fun z => n0 (Or.inr ⟨p1, z⟩)
  have pa : ∀ r, pcB d x r = 1 := fun r => by
    unfold pcB at p1 ⊢
    by_cases u : d (106 + x) = 1
    · rw [if_pos u] at p1
      by_cases v : d (46 + btB d (d (58 + x)) (fiB d x y)) = 1 ∨ d 7 ≤ d (130 + 12 * x + btB d (d (58 + x)) (fiB d x y))
      · rw [if_pos v] at p1; omega
      · rw [if_neg v] at p1; omega
    · rw [if_neg u] at p1 ⊢
      exact p1
  have tw := TT_wait (p := x) (f := d (58 + x)) (s := d 5) hb ez.1 ez.2.1 hw.2.2.2.2.1 (by omega) (fun r r1 r2 => by
    unfold aI
    rw [pa r]
    exact (dn_wait hw.1 hw.2.1 hw.2.2.1 hw.2.2.2.1 hw.2.2.2.2.1 (by omega) gl).symm) y y1.1 (by omega) ny
  have c := Wk_Sm h1 w
  rw [f0, cI_5, ← TT_c c, tw, TT_c c]
  exact ht
