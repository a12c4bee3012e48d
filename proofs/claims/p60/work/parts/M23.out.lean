/-! ===== go and lead, closed ===== -/
theorem go_r {b : Int → Int} {p to : Int} (hb : WB b) (h : stOK b p to) : 0 ≤ goR b p to ∧ goR b p to < b 1 ∧ 1 ≤ b (34 + goR b p to) ∧ b (34 + goR b p to) ≤ 99 ∧ ¬ b (58 + p) = to := by
  have hh := hb.1
  unfold WH at hh
  have hr := btB_r (b := b) (x := b (58 + p)) (y := to) (by omega)
  have h2 := h.2.1
  have e := hb.2.1 (goR b p to) h2 hr.2
  unfold WR at e
  refine ⟨h2, hr.2, by omega, by omega, fun q => ?_⟩
  have h3 : 0 ≤ btB b (b (58 + p)) to := h2
  unfold btB at h3
  rw [if_pos q] at h3
  omega
theorem out_WP {b b' : Int → Int} {p s to q : Int} (hb : WB b) (ht : Led b b' p s to) (hst : stOK b p to) (h0 : 0 ≤ to) (h3 : to < b 0) (hp1 : 0 ≤ p) (hp2 : p < b 2) (h1 : 0 ≤ q) (h2 : q < b 2) : WP b' q := by
  have e := hb.2.2.1 q h1 h2
  have hgo := go_r hb hst
  have hh := hb.1
  unfold WH at hh
  have hi : 0 ≤ b 2 ∧ b 2 ≤ 8 ∧ b 1 ≤ 12 := by omega
  clear hh hb hst
  obtain ⟨t1, t0, t2, t3⟩ := ht
  obtain ⟨s1, s2, s3, s4⟩ := t0 q h1 h2
  unfold WP at e ⊢
  rw [s1, s2, s3, s4, t1 0 (by omega), t1 1 (by omega), t1 2 (by omega), t1 5 (by omega)]
  obtain ⟨a1, a2, a3, a4, a5, a6, a7, a8, a9, a10, a11, a12, a13, a14, a15⟩ := e
  by_cases t : q = p ∨ hasS s q = true
  · obtain ⟨u1, u2, u3, u4, u5⟩ := t2 q h1 h2 t
    rw [u1, u2, u4, u5, t1 (34 + goR b p to) (by omega)]
    have u3' : b' (82 + q) = -1 ∨ b' (82 + q) = p := by
      by_cases w : q = p
      · left; rw [u3, if_pos w]
      · right; rw [u3, if_neg w]
    clear u3 t t1 t2 t3
    omega
  · obtain ⟨u1, u2, u3, u4, u5⟩ := t3 q h1 h2 t
    rw [u1, u2, u3, u4, u5]
    refine ⟨a1, a2, a3, a4, a5, a6, a7, a8, a9, a10, a11, a12, a13, a14, ?_⟩
    rcases a15 with d | ⟨d1, d2, d3, d4⟩
    · exact Or.inl d
    · right
      rw [t1 (34 + b (122 + q)) (by omega)]
      exact ⟨d1, d2, d3, d4⟩
theorem out_WL {b b' : Int → Int} {p s to q : Int} (hb : WB b) (ht : Led b b' p s to) (hst : stOK b p to) (ha : awB b p s = -1) (h0 : 0 ≤ to) (hp1 : 0 ≤ p) (hp2 : p < b 2) (h1 : 0 ≤ q) (h2 : q < b 2) : WL b' q := by
  have e3 := hb.2.2.2.2.2 q h1 h2
  have e2 := WPb hb h1 h2
  have hh := hb.1
  unfold WH at hh
  have hi : 0 ≤ b 2 ∧ b 2 ≤ 8 := by omega
  have hpg : b (66 + p) < 0 := hst.1
  have aw := fun q h1 h2 hs => aw_all (b := b) (p := p) (s := s) ha (q := q) h1 h2 hs
  clear hh hb
  obtain ⟨t1, t0, t2, t3⟩ := ht
  unfold WL at e3 ⊢
  by_cases t : q = p ∨ hasS s q = true
  · obtain ⟨u1, u2, u3, u4, u5⟩ := t2 q h1 h2 t
    by_cases w : q = p
    · left; rw [u3, if_pos w]
    · right
      rw [if_neg w] at u3
      have hs : hasS s q = true := t.resolve_left w
      obtain ⟨v1, v2, v3, v4, v5⟩ := t2 p hp1 hp2 (Or.inl rfl)
      rw [if_pos rfl] at v3
      rw [u3, u1, u2, u4, u5, v1, v2, v3, v4, v5]
      exact ⟨fun z => w z.symm, h0, rfl, rfl, rfl, rfl, (aw q h1 h2 hs).2.symm⟩
  · obtain ⟨u1, u2, u3, u4, u5⟩ := t3 q h1 h2 t
    rw [u3]
    by_cases w : b (82 + q) = -1
    · exact Or.inl w
    rcases e3 with e3 | e3
    · exact Or.inl e3
    · right
      have hn : ¬ (b (82 + q) = p ∨ hasS s (b (82 + q)) = true) := by
        intro z
        rcases z with z | z
        · rw [z] at e3; omega
        · have := aw (b (82 + q)) (by omega) (by omega) z
          omega
      obtain ⟨v1, v2, v3, v4, v5⟩ := t3 (b (82 + q)) (by omega) (by omega) hn
      rw [u1, u2, u4, u5, v1, v2, v3, v4, v5]
      exact e3
theorem out_GP {b b' : Int → Int} {g g' : Int → Int → Int → Int} {p s to q : Int} (ht : Led b b' p s to) (h0 : 0 ≤ to) (hp1 : 0 ≤ p) (h1 : 0 ≤ q) (h2 : q < b 2) (hg' : ∀ j l, g' q j l = if q = p then lvG (goR b p to) to (b (34 + goR b p to)) (-1) g q q j l else if hasS s q = true then lvG (goR b p to) to (b (34 + goR b p to)) p g q q j l else g q j l) (hat : (q = p ∨ hasS s q = true) → b (66 + q) < 0) (e : GP g b q) : GP g' b' q := by
  obtain ⟨t1, t0, t2, t3⟩ := ht
  obtain ⟨s1, s2, s3, s4⟩ := t0 q h1 h2
  unfold GP at e ⊢
  rw [s1, s2, s3, s4]
  simp only [hg']
  by_cases t : q = p ∨ hasS s q = true
  · obtain ⟨u1, u2, u3, u4, u5⟩ := t2 q h1 h2 t
    have hat := hat t
    rw [u1, u2, u4, u5]
    by_cases w : q = p
    · rw [if_pos w] at u3
      rw [u3]
      simp only [if_pos w]
      generalize goR b p to = r
      unfold lvG
      clear hg' t2 t3 t1 t u1 u2 u3 u4 u5 s1 s2 s3 s4 t0
      simp (disch := first | omega | assumption) only [gu_o, gu_s, true_and, and_true, or_true]
      omega
    · have hs : hasS s q = true := t.resolve_left w
      rw [if_neg w] at u3
      rw [u3]
      simp only [if_neg w, if_pos hs]
      generalize goR b p to = r
      unfold lvG
      clear hg' t2 t3 t1 t u1 u2 u3 u4 u5 s1 s2 s3 s4 t0
      simp (disch := first | omega | assumption) only [gu_o, gu_s, true_and, and_true, or_true]
      omega
  · obtain ⟨u1, u2, u3, u4, u5⟩ := t3 q h1 h2 t
    rw [u1, u2, u3, u4, u5]
    simp only [if_neg (fun z : q = p => t (Or.inl z)), if_neg (fun z : hasS s q = true => t (Or.inr z))]
    exact e
theorem out_GR {b : Int → Int} {g : Int → Int → Int → Int} {p s to : Int} (hb : WB b) (hg : GR g b) (hst : stOK b p to) (ha : awB b p s = -1) (hs : hasS s p = false) (h0 : 0 ≤ to) (hp1 : 0 ≤ p) (hp2 : p < b 2) : GR (ouG b g p s to) (ouB b p s to) := by
  have hh := hb.1
  unfold WH at hh
  have hi : 0 ≤ b 2 ∧ b 2 ≤ 8 ∧ b 1 ≤ 12 := by omega
  clear hh
  have hT := ou_T (b := b) (p := p) (s := s) (to := to) hi.1 hi.2.1 hp1 hp2 hs
  refine GR_q hg (hT.1 1 (by omega)) (hT.1 2 (by omega)) (fun q u v e => out_GP hT h0 hp1 u v (fun j l => ou_g hp1 hp2 hs u v) (fun t => ?_) e) (fun q r u v i j => Or.inl ⟨?_, hT.1 _ (by omega)⟩) (fun q r u v i j => Or.inl ⟨?_, hT.1 _ (by omega)⟩) (fun q u v => ?_) (fun q u v => ?_)
  · rcases t with t | t
    · rw [t]; exact hst.1
    · exact (aw_all ha u v t).1
  · rw [ou_g hp1 hp2 hs u v]
    by_cases w : q = p
    · rw [if_pos w]; unfold lvG; simp (disch := first | omega | assumption) only [gu_o]
    · rw [if_neg w]
      by_cases t : hasS s q = true
      · rw [if_pos t]; unfold lvG; simp (disch := first | omega | assumption) only [gu_o]
      · rw [if_neg t]
  · rw [ou_g hp1 hp2 hs u v]
    by_cases w : q = p
    · rw [if_pos w]; unfold lvG; simp (disch := first | omega | assumption) only [gu_o]
    · rw [if_neg w]
      by_cases t : hasS s q = true
      · rw [if_pos t]; unfold lvG; simp (disch := first | omega | assumption) only [gu_o]
      · rw [if_neg t]
  · unfold ouG
    have e0 : ∀ k, fI (gIf (hasS s) (lvG (goR b p to) to (b (34 + goR b p to)) p)) (b 2).toNat 0 g q 0 k = g q 0 k := fun k => by rw [fold_g (lvG1 _ _ _ _) (lvG2 _ _ _ _), if_neg (by omega)]
    rw [lvG2 _ _ _ _ _ _ _ _ _ (by omega), lvG2 _ _ _ _ _ _ _ _ _ (by omega), e0, e0]
    exact ⟨rfl, rfl⟩
  · rw [hT.1 2 (by omega)] at v
    have e3 := WPb hb u v
    have e4 := hT.2.1 q u v
    rw [e4.2.2.1, e4.2.2.2]
    omega
theorem hs_0 {i : Int} : hasS 0 i = false := by
  unfold hasS
  exact Nat.zero_testBit _
theorem aw_0 {b : Int → Int} {p : Int} : awB b p 0 = -1 := by
  unfold awB
  rcases fst_r (P := fun q => hasS 0 q && !(decide (b (66 + q) < 0 ∧ b (58 + q) = b (58 + p)))) (b 2).toNat 0 (by omega) with ⟨e, -⟩ | ⟨-, -, e, -⟩
  · exact e
  · rw [hs_0] at e; simp at e
theorem ou_0 {b : Int → Int} {p to : Int} : ouB b p 0 to = lvB2 (goR b p to) to (b (34 + goR b p to)) (-1) b p := by
  unfold ouB
  have : ∀ (k : Nat) (i : Int) (w : Int → Int), fI (bIf (hasS 0) (lvB2 (goR b p to) to (b (34 + goR b p to)) p)) k i w = w := by
    intro k
    induction k with
    | zero => intro i w; rfl
    | succ k ih =>
      intro i w
      simp only [fI]
      rw [ih]
      unfold bIf
      rw [hs_0]; rfl
  rw [this]
