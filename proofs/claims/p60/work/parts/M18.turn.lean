/-! ===== turn, closed ===== -/
theorem turn_g {b : Int → Int} {g : Int → Int → Int → Int} {p q j l : Int} (h1 : 0 ≤ q) (h2 : q < b 2) : fI (gIf (wiB b p) stG) (b 2).toNat 0 g q j l = if q = p ∨ b (82 + q) = p then stG g q q j l else g q j l := by
  rw [fold_g stG1 stG2]
  by_cases t : q = p ∨ b (82 + q) = p
  · rw [if_pos t, if_pos ⟨h1, by omega, decide_eq_true t⟩]
  · rw [if_neg t, if_neg (fun z => t (of_decide_eq_true z.2.2))]
theorem turn_b {b : Int → Int} {p z : Int} (hb : b 2 ≤ 8) (hz : 0 ≤ b 2) : fI (bIf (wiB b p) stB) (b 2).toNat 0 b z = if 0 ≤ own z ∧ own z < b 2 ∧ (own z = p ∨ b (82 + own z) = p) then stB b (own z) z else b z := by
  rw [fold_b stB1 stB2 _ _ _ _ (by omega) (by omega)]
  by_cases t : 0 ≤ own z ∧ own z < b 2 ∧ (own z = p ∨ b (82 + own z) = p)
  · rw [if_pos t, if_pos ⟨by omega, by omega, decide_eq_true t.2.2⟩]
  · rw [if_neg t, if_neg (fun y => t ⟨by omega, by omega, of_decide_eq_true y.2.2⟩)]
/-- what turning leaves of the block -/
def Trn (b b' : Int → Int) (p : Int) : Prop := (∀ z, ¬ (58 ≤ z ∧ z < 90) → b' z = b z) ∧ (∀ q, 0 ≤ q → q < b 2 → (q = p ∨ b (82 + q) = p) → b' (58 + q) = b (114 + q) ∧ b' (66 + q) = -1 ∧ b' (74 + q) = 0 ∧ b' (82 + q) = -1) ∧ (∀ q, 0 ≤ q → q < b 2 → ¬ (q = p ∨ b (82 + q) = p) → b' (58 + q) = b (58 + q) ∧ b' (66 + q) = b (66 + q) ∧ b' (74 + q) = b (74 + q) ∧ b' (82 + q) = b (82 + q))
theorem turn_T {b : Int → Int} {p : Int} (hb : b 2 ≤ 8) (hz : 0 ≤ b 2) : Trn b (fI (bIf (wiB b p) stB) (b 2).toNat 0 b) p := by
  refine ⟨fun z h => ?_, fun q h1 h2 h => ?_, fun q h1 h2 h => ?_⟩
  · rw [turn_b hb hz]
    by_cases t : 0 ≤ own z ∧ own z < b 2 ∧ (own z = p ∨ b (82 + own z) = p)
    · rw [if_pos t]
      have : ∀ i, 0 ≤ i → i < 8 → stB b i z = b z := fun i a c => by
        unfold stB
        rw [bu_o (by omega), bu_o (by omega), bu_o (by omega), bu_o (by omega)]
      exact this _ t.1 (by omega)
    · rw [if_neg t]
  · rw [turn_b hb hz, turn_b hb hz, turn_b hb hz, turn_b hb hz, own_0 h1 (by omega), own_1 h1 (by omega), own_2 h1 (by omega), own_3 h1 (by omega), if_pos ⟨h1, h2, h⟩, if_pos ⟨h1, h2, h⟩, if_pos ⟨h1, h2, h⟩, if_pos ⟨h1, h2, h⟩]
    unfold stB
    simp (disch := first | omega | assumption) only [bu_o, bu_s, and_self]
  · rw [turn_b hb hz, turn_b hb hz, turn_b hb hz, turn_b hb hz, own_0 h1 (by omega), own_1 h1 (by omega), own_2 h1 (by omega), own_3 h1 (by omega), if_neg (fun z => h z.2.2), if_neg (fun z => h z.2.2), if_neg (fun z => h z.2.2), if_neg (fun z => h z.2.2)]
    exact ⟨rfl, rfl, rfl, rfl⟩
theorem turn_WP {b b' : Int → Int} {p q : Int} (hb : WB b) (ht : Trn b b' p) (hp : 0 ≤ b (66 + p)) (hp1 : 0 ≤ p) (h1 : 0 ≤ q) (h2 : q < b 2) : WP b' q := by
  have e := hb.2.2.1 q h1 h2
  have e3 := hb.2.2.2.2.2 q h1 h2
  have hh := hb.1
  unfold WH at hh
  have hi : 0 ≤ b 2 ∧ b 2 ≤ 8 ∧ b 1 ≤ 12 := by omega
  clear hh hb
  obtain ⟨t1, t2, t3⟩ := ht
  unfold WL at e3
  unfold WP at e ⊢
  rw [t1 (90 + q) (by omega), t1 (98 + q) (by omega), t1 (106 + q) (by omega), t1 (114 + q) (by omega), t1 (122 + q) (by omega), t1 0 (by omega), t1 1 (by omega), t1 2 (by omega), t1 5 (by omega)]
  by_cases t : q = p ∨ b (82 + q) = p
  · obtain ⟨u1, u2, u3, u4⟩ := t2 q h1 h2 t
    rw [u1, u2, u3, u4]
    have hgo : 0 ≤ b (66 + q) := by
      rcases t with rfl | t
      · exact hp
      · omega
    omega
  · obtain ⟨u1, u2, u3, u4⟩ := t3 q h1 h2 t
    rw [u1, u2, u3, u4]
    by_cases w : b (66 + q) = -1
    · obtain ⟨a1, a2, a3, a4, a5, a6, a7, a8, a9, a10, a11, a12, a13, a14, a15⟩ := e
      exact ⟨a1, a2, a3, a4, a5, a6, a7, a8, a9, a10, a11, a12, a13, a14, Or.inl ⟨w, by omega, by omega⟩⟩
    · rw [t1 (34 + b (122 + q)) (by omega)]
      exact e
theorem turn_WL {b b' : Int → Int} {p q : Int} (hb : WB b) (ht : Trn b b' p) (hp : b (82 + p) = -1) (hp1 : 0 ≤ p) (h1 : 0 ≤ q) (h2 : q < b 2) : WL b' q := by
  have e2 := WPb hb h1 h2
  have e3 := hb.2.2.2.2.2 q h1 h2
  have hh := hb.1
  unfold WH at hh
  have hi : 0 ≤ b 2 ∧ b 2 ≤ 8 := by omega
  clear hh hb
  obtain ⟨t1, t2, t3⟩ := ht
  unfold WL at e3 ⊢
  by_cases t : q = p ∨ b (82 + q) = p
  · exact Or.inl (t2 q h1 h2 t).2.2.2
  · obtain ⟨u1, u2, u3, u4⟩ := t3 q h1 h2 t
    rw [u4]
    by_cases w : b (82 + q) = -1
    · exact Or.inl w
    rcases e3 with e3 | e3
    · exact Or.inl e3
    · right
      · obtain ⟨v1, v2, v3, v4⟩ := t3 (b (82 + q)) (by omega) (by omega) (by omega)
        rw [u2, u3, v2, v3, v4, t1 (122 + b (82 + q)) (by omega), t1 (122 + q) (by omega), t1 (114 + b (82 + q)) (by omega), t1 (114 + q) (by omega)]
        exact e3
theorem turn_GP {b b' : Int → Int} {g g' : Int → Int → Int → Int} {p q : Int} (ht : Trn b b' p) (h1 : 0 ≤ q) (h2 : q < b 2) (h8 : b 2 ≤ 8) (hg' : ∀ j l, g' q j l = if q = p ∨ b (82 + q) = p then stG g q q j l else g q j l) (hgo : (q = p ∨ b (82 + q) = p) → 0 ≤ b (66 + q)) (e : GP g b q) : GP g' b' q := by
  obtain ⟨t1, t2, t3⟩ := ht
  unfold GP at e ⊢
  rw [t1 (90 + q) (by omega), t1 (98 + q) (by omega), t1 (106 + q) (by omega), t1 (114 + q) (by omega), t1 (122 + q) (by omega)]
  simp only [hg']
  by_cases t : q = p ∨ b (82 + q) = p
  · obtain ⟨u1, u2, u3, u4⟩ := t2 q h1 h2 t
    have hgo := hgo t
    rw [u1, u2, u3, u4]
    simp only [if_pos t]
    unfold stG
    clear hg' t2 t3 t1 t
    simp (disch := first | omega | assumption) only [gu_o, gu_s, true_and, and_true, or_true]
    omega
  · obtain ⟨u1, u2, u3, u4⟩ := t3 q h1 h2 t
    rw [u1, u2, u3, u4]
    simp only [if_neg t]
    exact e
