/-! ===== what must be planted: the reference ===== -/
theorem bS_e {b : Int → Int} : bS b (fun _ => false) = b := by
  funext z
  exact if_neg (fun y => absurd y.2 Bool.false_ne_true)
theorem can_blind {b : Int → Int} {x r : Int} (hb : WB b) (hx : b (106 + x) = 1) (x1 : 0 ≤ x) (h1 : 0 ≤ r) (h2 : r < b 1) : canN b x r ↔ ¬ paceB b x r = 2 := by
  have e := al_can (S := fun _ => false) hb hx x1 h1 h2
  rw [bS_e] at e
  rw [e]
  unfold al
  exact ⟨fun z => z.resolve_left Bool.false_ne_true, Or.inr⟩
def ptS (b : Int → Int) (x y s w : Int) : Int := if (w = -1 ∨ sz s < sz w) ∧ Rch b x (sB s) y = true then s else w
def ptB (b : Int → Int) (x y : Int) : Int := fI (ptS b x y) (pw (b 1)).toNat 0 (-1)
theorem sz_rr {s : Int} (h1 : 0 ≤ s) (h2 : s < 4096) : 0 ≤ sz s ∧ sz s ≤ 12 := by
  have hr := sum_rr (f := fun k => if sB s k = true then (1 : Int) else 0) (c := 0) (d := 1) (fun i => by
    by_cases w : sB s i = true
    · simp only [if_pos w]; omega
    · simp only [if_neg w]; omega) 12 0
  have h3 : ((12 : Nat) : Int) * 0 ≤ sz s ∧ sz s ≤ ((12 : Nat) : Int) * 1 := hr
  omega
theorem ptB_r {b : Int → Int} {x y : Int} (hb : WB b) : (ptB b x y = -1 ∧ ∀ s, 0 ≤ s → s < pw (b 1) → ¬ Rch b x (sB s) y = true) ∨ ((0 ≤ ptB b x y ∧ ptB b x y < pw (b 1)) ∧ Rch b x (sB (ptB b x y)) y = true ∧ ∀ s, 0 ≤ s → s < pw (b 1) → Rch b x (sB s) y = true → sz (ptB b x y) < sz s ∨ (sz (ptB b x y) = sz s ∧ ptB b x y ≤ s)) := by
  have hh := hb.1
  unfold WH at hh
  have hp := pw_r (show 0 ≤ b 1 by omega) (show b 1 ≤ 12 by omega)
  have := fI_ix (f := ptS b x y) (V := fun i w => (w = -1 ∧ ∀ s, 0 ≤ s → s < i → ¬ Rch b x (sB s) y = true) ∨ ((0 ≤ w ∧ w < i) ∧ Rch b x (sB w) y = true ∧ ∀ s, 0 ≤ s → s < i → Rch b x (sB s) y = true → sz w < sz s ∨ (sz w = sz s ∧ w ≤ s))) (R := pw (b 1)) (fun i w h1 _ h => ?_) (pw (b 1)).toNat 0 (-1) (by omega) (by omega) (Or.inl ⟨rfl, fun s _ _ => by omega⟩)
  · rw [show (0 : Int) + ((pw (b 1)).toNat : Int) = pw (b 1) by omega] at this
    exact this
  · unfold ptS
    by_cases e : (w = -1 ∨ sz i < sz w) ∧ Rch b x (sB i) y = true
    · rw [if_pos e]
      refine Or.inr ⟨⟨h1, by omega⟩, e.2, fun s s1 s2 s3 => ?_⟩
      by_cases q : s = i
      · rw [q]; exact Or.inr ⟨rfl, Int.le_refl _⟩
      · rcases h with ⟨-, h2⟩ | ⟨a1, a2, a3⟩
        · exact absurd s3 (h2 s s1 (by omega))
        · have := a3 s s1 (by omega) s3
          have := e.1.resolve_left (by omega)
          omega
    · rw [if_neg e]
      rcases h with ⟨h1', h2⟩ | ⟨a1, a2, a3⟩
      · refine Or.inl ⟨h1', fun s s1 s2 s3 => ?_⟩
        by_cases q : s = i
        · rw [q] at s3; exact e ⟨Or.inl h1', s3⟩
        · exact h2 s s1 (by omega) s3
      · refine Or.inr ⟨⟨a1.1, by omega⟩, a2, fun s s1 s2 s3 => ?_⟩
        by_cases q : s = i
        · rw [q] at s3 ⊢
          have : ¬ sz i < sz w := fun z => e ⟨Or.inr z, s3⟩
          omega
        · exact a3 s s1 (by omega) s3
theorem plant_eq {b : Int → Int} {x y : Int} (hb : WB b) (hx : b (106 + x) = 1) (h1 : 0 ≤ x) (h2 : x < b 2) (y1 : 0 ≤ y) (y2 : y < 8) : (ptB b x y = -1 ∧ PC b x y = 1000000000) ∨ (0 ≤ ptB b x y ∧ ptB b x y < 4096 ∧ 0 ≤ sz (ptB b x y) ∧ sz (ptB b x y) ≤ 12 ∧ PC b x y = 4096 * sz (ptB b x y) + ptB b x y) := by
  have hh := hb.1
  unfold WH at hh
  have hi : 0 ≤ b 1 ∧ b 1 ≤ 12 := by omega
  clear hh
  have hp := pw_r hi.1 hi.2
  have pr := PC_r (x := x) hb y1 y2
  have up : PC b x y < 1000000000 → ∃ s, 0 ≤ s ∧ s < pw (b 1) ∧ Rch b x (sB s) y = true ∧ 4096 * sz s + s ≤ PC b x y := fun h => by
    obtain ⟨U, u1, u2, u3⟩ := upp hb hx h1 h2 h
    have r := nU_r hi.1 hi.2 u1
    refine ⟨nU U, r.1, r.2, ?_, ?_⟩
    · refine Rch_mon hb hx h1 (fun s hs => ?_) u2
      have := u1 s hs
      rw [sB_nU this.1 (by omega)]; exact hs
    · rw [← w_of (fun r hr => by have := u1 r hr; omega)]; exact u3
  rcases ptB_r (x := x) (y := y) hb with ⟨e, h⟩ | ⟨r, c, h⟩
  · refine Or.inl ⟨e, ?_⟩
    by_cases w : PC b x y < 1000000000
    · obtain ⟨s, s1, s2, s3, -⟩ := up w
      exact absurd s3 (h s s1 s2)
    · omega
  · generalize ptB b x y = B at *
    have r4 : B < 4096 := by omega
    have rz := sz_rr r.1 r4
    have lo := low hb hx h1 h2 c
    have wz := w_sz ⟨B.toNat, by omega⟩
    simp only [Int.toNat_of_nonneg r.1] at wz
    rw [wz] at lo
    obtain ⟨s, s1, s2, s3, s4⟩ := up (by omega)
    have := h s s1 s2 s3
    refine Or.inr ⟨r.1, r4, rz.1, rz.2, ?_⟩
    have zs := sz_rr s1 (show s < 4096 by omega)
    omega

