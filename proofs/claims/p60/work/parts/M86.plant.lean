/-! ===== what must be planted: least sets ===== -/
def bS (b : Int → Int) (S : Int → Bool) : Int → Int := fun z => if (46 ≤ z ∧ z < 58) ∧ S (z - 46) = true then 1 else b z
theorem bS_o {b : Int → Int} {S : Int → Bool} {z : Int} (h : ¬ (46 ≤ z ∧ z < 58)) : bS b S z = b z := if_neg (fun y => h y.1)
theorem bS_r {b : Int → Int} {S : Int → Bool} {r : Int} (h1 : 0 ≤ r) (h2 : r < 12) : bS b S (46 + r) = if S r = true then 1 else b (46 + r) := by
  unfold bS
  rw [show 46 + r - 46 = r by omega]
  by_cases e : S r = true
  · rw [if_pos ⟨by omega, e⟩, if_pos e]
  · rw [if_neg (fun z => e z.2), if_neg e]
theorem bS_W {b : Int → Int} {S : Int → Bool} (hb : WB b) : WB (bS b S) := by
  obtain ⟨h1, h2, h3, h4, h5, h6⟩ := hb
  have hh := h1
  unfold WH at hh
  refine ⟨?_, fun r u v => ?_, fun p u v => ?_, fun p r a c d e => ?_, fun p q a c d e => ?_, fun p u v => ?_⟩
  · unfold WH
    rw [bS_o (by omega), bS_o (by omega), bS_o (by omega), bS_o (by omega), bS_o (by omega), bS_o (by omega), bS_o (by omega), bS_o (by omega), bS_o (by omega), bS_o (by omega)]
    exact h1
  · rw [bS_o (by omega)] at v
    have := h2 r u v
    unfold WR at this ⊢
    rw [bS_o (by omega), bS_o (by omega), bS_o (by omega), bS_o (by omega), bS_r u (by omega)]
    by_cases e : S r = true
    · rw [if_pos e]; omega
    · rw [if_neg e]; exact this
  · rw [bS_o (by omega)] at v
    have := h3 p u v
    unfold WP at this ⊢
    rw [bS_o (z := 58 + p) (by omega), bS_o (z := 66 + p) (by omega), bS_o (z := 74 + p) (by omega), bS_o (z := 82 + p) (by omega), bS_o (z := 90 + p) (by omega), bS_o (z := 98 + p) (by omega), bS_o (z := 106 + p) (by omega), bS_o (z := 114 + p) (by omega), bS_o (z := 122 + p) (by omega), bS_o (z := 0) (by omega), bS_o (z := 1) (by omega), bS_o (z := 2) (by omega), bS_o (z := 5) (by omega)]
    refine ⟨this.1, this.2.1, this.2.2.1, this.2.2.2.1, this.2.2.2.2.1, this.2.2.2.2.2.1, this.2.2.2.2.2.2.1, this.2.2.2.2.2.2.2.1, this.2.2.2.2.2.2.2.2.1, this.2.2.2.2.2.2.2.2.2.1, this.2.2.2.2.2.2.2.2.2.2.1, this.2.2.2.2.2.2.2.2.2.2.2.1, this.2.2.2.2.2.2.2.2.2.2.2.2.1, this.2.2.2.2.2.2.2.2.2.2.2.2.2.1, ?_⟩
    rcases this.2.2.2.2.2.2.2.2.2.2.2.2.2.2 with z | z
    · exact Or.inl z
    · refine Or.inr ⟨z.1, z.2.1, z.2.2.1, z.2.2.2.1, ?_, z.2.2.2.2.2⟩
      rw [bS_o (by omega)]; exact z.2.2.2.2.1
  · have := h4 p r a c d e
    rw [bS_o (by omega)]; exact this
  · have := h5 p q a c d e
    rw [bS_o (by omega), bS_o (by omega)]; exact this
  · rw [bS_o (by omega)] at v
    have hp := h3 p u v
    unfold WP at hp
    have := h6 p u v
    unfold WL at this ⊢
    rw [bS_o (z := 82 + p) (by omega)]
    rcases this with z | z
    · exact Or.inl z
    · refine Or.inr ?_
      rw [bS_o (by omega), bS_o (by omega), bS_o (by omega), bS_o (by omega), bS_o (by omega), bS_o (by omega), bS_o (by omega), bS_o (by omega), bS_o (by omega)]
      exact z
/-- the road r can be gone, the set S planted -/
def al (b : Int → Int) (x : Int) (S : Int → Bool) (r : Int) : Prop := S r = true ∨ ¬ paceB b x r = 2
theorem al_can {b : Int → Int} {S : Int → Bool} {x r : Int} (hb : WB b) (hx : b (106 + x) = 1) (x1 : 0 ≤ x) (h1 : 0 ≤ r) (h2 : r < b 1) : canN (bS b S) x r ↔ al b x S r := by
  have hh := hb.1
  unfold WH at hh
  have hR := hb.2.1 r h1 h2
  unfold WR at hR
  have i1 : b 1 ≤ 12 ∧ 0 ≤ b (46 + r) ∧ b (46 + r) ≤ 1 := by omega
  clear hR hh
  unfold canN canB al paceB
  rw [bS_o (z := 106 + x) (by omega), bS_r h1 (by omega), bS_o (z := 7) (by omega), bS_o (z := 130 + 12 * x + r) (by omega), bS_o (z := 98 + x) (by omega), if_neg (show ¬ b (106 + x) = 0 by omega)]
  by_cases e : S r = true
  · rw [if_pos e]
    exact ⟨fun _ => Or.inl e, fun _ => Or.inl ⟨hx, Or.inl rfl⟩⟩
  · rw [if_neg e]
    by_cases w : b (46 + r) = 0 ∧ b (130 + 12 * x + r) < b 7
    · rw [if_pos w]
      refine ⟨fun z => ?_, fun z => z.elim (fun y => absurd y e) (fun y => absurd rfl y)⟩
      exfalso; omega
    · rw [if_neg w]
      exact ⟨fun _ => Or.inr (by decide), fun _ => Or.inl ⟨hx, by omega⟩⟩
theorem joins_al {b : Int → Int} {S P : Int → Bool} {x r : Int} (hb : WB b) (hx : b (106 + x) = 1) (x1 : 0 ≤ x) (h1 : 0 ≤ r) (h2 : r < b 1) : joins (bS b S) x r P ↔ al b x S r ∧ (P (b (10 + r)) = true ∨ P (b (22 + r)) = true) := by
  have hh := hb.1
  unfold WH at hh
  have c := al_can (S := S) hb hx x1 h1 h2
  unfold joins
  rw [bS_o (z := 10 + r) (by omega), bS_o (z := 22 + r) (by omega), c]
  cases P (b (10 + r)) <;> cases P (b (22 + r)) <;> simp
theorem stR_al {b : Int → Int} {S P : Int → Bool} {x r : Int} (hb : WB b) (hx : b (106 + x) = 1) (x1 : 0 ≤ x) (h1 : 0 ≤ r) (h2 : r < b 1) (h : al b x S r ∧ (P (b (10 + r)) = true ∨ P (b (22 + r)) = true)) : stR (bS b S) x r P = adA (adA P (b (10 + r))) (b (22 + r)) := by
  have hh := hb.1
  unfold WH at hh
  rw [stR_t ((joins_al hb hx x1 h1 h2).mpr h), bS_o (z := 10 + r) (by omega), bS_o (z := 22 + r) (by omega)]
theorem stR_na {b : Int → Int} {S P : Int → Bool} {x r : Int} (hb : WB b) (hx : b (106 + x) = 1) (x1 : 0 ≤ x) (h1 : 0 ≤ r) (h2 : r < b 1) (h : ¬ (al b x S r ∧ (P (b (10 + r)) = true ∨ P (b (22 + r)) = true))) : stR (bS b S) x r P = P := stR_f (fun z => h ((joins_al hb hx x1 h1 h2).mp z))
theorem bS1 {b : Int → Int} {S : Int → Bool} : bS b S 1 = b 1 := bS_o (by omega)
theorem bS0 {b : Int → Int} {S : Int → Bool} : bS b S 0 = b 0 := bS_o (by omega)
theorem bRoad {b : Int → Int} {r : Int} (hb : WB b) (h1 : 0 ≤ r) (h2 : r < b 1) : (0 ≤ b (10 + r) ∧ b (10 + r) < 8 ∧ 0 ≤ b (22 + r) ∧ b (22 + r) < 8) ∧ r < 12 := by
  have hh := hb.1
  unfold WH at hh
  have hR := hb.2.1 r h1 h2
  unfold WR at hR
  omega
theorem ad_up {P : Int → Bool} {a c j : Int} (h : P j = true) : adA (adA P a) c j = true := by
  unfold adA
  rw [h]; rfl
theorem ad_r {P : Int → Bool} {a c j : Int} (h : adA (adA P a) c j = true) : P j = true ∨ j = a ∨ j = c := by
  by_cases e : j = c
  · exact Or.inr (Or.inr e)
  · rw [adA_o e] at h
    by_cases e2 : j = a
    · exact Or.inr (Or.inl e2)
    · rw [adA_o e2] at h; exact Or.inl h
theorem ad_1 {P : Int → Bool} {a c : Int} : adA (adA P a) c a = true := by
  by_cases e : a = c
  · rw [e]; exact adA_s
  · rw [adA_o e]; exact adA_s
theorem rlq_le {b U : Int → Int} {x r f t j : Int} : rlq b x r f t U j ≤ U j := by
  unfold rlq
  by_cases w : U f + mo b x r < U t
  · rw [if_pos w]
    by_cases e : j = t
    · rw [e, bu_s]; omega
    · rw [bu_o e]; omega
  · rw [if_neg w]; omega
theorem rlq_t {b U : Int → Int} {x r f t : Int} : rlq b x r f t U t ≤ U f + mo b x r := by
  unfold rlq
  by_cases w : U f + mo b x r < U t
  · rw [if_pos w, bu_s]; omega
  · rw [if_neg w]; omega
/-- whoever is come to with S planted costs no more than a part of it -/
def LK (b : Int → Int) (S P : Int → Bool) (T : Int → Int) : Prop := ∀ j, P j = true → ∃ U : Int → Bool, (∀ r, U r = true → S r = true ∧ 0 ≤ r ∧ r < b 1 ∧ P (b (10 + r)) = true ∧ P (b (22 + r)) = true) ∧ T j ≤ wP U
theorem LK_st {b : Int → Int} {S P : Int → Bool} {T : Int → Int} {x r : Int} (hb : WB b) (hx : b (106 + x) = 1) (x1 : 0 ≤ x) (h1 : 0 ≤ r) (h2 : r < b 1) (h : LK b S P T) : LK b S (stR (bS b S) x r P) (btq b x r T) := by
  have br := bRoad hb h1 h2
  have le : ∀ j, btq b x r T j ≤ T j := fun j => Int.le_trans rlq_le rlq_le
  have lt1 : btq b x r T (b (22 + r)) ≤ T (b (10 + r)) + mo b x r := Int.le_trans rlq_le rlq_t
  have lt2 : btq b x r T (b (10 + r)) ≤ T (b (22 + r)) + mo b x r := by
    have a := rlq_t (b := b) (U := rlq b x r (b (10 + r)) (b (22 + r)) T) (x := x) (r := r) (f := b (22 + r)) (t := b (10 + r))
    have c := rlq_le (b := b) (U := T) (x := x) (r := r) (f := b (10 + r)) (t := b (22 + r)) (j := b (22 + r))
    unfold btq
    omega
  by_cases w : al b x S r ∧ (P (b (10 + r)) = true ∨ P (b (22 + r)) = true)
  · rw [stR_al hb hx x1 h1 h2 w]
    -- a new one, from an old one by r
    have new : ∀ f t, P f = true → ¬ P t = true → ((t = b (22 + r) ∧ f = b (10 + r)) ∨ (t = b (10 + r) ∧ f = b (22 + r))) → btq b x r T t ≤ T f + mo b x r → ∃ U : Int → Bool, (∀ s, U s = true → S s = true ∧ 0 ≤ s ∧ s < b 1 ∧ adA (adA P (b (10 + r))) (b (22 + r)) (b (10 + s)) = true ∧ adA (adA P (b (10 + r))) (b (22 + r)) (b (22 + s)) = true) ∧ btq b x r T t ≤ wP U := fun f t hf ht hft hlt => by
      obtain ⟨U, u1, u2⟩ := h f hf
      have nr : U r = false := ff (fun z => by
        have := u1 r z
        rcases hft with ⟨e, -⟩ | ⟨e, -⟩
        · exact ht (by rw [e]; exact this.2.2.2.2)
        · exact ht (by rw [e]; exact this.2.2.2.1))
      by_cases hp : paceB b x r = 2
      · have hS := w.1.resolve_right (fun z => z hp)
        refine ⟨adA U r, fun s hs => ?_, ?_⟩
        · by_cases e : s = r
          · rw [e]; exact ⟨hS, h1, h2, ad_1, adA_s⟩
          · rw [adA_o e] at hs
            have := u1 s hs
            exact ⟨this.1, this.2.1, this.2.2.1, ad_up this.2.2.2.1, ad_up this.2.2.2.2⟩
        · have e0 : mo b x r = 4096 + pw r := if_pos hp
          rw [wP_ad h1 br.2 nr]; omega
      · refine ⟨U, fun s hs => ?_, ?_⟩
        · have := u1 s hs
          exact ⟨this.1, this.2.1, this.2.2.1, ad_up this.2.2.2.1, ad_up this.2.2.2.2⟩
        · have e0 : mo b x r = 0 := if_neg hp
          omega
    intro j hj
    by_cases hP : P j = true
    · obtain ⟨U, u1, u2⟩ := h j hP
      refine ⟨U, fun s hs => ?_, Int.le_trans (le j) u2⟩
      have := u1 s hs
      exact ⟨this.1, this.2.1, this.2.2.1, ad_up this.2.2.2.1, ad_up this.2.2.2.2⟩
    · rcases (ad_r hj).resolve_left hP with e | e
      · rw [e] at hP
        rw [e]
        exact new (b (22 + r)) (b (10 + r)) (w.2.resolve_left hP) hP (Or.inr ⟨rfl, rfl⟩) lt2
      · rw [e] at hP
        rw [e]
        exact new (b (10 + r)) (b (22 + r)) (w.2.resolve_right hP) hP (Or.inl ⟨rfl, rfl⟩) lt1
  · rw [stR_na hb hx x1 h1 h2 w]
    intro j hj
    obtain ⟨U, u1, u2⟩ := h j hj
    exact ⟨U, u1, Int.le_trans (le j) u2⟩
theorem LK_fI {b : Int → Int} {S : Int → Bool} {x : Int} (hb : WB b) (hx : b (106 + x) = 1) (x1 : 0 ≤ x) : ∀ (k : Nat) (i : Int) (P : Int → Bool) (T : Int → Int), 0 ≤ i → i + k ≤ b 1 → LK b S P T → LK b S (fI (stR (bS b S) x) k i P) (fI (btq b x) k i T) := by
  intro k
  induction k with
  | zero => intro i P T _ _ h; exact h
  | succ k ih => intro i P T h1 h2 h; exact ih (i + 1) _ _ (by omega) (by omega) (LK_st hb hx x1 h1 (by omega) h)
theorem LK_it {b : Int → Int} {S : Int → Bool} {x : Int} (hb : WB b) (hx : b (106 + x) = 1) (x1 : 0 ≤ x) : ∀ (k : Nat) (i : Int) (P : Int → Bool) (T : Int → Int), LK b S P T → LK b S (itR (bS b S) x k i P) (itq b x k T) := by
  have hh := hb.1
  unfold WH at hh
  intro k
  induction k with
  | zero => intro i P T h; exact h
  | succ k ih =>
    intro i P T h
    refine ih (i + 1) (psR (bS b S) x P) (paq b x T) ?_
    unfold psR paq
    rw [bS1]
    exact LK_fI hb hx x1 (b 1).toNat 0 P T (by omega) (by omega) h
/-- where one can come with S planted -/
def Rch (b : Int → Int) (x : Int) (S : Int → Bool) : Int → Bool := itR (bS b S) x 8 0 (fun i => decide (i = b (58 + x)))
theorem okR {b : Int → Int} {x : Int} {S : Int → Bool} (hb : WB b) (x1 : 0 ≤ x) (x2 : x < b 2) : okB (bS b S) (fun i => decide (i = b (58 + x))) := fun i hi => by
  have := of_decide_eq_true hi
  have z := WPb hb x1 x2
  rw [bS0]
  omega
theorem Rch_8 {b : Int → Int} {x : Int} {S : Int → Bool} (hb : WB b) (x1 : 0 ≤ x) (x2 : x < b 2) : Rch b x S = itR (bS b S) x (b 0 - 1).toNat 1 (fun i => decide (i = b (58 + x))) := by
  have hh := hb.1
  unfold WH at hh
  have z := WPb hb x1 x2
  have := itR_8 (x := x) (bS_W (S := S) hb) (okR hb x1 x2) (cd_one (q := b (58 + x)) (by omega) (by omega))
  rw [bS0] at this
  exact this
theorem low {b : Int → Int} {x y : Int} {S : Int → Bool} (hb : WB b) (hx : b (106 + x) = 1) (x1 : 0 ≤ x) (x2 : x < b 2) (h : Rch b x S y = true) : PC b x y ≤ wP S := by
  rw [Rch_8 hb x1 x2] at h
  have k0 : LK b S (fun i => decide (i = b (58 + x))) (T0 (b (58 + x)) 0) := fun j hj => by
    have := of_decide_eq_true hj
    refine ⟨fun _ => false, fun r hr => absurd hr Bool.false_ne_true, ?_⟩
    have w0 := wP_0 (U := fun _ => false)
    unfold T0
    rw [if_pos this]; exact w0
  obtain ⟨U, u1, u2⟩ := LK_it hb hx x1 (b 0 - 1).toNat 1 _ _ k0 y h
  refine Int.le_trans u2 ?_
  have s := sum_lt (f := fun k => if U k = true then 4096 + pw k else 0) (h := fun k => if S k = true then 4096 + pw k else 0) (q := -1) 12 0 0 0 0 (fun j j1 j2 => by
    rw [if_neg (show ¬ j = -1 by omega)]
    have := pw_r j1 (show j ≤ 12 by omega)
    by_cases z : U j = true
    · rw [if_pos z, if_pos (u1 j z).1]; omega
    · rw [if_neg z]
      by_cases z2 : S j = true
      · rw [if_pos z2]; omega
      · rw [if_neg z2]; omega) (by decide)
  rw [if_neg (by omega)] at s
  have s : wP U + 0 + 0 ≤ wP S := s
  omega
/-! ===== and as much is enough ===== -/
theorem Rch_fx {b : Int → Int} {x : Int} {S : Int → Bool} (hb : WB b) (x1 : 0 ≤ x) (x2 : x < b 2) : psR (bS b S) x (Rch b x S) = Rch b x S := by
  have hh := hb.1
  unfold WH at hh
  have z := WPb hb x1 x2
  have hB := bS_W (S := S) hb
  have hk := okR (S := S) hb x1 x2
  rcases itR_pr (x := x) hB 8 0 _ hk with e | e
  · exact e
  · have ok := itR_ok (x := x) hB 8 0 _ hk
    have l := cd_le hB ok
    have c1 := cd_one (q := b (58 + x)) (by omega) (by omega)
    rw [bS0] at l
    omega
theorem ps_clo {b : Int → Int} {x : Int} {S P : Int → Bool} (hb : WB b) (hx : b (106 + x) = 1) (x1 : 0 ≤ x) : ∀ (k : Nat) (i : Int) (Q : Int → Bool), 0 ≤ i → i + k ≤ b 1 → (∀ j, P j = true → Q j = true) → (∀ j, P j = true → fI (stR (bS b S) x) k i Q j = true) ∧ ∀ r, i ≤ r → r < i + k → al b x S r → (P (b (10 + r)) = true ∨ P (b (22 + r)) = true) → fI (stR (bS b S) x) k i Q (b (10 + r)) = true ∧ fI (stR (bS b S) x) k i Q (b (22 + r)) = true := by
  have up : ∀ r (Q : Int → Bool) j, 0 ≤ r → r < b 1 → Q j = true → stR (bS b S) x r Q j = true := fun r Q j h1 h2 hq => by
    by_cases w : al b x S r ∧ (Q (b (10 + r)) = true ∨ Q (b (22 + r)) = true)
    · rw [stR_al hb hx x1 h1 h2 w]; exact ad_up hq
    · rw [stR_na hb hx x1 h1 h2 w]; exact hq
  have ups : ∀ (k : Nat) (i : Int) (Q : Int → Bool) j, 0 ≤ i → i + k ≤ b 1 → Q j = true → fI (stR (bS b S) x) k i Q j = true := by
    intro k
    induction k with
    | zero => intro i Q j _ _ h; exact h
    | succ k ih => intro i Q j h1 h2 h; exact ih (i + 1) _ j (by omega) (by omega) (up i Q j h1 (by omega) h)
  intro k
  induction k with
  | zero => intro i Q h1 h2 h; exact ⟨h, fun r a c => by omega⟩
  | succ k ih =>
    intro i Q h1 h2 h
    have e := ih (i + 1) (stR (bS b S) x i Q) (by omega) (by omega) (fun j hj => up i Q j h1 (by omega) (h j hj))
    refine ⟨e.1, fun r a c ha hr => ?_⟩
    by_cases y : r = i
    · rw [y] at ha hr ⊢
      have w : al b x S i ∧ (Q (b (10 + i)) = true ∨ Q (b (22 + i)) = true) := ⟨ha, hr.elim (fun z => Or.inl (h _ z)) (fun z => Or.inr (h _ z))⟩
      have st := stR_al hb hx x1 h1 (show i < b 1 by omega) w
      refine ⟨ups k (i + 1) _ _ (by omega) (by omega) ?_, ups k (i + 1) _ _ (by omega) (by omega) ?_⟩
      · rw [st]; exact ad_1
      · rw [st]; exact adA_s
    · exact e.2 r (by omega) (by omega) ha hr
theorem Rch_clo {b : Int → Int} {x r : Int} {S : Int → Bool} (hb : WB b) (hx : b (106 + x) = 1) (x1 : 0 ≤ x) (x2 : x < b 2) (h1 : 0 ≤ r) (h2 : r < b 1) (ha : al b x S r) (h : Rch b x S (b (10 + r)) = true ∨ Rch b x S (b (22 + r)) = true) : Rch b x S (b (10 + r)) = true ∧ Rch b x S (b (22 + r)) = true := by
  have hh := hb.1
  unfold WH at hh
  have e := (ps_clo (S := S) (P := Rch b x S) hb hx x1 (b 1).toNat 0 (Rch b x S) (by omega) (by omega) (fun _ h => h)).2 r h1 (by omega) ha h
  have f := Rch_fx (S := S) hb x1 x2
  unfold psR at f
  rw [bS1] at f
  rw [f] at e
  exact e
theorem st_mon {b : Int → Int} {x r : Int} {S U P Q : Int → Bool} (hb : WB b) (hx : b (106 + x) = 1) (x1 : 0 ≤ x) (h1 : 0 ≤ r) (h2 : r < b 1) (hSU : ∀ s, S s = true → U s = true) (h : ∀ j, P j = true → Q j = true) : ∀ j, stR (bS b S) x r P j = true → stR (bS b U) x r Q j = true := by
  intro j hj
  by_cases w : al b x S r ∧ (P (b (10 + r)) = true ∨ P (b (22 + r)) = true)
  · have w2 : al b x U r ∧ (Q (b (10 + r)) = true ∨ Q (b (22 + r)) = true) := ⟨w.1.elim (fun z => Or.inl (hSU _ z)) Or.inr, w.2.elim (fun z => Or.inl (h _ z)) (fun z => Or.inr (h _ z))⟩
    rw [stR_al hb hx x1 h1 h2 w] at hj
    rw [stR_al hb hx x1 h1 h2 w2]
    rcases ad_r hj with e | e | e
    · exact ad_up (h j e)
    · rw [e]; exact ad_1
    · rw [e]; exact adA_s
  · rw [stR_na hb hx x1 h1 h2 w] at hj
    by_cases w2 : al b x U r ∧ (Q (b (10 + r)) = true ∨ Q (b (22 + r)) = true)
    · rw [stR_al hb hx x1 h1 h2 w2]; exact ad_up (h j hj)
    · rw [stR_na hb hx x1 h1 h2 w2]; exact h j hj
theorem fI_mon {b : Int → Int} {x : Int} {S U : Int → Bool} (hb : WB b) (hx : b (106 + x) = 1) (x1 : 0 ≤ x) (hSU : ∀ s, S s = true → U s = true) : ∀ (k : Nat) (i : Int) (P Q : Int → Bool), 0 ≤ i → i + k ≤ b 1 → (∀ j, P j = true → Q j = true) → ∀ j, fI (stR (bS b S) x) k i P j = true → fI (stR (bS b U) x) k i Q j = true := by
  intro k
  induction k with
  | zero => intro i P Q _ _ h; exact h
  | succ k ih => intro i P Q h1 h2 h; exact ih (i + 1) _ _ (by omega) (by omega) (st_mon hb hx x1 h1 (by omega) hSU h)
theorem it_mon {b : Int → Int} {x : Int} {S U : Int → Bool} (hb : WB b) (hx : b (106 + x) = 1) (x1 : 0 ≤ x) (hSU : ∀ s, S s = true → U s = true) : ∀ (k : Nat) (i : Int) (P Q : Int → Bool), (∀ j, P j = true → Q j = true) → ∀ j, itR (bS b S) x k i P j = true → itR (bS b U) x k i Q j = true := by
  have hh := hb.1
  unfold WH at hh
  intro k
  induction k with
  | zero => intro i P Q h; exact h
  | succ k ih =>
    intro i P Q h
    refine ih (i + 1) (psR (bS b S) x P) (psR (bS b U) x Q) ?_
    unfold psR
    rw [bS1, bS1]
    exact fI_mon hb hx x1 hSU (b 1).toNat 0 P Q (by omega) (by omega) h
theorem Rch_mon {b : Int → Int} {x j : Int} {S U : Int → Bool} (hb : WB b) (hx : b (106 + x) = 1) (x1 : 0 ≤ x) (hSU : ∀ s, S s = true → U s = true) (h : Rch b x S j = true) : Rch b x U j = true := it_mon hb hx x1 hSU 8 0 _ _ (fun _ h => h) j h
theorem Rch_at {b : Int → Int} {x : Int} {S : Int → Bool} (hb : WB b) (hx : b (106 + x) = 1) (x1 : 0 ≤ x) : Rch b x S (b (58 + x)) = true := by
  have hh := hb.1
  unfold WH at hh
  have g : ∀ (k : Nat) (i : Int) (P : Int → Bool), P (b (58 + x)) = true → itR (bS b S) x k i P (b (58 + x)) = true := by
    intro k
    induction k with
    | zero => intro i P h; exact h
    | succ k ih =>
      intro i P h
      refine ih (i + 1) (psR (bS b S) x P) ?_
      have := (ps_clo (S := S) (P := P) hb hx x1 (b 1).toNat 0 P (by omega) (by omega) (fun _ h => h)).1 _ h
      unfold psR
      rw [bS1]
      exact this
  exact g 8 0 _ (decide_eq_true rfl)
/-- what a cost stands for -/
def UK (b : Int → Int) (x : Int) (T : Int → Int) : Prop := ∀ j, T j < 1000000000 → ∃ U : Int → Bool, (∀ r, U r = true → 0 ≤ r ∧ r < b 1) ∧ Rch b x U j = true ∧ wP U ≤ T j
theorem UK_st {b : Int → Int} {T : Int → Int} {x r f t : Int} (hb : WB b) (hx : b (106 + x) = 1) (x1 : 0 ≤ x) (x2 : x < b 2) (h1 : 0 ≤ r) (h2 : r < b 1) (hft : (f = b (10 + r) ∧ t = b (22 + r)) ∨ (f = b (22 + r) ∧ t = b (10 + r))) (h : UK b x T) : UK b x (rlq b x r f t T) := by
  have br := bRoad hb h1 h2
  have mr := mo_r (b := b) (x := x) h1 br.2
  unfold rlq
  by_cases w : T f + mo b x r < T t
  · rw [if_pos w]
    intro j hj
    by_cases e : j = t
    · rw [e, bu_s] at hj
      rw [e, bu_s]
      obtain ⟨U, u1, u2, u3⟩ := h f (by omega)
      have go : ∀ V : Int → Bool, al b x V r → Rch b x V f = true → Rch b x V t = true := fun V ha hf => by
        rcases hft with ⟨e1, e2⟩ | ⟨e1, e2⟩
        · rw [e1] at hf; rw [e2]
          exact (Rch_clo hb hx x1 x2 h1 h2 ha (Or.inl hf)).2
        · rw [e1] at hf; rw [e2]
          exact (Rch_clo hb hx x1 x2 h1 h2 ha (Or.inr hf)).1
      by_cases hp : paceB b x r = 2
      · have e0 : mo b x r = 4096 + pw r := if_pos hp
        have pr := pw_r h1 (show r ≤ 12 by omega)
        by_cases hU : U r = true
        · exact ⟨U, u1, go U (Or.inl hU) u2, by omega⟩
        · refine ⟨adA U r, fun s hs => ?_, go _ (Or.inl adA_s) (Rch_mon hb hx x1 (fun s hs => by unfold adA; rw [hs]; rfl) u2), ?_⟩
          · by_cases y : s = r
            · rw [y]; exact ⟨h1, h2⟩
            · rw [adA_o y] at hs; exact u1 s hs
          · rw [wP_ad h1 br.2 (ff hU)]; omega
      · have e0 : mo b x r = 0 := if_neg hp
        exact ⟨U, u1, go U (Or.inr hp) u2, by omega⟩
    · rw [bu_o e] at hj ⊢
      exact h j hj
  · rw [if_neg w]; exact h
theorem UK_it {b : Int → Int} {x : Int} (hb : WB b) (hx : b (106 + x) = 1) (x1 : 0 ≤ x) (x2 : x < b 2) : ∀ (k : Nat) (T : Int → Int), UK b x T → UK b x (itq b x k T) := by
  have hh := hb.1
  unfold WH at hh
  intro k
  induction k with
  | zero => intro T h; exact h
  | succ k ih =>
    intro T h
    refine ih (paq b x T) ?_
    exact fI_ind (V := fun T => UK b x T) (R := b 1) (fun r T u v hv => UK_st hb hx x1 x2 u v (Or.inr ⟨rfl, rfl⟩) (UK_st hb hx x1 x2 u v (Or.inl ⟨rfl, rfl⟩) hv)) (b 1).toNat 0 T (by omega) (by omega) h
theorem upp {b : Int → Int} {x y : Int} (hb : WB b) (hx : b (106 + x) = 1) (x1 : 0 ≤ x) (x2 : x < b 2) (h : PC b x y < 1000000000) : ∃ U : Int → Bool, (∀ r, U r = true → 0 ≤ r ∧ r < b 1) ∧ Rch b x U y = true ∧ wP U ≤ PC b x y := by
  have k0 : UK b x (T0 (b (58 + x)) 0) := fun j hj => by
    unfold T0 at hj ⊢
    by_cases e : j = b (58 + x)
    · refine ⟨fun _ => false, fun r hr => absurd hr Bool.false_ne_true, by rw [e]; exact Rch_at hb hx x1, ?_⟩
      rw [if_pos e]
      exact Int.le_of_eq (by decide)
    · rw [if_neg e] at hj; omega
  exact UK_it hb hx x1 x2 (b 0 - 1).toNat _ k0 y h

