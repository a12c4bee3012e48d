/-! ===== enough passes ===== -/
/-- what is not above x is right -/
def St (b : Int → Int) (p q x : Int) (T : Int → Int) : Prop := ∀ r, 0 ≤ r → r < b 1 → (a2I b p q r (T (b (10 + r))) ≤ x → T (b (22 + r)) ≤ a2I b p q r (T (b (10 + r)))) ∧ (a2I b p q r (T (b (22 + r))) ≤ x → T (b (10 + r)) ≤ a2I b p q r (T (b (22 + r))))
def Wd (x : Int) (T U : Int → Int) : Prop := ∀ j, U j ≤ T j ∧ (U j < T j → x < U j)
theorem rlx_le {b U : Int → Int} {p q r f t j : Int} : rlx b p q r f t U j ≤ U j := by
  unfold rlx
  by_cases w : a2I b p q r (U f) < U t
  · rw [if_pos w]
    by_cases e : j = t
    · rw [e, bu_s]; omega
    · rw [bu_o e]; omega
  · rw [if_neg w]; omega
theorem rlx_t {b U : Int → Int} {p q r f t : Int} : rlx b p q r f t U t ≤ a2I b p q r (U f) := by
  unfold rlx
  by_cases w : a2I b p q r (U f) < U t
  · rw [if_pos w, bu_s]; omega
  · rw [if_neg w]; omega
theorem rlx_W {b T U : Int → Int} {p q r f t x B : Int} (hb : WB b) (hB : B ≤ 900000) (h3 : 0 ≤ r) (h4 : r < b 1) (f1 : 0 ≤ f) (f2 : f < 8) (hU : okB2 B U) (hs : a2I b p q r (T f) ≤ x → T t ≤ a2I b p q r (T f)) (h : Wd x T U) : Wd x T (rlx b p q r f t U) := by
  have Uf := hU f f1 f2
  have ra := a2I_r (p := p) (q := q) hb h3 h4 Uf.1 (by omega)
  unfold rlx
  by_cases w : a2I b p q r (U f) < U t
  · rw [if_pos w]
    intro j
    by_cases e : j = t
    · rw [e, bu_s]
      have ht := h t
      refine ⟨by omega, fun hlt => ?_⟩
      by_cases y : x < a2I b p q r (U f)
      · exact y
      · exfalso
        have hf := h f
        have e : U f = T f := by
          by_cases z : U f < T f
          · have := hf.2 z; omega
          · omega
        rw [e] at hlt y
        have := hs (by omega)
        omega
    · rw [bu_o e]; exact h j
  · rw [if_neg w]; exact h
theorem fI_ix {α : Type} {f : Int → α → α} {V : Int → α → Prop} {R : Int} (h : ∀ i w, 0 ≤ i → i < R → V i w → V (i + 1) (f i w)) : ∀ (k : Nat) (i : Int) (w : α), 0 ≤ i → i + k ≤ R → V i w → V (i + k) (fI f k i w) := by
  intro k
  induction k with
  | zero => intro i w _ _ hv; rw [show i + ((0 : Nat) : Int) = i by omega]; exact hv
  | succ k ih =>
    intro i w h1 h2 hv
    simp only [fI]
    have := ih (i + 1) (f i w) (by omega) (by omega) (h i w h1 (by omega) hv)
    rw [show i + ((k + 1 : Nat) : Int) = i + 1 + k by omega]
    exact this
def Vp (b : Int → Int) (p q x B : Int) (T : Int → Int) (i : Int) (U : Int → Int) : Prop := Wd x T U ∧ okB2 (B + 5760 * i) U ∧ ∀ r, 0 ≤ r → r < i → (T (b (10 + r)) ≤ x → U (b (22 + r)) ≤ a2I b p q r (T (b (10 + r)))) ∧ (T (b (22 + r)) ≤ x → U (b (10 + r)) ≤ a2I b p q r (T (b (22 + r))))
theorem pass_V {b T : Int → Int} {p q x B : Int} (hb : WB b) (hB : 0 ≤ B ∧ B + 80000 ≤ 900000) (hT : okB2 B T) (hs : St b p q x T) : Vp b p q x B T (b 1) (pass b p q T) := by
  have hh := hb.1
  unfold WH at hh
  have hi : 0 ≤ b 1 ∧ b 1 ≤ 12 ∧ b 0 ≤ 8 := by omega
  clear hh
  have g := fI_ix (f := bth b p q) (V := Vp b p q x B T) (R := b 1) (fun r U u v hV => ?_) (b 1).toNat 0 T (by omega) (by omega) ⟨fun j => ⟨Int.le_refl _, fun z => absurd z (Int.lt_irrefl _)⟩, by rw [Int.mul_zero, Int.add_zero]; exact hT, fun r h1 h2 => by omega⟩
  · rw [show (0 : Int) + ((b 1).toNat : Int) = b 1 by omega] at g
    exact g
  · obtain ⟨hW, hO, hE⟩ := hV
    have hR := hb.2.1 r u v
    unfold WR at hR
    have i1 : 0 ≤ b (10 + r) ∧ b (10 + r) < 8 ∧ 0 ≤ b (22 + r) ∧ b (22 + r) < 8 := by omega
    clear hR
    have hst := hs r u v
    have W1 := rlx_W (t := b (22 + r)) hb (show B + 5760 * r ≤ 900000 by omega) u v i1.1 i1.2.1 hO hst.1 hW
    have O1 := rlx_ok (p := p) (q := q) (t := b (22 + r)) hb (show B + 5760 * r ≤ 900000 by omega) hO u v i1.1 i1.2.1
    have W2 := rlx_W (t := b (10 + r)) hb (show B + 5760 * r + 2880 ≤ 900000 by omega) u v i1.2.2.1 i1.2.2.2 O1 hst.2 W1
    have O2 := bth_ok (p := p) (q := q) (r := r) hb (show B + 5760 * r + 2880 ≤ 900000 by omega) hO u v
    rw [show B + 5760 * r + 5760 = B + 5760 * (r + 1) by omega] at O2
    have t1 := rlx_t (b := b) (U := U) (p := p) (q := q) (r := r) (f := b (10 + r)) (t := b (22 + r))
    have t2 := rlx_t (b := b) (U := rlx b p q r (b (10 + r)) (b (22 + r)) U) (p := p) (q := q) (r := r) (f := b (22 + r)) (t := b (10 + r))
    have l1 := fun j => rlx_le (b := b) (U := U) (p := p) (q := q) (r := r) (f := b (10 + r)) (t := b (22 + r)) (j := j)
    have l2 := fun j => rlx_le (b := b) (U := rlx b p q r (b (10 + r)) (b (22 + r)) U) (p := p) (q := q) (r := r) (f := b (22 + r)) (t := b (10 + r)) (j := j)
    refine ⟨W2, O2, fun s s1 s2 => ?_⟩
    unfold bth
    by_cases e : s = r
    · subst e
      refine ⟨fun hx => ?_, fun hx => ?_⟩
      · have e : U (b (10 + s)) = T (b (10 + s)) := by
          have := hW (b (10 + s))
          by_cases z : U (b (10 + s)) < T (b (10 + s))
          · have := this.2 z; omega
          · omega
        rw [e] at t1
        have := l2 (b (22 + s))
        omega
      · have e : rlx b p q s (b (10 + s)) (b (22 + s)) U (b (22 + s)) = T (b (22 + s)) := by
          have := W1 (b (22 + s))
          by_cases z : rlx b p q s (b (10 + s)) (b (22 + s)) U (b (22 + s)) < T (b (22 + s))
          · have := this.2 z; omega
          · omega
        rw [e] at t2
        exact t2
    · have hE2 := hE s s1 (by omega)
      refine ⟨fun hx => ?_, fun hx => ?_⟩
      · have := hE2.1 hx
        have a1 := l1 (b (22 + s))
        have a2 := l2 (b (22 + s))
        omega
      · have := hE2.2 hx
        have a1 := l1 (b (10 + s))
        have a2 := l2 (b (10 + s))
        omega
theorem sum_lt {f h : Int → Int} {q : Int} : ∀ (k : Nat) (i w v c : Int), (∀ j, i ≤ j → j < i + k → f j + (if j = q then 1 else 0) ≤ h j) → w + c ≤ v → fI (fun i w => w + f i) k i w + c + (if i ≤ q ∧ q < i + k then 1 else 0) ≤ fI (fun i w => w + h i) k i v := by
  intro k
  induction k with
  | zero =>
    intro i w v c _ h2
    rw [if_neg (by omega)]
    show w + c + 0 ≤ v
    omega
  | succ k ih =>
    intro i w v c h1 h2
    simp only [fI]
    have e := h1 i (by omega) (by omega)
    by_cases y : i = q
    · rw [if_pos y] at e
      have := ih (i + 1) (w + f i) (v + h i) (c + 1) (fun j a d => h1 j (by omega) (by omega)) (by omega)
      rw [if_neg (by omega)] at this
      rw [if_pos (by omega)]
      omega
    · rw [if_neg y] at e
      have := ih (i + 1) (w + f i) (v + h i) c (fun j a d => h1 j (by omega) (by omega)) (by omega)
      by_cases z : i + 1 ≤ q ∧ q < i + 1 + k
      · rw [if_pos z] at this
        rw [if_pos (by omega)]
        omega
      · rw [if_neg z] at this
        rw [if_neg (by omega)]
        omega
/-- how many are not above x -/
def cn (b : Int → Int) (x : Int) (T : Int → Int) : Int := sumB (fun j => if T j ≤ x then 1 else 0) (b 0)
theorem cn_up {b T U : Int → Int} {x y q : Int} (h0 : 0 ≤ b 0) (q1 : 0 ≤ q) (q2 : q < b 0) (h : ∀ j, 0 ≤ j → j < b 0 → T j ≤ x → U j ≤ y) (hq : ¬ T q ≤ x) (hq2 : U q ≤ y) : cn b x T + 1 ≤ cn b y U := by
  have := sum_lt (f := fun j => if T j ≤ x then 1 else 0) (h := fun j => if U j ≤ y then 1 else 0) (q := q) (b 0).toNat 0 0 0 0 (fun j j1 j2 => by
    have e := h j j1 (by omega)
    by_cases w : T j ≤ x
    · simp only [if_pos w, if_pos (e w)]
      rw [if_neg (fun z : j = q => hq (by rw [← z]; exact w))]; omega
    · simp only [if_neg w]
      by_cases z : j = q
      · rw [if_pos z, z, if_pos hq2]; omega
      · rw [if_neg z]
        by_cases v : U j ≤ y
        · rw [if_pos v]; omega
        · rw [if_neg v]; omega) (by omega)
  rw [if_pos (by omega)] at this
  have this : cn b x T + 0 + 1 ≤ cn b y U := this
  omega
theorem cn_le {b T : Int → Int} {x : Int} (h0 : 0 ≤ b 0) : cn b x T ≤ b 0 := by
  have hr := sum_rr (f := fun i => if T i ≤ x then (1 : Int) else 0) (c := 0) (d := 1) (fun i => by
    by_cases w : T i ≤ x
    · simp only [if_pos w]; omega
    · simp only [if_neg w]; omega) (b 0).toNat 0
  have h2 := hr.2
  rw [Int.mul_one] at h2
  have h3 : (((b 0).toNat : Nat) : Int) = b 0 := by omega
  rw [h3] at h2
  exact h2
theorem min_ex {P : Int → Prop} {T : Int → Int} {x : Int} (hx : ∀ j, P j → x ≤ T j) : ∀ (d : Nat) (j : Int), P j → T j < x + d → ∃ i, P i ∧ ∀ l, P l → T i ≤ T l := by
  intro d
  induction d with
  | zero => intro j h1 h2; have := hx j h1; omega
  | succ d ih =>
    intro j h1 h2
    by_cases w : ∃ l, P l ∧ T l < T j
    · obtain ⟨l, l1, l2⟩ := w
      exact ih l l1 (by omega)
    · exact ⟨j, h1, fun l hl => by
        by_cases z : T l < T j
        · exact absurd ⟨l, hl, z⟩ w
        · omega⟩
def Jn (b : Int → Int) (p q c : Int) (T : Int → Int) : Prop := SF b p q T ∨ ∃ x, 0 ≤ x ∧ x < 1000000000 ∧ St b p q x T ∧ c ≤ cn b x T
theorem Jn_st {b T : Int → Int} {p q c B : Int} (hb : WB b) (hB : 0 ≤ B ∧ B + 80000 ≤ 900000) (hT : okB2 B T) (h : Jn b p q c T) : Jn b p q (c + 1) (pass b p q T) := by
  have hh := hb.1
  unfold WH at hh
  have hi : 0 ≤ b 1 ∧ b 1 ≤ 12 ∧ 0 ≤ b 0 ∧ b 0 ≤ 8 := by omega
  clear hh
  rcases h with h | ⟨x, x0, x1, hs, hc⟩
  · rw [SF_pass hb h]; exact Or.inl h
  · have ok := pass_ok (p := p) (q := q) hb hB hT
    obtain ⟨hW, -, hE⟩ := pass_V hb hB hT hs
    have sm : ∀ j, pass b p q T j ≤ x → pass b p q T j = T j := fun j hj => by
      have := hW j
      by_cases z : pass b p q T j < T j
      · have := this.2 z; omega
      · omega
    generalize pass b p q T = U at *
    by_cases w : ∃ j, 0 ≤ j ∧ j < b 0 ∧ x < U j ∧ U j < 1000000000
    · obtain ⟨j, j1, j2, j3, j4⟩ := w
      obtain ⟨i, ⟨i1, i2, i3, i4⟩, im⟩ := min_ex (P := fun j => 0 ≤ j ∧ j < b 0 ∧ x < U j ∧ U j < 1000000000) (T := U) (x := x) (fun j hj => by have := hj.2.2.1; omega) 1000000000 j ⟨j1, j2, j3, j4⟩ (by omega)
      refine Or.inr ⟨U i, by omega, i4, fun r u v => ?_, ?_⟩
      · have hR := hb.2.1 r u v
        unfold WR at hR
        have k1 : 0 ≤ b (10 + r) ∧ b (10 + r) < b 0 ∧ 0 ≤ b (22 + r) ∧ b (22 + r) < b 0 := by omega
        clear hR
        have hEr := hE r u v
        refine ⟨fun hx => ?_, fun hx => ?_⟩
        · have o := ok (b (10 + r)) k1.1 (by omega)
          have ra := a2I_r (p := p) (q := q) hb u v o.1 (by omega)
          have lt1 : U (b (10 + r)) < U i := by
            have := ra.1 (by omega)
            omega
          have le : U (b (10 + r)) ≤ x := by
            by_cases z : x < U (b (10 + r))
            · have := im (b (10 + r)) ⟨k1.1, k1.2.1, z, by omega⟩; omega
            · omega
          have e := sm _ le
          rw [e] at le ⊢
          exact hEr.1 le
        · have o := ok (b (22 + r)) k1.2.2.1 (by omega)
          have ra := a2I_r (p := p) (q := q) hb u v o.1 (by omega)
          have lt1 : U (b (22 + r)) < U i := by
            have := ra.1 (by omega)
            omega
          have le : U (b (22 + r)) ≤ x := by
            by_cases z : x < U (b (22 + r))
            · have := im (b (22 + r)) ⟨k1.2.2.1, k1.2.2.2, z, by omega⟩; omega
            · omega
          have e := sm _ le
          rw [e] at le ⊢
          exact hEr.2 le
      · have := cn_up (b := b) (T := T) (U := U) (x := x) (y := U i) (q := i) hi.2.2.1 i1 i2 (fun j _ _ hj => by have := (hW j).1; omega) (by have := (hW i).1; omega) (Int.le_refl _)
        omega
    · refine Or.inl (fun r u v => ?_)
      have hR := hb.2.1 r u v
      unfold WR at hR
      have k1 : 0 ≤ b (10 + r) ∧ b (10 + r) < b 0 ∧ 0 ≤ b (22 + r) ∧ b (22 + r) < b 0 := by omega
      clear hR
      have hEr := hE r u v
      have o1 := ok (b (10 + r)) k1.1 (by omega)
      have o2 := ok (b (22 + r)) k1.2.2.1 (by omega)
      refine ⟨?_, ?_⟩
      · by_cases z : U (b (10 + r)) ≤ x
        · have e := sm _ z
          rw [e] at z ⊢
          exact hEr.1 z
        · have z2 : ¬ U (b (10 + r)) < 1000000000 := fun y => w ⟨_, k1.1, k1.2.1, by omega, y⟩
          have ra := a2I_r (p := p) (q := q) hb u v o1.1 (by omega)
          omega
      · by_cases z : U (b (22 + r)) ≤ x
        · have e := sm _ z
          rw [e] at z ⊢
          exact hEr.2 z
        · have z2 : ¬ U (b (22 + r)) < 1000000000 := fun y => w ⟨_, k1.2.2.1, k1.2.2.2, by omega, y⟩
          have ra := a2I_r (p := p) (q := q) hb u v o2.1 (by omega)
          omega
theorem Jn_it {b : Int → Int} {p q : Int} (hb : WB b) : ∀ (k : Nat) (T : Int → Int) (c B : Int), 0 ≤ B → B + 70000 * k + 80000 ≤ 900000 → okB2 B T → Jn b p q c T → Jn b p q (c + k) (itP b p q k T) := by
  intro k
  induction k with
  | zero => intro T c B _ _ _ h; rw [show c + ((0 : Nat) : Int) = c by omega]; exact h
  | succ k ih =>
    intro T c B h1 h2 h3 h
    have := ih (pass b p q T) (c + 1) (B + 70000) (by omega) (by omega) (pass_ok hb ⟨h1, by omega⟩ h3) (Jn_st hb ⟨h1, by omega⟩ h3 h)
    rw [show c + ((k + 1 : Nat) : Int) = c + 1 + k by omega]
    exact this
theorem Jn_end {b T : Int → Int} {p q c : Int} (hb : WB b) (hc : b 0 ≤ c) (h : Jn b p q c T) : SF b p q T := by
  have hh := hb.1
  unfold WH at hh
  have hi : 0 ≤ b 0 ∧ b 0 ≤ 8 := by omega
  clear hh
  rcases h with h | ⟨x, x0, x1, hs, hc2⟩
  · exact h
  · have al : ∀ j, 0 ≤ j → j < b 0 → T j ≤ x := fun j j1 j2 => by
      by_cases z : T j ≤ x
      · exact z
      · have e1 := cn_up (b := b) (T := T) (U := fun _ => 0) (x := x) (y := 0) (q := j) hi.1 j1 j2 (fun _ _ _ _ => Int.le_refl _) z (Int.le_refl _)
        have e2 := cn_le (b := b) (T := fun _ => 0) (x := 0) hi.1
        omega
    intro r u v
    have hR := hb.2.1 r u v
    unfold WR at hR
    have k1 : 0 ≤ b (10 + r) ∧ b (10 + r) < b 0 ∧ 0 ≤ b (22 + r) ∧ b (22 + r) < b 0 := by omega
    clear hR
    have s := hs r u v
    have a1 := al _ k1.1 k1.2.1
    have a2 := al _ k1.2.2.1 k1.2.2.2
    refine ⟨?_, ?_⟩
    · by_cases z : a2I b p q r (T (b (10 + r))) ≤ x
      · exact s.1 z
      · omega
    · by_cases z : a2I b p q r (T (b (22 + r))) ≤ x
      · exact s.2 z
      · omega
/-- at one place at a minute, nowhere else ever -/
def T0 (f s : Int) : Int → Int := fun j => if j = f then s else 1000000000
theorem T0_ok {f s B : Int} (h1 : 0 ≤ s) (h2 : s ≤ B ∨ s = 1000000000) : okB2 B (T0 f s) := by
  intro j _ _
  unfold T0
  by_cases e : j = f
  · rw [if_pos e]; omega
  · rw [if_neg e]; omega
theorem T0_J {b : Int → Int} {p q f s : Int} (hb : WB b) (f1 : 0 ≤ f) (f2 : f < b 0) (h1 : 0 ≤ s) (h2 : s ≤ 900000) : Jn b p q 1 (T0 f s) := by
  have hh := hb.1
  unfold WH at hh
  have hi : 0 ≤ b 0 ∧ b 0 ≤ 8 := by omega
  clear hh
  have t : ∀ j, s ≤ T0 f s j ∧ (T0 f s j = s ∨ T0 f s j = 1000000000) := fun j => by
    unfold T0
    by_cases e : j = f
    · rw [if_pos e]; omega
    · rw [if_neg e]; omega
  refine Or.inr ⟨s, h1, by omega, fun r u v => ⟨fun hx => ?_, fun hx => ?_⟩, ?_⟩
  · exfalso
    have tj := t (b (10 + r))
    have ra := a2I_r (p := p) (q := q) hb u v (show 0 ≤ T0 f s (b (10 + r)) by omega) (by omega)
    rcases tj.2 with e | e
    · have := ra.1 (by omega); omega
    · omega
  · exfalso
    have tj := t (b (22 + r))
    have ra := a2I_r (p := p) (q := q) hb u v (show 0 ≤ T0 f s (b (22 + r)) by omega) (by omega)
    rcases tj.2 with e | e
    · have := ra.1 (by omega); omega
    · omega
  · have e1 := cn_up (b := b) (T := fun _ => 1) (U := T0 f s) (x := 0) (y := s) (q := f) hi.1 f1 f2 (fun _ _ _ z => by omega) (by decide) (by unfold T0; rw [if_pos rfl]; omega)
    have e2 : 0 ≤ cn b 0 (fun _ => 1) := by
      have hr := sum_rr (f := fun i => if (fun _ => (1 : Int)) i ≤ (0 : Int) then (1 : Int) else 0) (c := 0) (d := 1) (fun i => by
        simp only [if_neg (show ¬ (1 : Int) ≤ 0 by decide)]; omega) (b 0).toNat 0
      have h2 := hr.1
      rw [Int.mul_zero] at h2
      exact h2
    omega
theorem T0_SF {b : Int → Int} {p q f s : Int} (hb : WB b) (f1 : 0 ≤ f) (f2 : f < b 0) (h1 : 0 ≤ s) (h2 : s ≤ 110000) : SF b p q (itP b p q (b 0 - 1).toNat (T0 f s)) := by
  have hh := hb.1
  unfold WH at hh
  have hi : 0 ≤ b 0 ∧ b 0 ≤ 8 := by omega
  clear hh
  exact Jn_end hb (c := 1 + ((b 0 - 1).toNat : Nat)) (by omega) (Jn_it hb (b 0 - 1).toNat (T0 f s) 1 110000 (by omega) (by omega) (T0_ok h1 (by omega)) (T0_J hb f1 f2 h1 (by omega)))

