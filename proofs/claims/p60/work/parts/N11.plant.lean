/-! ===== what must be planted is enough, and one road less not ===== -/
theorem has01a : ∀ a c : Fin 64, ∀ r : Fin 12, (zI ((64 * a.val + c.val : Nat) : Int) >>> (zI (r.val : Int) &&& zI 31)) &&& zI 1 = if sN (64 * a.val + c.val) r.val = true then zI 1 else zI 0 := by decide +kernel
theorem has01 (s : Fin 4096) (r : Fin 12) : (zI (s.val : Int) >>> (zI (r.val : Int) &&& zI 31)) &&& zI 1 = if sN s.val r.val = true then zI 1 else zI 0 := by
  have e := has01a ⟨s.val / 64, by omega⟩ ⟨s.val % 64, by omega⟩ r
  have h : 64 * (s.val / 64) + s.val % 64 = s.val := by omega
  simp only [h] at e
  exact e
theorem sB_01 {s r : Int} (s1 : 0 ≤ s) (s2 : s < 4096) (r1 : 0 ≤ r) (r2 : r < 12) : (zI s >>> (zI r &&& zI 31)) &&& zI 1 = if sB s r = true then zI 1 else zI 0 := by
  have e := has01 ⟨s.toNat, by omega⟩ ⟨r.toNat, by omega⟩
  simp only [Int.toNat_of_nonneg s1, Int.toNat_of_nonneg r1] at e
  exact e
theorem w_szI {s : Int} (s1 : 0 ≤ s) (s2 : s < 4096) : wP (sB s) = 4096 * sz s + s := by
  have e := w_sz ⟨s.toNat, by omega⟩
  simp only [Int.toNat_of_nonneg s1] at e
  exact e
/-- the same roads can be gone: the same places are reached -/
theorem st_mo2 {b : Int → Int} {x r : Int} {S U P Q : Int → Bool} (hb : WB b) (hx : b (106 + x) = 1) (x1 : 0 ≤ x) (h1 : 0 ≤ r) (h2 : r < b 1) (hSU : al b x S r → al b x U r) (h : ∀ j, P j = true → Q j = true) : ∀ j, stR (bS b S) x r P j = true → stR (bS b U) x r Q j = true := by
  intro j hj
  by_cases w : al b x S r ∧ (P (b (10 + r)) = true ∨ P (b (22 + r)) = true)
  · have w2 : al b x U r ∧ (Q (b (10 + r)) = true ∨ Q (b (22 + r)) = true) := ⟨hSU w.1, w.2.elim (fun z => Or.inl (h _ z)) (fun z => Or.inr (h _ z))⟩
    rw [stR_al hb hx x1 h1 h2 w] at hj
    rw [stR_al hb hx x1 h1 h2 w2]
    rcases ad_r hj with e | e | e
    · exact ad_up (h j e)
    · rw [e]; exact ad_1
    · rw [e]; exact adA_s
  · rw [stR_na hb hx x1 h1 h2 w] at hj
    by_cases w2 : al b x U r ∧ (Q (b (10 + r)) = true ∨ Q (b (22 + r)) = true)
    · rw [stR_al hb hx x1 h1 h2 w2]; exact ad_up (h j hj)
    · rw [stR_na hb hx x1 h1 h2 w2]; exact h j hj
theorem Rch_al {b : Int → Int} {x j : Int} {S U : Int → Bool} (hb : WB b) (hx : b (106 + x) = 1) (x1 : 0 ≤ x) (hSU : ∀ r, 0 ≤ r → r < b 1 → al b x S r → al b x U r) (h : Rch b x S j = true) : Rch b x U j = true := by
  have hh := hb.1
  unfold WH at hh
  have g1 : ∀ (k : Nat) (i : Int) (P Q : Int → Bool), 0 ≤ i → i + k ≤ b 1 → (∀ j, P j = true → Q j = true) → ∀ j, fI (stR (bS b S) x) k i P j = true → fI (stR (bS b U) x) k i Q j = true := by
    intro k
    induction k with
    | zero => intro i P Q _ _ h; exact h
    | succ k ih => intro i P Q h1 h2 h; exact ih (i + 1) _ _ (by omega) (by omega) (st_mo2 hb hx x1 h1 (by omega) (hSU i h1 (by omega)) h)
  have g2 : ∀ (k : Nat) (i : Int) (P Q : Int → Bool), (∀ j, P j = true → Q j = true) → ∀ j, itR (bS b S) x k i P j = true → itR (bS b U) x k i Q j = true := by
    intro k
    induction k with
    | zero => intro i P Q h; exact h
    | succ k ih =>
      intro i P Q h
      refine ih (i + 1) (psR (bS b S) x P) (psR (bS b U) x Q) ?_
      unfold psR
      rw [bS1, bS1]
      exact g1 (b 1).toNat 0 P Q (by omega) (by omega) h
  exact g2 8 0 _ _ (fun _ h => h) j h
/-- the set B without the road l -/
def Bw (B l : Int) : Int → Bool := fun r => sB B r && decide (¬ r = l)
theorem Bw_t {B l r : Int} : Bw B l r = true ↔ sB B r = true ∧ ¬ r = l := by
  unfold Bw
  simp
theorem ad_Bw {B l : Int} (h : sB B l = true) : adA (Bw B l) l = sB B := by
  funext r
  by_cases e : r = l
  · rw [e, adA_s, h]
  · rw [adA_o e]
    unfold Bw
    simp [e]
/-- without a road of the least set one doesn't come there -/
theorem less {b : Int → Int} {x y l : Int} (hb : WB b) (hx : b (106 + x) = 1) (x1 : 0 ≤ x) (x2 : x < b 2) (y1 : 0 ≤ y) (y2 : y < 8) (hB : 0 ≤ ptB b x y) (l1 : 0 ≤ l) (l2 : l < b 1) (h : sB (ptB b x y) l = true) : ¬ Rch b x (Bw (ptB b x y) l) y = true := by
  intro hr
  have hR := bRoad hb l1 l2
  have lo := low hb hx x1 x2 hr
  rcases plant_eq hb hx x1 x2 y1 y2 with ⟨e, -⟩ | ⟨e1, e2, e3, e4, e5⟩
  · omega
  · have w := w_szI e1 e2
    have wa := wP_ad (U := Bw (ptB b x y) l) (r := l) l1 hR.2 (by unfold Bw; simp)
    rw [ad_Bw h] at wa
    have p := pw_r (r := l) l1 (by omega)
    omega
theorem al_46 {b : Int → Int} {x r : Int} {S : Int → Bool} (hx : b (106 + x) = 1) (h : ¬ b (46 + r) = 0) : al b x S r := by
  right
  unfold paceB
  rw [if_neg (by omega), if_neg (fun z => h z.1)]
  omega
/-- the roads of the least set don't smell yet -/
theorem bare {b : Int → Int} {x y l : Int} (hb : WB b) (hx : b (106 + x) = 1) (x1 : 0 ≤ x) (x2 : x < b 2) (y1 : 0 ≤ y) (y2 : y < 8) (hB : 0 ≤ ptB b x y) (l1 : 0 ≤ l) (l2 : l < b 1) (h : sB (ptB b x y) l = true) : b (46 + l) = 0 := by
  refine Classical.byContradiction fun z => less hb hx x1 x2 y1 y2 hB l1 l2 h ?_
  rcases ptB_r (x := x) (y := y) hb with ⟨e, -⟩ | ⟨-, e2, -⟩
  · omega
  · refine Rch_al hb hx x1 (fun r r1 r2 ha => ?_) e2
    by_cases e : r = l
    · rw [e]; exact al_46 hx z
    · rcases ha with ha | ha
      · exact Or.inl (Bw_t.mpr ⟨ha, e⟩)
      · exact Or.inr ha
/-- what is planted of B but for l up to road w -/
def Sw (B l w : Int) : Int → Bool := fun r => sB B r && (decide (¬ r = l) && decide (0 ≤ r ∧ r < w))
theorem Sw_t {B l w r : Int} : Sw B l w r = true ↔ sB B r = true ∧ ¬ r = l ∧ 0 ≤ r ∧ r < w := by
  unfold Sw
  simp
theorem Sw_0 {b : Int → Int} {B l : Int} : bS b (Sw B l 0) = b := by
  have e : Sw B l 0 = fun _ => false := by
    funext r
    cases h : Sw B l 0 r with
    | false => rfl
    | true => have := Sw_t.mp h; omega
  rw [e]; exact bS_e
theorem Sw_st {B l w r : Int} (h : ¬ r = w) : Sw B l (w + 1) r = Sw B l w r := by
  unfold Sw
  rw [show decide (0 ≤ r ∧ r < w + 1) = decide (0 ≤ r ∧ r < w) from decide_eq_decide.mpr (by omega)]
theorem Sw_n {b : Int → Int} {B l w : Int} (h : ¬ (sB B w = true ∧ ¬ w = l)) : bS b (Sw B l (w + 1)) = bS b (Sw B l w) := by
  have e : Sw B l (w + 1) = Sw B l w := by
    funext r
    by_cases q : r = w
    · subst q
      cases h1 : Sw B l (r + 1) r with
      | true => have := Sw_t.mp h1; exact absurd ⟨this.1, this.2.1⟩ h
      | false =>
        cases h2 : Sw B l r r with
        | true => have := Sw_t.mp h2; omega
        | false => rfl
    · exact Sw_st q
  rw [e]
theorem Sw_p {b : Int → Int} {B l w : Int} (w1 : 0 ≤ w) (w2 : w < 12) (h : sB B w = true ∧ ¬ w = l) : bu (bS b (Sw B l w)) (46 + w) 1 = bS b (Sw B l (w + 1)) := by
  funext z
  by_cases e : z = 46 + w
  · rw [e, bu_s, bS_r w1 w2, if_pos (Sw_t.mpr ⟨h.1, h.2, w1, by omega⟩)]
  · rw [bu_o e]
    unfold bS
    by_cases q : 46 ≤ z ∧ z < 58
    · rw [Sw_st (by omega)]
    · rw [if_neg (fun y => q y.1), if_neg (fun y => q y.1)]
theorem SS_h {X : KM} {b : Int → Int} {bm : Option (Int → Int)} (h : SS X b bm) : X.1 228 (zI 0).toNatClampNeg = zI (b 0) ∧ X.1 228 (zI 1).toNatClampNeg = zI (b 1) ∧ X.1 228 (zI 2).toNatClampNeg = zI (b 2) := SS_Ht h
theorem lp557 {b : Int → Int} {bm : Option (Int → Int)} {B l : Int} {Ln : Nat} {xs : Nat → Int32} {c4 c5 c6 c7 c8 c9 c10 c11 c15 c16 c17 : Int32} {κ : KM → Option Int32} (hb : WB b) (B1 : 0 ≤ B) (B2 : B < 4096) (hl : -1 ≤ l ∧ l < 100) (hp : ∀ r, 0 ≤ r → r < b 1 → sB B r = true → b (46 + r) = 0) :
    ∀ (k n : Nat) (X : KM) (w : Int), SS X (bS b (Sw B l w)) bm → 0 ≤ w → w + k = b 1 → k + 200 ≤ n → ∃ Y, SS Y (bS b (Sw B l (b 1))) bm ∧ lp_L_law_557 n Ln xs 0 228 c4 c5 c6 c7 c8 c9 c10 c11 c15 c16 c17 (zI B) (zI l) (zI w) X κ = κ Y := by
  have hh := hb.1
  unfold WH at hh
  have hi : 0 ≤ b 1 ∧ b 1 ≤ 12 := by omega
  clear hh
  intro k
  induction k with
  | zero =>
    intro n X w hX w0 hk hn
    obtain ⟨m, rfl⟩ : ∃ m, n = m + 1 := ⟨n - 1, by omega⟩
    have h1 := (SS_h hX).2.1
    rw [bS1] at h1
    have : w = b 1 := by omega
    subst this
    refine ⟨X, hX, ?_⟩
    rw [lp_L_law_557]
    simp (disch := first | omega | assumption) only [↓lt, zl, ixT, h1, zleT, if_true]
  | succ k ih =>
    intro n X w hX w0 hk hn
    obtain ⟨m, rfl⟩ : ∃ m, n = m + 1 := ⟨n - 1, by omega⟩
    have h1 := (SS_h hX).2.1
    rw [bS1] at h1
    have e01 := sB_01 B1 B2 w0 (show w < 12 by omega)
    by_cases s : sB B w = true
    · rw [if_pos s] at e01
      by_cases e : w = l
      · obtain ⟨Y, y1, y2⟩ := ih m X (w + 1) (by rw [Sw_n (fun z => z.2 e)]; exact hX) (by omega) (by omega) (by omega)
        refine ⟨Y, y1, ?_⟩
        rw [lp_L_law_557]
        simp (disch := first | omega | assumption) only [↓lt, zl, ixT, h1, zleF, zleT, zeqT, zadd, if_false, if_true, e01, y2]
      · obtain ⟨Z, e1, z1⟩ := s_plant (n := m) (x := w) hX (by omega) (by rw [bS1]; omega) (by
          rw [bS_r w0 (by omega), if_neg (fun z => by have := Sw_t.mp z; omega)]
          exact hp w w0 (by omega) s)
        rw [Sw_p w0 (by omega) ⟨s, e⟩] at z1
        simp only [zl] at e1
        obtain ⟨Y, y1, y2⟩ := ih m Z (w + 1) z1 (by omega) (by omega) (by omega)
        refine ⟨Y, y1, ?_⟩
        rw [lp_L_law_557]
        simp (disch := first | omega | assumption) only [↓lt, zl, ixT, h1, zleF, zleT, zeqT, zeqF, zadd, if_false, if_true, e01, e1, Option.bind_some, y2]
    · rw [if_neg s] at e01
      obtain ⟨Y, y1, y2⟩ := ih m X (w + 1) (by rw [Sw_n (fun z => s z.1)]; exact hX) (by omega) (by omega) (by omega)
      refine ⟨Y, y1, ?_⟩
      rw [lp_L_law_557]
      simp (disch := first | omega | assumption) only [↓lt, zl, ixT, h1, zleF, zleT, zeqT, zeqF, zadd, if_false, if_true, e01, y2]
theorem lp518 {b : Int → Int} {x y : Int} {Ln : Nat} {xs : Nat → Int32} {c4 c5 c6 c7 c8 c9 c10 c15 c17 : Int32} {κ : KM → Option Int32} (hb : WB b) (hx : b (106 + x) = 1) (x1 : 0 ≤ x ∧ x < b 2) (x3 : b (66 + x) < 0) (y1 : 0 ≤ y) (y2 : y < b 0) (hB : 0 ≤ ptB b x y) :
    ∀ (k n : Nat) (X : KM) (l : Int), SS X b none → -1 ≤ l → l + k = b 1 → k + 400 ≤ n → ∃ Y, SS Y b none ∧ lp_L_law_518 n Ln xs 0 228 c4 c5 c6 c7 c8 c9 c10 (zI x) c15 (zI y) c17 (zI (ptB b x y)) (zI l) X κ = κ Y := by
  have hh := hb.1
  unfold WH at hh
  have hi : 0 ≤ b 1 ∧ b 1 ≤ 12 ∧ b 0 ≤ 8 ∧ b 2 ≤ 8 := by omega
  clear hh
  have hpt : ptB b x y < 4096 := by
    rcases plant_eq hb hx x1.1 x1.2 y1 (by omega) with ⟨e, -⟩ | ⟨-, e2, -⟩
    · omega
    · exact e2
  have hR : Rch b x (sB (ptB b x y)) y = true := by
    rcases ptB_r (x := x) (y := y) hb with ⟨e, -⟩ | ⟨-, e2, -⟩
    · omega
    · exact e2
  have bar := fun r r1 r2 h => bare (l := r) hb hx x1.1 x1.2 y1 (by omega) hB r1 r2 h
  have les := fun r r1 r2 h => less (l := r) hb hx x1.1 x1.2 y1 (by omega) hB r1 r2 h
  generalize ptB b x y = B at *
  have bit : ∀ l, -1 ≤ l → l < b 1 → (0 ≤ l → sB B l = true) → Rch b x (Sw B l (b 1)) y = decide (l < 0) := by
    intro l l1 l2 l3
    by_cases e : l < 0
    · rw [decide_eq_true e]
      exact Rch_al hb hx x1.1 (fun r r1 r2 ha => ha.elim (fun z => Or.inl (Sw_t.mpr ⟨z, by omega, r1, r2⟩)) Or.inr) hR
    · rw [decide_eq_false e]
      cases q : Rch b x (Sw B l (b 1)) y with
      | false => rfl
      | true =>
        refine absurd (Rch_al hb hx x1.1 (fun r r1 r2 ha => ha.elim (fun z => ?_) Or.inr) q) (les l (by omega) l2 (l3 (by omega)))
        have := Sw_t.mp z
        exact Or.inl (Bw_t.mpr ⟨this.1, this.2.1⟩)
  intro k
  induction k with
  | zero =>
    intro n X l hX l1 hk hn
    obtain ⟨m, rfl⟩ : ∃ m, n = m + 1 := ⟨n - 1, by omega⟩
    have h1 := (SS_h hX).2.1
    have : l = b 1 := by omega
    subst this
    refine ⟨X, hX, ?_⟩
    rw [lp_L_law_518]
    simp (disch := first | omega | assumption) only [↓lt, zl, ixT, h1, zleT, if_true]
  | succ k ih =>
    intro n X l hX l1 hk hn
    obtain ⟨m, rfl⟩ : ∃ m, n = m + 1 := ⟨n - 1, by omega⟩
    have h1 := (SS_h hX).2.1
    have body : (0 ≤ l → sB B l = true) → ∃ Y, SS Y b none ∧ ((f_X11_mark m 0 X).bind fun (v70 : (Int32 × KM)) =>
        if v70.1 = zI 1 then
          lp_L_law_557 m Ln xs 0 228 c4 c5 c6 c7 c8 c9 c10 (zI x) c15 (zI y) c17 (zI B) (zI l) (zI 0) v70.2
            (fun (M79 : KM) => (
              (f_X11_reach m 0 (zI x) M79).bind fun (v80 : (Int32 × KM)) =>
                if ((v80.1 >>> (zI y &&& zI 31)) &&& zI 1) = (if 0 ≤ l then zI 0 else zI 1) then
                  (f_X11_back m 0 v80.2).bind fun (v82 : (Int32 × KM)) =>
                  if v82.1 = zI 0 then
                    lp_L_law_518 m Ln xs 0 228 c4 c5 c6 c7 c8 c9 c10 (zI x) c15 (zI y) c17 (zI B) (zI (l + 1)) v82.2 κ
                  else
                    some (zI 0)
                else
                  some (zI 0)))
        else
          some (zI 0)) = κ Y := by
      intro hl
      obtain ⟨X1, e1, s1⟩ := SS_mark (n := m) hX (by omega)
      obtain ⟨X2, s2, e2⟩ := lp557 (b := b) (bm := some b) (B := B) (l := l) (Ln := Ln) (xs := xs) (c4 := c4) (c5 := c5) (c6 := c6) (c7 := c7) (c8 := c8) (c9 := c9) (c10 := c10) (c11 := zI x) (c15 := c15) (c16 := zI y) (c17 := c17) (κ := fun (M79 : KM) => (
              (f_X11_reach m 0 (zI x) M79).bind fun (v80 : (Int32 × KM)) =>
                if ((v80.1 >>> (zI y &&& zI 31)) &&& zI 1) = (if 0 ≤ l then zI 0 else zI 1) then
                  (f_X11_back m 0 v80.2).bind fun (v82 : (Int32 × KM)) =>
                  if v82.1 = zI 0 then
                    lp_L_law_518 m Ln xs 0 228 c4 c5 c6 c7 c8 c9 c10 (zI x) c15 (zI y) c17 (zI B) (zI (l + 1)) v82.2 κ
                  else
                    some (zI 0)
                else
                  some (zI 0))) hb hB hpt (by omega) bar (b 1).toNat m X1 0 (by rw [Sw_0]; exact s1) (by omega) (by omega) (by omega)
      obtain ⟨X3, e3, s3⟩ := r_reach (n := m) (x := x) (b := bS b (Sw B l (b 1))) (by omega) (by rw [bS_o (by omega)]; exact x1) (by rw [bS_o (by omega)]; exact x3) X2 (some b) s2
      rw [bS_o (z := 58 + x) (by omega)] at e3
      have eb := setBk_01 (P := Rch b x (Sw B l (b 1))) (k := 8) (q := y) (by omega) (by omega) y1 (by omega)
      have eR : itR (bS b (Sw B l (b 1))) x 8 0 (fun i => decide (i = b (58 + x))) = Rch b x (Sw B l (b 1)) := rfl
      rw [eR] at e3
      rw [bit l l1 (by omega) hl] at eb
      simp only [zl] at eb
      obtain ⟨X4, e4, s4⟩ := SS_back (n := m) s3 (bS_o (by omega)).symm (bS_o (by omega)).symm (bS_o (by omega)).symm (by omega)
      obtain ⟨Y, q1, q2⟩ := ih m X4 (l + 1) s4 (by omega) (by omega) (by omega)
      refine ⟨Y, q1, ?_⟩
      rw [e1, Option.bind_some]
      dsimp only
      rw [if_pos rfl, e2, e3, Option.bind_some]
      dsimp only
      rw [if_pos (by
        rw [eb]
        by_cases w : 0 ≤ l
        · rw [if_pos w, if_neg (by rw [decide_eq_false (by omega)]; exact Bool.false_ne_true)]
        · rw [if_neg w, if_pos (decide_eq_true (by omega))]), e4, Option.bind_some]
      dsimp only
      rw [if_pos rfl]
      exact q2
    by_cases l0 : l < 0
    · obtain ⟨Y, q1, q2⟩ := body (by omega)
      refine ⟨Y, q1, ?_⟩
      rw [← q2, lp_L_law_518]
      rw [if_neg (show ¬ 0 ≤ l by omega)]
      simp (disch := first | omega | assumption) only [↓lt, zl, ixT, h1, zleF, zltT, zadd, if_false, if_true]
    · have e01 := sB_01 hB hpt (show 0 ≤ l by omega) (show l < 12 by omega)
      by_cases s : sB B l = true
      · rw [if_pos s] at e01
        obtain ⟨Y, q1, q2⟩ := body (fun _ => s)
        refine ⟨Y, q1, ?_⟩
        rw [← q2, lp_L_law_518]
        rw [if_pos (show 0 ≤ l by omega)]
        simp (disch := first | omega | assumption) only [↓lt, zl, ixT, h1, zleF, zleT, zltF, zeqF, zadd, if_false, if_true, e01]
      · rw [if_neg s] at e01
        obtain ⟨Y, q1, q2⟩ := ih m X (l + 1) hX (by omega) (by omega) (by omega)
        refine ⟨Y, q1, ?_⟩
        rw [lp_L_law_518]
        simp (disch := first | omega | assumption) only [↓lt, zl, ixT, h1, zleF, zltF, zeqT, zadd, if_false, if_true, e01, q2]
