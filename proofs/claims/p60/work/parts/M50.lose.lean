/-! ===== minutes lost, as the reference walks them ===== -/
theorem cI_90 {b : Int → Int} {n q : Int} (h1 : 0 ≤ q) (h2 : q < 8) (g : goQ b q) : cI b n (90 + q) = b (90 + q) + LO b n q := by
  have e := cI_f (b := b) (n := n) (q := q) (j := 4) h1 h2 (by omega) (by omega)
  rw [show 58 + 8 * 4 + q = 90 + q by omega] at e
  rw [e]
  unfold LO
  by_cases a : arQ b n q
  · rw [cF_ar a, if_pos a.2]; rfl
  · rw [cF_on g a, if_neg (fun z => a ⟨g, z⟩)]; rfl
theorem LO_step {b : Int → Int} {n q : Int} (hb : WB b) (hn : 0 ≤ n) (hn2 : b 5 + n < 200000) (h1 : 0 ≤ q) (h2 : q < 8) (g : goQ b q) : LO b (n + 1) q = LO b n q + (if AG (cI b n) q = true ∧ ¬ caB (cI b n) q then 1 else 0) := by
  have e1 := cI_90 (n := n + 1) h1 h2 g
  have e2 := cI_90 (n := n) h1 h2 g
  rw [← cI_step hb hn hn2] at e1
  have e3 := mN_f (b := cI b n) (q := q) (j := 4) h1 h2 (by omega) (by omega)
  rw [show 58 + 8 * 4 + q = 90 + q by omega] at e3
  by_cases a : AG (cI b n) q = true
  · rw [if_pos a] at e3
    unfold colF at e3
    by_cases c : caB (cI b n) q
    · rw [if_neg (fun z => z.2 c)]
      rw [if_pos c] at e3
      have e4 : mN (cI b n) (90 + q) = cI b n (90 + q) := by
        rw [e3]
        by_cases y : cI b n (74 + q) = 1
        · rw [if_pos y]; rfl
        · rw [if_neg y]; rfl
      omega
    · rw [if_pos ⟨a, c⟩]
      rw [if_neg c] at e3
      have e4 : mN (cI b n) (90 + q) = cI b n (90 + q) + 1 := e3
      omega
  · rw [if_neg (fun z => a z.1)]
    rw [if_neg a] at e3
    omega
theorem fI_add {f h e : Int → Int} : ∀ (k : Nat) (i w v : Int), (∀ j, i ≤ j → j < i + k → e j = f j + h j) → fI (fun i w => w + e i) k i (w + v) = fI (fun i w => w + f i) k i w + fI (fun i w => w + h i) k i v := by
  intro k
  induction k with
  | zero => intro i w v _; rfl
  | succ k ih =>
    intro i w v hh
    simp only [fI]
    rw [← ih (i + 1) (w + f i) (v + h i) (fun j a b => hh j (by omega) (by omega)), hh i (by omega) (by omega)]
    congr 1
    omega
theorem sumB_add {f h e : Int → Int} {k : Int} (hh : ∀ j, 0 ≤ j → j < k → e j = f j + h j) : sumB e k = sumB f k + sumB h k :=
  fI_add k.toNat 0 0 0 (fun j a b => hh j a (by omega))
theorem sumB_c {f h : Int → Int} {k : Int} (hh : ∀ j, 0 ≤ j → j < k → f j = h j) : sumB f k = sumB h k :=
  fI_c k.toNat 0 0 (fun j v a b => by rw [hh j a (by omega)])
def lT (b : Int → Int) (n : Int) : Int := sumB (fun q => if goQ b q then LO b n q else 0) 8
theorem lT_step {b : Int → Int} {n : Int} (hb : WB b) (hn : 0 ≤ n) (hn2 : b 5 + n < 200000) : lT b n + lS (cI b n) (AG (cI b n)) = lT b (n + 1) := by
  refine (sumB_add (fun q h1 h2 => ?_)).symm
  by_cases g : goQ b q
  · rw [if_pos g, if_pos g, LO_step hb hn hn2 h1 h2 g]
  · rw [if_neg g, if_neg g, if_neg (fun z => g ((AG_c hb h1 h2).mp z.1).1)]
    rfl
theorem lT_0 {b : Int → Int} (hb : WB b) : lT b 0 = 0 := by
  unfold lT
  rw [sumB_c (h := fun _ => 0) (fun q h1 h2 => ?_)]
  · rfl
  · by_cases g : goQ b q
    · rw [if_pos g]
      unfold LO
      rw [kQ_0, if_neg (fun z => ar_0 hb ⟨g, by rw [kQ_0]; exact z⟩)]
      rfl
    · rw [if_neg g]
theorem sum_rr {f : Int → Int} {c d : Int} (hd : ∀ i, c ≤ f i ∧ f i ≤ d) : ∀ (k : Nat) (i : Int), k * c ≤ fI (fun i w => w + f i) k i 0 ∧ fI (fun i w => w + f i) k i 0 ≤ k * d := by
  intro k
  induction k with
  | zero => intro i; simp [fI]
  | succ k ih =>
    intro i
    simp only [fI]
    rw [sum_fI k (i + 1) (0 + f i)]
    have e := ih (i + 1)
    have e2 := hd i
    rw [show ((k + 1 : Nat) : Int) * d = k * d + d by rw [show ((k + 1 : Nat) : Int) = (k : Int) + 1 by omega, Int.add_mul, Int.one_mul], show ((k + 1 : Nat) : Int) * c = k * c + c by rw [show ((k + 1 : Nat) : Int) = (k : Int) + 1 by omega, Int.add_mul, Int.one_mul]]
    omega
theorem lT_r {b : Int → Int} {n : Int} (hb : WB b) (hn : 0 ≤ n) (hn2 : n ≤ 10000) : -800 ≤ lT b n ∧ lT b n ≤ 80000 := by
  have e := sum_rr (f := fun q => if goQ b q then LO b n q else 0) (c := -100) (d := 10000) (fun q => by
    by_cases g : goQ b q
    · have := LO_r hb hn (by omega) g
      simp only [if_pos g]; omega
    · simp only [if_neg g]; omega) 8 0
  show -800 ≤ fI (fun i w => w + (if goQ b i then LO b n i else 0)) 8 0 0 ∧ fI (fun i w => w + (if goQ b i then LO b n i else 0)) 8 0 0 ≤ 80000
  omega
/-- only cells 28 and 29 may differ -/
def CL (X Y : KM) : Prop := Y.2 = X.2 ∧ ∀ a k, ¬ (a = 227 ∧ (k = 28 ∨ k = 29)) → Y.1 a k = X.1 a k
theorem CL_cl {X : KM} {c : Int32} {l : Int} : CL X (cl2 X c l) := ⟨rfl, fun a k h => by unfold cl2; rw [uI_o (by omega), uI_o (by omega)]⟩
theorem CL_tr {X Y Z : KM} (h1 : CL X Y) (h2 : CL Y Z) : CL X Z := ⟨h2.1.trans h1.1, fun a k h => (h2.2 a k h).trans (h1.2 a k h)⟩
/-- the block, kept aside -/
def kp (X : KM) (b : Int → Int) (j : Int) : KM := (fun a k => if a = 233 ∧ (k : Int) < j then zI (b k) else X.1 a k, X.2)
theorem kp_s {X : KM} {b : Int → Int} {k : Nat} {j : Int} (h : (k : Int) < j) : (kp X b j).1 233 k = zI (b k) := if_pos ⟨rfl, h⟩
theorem kp_o {X : KM} {b : Int → Int} {a k : Nat} {j : Int} (h : ¬ (a = 233 ∧ (k : Int) < j)) : (kp X b j).1 a k = X.1 a k := if_neg h
theorem kp_0 {X : KM} {b : Int → Int} : kp X b 0 = X := by
  refine Prod.ext ?_ rfl
  funext a k
  exact kp_o (by omega)
theorem kp_up {X : KM} {b : Int → Int} {j : Int} (h : 0 ≤ j) : uI (kp X b j) 233 j.toNat (zI (b j)) = kp X b (j + 1) := by
  refine Prod.ext ?_ rfl
  funext a k
  by_cases e : a = 233 ∧ k = j.toNat
  · rw [e.1, e.2, uI_s, kp_s (by omega), Int.toNat_of_nonneg h]
  · rw [uI_o e]
    by_cases e2 : a = 233 ∧ (k : Int) < j
    · rw [e2.1, kp_s e2.2, kp_s (by omega)]
    · rw [kp_o e2, kp_o (by omega)]
def hB (b : Int → Int) (f t : Int) : Int → Int := bu (bu b 3 f) 4 t
theorem hB_o {b : Int → Int} {f t z : Int} (h3 : ¬ z = 3) (h4 : ¬ z = 4) : hB b f t z = b z := by
  unfold hB
  rw [bu_o h4, bu_o h3]
theorem hB_3 {b : Int → Int} {f t : Int} : hB b f t 3 = f := by
  unfold hB
  rw [bu_o (by decide), bu_s]
theorem hB_4 {b : Int → Int} {f t : Int} : hB b f t 4 = t := by
  unfold hB
  rw [bu_s]
theorem WB_hB {b : Int → Int} {f t : Int} (hb : WB b) (h1 : 0 ≤ f) (h2 : f ≤ 23) (h3 : f < t) (h4 : t ≤ 24) : WB (hB b f t) := by
  have hh := hb.1
  unfold WH at hh
  have o : ∀ z, ¬ z = 3 → ¬ z = 4 → hB b f t z = b z := fun z u v => hB_o u v
  have o0 := o 0 (by decide) (by decide)
  have o1 := o 1 (by decide) (by decide)
  have o2 := o 2 (by decide) (by decide)
  have o5 := o 5 (by decide) (by decide)
  refine ⟨?_, fun r u v => ?_, fun p u v => ?_, fun p r u v x y => ?_, fun p q u v x y => ?_, fun p u v => ?_⟩
  · unfold WH
    rw [o0, o1, o2, hB_3, hB_4, o5, o 6 (by decide) (by decide), o 7 (by decide) (by decide), o 8 (by decide) (by decide), o 9 (by decide) (by decide)]
    omega
  · rw [o1] at v
    have e := hb.2.1 r u v
    unfold WR at e ⊢
    rw [o0, o (10 + r) (by omega) (by omega), o (22 + r) (by omega) (by omega), o (34 + r) (by omega) (by omega), o (46 + r) (by omega) (by omega)]
    exact e
  · rw [o2] at v
    have e := hb.2.2.1 p u v
    unfold WP at e ⊢
    rw [o0, o1, o2, o5, o (58 + p) (by omega) (by omega), o (66 + p) (by omega) (by omega), o (74 + p) (by omega) (by omega), o (82 + p) (by omega) (by omega), o (90 + p) (by omega) (by omega), o (98 + p) (by omega) (by omega), o (106 + p) (by omega) (by omega), o (114 + p) (by omega) (by omega), o (122 + p) (by omega) (by omega)]
    by_cases w : 0 ≤ b (122 + p)
    · rw [o (34 + b (122 + p)) (by omega) (by omega)]
      exact e
    · have : b (66 + p) = -1 ∧ b (74 + p) = 0 ∧ b (82 + p) = -1 := by omega
      omega
  · rw [o (130 + 12 * p + r) (by omega) (by omega)]
    exact hb.2.2.2.1 p r u v x y
  · rw [o (226 + 8 * p + q) (by omega) (by omega), o (226 + 8 * q + p) (by omega) (by omega)]
    exact hb.2.2.2.2.1 p q u v x y
  · rw [o2] at v
    have e := hb.2.2.2.2.2 p u v
    have e2 := hb.2.2.1 p u v
    unfold WP at e2
    unfold WL at e ⊢
    rw [o (82 + p) (by omega) (by omega)]
    by_cases w : b (82 + p) = -1
    · exact Or.inl w
    · have e3 := e.resolve_left w
      have : 0 ≤ b (82 + p) := by omega
      refine Or.inr ?_
      rw [o (66 + p) (by omega) (by omega), o (66 + b (82 + p)) (by omega) (by omega), o (82 + b (82 + p)) (by omega) (by omega), o (122 + b (82 + p)) (by omega) (by omega), o (122 + p) (by omega) (by omega), o (74 + b (82 + p)) (by omega) (by omega), o (74 + p) (by omega) (by omega), o (114 + b (82 + p)) (by omega) (by omega), o (114 + p) (by omega) (by omega)]
      exact e3
