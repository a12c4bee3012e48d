/-! ===== days: a step laid down ===== -/
/-- the reference's cells while days are read: the land of block 0, the days of block 4 -/
def dcB (b : Int → Int) : Int → Int := fun z => if z < 290 then b z else b (2248 + z)
/-- what reading days may change in the class: rows from j on, open ones from d on -/
def FD (P : Nat) (j d : Int) (M M' : KM) : Prop := (∀ c i : Nat, ¬ c = 8 → ¬ (P ≤ c ∧ c < P + 6) → ¬ (c = 11 ∧ d ≤ (i : Int)) → M'.1 c i = M.1 c i) ∧ (∀ c i : Nat, P + 1 ≤ c → c < P + 6 → (i : Int) < j → M'.1 c i = M.1 c i) ∧ (∀ i : Nat, i ≤ 2 → M'.1 8 i = M.1 8 i) ∧ (∀ i : Nat, ¬ i = 5 → ¬ i = 6 → M'.1 P i = M.1 P i) ∧ (∀ c i : Nat, ¬ (c = 8 ∧ i = 9) → M'.2.1 c i = M.2.1 c i) ∧ M'.2.2 = M.2.2
/-- and in the reference: cells of steps from e on -/
def GX (e : Int) (X X' : KM) : Prop := (∀ c i : Nat, ¬ (c = 227 ∧ (12 ≤ i ∧ i ≤ 18 ∨ i = 27)) → ¬ (c = 232 ∧ 2540 + 9 * e ≤ (i : Int)) → X'.1 c i = X.1 c i) ∧ (∀ c i : Nat, ¬ (c = 227 ∧ i = 19) → X'.2.1 c i = X.2.1 c i) ∧ X'.2.2 = X.2.2
theorem FD_t {P : Nat} {j d j' d' : Int} {M N K : KM} (hj : j ≤ j') (hd : d ≤ d') (h : FD P j d M N) (g : FD P j' d' N K) : FD P j d M K :=
  ⟨fun c i a b e => (g.1 c i a b (by omega)).trans (h.1 c i a b e), fun c i a b e => (g.2.1 c i a b (by omega)).trans (h.2.1 c i a b e), fun i a => (g.2.2.1 i a).trans (h.2.2.1 i a), fun i a b => (g.2.2.2.1 i a b).trans (h.2.2.2.1 i a b), fun c i a => (g.2.2.2.2.1 c i a).trans (h.2.2.2.2.1 c i a), g.2.2.2.2.2.trans h.2.2.2.2.2⟩
theorem GX_t {e e' : Int} {X Y Z : KM} (he : e ≤ e') (h : GX e X Y) (g : GX e' Y Z) : GX e X Z :=
  ⟨fun c i a b => (g.1 c i a (by omega)).trans (h.1 c i a b), fun c i a => (g.2.1 c i a).trans (h.2.1 c i a), g.2.2.trans h.2.2⟩
theorem FC_D {P : Nat} {j d : Int} {M N : KM} (hP : 11 < P) (h : FC 8 M N) : FD P j d M N := ⟨fun c i a b e => h.1 c i (by omega), fun c i a b e => h.1 c i (by omega), fun i a => h.1 8 i (by omega), fun i a b => h.1 P i (by omega), fun c i a => h.2.1 c i a, h.2.2⟩
theorem GC_G {e : Int} {X Y : KM} (h : GC X Y) : GX e X Y := ⟨fun c i a b => h.1 c i (by omega), fun c i a => h.2.1 c i a, h.2.2⟩
theorem GX_w {e : Int} {X Y : KM} {k : Nat} {v : Int32} (hk : 2540 + 9 * e ≤ (k : Int)) (h : GX e X Y) : GX e X (uI Y 232 k v) := ⟨fun c i a b => by rw [uI_o (by omega)]; exact h.1 c i a b, h.2.1, h.2.2⟩
theorem GX_r {e : Int} {X : KM} : GX e X X := ⟨fun _ _ _ _ => rfl, fun _ _ _ => rfl, rfl⟩
theorem FD_r {P : Nat} {j d : Int} {M : KM} : FD P j d M M := ⟨fun _ _ _ _ _ => rfl, fun _ _ _ _ _ => rfl, fun _ _ => rfl, fun _ _ _ => rfl, fun _ _ _ => rfl, rfl⟩
theorem FD_C {P : Nat} {j d : Int} {M N K : KM} (hP : 11 < P) (h : FD P j d M N) (g : FC 8 N K) : FD P j d M K := FD_t (Int.le_refl _) (Int.le_refl _) h (FC_D hP g)
theorem GX_C {e : Int} {X Y Z : KM} (h : GX e X Y) (g : GC Y Z) : GX e X Z := GX_t (Int.le_refl _) h (GC_G g)
/-- a row of the plan -/
def adR (M : KM) (P : Nat) (j q x y z : Int) : KM := uI (uI (uI (uI (uI (uI M (P + 1) j.toNat (zI q)) (P + 2) j.toNat (zI x)) (P + 3) j.toNat (zI y)) (P + 4) j.toNat (zI z)) (P + 5) j.toNat (zI j)) P 5 (zI (j + 1))
theorem adR_v {M : KM} {P : Nat} {j q x y z : Int} : (adR M P j q x y z).1 (P + 1) j.toNat = zI q ∧ (adR M P j q x y z).1 (P + 2) j.toNat = zI x ∧ (adR M P j q x y z).1 (P + 3) j.toNat = zI y ∧ (adR M P j q x y z).1 (P + 4) j.toNat = zI z ∧ (adR M P j q x y z).1 (P + 5) j.toNat = zI j ∧ (adR M P j q x y z).1 P 5 = zI (j + 1) ∧ (adR M P j q x y z).2 = M.2 := by
  unfold adR
  refine ⟨?_, ?_, ?_, ?_, ?_, uI_s, rfl⟩
  · simp (disch := omega) only [uI_s, uI_o]
  · simp (disch := omega) only [uI_s, uI_o]
  · simp (disch := omega) only [uI_s, uI_o]
  · simp (disch := omega) only [uI_s, uI_o]
  · simp (disch := omega) only [uI_s, uI_o]
theorem adR_o {M : KM} {P c i : Nat} {j q x y z : Int} (h1 : ¬ (P + 1 ≤ c ∧ c < P + 6 ∧ i = j.toNat)) (h2 : ¬ (c = P ∧ i = 5)) : (adR M P j q x y z).1 c i = M.1 c i := by
  unfold adR
  simp (disch := omega) only [uI_o]
theorem c_add {M : KM} {P n : Nat} {j e q x y z : Int} (h5 : M.1 P 5 = zI j) (h6 : M.1 P 6 = zI e) (j0 : 0 ≤ j) (j60 : j < 60) (q0 : 0 ≤ q) (q9 : q < 12) : f_X8_add n P (zI q) (zI x) (zI y) (zI z) M = some (zI 1, if q = 10 then adR M P j q x y z else uI (adR M P j q x y z) P 6 (zI (e + 1))) := by
  have e1 : (uI M (P + 1) j.toNat (zI q)).1 P 5 = zI j := by rw [uI_o (by omega)]; exact h5
  have e2 : (uI (uI M (P + 1) j.toNat (zI q)) (P + 2) j.toNat (zI x)).1 P 5 = zI j := by rw [uI_o (by omega)]; exact e1
  have e3 : (uI (uI (uI M (P + 1) j.toNat (zI q)) (P + 2) j.toNat (zI x)) (P + 3) j.toNat (zI y)).1 P 5 = zI j := by rw [uI_o (by omega)]; exact e2
  have e4 : (uI (uI (uI (uI M (P + 1) j.toNat (zI q)) (P + 2) j.toNat (zI x)) (P + 3) j.toNat (zI y)) (P + 4) j.toNat (zI z)).1 P 5 = zI j := by rw [uI_o (by omega)]; exact e3
  have e5 : (uI (uI (uI (uI (uI M (P + 1) j.toNat (zI q)) (P + 2) j.toNat (zI x)) (P + 3) j.toNat (zI y)) (P + 4) j.toNat (zI z)) (P + 5) j.toNat (zI j)).1 P 5 = zI j := by rw [uI_o (by omega)]; exact e4
  have e6 : (adR M P j q x y z).1 P 6 = zI e := by rw [adR_o (by omega) (by omega)]; exact h6
  unfold f_X8_add
  by_cases w : q = 10
  · rw [if_pos w]
    simp (disch := first | omega | assumption) only [↓lt, ↓reduceIte, zl, h5, e1, e2, e3, e4, e5, zltT, ixT, zidx, if_true, zadd, zeqT]
    rfl
  · rw [if_neg w]
    have e7 : (uI (uI (uI (uI (uI (uI M (P + 1) j.toNat (zI q)) (P + 2) j.toNat (zI x)) (P + 3) j.toNat (zI y)) (P + 4) j.toNat (zI z)) (P + 5) j.toNat (zI j)) P 5 (zI (j + 1))).1 P 6 = zI e := e6
    simp (disch := first | omega | assumption) only [↓lt, ↓reduceIte, zl, h5, e1, e2, e3, e4, e5, e7, zltT, ixT, zidx, if_true, zadd, zeqF, if_false]
    rfl
/-- the two have laid as many steps and rows, and stand as deep -/
def DS (P L : Nat) (d e j : Int) (b : Int → Int) (M X : KM) : Prop := (∀ k : Nat, X.1 232 k = zI (b k)) ∧ M.1 8 13 = zI d ∧ M.1 P 6 = zI e ∧ X.1 227 27 = zI e ∧ M.1 P 5 = zI j ∧ 0 ≤ d ∧ d ≤ 3 ∧ 0 ≤ e ∧ e ≤ 30 ∧ 0 ≤ j ∧ j + d ≤ 2 * e ∧ NA L 0 (b 0) (b 2) M X
theorem DS_C {P L : Nat} {d e j : Int} {b : Int → Int} {M M' X X' : KM} (hP : 11 < P) (hL : 23 ≤ L) (h1 : FC 8 M M') (h2 : GC X X') (h : DS P L d e j b M X) : DS P L d e j b M' X' := by
  obtain ⟨a1, a2, a3, a4, a5, a6, a7, a8, a9, a10, a11, a12⟩ := h
  exact ⟨fun k => by rw [h2.1 _ _ (by omega)]; exact a1 k, by rw [h1.1 _ _ (by omega)]; exact a2, by rw [h1.1 _ _ (by omega)]; exact a3, by rw [h2.1 _ _ (by omega)]; exact a4, by rw [h1.1 _ _ (by omega)]; exact a5, a6, a7, a8, a9, a10, a11, NA_C (by omega) (Or.inr rfl) hL h1 h2 a12⟩
/-- the mark at the end of a step: the row is laid -/
theorem st_end {T : Int → Int} {E s k jj v : Int} {M X : KM} {P n m : Nat} {j e d q x y z : Int} (hE : 0 ≤ E ∧ E ≤ 900) (hP : 11 < P) (h : GD T E 8 s k jj v M X) (h5 : M.1 P 5 = zI j) (h6 : M.1 P 6 = zI e) (j0 : 0 ≤ j) (j60 : j < 60) (q0 : 0 ≤ q) (q9 : q < 10 ∨ q = 11) (hn : 1000 < n) (hm : 1000 < m) :
    (∃ M' X' s' k' j' v', f_X0_addStep n 8 P (zI q) (zI x) (zI y) (zI z) M = some (zI 1, M') ∧ f_X12_must m 227 (f_X12_isSign 227 (zI 59) X) X = some X' ∧ GD T E 8 s' k' j' v' M' X' ∧ s < s' ∧ FD P j d M M' ∧ GC X X' ∧ M'.1 8 13 = M.1 8 13 ∧ M'.1 11 = M.1 11 ∧ M'.1 P 5 = zI (j + 1) ∧ M'.1 P 6 = zI (e + 1) ∧ M'.1 (P + 1) j.toNat = zI q ∧ M'.1 (P + 2) j.toNat = zI x ∧ M'.1 (P + 3) j.toNat = zI y ∧ M'.1 (P + 4) j.toNat = zI z ∧ M'.1 (P + 5) j.toNat = zI j) ∨
    (∃ M' X', f_X0_addStep n 8 P (zI q) (zI x) (zI y) (zI z) M = some (zI 0, M') ∧ f_X12_must m 227 (f_X12_isSign 227 (zI 59) X) X = some X' ∧ FL 8 M M' X X') := by
  rcases j_semi2 (Or.inr rfl) hE h hn hm with ⟨M1, X1, e1, e2, s', k', j', v', e3, e4, e5, e6, e7⟩ | ⟨M1, X1, e1, e2, e3⟩
  · left
    have a5 : M1.1 P 5 = zI j := by rw [e6.1 _ _ (by omega)]; exact h5
    have a6 : M1.1 P 6 = zI e := by rw [e6.1 _ _ (by omega)]; exact h6
    have ad := c_add (n := n) (x := x) (y := y) (z := z) a5 a6 j0 j60 q0 (by omega)
    rw [if_neg (by omega)] at ad
    obtain ⟨r1, r2, r3, r4, r5, r6, r7⟩ := adR_v (M := M1) (P := P) (j := j) (q := q) (x := x) (y := y) (z := z)
    have ro := fun c i w1 w2 => @adR_o M1 P c i j q x y z w1 w2
    generalize adR M1 P j q x y z = N at *
    refine ⟨uI N P 6 (zI (e + 1)), X1, s', k', j', v', ?_, e2, GD_of (M := M1) (X := X1) (fun c i w => by rw [uI_o (by omega), ro _ _ (by omega) (by omega)]) (fun c i w => by rw [uI_j1, r7]) (by rw [uI_j2, r7]) (fun _ _ _ => rfl) rfl e3, e4, ⟨fun c i w1 w2 w3 => ?_, fun c i w1 w2 w3 => ?_, fun i w => ?_, fun i w1 w2 => ?_, fun c i w => ?_, ?_⟩, e7, ?_, ?_, ?_, uI_s, ?_, ?_, ?_, ?_, ?_⟩
    · unfold f_X0_addStep
      rw [e1, Option.bind_some, if_neg (show ¬ zI 1 = 0 by decide), ad, Option.bind_some]
      rfl
    · rw [uI_o (by omega), ro _ _ (by omega) (by omega), e6.1 _ _ (by omega)]
    · rw [uI_o (by omega), ro _ _ (by omega) (by omega), e6.1 _ _ (by omega)]
    · rw [uI_o (by omega), ro _ _ (by omega) (by omega), e6.1 _ _ (by omega)]
    · rw [uI_o (by omega), ro _ _ (by omega) (by omega), e6.1 _ _ (by omega)]
    · rw [uI_j1, r7]; exact e6.2.1 c i w
    · rw [uI_j2, r7]; exact e6.2.2
    · rw [uI_o (by omega), ro _ _ (by omega) (by omega), e6.1 _ _ (by omega)]
    · funext i
      rw [uI_o (by omega), ro _ _ (by omega) (by omega), e6.1 _ _ (by omega)]
    · rw [uI_o (by omega)]; exact r6
    · rw [uI_o (by omega)]; exact r1
    · rw [uI_o (by omega)]; exact r2
    · rw [uI_o (by omega)]; exact r3
    · rw [uI_o (by omega)]; exact r4
    · rw [uI_o (by omega)]; exact r5
  · refine Or.inr ⟨M1, X1, ?_, e2, e3⟩
    unfold f_X0_addStep
    rw [e1, Option.bind_some, if_pos (show zI 0 = 0 by decide)]
    rfl
