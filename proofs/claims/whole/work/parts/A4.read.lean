/-! ===== land: a part of the text ===== -/
/-- what was told once, and whether a road was known: the class's bits and the reference's -/
def TO (M X : KM) : Prop := ∃ t u : Int, 0 ≤ t ∧ t < 32 ∧ 0 ≤ u ∧ u ≤ 1 ∧ M.1 5 12 = zI (t % 2 + 4 * (t / 2)) ∧ X.1 227 25 = zI t ∧ M.1 5 13 = zI u ∧ X.1 227 26 = zI u
/-- what a part may change: the class -/
def FM (S : Nat) (M M' : KM) : Prop := (∀ c i, ¬ c = 5 → ¬ (S ≤ c ∧ c < S + 38 ∧ ¬ (S + 8 ≤ c ∧ c < S + 14)) → M'.1 c i = M.1 c i) ∧ (∀ i, i ≤ 2 → M'.1 5 i = M.1 5 i) ∧ (∀ c i, ¬ c = 5 → ¬ (S ≤ c ∧ c < S + 38 ∧ ¬ (S + 8 ≤ c ∧ c < S + 14)) → M'.2.1 c i = M.2.1 c i) ∧ M'.2.2 = M.2.2
/-- and the reference -/
def FX (X X' : KM) : Prop := (∀ c i, ¬ (c = 227 ∧ (12 ≤ i ∧ i ≤ 18 ∨ i = 25 ∨ i = 26)) → ¬ (c = 232 ∧ 2248 ≤ i) → X'.1 c i = X.1 c i) ∧ (∀ c i, ¬ (c = 227 ∧ i = 19) → ¬ (c = 235 ∧ 64 ≤ i) → X'.2.1 c i = X.2.1 c i) ∧ X'.2.2 = X.2.2
/-- the reader's own, and no land -/
def FO (M M' : KM) : Prop := (∀ c i, ¬ c = 5 → M'.1 c i = M.1 c i) ∧ (∀ i, i ≤ 2 → M'.1 5 i = M.1 5 i) ∧ (∀ c i, ¬ c = 5 → M'.2.1 c i = M.2.1 c i) ∧ M'.2.2 = M.2.2
def GO (X X' : KM) : Prop := (∀ c i, ¬ (c = 227 ∧ (12 ≤ i ∧ i ≤ 18 ∨ i = 25 ∨ i = 26)) → X'.1 c i = X.1 c i) ∧ (∀ c i, ¬ (c = 227 ∧ i = 19) → X'.2.1 c i = X.2.1 c i) ∧ X'.2.2 = X.2.2
theorem FO_M {S : Nat} {M N : KM} (h : FO M N) : FM S M N := ⟨fun c i w _ => h.1 c i w, h.2.1, fun c i w _ => h.2.2.1 c i w, h.2.2.2⟩
theorem GO_X {M N : KM} (h : GO M N) : FX M N := ⟨fun c i w _ => h.1 c i w, fun c i w _ => h.2.1 c i w, h.2.2⟩
theorem FC_O {M N : KM} (h : FC 5 M N) : FO M N := ⟨fun c i w => h.1 c i (by omega), fun i w => h.1 5 i (by omega), fun c i w => h.2.1 c i (by omega), h.2.2⟩
theorem GC_O {M N : KM} (h : GC M N) : GO M N := ⟨fun c i w => h.1 c i (by omega), fun c i w => h.2.1 c i w, h.2.2⟩
theorem FO_t {M N K : KM} (h : FO M N) (g : FO N K) : FO M K := ⟨fun c i w => (g.1 c i w).trans (h.1 c i w), fun i w => (g.2.1 i w).trans (h.2.1 i w), fun c i w => (g.2.2.1 c i w).trans (h.2.2.1 c i w), g.2.2.2.trans h.2.2.2⟩
theorem GO_t {M N K : KM} (h : GO M N) (g : GO N K) : GO M K := ⟨fun c i w => (g.1 c i w).trans (h.1 c i w), fun c i w => (g.2.1 c i w).trans (h.2.1 c i w), g.2.2.trans h.2.2⟩
theorem LB_O {S : Nat} {b : Int → Int} {M M' X X' : KM} (hP : M.2.2 S 7 = 31 ∨ M.2.2 S 7 = 69 ∨ M.2.2 S 7 = 99) (hS : 23 ≤ S ∧ S ≤ 61) (h1 : FO M M') (h2 : GO X X') (h : LB S b M X) : LB S b M' X' :=
  LB_of hP (fun c i u v => h1.1 _ _ (by omega)) hS (fun c i u v => h1.2.2.1 _ _ (by omega)) (by rw [h1.2.2.2]) (fun k => h2.1 _ _ (by omega)) (fun k => h2.2.1 _ _ (by omega)) h
theorem P01_O {S : Nat} {M M' : KM} (hS : 23 ≤ S) (h : FO M M') (g : P01 M S) : P01 M' S := P01_of (fun c i u v => h.1 _ _ (by omega)) g
theorem FM_t {S : Nat} {M N K : KM} (h : FM S M N) (g : FM S N K) : FM S M K := ⟨fun c i w v => (g.1 c i w v).trans (h.1 c i w v), fun i w => (g.2.1 i w).trans (h.2.1 i w), fun c i w v => (g.2.2.1 c i w v).trans (h.2.2.1 c i w v), g.2.2.2.trans h.2.2.2⟩
theorem FX_t {M N K : KM} (h : FX M N) (g : FX N K) : FX M K := ⟨fun c i w v => (g.1 c i w v).trans (h.1 c i w v), fun c i w v => (g.2.1 c i w v).trans (h.2.1 c i w v), g.2.2.trans h.2.2⟩
theorem FC_M {S : Nat} {M N : KM} (h : FC 5 M N) : FM S M N := ⟨fun c i w v => h.1 c i (by omega), fun i w => h.1 5 i (by omega), fun c i w v => h.2.1 c i (by omega), h.2.2⟩
theorem GC_X {M N : KM} (h : GC M N) : FX M N := ⟨fun c i w v => h.1 c i (by omega), fun c i w v => h.2.1 c i (by omega), h.2.2⟩
theorem TO_C {M M' X X' : KM} (h1 : FC 5 M M') (h2 : GC X X') (h : TO M X) : TO M' X' := by
  obtain ⟨t, u, a1, a2, a3, a4, a5, a6, a7, a8⟩ := h
  exact ⟨t, u, a1, a2, a3, a4, by rw [h1.1 _ _ (by omega)]; exact a5, by rw [h2.1 _ _ (by omega)]; exact a6, by rw [h1.1 _ _ (by omega)]; exact a7, by rw [h2.1 _ _ (by omega)]; exact a8⟩
def PcOK (T : Int → Int) (E : Int) (S : Nat) (s : Int) (M X M' X' : KM) : Prop := ∃ b s' k' j' v', GD T E 5 s' k' j' v' M' X' ∧ s < s' ∧ LB S b M' X' ∧ TO M' X' ∧ FM S M M' ∧ FX X X'
def PcBD (S : Nat) (M X M' X' : KM) : Prop := BD 5 M' X' ∧ P01 M' S ∧ FM S M M' ∧ FX X X'
/-- the answers of both to a part: r is the class's -/
def PcR (T : Int → Int) (E : Int) (S : Nat) (s : Int) (n : Nat) (M X : KM) (cl : Option (Int32 × KM)) (mo : Option KM) : Prop := ∃ r M' X1 X', cl = some (r, M') ∧ mo = some X1 ∧ f_X12_must n 227 (f_X12_isSign 227 (zI 59) X1) X1 = some X' ∧ ((r = zI 1 ∧ PcOK T E S s M X M' X') ∨ (r = zI 0 ∧ PcBD S M X M' X'))
def Sp (S : Nat) (M : KM) : Prop := (M.2.2 S 7 = 31 ∨ M.2.2 S 7 = 69 ∨ M.2.2 S 7 = 99) ∧ (S = 23 ∨ S = 61)
/-- the mark at the end of a part -/
theorem pc_end {T : Int → Int} {E s s1 k j v : Int} {S n : Nat} {M X M1 X1 : KM} {b : Int → Int} (hE : 0 ≤ E ∧ E ≤ 900) (hS : Sp S M) (g : GD T E 5 s1 k j v M1 X1) (hs : s ≤ s1) (hL : LB S b M1 X1) (hT : TO M1 X1) (hM : FM S M M1) (hX : FX X X1) (hn : 1000 < n) :
    ∃ r M', f_X9_takeSemicolon n 5 M1 = some (r, M') ∧ (r = zI 1 ∨ r = zI 0) ∧ PcR T E S s n M X (some (r, M')) (some X1) := by
  have hP : M1.2.2 S 7 = 31 ∨ M1.2.2 S 7 = 69 ∨ M1.2.2 S 7 = 99 := by rw [hM.2.2.2]; exact hS.1
  rcases j_semi (Or.inl rfl) hE g hn with ⟨M', X', e1, e2, s', k', j', v', e3, e4, e5, e6, e7⟩ | ⟨M', X', e1, e2, e3⟩
  · refine ⟨_, M', e1, Or.inl rfl, _, M', X1, X', rfl, rfl, e2, Or.inl ⟨rfl, b, s', k', j', v', e3, by omega, LB_C (Or.inl rfl) hP (by have := hS.2; omega) e6 e7 hL, TO_C e6 e7 hT, FM_t hM (FC_M e6), FX_t hX (GC_X e7)⟩⟩
  · refine ⟨_, M', e1, Or.inr rfl, _, M', X1, X', rfl, rfl, e2, Or.inr ⟨rfl, e3.1, ?_, FM_t hM (FC_M e3.2.1), FX_t hX (GC_X e3.2.2)⟩⟩
    obtain ⟨a1, a2, a3, a4, a5, -⟩ := hL
    exact P01_of (fun a k u v => e3.2.1.1 _ _ (by omega)) a5
/-- a fault on the way -/
theorem pc_bad {T : Int → Int} {E s : Int} {S n : Nat} {M X M' X' : KM} (hb : BD 5 M' X') (h01 : P01 M' S) (hM : FM S M M') (hX : FX X X') : PcR T E S s n M X (some (zI 0, M')) (some X') :=
  ⟨_, M', X', X', rfl, rfl, xb_must (BD_X hb), Or.inr ⟨rfl, hb, h01, hM, hX⟩⟩
theorem P01_C {S a : Nat} {M M' : KM} (ha : a = 5 ∨ a = 8) (hS : 23 ≤ S) (h : FC a M M') (g : P01 M S) : P01 M' S := P01_of (fun c i u v => h.1 _ _ (by omega)) g
/-- the class's bits, of the reference's -/
def cw (t : Int) : Int := t % 2 + 4 * (t / 2)
/-- the number of the word that is told once, of the reference's bit -/
def ki (i : Int) : Int := if i = 0 then 0 else i + 1
def tw2 (t i : Nat) : Nat := (t / 2 ^ i) % 2
theorem bit_1 : ∀ (t : Fin 32) (i : Fin 5), (zI (cw t.val) &&& ((1 : Int32) <<< (zI (ki i.val) &&& 31)) = 0) ↔ tw2 t.val i.val = 0 := by decide
theorem bit_2 : ∀ (t : Fin 32) (i : Fin 5), tw2 t.val i.val = 0 → zI (cw t.val) ||| ((1 : Int32) <<< (zI (ki i.val) &&& 31)) = zI (cw ((t.val + 2 ^ i.val : Nat) : Int)) ∧ t.val + 2 ^ i.val < 32 := by decide
theorem bit_3 : ∀ (t : Fin 32) (i : Fin 5), (((zI t.val >>> (zI i.val &&& 31)) &&& (1 : Int32)) = (1 : Int32)) ↔ ¬ tw2 t.val i.val = 0 := by decide
theorem bit_4 : ∀ (t : Fin 32) (i : Fin 5), tw2 t.val i.val = 0 → zI t.val ||| ((1 : Int32) <<< (zI i.val &&& 31)) = zI ((t.val + 2 ^ i.val : Nat) : Int) := by decide
theorem m_has0 {t i : Nat} {M : KM} (h1 : t < 32) (h2 : i < 5) : f_X12_has (zI t) (zI i) M = bI (¬ tw2 t i = 0) := by
  have e := bit_3 ⟨t, h1⟩ ⟨i, h2⟩
  simp only at e
  unfold f_X12_has
  by_cases q : tw2 t i = 0
  · rw [if_neg (fun z => e.mp z q), bIF (fun z => z q)]; rfl
  · rw [if_pos (e.mpr q), bIT q]; rfl
theorem xb_isOnce {X : KM} {i : Int32} {n : Nat} (h : XB X) : f_X12_isOnce n 227 i X = some (zI 0, X) := by
  have hf := fun p q => xb_fail (p := p) (q := q) h
  obtain ⟨f, f1, f2, f3⟩ := h
  unfold f_X12_isOnce
  simp (disch := first | omega | assumption) only [↓lt, ↓reduceIte, zl, f3, hf, zleF, if_false, ite_self]
theorem j_once {T : Int → Int} {E s k j v : Int} {M X : KM} {n i : Nat} {t u : Int} (hE : 0 ≤ E ∧ E ≤ 900) (h : GD T E 5 s k j v M X) (hi : i < 5) (hj : j = ki i) (t0 : 0 ≤ t) (t1 : t < 32) (hu : j = 4 → u = 0) (u0 : 0 ≤ u ∧ u ≤ 1) (h12 : M.1 5 12 = zI (cw t)) (h25 : X.1 227 25 = zI t) (h13 : M.1 5 13 = zI u) (h26 : X.1 227 26 = zI u) (hn : 1000 < n) :
    (∃ M' X', f_X3_startOnce n 5 M = some (zI 1, M') ∧ f_X12_isOnce n 227 (zI i) X = some (zI 1, X') ∧ (∃ s' k' j' v', GD T E 5 s' k' j' v' M' X' ∧ s < s') ∧ TO M' X' ∧ FO M M' ∧ GO X X') ∨
    (∃ M' X', f_X3_startOnce n 5 M = some (zI 0, M') ∧ f_X12_isOnce n 227 (zI i) X = some (zI 0, X') ∧ FL 5 M M' X X') := by
  have x0 := h.2.2.1
  have ss := SG_s h.2.1
  have s7 := ss.2.2.2.2.1
  have kij : 0 ≤ ki i ∧ ki i ≤ 5 := by unfold ki; by_cases q : (i : Int) = 0 <;> simp only [q, if_true, if_false] <;> omega
  have hk : k = 1 := ss.2.2.2.2.2.2.2.2.2.2 (by omega)
  have b1 := bit_1 ⟨t.toNat, by omega⟩ ⟨i, hi⟩
  have b2 := bit_2 ⟨t.toNat, by omega⟩ ⟨i, hi⟩
  have b4 := bit_4 ⟨t.toNat, by omega⟩ ⟨i, hi⟩
  have mh := m_has0 (t := t.toNat) (i := i) (M := X) (by omega) hi
  simp only at b1 b2 b4
  rw [Int.toNat_of_nonneg t0] at b1 b2 b4 mh
  by_cases q : tw2 t.toNat i = 0
  · obtain ⟨b2, b3⟩ := b2 q
    have b4 := b4 q
    generalize t.toNat + 2 ^ i = z at b2 b3 b4
    have e' : GD T E 5 s k j v (uI M 5 12 (zI (cw (z : Int)))) (uI X 227 25 (zI (z : Int))) := GD_of (M := M) (X := X) (fun c l w => uI_o (by omega)) (fun _ _ _ => rfl) rfl (fun c l w => uI_o (by omega)) rfl h
    obtain ⟨M', X', s', k', j', v', e1, e2, e3, e4, e5, e6, e7, e8⟩ := gd_adv (Or.inl rfl) hE e' hn
    refine Or.inl ⟨M', X', ?_, ?_, ⟨s', k', j', v', e3, e5 (by omega)⟩, ⟨(z : Int), u, by omega, by omega, u0.1, u0.2, ?_, ?_, ?_, ?_⟩, ⟨fun c l w => ?_, fun l w => ?_, fun c l w => e7.2.1 _ _ (by omega), e7.2.2⟩, ⟨fun c l w => ?_, fun c l w => e8.2.1 _ _ w, e8.2.2⟩⟩
    · unfold f_X3_startOnce f_X9_skip
      rw [lt, s7, h12, hj, lt, if_pos (b1.mpr q), lt, b2, lt, e1]
      by_cases z : j = 4
      · rw [h13, hu z]
        rw [← hj, z]
        rfl
      · rw [if_neg (by rw [← hj]; intro y; rw [show ((4 : Int32)) = zI 4 from rfl, zeqF z (by omega) (by omega) (by omega) (by omega)] at y; exact y)]
        rfl
    · unfold f_X12_isOnce
      rw [lt, h25, mh, bIF (fun z => z q), lt, if_pos (show (zI 0 = 0) from rfl)]
      dsimp only
      rw [x0, if_pos (show (zI 0 ≤ 0) from by decide), h25, b4, lt, e2]
      rfl
    · rw [e7.1 _ _ (by omega), uI_s]; rfl
    · rw [e8.1 _ _ (by omega), uI_s]
    · rw [e7.1 _ _ (by omega), uI_o (by omega)]; exact h13
    · rw [e8.1 _ _ (by omega), uI_o (by omega)]; exact h26
    · rw [e7.1 _ _ (by omega), uI_o (by omega)]
    · rw [e7.1 _ _ (by omega), uI_o (by omega)]
    · rw [e8.1 _ _ (by omega), uI_o (by omega)]
  · obtain ⟨M', X', f1, f2, f3⟩ := fl_fail (f := 5) h (by omega) (by omega)
    obtain ⟨f, d1, d2, d3⟩ := BD_X f3.1
    refine Or.inr ⟨M', X', ?_, ?_, f3⟩
    · unfold f_X3_startOnce
      rw [lt, s7, h12, hj, lt, if_neg (fun z => q (b1.mp z))]
      rw [show ((5 : Int32)) = zI 5 from rfl, f1]
      rfl
    · unfold f_X12_isOnce
      rw [lt, h25, mh, bIT q, lt, if_neg (by decide), show ((5 : Int32)) = zI 5 from rfl, f2, lt]
      simp (disch := first | omega | assumption) only [↓reduceIte, zl, d3, zleF, if_false]
