/-! ===== land, days: well so far, and a fault ===== -/
/-- well so far: both at the sign s, no fault told -/
def GD (T : Int → Int) (E : Int) (a : Nat) (s k j v : Int) (M X : KM) : Prop := EV T E a M X ∧ SG a E s k j v M X ∧ X.1 227 12 = zI 0 ∧ M.1 a 4 = zI 0 ∧ M.1 a 5 = zI (-1)
/-- the same fault in both -/
def BD (a : Nat) (M X : KM) : Prop := ∃ f : Int, 1 ≤ f ∧ f ≤ 7 ∧ M.1 a 4 = zI f ∧ X.1 227 12 = zI f ∧ X.1 227 13 = M.1 a 5
def FC (a : Nat) (M M' : KM) : Prop := (∀ c i, ¬ (c = a ∧ 3 ≤ i ∧ i ≤ 11) → M'.1 c i = M.1 c i) ∧ (∀ c i, ¬ (c = a ∧ i = 9) → M'.2.1 c i = M.2.1 c i) ∧ M'.2.2 = M.2.2
def GC (X X' : KM) : Prop := (∀ c i, ¬ (c = 227 ∧ 12 ≤ i ∧ i ≤ 18) → X'.1 c i = X.1 c i) ∧ (∀ c i, ¬ (c = 227 ∧ i = 19) → X'.2.1 c i = X.2.1 c i) ∧ X'.2.2 = X.2.2
def FL (a : Nat) (M M' X X' : KM) : Prop := BD a M' X' ∧ FC a M M' ∧ GC X X'
theorem FC_r {a : Nat} {M : KM} : FC a M M := ⟨fun _ _ _ => rfl, fun _ _ _ => rfl, rfl⟩
theorem GC_r {X : KM} : GC X X := ⟨fun _ _ _ => rfl, fun _ _ _ => rfl, rfl⟩
theorem FC_t {a : Nat} {M N K : KM} (h : FC a M N) (g : FC a N K) : FC a M K := ⟨fun c i w => (g.1 c i w).trans (h.1 c i w), fun c i w => (g.2.1 c i w).trans (h.2.1 c i w), g.2.2.trans h.2.2⟩
theorem GC_t {M N K : KM} (h : GC M N) (g : GC N K) : GC M K := ⟨fun c i w => (g.1 c i w).trans (h.1 c i w), fun c i w => (g.2.1 c i w).trans (h.2.1 c i w), g.2.2.trans h.2.2⟩
theorem FA_C {a : Nat} {M N : KM} (h : FA a M N) : FC a M N := ⟨fun c i w => h.1 c i (by omega), h.2.1, h.2.2⟩
theorem GA_C {M N : KM} (h : GA M N) : GC M N := ⟨fun c i w => h.1 c i (by omega), h.2.1, h.2.2⟩
theorem FL_t {a : Nat} {M N K X Y Z : KM} (h : FC a M N) (g : GC X Y) (f : FL a N K Y Z) : FL a M K X Z := ⟨f.1, FC_t h f.2.1, GC_t g f.2.2⟩
theorem EV_of {T : Int → Int} {E : Int} {a : Nat} {M M' X X' : KM} (h1 : ∀ c i, (c = a ∧ 2 ≤ i ∧ i ≤ 11) ∨ c = 2 → M'.1 c i = M.1 c i) (h2 : ∀ c i, (c = a ∧ i = 9) ∨ c = a + 1 → M'.2.1 c i = M.2.1 c i) (h3 : M'.2.2 a 1 = M.2.2 a 1) (h4 : ∀ c i, (c = 227 ∧ 9 ≤ i ∧ i ≤ 18) ∨ c = 231 → X'.1 c i = X.1 c i) (h : EV T E a M X) : EV T E a M' X' := by
  obtain ⟨q1, q2, q3, q4, q5, q6⟩ := h
  refine ⟨by rw [h3]; exact q1, by rw [h1 a 2 (by omega)]; exact q2, by rw [h4 227 9 (by omega)]; exact q3, fun z u w => by rw [h1 2 _ (by omega)]; exact q4 z u w, fun z u w => by rw [h4 231 _ (by omega)]; exact q5 z u w, fun k u => by rw [h2 _ _ (by omega)]; exact q6 k u⟩
theorem SG_of {E s k j v : Int} {a : Nat} {M M' X X' : KM} (h1 : ∀ i, 3 ≤ i → i ≤ 10 → ¬ i = 4 → ¬ i = 5 → M'.1 a i = M.1 a i) (h2 : M'.2.1 a 9 = M.2.1 a 9) (h4 : ∀ i, 14 ≤ i → i ≤ 18 → X'.1 227 i = X.1 227 i) (h5 : X'.2.1 227 19 = X.2.1 227 19) (h : SG a E s k j v M X) : SG a E s k j v M' X' := by
  obtain ⟨q, l, w, a1, a2, a3, a4, a5, a6, a7, a8, a9, a10, b1, b2, b3, b4, b5, b6, b7, b8, b9, c1, c2, c3, c4, c5, c6⟩ := h
  refine ⟨q, l, w, a1, a2, a3, a4, a5, a6, a7, a8, a9, a10, ?_, ?_, ?_, ?_, ?_, ?_, ?_, ?_, fun i hi => ?_, fun z => ?_, c2, fun z => ?_, c4, fun z => ?_, fun z => ?_⟩
  · rw [h1 10 (by omega) (by omega) (by omega) (by omega)]; exact b1
  · rw [h4 15 (by omega) (by omega)]; exact b2
  · rw [h1 3 (by omega) (by omega) (by omega) (by omega)]; exact b3
  · rw [h4 16 (by omega) (by omega)]; exact b4
  · rw [h1 6 (by omega) (by omega) (by omega) (by omega)]; exact b5
  · rw [h4 14 (by omega) (by omega)]; exact b6
  · rw [h1 7 (by omega) (by omega) (by omega) (by omega)]; exact b7
  · rw [h2]; exact b8
  · rw [h5]; exact b9 i hi
  · rw [h4 18 (by omega) (by omega)]; exact c1 z
  · rw [h5]; exact c3 z
  · rw [h1 8 (by omega) (by omega) (by omega) (by omega), h4 17 (by omega) (by omega)]; exact c5 z
  · rw [h1 8 (by omega) (by omega) (by omega) (by omega), h4 17 (by omega) (by omega)]; exact c6 z
theorem GD_of {T : Int → Int} {E s k j v : Int} {a : Nat} {M M' X X' : KM} (h1 : ∀ c i, (c = a ∧ 2 ≤ i ∧ i ≤ 11) ∨ c = 2 → M'.1 c i = M.1 c i) (h2 : ∀ c i, (c = a ∧ i = 9) ∨ c = a + 1 → M'.2.1 c i = M.2.1 c i) (h3 : M'.2.2 a 1 = M.2.2 a 1) (h4 : ∀ c i, (c = 227 ∧ 9 ≤ i ∧ i ≤ 18) ∨ c = 231 → X'.1 c i = X.1 c i) (h5 : X'.2.1 227 19 = X.2.1 227 19) (h : GD T E a s k j v M X) : GD T E a s k j v M' X' := by
  obtain ⟨q1, q2, q3, q4, q5⟩ := h
  exact ⟨EV_of h1 h2 h3 h4 q1, SG_of (fun i u w _ _ => h1 a i (by omega)) (h2 a 9 (by omega)) (fun i u w => h4 227 i (by omega)) h5 q2, by rw [h4 227 12 (by omega)]; exact q3, by rw [h1 a 4 (by omega)]; exact q4, by rw [h1 a 5 (by omega)]; exact q5⟩
theorem BD_of {a : Nat} {M M' X X' : KM} (h1 : M'.1 a 4 = M.1 a 4) (h2 : M'.1 a 5 = M.1 a 5) (h3 : X'.1 227 12 = X.1 227 12) (h4 : X'.1 227 13 = X.1 227 13) (h : BD a M X) : BD a M' X' := by
  obtain ⟨f, f1, f2, f3, f4, f5⟩ := h
  exact ⟨f, f1, f2, by rw [h1]; exact f3, by rw [h3]; exact f4, by rw [h4, h2]; exact f5⟩
theorem SG_s {E s k j v : Int} {a : Nat} {M X : KM} (h : SG a E s k j v M X) : M.1 a 10 = zI s ∧ X.1 227 15 = zI s ∧ M.1 a 6 = zI k ∧ X.1 227 14 = zI k ∧ M.1 a 7 = zI j ∧ 0 ≤ s ∧ s ≤ E ∧ (¬ k = 0 → s < E) ∧ 0 ≤ k ∧ k ≤ 4 ∧ (0 ≤ j → k = 1) := by
  obtain ⟨q, l, w, a1, a2, a3, a4, a5, a6, a7, a8, a9, a10, b1, b2, b3, b4, b5, b6, b7, b8, b9, c1, c2, c3, c4, c5, c6⟩ := h
  exact ⟨b1, b2, b5, b6, b7, a1, by omega, fun z => by have := a4 z; omega, a5, a6, c4⟩
/-- a fault, told by both -/
theorem fl_two {a : Nat} {M X : KM} {f : Int} {p : Int32} (f1 : 1 ≤ f) (f2 : f ≤ 7) : FL a M (uI (uI M a 4 (zI f)) a 5 p) X (uI (uI X 227 12 (zI f)) 227 13 p) := by
  refine ⟨⟨f, f1, f2, ?_, ?_, ?_⟩, ⟨fun c i w => ?_, fun _ _ _ => rfl, rfl⟩, ⟨fun c i w => ?_, fun _ _ _ => rfl, rfl⟩⟩
  · rw [uI_o (by omega), uI_s]
  · rw [uI_o (by omega), uI_s]
  · rw [uI_s, uI_s]
  · rw [uI_o (by omega), uI_o (by omega)]
  · rw [uI_o (by omega), uI_o (by omega)]
theorem c_fail {a : Nat} {M : KM} {f : Int32} : f_X9_fail a f M = (zI 0, uI (uI M a 4 f) a 5 (M.1 a 10)) := by
  unfold f_X9_fail
  simp only [lt]
  rw [uI_o (show ¬ (a = a ∧ 10 = 4) by omega)]
  rfl
theorem c_failTaken {a : Nat} {M : KM} {f : Int32} : f_X9_failTaken a f M = (zI 0, uI (uI M a 4 f) a 5 (M.1 a 11)) := by
  unfold f_X9_failTaken
  simp only [lt]
  rw [uI_o (show ¬ (a = a ∧ 11 = 4) by omega)]
  rfl
theorem c_failOrder {a : Nat} {M : KM} {k : Int} (h : M.1 a 6 = zI k) (h1 : 0 ≤ k) (h2 : k ≤ 4) : f_X9_failOrder a M = (zI 0, uI (uI M a 4 (zI (if k = 4 then 1 else 2))) a 5 (M.1 a 10)) := by
  unfold f_X9_failOrder
  by_cases q : k = 4
  · rw [if_pos q]
    simp (disch := first | omega | assumption) only [↓lt, ↓reduceIte, zl, h, zeqT, if_true, c_fail]
  · rw [if_neg q]
    simp (disch := first | omega | assumption) only [↓lt, ↓reduceIte, zl, h, zeqF, if_false, c_fail]
/-! ===== land, days: the reference behind a fault ===== -/
def XB (X : KM) : Prop := ∃ f : Int, 1 ≤ f ∧ f ≤ 7 ∧ X.1 227 12 = zI f
theorem BD_X {a : Nat} {M X : KM} (h : BD a M X) : XB X := by
  obtain ⟨f, f1, f2, f3, f4, f5⟩ := h
  exact ⟨f, f1, f2, f4⟩
