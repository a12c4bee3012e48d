/-! ===== land: a part of the text ===== -/
/-- what was told once, and whether a road was known: the class's bits and the reference's -/
def TO (M X : KM) : Prop := ∃ t u : Int, 0 ≤ t ∧ t < 32 ∧ 0 ≤ u ∧ u ≤ 1 ∧ M.1 5 12 = zI (t % 2 + 4 * (t / 2)) ∧ X.1 227 25 = zI t ∧ M.1 5 13 = zI u ∧ X.1 227 26 = zI u
/-- what a part may change: the class -/
def FM (S : Nat) (M M' : KM) : Prop := (∀ c i, ¬ c = 5 → ¬ (S ≤ c ∧ c < S + 38 ∧ ¬ (S + 8 ≤ c ∧ c < S + 14)) → M'.1 c i = M.1 c i) ∧ (∀ i, i ≤ 2 → M'.1 5 i = M.1 5 i) ∧ (∀ c i, ¬ c = 5 → ¬ (S ≤ c ∧ c < S + 38 ∧ ¬ (S + 8 ≤ c ∧ c < S + 14)) → M'.2.1 c i = M.2.1 c i) ∧ M'.2.2 = M.2.2
/-- and the reference -/
def FX (X X' : KM) : Prop := (∀ c i, ¬ (c = 227 ∧ (12 ≤ i ∧ i ≤ 18 ∨ i = 25 ∨ i = 26)) → ¬ (c = 232 ∧ 2248 ≤ i) → X'.1 c i = X.1 c i) ∧ (∀ c i, ¬ (c = 227 ∧ i = 19) → ¬ (c = 235 ∧ 64 ≤ i) → X'.2.1 c i = X.2.1 c i) ∧ X'.2.2 = X.2.2
/-- the reader's own, and no land -/
def FO (M M' : KM) : Prop := (∀ c i, ¬ c = 5 → M'.1 c i = M.1 c i) ∧ (∀ i, i ≤ 2 → M'.1 5 i = M.1 5 i) ∧ (∀ c i, ¬ c = 5 → M'.2.1 c i = M.2.1 c i) ∧ M'.2.2 = M.2.2
def GO (X X' : KM) : Prop := (∀ c i, ¬ (c = 227 ∧ (12 ≤ i ∧ i ≤ 18 ∨ i = 25 ∨ i = 26)) → X'.1 c i = X.1 c i) ∧ (∀ c i, ¬ (c = 227 ∧ i = 19) → X'.2.1 c i = X.2.1 c i) ∧ X'.2.2 = X.2.2
theorem FO_M {S : Nat} {M N : KM} (h : FO M N) : FM S M N := ⟨fun c i w _ => h.1 c i w, h.2.1, fun c i w _ => h.2.2.1 c i w, h.2.2.2⟩
theorem GO_X {M N : KM} (h : GO M N) : FX M N := ⟨fun c i w _ => h.1 c i w, fun c i w _ => h.2.1 c i w, h.2.2⟩
theorem FC_O {M N : KM} (h : FC 5 M N) : FO M N := ⟨fun c i w => h.1 c i (by omega), fun i w => h.1 5 i (by omega), fun c i w => h.2.1 c i (by omega), h.2.2⟩
theorem GC_O {M N : KM} (h : GC M N) : GO M N := ⟨fun c i w => h.1 c i (by omega), fun c i w => h.2.1 c i w, h.2.2⟩
theorem FO_t {M N K : KM} (h : FO M N) (g : FO N K) : FO M K := ⟨fun c i w => (g.1 c i w).trans (h.1 c i w), fun i w => (g.2.1 i w).trans (h.2.1 i w), fun c i w => (g.2.2.1 c i w).trans (h.2.2.1 c i w), g.2.2.2.trans h.2.2.2⟩
theorem GO_t {M N K : KM} (h : GO M N) (g : GO N K) : GO M K := ⟨fun c i w => (g.1 c i w).trans (h.1 c i w), fun c i w => (g.2.1 c i w).trans (h.2.1 c i w), g.2.2.trans h.2.2⟩
theorem LB_O {S : Nat} {b : Int → Int} {M M' X X' : KM} (hP : M.2.2 S 7 = 31 ∨ M.2.2 S 7 = 69 ∨ M.2.2 S 7 = 99) (hS : 23 ≤ S ∧ S ≤ 61) (h1 : FO M M') (h2 : GO X X') (h : LB S b M X) : LB S b M' X' :=
  LB_of hP (fun c i u v => h1.1 _ _ (by omega)) hS (fun c i u v => h1.2.2.1 _ _ (by omega)) (by rw [h1.2.2.2]) (fun k => h2.1 _ _ (by omega)) (fun k => h2.2.1 _ _ (by omega)) h
theorem P01_O {S : Nat} {M M' : KM} (hS : 23 ≤ S) (h : FO M M') (g : P01 M S) : P01 M' S := P01_of (fun c i u v => h.1 _ _ (by omega)) g
theorem FM_t {S : Nat} {M N K : KM} (h : FM S M N) (g : FM S N K) : FM S M K := ⟨fun c i w v => (g.1 c i w v).trans (h.1 c i w v), fun i w => (g.2.1 i w).trans (h.2.1 i w), fun c i w v => (g.2.2.1 c i w v).trans (h.2.2.1 c i w v), g.2.2.2.trans h.2.2.2⟩
theorem FX_t {M N K : KM} (h : FX M N) (g : FX N K) : FX M K := ⟨fun c i w v => (g.1 c i w v).trans (h.1 c i w v), fun c i w v => (g.2.1 c i w v).trans (h.2.1 c i w v), g.2.2.trans h.2.2⟩
theorem FC_M {S : Nat} {M N : KM} (h : FC 5 M N) : FM S M N := ⟨fun c i w v => h.1 c i (by omega), fun i w => h.1 5 i (by omega), fun c i w v => h.2.1 c i (by omega), h.2.2⟩
theorem GC_X {M N : KM} (h : GC M N) : FX M N := ⟨fun c i w v => h.1 c i (by omega), fun c i w v => h.2.1 c i (by omega), h.2.2⟩
theorem TO_C {M M' X X' : KM} (h1 : FC 5 M M') (h2 : GC X X') (h : TO M X) : TO M' X' := by
  obtain ⟨t, u, a1, a2, a3, a4, a5, a6, a7, a8⟩ := h
  exact ⟨t, u, a1, a2, a3, a4, by rw [h1.1 _ _ (by omega)]; exact a5, by rw [h2.1 _ _ (by omega)]; exact a6, by rw [h1.1 _ _ (by omega)]; exact a7, by rw [h2.1 _ _ (by omega)]; exact a8⟩
def PcOK (T : Int → Int) (E : Int) (S : Nat) (s : Int) (M X M' X' : KM) : Prop := ∃ b s' k' j' v', GD T E 5 s' k' j' v' M' X' ∧ s < s' ∧ LB S b M' X' ∧ TO M' X' ∧ FM S M M' ∧ FX X X'
def PcBD (S : Nat) (M X M' X' : KM) : Prop := BD 5 M' X' ∧ P01 M' S ∧ FM S M M' ∧ FX X X'
def Sp (S : Nat) (M : KM) : Prop := (M.2.2 S 7 = 31 ∨ M.2.2 S 7 = 69 ∨ M.2.2 S 7 = 99) ∧ (S = 23 ∨ S = 61)
theorem P01_C {S a : Nat} {M M' : KM} (ha : a = 5 ∨ a = 8) (hS : 23 ≤ S) (h : FC a M M') (g : P01 M S) : P01 M' S := P01_of (fun c i u v => h.1 _ _ (by omega)) g
/-- the class's bits, of the reference's -/
def cw (t : Int) : Int := t % 2 + 4 * (t / 2)
/-- the number of the word that is told once, of the reference's bit -/
def ki (i : Int) : Int := if i = 0 then 0 else i + 1
def tw2 (t i : Nat) : Nat := (t / 2 ^ i) % 2
theorem bit_1 : ∀ (t : Fin 32) (i : Fin 5), (zI (cw t.val) &&& ((1 : Int32) <<< (zI (ki i.val) &&& 31)) = 0) ↔ tw2 t.val i.val = 0 := by decide
theorem bit_2 : ∀ (t : Fin 32) (i : Fin 5), tw2 t.val i.val = 0 → zI (cw t.val) ||| ((1 : Int32) <<< (zI (ki i.val) &&& 31)) = zI (cw ((t.val + 2 ^ i.val : Nat) : Int)) ∧ t.val + 2 ^ i.val < 32 := by decide
theorem bit_3 : ∀ (t : Fin 32) (i : Fin 5), (((zI t.val >>> (zI i.val &&& 31)) &&& (1 : Int32)) = (1 : Int32)) ↔ ¬ tw2 t.val i.val = 0 := by decide
theorem bit_4 : ∀ (t : Fin 32) (i : Fin 5), tw2 t.val i.val = 0 → zI t.val ||| ((1 : Int32) <<< (zI i.val &&& 31)) = zI ((t.val + 2 ^ i.val : Nat) : Int) := by decide
