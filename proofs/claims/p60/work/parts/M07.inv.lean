/-! ===== what stands between the calls ===== -/
def sh (b : Int → Int) (k : Int) : Int → Int := fun z => if 0 ≤ z ∧ z < 562 then b (k + z) else 0
/-- names of the land at L are w: places from 0 on, people from 8 on -/
def NM (M : KM) (L : Nat) (b : Int → Int) (w : Int → Int64) : Prop := (∀ k, 0 ≤ k → k < b 0 → M.2.1 (L + 1) k.toNat = w k) ∧ (∀ p, 0 ≤ p → p < b 2 → M.2.1 (L + 6 + 8 + 3 * p.toNat) 2 = w (8 + p))
/-- the row i of the plan at P is the step at the cells w on (no end is one) -/
def PSt (M : KM) (P : Nat) (b : Int → Int) (w i : Int) : Prop :=
  (b w = 0 ∧ M.1 (P + 1) i.toNat = zI 0 ∧ M.1 (P + 2) i.toNat = zI (b (w + 1)) ∧ 1 ≤ b (w + 1) ∧ b (w + 1) ≤ 600) ∨
  (b w = 1 ∧ M.1 (P + 1) i.toNat = zI 1 ∧ M.1 (P + 2) i.toNat = zI (b (w + 1)) ∧ M.1 (P + 3) i.toNat = zI (b (w + 2)) ∧ 0 ≤ b (w + 1) ∧ b (w + 1) < b 2 ∧ 0 ≤ b (w + 2) ∧ b (w + 2) < b 0) ∨
  (b w = 2 ∧ M.1 (P + 1) i.toNat = zI 2 ∧ M.1 (P + 2) i.toNat = zI (b (w + 1)) ∧ M.1 (P + 3) i.toNat = zI (b (w + 3)) ∧ M.1 (P + 4) i.toNat = zI (b (w + 2)) ∧ 0 ≤ b (w + 1) ∧ b (w + 1) < b 2 ∧ 0 ≤ b (w + 3) ∧ b (w + 3) < b 2 ∧ ¬ b (w + 1) = b (w + 3) ∧ 0 ≤ b (w + 2) ∧ b (w + 2) < b 0) ∨
  (b w = 3 ∧ M.1 (P + 1) i.toNat = zI 3) ∨ (b w = 4 ∧ M.1 (P + 1) i.toNat = zI 4) ∨ (b w = 5 ∧ M.1 (P + 1) i.toNat = zI 5) ∨ (b w = 8 ∧ M.1 (P + 1) i.toNat = zI 11)
/-- likewise of a when, a loop -/
def PBl (M : KM) (P : Nat) (b : Int → Int) (w i : Int) : Prop :=
  (b w = 6 ∧ b (w + 6) = 0 ∧ M.1 (P + 1) i.toNat = zI 6 ∧ M.1 (P + 2) i.toNat = zI (b (w + 1)) ∧ M.1 (P + 3) i.toNat = zI (b (w + 2)) ∧ 0 ≤ b (w + 1) ∧ b (w + 1) < b 2 ∧ 0 ≤ b (w + 2) ∧ b (w + 2) < b 0) ∨
  (b w = 6 ∧ b (w + 6) = 1 ∧ M.1 (P + 1) i.toNat = zI 7) ∨
  (b w = 6 ∧ b (w + 6) = 2 ∧ M.1 (P + 1) i.toNat = zI 8 ∧ M.1 (P + 2) i.toNat = zI (b (w + 1)) ∧ M.1 (P + 3) i.toNat = zI (b (w + 7)) ∧ M.1 (P + 4) i.toNat = zI (b (w + 2)) ∧ 0 ≤ b (w + 1) ∧ b (w + 1) < b 2 ∧ 0 ≤ b (w + 2) ∧ b (w + 2) ≤ 9999 ∧ (b (w + 7) = 60 ∨ b (w + 7) = 61 ∨ b (w + 7) = 62)) ∨
  (b w = 7 ∧ M.1 (P + 1) i.toNat = zI 9 ∧ M.1 (P + 2) i.toNat = zI (b (w + 1)) ∧ 1 ≤ b (w + 1) ∧ b (w + 1) ≤ 99)
/-- steps s to e are the rows i to j; d: how deep -/
def PRB (M : KM) (P : Nat) (b : Int → Int) : Nat → Nat → Int → Int → Int → Int → Prop
  | 0, _, s, e, i, j => s = e ∧ i = j
  | n + 1, d, s, e, i, j => (s = e ∧ i = j) ∨
    (s < e ∧ i < j ∧ PSt M P b (292 + 9 * s) i ∧ M.1 (P + 5) i.toNat = zI i ∧ b (292 + 9 * s + 8) = s + 1 ∧ PRB M P b n d (s + 1) e (i + 1) j) ∨
    (s < e ∧ 0 < d ∧ ∃ x f, i < x ∧ x < j ∧ s < f ∧ f ≤ e ∧ PBl M P b (292 + 9 * s) i ∧ M.1 (P + 5) i.toNat = zI x ∧ M.1 (P + 1) x.toNat = zI 10 ∧ M.1 (P + 5) x.toNat = zI i ∧ b (292 + 9 * s + 8) = f ∧ PRB M P b n (d - 1) (s + 1) f (i + 1) x ∧ PRB M P b n d f e (x + 1) j)
def PR (M : KM) (P : Nat) (b : Int → Int) : Prop := ∃ j, 0 ≤ j ∧ j ≤ 60 ∧ 0 ≤ b 291 ∧ b 291 ≤ 30 ∧ 0 ≤ b 290 ∧ b 290 ≤ 1 ∧ M.1 P 5 = zI j ∧ M.1 P 6 = zI (b 291) ∧ M.1 P 7 = zI (b 290) ∧ PRB M P b 61 3 0 (b 291) 0 j
theorem PRB_of {M M' : KM} {P : Nat} {b b' : Int → Int} (h1 : ∀ a k, P ≤ a → a < P + 6 → M'.1 a k = M.1 a k) (h2 : ∀ z, 290 ≤ z → z < 562 → b' z = b z) (h3 : b' 0 = b 0) (h4 : b' 2 = b 2) : ∀ (n d : Nat) (s e i j : Int), 0 ≤ s → e ≤ 30 → PRB M P b n d s e i j → PRB M' P b' n d s e i j := by
  intro n
  induction n with
  | zero => intro d s e i j _ _ h; exact h
  | succ n ih =>
    intro d s e i j hs he h
    rcases h with h | ⟨a1, a2, a3, a4, a5, a6⟩ | ⟨a1, a2, x, f, a3, a4, a5, a6, a7, a8, a9, a10, a11, a12, a13⟩
    · exact Or.inl h
    · refine Or.inr (Or.inl ⟨a1, a2, ?_, ?_, ?_, ih d _ _ _ _ (by omega) he a6⟩)
      · unfold PSt at a3 ⊢
        rw [h1 (P + 1) _ (by omega) (by omega), h1 (P + 2) _ (by omega) (by omega), h1 (P + 3) _ (by omega) (by omega), h1 (P + 4) _ (by omega) (by omega), h3, h4, h2 _ (by omega) (by omega), h2 _ (by omega) (by omega), h2 _ (by omega) (by omega), h2 _ (by omega) (by omega)]
        exact a3
      · rw [h1 (P + 5) _ (by omega) (by omega)]; exact a4
      · rw [h2 _ (by omega) (by omega)]; exact a5
    · refine Or.inr (Or.inr ⟨a1, a2, x, f, a3, a4, a5, a6, ?_, ?_, ?_, ?_, ?_, ih (d - 1) _ _ _ _ (by omega) (by omega) a12, ih d _ _ _ _ (by omega) he a13⟩)
      · unfold PBl at a7 ⊢
        rw [h1 (P + 1) _ (by omega) (by omega), h1 (P + 2) _ (by omega) (by omega), h1 (P + 3) _ (by omega) (by omega), h1 (P + 4) _ (by omega) (by omega), h3, h4, h2 _ (by omega) (by omega), h2 _ (by omega) (by omega), h2 _ (by omega) (by omega), h2 _ (by omega) (by omega), h2 _ (by omega) (by omega)]
        exact a7
      · rw [h1 (P + 5) _ (by omega) (by omega)]; exact a8
      · rw [h1 (P + 1) _ (by omega) (by omega)]; exact a9
      · rw [h1 (P + 5) _ (by omega) (by omega)]; exact a10
      · rw [h2 _ (by omega) (by omega)]; exact a11
theorem PR_of {M M' : KM} {P : Nat} {b b' : Int → Int} (h1 : ∀ a k, P ≤ a → a < P + 6 → M'.1 a k = M.1 a k) (h2 : ∀ z, 290 ≤ z → z < 562 → b' z = b z) (h3 : b' 0 = b 0) (h4 : b' 2 = b 2) (h : PR M P b) : PR M' P b' := by
  obtain ⟨j, a1, a2, a3, a4, a5, a6, a7, a8, a9, a10⟩ := h
  refine ⟨j, a1, a2, ?_, ?_, ?_, ?_, ?_, ?_, ?_, ?_⟩
  · rw [h2 _ (by omega) (by omega)]; exact a3
  · rw [h2 _ (by omega) (by omega)]; exact a4
  · rw [h2 _ (by omega) (by omega)]; exact a5
  · rw [h2 _ (by omega) (by omega)]; exact a6
  · rw [h1 P _ (by omega) (by omega)]; exact a7
  · rw [h1 P _ (by omega) (by omega), h2 _ (by omega) (by omega)]; exact a8
  · rw [h1 P _ (by omega) (by omega), h2 _ (by omega) (by omega)]; exact a9
  · rw [h2 291 (by omega) (by omega)]; exact PRB_of h1 h2 h3 h4 61 3 0 _ 0 j (by omega) (by omega) a10
/-- a land of the class and a block: head, roads, people -/
def LOK (M : KM) (L : Nat) (b : Int → Int) : Prop := HL M L b ∧ GR (pg M L) b ∧ WB b ∧ b 5 ≤ 99999
/-- the codes of the words that are kept -/
def kwl : List Int := [7734853, 655, 3554411, 605701, 8423732, 495763, 17171557, 605220, 14276022451, 651342227, 20710707364, 52, 7920536755, 2500036, 12009203, 754996, 239, 398372, 1497, 3554980, 3544114, 762030, 409204, 409072, 5572, 643568]
def kwd (k : Nat) : Int64 := lI (kwl.getD k 0)
/-- where things lie -/
def Ptr (M : KM) (L : Nat) : Prop := M.2.2 0 10 = L ∧ ((L = 23 ∧ M.2.2 0 11 = 61) ∨ (L = 61 ∧ M.2.2 0 11 = 23)) ∧ (M.2.2 23 7 = 31 ∨ M.2.2 23 7 = 69 ∨ M.2.2 23 7 = 99) ∧ (M.2.2 61 7 = 31 ∨ M.2.2 61 7 = 69 ∨ M.2.2 61 7 = 99) ∧ (M.2.2 0 12 = 31 ∨ M.2.2 0 12 = 69 ∨ M.2.2 0 12 = 99) ∧ ¬ M.2.2 23 7 = M.2.2 61 7 ∧ ¬ M.2.2 23 7 = M.2.2 0 12 ∧ ¬ M.2.2 61 7 = M.2.2 0 12 ∧ M.2.2 113 7 = 121 ∧ M.2.2 151 7 = 159 ∧ M.2.2 189 7 = 197 ∧ ((M.2.2 14 2 = 17 ∧ M.2.2 14 3 = 18) ∨ (M.2.2 14 2 = 18 ∧ M.2.2 14 3 = 17))
/-- trays, tape, faults, fraction, lived, marks, names, days -/
def CR (M : KM) (L : Nat) (b : Int → Int) : Prop :=
  NM M L b (fun z => M.2.1 235 z.toNat) ∧ PR M (M.2.2 L 7) b ∧
  (∃ mk, 0 ≤ mk ∧ mk ≤ 3 ∧ M.1 0 14 = zI mk ∧ M.1 227 24 = zI mk ∧ ∀ i : Int, 0 ≤ i → i < mk → LOK M (113 + 38 * i.toNat) (sh b (562 * (i + 1))) ∧ NM M (113 + 38 * i.toNat) (sh b (562 * (i + 1))) (fun z => M.2.1 235 (16 * (i + 1) + z).toNat) ∧ PR M (121 + 38 * i.toNat) (sh b (562 * (i + 1)))) ∧
  (∃ tp, 0 ≤ tp ∧ tp ≤ 900 ∧ M.1 0 13 = zI tp ∧ M.1 227 8 = zI tp) ∧ (∀ k : Nat, k < 900 → M.1 231 k = M.1 2 k ∧ ∃ t : Int, -128 ≤ t ∧ t < 128 ∧ M.1 2 k = zI t) ∧
  M.1 227 10 = M.1 0 16 ∧ M.1 227 11 = M.1 0 17 ∧ M.2.1 227 2 = M.2.1 0 18 ∧ M.2.1 227 3 = M.2.1 0 19 ∧
  (∀ t : Int, 0 ≤ t → t < 4 → ∃ s m, 0 ≤ s ∧ s ≤ 3 ∧ -1 ≤ m ∧ m ≤ 60 ∧ M.1 (1 + 104 + 2 * t.toNat) 1 = zI s ∧ M.1 228 t.toNat = zI s ∧ M.1 (1 + 104 + 2 * t.toNat) 2 = zI m ∧ M.1 229 t.toNat = zI m ∧ ∀ k : Int, 0 ≤ k → k < m → M.2.1 (1 + 104 + 2 * t.toNat + 1) k.toNat = M.2.1 230 (60 * t + k).toNat) ∧
  ((M.1 227 38 = zI 0 ∧ M.1 4 0 = zI (-1)) ∨ (M.1 227 38 = zI 1 ∧ (∃ v, 0 ≤ v ∧ v < 1000 ∧ M.1 4 0 = zI v) ∧ ∀ k : Nat, k < 5 → M.1 243 k = M.1 4 k)) ∧
  (∀ l : Nat, l = 23 ∨ l = 61 ∨ l = 113 ∨ l = 151 ∨ l = 189 → ¬ l = L → ∀ p : Nat, p < 8 → (M.1 (l + 14 + 3 * p) 3 = zI 0 ∨ M.1 (l + 14 + 3 * p) 3 = zI 1) ∧ (M.1 (l + 14 + 3 * p) 4 = zI 0 ∨ M.1 (l + 14 + 3 * p) 4 = zI 1)) ∧
  (∀ k : Nat, k < 26 → M.2.1 6 k = kwd k ∧ M.2.1 9 k = kwd k)
def Inv (M : KM) : Prop := ∃ (L : Nat) (b : Int → Int), Ptr M L ∧ (∀ k : Nat, M.1 232 k = zI (b k)) ∧ LOK M L b ∧ CR M L b ∧ M.1 0 15 = M.1 227 0
def KI (L P a k : Nat) : Prop := (¬ (L + 14 ≤ a ∧ a < L + 38) ∧ ((37 ≤ a ∧ a < 61) ∨ (75 ≤ a ∧ a < 99)) ∧ (k = 3 ∨ k = 4)) ∨ a = 2 ∨ a = 4 ∨ (105 ≤ a ∧ a < 227) ∨ a = 228 ∨ a = 229 ∨ a = 231 ∨ a = 243 ∨ (P ≤ a ∧ a < P + 6) ∨ (a = 0 ∧ (k = 13 ∨ k = 14 ∨ k = 16 ∨ k = 17)) ∨ (a = 227 ∧ (k = 8 ∨ k = 10 ∨ k = 11 ∨ k = 24 ∨ k = 38))
def KJ (L a k : Nat) : Prop := a = 6 ∨ a = 9 ∨ (105 ≤ a ∧ a < 227) ∨ a = 230 ∨ a = 235 ∨ (L ≤ a ∧ a < L + 38) ∨ (a = 0 ∧ (k = 18 ∨ k = 19)) ∨ (a = 227 ∧ (k = 2 ∨ k = 3))
theorem HL_of {M M' : KM} {L : Nat} {b : Int → Int} (h1 : ∀ a k, L ≤ a → a < L + 8 → M'.1 a k = M.1 a k) (h : HL M L b) : HL M' L b := by
  obtain ⟨q0, q1, q2, q5, q6, q7, q8, q9, q3, q4, qd, qa, qb, qc, qs⟩ := h
  refine ⟨?_, ?_, ?_, ?_, ?_, ?_, ?_, ?_, ?_, ?_, ?_, ?_, ?_, ?_, ?_⟩
  · rw [h1 _ _ (by omega) (by omega)]; exact q0
  · rw [h1 _ _ (by omega) (by omega)]; exact q1
  · rw [h1 _ _ (by omega) (by omega)]; exact q2
  · rw [h1 _ _ (by omega) (by omega)]; exact q5
  · rw [h1 _ _ (by omega) (by omega)]; exact q6
  · rw [h1 _ _ (by omega) (by omega)]; exact q7
  · rw [h1 _ _ (by omega) (by omega)]; exact q8
  · rw [h1 _ _ (by omega) (by omega)]; exact q9
  · rw [h1 _ _ (by omega) (by omega)]; exact q3
  · rw [h1 _ _ (by omega) (by omega)]; exact q4
  · rw [h1 _ _ (by omega) (by omega)]; exact qd
  · intro r a c; rw [h1 _ _ (by omega) (by omega)]; exact qa r a c
  · intro r a c; rw [h1 _ _ (by omega) (by omega)]; exact qb r a c
  · intro r a c; rw [h1 _ _ (by omega) (by omega)]; exact qc r a c
  · intro r a c; rw [h1 _ _ (by omega) (by omega)]; exact qs r a c
theorem GR_of {M M' : KM} {L : Nat} {b : Int → Int} (h1 : ∀ a k, L + 14 ≤ a → a < L + 38 → M'.1 a k = M.1 a k) (hb : b 2 ≤ 8) (h : GR (pg M L) b) : GR (pg M' L) b := by
  have e : ∀ p j k : Int, p < 8 → j < 3 → pg M' L p j k = pg M L p j k := by
    intro p j k hp hj
    simp only [pg]
    rw [h1 _ _ (by omega) (by omega)]
  refine ⟨fun p a c => ?_, fun p r a c d f => ?_, fun p q a c d f => ?_, fun p a c => ?_⟩
  · have := h.1 p a c
    unfold GP at this ⊢
    simp only [e p 0 _ (by omega) (by omega)]
    exact this
  · rw [e p 1 _ (by omega) (by omega)]; exact h.2.1 p r a c d f
  · rw [e p 2 _ (by omega) (by omega)]; exact h.2.2.1 p q a c d f
  · rw [e p 0 _ (by omega) (by omega), e p 0 _ (by omega) (by omega)]; exact h.2.2.2 p a c
theorem LOK_of {M M' : KM} {L : Nat} {b : Int → Int} (h1 : ∀ a k, L ≤ a → a < L + 8 → M'.1 a k = M.1 a k) (h2 : ∀ a k, L + 14 ≤ a → a < L + 38 → M'.1 a k = M.1 a k) (h : LOK M L b) : LOK M' L b := by
  obtain ⟨a1, a2, a3, a4⟩ := h
  have e := a3.1
  unfold WH at e
  exact ⟨HL_of h1 a1, GR_of h2 (by omega) a2, a3, a4⟩
theorem NM_of {M M' : KM} {L : Nat} {b b' : Int → Int} {w w' : Int → Int64} (h1 : ∀ a k, L ≤ a → a < L + 38 → M'.2.1 a k = M.2.1 a k) (h2 : ∀ z, w' z = w z) (h3 : b' 0 = b 0) (h4 : b' 2 = b 2) (h5 : b 2 ≤ 8) (h : NM M L b w) : NM M' L b' w' := by
  refine ⟨fun k a c => ?_, fun p a c => ?_⟩
  · rw [h1 _ _ (by omega) (by omega), h2]; exact h.1 k a (by omega)
  · rw [h1 _ _ (by omega) (by omega), h2]; exact h.2 p a (by omega)
theorem CR_of {M M' : KM} {L : Nat} {b b' : Int → Int} (hb : 0 ≤ b 2 ∧ b 2 ≤ 8) (hL : L = 23 ∨ L = 61) (h1 : ∀ a k, KI L (M.2.2 L 7) a k → M'.1 a k = M.1 a k) (h2 : ∀ a k, KJ L a k → M'.2.1 a k = M.2.1 a k) (h3 : M'.2.2 L 7 = M.2.2 L 7) (h4 : ∀ z, 290 ≤ z → z < 2248 → b' z = b z) (h5 : b' 0 = b 0) (h6 : b' 2 = b 2) (h : CR M L b) : CR M' L b' := by
  obtain ⟨a1, a2, ⟨mk, a3, a4, a5, a6, a7⟩, ⟨tp, a8, a9, a10, a11⟩, a12, a13, a14, a15, a16, a17, a18, a19, a20⟩ := h
  refine ⟨?_, ?_, ⟨mk, a3, a4, ?_, ?_, fun i hi hi2 => ?_⟩, ⟨tp, a8, a9, ?_, ?_⟩, fun k hk => ?_, ?_, ?_, ?_, ?_, fun t ht ht2 => ?_, ?_, fun l hl hl2 p hp => ?_, fun k hk => ?_⟩
  · exact NM_of (fun a k x y => h2 a k (by unfold KJ; omega)) (fun z => h2 235 _ (by unfold KJ; omega)) h5 h6 hb.2 a1
  · rw [h3]; exact PR_of (fun a k x y => h1 a k (by unfold KI; omega)) (fun z x y => h4 z x (by omega)) h5 h6 a2
  · rw [h1 _ _ (by unfold KI; omega)]; exact a5
  · rw [h1 _ _ (by unfold KI; omega)]; exact a6
  · obtain ⟨c1, c2, c3⟩ := a7 i hi hi2
    have e : sh b' (562 * (i + 1)) = sh b (562 * (i + 1)) := by
      funext z
      simp only [sh]
      by_cases x : 0 ≤ z ∧ z < 562
      · rw [if_pos x, if_pos x]; exact h4 _ (by omega) (by omega)
      · rw [if_neg x, if_neg x]
    have e0 := c1.2.2.1.1
    unfold WH at e0
    rw [e]
    exact ⟨LOK_of (fun a k x y => h1 a k (by unfold KI; omega)) (fun a k x y => h1 a k (by unfold KI; omega)) c1, NM_of (fun a k x y => h2 a k (by unfold KJ; omega)) (fun z => h2 235 _ (by unfold KJ; omega)) rfl rfl (by omega) c2, PR_of (fun a k x y => h1 a k (by unfold KI; omega)) (fun z _ _ => rfl) rfl rfl c3⟩
  · rw [h1 _ _ (by unfold KI; omega)]; exact a10
  · rw [h1 _ _ (by unfold KI; omega)]; exact a11
  · rw [h1 231 _ (by unfold KI; omega), h1 2 _ (by unfold KI; omega)]; exact a12 k hk
  · rw [h1 227 _ (by unfold KI; omega), h1 0 _ (by unfold KI; omega)]; exact a13
  · rw [h1 227 _ (by unfold KI; omega), h1 0 _ (by unfold KI; omega)]; exact a14
  · rw [h2 227 _ (by unfold KJ; omega), h2 0 _ (by unfold KJ; omega)]; exact a15
  · rw [h2 227 _ (by unfold KJ; omega), h2 0 _ (by unfold KJ; omega)]; exact a16
  · obtain ⟨s, m, c1, c2, c3, c4, c5, c6, c7, c8, c9⟩ := a17 t ht ht2
    refine ⟨s, m, c1, c2, c3, c4, ?_, ?_, ?_, ?_, fun k x y => ?_⟩
    · rw [h1 _ _ (by unfold KI; omega)]; exact c5
    · rw [h1 _ _ (by unfold KI; omega)]; exact c6
    · rw [h1 _ _ (by unfold KI; omega)]; exact c7
    · rw [h1 _ _ (by unfold KI; omega)]; exact c8
    · rw [h2 _ _ (by unfold KJ; omega), h2 230 _ (by unfold KJ; omega)]; exact c9 k x y
  · rcases a18 with ⟨c1, c2⟩ | ⟨c1, ⟨v, c2, c3, c4⟩, c5⟩
    · refine Or.inl ⟨?_, ?_⟩
      · rw [h1 _ _ (by unfold KI; omega)]; exact c1
      · rw [h1 _ _ (by unfold KI; omega)]; exact c2
    · refine Or.inr ⟨?_, ⟨v, c2, c3, ?_⟩, fun k hk => ?_⟩
      · rw [h1 _ _ (by unfold KI; omega)]; exact c1
      · rw [h1 _ _ (by unfold KI; omega)]; exact c4
      · rw [h1 243 _ (by unfold KI; omega), h1 4 _ (by unfold KI; omega)]; exact c5 k hk
  · rw [h1 _ _ (by unfold KI; omega), h1 _ _ (by unfold KI; omega)]; exact a19 l hl hl2 p hp
  · rw [h2 6 _ (by unfold KJ; omega), h2 9 _ (by unfold KJ; omega)]; exact a20 k hk

