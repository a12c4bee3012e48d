/-! ===== days: stretches of steps ===== -/
theorem PRB_le {M : KM} {P : Nat} {c : Int → Int} : ∀ (m D : Nat) (s e i j : Int), PRB M P c m D s e i j → s ≤ e ∧ i ≤ j := by
  intro m
  induction m with
  | zero => intro D s e i j h; obtain ⟨h1, h2⟩ := h; omega
  | succ m ih =>
    intro D s e i j h
    rcases h with h | ⟨a1, a2, -⟩ | ⟨a1, -, x, f, a3, a4, -⟩
    · omega
    · omega
    · omega
theorem PRB_n {M : KM} {P : Nat} {c : Int → Int} : ∀ (m n D : Nat) (s e i j : Int), e - s ≤ n → PRB M P c m D s e i j → PRB M P c n D s e i j := by
  intro m
  induction m with
  | zero =>
    intro n D s e i j hn h
    cases n with
    | zero => exact h
    | succ n => exact Or.inl h
  | succ m ih =>
    intro n D s e i j hn h
    rcases h with h | ⟨a1, a2, a3, a4, a5, a6⟩ | ⟨a1, a2, x, f, a3, a4, a5, a6, a7, a8, a9, a10, a11, a12, a13⟩
    · cases n with
      | zero => exact h
      | succ n => exact Or.inl h
    · cases n with
      | zero => exfalso; omega
      | succ n => exact Or.inr (Or.inl ⟨a1, a2, a3, a4, a5, ih n D _ _ _ _ (by omega) a6⟩)
    · cases n with
      | zero => exfalso; omega
      | succ n => exact Or.inr (Or.inr ⟨a1, a2, x, f, a3, a4, a5, a6, a7, a8, a9, a10, a11, ih n (D - 1) _ _ _ _ (by omega) a12, ih n D _ _ _ _ (by omega) a13⟩)
theorem PSt_loc {M M' : KM} {P : Nat} {c c' : Int → Int} {s i : Int} (h1 : ∀ a, P + 1 ≤ a → a < P + 6 → M'.1 a i.toNat = M.1 a i.toNat) (h2 : ∀ z, 292 + 9 * s ≤ z → z < 292 + 9 * s + 8 → c' z = c z) (h3 : c' 0 = c 0) (h4 : c' 2 = c 2) (h : PSt M P c (292 + 9 * s) i) : PSt M' P c' (292 + 9 * s) i := by
  unfold PSt at h ⊢
  rw [h1 (P + 1) (by omega) (by omega), h1 (P + 2) (by omega) (by omega), h1 (P + 3) (by omega) (by omega), h1 (P + 4) (by omega) (by omega), h3, h4, h2 (292 + 9 * s) (by omega) (by omega), h2 (292 + 9 * s + 1) (by omega) (by omega), h2 (292 + 9 * s + 2) (by omega) (by omega), h2 (292 + 9 * s + 3) (by omega) (by omega)]
  exact h
theorem PBl_loc {M M' : KM} {P : Nat} {c c' : Int → Int} {s i : Int} (h1 : ∀ a, P + 1 ≤ a → a < P + 5 → M'.1 a i.toNat = M.1 a i.toNat) (h2 : ∀ z, 292 + 9 * s ≤ z → z < 292 + 9 * s + 8 → c' z = c z) (h3 : c' 0 = c 0) (h4 : c' 2 = c 2) (h : PBl M P c (292 + 9 * s) i) : PBl M' P c' (292 + 9 * s) i := by
  unfold PBl at h ⊢
  rw [h1 (P + 1) (by omega) (by omega), h1 (P + 2) (by omega) (by omega), h1 (P + 3) (by omega) (by omega), h1 (P + 4) (by omega) (by omega), h3, h4, h2 (292 + 9 * s) (by omega) (by omega), h2 (292 + 9 * s + 1) (by omega) (by omega), h2 (292 + 9 * s + 2) (by omega) (by omega), h2 (292 + 9 * s + 6) (by omega) (by omega), h2 (292 + 9 * s + 7) (by omega) (by omega)]
  exact h
theorem PRB_loc {M M' : KM} {P : Nat} {c c' : Int → Int} {s0 e0 i0 j0 : Int} (h1 : ∀ (a k : Nat), P + 1 ≤ a → a < P + 6 → i0 ≤ (k : Int) → (k : Int) < j0 → M'.1 a k = M.1 a k) (h2 : ∀ z, 292 + 9 * s0 ≤ z → z < 292 + 9 * e0 → c' z = c z) (h3 : c' 0 = c 0) (h4 : c' 2 = c 2) (hi0 : 0 ≤ i0) : ∀ (m D : Nat) (s e i j : Int), s0 ≤ s → e ≤ e0 → i0 ≤ i → j ≤ j0 → PRB M P c m D s e i j → PRB M' P c' m D s e i j := by
  intro m
  induction m with
  | zero => intro D s e i j _ _ _ _ h; exact h
  | succ m ih =>
    intro D s e i j b1 b2 b3 b4 h
    rcases h with h | ⟨a1, a2, a3, a4, a5, a6⟩ | ⟨a1, a2, x, f, a3, a4, a5, a6, a7, a8, a9, a10, a11, a12, a13⟩
    · exact Or.inl h
    · refine Or.inr (Or.inl ⟨a1, a2, PSt_loc (fun a u v => h1 a _ u v (by omega) (by omega)) (fun z u v => h2 z (by omega) (by omega)) h3 h4 a3, ?_, ?_, ih D _ _ _ _ (by omega) b2 (by omega) b4 a6⟩)
      · rw [h1 _ _ (by omega) (by omega) (by omega) (by omega)]; exact a4
      · rw [h2 _ (by omega) (by omega)]; exact a5
    · refine Or.inr (Or.inr ⟨a1, a2, x, f, a3, a4, a5, a6, PBl_loc (fun a u v => h1 a _ u (by omega) (by omega) (by omega)) (fun z u v => h2 z (by omega) (by omega)) h3 h4 a7, ?_, ?_, ?_, ?_, ih (D - 1) _ _ _ _ (by omega) (by omega) (by omega) (by omega) a12, ih D _ _ _ _ (by omega) b2 (by omega) b4 a13⟩)
      · rw [h1 _ _ (by omega) (by omega) (by omega) (by omega)]; exact a8
      · rw [h1 _ _ (by omega) (by omega) (by omega) (by omega)]; exact a9
      · rw [h1 _ _ (by omega) (by omega) (by omega) (by omega)]; exact a10
      · rw [h2 _ (by omega) (by omega)]; exact a11
/-- one step, blocks whole: steps s to f are the rows i to x -/
def ONE (M : KM) (P : Nat) (c : Int → Int) (D : Nat) (s f i x : Int) : Prop :=
  (f = s + 1 ∧ x = i + 1 ∧ PSt M P c (292 + 9 * s) i ∧ M.1 (P + 5) i.toNat = zI i ∧ c (292 + 9 * s + 8) = s + 1) ∨
  (0 < D ∧ ∃ y m, x = y + 1 ∧ i < y ∧ s < f ∧ PBl M P c (292 + 9 * s) i ∧ M.1 (P + 5) i.toNat = zI y ∧ M.1 (P + 1) y.toNat = zI 10 ∧ M.1 (P + 5) y.toNat = zI i ∧ c (292 + 9 * s + 8) = f ∧ PRB M P c m (D - 1) (s + 1) f (i + 1) y)
theorem ONE_lt {M : KM} {P : Nat} {c : Int → Int} {D : Nat} {s f i x : Int} (h : ONE M P c D s f i x) : s < f ∧ i < x := by
  rcases h with ⟨h1, h2, -⟩ | ⟨-, y, m, h1, h2, h3, -⟩
  · omega
  · omega
theorem ONE_loc {M M' : KM} {P : Nat} {c c' : Int → Int} {D : Nat} {s f i x : Int} (h1 : ∀ (a k : Nat), P + 1 ≤ a → a < P + 6 → i ≤ (k : Int) → (k : Int) < x → M'.1 a k = M.1 a k) (h2 : ∀ z, 292 + 9 * s ≤ z → z < 292 + 9 * f → c' z = c z) (h3 : c' 0 = c 0) (h4 : c' 2 = c 2) (hi : 0 ≤ i) (h : ONE M P c D s f i x) : ONE M' P c' D s f i x := by
  rcases h with ⟨a1, a2, a3, a4, a5⟩ | ⟨a0, y, m, a1, a2, a3, a4, a5, a6, a7, a8, a9⟩
  · refine Or.inl ⟨a1, a2, PSt_loc (fun a u v => h1 a _ u v (by omega) (by omega)) (fun z u v => h2 z (by omega) (by omega)) h3 h4 a3, ?_, ?_⟩
    · rw [h1 _ _ (by omega) (by omega) (by omega) (by omega)]; exact a4
    · rw [h2 _ (by omega) (by omega)]; exact a5
  · refine Or.inr ⟨a0, y, m, a1, a2, a3, PBl_loc (fun a u v => h1 a _ u (by omega) (by omega) (by omega)) (fun z u v => h2 z (by omega) (by omega)) h3 h4 a4, ?_, ?_, ?_, ?_, PRB_loc (s0 := s) (e0 := f) (i0 := i) (j0 := x) h1 h2 h3 h4 hi m (D - 1) _ _ _ _ (by omega) (by omega) (by omega) (by omega) a9⟩
    · rw [h1 _ _ (by omega) (by omega) (by omega) (by omega)]; exact a5
    · rw [h1 _ _ (by omega) (by omega) (by omega) (by omega)]; exact a6
    · rw [h1 _ _ (by omega) (by omega) (by omega) (by omega)]; exact a7
    · rw [h2 _ (by omega) (by omega)]; exact a8
theorem PRB_cons {M : KM} {P : Nat} {c : Int → Int} {D m : Nat} {s f e i x j : Int} (h : ONE M P c D s f i x) (g : PRB M P c m D f e x j) : ∃ n, PRB M P c n D s e i j := by
  have l := PRB_le _ _ _ _ _ _ g
  rcases h with ⟨a1, a2, a3, a4, a5⟩ | ⟨a0, y, q, a1, a2, a3, a4, a5, a6, a7, a8, a9⟩
  · subst a1; subst a2
    exact ⟨m + 1, Or.inr (Or.inl ⟨by omega, by omega, a3, a4, a5, g⟩)⟩
  · subst a1
    have g1 := PRB_n q (q + m + (e - s).toNat) (D - 1) _ _ _ _ (by omega) a9
    have g2 := PRB_n m (q + m + (e - s).toNat) D _ _ _ _ (by omega) g
    exact ⟨(q + m + (e - s).toNat) + 1, Or.inr (Or.inr ⟨by omega, a0, y, f, a2, by omega, a3, l.1, a4, a5, a6, a7, a8, g1, g2⟩)⟩
