/-! ===== a state opened, and closed ===== -/
def Opn (M : KM) (L : Nat) (g : Int → Int → Int → Int) (b : Int → Int) : Prop := Ptr M L ∧ HL (cs M b) L b ∧ GR g b ∧ WB b ∧ b 5 ≤ 99999 ∧ CR (cs (ps M L g) b) L b
theorem Ptr_L {M : KM} {L : Nat} (h : Ptr M L) : 23 ≤ L ∧ L ≤ 61 := by
  unfold Ptr at h; omega
theorem Ptr_l {M : KM} {L : Nat} (h : Ptr M L) : L = 23 ∨ L = 61 := by
  unfold Ptr at h; omega
theorem cs_ps {M : KM} {L : Nat} {g : Int → Int → Int → Int} {b : Int → Int} (h : L ≤ 61) : cs (ps M L g) b = ps (cs M b) L g := by
  refine Prod.ext ?_ rfl
  funext a k
  by_cases w : a = 232
  · subst w
    rw [ps_o (by omega)]
    simp only [cs, if_true]
  · rw [cs_o w]
    by_cases v : L + 14 ≤ a ∧ a < L + 38
    · rw [ps_at v rfl rfl, ps_at v rfl rfl]
    · rw [ps_o v, ps_o v, cs_o w]
theorem Inv_open {M : KM} (h : Inv M) : ∃ (M0 : KM) (L : Nat) (g : Int → Int → Int → Int) (b : Int → Int), M = ps (cs M0 b) L g ∧ Opn M0 L g b ∧ M0.1 0 15 = M0.1 227 0 := by
  obtain ⟨L, b, h1, h2, ⟨a1, a2, a3, a4⟩, h4, h5⟩ := h
  have e : M = cs M b := by
    refine Prod.ext ?_ rfl
    funext a k
    simp only [cs]
    by_cases w : a = 232
    · rw [if_pos w, w]; exact h2 k
    · rw [if_neg w]
  refine ⟨M, L, pg M L, b, ?_, ⟨h1, ?_, a2, a3, a4, ?_⟩, h5⟩
  · rw [← e]; exact ps_ex M L
  · rw [← e]; exact a1
  · rw [cs_ps (Ptr_L h1).2, ← e, ← ps_ex]; exact h4
theorem pg_ps {M : KM} {L : Nat} {g : Int → Int → Int → Int} {p j k : Int} (h1 : 0 ≤ p) (h2 : p < 8) (h3 : 0 ≤ j) (h4 : j < 3) (h5 : 0 ≤ k) (h6 : -2147483648 ≤ g p j k) (h7 : g p j k < 2147483648) : pg (ps M L g) L p j k = g p j k := by
  simp only [pg]
  rw [ps_at (p := p) (j := j) (by omega) (by omega) (by omega), Int.toNat_of_nonneg h5, zI_toInt h6 h7]
theorem Inv_close {M : KM} {L : Nat} {g : Int → Int → Int → Int} {b : Int → Int} (h : Opn M L g b) (hs : M.1 0 15 = M.1 227 0) : Inv (cs (ps M L g) b) := by
  obtain ⟨h1, h2, h3, h4, h5, h6⟩ := h
  have hl := Ptr_L h1
  have hW := h4
  obtain ⟨w1, w2, w3, w4, w5, w6⟩ := h4
  unfold WH at w1
  refine ⟨L, b, h1, ?_, ⟨?_, ?_, hW, h5⟩, h6, ?_⟩
  · intro k; simp only [cs, if_true]
  · rw [cs_ps hl.2]
    exact HL_of (fun a k x y => ps_o (by omega)) h2
  · rw [cs_ps hl.2]
    refine ⟨fun p x y => ?_, fun p r x y z w => ?_, fun p q x y z w => ?_, fun p x y => ?_⟩
    · have e := h3.1 p x y
      have e2 := w3 p x y
      unfold GP at e ⊢
      unfold WP at e2
      rw [pg_ps (k := 3) (by omega) (by omega) (by omega) (by omega) (by omega) (by omega) (by omega), pg_ps (k := 4) (by omega) (by omega) (by omega) (by omega) (by omega) (by omega) (by omega), pg_ps (k := 5) (by omega) (by omega) (by omega) (by omega) (by omega) (by omega) (by omega), pg_ps (k := 6) (by omega) (by omega) (by omega) (by omega) (by omega) (by omega) (by omega), pg_ps (k := 7) (by omega) (by omega) (by omega) (by omega) (by omega) (by omega) (by omega), pg_ps (k := 8) (by omega) (by omega) (by omega) (by omega) (by omega) (by omega) (by omega), pg_ps (k := 9) (by omega) (by omega) (by omega) (by omega) (by omega) (by omega) (by omega), pg_ps (k := 11) (by omega) (by omega) (by omega) (by omega) (by omega) (by omega) (by omega)]
      refine ⟨e.1, e.2.1, e.2.2.1, e.2.2.2.1, e.2.2.2.2.1, ?_, e.2.2.2.2.2.2⟩
      rcases e.2.2.2.2.2.1 with q | q
      · exact Or.inl q
      · right
        rw [pg_ps (k := 10) (by omega) (by omega) (by omega) (by omega) (by omega) (by omega) (by omega)]
        exact q
    · have e := h3.2.1 p r x y z w
      have e2 := w4 p r x (by omega) z (by omega)
      rw [pg_ps (by omega) (by omega) (by omega) (by omega) (by omega) (by omega) (by omega)]
      exact e
    · have e := h3.2.2.1 p q x y z w
      have e2 := w5 p q x (by omega) z (by omega)
      rw [pg_ps (by omega) (by omega) (by omega) (by omega) (by omega) (by omega) (by omega)]
      exact e
    · have e := h3.2.2.2 p x y
      rw [pg_ps (k := 3) (by omega) (by omega) (by omega) (by omega) (by omega) (by omega) (by omega), pg_ps (k := 4) (by omega) (by omega) (by omega) (by omega) (by omega) (by omega) (by omega)]
      exact e
  · rw [cs_o (by omega), cs_o (by omega), ps_o (by omega), ps_o (by omega)]; exact hs
/-- a method of the class and the reference's: the same answer, and the same afterwards -/
def OKm {ρ : Type} (c m : KM → Option (ρ × KM)) : Prop := ∀ M, Inv M → ∃ r M1 M2, c M = some (r, M1) ∧ m M1 = some (r, M2) ∧ Inv M2
theorem Opn_sc {M M' : KM} {L : Nat} {g : Int → Int → Int → Int} {b : Int → Int} (h : Opn M L g b) (h1 : ∀ a k, KI L (M.2.2 L 7) a k → M'.1 a k = M.1 a k) (h1b : ∀ a k, L ≤ a → a < L + 8 → M'.1 a k = M.1 a k) (h2 : ∀ a k, KJ L a k → M'.2.1 a k = M.2.1 a k) (h3 : M'.2.2 = M.2.2) : Opn M' L g b := by
  obtain ⟨a1, a2, a3, a4, a5, a6⟩ := h
  have hl := Ptr_L a1
  have e := a4.1
  unfold WH at e
  refine ⟨?_, HL_of (fun a k x y => ?_) a2, a3, a4, a5, CR_of ⟨by omega, by omega⟩ (Ptr_l a1) (fun a k x => ?_) (fun a k x => ?_) ?_ (fun z _ _ => rfl) rfl rfl a6⟩
  · unfold Ptr; rw [h3]; exact a1
  · rw [cs_o (by omega), cs_o (by omega)]; exact h1b a k x y
  · by_cases q : a = 232
    · subst q; simp only [cs, if_true]
    · rw [cs_o q, cs_o q]
      by_cases w : L + 14 ≤ a ∧ a < L + 38
      · rw [ps_at w rfl rfl, ps_at w rfl rfl]
      · rw [ps_o w, ps_o w]; exact h1 a k x
  · exact h2 a k x
  · show M'.2.2 L 7 = M.2.2 L 7; rw [h3]
theorem ok_ro {ρ : Type} {c m : KM → Option (ρ × KM)} (h : ∀ M L g b, Opn M L g b → ∃ (r : ρ) (s : Int32), c (ps (cs M b) L g) = some (r, ps (uI (cs M b) 0 15 s) L g) ∧ ∀ N, m (cs N b) = some (r, cs (uI (uI N 227 1 (zI 0)) 227 0 s) b)) : OKm c m := by
  intro M hI
  obtain ⟨M0, L, g, b, e, hO, -⟩ := Inv_open hI
  have hl := Ptr_L hO.1
  obtain ⟨r, s, e1, e2⟩ := h M0 L g b hO
  have e3 : ps (uI (cs M0 b) 0 15 s) L g = cs (ps (uI M0 0 15 s) L g) b := by rw [cu_o (by omega), cs_ps hl.2]
  refine ⟨r, _, _, by rw [e]; exact e1, by rw [e3]; exact e2 _, ?_⟩
  rw [pu_o (by omega), pu_o (by omega)]
  refine Inv_close (Opn_sc hO (fun a k x => ?_) (fun a k x y => ?_) (fun a k x => rfl) rfl) ?_
  · unfold KI at x
    have hp : M0.2.2 L 7 = 31 ∨ M0.2.2 L 7 = 69 ∨ M0.2.2 L 7 = 99 := by
      have := hO.1; unfold Ptr at this
      rcases this.2.1 with ⟨q, -⟩ | ⟨q, -⟩
      · subst q; omega
      · subst q; omega
    rw [uI_o (by omega), uI_o (by omega), uI_o (by omega)]
  · rw [uI_o (by omega), uI_o (by omega), uI_o (by omega)]
  · rw [uI_o (by omega), uI_o (by omega), uI_s, uI_s]
/-! ===== loops that gather ===== -/
theorem fI_c {α : Type} {f h : Int → α → α} : ∀ (k : Nat) (i : Int) (w : α), (∀ j v, i ≤ j → j < i + k → f j v = h j v) → fI f k i w = fI h k i w := by
  intro k
  induction k with
  | zero => intro i w _; rfl
  | succ k ih =>
    intro i w q
    simp only [fI]
    rw [q i w (by omega) (by omega)]
    exact ih (i + 1) _ (fun j v a b => q j v (by omega) (by omega))
def stF (P : Int → Bool) (i : Int) (w : Int32) : Int32 := if P i = true then w ||| (zI 1 <<< (zI i &&& zI 31)) else w
/-- the set of those of k with P -/
def setB (P : Int → Bool) (k : Int) : Int32 := fI (stF P) k.toNat 0 (zI 0)
theorem setB_c {P Q : Int → Bool} {k : Int} (h : ∀ j, 0 ≤ j → j < k → P j = Q j) : setB P k = setB Q k :=
  fI_c _ _ _ (fun j v a b => by unfold stF; rw [h j a (by omega)])
theorem loop_set {β : Type} {lp : Nat → Int32 → Int32 → Option β} (P : Int → Bool) {fin : Int32 → Option β} {N : Nat} {R : Int} (hR : 0 ≤ R)
    (h1 : ∀ n i w, N ≤ n → 0 ≤ i → i < R → P i = true → lp (n + 1) (zI i) w = lp n (zI (i + 1)) (w ||| (zI 1 <<< (zI i &&& zI 31))))
    (h2 : ∀ n i w, N ≤ n → 0 ≤ i → i < R → P i = false → lp (n + 1) (zI i) w = lp n (zI (i + 1)) w)
    (h0 : ∀ n w, N ≤ n → lp (n + 1) (zI R) w = fin w) {n : Nat} (hn : N + R.toNat < n) : lp n (zI 0) (zI 0) = fin (setB P R) := by
  refine (loop_f (f := stF P) (fin := fin) (fun _ _ => True) (N := N) (R := R) (fun n i w a b c _ => ⟨?_, trivial⟩) (fun n w a _ => h0 n w a) R.toNat 0 (zI 0) n (by omega) (by omega) hn trivial).1
  unfold stF
  by_cases q : P i = true
  · rw [if_pos q]; exact h1 n i w a b c q
  · rw [if_neg q]; exact h2 n i w a b c (by simpa using q)
/-- the sum of k -/
def sumB (f : Int → Int) (k : Int) : Int := fI (fun i w => w + f i) k.toNat 0 0
theorem loop_sum {β : Type} {lp : Nat → Int32 → Int32 → Option β} (f : Int → Int) {fin : Int32 → Option β} {N : Nat} {R : Int} (hR : 0 ≤ R)
    (h1 : ∀ n i w, N ≤ n → 0 ≤ i → i < R → lp (n + 1) (zI i) (zI w) = lp n (zI (i + 1)) (zI (w + f i)))
    (h0 : ∀ n w, N ≤ n → lp (n + 1) (zI R) (zI w) = fin (zI w)) {n : Nat} (hn : N + R.toNat < n) : lp n (zI 0) (zI 0) = fin (zI (sumB f R)) :=
  (loop_f (lp := fun n i w => lp n i (zI w)) (f := fun i w => w + f i) (fin := fun w => fin (zI w)) (fun _ _ => True) (N := N) (R := R) (fun n i w a b c _ => ⟨h1 n i w a b c, trivial⟩) (fun n w a _ => h0 n w a) R.toNat 0 0 n (by omega) (by omega) hn trivial).1
theorem HL_cs {M : KM} {L : Nat} {b d : Int → Int} (hl : L ≤ 61) : HL (cs M d) L b ↔ HL M L b :=
  ⟨fun h => HL_of (M := cs M d) (fun a k x y => (cs_o (by omega)).symm) h, fun h => HL_of (fun a k x y => cs_o (by omega)) h⟩

