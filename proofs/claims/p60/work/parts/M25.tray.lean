/-! ===== trays, and what a call told: their own closings ===== -/
theorem psJ {M : KM} {L a k : Nat} {g : Int → Int → Int → Int} {v : Int64} : uJ (ps M L g) a k v = ps (uJ M a k v) L g := rfl
theorem csJ {M : KM} {a k : Nat} {b : Int → Int} {v : Int64} : uJ (cs M b) a k v = cs (uJ M a k v) b := rfl
theorem Inv_thr {M : KM} {v : Int32} (h : Inv M) : Inv (uI M 227 1 v) := by
  obtain ⟨M0, L, g, b, rfl, hO, hs⟩ := Inv_open h
  have hl := Ptr_L hO.1
  have hq := Ptr_P hO.1
  rw [← cs_ps hl.2, cu_o (by omega), pu_o (by omega)]
  refine Inv_close (Opn_sc hO (fun a k x => ?_) (fun a k x y => uI_o (by omega)) (fun a k x => rfl) rfl) (by rw [uI_o (by omega), uI_o (by omega)]; exact hs)
  unfold KI at x
  exact uI_o (by omega)
theorem ok_ro2 {ρ : Type} {c m : KM → Option (ρ × KM)} (h : ∀ M L g b, Opn M L g b → ∃ (r : ρ) (s : Int32), c (ps (cs M b) L g) = some (r, ps (uI (cs M b) 0 15 s) L g) ∧ ∀ X, (∀ a k, KI L (M.2.2 L 7) a k → X.1 a k = M.1 a k) → (∀ a k, KJ L a k → X.2.1 a k = M.2.1 a k) → m (cs X b) = some (r, cs (uI (uI X 227 1 (zI 0)) 227 0 s) b)) : OKm c m := by
  intro M hI
  obtain ⟨M0, L, g, b, e, hO, -⟩ := Inv_open hI
  have hl := Ptr_L hO.1
  have hq := Ptr_P hO.1
  obtain ⟨r, s, e1, e2⟩ := h M0 L g b hO
  have e3 : ps (uI (cs M0 b) 0 15 s) L g = cs (ps (uI M0 0 15 s) L g) b := by rw [cu_o (by omega), cs_ps hl.2]
  have e4 := e2 (ps (uI M0 0 15 s) L g) (fun a k x => by
    have w := KI_out hq x
    rw [ps_o w.1, uI_o w.2.2.2]) (fun a k x => rfl)
  refine ⟨r, _, _, by rw [e]; exact e1, by rw [e3]; exact e4, ?_⟩
  rw [pu_o (by omega), pu_o (by omega)]
  refine Inv_close (Opn_sc hO (fun a k x => ?_) (fun a k x y => ?_) (fun a k x => rfl) rfl) ?_
  · have w := KI_out hq x
    unfold KI at x
    rw [uI_o (by omega), uI_o (by omega), uI_o (by omega)]
  · rw [uI_o (by omega), uI_o (by omega), uI_o (by omega)]
  · rw [uI_o (by omega), uI_o (by omega), uI_s, uI_s]
/-- the trays, of class and reference -/
def TRs (M : KM) : Prop := ∀ t : Int, 0 ≤ t → t < 4 → ∃ s m, 0 ≤ s ∧ s ≤ 3 ∧ -1 ≤ m ∧ m ≤ 60 ∧ M.1 (1 + 104 + 2 * t.toNat) 1 = zI s ∧ M.1 228 t.toNat = zI s ∧ M.1 (1 + 104 + 2 * t.toNat) 2 = zI m ∧ M.1 229 t.toNat = zI m ∧ ∀ k : Int, 0 ≤ k → k < m → M.2.1 (1 + 104 + 2 * t.toNat + 1) k.toNat = M.2.1 230 (60 * t + k).toNat
theorem CR_tray {M M' : KM} {L : Nat} {b : Int → Int} (hb : 0 ≤ b 2 ∧ b 2 ≤ 8) (hL : 23 ≤ L ∧ L ≤ 61) (hL2 : L = 23 ∨ L = 61) (hP : M.2.2 L 7 ≤ 99) (h1 : ∀ a k, KI L (M.2.2 L 7) a k → ¬ (105 ≤ a ∧ a < 113) → ¬ a = 228 → ¬ a = 229 → M'.1 a k = M.1 a k) (h2 : ∀ a k, KJ L a k → ¬ (105 ≤ a ∧ a < 113) → ¬ a = 230 → M'.2.1 a k = M.2.1 a k) (h3 : M'.2.2 L 7 = M.2.2 L 7) (ht : TRs M') (h : CR M L b) : CR M' L b := by
  obtain ⟨a1, a2, ⟨mk, a3, a4, a5, a6, a7⟩, ⟨tp, a8, a9, a10, a11⟩, a12, a13, a14, a15, a16, a17, a18, a19, a20⟩ := h
  refine ⟨?_, ?_, ⟨mk, a3, a4, ?_, ?_, fun i hi hi2 => ?_⟩, ⟨tp, a8, a9, ?_, ?_⟩, fun k hk => ?_, ?_, ?_, ?_, ?_, ht, ?_, fun l hl hl2 p hp => ?_, fun k hk => ?_⟩
  · exact NM_of (fun a k x y => h2 a k (by unfold KJ; omega) (by omega) (by omega)) (fun z => h2 235 _ (by unfold KJ; omega) (by omega) (by omega)) rfl rfl hb.2 a1
  · rw [h3]; exact PR_of (fun a k x y => h1 a k (by unfold KI; omega) (by omega) (by omega) (by omega)) (fun z x y => rfl) rfl rfl a2
  · rw [h1 _ _ (by unfold KI; omega) (by omega) (by omega) (by omega)]; exact a5
  · rw [h1 _ _ (by unfold KI; omega) (by omega) (by omega) (by omega)]; exact a6
  · obtain ⟨c1, c2, c3⟩ := a7 i hi hi2
    have e0 := c1.2.2.1.1
    unfold WH at e0
    exact ⟨LOK_of (fun a k x y => h1 a k (by unfold KI; omega) (by omega) (by omega) (by omega)) (fun a k x y => h1 a k (by unfold KI; omega) (by omega) (by omega) (by omega)) c1, NM_of (fun a k x y => h2 a k (by unfold KJ; omega) (by omega) (by omega)) (fun z => h2 235 _ (by unfold KJ; omega) (by omega) (by omega)) rfl rfl (by omega) c2, PR_of (fun a k x y => h1 a k (by unfold KI; omega) (by omega) (by omega) (by omega)) (fun z _ _ => rfl) rfl rfl c3⟩
  · rw [h1 _ _ (by unfold KI; omega) (by omega) (by omega) (by omega)]; exact a10
  · rw [h1 _ _ (by unfold KI; omega) (by omega) (by omega) (by omega)]; exact a11
  · rw [h1 231 _ (by unfold KI; omega) (by omega) (by omega) (by omega), h1 2 _ (by unfold KI; omega) (by omega) (by omega) (by omega)]; exact a12 k hk
  · rw [h1 227 _ (by unfold KI; omega) (by omega) (by omega) (by omega), h1 0 _ (by unfold KI; omega) (by omega) (by omega) (by omega)]; exact a13
  · rw [h1 227 _ (by unfold KI; omega) (by omega) (by omega) (by omega), h1 0 _ (by unfold KI; omega) (by omega) (by omega) (by omega)]; exact a14
  · rw [h2 227 _ (by unfold KJ; omega) (by omega) (by omega), h2 0 _ (by unfold KJ; omega) (by omega) (by omega)]; exact a15
  · rw [h2 227 _ (by unfold KJ; omega) (by omega) (by omega), h2 0 _ (by unfold KJ; omega) (by omega) (by omega)]; exact a16
  · rcases a18 with ⟨c1, c2⟩ | ⟨c1, ⟨v, c2, c3, c4⟩, c5⟩
    · refine Or.inl ⟨?_, ?_⟩
      · rw [h1 _ _ (by unfold KI; omega) (by omega) (by omega) (by omega)]; exact c1
      · rw [h1 _ _ (by unfold KI; omega) (by omega) (by omega) (by omega)]; exact c2
    · refine Or.inr ⟨?_, ⟨v, c2, c3, ?_⟩, fun k hk => ?_⟩
      · rw [h1 _ _ (by unfold KI; omega) (by omega) (by omega) (by omega)]; exact c1
      · rw [h1 _ _ (by unfold KI; omega) (by omega) (by omega) (by omega)]; exact c4
      · rw [h1 243 _ (by unfold KI; omega) (by omega) (by omega) (by omega), h1 4 _ (by unfold KI; omega) (by omega) (by omega) (by omega)]; exact c5 k hk
  · rw [h1 _ _ (by unfold KI; omega) (by omega) (by omega) (by omega), h1 _ _ (by unfold KI; omega) (by omega) (by omega) (by omega)]; exact a19 l hl hl2 p hp
  · rw [h2 6 _ (by unfold KJ; omega) (by omega) (by omega), h2 9 _ (by unfold KJ; omega) (by omega) (by omega)]; exact a20 k hk
/-- numbers of one row, one behind the other -/
theorem fI_J {a : Nat} {o : Int} {F : Int → Int64} (ho : 0 ≤ o) : ∀ (k : Nat) (i : Int) (M : KM), 0 ≤ i → fI (fun i M => uJ M a (o + i).toNat (F i)) k i M = (M.1, (fun (c j : Nat) => if c = a ∧ o + i ≤ (j : Int) ∧ (j : Int) < o + i + k then F ((j : Int) - o) else M.2.1 c j), M.2.2) := by
  intro k
  induction k with
  | zero =>
    intro i M _
    simp only [fI]
    refine Prod.ext rfl (Prod.ext ?_ rfl)
    funext c j
    show M.2.1 c j = if _ then _ else _
    rw [if_neg (by omega)]
  | succ k ih =>
    intro i M hi
    simp only [fI]
    rw [ih _ _ (by omega)]
    refine Prod.ext rfl (Prod.ext ?_ rfl)
    funext c j
    show (if c = a ∧ o + (i + 1) ≤ (j : Int) ∧ (j : Int) < o + (i + 1) + (k : Int) then F ((j : Int) - o) else (uJ M a (o + i).toNat (F i)).2.1 c j) = if c = a ∧ o + i ≤ (j : Int) ∧ (j : Int) < o + i + ((k + 1 : Nat) : Int) then F ((j : Int) - o) else M.2.1 c j
    by_cases w : c = a ∧ (j : Int) = o + i
    · rw [if_neg (by omega), if_pos (by omega), w.1, show j = (o + i).toNat by omega, uJ_s]
      congr 1; omega
    · by_cases v : c = a ∧ o + (i + 1) ≤ (j : Int) ∧ (j : Int) < o + (i + 1) + (k : Int)
      · rw [if_pos v, if_pos (by omega)]
      · rw [if_neg v, if_neg (by omega), uJ_o (by omega)]
theorem ok_cr {ρ : Type} {c m : KM → Option (ρ × KM)} (h : ∀ M L g b, Opn M L g b → ∃ (r : ρ) (N Y : KM), c (ps (cs M b) L g) = some (r, ps (cs N b) L g) ∧ m (cs (ps N L g) b) = some (r, cs (ps Y L g) b) ∧ Y.1 0 15 = Y.1 227 0 ∧ Y.2.2 = M.2.2 ∧ (∀ a k, L ≤ a → a < L + 8 → Y.1 a k = M.1 a k) ∧ CR (cs (ps Y L g) b) L b) : OKm c m := by
  intro M hI
  obtain ⟨M0, L, g, b, e, hO, -⟩ := Inv_open hI
  have hl := Ptr_L hO.1
  obtain ⟨r, N, Y, e1, e2, h1, h2, h3, h4⟩ := h M0 L g b hO
  refine ⟨r, _, _, by rw [e]; exact e1, by rw [← cs_ps hl.2]; exact e2, ?_⟩
  obtain ⟨a1, a2, a3, a4, a5, a6⟩ := hO
  refine Inv_close ⟨?_, ?_, a3, a4, a5, h4⟩ h1
  · unfold Ptr; rw [h2]; exact a1
  · rw [HL_cs hl.2] at a2 ⊢
    exact HL_of h3 a2
theorem TR_at {M : KM} {L : Nat} {g : Int → Int → Int → Int} {b : Int → Int} (hl : 23 ≤ L ∧ L ≤ 61) (h : CR (cs (ps M L g) b) L b) : TRs M := by
  obtain ⟨-, -, -, -, -, -, -, -, -, a17, -⟩ := h
  intro t h1 h2
  obtain ⟨s, m, c1, c2, c3, c4, c5, c6, c7, c8, c9⟩ := a17 t h1 h2
  rw [cs_o (by omega), ps_o (by omega)] at c5 c6 c7 c8
  exact ⟨s, m, c1, c2, c3, c4, c5, c6, c7, c8, c9⟩
