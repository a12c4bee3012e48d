/-! ===== what a copied land holds ===== -/
theorem WB_c {b b' : Int → Int} (hb : WB b) (h : ∀ z, 0 ≤ z → z < 290 → b' z = b z) : WB b' := by
  obtain ⟨h1, h2, h3, h4, h5, h6⟩ := hb
  have hh := h1
  unfold WH at hh
  have i : b 0 ≤ 8 ∧ b 1 ≤ 12 ∧ b 2 ≤ 8 := by omega
  have h0' := h 0 (by omega) (by omega)
  have h1' := h 1 (by omega) (by omega)
  have h2' := h 2 (by omega) (by omega)
  refine ⟨?_, fun r u v => ?_, fun p u v => ?_, fun p r a c d e => ?_, fun p q a c d e => ?_, fun p u v => ?_⟩
  · unfold WH
    rw [h0', h1', h2', h 3 (by omega) (by omega), h 4 (by omega) (by omega), h 5 (by omega) (by omega), h 6 (by omega) (by omega), h 7 (by omega) (by omega), h 8 (by omega) (by omega), h 9 (by omega) (by omega)]
    exact h1
  · rw [h1'] at v
    have := h2 r u v
    unfold WR at this ⊢
    rw [h0', h (10 + r) (by omega) (by omega), h (22 + r) (by omega) (by omega), h (34 + r) (by omega) (by omega), h (46 + r) (by omega) (by omega)]
    exact this
  · rw [h2'] at v
    have := h3 p u v
    unfold WP at this ⊢
    have e34 : 0 ≤ b (122 + p) → b (122 + p) < b 1 → b' (34 + b (122 + p)) = b (34 + b (122 + p)) := fun a c => h _ (by omega) (by omega)
    rw [h0', h1', h2', h 5 (by omega) (by omega), h (58 + p) (by omega) (by omega), h (66 + p) (by omega) (by omega), h (74 + p) (by omega) (by omega), h (82 + p) (by omega) (by omega), h (90 + p) (by omega) (by omega), h (98 + p) (by omega) (by omega), h (106 + p) (by omega) (by omega), h (114 + p) (by omega) (by omega), h (122 + p) (by omega) (by omega)]
    refine ⟨this.1, this.2.1, this.2.2.1, this.2.2.2.1, this.2.2.2.2.1, this.2.2.2.2.2.1, this.2.2.2.2.2.2.1, this.2.2.2.2.2.2.2.1, this.2.2.2.2.2.2.2.2.1, this.2.2.2.2.2.2.2.2.2.1, this.2.2.2.2.2.2.2.2.2.2.1, this.2.2.2.2.2.2.2.2.2.2.2.1, this.2.2.2.2.2.2.2.2.2.2.2.2.1, this.2.2.2.2.2.2.2.2.2.2.2.2.2.1, ?_⟩
    rcases this.2.2.2.2.2.2.2.2.2.2.2.2.2.2 with z | z
    · exact Or.inl z
    · refine Or.inr ⟨z.1, z.2.1, z.2.2.1, z.2.2.2.1, ?_, z.2.2.2.2.2⟩
      rw [e34 z.2.1 z.2.2.1]; exact z.2.2.2.2.1
  · rw [h _ (by omega) (by omega)]; exact h4 p r a c d e
  · rw [h _ (by omega) (by omega), h _ (by omega) (by omega)]; exact h5 p q a c d e
  · rw [h2'] at v
    have hp := h3 p u v
    unfold WP at hp
    have := h6 p u v
    unfold WL at this ⊢
    rw [h (82 + p) (by omega) (by omega)]
    rcases this with z | z
    · exact Or.inl z
    · by_cases y : b (82 + p) = -1
      · exact Or.inl y
      · refine Or.inr ?_
        rw [h (66 + p) (by omega) (by omega), h (66 + b (82 + p)) (by omega) (by omega), h (82 + b (82 + p)) (by omega) (by omega), h (122 + b (82 + p)) (by omega) (by omega), h (122 + p) (by omega) (by omega), h (74 + b (82 + p)) (by omega) (by omega), h (74 + p) (by omega) (by omega), h (114 + b (82 + p)) (by omega) (by omega), h (114 + p) (by omega) (by omega)]
        exact z

theorem pg_cp {M N : KM} {D S PD PS : Nat} (h : LCo M N D S PD PS) {p k : Int} (h1 : 0 ≤ p) (h2 : p < 8) (h3 : 0 ≤ k) : (3 ≤ k → k ≤ 11 → pg N D p 0 k = pg M S p 0 k) ∧ (k < 12 → pg N D p 1 k = pg M S p 1 k) ∧ (k < 8 → pg N D p 2 k = pg M S p 2 k) := by
  obtain ⟨-, -, -, -, -, -, -, c4, -, -⟩ := h
  have c := c4 p.toNat (by omega)
  refine ⟨fun a d => ?_, fun a => ?_, fun a => ?_⟩
  · simp only [pg]
    show (N.1 (D + 14 + 3 * p.toNat + 0) k.toNat).toInt = (M.1 (S + 14 + 3 * p.toNat + 0) k.toNat).toInt
    simp only [Nat.add_zero]
    rw [c.1 k.toNat (by omega) (by omega)]
  · simp only [pg]
    show (N.1 (D + 14 + 3 * p.toNat + 1) k.toNat).toInt = (M.1 (S + 14 + 3 * p.toNat + 1) k.toNat).toInt
    rw [c.2.1 k.toNat (by omega)]
  · simp only [pg]
    show (N.1 (D + 14 + 3 * p.toNat + 2) k.toNat).toInt = (M.1 (S + 14 + 3 * p.toNat + 2) k.toNat).toInt
    rw [c.2.2.1 k.toNat (by omega)]
theorem LCo_LOK {M N : KM} {D S PD PS : Nat} {b : Int → Int} (h : LCo M N D S PD PS) (hL : LOK M S b) : LOK N D b := by
  have hp := fun p k => @pg_cp M N D S PD PS h p k
  obtain ⟨hd, hg, hb, h5⟩ := hL
  have hh := hb.1
  unfold WH at hh
  have hi : b 1 ≤ 12 ∧ b 2 ≤ 8 := by omega
  obtain ⟨-, -, -, c1, c2, c3, c3s, -, -, -⟩ := h
  obtain ⟨q0, q1, q2, q5, q6, q7, q8, q9, q3, q4, qd, qa, qb, qc, qs⟩ := hd
  refine ⟨⟨?_, ?_, ?_, ?_, ?_, ?_, ?_, ?_, ?_, ?_, ?_, fun r u v => ?_, fun r u v => ?_, fun r u v => ?_, fun r u v => ?_⟩, ⟨fun p u v => ?_, fun p r a c d e => ?_, fun p q a c d e => ?_, fun p u v => ?_⟩, hb, h5⟩
  · rw [c1 _ (by omega) (by omega)]; exact q0
  · rw [c1 _ (by omega) (by omega)]; exact q1
  · rw [c1 _ (by omega) (by omega)]; exact q2
  · rw [c1 _ (by omega) (by omega)]; exact q5
  · rw [c1 _ (by omega) (by omega)]; exact q6
  · rw [c1 _ (by omega) (by omega)]; exact q7
  · rw [c1 _ (by omega) (by omega)]; exact q8
  · rw [c1 _ (by omega) (by omega)]; exact q9
  · rw [c2.1]; exact q3
  · rw [c2.2.1]; exact q4
  · rw [c2.2.2, q3, q4, zsub, zmul]
  · rw [c3 2 _ (by omega) (by omega) (by omega)]; exact qa r u v
  · rw [c3 3 _ (by omega) (by omega) (by omega)]; exact qb r u v
  · rw [c3 4 _ (by omega) (by omega) (by omega)]; exact qc r u v
  · rw [c3s _ (by omega), qs r u v]
    have := hb.2.1 r u v
    unfold WR at this
    have : b (46 + r) = 0 ∨ b (46 + r) = 1 := by omega
    rcases this with e | e
    · rw [e]; exact nar0
    · rw [e]; exact nar1
  · have := hg.1 p u v
    unfold GP at this ⊢
    rw [(hp p 3 u (by omega) (by omega)).1 (by omega) (by omega), (hp p 4 u (by omega) (by omega)).1 (by omega) (by omega), (hp p 5 u (by omega) (by omega)).1 (by omega) (by omega), (hp p 6 u (by omega) (by omega)).1 (by omega) (by omega), (hp p 7 u (by omega) (by omega)).1 (by omega) (by omega), (hp p 8 u (by omega) (by omega)).1 (by omega) (by omega), (hp p 9 u (by omega) (by omega)).1 (by omega) (by omega), (hp p 10 u (by omega) (by omega)).1 (by omega) (by omega), (hp p 11 u (by omega) (by omega)).1 (by omega) (by omega)]
    exact this
  · rw [(hp p r a (by omega) (by omega)).2.1 (by omega)]; exact hg.2.1 p r a c d e
  · rw [(hp p q a (by omega) (by omega)).2.2 (by omega)]; exact hg.2.2.1 p q a c d e
  · rw [(hp p 3 u (by omega) (by omega)).1 (by omega) (by omega), (hp p 4 u (by omega) (by omega)).1 (by omega) (by omega)]; exact hg.2.2.2 p u v
theorem LCo_NM {M N : KM} {D S PD PS : Nat} {b : Int → Int} {w : Int → Int64} (h : LCo M N D S PD PS) (h0 : b 0 ≤ 8) (h2 : b 2 ≤ 8) (hN : NM M S b w) : NM N D b w := by
  obtain ⟨-, -, -, -, -, -, -, c4, -, c6⟩ := h
  refine ⟨fun k u v => ?_, fun p u v => ?_⟩
  · rw [c6 _ (by omega)]; exact hN.1 k u v
  · rw [show D + 6 + 8 + 3 * p.toNat = D + 14 + 3 * p.toNat by omega, (c4 p.toNat (by omega)).2.2.2, ← show S + 6 + 8 + 3 * p.toNat = S + 14 + 3 * p.toNat by omega]
    exact hN.2 p u v
theorem PRB_cp {M N : KM} {PD PS : Nat} {b : Int → Int} (h1 : ∀ j k, 1 ≤ j → j ≤ 5 → k < 60 → N.1 (PD + j) k = M.1 (PS + j) k) : ∀ (n d : Nat) (s e i j : Int), 0 ≤ i → j ≤ 60 → PRB M PS b n d s e i j → PRB N PD b n d s e i j := by
  intro n
  induction n with
  | zero => intro d s e i j _ _ h; exact h
  | succ n ih =>
    intro d s e i j hi hj h
    rcases h with h | ⟨a1, a2, a3, a4, a5, a6⟩ | ⟨a1, a2, x, f, a3, a4, a5, a6, a7, a8, a9, a10, a11, a12, a13⟩
    · exact Or.inl h
    · refine Or.inr (Or.inl ⟨a1, a2, ?_, ?_, a5, ih d _ _ _ _ (by omega) hj a6⟩)
      · unfold PSt at a3 ⊢
        rw [h1 1 _ (by omega) (by omega) (by omega), h1 2 _ (by omega) (by omega) (by omega), h1 3 _ (by omega) (by omega) (by omega), h1 4 _ (by omega) (by omega) (by omega)]
        exact a3
      · rw [h1 5 _ (by omega) (by omega) (by omega)]; exact a4
    · refine Or.inr (Or.inr ⟨a1, a2, x, f, a3, a4, a5, a6, ?_, ?_, ?_, ?_, a11, ih (d - 1) _ _ _ _ (by omega) (by omega) a12, ih d _ _ _ _ (by omega) hj a13⟩)
      · unfold PBl at a7 ⊢
        rw [h1 1 _ (by omega) (by omega) (by omega), h1 2 _ (by omega) (by omega) (by omega), h1 3 _ (by omega) (by omega) (by omega), h1 4 _ (by omega) (by omega) (by omega)]
        exact a7
      · rw [h1 5 _ (by omega) (by omega) (by omega)]; exact a8
      · rw [h1 1 _ (by omega) (by omega) (by omega)]; exact a9
      · rw [h1 5 _ (by omega) (by omega) (by omega)]; exact a10
theorem LCo_PR {M N : KM} {D S PD PS : Nat} {b : Int → Int} (h : LCo M N D S PD PS) (hP : PR M PS b) : PR N PD b := by
  obtain ⟨-, -, -, -, -, -, -, -, c5, -⟩ := h
  obtain ⟨j, a1, a2, a3, a4, a5, a6, a7, a8, a9, a10⟩ := hP
  exact ⟨j, a1, a2, a3, a4, a5, a6, by rw [c5.1]; exact a7, by rw [c5.2.1]; exact a8, by rw [c5.2.2.1]; exact a9, PRB_cp c5.2.2.2 61 3 0 _ 0 j (by omega) a2 a10⟩
/-- a block's first 562 cells are all that matters -/
theorem LOK_c {M : KM} {L : Nat} {b b' : Int → Int} (h : ∀ z, 0 ≤ z → z < 562 → b' z = b z) (hL : LOK M L b) : LOK M L b' := by
  obtain ⟨a1, a2, a3, a4⟩ := hL
  have hh := a3.1
  unfold WH at hh
  refine ⟨HL_b a1 (fun z u v => h z u (by omega)) (by omega), GR_p a2 (h 1 (by omega) (by omega)) (h 2 (by omega) (by omega)) (fun z u v => h z (by omega) (by omega)) a3, WB_c a3 (fun z u v => h z u (by omega)), by rw [h 5 (by omega) (by omega)]; exact a4⟩
theorem NM_c {M : KM} {L : Nat} {b b' : Int → Int} {w w' : Int → Int64} (h : ∀ z, 0 ≤ z → z < 562 → b' z = b z) (hw : ∀ z, 0 ≤ z → z < 16 → w' z = w z) (h0 : b 0 ≤ 8) (h2 : b 2 ≤ 8) (hN : NM M L b w) : NM M L b' w' := by
  refine ⟨fun k u v => ?_, fun p u v => ?_⟩
  · rw [h 0 (by omega) (by omega)] at v
    rw [hw k u (by omega)]; exact hN.1 k u v
  · rw [h 2 (by omega) (by omega)] at v
    rw [hw (8 + p) (by omega) (by omega)]; exact hN.2 p u v
theorem PR_c {M : KM} {P : Nat} {b b' : Int → Int} (h : ∀ z, 0 ≤ z → z < 562 → b' z = b z) (hP : PR M P b) : PR M P b' := PR_of (M := M) (fun _ _ _ _ => rfl) (fun z u v => h z (by omega) v) (h 0 (by omega) (by omega)) (h 2 (by omega) (by omega)) hP
/-! ===== a block is copied: the reference ===== -/
def cpB (b : Int → Int) (p q : Int) : Int → Int := fun z => if 562 * q ≤ z ∧ z < 562 * q + 562 then b (z - 562 * q + 562 * p) else b z
theorem fI_cp {b : Int → Int} {p q : Int} (hpq : ¬ p = q) : ∀ (k : Nat) (i : Int) (w : Int → Int), 0 ≤ i → i + k ≤ 562 → (∀ z, w z = if 562 * q ≤ z ∧ z < 562 * q + i then b (z - 562 * q + 562 * p) else b z) → ∀ z, fI (fun i w => bu w (562 * q + i) (w (562 * p + i))) k i w z = if 562 * q ≤ z ∧ z < 562 * q + (i + k) then b (z - 562 * q + 562 * p) else b z := by
  intro k
  induction k with
  | zero =>
    intro i w h1 h2 h z
    rw [show i + ((0 : Nat) : Int) = i by omega]
    exact h z
  | succ k ih =>
    intro i w h1 h2 h z
    have := ih (i + 1) (bu w (562 * q + i) (w (562 * p + i))) (by omega) (by omega) (fun z => by
      by_cases e : z = 562 * q + i
      · rw [e, bu_s, if_pos (by omega), h, if_neg (by omega)]
        congr 1; omega
      · rw [bu_o e, h]
        by_cases y : 562 * q ≤ z ∧ z < 562 * q + i
        · rw [if_pos y, if_pos (by omega)]
        · rw [if_neg y, if_neg (by omega)]) z
    rw [show i + ((k + 1 : Nat) : Int) = i + 1 + k by omega]
    exact this
def jw (M : KM) (W : Int → Int64) : KM := (M.1, (fun c k => if c = 235 then W k else M.2.1 c k), M.2.2)
theorem jw_s {M : KM} {W : Int → Int64} {z : Int} (h : 0 ≤ z) : (jw M W).2.1 235 z.toNat = W z := by
  show (if 235 = 235 then W (z.toNat : Int) else M.2.1 235 z.toNat) = _
  rw [if_pos rfl, Int.toNat_of_nonneg h]
theorem jw_o {M : KM} {c k : Nat} {W : Int → Int64} (h : ¬ c = 235) : (jw M W).2.1 c k = M.2.1 c k := if_neg h
theorem jw_ex (M : KM) : M = jw M (fun z => M.2.1 235 z.toNat) := by
  refine Prod.ext rfl (Prod.ext ?_ rfl)
  funext c k
  show _ = (if c = 235 then M.2.1 235 (k : Int).toNat else _)
  by_cases e : c = 235
  · rw [if_pos e, e, Int.toNat_natCast]
  · rw [if_neg e]
def cpW (W : Int → Int64) (p q : Int) : Int → Int64 := fun z => if 16 * q ≤ z ∧ z < 16 * q + 16 then W (z - 16 * q + 16 * p) else W z
