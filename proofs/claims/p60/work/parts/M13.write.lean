/-! ===== calls that change the land ===== -/
/-- what no call of the reference changes but by its own matter -/
def MF (X Y : KM) : Prop := Y.2 = X.2 ∧ ∀ a k, (a < 227 ∨ a = 228 ∨ a = 229 ∨ a = 231 ∨ a = 243 ∨ (a = 227 ∧ (k = 8 ∨ k = 10 ∨ k = 11 ∨ k = 24 ∨ k = 38))) → Y.1 a k = X.1 a k
theorem KI_out {P L a k : Nat} (h : (L = 23 ∨ L = 61) ∧ (P = 31 ∨ P = 69 ∨ P = 99)) (hk : KI L P a k) : ¬ (L + 14 ≤ a ∧ a < L + 38) ∧ ¬ (L ≤ a ∧ a < L + 8) ∧ ¬ a = 232 ∧ ¬ (a = 0 ∧ k = 15) := by
  unfold KI at hk; omega
theorem Ptr_P {M : KM} {L : Nat} (h : Ptr M L) : (L = 23 ∨ L = 61) ∧ (M.2.2 L 7 = 31 ∨ M.2.2 L 7 = 69 ∨ M.2.2 L 7 = 99) := by
  unfold Ptr at h
  rcases h.2.1 with ⟨q, -⟩ | ⟨q, -⟩
  · subst q; omega
  · subst q; omega
theorem ok_wr {ρ : Type} {c m : KM → Option (ρ × KM)} (h : ∀ M L g b, Opn M L g b → ∃ (r : ρ) (s : Int32) (N : KM) (g' : Int → Int → Int → Int) (b' : Int → Int), c (ps (cs M b) L g) = some (r, ps (cs N b) L g') ∧ (∀ X, ∃ Y, m (cs X b) = some (r, cs Y b') ∧ Y.1 227 0 = s ∧ MF X Y) ∧ N.1 0 15 = s ∧ N.2.2 = M.2.2 ∧ (∀ a k, KI L (M.2.2 L 7) a k → N.1 a k = M.1 a k) ∧ (∀ a k, KJ L a k → N.2.1 a k = M.2.1 a k) ∧ HL N L b' ∧ GR g' b' ∧ WB b' ∧ b' 5 ≤ 99999 ∧ (∀ z, 290 ≤ z → z < 2248 → b' z = b z) ∧ b' 0 = b 0 ∧ b' 2 = b 2) : OKm c m := by
  intro M hI
  obtain ⟨M0, L, g, b, e, hO, -⟩ := Inv_open hI
  have hl := Ptr_L hO.1
  have hq := Ptr_P hO.1
  obtain ⟨r, s, N, g', b', e1, e2, h1, h2, h3, h4, h5, h6, h7, h8, h9, h10, h11⟩ := h M0 L g b hO
  obtain ⟨Y, e3, e4, e5⟩ := e2 (ps N L g')
  refine ⟨r, _, _, by rw [e]; exact e1, by rw [← cs_ps hl.2]; exact e3, ?_⟩
  have hY : ps Y L g' = Y := by
    refine Prod.ext ?_ rfl
    funext a k
    by_cases w : L + 14 ≤ a ∧ a < L + 38
    · rw [ps_at w rfl rfl, e5.2 a k (by omega), ps_at w rfl rfl]
    · rw [ps_o w]
  obtain ⟨a1, a2, a3, a4, a5, a6⟩ := hO
  have hw := a4.1
  unfold WH at hw
  have hc : Inv (cs (ps Y L g') b') := by
    refine Inv_close ⟨?_, ?_, h6, h7, h8, CR_of ⟨by omega, by omega⟩ (Ptr_l a1) (M := cs (ps M0 L g) b) (fun a k x => ?_) (fun a k x => ?_) ?_ h9 h10 h11 a6⟩ ?_
    · unfold Ptr
      rw [show Y.2.2 = N.2.2 from congrArg Prod.snd e5.1, h2]; exact a1
    · rw [HL_cs hl.2]
      exact HL_of (fun a k x y => by rw [e5.2 a k (by omega), ps_o (by omega)]) h5
    · have x : KI L (M0.2.2 L 7) a k := x
      have w := KI_out hq x
      rw [cs_o w.2.2.1, cs_o w.2.2.1, ps_o w.1, ps_o w.1]
      have w2 := x
      unfold KI at w2
      rw [e5.2 a k (by omega), ps_o w.1]
      exact h3 a k x
    · show Y.2.1 a k = M0.2.1 a k
      rw [show Y.2.1 = N.2.1 from congrArg Prod.fst e5.1]
      exact h4 a k x
    · show Y.2.2 L 7 = M0.2.2 L 7
      rw [show Y.2.2 = N.2.2 from congrArg Prod.snd e5.1, h2]
    · rw [e4, e5.2 0 15 (by omega), ps_o (by omega), h1]
  rw [hY] at hc
  exact hc
theorem MF_st {X : KM} {s : Int32} : MF X (uI (uI X 227 1 (zI 0)) 227 0 s) := ⟨rfl, fun a k h => by rw [uI_o (by omega), uI_o (by omega)]⟩
theorem GR_p {g : Int → Int → Int → Int} {b b' : Int → Int} (h : GR g b) (h1 : b' 1 = b 1) (h2 : b' 2 = b 2) (h3 : ∀ z, 58 ≤ z → z < 290 → b' z = b z) (hb : WB b) : GR g b' := by
  have hh := hb.1
  unfold WH at hh
  refine ⟨fun p x y => ?_, fun p r x y z w => ?_, fun p q x y z w => ?_, h.2.2.2⟩
  · have e := h.1 p x (by omega)
    unfold GP at e ⊢
    rw [h3 (106 + p) (by omega) (by omega), h3 (98 + p) (by omega) (by omega), h3 (66 + p) (by omega) (by omega), h3 (58 + p) (by omega) (by omega), h3 (122 + p) (by omega) (by omega), h3 (114 + p) (by omega) (by omega), h3 (82 + p) (by omega) (by omega), h3 (74 + p) (by omega) (by omega), h3 (90 + p) (by omega) (by omega)]
    exact e
  · rw [h3 _ (by omega) (by omega)]; exact h.2.1 p r x (by omega) z (by omega)
  · rw [h3 _ (by omega) (by omega)]; exact h.2.2.1 p q x (by omega) z (by omega)
/-- another head, the same roads' ends and minutes, the same people -/
theorem WB_h {b b' : Int → Int} (hb : WB b) (h1 : WH b') (h0 : b' 0 = b 0) (h2 : b' 1 = b 1) (h3 : b' 2 = b 2) (h4 : ∀ z, 10 ≤ z → z < 46 → b' z = b z) (h5 : ∀ r, 0 ≤ r → r < 12 → 0 ≤ b' (46 + r) ∧ b' (46 + r) ≤ 1 ∨ b' (46 + r) = b (46 + r)) (h6 : ∀ z, 58 ≤ z → z < 290 → b' z = b z) (h7 : b 5 ≤ b' 5) : WB b' := by
  have hh := hb.1
  unfold WH at hh
  refine ⟨h1, fun r x y => ?_, fun p x y => ?_, fun p r x y z w => ?_, fun p q x y z w => ?_, fun p x y => ?_⟩
  · have e := hb.2.1 r x (by omega)
    have e5 := h5 r x (by omega)
    unfold WR at e ⊢
    rw [h4 (10 + r) (by omega) (by omega), h4 (22 + r) (by omega) (by omega), h4 (34 + r) (by omega) (by omega), h0]
    omega
  · have e := hb.2.2.1 p x (by omega)
    unfold WP at e ⊢
    rw [h6 (58 + p) (by omega) (by omega), h6 (66 + p) (by omega) (by omega), h6 (74 + p) (by omega) (by omega), h6 (82 + p) (by omega) (by omega), h6 (90 + p) (by omega) (by omega), h6 (98 + p) (by omega) (by omega), h6 (106 + p) (by omega) (by omega), h6 (114 + p) (by omega) (by omega), h6 (122 + p) (by omega) (by omega), h0, h2, h3]
    by_cases q : b (66 + p) = -1
    · omega
    · rw [h4 (34 + b (122 + p)) (by omega) (by omega)]; omega
  · rw [h6 _ (by omega) (by omega)]; exact hb.2.2.2.1 p r x y z w
  · rw [h6 (226 + 8 * p + q) (by omega) (by omega), h6 (226 + 8 * q + p) (by omega) (by omega)]; exact hb.2.2.2.2.1 p q x y z w
  · have e := hb.2.2.2.2.2 p x (by omega)
    have e2 := hb.2.2.1 p x (by omega)
    unfold WP at e2
    unfold WL at e ⊢
    rw [h6 (82 + p) (by omega) (by omega)]
    by_cases q : b (82 + p) = -1
    · exact Or.inl q
    · rw [h6 (66 + p) (by omega) (by omega), h6 (122 + p) (by omega) (by omega), h6 (74 + p) (by omega) (by omega), h6 (114 + p) (by omega) (by omega), h6 (66 + b (82 + p)) (by omega) (by omega), h6 (122 + b (82 + p)) (by omega) (by omega), h6 (74 + b (82 + p)) (by omega) (by omega), h6 (114 + b (82 + p)) (by omega) (by omega), h6 (82 + b (82 + p)) (by omega) (by omega)]
      exact e
/-- nothing changes but the status -/
theorem wr_no {M : KM} {L : Nat} {g : Int → Int → Int → Int} {b : Int → Int} {ρ : Type} {c m : KM → Option (ρ × KM)} {r : ρ} {s : Int32} (hO : Opn M L g b) (h1 : c (ps (cs M b) L g) = some (r, ps (uI (cs M b) 0 15 s) L g)) (h2 : ∀ X, m (cs X b) = some (r, cs (uI (uI X 227 1 (zI 0)) 227 0 s) b)) : ∃ (r : ρ) (s : Int32) (N : KM) (g' : Int → Int → Int → Int) (b' : Int → Int), c (ps (cs M b) L g) = some (r, ps (cs N b) L g') ∧ (∀ X, ∃ Y, m (cs X b) = some (r, cs Y b') ∧ Y.1 227 0 = s ∧ MF X Y) ∧ N.1 0 15 = s ∧ N.2.2 = M.2.2 ∧ (∀ a k, KI L (M.2.2 L 7) a k → N.1 a k = M.1 a k) ∧ (∀ a k, KJ L a k → N.2.1 a k = M.2.1 a k) ∧ HL N L b' ∧ GR g' b' ∧ WB b' ∧ b' 5 ≤ 99999 ∧ (∀ z, 290 ≤ z → z < 2248 → b' z = b z) ∧ b' 0 = b 0 ∧ b' 2 = b 2 := by
  have hl := Ptr_L hO.1
  have hq := Ptr_P hO.1
  obtain ⟨a1, a2, a3, a4, a5, a6⟩ := hO
  refine ⟨r, s, uI M 0 15 s, g, b, ?_, fun X => ⟨_, h2 X, uI_s, MF_st⟩, uI_s, rfl, fun a k x => ?_, fun a k x => rfl, ?_, a3, a4, a5, fun z _ _ => rfl, rfl, rfl⟩
  · rw [h1, cu_o (by omega)]
  · exact uI_o (KI_out hq x).2.2.2
  · exact HL_of (fun a k x y => uI_o (by omega)) ((HL_cs hl.2).mp a2)
theorem HL_c {M N : KM} {L : Nat} {b : Int → Int} {v : Int} (hL : HL M L b) (h : ∀ a k, L ≤ a → a < L + 8 → ¬ (a = L ∧ k = 15) → N.1 a k = M.1 a k) (hv : N.1 L 15 = zI v) : HL N L (bu b 9 v) := by
  obtain ⟨q0, q1, q2, q5, q6, q7, q8, q9, q3, q4, qd, qa, qb, qc, qs⟩ := hL
  refine ⟨?_, ?_, ?_, ?_, ?_, ?_, ?_, ?_, ?_, ?_, ?_, ?_, ?_, ?_, ?_⟩
  · rw [h L 8 (by omega) (by omega) (by omega), bu_o (by omega)]; exact q0
  · rw [h L 9 (by omega) (by omega) (by omega), bu_o (by omega)]; exact q1
  · rw [h L 10 (by omega) (by omega) (by omega), bu_o (by omega)]; exact q2
  · rw [h L 11 (by omega) (by omega) (by omega), bu_o (by omega)]; exact q5
  · rw [h L 12 (by omega) (by omega) (by omega), bu_o (by omega)]; exact q6
  · rw [h L 13 (by omega) (by omega) (by omega), bu_o (by omega)]; exact q7
  · rw [h L 14 (by omega) (by omega) (by omega), bu_o (by omega)]; exact q8
  · rw [hv, bu_s]
  · rw [h (L + 7) 0 (by omega) (by omega) (by omega), bu_o (by omega)]; exact q3
  · rw [h (L + 7) 1 (by omega) (by omega) (by omega), bu_o (by omega)]; exact q4
  · rw [h (L + 7) 2 (by omega) (by omega) (by omega), bu_o (by omega), bu_o (by omega)]; exact qd
  · intro r x y; rw [bu_o (by omega)] at y; rw [h _ _ (by omega) (by omega) (by omega), bu_o (by omega)]; exact qa r x y
  · intro r x y; rw [bu_o (by omega)] at y; rw [h _ _ (by omega) (by omega) (by omega), bu_o (by omega)]; exact qb r x y
  · intro r x y; rw [bu_o (by omega)] at y; rw [h _ _ (by omega) (by omega) (by omega), bu_o (by omega)]; exact qc r x y
  · intro r x y; rw [bu_o (by omega)] at y; rw [h _ _ (by omega) (by omega) (by omega), bu_o (by omega)]; exact qs r x y
theorem HL_m {M N : KM} {L : Nat} {b : Int → Int} {v : Int} (hL : HL M L b) (h : ∀ a k, L ≤ a → a < L + 8 → ¬ (a = L ∧ k = 11) → N.1 a k = M.1 a k) (hv : N.1 L 11 = zI v) : HL N L (bu b 5 v) := by
  obtain ⟨q0, q1, q2, q5, q6, q7, q8, q9, q3, q4, qd, qa, qb, qc, qs⟩ := hL
  refine ⟨?_, ?_, ?_, ?_, ?_, ?_, ?_, ?_, ?_, ?_, ?_, ?_, ?_, ?_, ?_⟩
  · rw [h L 8 (by omega) (by omega) (by omega), bu_o (by omega)]; exact q0
  · rw [h L 9 (by omega) (by omega) (by omega), bu_o (by omega)]; exact q1
  · rw [h L 10 (by omega) (by omega) (by omega), bu_o (by omega)]; exact q2
  · rw [hv, bu_s]
  · rw [h L 12 (by omega) (by omega) (by omega), bu_o (by omega)]; exact q6
  · rw [h L 13 (by omega) (by omega) (by omega), bu_o (by omega)]; exact q7
  · rw [h L 14 (by omega) (by omega) (by omega), bu_o (by omega)]; exact q8
  · rw [h L 15 (by omega) (by omega) (by omega), bu_o (by omega)]; exact q9
  · rw [h (L + 7) 0 (by omega) (by omega) (by omega), bu_o (by omega)]; exact q3
  · rw [h (L + 7) 1 (by omega) (by omega) (by omega), bu_o (by omega)]; exact q4
  · rw [h (L + 7) 2 (by omega) (by omega) (by omega), bu_o (by omega), bu_o (by omega)]; exact qd
  · intro r x y; rw [bu_o (by omega)] at y; rw [h _ _ (by omega) (by omega) (by omega), bu_o (by omega)]; exact qa r x y
  · intro r x y; rw [bu_o (by omega)] at y; rw [h _ _ (by omega) (by omega) (by omega), bu_o (by omega)]; exact qb r x y
  · intro r x y; rw [bu_o (by omega)] at y; rw [h _ _ (by omega) (by omega) (by omega), bu_o (by omega)]; exact qc r x y
  · intro r x y; rw [bu_o (by omega)] at y; rw [h _ _ (by omega) (by omega) (by omega), bu_o (by omega)]; exact qs r x y
theorem HL_s {M N : KM} {L : Nat} {b : Int → Int} {v s : Int} (hL : HL M L b) (h : ∀ a k, L ≤ a → a < L + 8 → ¬ (a = L + 5 ∧ k = s.toNat) → N.1 a k = M.1 a k) (hs : 0 ≤ s) (h12 : b 1 ≤ 12) (hv : N.1 (L + 5) s.toNat = zI v) : HL N L (bu b (46 + s) v) := by
  obtain ⟨q0, q1, q2, q5, q6, q7, q8, q9, q3, q4, qd, qa, qb, qc, qs⟩ := hL
  refine ⟨?_, ?_, ?_, ?_, ?_, ?_, ?_, ?_, ?_, ?_, ?_, ?_, ?_, ?_, ?_⟩
  · rw [h L 8 (by omega) (by omega) (by omega), bu_o (by omega)]; exact q0
  · rw [h L 9 (by omega) (by omega) (by omega), bu_o (by omega)]; exact q1
  · rw [h L 10 (by omega) (by omega) (by omega), bu_o (by omega)]; exact q2
  · rw [h L 11 (by omega) (by omega) (by omega), bu_o (by omega)]; exact q5
  · rw [h L 12 (by omega) (by omega) (by omega), bu_o (by omega)]; exact q6
  · rw [h L 13 (by omega) (by omega) (by omega), bu_o (by omega)]; exact q7
  · rw [h L 14 (by omega) (by omega) (by omega), bu_o (by omega)]; exact q8
  · rw [h L 15 (by omega) (by omega) (by omega), bu_o (by omega)]; exact q9
  · rw [h (L + 7) 0 (by omega) (by omega) (by omega), bu_o (by omega)]; exact q3
  · rw [h (L + 7) 1 (by omega) (by omega) (by omega), bu_o (by omega)]; exact q4
  · rw [h (L + 7) 2 (by omega) (by omega) (by omega), bu_o (by omega), bu_o (by omega)]; exact qd
  · intro r x y; rw [bu_o (by omega)] at y; rw [h _ _ (by omega) (by omega) (by omega), bu_o (by omega)]; exact qa r x y
  · intro r x y; rw [bu_o (by omega)] at y; rw [h _ _ (by omega) (by omega) (by omega), bu_o (by omega)]; exact qb r x y
  · intro r x y; rw [bu_o (by omega)] at y; rw [h _ _ (by omega) (by omega) (by omega), bu_o (by omega)]; exact qc r x y
  · intro r x y; rw [bu_o (by omega)] at y
    by_cases w : r = s
    · rw [w, hv, bu_s]
    · rw [h _ _ (by omega) (by omega) (by omega), bu_o (by omega)]; exact qs r x y
theorem HL_hours {M N : KM} {L : Nat} {b : Int → Int} {u v : Int} (hL : HL M L b) (h : ∀ a k, L ≤ a → a < L + 8 → ¬ (a = L + 7) → N.1 a k = M.1 a k) (hu : N.1 (L + 7) 0 = zI u) (hv : N.1 (L + 7) 1 = zI v) (hw : N.1 (L + 7) 2 = zI ((v - u) * 60)) : HL N L (bu (bu b 3 u) 4 v) := by
  obtain ⟨q0, q1, q2, q5, q6, q7, q8, q9, q3, q4, qd, qa, qb, qc, qs⟩ := hL
  refine ⟨?_, ?_, ?_, ?_, ?_, ?_, ?_, ?_, ?_, ?_, ?_, ?_, ?_, ?_, ?_⟩
  · rw [h L 8 (by omega) (by omega) (by omega), bu_o (by omega), bu_o (by omega)]; exact q0
  · rw [h L 9 (by omega) (by omega) (by omega), bu_o (by omega), bu_o (by omega)]; exact q1
  · rw [h L 10 (by omega) (by omega) (by omega), bu_o (by omega), bu_o (by omega)]; exact q2
  · rw [h L 11 (by omega) (by omega) (by omega), bu_o (by omega), bu_o (by omega)]; exact q5
  · rw [h L 12 (by omega) (by omega) (by omega), bu_o (by omega), bu_o (by omega)]; exact q6
  · rw [h L 13 (by omega) (by omega) (by omega), bu_o (by omega), bu_o (by omega)]; exact q7
  · rw [h L 14 (by omega) (by omega) (by omega), bu_o (by omega), bu_o (by omega)]; exact q8
  · rw [h L 15 (by omega) (by omega) (by omega), bu_o (by omega), bu_o (by omega)]; exact q9
  · rw [hu, bu_o (by omega), bu_s]
  · rw [hv, bu_s]
  · rw [hw, bu_s, bu_o (by omega), bu_s]
  · intro r x y; rw [bu_o (by omega), bu_o (by omega)] at y; rw [h _ _ (by omega) (by omega) (by omega), bu_o (by omega), bu_o (by omega)]; exact qa r x y
  · intro r x y; rw [bu_o (by omega), bu_o (by omega)] at y; rw [h _ _ (by omega) (by omega) (by omega), bu_o (by omega), bu_o (by omega)]; exact qb r x y
  · intro r x y; rw [bu_o (by omega), bu_o (by omega)] at y; rw [h _ _ (by omega) (by omega) (by omega), bu_o (by omega), bu_o (by omega)]; exact qc r x y
  · intro r x y; rw [bu_o (by omega), bu_o (by omega)] at y; rw [h _ _ (by omega) (by omega) (by omega), bu_o (by omega), bu_o (by omega)]; exact qs r x y
theorem c_canBe {x y : Int} {M : KM} (h1 : -2147483648 ≤ x) (h2 : x < 2147483648) (h3 : -2147483648 ≤ y) (h4 : y < 2147483648) : f_X1_canBe (zI x) (zI y) M = bI (0 ≤ x ∧ x ≤ 23 ∧ x < y ∧ y ≤ 24) := by
  unfold f_X1_canBe
  by_cases w1 : 0 ≤ x
  · by_cases w2 : x ≤ 23
    · by_cases w3 : x < y
      · by_cases w4 : y ≤ 24
        · simp (disch := first | omega | assumption) only [lt, Option.bind_some, zl, ll, zadd, zsub, zmul, zneg, ladd, lsub, lmul, lneg, zltT, zltF, zleT, zleF, zeqT, zeqF, zidx, ixT, zwide, bIT, bIF, if_true, if_false, ↓reduceIte, Nat.reduceAdd, Int.reduceAdd, Int.reduceMul, Int.reduceSub, Int.reduceNeg, cs_c, cs_o, cs_2, cu_c, cu_o, Int.cast_ofNat_Int, ps_f, ps_g, ps_w, ps_o, ps_2, pu_f, pu_g, pu_w, pu_o, uI_s, uI_o, uI_j, uI_j1, uI_j2, uI_tw, or0, true_or, or_true, false_or, or_false, nar0, nar1]
        · simp (disch := first | omega | assumption) only [lt, Option.bind_some, zl, ll, zadd, zsub, zmul, zneg, ladd, lsub, lmul, lneg, zltT, zltF, zleT, zleF, zeqT, zeqF, zidx, ixT, zwide, bIT, bIF, if_true, if_false, ↓reduceIte, Nat.reduceAdd, Int.reduceAdd, Int.reduceMul, Int.reduceSub, Int.reduceNeg, cs_c, cs_o, cs_2, cu_c, cu_o, Int.cast_ofNat_Int, ps_f, ps_g, ps_w, ps_o, ps_2, pu_f, pu_g, pu_w, pu_o, uI_s, uI_o, uI_j, uI_j1, uI_j2, uI_tw, or0, true_or, or_true, false_or, or_false, nar0, nar1]
      · simp (disch := first | omega | assumption) only [lt, Option.bind_some, zl, ll, zadd, zsub, zmul, zneg, ladd, lsub, lmul, lneg, zltT, zltF, zleT, zleF, zeqT, zeqF, zidx, ixT, zwide, bIT, bIF, if_true, if_false, ↓reduceIte, Nat.reduceAdd, Int.reduceAdd, Int.reduceMul, Int.reduceSub, Int.reduceNeg, cs_c, cs_o, cs_2, cu_c, cu_o, Int.cast_ofNat_Int, ps_f, ps_g, ps_w, ps_o, ps_2, pu_f, pu_g, pu_w, pu_o, uI_s, uI_o, uI_j, uI_j1, uI_j2, uI_tw, or0, true_or, or_true, false_or, or_false, nar0, nar1]
    · simp (disch := first | omega | assumption) only [lt, Option.bind_some, zl, ll, zadd, zsub, zmul, zneg, ladd, lsub, lmul, lneg, zltT, zltF, zleT, zleF, zeqT, zeqF, zidx, ixT, zwide, bIT, bIF, if_true, if_false, ↓reduceIte, Nat.reduceAdd, Int.reduceAdd, Int.reduceMul, Int.reduceSub, Int.reduceNeg, cs_c, cs_o, cs_2, cu_c, cu_o, Int.cast_ofNat_Int, ps_f, ps_g, ps_w, ps_o, ps_2, pu_f, pu_g, pu_w, pu_o, uI_s, uI_o, uI_j, uI_j1, uI_j2, uI_tw, or0, true_or, or_true, false_or, or_false, nar0, nar1]
  · simp (disch := first | omega | assumption) only [lt, Option.bind_some, zl, ll, zadd, zsub, zmul, zneg, ladd, lsub, lmul, lneg, zltT, zltF, zleT, zleF, zeqT, zeqF, zidx, ixT, zwide, bIT, bIF, if_true, if_false, ↓reduceIte, Nat.reduceAdd, Int.reduceAdd, Int.reduceMul, Int.reduceSub, Int.reduceNeg, cs_c, cs_o, cs_2, cu_c, cu_o, Int.cast_ofNat_Int, ps_f, ps_g, ps_w, ps_o, ps_2, pu_f, pu_g, pu_w, pu_o, uI_s, uI_o, uI_j, uI_j1, uI_j2, uI_tw, or0, true_or, or_true, false_or, or_false, nar0, nar1]
