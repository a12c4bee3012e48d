/-! ===== calls that change one or two people ===== -/
theorem HL_b {M : KM} {L : Nat} {b b' : Int → Int} (hL : HL M L b) (h : ∀ z, 0 ≤ z → z < 58 → b' z = b z) (h1 : b 1 ≤ 12) : HL M L b' := by
  obtain ⟨q0, q1, q2, q5, q6, q7, q8, q9, q3, q4, qd, qa, qb, qc, qs⟩ := hL
  refine ⟨?_, ?_, ?_, ?_, ?_, ?_, ?_, ?_, ?_, ?_, ?_, ?_, ?_, ?_, ?_⟩
  · rw [h _ (by omega) (by omega)]; exact q0
  · rw [h _ (by omega) (by omega)]; exact q1
  · rw [h _ (by omega) (by omega)]; exact q2
  · rw [h _ (by omega) (by omega)]; exact q5
  · rw [h _ (by omega) (by omega)]; exact q6
  · rw [h _ (by omega) (by omega)]; exact q7
  · rw [h _ (by omega) (by omega)]; exact q8
  · rw [h _ (by omega) (by omega)]; exact q9
  · rw [h _ (by omega) (by omega)]; exact q3
  · rw [h _ (by omega) (by omega)]; exact q4
  · rw [h 4 (by omega) (by omega), h 3 (by omega) (by omega)]; exact qd
  · intro r x y; rw [h 1 (by omega) (by omega)] at y; rw [h _ (by omega) (by omega)]; exact qa r x y
  · intro r x y; rw [h 1 (by omega) (by omega)] at y; rw [h _ (by omega) (by omega)]; exact qb r x y
  · intro r x y; rw [h 1 (by omega) (by omega)] at y; rw [h _ (by omega) (by omega)]; exact qc r x y
  · intro r x y; rw [h 1 (by omega) (by omega)] at y; rw [h _ (by omega) (by omega)]; exact qs r x y
/-- the people change alone -/
theorem wr_p {M : KM} {L : Nat} {g g' : Int → Int → Int → Int} {b b' : Int → Int} {ρ : Type} {c m : KM → Option (ρ × KM)} {r : ρ} (hO : Opn M L g b) (h1 : c (ps (cs M b) L g) = some (r, ps (uI (cs M b) 0 15 (zI 0)) L g')) (h2 : ∀ X, m (cs X b) = some (r, cs (uI (uI X 227 1 (zI 0)) 227 0 (zI 0)) b')) (h3 : ∀ z, 0 ≤ z → z < 58 → b' z = b z) (h4 : ∀ z, 290 ≤ z → z < 2248 → b' z = b z) (h5 : GR g' b') (h6 : ∀ p, 0 ≤ p → p < b 2 → WP b' p) (h7 : WG b') (h8 : WO b') (h9 : ∀ p, 0 ≤ p → p < b 2 → WL b' p) : ∃ (r : ρ) (s : Int32) (N : KM) (g' : Int → Int → Int → Int) (b' : Int → Int), c (ps (cs M b) L g) = some (r, ps (cs N b) L g') ∧ (∀ X, ∃ Y, m (cs X b) = some (r, cs Y b') ∧ Y.1 227 0 = s ∧ MF X Y) ∧ N.1 0 15 = s ∧ N.2.2 = M.2.2 ∧ (∀ a k, KI L (M.2.2 L 7) a k → N.1 a k = M.1 a k) ∧ (∀ a k, KJ L a k → N.2.1 a k = M.2.1 a k) ∧ HL N L b' ∧ GR g' b' ∧ WB b' ∧ b' 5 ≤ 99999 ∧ (∀ z, 290 ≤ z → z < 2248 → b' z = b z) ∧ b' 0 = b 0 ∧ b' 2 = b 2 := by
  have hl := Ptr_L hO.1
  have hq := Ptr_P hO.1
  obtain ⟨a1, a2, a3, a4, a5, a6⟩ := hO
  have hh := a4.1
  unfold WH at hh
  refine ⟨r, zI 0, uI M 0 15 (zI 0), g', b', ?_, fun X => ⟨_, h2 X, uI_s, MF_st⟩, uI_s, rfl, fun a k x => ?_, fun a k x => rfl, ?_, h5, ⟨?_, fun r x y => ?_, fun p x y => h6 p x (by rw [← h3 2 (by omega) (by omega)]; exact y), h7, h8, fun p x y => h9 p x (by rw [← h3 2 (by omega) (by omega)]; exact y)⟩, ?_, h4, h3 0 (by omega) (by omega), h3 2 (by omega) (by omega)⟩
  · rw [h1, cu_o (by omega)]
  · exact uI_o (KI_out hq x).2.2.2
  · exact HL_b (HL_of (fun a k x y => uI_o (by omega)) ((HL_cs hl.2).mp a2)) h3 (by omega)
  · unfold WH
    rw [h3 0 (by omega) (by omega), h3 1 (by omega) (by omega), h3 2 (by omega) (by omega), h3 3 (by omega) (by omega), h3 4 (by omega) (by omega), h3 5 (by omega) (by omega), h3 6 (by omega) (by omega), h3 7 (by omega) (by omega), h3 8 (by omega) (by omega), h3 9 (by omega) (by omega)]
    exact hh
  · rw [h3 1 (by omega) (by omega)] at y
    have e := a4.2.1 r x y
    unfold WR at e ⊢
    rw [h3 0 (by omega) (by omega), h3 (10 + r) (by omega) (by omega), h3 (22 + r) (by omega) (by omega), h3 (34 + r) (by omega) (by omega), h3 (46 + r) (by omega) (by omega)]
    exact e
  · rw [h3 5 (by omega) (by omega)]; exact a5
theorem WPb {b : Int → Int} (hb : WB b) {p : Int} (h1 : 0 ≤ p) (h2 : p < b 2) : 0 ≤ b (58 + p) ∧ b (58 + p) < b 0 ∧ -1 ≤ b (66 + p) ∧ b (66 + p) < b 0 ∧ 0 ≤ b (74 + p) ∧ b (74 + p) ≤ 99 ∧ -1 ≤ b (82 + p) ∧ b (82 + p) < b 2 ∧ 0 ≤ b (90 + p) ∧ b (90 + p) ≤ b 5 ∧ 0 ≤ b (98 + p) ∧ b (98 + p) ≤ 1 ∧ 0 ≤ b (106 + p) ∧ b (106 + p) ≤ 1 := by
  have e := hb.2.2.1 p h1 h2
  unfold WP at e
  omega
