/-! ===== minutes lost, as the class reckons them ===== -/
theorem fI_sp {α : Type} {f : Int → α → α} : ∀ (k m : Nat) (i : Int) (w : α), fI f (k + m) i w = fI f m (i + k) (fI f k i w) := by
  intro k
  induction k with
  | zero => intro m i w; simp [fI]
  | succ k ih =>
    intro m i w
    rw [show k + 1 + m = (k + m) + 1 by omega]
    simp only [fI]
    rw [ih, show i + 1 + (k : Int) = i + ((k + 1 : Nat) : Int) by omega]
theorem sumB_z {f : Int → Int} {k m : Int} (h1 : 0 ≤ k) (h2 : k ≤ m) (hf : ∀ j, k ≤ j → j < m → f j = 0) : sumB f k = sumB f m := by
  have z : ∀ (c : Nat) (i w : Int), k ≤ i → i + c ≤ m → fI (fun i w => w + f i) c i w = w := by
    intro c
    induction c with
    | zero => intro i w _ _; rfl
    | succ c ih =>
      intro i w a b
      simp only [fI]
      rw [ih (i + 1) _ (by omega) (by omega), hf i a (by omega), Int.add_zero]
  unfold sumB
  rw [show m.toNat = k.toNat + (m - k).toNat by omega, fI_sp, z (m - k).toNat (0 + (k.toNat : Int)) _ (by omega) (by omega)]
theorem hB_wk {b : Int → Int} {f t q : Int} (h1 : 0 ≤ q) : wkB (hB b f t) q = wkB b q := by
  show (if 0 ≤ hB b f t (82 + q) then hB b f t (82 + q) else q) = _
  rw [hB_o (by omega) (by omega)]
theorem hB_pc {b : Int → Int} {f t q : Int} (hb : WB b) (h : goQ b q) : pcQ (hB b f t) q = pcQ b q := by
  have hh := hb.1
  unfold WH at hh
  have w := wk_r hb h.1 h.2.1
  have ep := WP_of hb h.1 h.2.1
  unfold WP at ep
  have g := h.2.2
  have q0 := h.1
  have hr : 0 ≤ b (122 + q) ∧ b (122 + q) < b 1 := by omega
  unfold pcQ
  rw [hB_wk h.1, hB_o (z := 122 + q) (by omega) (by omega)]
  unfold pcB
  rw [hB_o (by omega) (by omega), hB_o (by omega) (by omega), hB_o (by omega) (by omega), hB_o (by omega) (by omega), hB_o (by omega) (by omega), hB_o (by omega) (by omega)]
theorem hB_go {b : Int → Int} {f t q : Int} (h1 : 0 ≤ q) : goQ (hB b f t) q ↔ goQ b q := by
  show 0 ≤ q ∧ q < hB b f t 2 ∧ 0 ≤ hB b f t (66 + q) ↔ _
  rw [hB_o (by omega) (by omega), hB_o (by omega) (by omega)]
theorem LOf_h {b : Int → Int} {f t N q : Int} (hb : WB b) (f1 : 0 ≤ f) (f2 : f ≤ 23) (f3 : f < t) (f4 : t ≤ 24) (hN : 0 ≤ N) (hN2 : N ≤ 300000) (h : goQ b q) : LOf f t b N (wkB b q) = LO (hB b f t) N q := by
  have hw := WB_hB hb f1 f2 f3 f4
  have g2 : goQ (hB b f t) q := (hB_go h.1).mpr h
  obtain ⟨w1, -, -, -⟩ := wk_of hb h
  have e1 := LO_wk (N := N) hw g2
  have e2 := LO_eq hw hN hN2 (wk_of hw g2).1
  rw [← e1, ← e2, hB_3, hB_4, hB_wk h.1]
  unfold LOf
  rw [hB_pc hb w1, hB_o (by omega) (by omega), hB_o (z := 74 + wkB b q) (by have := w1.1; omega) (by have := w1.1; omega)]
theorem c_lostWithin {b : Int → Int} {f t N : Int} {L n a : Nat} {M : KM} {g : Int → Int → Int → Int} (hL : HL M L b) (hg : GR g b) (hb : WB b) (hH : HH (ps M L g) a f t) (f1 : 0 ≤ f) (f2 : f ≤ 23) (f3 : f < t) (f4 : t ≤ 24) (hN : 0 ≤ N) (hN2 : N ≤ 10000) (hn : 50 < n) : f_X2_lostWithin n L (zI N) a (ps M L g) = some (zI (lT (hB b f t) N)) := by
  have hM := hL
  obtain ⟨q0, q1, q2, q5, q6, q7, q8, q9, q3, q4, qd, qa, qb, qc, qs⟩ := hL
  have hh := hb.1
  unfold WH at hh
  have hi : 0 ≤ b 2 ∧ b 2 ≤ 8 ∧ 0 ≤ b 1 ∧ b 1 ≤ 12 := by omega
  clear hh
  have es : lT (hB b f t) N = sumB (fun p => if goQ b p then LO (hB b f t) N p else 0) (b 2) := by
    rw [sumB_z (m := 8) hi.1 hi.2.1 (fun j u v => by
      rw [if_neg (fun z => by have := z.2.1; omega)])]
    refine sumB_c (fun q h1 h2 => ?_)
    by_cases y : goQ b q
    · rw [if_pos y, if_pos ((hB_go h1).mpr y)]
    · rw [if_neg y, if_neg (fun z => y ((hB_go h1).mp z))]
  rw [es]
  unfold f_X2_lostWithin
  refine loop_sum (lp := fun k i w => lp_X2_lostWithin_5 k L (zI N) a (ps M L g) w i) (fun p => if goQ b p then LO (hB b f t) N p else 0) (fin := fun w => some w) (N := 30) hi.1 (fun k p w hk u v => ?_) (fun k w _ => ?_) (by omega)
  · rw [lp_X2_lostWithin_5]
    have gp := hg.1 p u v
    unfold GP at gp
    have ez := WPb hb u v
    have g9 : g p 0 9 = b (82 + p) := gp.2.2.2.2.1
    by_cases y : goQ b p
    · rw [if_pos y]
      obtain ⟨w1, w2, w3, w4⟩ := wk_of hb y
      have lw : b (82 + wkB b p) = -1 := by
        by_cases l : 0 ≤ b (82 + p)
        · obtain ⟨-, -, -, -, k5, -⟩ := led_of hb u v l rfl
          rw [wk_l l]; exact k5
        · rw [wk_s l]; omega
      have gw := hg.1 (wkB b p) w1.1 w1.2.1
      unfold GP at gw
      have ew := WP_of hb w1.1 w1.2.1
      unfold WP at ew
      have gg := w1.2.2
      have hr : 0 ≤ b (122 + wkB b p) ∧ b (122 + wkB b p) < b 1 := by omega
      have e := c_lostOf (n := k) hM hb hH f1 f2 f3 f4 hN hN2 w1.1 w1.2.1 gg lw gw.1 gw.2.1 (hg.2.1 _ _ w1.1 w1.2.1 hr.1 hr.2) (by omega) (by omega)
      rw [LOf_h hb f1 f2 f3 f4 hN (by omega) y] at e
      clear gp gw ew
      by_cases l : 0 ≤ b (82 + p)
      · rw [wk_l l] at e
        simp (disch := first | omega | assumption) only [↓lt, Option.bind_some, zl, ll, zadd, zsub, zmul, zneg, ladd, lsub, lmul, lneg, zltT, zltF, zleT, zleF, zeqT, zeqF, zidx, ixT, zwide, bIT, bIF, if_true, if_false, ↓reduceIte, Nat.reduceAdd, Int.reduceAdd, Int.reduceMul, Int.reduceSub, Int.reduceNeg, cs_c, cs_o, cs_2, cu_c, cu_o, Int.cast_ofNat_Int, ps_f, ps_g, ps_w, ps_o, ps_2, pu_f, pu_g, pu_w, pu_o, uI_s, uI_o, uI_j, uI_j1, uI_j2, uI_tw, or0, true_or, or_true, false_or, or_false, nar0, nar1, q2, g9, c_hasPerson hM, e]
      · rw [wk_s l] at e
        simp (disch := first | omega | assumption) only [↓lt, Option.bind_some, zl, ll, zadd, zsub, zmul, zneg, ladd, lsub, lmul, lneg, zltT, zltF, zleT, zleF, zeqT, zeqF, zidx, ixT, zwide, bIT, bIF, if_true, if_false, ↓reduceIte, Nat.reduceAdd, Int.reduceAdd, Int.reduceMul, Int.reduceSub, Int.reduceNeg, cs_c, cs_o, cs_2, cu_c, cu_o, Int.cast_ofNat_Int, ps_f, ps_g, ps_w, ps_o, ps_2, pu_f, pu_g, pu_w, pu_o, uI_s, uI_o, uI_j, uI_j1, uI_j2, uI_tw, or0, true_or, or_true, false_or, or_false, nar0, nar1, q2, g9, c_hasPerson hM, e]
    · rw [if_neg y, Int.add_zero]
      have ep := WP_of hb u v
      unfold WP at ep
      have ng : ¬ 0 ≤ b (66 + p) := fun z => y ⟨u, v, z⟩
      have g6 : g p 0 6 = -1 := by omega
      have l82 : b (82 + p) = -1 := by omega
      clear gp ep
      have e : f_X2_lostOf k L (zI p) (zI N) a (ps M L g) = some (zI 0) := by
        unfold f_X2_lostOf
        simp (disch := first | omega | assumption) only [↓lt, Option.bind_some, zl, ll, zadd, zsub, zmul, zneg, ladd, lsub, lmul, lneg, zltT, zltF, zleT, zleF, zeqT, zeqF, zidx, ixT, zwide, bIT, bIF, if_true, if_false, ↓reduceIte, Nat.reduceAdd, Int.reduceAdd, Int.reduceMul, Int.reduceSub, Int.reduceNeg, cs_c, cs_o, cs_2, cu_c, cu_o, Int.cast_ofNat_Int, ps_f, ps_g, ps_w, ps_o, ps_2, pu_f, pu_g, pu_w, pu_o, uI_s, uI_o, uI_j, uI_j1, uI_j2, uI_tw, or0, true_or, or_true, false_or, or_false, nar0, nar1, g6, c_hasRoad hM]
      simp (disch := first | omega | assumption) only [↓lt, Option.bind_some, zl, ll, zadd, zsub, zmul, zneg, ladd, lsub, lmul, lneg, zltT, zltF, zleT, zleF, zeqT, zeqF, zidx, ixT, zwide, bIT, bIF, if_true, if_false, ↓reduceIte, Nat.reduceAdd, Int.reduceAdd, Int.reduceMul, Int.reduceSub, Int.reduceNeg, cs_c, cs_o, cs_2, cu_c, cu_o, Int.cast_ofNat_Int, ps_f, ps_g, ps_w, ps_o, ps_2, pu_f, pu_g, pu_w, pu_o, uI_s, uI_o, uI_j, uI_j1, uI_j2, uI_tw, or0, true_or, or_true, false_or, or_false, nar0, nar1, q2, g9, c_hasPerson hM, e, Int.add_zero]
  · rw [lp_X2_lostWithin_5]
    simp (disch := first | omega | assumption) only [↓lt, Option.bind_some, zl, ll, zadd, zsub, zmul, zneg, ladd, lsub, lmul, lneg, zltT, zltF, zleT, zleF, zeqT, zeqF, zidx, ixT, zwide, bIT, bIF, if_true, if_false, ↓reduceIte, Nat.reduceAdd, Int.reduceAdd, Int.reduceMul, Int.reduceSub, Int.reduceNeg, cs_c, cs_o, cs_2, cu_c, cu_o, Int.cast_ofNat_Int, ps_f, ps_g, ps_w, ps_o, ps_2, pu_f, pu_g, pu_w, pu_o, uI_s, uI_o, uI_j, uI_j1, uI_j2, uI_tw, or0, true_or, or_true, false_or, or_false, nar0, nar1, q2]
theorem hB_id {b : Int → Int} : hB b (b 3) (b 4) = b := by
  funext z
  by_cases h4 : z = 4
  · rw [h4, hB_4]
  · by_cases h3 : z = 3
    · rw [h3, hB_3]
    · exact hB_o h3 h4
/-- a call that changes nothing that lasts, on both sides, but its own scratch -/
theorem wr_sc {M N : KM} {L : Nat} {g : Int → Int → Int → Int} {b : Int → Int} {ρ : Type} {c m : KM → Option (ρ × KM)} {r : ρ} {s : Int32} (hO : Opn M L g b) (h1 : c (ps (cs M b) L g) = some (r, ps (cs N b) L g)) (hN : N.1 0 15 = s) (hN2 : N.2 = M.2) (hN1 : ∀ a k, ¬ (a = 0 ∧ k = 15) → ¬ a = 22 → N.1 a k = M.1 a k) (h2 : ∀ X, ∃ Y, m (cs X b) = some (r, cs Y b) ∧ Y.1 227 0 = s ∧ MF X Y) : ∃ (r : ρ) (s : Int32) (N : KM) (g' : Int → Int → Int → Int) (b' : Int → Int), c (ps (cs M b) L g) = some (r, ps (cs N b) L g') ∧ (∀ X, ∃ Y, m (cs X b) = some (r, cs Y b') ∧ Y.1 227 0 = s ∧ MF X Y) ∧ N.1 0 15 = s ∧ N.2.2 = M.2.2 ∧ (∀ a k, KI L (M.2.2 L 7) a k → N.1 a k = M.1 a k) ∧ (∀ a k, KJ L a k → N.2.1 a k = M.2.1 a k) ∧ HL N L b' ∧ GR g' b' ∧ WB b' ∧ b' 5 ≤ 99999 ∧ (∀ z, 290 ≤ z → z < 2248 → b' z = b z) ∧ b' 0 = b 0 ∧ b' 2 = b 2 := by
  have hl := Ptr_L hO.1
  have hq := Ptr_P hO.1
  obtain ⟨a1, a2, a3, a4, a5, a6⟩ := hO
  refine ⟨r, s, N, g, b, h1, h2, hN, by rw [hN2], fun a k x => ?_, fun a k x => by rw [hN2], ?_, a3, a4, a5, fun z _ _ => rfl, rfl, rfl⟩
  · have hk := KI_out hq x
    refine hN1 a k hk.2.2.2 (fun z => ?_)
    subst z
    unfold KI at x
    omega
  · exact HL_of (M := M) (fun a k x y => hN1 a k (by omega) (by omega)) ((HL_cs hl.2).mp a2)

