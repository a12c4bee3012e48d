/-! ===== passes, as the class walks it: all walkers ===== -/
theorem LO_r {b : Int → Int} {N q : Int} (hb : WB b) (hN : 0 ≤ N) (hN2 : N ≤ 300000) (g : goQ b q) : -100 ≤ LO b N q ∧ LO b N q ≤ N := by
  have hh := hb.1
  unfold WH at hh
  have ep := WP_of hb g.1 g.2.1
  unfold WP at ep
  have gg := g.2.2
  have hr : 0 ≤ b (122 + q) ∧ b (122 + q) < b 1 := by omega
  have hR := hb.2.1 _ hr.1 hr.2
  unfold WR at hR
  have ek : 1 ≤ b (74 + q) ∧ b (74 + q) ≤ 99 := by omega
  have hi : 0 ≤ b 3 ∧ b 3 ≤ 23 ∧ b 3 < b 4 ∧ b 4 ≤ 24 ∧ 0 ≤ b 5 ∧ b 5 ≤ 200000 := by omega
  clear ep hR hh
  have e1 := d_c hb hN hN2 g
  have e4 := dnI_b (f := b 3) (t := b 4) (pace := pcQ b q) (s := b 5) (k := b (74 + q)) hi.1 hi.2.1 hi.2.2.1 hi.2.2.2.1 hi.2.2.2.2.1 (by omega) ek.1 ek.2 pcB_r
  have e5 := mvI_r (f := b 3) (t := b 4) (pace := pcQ b q) (m := b 5) hi.1 hi.2.1 hi.2.2.1 hi.2.2.2.1 hi.2.2.2.2.1 pcB_r hN
  unfold LO
  by_cases w : b (74 + q) ≤ kQ b N q
  · rw [if_pos w]
    have := e1.mpr ⟨g, w⟩
    have : 0 < dQ b q := by unfold dQ; omega
    omega
  · rw [if_neg w]
    unfold kQ at *
    omega
theorem c_passWalker {b : Int → Int} {N p : Int} {L n : Nat} {M : KM} {g : Int → Int → Int → Int} (hL : HL M L b) (hg : GR g b) (hb : WB b) (h5 : b 5 ≤ 99999) (hp : goQ b p) (hl : b (82 + p) = -1) (hN : 1 ≤ N) (hN2 : N ≤ 999) (hn : 100 < n) : f_X2_passWalker n L (zI p) (zI N) (ps M L (gC g b N (A0 b p) (A0 b p))) = some (if arQ b N p then wS b p (b 2) else zI 0, ps M L (gC g b N (A0 b (p + 1)) (A0 b (p + 1)))) := by
  have hM := hL
  obtain ⟨q0, q1, q2, q5, q6, q7, q8, q9, q3, q4, qd, qa, qb, qc, qs⟩ := hL
  have hh := hb.1
  unfold WH at hh
  have hp2 : 0 ≤ p ∧ p < 8 ∧ p < b 2 := by have := hp.1; have := hp.2.1; omega
  have wp : wkB b p = p := wk_s (by omega)
  have gp := hg.1 p hp.1 hp.2.1
  unfold GP at gp
  have ep := WP_of hb hp.1 hp.2.1
  unfold WP at ep
  have gg := hp.2.2
  have hr : 0 ≤ b (122 + p) ∧ b (122 + p) < b 1 := by omega
  have hAp : A0 b p p = false := decide_eq_false (by rw [wp]; omega)
  have x3 : g p 0 3 = 1 - b (106 + p) := gp.1
  have x4 : g p 0 4 = b (98 + p) := gp.2.1
  have x6 : g p 0 6 = b (122 + p) := by omega
  have x9 : g p 0 9 = -1 := by omega
  have x10 : g p 0 10 = b (74 + p) := by omega
  have x1 : g p 1 (b (122 + p)) = b (130 + 12 * p + b (122 + p)) := hg.2.1 p _ hp.1 hp.2.1 hr.1 hr.2
  have ek : 1 ≤ b (74 + p) ∧ b (74 + p) ≤ 99 := by
    have hR := hb.2.1 _ hr.1 hr.2
    unfold WR at hR
    omega
  have hi : 0 ≤ b 2 ∧ b 2 ≤ 8 := by omega
  clear ep gp
  have F : ∀ A k, ¬ k = 11 → gC g b N A (A0 b p) p 0 k = g p 0 k := fun A k h => gC_n hAp h
  have el := c_lostOf (n := n) (N := N) (a := L + 7) (g := gC g b N (A0 b p) (A0 b p)) hM hb (HL_H hM) (by omega) (by omega) (by omega) (by omega) (by omega) (by omega) hp.1 hp.2.1 gg hl ((F _ 3 (by decide)).trans x3) ((F _ 4 (by decide)).trans x4) ((gC_n1 hAp).trans x1) ((F _ 6 (by decide)).trans x6) ((F _ 10 (by decide)).trans x10)
  rw [LO_eq hb (by omega) (by omega) hp] at el
  have lr := LO_r (N := N) hb (by omega) (by omega) hp
  have et := c_toGoal (n := n) (g := gC g b N (A0 b (p + 1)) (A0 b p)) hM hb hp.1 hp.2.1 gg hl ((F _ 3 (by decide)).trans x3) ((F _ 4 (by decide)).trans x4) ((gC_n1 hAp).trans x1) ((F _ 6 (by decide)).trans x6) ((F _ 9 (by decide)).trans x9) ((F _ 10 (by decide)).trans x10)
  have ed := d_c (n := N) hb (by omega) (by omega) hp
  have etg : (¬ arQ b N p → N < toG b p ∧ toG b p ≤ 1000000000) ∧ (arQ b N p → toG b p ≤ N ∧ 0 ≤ toG b p) := by
    have e4 := dnI_b (f := b 3) (t := b 4) (pace := pcQ b p) (s := b 5) (k := b (74 + p)) (by omega) (by omega) (by omega) (by omega) (by omega) (by omega) ek.1 ek.2 pcB_r
    unfold toG
    unfold dQ at *
    by_cases w : dnI (b 3) (b 4) (pcQ b p) (b 5) (b (74 + p)) < 1000000000
    · rw [if_pos w]
      exact ⟨fun z => by have := fun y => z (ed.mp y); omega, fun z => by have := ed.mpr z; omega⟩
    · rw [if_neg w]
      exact ⟨fun z => by omega, fun z => by have := ed.mpr z; omega⟩
  have f10 := (F (A0 b (p + 1)) 10 (by decide)).trans x10
  unfold f_X2_passWalker
  rw [el]
  have key : lp_X2_passWalker_14 n L (zI p) (zI N) (zI (LO b N p)) (zI 0) (ps M L (gC g b N (A2 b p 0) (A0 b p))) (fun (M9 : KM) => (f_X2_minutesToGoal n L (zI p) M9).bind fun (v10 : Int32) => if (zI N) < v10 then (if ix (zI p) 8 then lt (uI M9 ((L + 6) + 8 + 3 * ((zI p)).toNatClampNeg) 10 ((M9.1 ((L + 6) + 8 + 3 * ((zI p)).toNatClampNeg) 10) - ((zI N) - zI (LO b N p)))) fun (M12 : KM) => some ((0 : Int32), M12) else none) else (f_X2_arrive n L (zI p) M9).bind fun (v13 : (Int32 × KM)) => some (v13.1, v13.2)) = some (if arQ b N p then wS b p (b 2) else zI 0, ps M L (gC g b N (A0 b (p + 1)) (A0 b (p + 1)))) := by
    refine loop_st (lp := fun k j V => lp_X2_passWalker_14 k L (zI p) (zI N) (zI (LO b N p)) j V _) (fun j => ps M L (gC g b N (A2 b p j) (A0 b p))) (N := 60) (R := b 2) (fun k j hk u v => ?_) (fun k _ => ?_) (b 2).toNat 0 n (by omega) (by omega) (by omega)
    · rw [lp_X2_passWalker_14]
      have hw : A0 b p j = true → wkB b j < p := fun z => (of_decide_eq_true z).2.2.2
      have ew := c_with (N := N) (n := k) (L := L) (M := M) (A := A2 b p j) hg hb hp hl u v hw
      by_cases w : goQ b j ∧ wkB b j = p
      · obtain ⟨a1, a2⟩ := A2_t w
        have gj : g j 0 11 = b (90 + j) := (hg.1 j u v).2.2.2.2.2.2
        have ez := WPb hb u v
        have e11 : gC g b N (A2 b p j) (A0 b p) j 0 11 = b (90 + j) := by
          rw [gC_11, a2, if_neg (by decide)]; exact gj
        have lo : LO b N p = LO b N j := by
          have := LO_wk (N := N) hb w.1
          rw [w.2] at this
          exact this
        have ea := gC_A (g := g) (B := A0 b p) (v := b (90 + j) + LO b N p) a2 (by rw [gj, lo])
        rw [a1] at ea
        rw [bIT w] at ew
        have i90 : 0 ≤ b (90 + j) ∧ b (90 + j) ≤ 99999 := by omega
        clear ez etg ed
        simp (disch := first | omega | assumption) only [↓lt, Option.bind_some, zl, ll, zadd, zsub, zmul, zneg, ladd, lsub, lmul, lneg, zltT, zltF, zleT, zleF, zeqT, zeqF, zidx, ixT, zwide, bIT, bIF, if_true, if_false, ↓reduceIte, Nat.reduceAdd, Int.reduceAdd, Int.reduceMul, Int.reduceSub, Int.reduceNeg, cs_c, cs_o, cs_2, cu_c, cu_o, Int.cast_ofNat_Int, ps_f, ps_g, ps_w, ps_o, ps_2, pu_f, pu_g, pu_w, pu_o, uI_s, uI_o, uI_j, uI_j1, uI_j2, uI_tw, or0, true_or, or_true, false_or, or_false, nar0, nar1, q2, ew, e11, ea]
      · rw [A2_f w]
        rw [bIF w] at ew
        clear etg ed
        simp (disch := first | omega | assumption) only [↓lt, Option.bind_some, zl, ll, zadd, zsub, zmul, zneg, ladd, lsub, lmul, lneg, zltT, zltF, zleT, zleF, zeqT, zeqF, zidx, ixT, zwide, bIT, bIF, if_true, if_false, ↓reduceIte, Nat.reduceAdd, Int.reduceAdd, Int.reduceMul, Int.reduceSub, Int.reduceNeg, cs_c, cs_o, cs_2, cu_c, cu_o, Int.cast_ofNat_Int, ps_f, ps_g, ps_w, ps_o, ps_2, pu_f, pu_g, pu_w, pu_o, uI_s, uI_o, uI_j, uI_j1, uI_j2, uI_tw, or0, true_or, or_true, false_or, or_false, nar0, nar1, q2, ew]
    · rw [lp_X2_passWalker_14, A2_e]
      by_cases a : arQ b N p
      · rw [if_pos a]
        have := etg.2 a
        have ea := c_arrive (A := A0 b (p + 1)) (n := n) hM hg hb hp hl a (by omega)
        clear etg ed
        simp (disch := first | omega | assumption) only [↓lt, Option.bind_some, zl, ll, zadd, zsub, zmul, zneg, ladd, lsub, lmul, lneg, zltT, zltF, zleT, zleF, zeqT, zeqF, zidx, ixT, zwide, bIT, bIF, if_true, if_false, ↓reduceIte, Nat.reduceAdd, Int.reduceAdd, Int.reduceMul, Int.reduceSub, Int.reduceNeg, cs_c, cs_o, cs_2, cu_c, cu_o, Int.cast_ofNat_Int, ps_f, ps_g, ps_w, ps_o, ps_2, pu_f, pu_g, pu_w, pu_o, uI_s, uI_o, uI_j, uI_j1, uI_j2, uI_tw, or0, true_or, or_true, false_or, or_false, nar0, nar1, q2, et, ea]
      · rw [if_neg a]
        have := etg.1 a
        have kq : LO b N p = N - kQ b N p := by unfold LO; rw [if_neg (fun z => a ⟨hp, z⟩)]
        have e1 := gC_N (g := g) (A := A0 b (p + 1)) (v := b (74 + p) - (N - LO b N p)) hAp (by omega) a (by rw [x10, kq]; omega)
        have e2 := gC_L (g := g) (b := b) (N := N) (A := A0 b (p + 1)) (B := adA (A0 b p) p) (B' := A0 b (p + 1)) (fun q => by
          by_cases e : q = p
          · rw [e, adA_s]
            exact Or.inl (decide_eq_true ⟨hp.1, hp.2.1, gg, by omega⟩)
          · rw [adA_o e]
            by_cases w : goQ b q ∧ wkB b q = p
            · refine Or.inr ⟨fun z => a ?_, fun z => ?_⟩
              · have := (ar_wk (N := N) hb w.1).mpr z
                rw [w.2] at this
                exact this
              · have := w.2
                rw [wk_s (by omega)] at this
                exact e this
            · refine Or.inl (decide_eq_decide.mpr ?_)
              constructor
              · rintro ⟨a1, a2, a3, a4⟩
                refine ⟨a1, a2, a3, ?_⟩
                have : ¬ wkB b q = p := fun z => w ⟨⟨a1, a2, a3⟩, z⟩
                omega
              · rintro ⟨a1, a2, a3, a4⟩
                exact ⟨a1, a2, a3, by omega⟩)
        clear etg ed
        simp (disch := first | omega | assumption) only [↓lt, Option.bind_some, zl, ll, zadd, zsub, zmul, zneg, ladd, lsub, lmul, lneg, zltT, zltF, zleT, zleF, zeqT, zeqF, zidx, ixT, zwide, bIT, bIF, if_true, if_false, ↓reduceIte, Nat.reduceAdd, Int.reduceAdd, Int.reduceMul, Int.reduceSub, Int.reduceNeg, cs_c, cs_o, cs_2, cu_c, cu_o, Int.cast_ofNat_Int, ps_f, ps_g, ps_w, ps_o, ps_2, pu_f, pu_g, pu_w, pu_o, uI_s, uI_o, uI_j, uI_j1, uI_j2, uI_tw, or0, true_or, or_true, false_or, or_false, nar0, nar1, q2, et, f10, e1, e2]
  rw [A2_0] at key
  exact key

