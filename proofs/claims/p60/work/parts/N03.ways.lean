/-! ===== the soonest ways ===== -/
/-- minutes till somebody is there, alone (q: -1) or by two; -1: never -/
def soB (b : Int → Int) (x q y : Int) : Int := if TT b x q (b (58 + x)) (b 5) y < 1000000000 then TT b x q (b (58 + x)) (b 5) y - b 5 else -1
theorem q_soonest {x y : Int} {M : KM} {L n : Nat} {g : Int → Int → Int → Int} {b : Int → Int} (h : CI M L g b) (hn : 300 ≤ n) (w : 0 ≤ x ∧ x < b 2) (v : 0 ≤ y ∧ y < b 0) (u : b (66 + x) < 0) : Ro (f_X11_soonest n 0 (zI x) (zI y)) M L g (zI (soB b x (-1) y)) := by
  obtain ⟨hP, hL, hg, hb, hm, hC⟩ := h; have hp0 : M.2.2 0 10 = L := hP.1; have hl := Ptr_L hP; have hq := Ptr_P hP; have hh := hb.1; unfold WH at hh
  have hi : 0 ≤ b 2 ∧ b 2 ≤ 8 ∧ 0 ≤ b 0 ∧ b 0 ≤ 8 ∧ 0 ≤ b 5 := by omega
  clear hh
  have hcs : ∀ N : KM, (∀ k, N.1 232 k = M.1 232 k) → cs N (rw2 M) = N := fun N k => cs_rw k
  have ew := c_whyNotAt (n := n) (M := M) (g := g) (x := x) hL hg hb hp0 (by omega) (by omega)
  have ez := WPb hb w.1 w.2
  rw [if_pos w, if_neg (show ¬ 0 ≤ b (66 + x) by omega)] at ew
  have i5 : 0 ≤ b (58 + x) ∧ b (58 + x) < b 0 ∧ b (66 + x) = -1 := by omega
  clear ez
  have ec := c_minutesTo (n := n) (M := M) (g := g) (q := -1) (HL_rw hl hL) hl hg hb hm w.1 w.2 i5.2.2 (Or.inl rfl) v.1 v.2 (by omega)
  have tv := TT_v (p := x) (q := -1) (f := b (58 + x)) (s := b 5) (j := y) hb (by omega) (by omega) v.1 (by omega)
  have ep := c_hasPlace (g := g) (p := y) hL (by omega) (by omega) hi.2.2.1 hi.2.2.2.1
  rw [bIT v] at ep
  unfold soB
  generalize TT b x (-1) (b (58 + x)) (b 5) = T at *
  rw [hcs M (fun _ => rfl), hcs (rs M 15 T) (fun k => rs_o (by omega))] at ec
  by_cases k : T y < 1000000000
  · rw [if_pos k] at ec
    rw [if_pos k]
    refine ⟨uI (rs M 15 T) 0 15 (zI 0), ?_, Sc_s2 (Sc_rs (by omega))⟩
    unfold f_X11_soonest f_X11_whyNoWay
    simp (disch := first | omega | assumption) only [↓lt, Option.bind_some, zl, ll, zadd, zsub, zmul, zneg, ladd, lsub, lmul, lneg, zltT, zltF, zleT, zleF, zeqT, zeqF, zidx, ixT, zwide, bIT, bIF, if_true, if_false, ↓reduceIte, Nat.reduceAdd, Int.reduceAdd, Int.reduceMul, Int.reduceSub, Int.reduceNeg, cs_c, cs_o, cs_2, cu_c, cu_o, Int.cast_ofNat_Int, ps_f, ps_g, ps_w, ps_o, ps_2, pu_f, pu_g, pu_w, pu_o, uI_s, uI_o, uI_j, uI_j1, uI_j2, uI_tw, or0, true_or, or_true, false_or, or_false, nar0, nar1, f_X11_tell, f_X11_refuse, f_X11_tellIf, f_X11_tellOrNone, f_X11_tellSooner, f_X11_deny, f_X11_succeed, hp0, ep, ew, ec]
  · rw [if_neg k] at ec
    rw [if_neg k]
    refine ⟨uI (rs M 15 T) 0 15 (zI 8), ?_, Sc_s2 (Sc_rs (by omega))⟩
    unfold f_X11_soonest f_X11_whyNoWay
    simp (disch := first | omega | assumption) only [↓lt, Option.bind_some, zl, ll, zadd, zsub, zmul, zneg, ladd, lsub, lmul, lneg, zltT, zltF, zleT, zleF, zeqT, zeqF, zidx, ixT, zwide, bIT, bIF, if_true, if_false, ↓reduceIte, Nat.reduceAdd, Int.reduceAdd, Int.reduceMul, Int.reduceSub, Int.reduceNeg, cs_c, cs_o, cs_2, cu_c, cu_o, Int.cast_ofNat_Int, ps_f, ps_g, ps_w, ps_o, ps_2, pu_f, pu_g, pu_w, pu_o, uI_s, uI_o, uI_j, uI_j1, uI_j2, uI_tw, or0, true_or, or_true, false_or, or_false, nar0, nar1, f_X11_tell, f_X11_refuse, f_X11_tellIf, f_X11_tellOrNone, f_X11_tellSooner, f_X11_deny, f_X11_succeed, hp0, ep, ew, ec]
/-- the first place of a soonest way -/
def fiB (b : Int → Int) (x y : Int) : Int := fstI (fsP b x y) (b 0).toNat 0
theorem q_first {x y : Int} {M : KM} {L n : Nat} {g : Int → Int → Int → Int} {b : Int → Int} (h : CI M L g b) (hn : 400 ≤ n) (w : 0 ≤ x ∧ x < b 2) (v : 0 ≤ y ∧ y < b 0) (u : b (66 + x) < 0) (at0 : ¬ b (58 + x) = y) (k : TT b x (-1) (b (58 + x)) (b 5) y < 1000000000) : Ro (f_X11_soonestFirst n 0 (zI x) (zI y)) M L g (zI (fiB b x y)) := by
  obtain ⟨hP, hL, hg, hb, hm, hC⟩ := h; have hp0 : M.2.2 0 10 = L := hP.1; have hl := Ptr_L hP; have hq := Ptr_P hP; have hh := hb.1; unfold WH at hh
  have hi : 0 ≤ b 2 ∧ b 2 ≤ 8 ∧ 0 ≤ b 0 ∧ b 0 ≤ 8 ∧ 0 ≤ b 5 := by omega
  clear hh
  have hcs : ∀ N : KM, (∀ k, N.1 232 k = M.1 232 k) → cs N (rw2 M) = N := fun N k => cs_rw k
  have ew := c_whyNotAt (n := n) (M := M) (g := g) (x := x) hL hg hb hp0 (by omega) (by omega)
  have ez := WPb hb w.1 w.2
  rw [if_pos w, if_neg (show ¬ 0 ≤ b (66 + x) by omega)] at ew
  have i5 : 0 ≤ b (58 + x) ∧ b (58 + x) < b 0 ∧ b (66 + x) = -1 := by omega
  clear ez
  have gp := hg.1 x w.1 w.2
  unfold GP at gp
  have g5 : g x 0 5 = b (58 + x) := by omega
  clear gp
  have ec := c_minutesTo (n := n) (M := M) (g := g) (q := -1) (HL_rw hl hL) hl hg hb hm w.1 w.2 i5.2.2 (Or.inl rfl) v.1 v.2 (by omega)
  have tv := TT_v (p := x) (q := -1) (f := b (58 + x)) (s := b 5) (j := y) hb (by omega) (by omega) v.1 (by omega)
  have ep := c_hasPlace (g := g) (p := y) hL (by omega) (by omega) hi.2.2.1 hi.2.2.2.1
  rw [bIT v] at ep
  rw [if_pos k] at ec
  obtain ⟨U1, f1⟩ := c_firstL (g := g) (HL_rw hl hL) hl hg hb hm w.1 w.2 i5.2.2 v.1 v.2 k (b 0).toNat 0 (TT b x (-1) (b (58 + x)) (b 5)) n (by omega) (by omega) (by omega)
  have fr := fst_r (P := fsP b x y) (b 0).toNat 0 (by omega)
  unfold fiB
  generalize hF : fstI (fsP b x y) (b 0).toNat 0 = F at *
  generalize TT b x (-1) (b (58 + x)) (b 5) = T at *
  rw [hcs M (fun _ => rfl), hcs (rs M 15 T) (fun k => rs_o (by omega))] at ec
  rw [hcs (rs M 15 T) (fun k => rs_o (by omega)), hcs (rs M 15 U1) (fun k => rs_o (by omega))] at f1
  by_cases kf : F = -1
  · subst kf
    refine ⟨uI (rs M 15 U1) 0 15 (zI 8), ?_, Sc_s2 (Sc_rs (by omega))⟩
    unfold f_X11_soonestFirst f_X11_whyNoWay f_X6_firstPlaceTo
    simp (disch := first | omega | assumption) only [↓lt, Option.bind_some, zl, ll, zadd, zsub, zmul, zneg, ladd, lsub, lmul, lneg, zltT, zltF, zleT, zleF, zeqT, zeqF, zidx, ixT, zwide, bIT, bIF, if_true, if_false, ↓reduceIte, Nat.reduceAdd, Int.reduceAdd, Int.reduceMul, Int.reduceSub, Int.reduceNeg, cs_c, cs_o, cs_2, cu_c, cu_o, Int.cast_ofNat_Int, ps_f, ps_g, ps_w, ps_o, ps_2, pu_f, pu_g, pu_w, pu_o, uI_s, uI_o, uI_j, uI_j1, uI_j2, uI_tw, or0, true_or, or_true, false_or, or_false, nar0, nar1, f_X11_tell, f_X11_refuse, f_X11_tellIf, f_X11_tellOrNone, f_X11_tellSooner, f_X11_deny, f_X11_succeed, hp0, ep, ew, ec, g5, f1]
  · have bF : 0 ≤ F ∧ F < 8 := by omega
    refine ⟨uI (rs M 15 U1) 0 15 (zI 0), ?_, Sc_s2 (Sc_rs (by omega))⟩
    clear fr
    unfold f_X11_soonestFirst f_X11_whyNoWay f_X6_firstPlaceTo
    simp (disch := first | omega | assumption) only [↓lt, Option.bind_some, zl, ll, zadd, zsub, zmul, zneg, ladd, lsub, lmul, lneg, zltT, zltF, zleT, zleF, zeqT, zeqF, zidx, ixT, zwide, bIT, bIF, if_true, if_false, ↓reduceIte, Nat.reduceAdd, Int.reduceAdd, Int.reduceMul, Int.reduceSub, Int.reduceNeg, cs_c, cs_o, cs_2, cu_c, cu_o, Int.cast_ofNat_Int, ps_f, ps_g, ps_w, ps_o, ps_2, pu_f, pu_g, pu_w, pu_o, uI_s, uI_o, uI_j, uI_j1, uI_j2, uI_tw, or0, true_or, or_true, false_or, or_false, nar0, nar1, f_X11_tell, f_X11_refuse, f_X11_tellIf, f_X11_tellOrNone, f_X11_tellSooner, f_X11_deny, f_X11_succeed, hp0, ep, ew, ec, g5, f1]
theorem q_two {x y z : Int} {M : KM} {L n : Nat} {g : Int → Int → Int → Int} {b : Int → Int} (h : CI M L g b) (hn : 300 ≤ n) (w : 0 ≤ x ∧ x < b 2) (w2 : 0 ≤ y ∧ y < b 2) (v : 0 ≤ z ∧ z < b 0) (u : b (66 + x) < 0) (u2 : b (66 + y) < 0) (nxy : ¬ x = y) : Ro (f_X11_soonestTwo n 0 (zI x) (zI y) (zI z)) M L g (zI (if b (58 + x) = b (58 + y) then soB b x y z else -1)) := by
  obtain ⟨hP, hL, hg, hb, hm, hC⟩ := h; have hp0 : M.2.2 0 10 = L := hP.1; have hl := Ptr_L hP; have hq := Ptr_P hP; have hh := hb.1; unfold WH at hh
  have hi : 0 ≤ b 2 ∧ b 2 ≤ 8 ∧ 0 ≤ b 0 ∧ b 0 ≤ 8 ∧ 0 ≤ b 5 := by omega
  clear hh
  have hcs : ∀ N : KM, (∀ k, N.1 232 k = M.1 232 k) → cs N (rw2 M) = N := fun N k => cs_rw k
  have ew := c_whyNoTwoAt (n := n) (M := M) (g := g) (x := x) (y := y) hL hg hb hp0 (by omega) (by omega) (by omega) (by omega)
  rw [whyT_0 ⟨w, w2⟩ (by omega)] at ew
  have z1 := WPb hb w.1 w.2
  have z2 := WPb hb w2.1 w2.2
  have gp := hg.1 x w.1 w.2
  have gq := hg.1 y w2.1 w2.2
  unfold GP at gp gq
  have g5 : g x 0 5 = b (58 + x) := by omega
  have g6 : g y 0 5 = b (58 + y) := by omega
  have i5 : 0 ≤ b (58 + x) ∧ b (58 + x) < b 0 ∧ b (66 + x) = -1 ∧ 0 ≤ b (58 + y) ∧ b (58 + y) < b 0 := by omega
  clear z1 z2 gp gq
  have ep := c_hasPlace (g := g) (p := z) hL (by omega) (by omega) hi.2.2.1 hi.2.2.2.1
  rw [bIT v] at ep
  by_cases k0 : b (58 + x) = b (58 + y)
  · rw [if_pos k0]
    have ec := c_minutesTo (n := n) (M := M) (g := g) (q := y) (HL_rw hl hL) hl hg hb hm w.1 w.2 i5.2.2.1 (Or.inr w2) v.1 v.2 (by omega)
    have tv := TT_v (p := x) (q := y) (f := b (58 + x)) (s := b 5) (j := z) hb (by omega) (by omega) v.1 (by omega)
    unfold soB
    generalize TT b x y (b (58 + x)) (b 5) = T at *
    rw [hcs M (fun _ => rfl), hcs (rs M 15 T) (fun k => rs_o (by omega))] at ec
    by_cases k : T z < 1000000000
    · rw [if_pos k] at ec
      rw [if_pos k]
      refine ⟨uI (rs M 15 T) 0 15 (zI 0), ?_, Sc_s2 (Sc_rs (by omega))⟩
      unfold f_X11_soonestTwo
      simp (disch := first | omega | assumption) only [↓lt, Option.bind_some, zl, ll, zadd, zsub, zmul, zneg, ladd, lsub, lmul, lneg, zltT, zltF, zleT, zleF, zeqT, zeqF, zidx, ixT, zwide, bIT, bIF, if_true, if_false, ↓reduceIte, Nat.reduceAdd, Int.reduceAdd, Int.reduceMul, Int.reduceSub, Int.reduceNeg, cs_c, cs_o, cs_2, cu_c, cu_o, Int.cast_ofNat_Int, ps_f, ps_g, ps_w, ps_o, ps_2, pu_f, pu_g, pu_w, pu_o, uI_s, uI_o, uI_j, uI_j1, uI_j2, uI_tw, or0, true_or, or_true, false_or, or_false, nar0, nar1, f_X11_tell, f_X11_refuse, f_X11_tellIf, f_X11_tellOrNone, f_X11_tellSooner, f_X11_deny, f_X11_succeed, hp0, ep, ew, ec, g5, g6]
    · rw [if_neg k] at ec
      rw [if_neg k]
      refine ⟨uI (rs M 15 T) 0 15 (zI 8), ?_, Sc_s2 (Sc_rs (by omega))⟩
      unfold f_X11_soonestTwo
      simp (disch := first | omega | assumption) only [↓lt, Option.bind_some, zl, ll, zadd, zsub, zmul, zneg, ladd, lsub, lmul, lneg, zltT, zltF, zleT, zleF, zeqT, zeqF, zidx, ixT, zwide, bIT, bIF, if_true, if_false, ↓reduceIte, Nat.reduceAdd, Int.reduceAdd, Int.reduceMul, Int.reduceSub, Int.reduceNeg, cs_c, cs_o, cs_2, cu_c, cu_o, Int.cast_ofNat_Int, ps_f, ps_g, ps_w, ps_o, ps_2, pu_f, pu_g, pu_w, pu_o, uI_s, uI_o, uI_j, uI_j1, uI_j2, uI_tw, or0, true_or, or_true, false_or, or_false, nar0, nar1, f_X11_tell, f_X11_refuse, f_X11_tellIf, f_X11_tellOrNone, f_X11_tellSooner, f_X11_deny, f_X11_succeed, hp0, ep, ew, ec, g5, g6]
  · rw [if_neg k0]
    refine ro_s (s := zI 9) ?_
    unfold f_X11_soonestTwo
    simp (disch := first | omega | assumption) only [↓lt, Option.bind_some, zl, ll, zadd, zsub, zmul, zneg, ladd, lsub, lmul, lneg, zltT, zltF, zleT, zleF, zeqT, zeqF, zidx, ixT, zwide, bIT, bIF, if_true, if_false, ↓reduceIte, Nat.reduceAdd, Int.reduceAdd, Int.reduceMul, Int.reduceSub, Int.reduceNeg, cs_c, cs_o, cs_2, cu_c, cu_o, Int.cast_ofNat_Int, ps_f, ps_g, ps_w, ps_o, ps_2, pu_f, pu_g, pu_w, pu_o, uI_s, uI_o, uI_j, uI_j1, uI_j2, uI_tw, or0, true_or, or_true, false_or, or_false, nar0, nar1, f_X11_tell, f_X11_refuse, f_X11_tellIf, f_X11_tellOrNone, f_X11_tellSooner, f_X11_deny, f_X11_succeed, hp0, ep, ew, g5, g6]
/-- where two meet, in how many minutes -/
theorem q_meet {x y : Int} {M : KM} {L n : Nat} {g : Int → Int → Int → Int} {b : Int → Int} (h : CI M L g b) (hn : 400 ≤ n) (w : 0 ≤ x ∧ x < b 2) (w2 : 0 ≤ y ∧ y < b 2) :
    Ro (f_X11_meet n 0 (zI x) (zI y)) M L g (zI (if x = y ∨ 0 ≤ b (66 + x) ∨ 0 ≤ b (66 + y) then -1 else mtF b x y)) := by
  obtain ⟨hP, hL, hg, hb, hm, hC⟩ := h; have hp0 : M.2.2 0 10 = L := hP.1; have hl := Ptr_L hP; have hq := Ptr_P hP; have hh := hb.1; unfold WH at hh
  have hi : 0 ≤ b 2 ∧ b 2 ≤ 8 ∧ 0 ≤ b 0 ∧ b 0 ≤ 8 ∧ 0 ≤ b 5 := by omega
  clear hh
  have hcs : ∀ N : KM, (∀ k, N.1 232 k = M.1 232 k) → cs N (rw2 M) = N := fun N k => cs_rw k
  have ew := c_whyNoTwoAt (n := n) (M := M) (g := g) (x := x) (y := y) hL hg hb hp0 (by omega) (by omega) (by omega) (by omega)
  by_cases e : x = y ∨ 0 ≤ b (66 + x) ∨ 0 ≤ b (66 + y)
  · rw [whyT_9 ⟨w, w2⟩ e] at ew
    rw [if_pos e]
    refine ro_s (s := zI 9) ?_
    unfold f_X11_meet
    simp (disch := first | omega | assumption) only [↓lt, Option.bind_some, zl, ll, zadd, zsub, zmul, zneg, ladd, lsub, lmul, lneg, zltT, zltF, zleT, zleF, zeqT, zeqF, zidx, ixT, zwide, bIT, bIF, if_true, if_false, ↓reduceIte, Nat.reduceAdd, Int.reduceAdd, Int.reduceMul, Int.reduceSub, Int.reduceNeg, cs_c, cs_o, cs_2, cu_c, cu_o, Int.cast_ofNat_Int, ps_f, ps_g, ps_w, ps_o, ps_2, pu_f, pu_g, pu_w, pu_o, uI_s, uI_o, uI_j, uI_j1, uI_j2, uI_tw, or0, true_or, or_true, false_or, or_false, nar0, nar1, f_X11_tell, f_X11_refuse, f_X11_tellIf, f_X11_tellOrNone, f_X11_tellSooner, f_X11_deny, f_X11_succeed, hp0, ew]
  · rw [whyT_0 ⟨w, w2⟩ e] at ew
    rw [if_neg e]
    have z1 := WPb hb w.1 w.2
    have z2 := WPb hb w2.1 w2.2
    have i5 : 0 ≤ b (58 + x) ∧ b (58 + x) < b 0 ∧ b (66 + x) = -1 ∧ 0 ≤ b (58 + y) ∧ b (58 + y) < b 0 ∧ b (66 + y) = -1 := by omega
    clear z1 z2
    obtain ⟨N, ec, c4, c5, c6, c7⟩ := c_findMeeting (n := n) (M := M) (g := g) (HL_rw hl hL) hl hg hb hm w.1 w.2 i5.2.2.1 w2.1 w2.2 i5.2.2.2.2.2 (by omega)
    have hF := mtF_r (b := b) (x := x) (y := y) hb
    have tv := fun j (h1 : 0 ≤ j) (h2 : j < 8) => mxT_r (T := TT b x (-1) (b (58 + x)) (b 5)) (U := TT b y (-1) (b (58 + y)) (b 5)) (TT_ok hb hi.2.2.2.2 (by omega)) (TT_ok hb hi.2.2.2.2 (by omega)) h1 h2
    have hN : ∀ k, N.1 232 k = M.1 232 k := fun k => by rw [c6 232 k (by omega), rs_o (by omega), rs_o (by omega), rs_o (by omega)]
    rw [hcs M (fun _ => rfl), hcs N hN] at ec
    have hSc : Sc M N := ⟨c7, fun a k u v => by rw [c6 a k (by omega), rs_o (by omega), rs_o (by omega), rs_o (by omega)]⟩
    clear c6
    generalize mtF b x y = F at *
    generalize TT b x (-1) (b (58 + x)) (b 5) = T at *
    generalize TT b y (-1) (b (58 + y)) (b 5) = U at *
    by_cases kf : F = -1
    · subst kf
      have c5' : N.1 14 5 = zI 1000000000 := c5
      refine ⟨uI N 0 15 (zI 8), ?_, Sc_s2 hSc⟩
      unfold f_X11_meet
      simp (disch := first | omega | assumption) only [↓lt, Option.bind_some, zl, ll, zadd, zsub, zmul, zneg, ladd, lsub, lmul, lneg, zltT, zltF, zleT, zleF, zeqT, zeqF, zidx, ixT, zwide, bIT, bIF, if_true, if_false, ↓reduceIte, Nat.reduceAdd, Int.reduceAdd, Int.reduceMul, Int.reduceSub, Int.reduceNeg, cs_c, cs_o, cs_2, cu_c, cu_o, Int.cast_ofNat_Int, ps_f, ps_g, ps_w, ps_o, ps_2, pu_f, pu_g, pu_w, pu_o, uI_s, uI_o, uI_j, uI_j1, uI_j2, uI_tw, or0, true_or, or_true, false_or, or_false, nar0, nar1, f_X11_tell, f_X11_refuse, f_X11_tellIf, f_X11_tellOrNone, f_X11_tellSooner, f_X11_deny, f_X11_succeed, hp0, ew, ec, c4, c5']
    · have bF : 0 ≤ F ∧ F < 8 := by omega
      have tF := tv F bF.1 bF.2
      have tG : mxT T U F < 1000000000 := by omega
      have c5' : N.1 14 5 = zI (mxT T U F - b 5) := by rw [c5]; unfold inO; rw [if_neg kf]
      generalize mxT T U F = V at *
      refine ⟨uI N 0 15 (zI 0), ?_, Sc_s2 hSc⟩
      unfold f_X11_meet
      clear hF
      simp (disch := first | omega | assumption) only [↓lt, Option.bind_some, zl, ll, zadd, zsub, zmul, zneg, ladd, lsub, lmul, lneg, zltT, zltF, zleT, zleF, zeqT, zeqF, zidx, ixT, zwide, bIT, bIF, if_true, if_false, ↓reduceIte, Nat.reduceAdd, Int.reduceAdd, Int.reduceMul, Int.reduceSub, Int.reduceNeg, cs_c, cs_o, cs_2, cu_c, cu_o, Int.cast_ofNat_Int, ps_f, ps_g, ps_w, ps_o, ps_2, pu_f, pu_g, pu_w, pu_o, uI_s, uI_o, uI_j, uI_j1, uI_j2, uI_tw, or0, true_or, or_true, false_or, or_false, nar0, nar1, f_X11_tell, f_X11_refuse, f_X11_tellIf, f_X11_tellOrNone, f_X11_tellSooner, f_X11_deny, f_X11_succeed, hp0, ew, ec, c4, c5']
theorem q_meetIn {x y : Int} {M : KM} {L n : Nat} {g : Int → Int → Int → Int} {b : Int → Int} (h : CI M L g b) (hn : 400 ≤ n) (w : 0 ≤ x ∧ x < b 2) (w2 : 0 ≤ y ∧ y < b 2) (e : ¬ (x = y ∨ 0 ≤ b (66 + x) ∨ 0 ≤ b (66 + y))) (kf : ¬ mtF b x y = -1) :
    Ro (f_X11_meetIn n 0 (zI x) (zI y)) M L g (zI (mxT (TT b x (-1) (b (58 + x)) (b 5)) (TT b y (-1) (b (58 + y)) (b 5)) (mtF b x y) - b 5)) := by
  obtain ⟨hP, hL, hg, hb, hm, hC⟩ := h; have hp0 : M.2.2 0 10 = L := hP.1; have hl := Ptr_L hP; have hq := Ptr_P hP; have hh := hb.1; unfold WH at hh
  have hi : 0 ≤ b 2 ∧ b 2 ≤ 8 ∧ 0 ≤ b 0 ∧ b 0 ≤ 8 ∧ 0 ≤ b 5 := by omega
  clear hh
  have hcs : ∀ N : KM, (∀ k, N.1 232 k = M.1 232 k) → cs N (rw2 M) = N := fun N k => cs_rw k
  have ew := c_whyNoTwoAt (n := n) (M := M) (g := g) (x := x) (y := y) hL hg hb hp0 (by omega) (by omega) (by omega) (by omega)
  rw [whyT_0 ⟨w, w2⟩ e] at ew
  have z1 := WPb hb w.1 w.2
  have z2 := WPb hb w2.1 w2.2
  have i5 : 0 ≤ b (58 + x) ∧ b (58 + x) < b 0 ∧ b (66 + x) = -1 ∧ 0 ≤ b (58 + y) ∧ b (58 + y) < b 0 ∧ b (66 + y) = -1 := by omega
  clear z1 z2
  obtain ⟨N, ec, c4, c5, c6, c7⟩ := c_findMeeting (n := n) (M := M) (g := g) (HL_rw hl hL) hl hg hb hm w.1 w.2 i5.2.2.1 w2.1 w2.2 i5.2.2.2.2.2 (by omega)
  have hF := mtF_r (b := b) (x := x) (y := y) hb
  have tv := fun j (h1 : 0 ≤ j) (h2 : j < 8) => mxT_r (T := TT b x (-1) (b (58 + x)) (b 5)) (U := TT b y (-1) (b (58 + y)) (b 5)) (TT_ok hb hi.2.2.2.2 (by omega)) (TT_ok hb hi.2.2.2.2 (by omega)) h1 h2
  have hN : ∀ k, N.1 232 k = M.1 232 k := fun k => by rw [c6 232 k (by omega), rs_o (by omega), rs_o (by omega), rs_o (by omega)]
  rw [hcs M (fun _ => rfl), hcs N hN] at ec
  have hSc : Sc M N := ⟨c7, fun a k u v => by rw [c6 a k (by omega), rs_o (by omega), rs_o (by omega), rs_o (by omega)]⟩
  clear c6
  generalize mtF b x y = F at *
  generalize TT b x (-1) (b (58 + x)) (b 5) = T at *
  generalize TT b y (-1) (b (58 + y)) (b 5) = U at *
  have bF : 0 ≤ F ∧ F < 8 := by omega
  have tF := tv F bF.1 bF.2
  have tG : mxT T U F < 1000000000 := by omega
  have c5' : N.1 14 5 = zI (mxT T U F - b 5) := by rw [c5]; unfold inO; rw [if_neg kf]
  generalize mxT T U F = V at *
  refine ⟨uI N 0 15 (zI 0), ?_, Sc_s2 hSc⟩
  unfold f_X11_meetIn
  clear hF
  simp (disch := first | omega | assumption) only [↓lt, Option.bind_some, zl, ll, zadd, zsub, zmul, zneg, ladd, lsub, lmul, lneg, zltT, zltF, zleT, zleF, zeqT, zeqF, zidx, ixT, zwide, bIT, bIF, if_true, if_false, ↓reduceIte, Nat.reduceAdd, Int.reduceAdd, Int.reduceMul, Int.reduceSub, Int.reduceNeg, cs_c, cs_o, cs_2, cu_c, cu_o, Int.cast_ofNat_Int, ps_f, ps_g, ps_w, ps_o, ps_2, pu_f, pu_g, pu_w, pu_o, uI_s, uI_o, uI_j, uI_j1, uI_j2, uI_tw, or0, true_or, or_true, false_or, or_false, nar0, nar1, f_X11_tell, f_X11_refuse, f_X11_tellIf, f_X11_tellOrNone, f_X11_tellSooner, f_X11_deny, f_X11_succeed, hp0, ew, ec, c4, c5']
