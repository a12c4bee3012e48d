/-! ===== tray, read, write ===== -/
theorem cr_no {M : KM} {L : Nat} {g : Int → Int → Int → Int} {b : Int → Int} {ρ : Type} {c m : KM → Option (ρ × KM)} {r : ρ} {s : Int32} (hO : Opn M L g b) (h1 : c (ps (cs M b) L g) = some (r, ps (uI (cs M b) 0 15 s) L g)) (h2 : m (cs (ps (uI M 0 15 s) L g) b) = some (r, cs (uI (uI (ps (uI M 0 15 s) L g) 227 1 (zI 0)) 227 0 s) b)) : ∃ (r : ρ) (N Y : KM), c (ps (cs M b) L g) = some (r, ps (cs N b) L g) ∧ m (cs (ps N L g) b) = some (r, cs (ps Y L g) b) ∧ Y.1 0 15 = Y.1 227 0 ∧ Y.2.2 = M.2.2 ∧ (∀ a k, L ≤ a → a < L + 8 → Y.1 a k = M.1 a k) ∧ CR (cs (ps Y L g) b) L b := by
  have hl := Ptr_L hO.1
  have hq := Ptr_P hO.1
  refine ⟨r, uI M 0 15 s, uI (uI (uI M 0 15 s) 227 1 (zI 0)) 227 0 s, by rw [h1, cu_o (by omega)], by rw [h2, pu_o (by omega), pu_o (by omega)], by rw [uI_o (by omega), uI_o (by omega), uI_s, uI_s], rfl, fun a k x y => by rw [uI_o (by omega), uI_o (by omega), uI_o (by omega)], ?_⟩
  refine (Opn_sc (M' := uI (uI (uI M 0 15 s) 227 1 (zI 0)) 227 0 s) hO (fun a k x => ?_) (fun a k x y => ?_) (fun a k x => rfl) rfl).2.2.2.2.2
  · have w := KI_out hq x
    unfold KI at x
    rw [uI_o (by omega), uI_o (by omega), uI_o (by omega)]
  · rw [uI_o (by omega), uI_o (by omega), uI_o (by omega)]
theorem TR_to {M : KM} {L : Nat} {g : Int → Int → Int → Int} {b : Int → Int} (hl : 23 ≤ L ∧ L ≤ 61) (h : TRs M) : TRs (cs (ps M L g) b) := by
  intro t h1 h2
  obtain ⟨s, m, c1, c2, c3, c4, c5, c6, c7, c8, c9⟩ := h t h1 h2
  refine ⟨s, m, c1, c2, c3, c4, ?_, ?_, ?_, ?_, c9⟩
  · rw [cs_o (by omega), ps_o (by omega)]; exact c5
  · rw [cs_o (by omega), ps_o (by omega)]; exact c6
  · rw [cs_o (by omega), ps_o (by omega)]; exact c7
  · rw [cs_o (by omega), ps_o (by omega)]; exact c8
/-- other trays, nothing else that lasts -/
theorem CR_tr {M Y : KM} {L : Nat} {g : Int → Int → Int → Int} {b : Int → Int} (hO : Opn M L g b) (h1 : ∀ a k, ¬ (105 ≤ a ∧ a < 113) → ¬ a = 228 → ¬ a = 229 → ¬ (a = 0 ∧ k = 15) → ¬ (a = 227 ∧ (k = 0 ∨ k = 1)) → Y.1 a k = M.1 a k) (h2 : ∀ a k, ¬ (105 ≤ a ∧ a < 113) → ¬ a = 230 → Y.2.1 a k = M.2.1 a k) (h3 : Y.2.2 = M.2.2) (ht : TRs Y) : CR (cs (ps Y L g) b) L b := by
  have hl := Ptr_L hO.1
  have hq := Ptr_P hO.1
  have hh := hO.2.2.2.1.1
  unfold WH at hh
  refine CR_tray (M := cs (ps M L g) b) ⟨by omega, by omega⟩ hl hq.1 (show M.2.2 L 7 ≤ 99 by omega) (fun a k x y z w => ?_) (fun a k x y z => h2 a k y z) (by show Y.2.2 L 7 = M.2.2 L 7; rw [h3]) (TR_to hl ht) hO.2.2.2.2.2
  have x : KI L (M.2.2 L 7) a k := x
  have v := KI_out hq x
  rw [cs_o v.2.2.1, cs_o v.2.2.1, ps_o v.1, ps_o v.1]
  unfold KI at x
  exact h1 a k y z w v.2.2.2 (by omega)
theorem k_tray (p q r : Int32) (n : Nat) (hn : 100 ≤ n) : OKm (f_X11_tray n 0 p q r) (f_X12_tray n 227 p q r) := by
  obtain ⟨x, hx1, hx2, rfl⟩ := z_ex p
  obtain ⟨y, hy1, hy2, rfl⟩ := z_ex q
  obtain ⟨z, hz1, hz2, rfl⟩ := z_ex r
  refine ok_cr (fun M L g b hO => ?_)
  have hO2 := hO
  have hq := Ptr_P hO.1
  obtain ⟨hP, hL, hg, hb, hm, hC⟩ := hO; have hp0 : M.2.2 0 10 = L := hP.1; have hl := Ptr_L hP; have hT := TR_at hl hC
  have hh := hb.1
  unfold WH at hh
  have hi : 0 ≤ b 2 ∧ b 2 ≤ 8 := by omega
  clear hh hb hg hL hm
  by_cases w1 : 0 ≤ x ∧ x < 4 ∧ 0 ≤ y ∧ y ≤ 3
  · by_cases w2 : z ≤ 60
    · by_cases w3 : 0 ≤ z
      · refine ⟨zI 1, uI (fI (fun i W => uJ W (0 + 1 + 104 + 2 * x.toNat + 1) (0 + i).toNat (lI 0)) 60 0 (uI (uI M (0 + 1 + 104 + 2 * x.toNat) 1 (zI y)) (0 + 1 + 104 + 2 * x.toNat) 2 (zI z))) 0 15 (zI 0), fI (fun i W => uJ W 230 (60 * x + i).toNat (lI 0)) z.toNat 0 (uI (uI (uI (uI (uI (fI (fun i W => uJ W (0 + 1 + 104 + 2 * x.toNat + 1) (0 + i).toNat (lI 0)) 60 0 (uI (uI M (0 + 1 + 104 + 2 * x.toNat) 1 (zI y)) (0 + 1 + 104 + 2 * x.toNat) 2 (zI z))) 0 15 (zI 0)) 227 1 (zI 0)) 227 0 (zI 0)) 228 x.toNat (zI y)) 229 x.toNat (zI z)), ?_, ?_, ?_, ?_, ?_, ?_⟩
        · have e := (loop_f (lp := fun n i W => lp_X10_begin_12 n (0 + 1 + 104 + 2 * x.toNat) i (ps (cs W b) L g)) (f := fun i W => uJ W (0 + 1 + 104 + 2 * x.toNat + 1) (0 + i).toNat (lI 0)) (fin := fun W => some (ps (cs W b) L g)) (fun _ _ => True) (N := 0) (R := 60) (fun n i W _ h1 h2 _ => ⟨by
            rw [lp_X10_begin_12]
            simp (disch := first | omega | assumption) only [↓lt, Option.bind_some, zl, ll, zadd, zsub, zmul, zneg, ladd, lsub, lmul, lneg, zltT, zltF, zleT, zleF, zeqT, zeqF, zidx, ixT, zwide, bIT, bIF, if_true, if_false, ↓reduceIte, Nat.reduceAdd, Int.reduceAdd, Int.reduceMul, Int.reduceSub, Int.reduceNeg, cs_c, cs_o, cs_2, cu_c, cu_o, Int.cast_ofNat_Int, ps_f, ps_g, ps_w, ps_o, ps_2, pu_f, pu_g, pu_w, pu_o, uI_s, uI_o, uI_j, uI_j1, uI_j2, uI_tw, or0, true_or, or_true, false_or, or_false, nar0, nar1, psJ, csJ, uJ_i, uJ_r, uJ_s, uJ_o, Int.zero_add], trivial⟩) (fun n W _ _ => by
            rw [lp_X10_begin_12]
            simp (disch := first | omega | assumption) only [↓lt, Option.bind_some, zl, ll, zadd, zsub, zmul, zneg, ladd, lsub, lmul, lneg, zltT, zltF, zleT, zleF, zeqT, zeqF, zidx, ixT, zwide, bIT, bIF, if_true, if_false, ↓reduceIte, Nat.reduceAdd, Int.reduceAdd, Int.reduceMul, Int.reduceSub, Int.reduceNeg, cs_c, cs_o, cs_2, cu_c, cu_o, Int.cast_ofNat_Int, ps_f, ps_g, ps_w, ps_o, ps_2, pu_f, pu_g, pu_w, pu_o, uI_s, uI_o, uI_j, uI_j1, uI_j2, uI_tw, or0, true_or, or_true, false_or, or_false, nar0, nar1]) 60 0 (uI (uI M (0 + 1 + 104 + 2 * x.toNat) 1 (zI y)) (0 + 1 + 104 + 2 * x.toNat) 2 (zI z)) n (by omega) (by omega) (by omega) trivial).1
          unfold f_X11_tray f_X10_begin
          simp (disch := first | omega | assumption) only [↓lt, Option.bind_some, zl, c_isTray, bIT, zeqF, zltF, zleT, if_false, if_true, ↓reduceIte, ixT, zidx, cu_o, pu_o, e, f_X11_succeed]
        · have e := fun W0 => (loop_f (lp := fun n i W => lp_X12_tray_74 n 227 (zI x) (zI z) i (cs (ps W L g) b)) (f := fun i W => uJ W 230 (60 * x + i).toNat (lI 0)) (fin := fun W => some (zI 1, cs (ps W L g) b)) (fun _ _ => True) (N := 0) (R := z) (fun n i W _ h1 h2 _ => ⟨by
            rw [lp_X12_tray_74]
            simp (disch := first | omega | assumption) only [↓lt, Option.bind_some, zl, ll, zadd, zsub, zmul, zneg, ladd, lsub, lmul, lneg, zltT, zltF, zleT, zleF, zeqT, zeqF, zidx, ixT, zwide, bIT, bIF, if_true, if_false, ↓reduceIte, Nat.reduceAdd, Int.reduceAdd, Int.reduceMul, Int.reduceSub, Int.reduceNeg, cs_c, cs_o, cs_2, cu_c, cu_o, Int.cast_ofNat_Int, ps_f, ps_g, ps_w, ps_o, ps_2, pu_f, pu_g, pu_w, pu_o, uI_s, uI_o, uI_j, uI_j1, uI_j2, uI_tw, or0, true_or, or_true, false_or, or_false, nar0, nar1, psJ, csJ, uJ_i, uJ_r, uJ_s, uJ_o], trivial⟩) (fun n W _ _ => by
            rw [lp_X12_tray_74]
            simp (disch := first | omega | assumption) only [↓lt, Option.bind_some, zl, ll, zadd, zsub, zmul, zneg, ladd, lsub, lmul, lneg, zltT, zltF, zleT, zleF, zeqT, zeqF, zidx, ixT, zwide, bIT, bIF, if_true, if_false, ↓reduceIte, Nat.reduceAdd, Int.reduceAdd, Int.reduceMul, Int.reduceSub, Int.reduceNeg, cs_c, cs_o, cs_2, cu_c, cu_o, Int.cast_ofNat_Int, ps_f, ps_g, ps_w, ps_o, ps_2, pu_f, pu_g, pu_w, pu_o, uI_s, uI_o, uI_j, uI_j1, uI_j2, uI_tw, or0, true_or, or_true, false_or, or_false, nar0, nar1]) z.toNat 0 W0 n (by omega) (by omega) (by omega) trivial).1
          unfold f_X12_tray
          simp (disch := first | omega | assumption) only [↓lt, Option.bind_some, zl, zeqF, zltF, zleT, zleF, if_false, if_true, ↓reduceIte, ixT, zidx, cu_o, pu_o, e, Nat.reduceAdd]
        · rw [fI_J (F := fun _ => lI 0) (by omega) _ _ _ (by omega), fI_J (F := fun _ => lI 0) (by omega) _ _ _ (by omega)]
          dsimp only
          rw [uI_o (by omega), uI_o (by omega), uI_o (by omega), uI_o (by omega), uI_s, uI_o (by omega), uI_o (by omega), uI_s]
        · rw [fI_J (F := fun _ => lI 0) (by omega) _ _ _ (by omega), fI_J (F := fun _ => lI 0) (by omega) _ _ _ (by omega)]
          rfl
        · intro a k h1 h2
          rw [fI_J (F := fun _ => lI 0) (by omega) _ _ _ (by omega), fI_J (F := fun _ => lI 0) (by omega) _ _ _ (by omega)]
          dsimp only
          rw [uI_o (by omega), uI_o (by omega), uI_o (by omega), uI_o (by omega), uI_o (by omega)]
          dsimp only
          rw [uI_o (by omega), uI_o (by omega)]
        · refine CR_tr hO2 (fun a k h1 h2 h3 h4 h5 => ?_) (fun a k h1 h2 => ?_) (by rw [fI_J (F := fun _ => lI 0) (by omega) _ _ _ (by omega), fI_J (F := fun _ => lI 0) (by omega) _ _ _ (by omega)]; rfl) (fun t h1 h2 => ?_)
          · rw [fI_J (F := fun _ => lI 0) (by omega) _ _ _ (by omega), fI_J (F := fun _ => lI 0) (by omega) _ _ _ (by omega)]
            dsimp only
            rw [uI_o (by omega), uI_o (by omega), uI_o (by omega), uI_o (by omega), uI_o (by omega)]
            dsimp only
            rw [uI_o (by omega), uI_o (by omega)]
          · rw [fI_J (F := fun _ => lI 0) (by omega) _ _ _ (by omega), fI_J (F := fun _ => lI 0) (by omega) _ _ _ (by omega)]
            show (if _ then _ else if _ then _ else M.2.1 a k) = _
            rw [if_neg (by omega), if_neg (by omega)]
          · rw [fI_J (F := fun _ => lI 0) (by omega) _ _ _ (by omega), fI_J (F := fun _ => lI 0) (by omega) _ _ _ (by omega)]
            by_cases w : t = x
            · subst w
              refine ⟨y, z, by omega, by omega, by omega, by omega, ?_, ?_, ?_, ?_, fun k h3 h4 => ?_⟩
              · dsimp only
                rw [uI_o (by omega), uI_o (by omega), uI_o (by omega), uI_o (by omega), uI_o (by omega)]
                dsimp only
                rw [uI_o (by omega), show 1 + 104 + 2 * t.toNat = 0 + 1 + 104 + 2 * t.toNat by omega, uI_s]
              · dsimp only
                rw [uI_o (by omega), uI_s]
              · dsimp only
                rw [uI_o (by omega), uI_o (by omega), uI_o (by omega), uI_o (by omega), uI_o (by omega)]
                dsimp only
                rw [show 1 + 104 + 2 * t.toNat = 0 + 1 + 104 + 2 * t.toNat by omega, uI_s]
              · dsimp only
                rw [uI_s]
              · show (if _ then _ else if _ then _ else M.2.1 _ _) = (if _ then _ else _)
                rw [if_neg (by omega), if_pos (by omega), if_pos (by omega)]
            · obtain ⟨s, m, c1, c2, c3, c4, c5, c6, c7, c8, c9⟩ := hT t h1 h2
              refine ⟨s, m, c1, c2, c3, c4, ?_, ?_, ?_, ?_, fun k h3 h4 => ?_⟩
              · dsimp only
                rw [uI_o (by omega), uI_o (by omega), uI_o (by omega), uI_o (by omega), uI_o (by omega)]
                dsimp only
                rw [uI_o (by omega), uI_o (by omega)]; exact c5
              · dsimp only
                rw [uI_o (by omega), uI_o (by omega), uI_o (by omega), uI_o (by omega), uI_o (by omega)]
                dsimp only
                rw [uI_o (by omega), uI_o (by omega)]; exact c6
              · dsimp only
                rw [uI_o (by omega), uI_o (by omega), uI_o (by omega), uI_o (by omega), uI_o (by omega)]
                dsimp only
                rw [uI_o (by omega), uI_o (by omega)]; exact c7
              · dsimp only
                rw [uI_o (by omega), uI_o (by omega), uI_o (by omega), uI_o (by omega), uI_o (by omega)]
                dsimp only
                rw [uI_o (by omega), uI_o (by omega)]; exact c8
              · show (if _ then _ else if _ then _ else M.2.1 _ _) = (if _ then _ else if _ then _ else M.2.1 _ _)
                rw [if_neg (by omega), if_neg (by omega), if_neg (by omega), if_neg (by omega)]
                exact c9 k h3 h4
      · refine cr_no (c := f_X11_tray n 0 (zI x) (zI y) (zI z)) (m := f_X12_tray n 227 (zI x) (zI y) (zI z)) hO2 (r := zI 0) (s := zI 6) ?_ ?_
        · unfold f_X11_tray
          simp (disch := first | omega | assumption) only [↓lt, Option.bind_some, zl, ll, zadd, zsub, zmul, zneg, ladd, lsub, lmul, lneg, zltT, zltF, zleT, zleF, zeqT, zeqF, zidx, ixT, zwide, bIT, bIF, if_true, if_false, ↓reduceIte, Nat.reduceAdd, Int.reduceAdd, Int.reduceMul, Int.reduceSub, Int.reduceNeg, cs_c, cs_o, cs_2, cu_c, cu_o, Int.cast_ofNat_Int, ps_f, ps_g, ps_w, ps_o, ps_2, pu_f, pu_g, pu_w, pu_o, uI_s, uI_o, uI_j, uI_j1, uI_j2, uI_tw, or0, true_or, or_true, false_or, or_false, nar0, nar1, f_X11_tell, f_X11_refuse, f_X11_tellIf, f_X11_tellOrNone, f_X11_deny, f_X11_succeed, f_X12_refuse, f_X12_no, hp0, c_isTray]
        · unfold f_X12_tray
          simp (disch := first | omega | assumption) only [↓lt, Option.bind_some, zl, ll, zadd, zsub, zmul, zneg, ladd, lsub, lmul, lneg, zltT, zltF, zleT, zleF, zeqT, zeqF, zidx, ixT, zwide, bIT, bIF, if_true, if_false, ↓reduceIte, Nat.reduceAdd, Int.reduceAdd, Int.reduceMul, Int.reduceSub, Int.reduceNeg, cs_c, cs_o, cs_2, cu_c, cu_o, Int.cast_ofNat_Int, ps_f, ps_g, ps_w, ps_o, ps_2, pu_f, pu_g, pu_w, pu_o, uI_s, uI_o, uI_j, uI_j1, uI_j2, uI_tw, or0, true_or, or_true, false_or, or_false, nar0, nar1, f_X11_tell, f_X11_refuse, f_X11_tellIf, f_X11_tellOrNone, f_X11_deny, f_X11_succeed, f_X12_refuse, f_X12_no, hp0]
    · refine cr_no (c := f_X11_tray n 0 (zI x) (zI y) (zI z)) (m := f_X12_tray n 227 (zI x) (zI y) (zI z)) hO2 (r := zI 0) (s := zI 5) ?_ ?_
      · unfold f_X11_tray
        simp (disch := first | omega | assumption) only [↓lt, Option.bind_some, zl, ll, zadd, zsub, zmul, zneg, ladd, lsub, lmul, lneg, zltT, zltF, zleT, zleF, zeqT, zeqF, zidx, ixT, zwide, bIT, bIF, if_true, if_false, ↓reduceIte, Nat.reduceAdd, Int.reduceAdd, Int.reduceMul, Int.reduceSub, Int.reduceNeg, cs_c, cs_o, cs_2, cu_c, cu_o, Int.cast_ofNat_Int, ps_f, ps_g, ps_w, ps_o, ps_2, pu_f, pu_g, pu_w, pu_o, uI_s, uI_o, uI_j, uI_j1, uI_j2, uI_tw, or0, true_or, or_true, false_or, or_false, nar0, nar1, f_X11_tell, f_X11_refuse, f_X11_tellIf, f_X11_tellOrNone, f_X11_deny, f_X11_succeed, f_X12_refuse, f_X12_no, hp0, c_isTray]
      · unfold f_X12_tray
        simp (disch := first | omega | assumption) only [↓lt, Option.bind_some, zl, ll, zadd, zsub, zmul, zneg, ladd, lsub, lmul, lneg, zltT, zltF, zleT, zleF, zeqT, zeqF, zidx, ixT, zwide, bIT, bIF, if_true, if_false, ↓reduceIte, Nat.reduceAdd, Int.reduceAdd, Int.reduceMul, Int.reduceSub, Int.reduceNeg, cs_c, cs_o, cs_2, cu_c, cu_o, Int.cast_ofNat_Int, ps_f, ps_g, ps_w, ps_o, ps_2, pu_f, pu_g, pu_w, pu_o, uI_s, uI_o, uI_j, uI_j1, uI_j2, uI_tw, or0, true_or, or_true, false_or, or_false, nar0, nar1, f_X11_tell, f_X11_refuse, f_X11_tellIf, f_X11_tellOrNone, f_X11_deny, f_X11_succeed, f_X12_refuse, f_X12_no, hp0]
  · refine cr_no (c := f_X11_tray n 0 (zI x) (zI y) (zI z)) (m := f_X12_tray n 227 (zI x) (zI y) (zI z)) hO2 (r := zI 0) (s := zI 1) ?_ ?_
    · unfold f_X11_tray
      by_cases v1 : 0 ≤ x ∧ x < 4
      · by_cases v2 : 0 ≤ y
        · simp (disch := first | omega | assumption) only [↓lt, Option.bind_some, zl, ll, zadd, zsub, zmul, zneg, ladd, lsub, lmul, lneg, zltT, zltF, zleT, zleF, zeqT, zeqF, zidx, ixT, zwide, bIT, bIF, if_true, if_false, ↓reduceIte, Nat.reduceAdd, Int.reduceAdd, Int.reduceMul, Int.reduceSub, Int.reduceNeg, cs_c, cs_o, cs_2, cu_c, cu_o, Int.cast_ofNat_Int, ps_f, ps_g, ps_w, ps_o, ps_2, pu_f, pu_g, pu_w, pu_o, uI_s, uI_o, uI_j, uI_j1, uI_j2, uI_tw, or0, true_or, or_true, false_or, or_false, nar0, nar1, f_X11_tell, f_X11_refuse, f_X11_tellIf, f_X11_tellOrNone, f_X11_deny, f_X11_succeed, f_X12_refuse, f_X12_no, hp0, c_isTray]
        · simp (disch := first | omega | assumption) only [↓lt, Option.bind_some, zl, ll, zadd, zsub, zmul, zneg, ladd, lsub, lmul, lneg, zltT, zltF, zleT, zleF, zeqT, zeqF, zidx, ixT, zwide, bIT, bIF, if_true, if_false, ↓reduceIte, Nat.reduceAdd, Int.reduceAdd, Int.reduceMul, Int.reduceSub, Int.reduceNeg, cs_c, cs_o, cs_2, cu_c, cu_o, Int.cast_ofNat_Int, ps_f, ps_g, ps_w, ps_o, ps_2, pu_f, pu_g, pu_w, pu_o, uI_s, uI_o, uI_j, uI_j1, uI_j2, uI_tw, or0, true_or, or_true, false_or, or_false, nar0, nar1, f_X11_tell, f_X11_refuse, f_X11_tellIf, f_X11_tellOrNone, f_X11_deny, f_X11_succeed, f_X12_refuse, f_X12_no, hp0, c_isTray]
      · simp (disch := first | omega | assumption) only [↓lt, Option.bind_some, zl, ll, zadd, zsub, zmul, zneg, ladd, lsub, lmul, lneg, zltT, zltF, zleT, zleF, zeqT, zeqF, zidx, ixT, zwide, bIT, bIF, if_true, if_false, ↓reduceIte, Nat.reduceAdd, Int.reduceAdd, Int.reduceMul, Int.reduceSub, Int.reduceNeg, cs_c, cs_o, cs_2, cu_c, cu_o, Int.cast_ofNat_Int, ps_f, ps_g, ps_w, ps_o, ps_2, pu_f, pu_g, pu_w, pu_o, uI_s, uI_o, uI_j, uI_j1, uI_j2, uI_tw, or0, true_or, or_true, false_or, or_false, nar0, nar1, f_X11_tell, f_X11_refuse, f_X11_tellIf, f_X11_tellOrNone, f_X11_deny, f_X11_succeed, f_X12_refuse, f_X12_no, hp0, c_isTray]
    · unfold f_X12_tray
      by_cases v1 : 0 ≤ x
      · by_cases v2 : x < 4
        · by_cases v3 : 0 ≤ y
          · simp (disch := first | omega | assumption) only [↓lt, Option.bind_some, zl, ll, zadd, zsub, zmul, zneg, ladd, lsub, lmul, lneg, zltT, zltF, zleT, zleF, zeqT, zeqF, zidx, ixT, zwide, bIT, bIF, if_true, if_false, ↓reduceIte, Nat.reduceAdd, Int.reduceAdd, Int.reduceMul, Int.reduceSub, Int.reduceNeg, cs_c, cs_o, cs_2, cu_c, cu_o, Int.cast_ofNat_Int, ps_f, ps_g, ps_w, ps_o, ps_2, pu_f, pu_g, pu_w, pu_o, uI_s, uI_o, uI_j, uI_j1, uI_j2, uI_tw, or0, true_or, or_true, false_or, or_false, nar0, nar1, f_X11_tell, f_X11_refuse, f_X11_tellIf, f_X11_tellOrNone, f_X11_deny, f_X11_succeed, f_X12_refuse, f_X12_no, hp0]
          · simp (disch := first | omega | assumption) only [↓lt, Option.bind_some, zl, ll, zadd, zsub, zmul, zneg, ladd, lsub, lmul, lneg, zltT, zltF, zleT, zleF, zeqT, zeqF, zidx, ixT, zwide, bIT, bIF, if_true, if_false, ↓reduceIte, Nat.reduceAdd, Int.reduceAdd, Int.reduceMul, Int.reduceSub, Int.reduceNeg, cs_c, cs_o, cs_2, cu_c, cu_o, Int.cast_ofNat_Int, ps_f, ps_g, ps_w, ps_o, ps_2, pu_f, pu_g, pu_w, pu_o, uI_s, uI_o, uI_j, uI_j1, uI_j2, uI_tw, or0, true_or, or_true, false_or, or_false, nar0, nar1, f_X11_tell, f_X11_refuse, f_X11_tellIf, f_X11_tellOrNone, f_X11_deny, f_X11_succeed, f_X12_refuse, f_X12_no, hp0]
        · simp (disch := first | omega | assumption) only [↓lt, Option.bind_some, zl, ll, zadd, zsub, zmul, zneg, ladd, lsub, lmul, lneg, zltT, zltF, zleT, zleF, zeqT, zeqF, zidx, ixT, zwide, bIT, bIF, if_true, if_false, ↓reduceIte, Nat.reduceAdd, Int.reduceAdd, Int.reduceMul, Int.reduceSub, Int.reduceNeg, cs_c, cs_o, cs_2, cu_c, cu_o, Int.cast_ofNat_Int, ps_f, ps_g, ps_w, ps_o, ps_2, pu_f, pu_g, pu_w, pu_o, uI_s, uI_o, uI_j, uI_j1, uI_j2, uI_tw, or0, true_or, or_true, false_or, or_false, nar0, nar1, f_X11_tell, f_X11_refuse, f_X11_tellIf, f_X11_tellOrNone, f_X11_deny, f_X11_succeed, f_X12_refuse, f_X12_no, hp0]
      · simp (disch := first | omega | assumption) only [↓lt, Option.bind_some, zl, ll, zadd, zsub, zmul, zneg, ladd, lsub, lmul, lneg, zltT, zltF, zleT, zleF, zeqT, zeqF, zidx, ixT, zwide, bIT, bIF, if_true, if_false, ↓reduceIte, Nat.reduceAdd, Int.reduceAdd, Int.reduceMul, Int.reduceSub, Int.reduceNeg, cs_c, cs_o, cs_2, cu_c, cu_o, Int.cast_ofNat_Int, ps_f, ps_g, ps_w, ps_o, ps_2, pu_f, pu_g, pu_w, pu_o, uI_s, uI_o, uI_j, uI_j1, uI_j2, uI_tw, or0, true_or, or_true, false_or, or_false, nar0, nar1, f_X11_tell, f_X11_refuse, f_X11_tellIf, f_X11_tellOrNone, f_X11_deny, f_X11_succeed, f_X12_refuse, f_X12_no, hp0]
