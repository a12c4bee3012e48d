/-! ===== soonestFirst: both alike ===== -/
theorem k_soonestFirst (p q : Int32) (n : Nat) (hn : 3400 ≤ n) : OKm (f_X11_soonestFirst n 0 p q) (f_X12_soonestFirst n 227 p q) := by
  obtain ⟨x, hx1, hx2, rfl⟩ := z_ex p
  obtain ⟨y, hy1, hy2, rfl⟩ := z_ex q
  refine ok_sc (fun M L g b hO => ?_)
  have hO2 := hO
  obtain ⟨hP, hL, hg, hb, hm, hC⟩ := hO; have hp0 : M.2.2 0 10 = L := hP.1; have hl := Ptr_L hP; have hM := (HL_cs hl.2).mp hL; have hh := hb.1; unfold WH at hh
  have hi : 0 ≤ b 2 ∧ b 2 ≤ 8 ∧ 0 ≤ b 0 ∧ b 0 ≤ 8 ∧ 0 ≤ b 5 := by omega
  clear hC hh
  have ew := c_whyNotAt (n := n) (M := cs M b) (g := g) (x := x) hL hg hb hp0 hx1 hx2
  by_cases w : 0 ≤ x ∧ x < b 2
  · have ez := WPb hb w.1 w.2
    have eg := fun X => m_isGoing (b := b) (n := n) (M := X) w.1 (show x < 8 by omega) (by omega) (by omega)
    rw [if_pos w] at ew
    by_cases v : 0 ≤ y ∧ y < b 0
    · by_cases u : 0 ≤ b (66 + x)
      · rw [if_pos u] at ew
        simp only [bIT u] at eg
        clear ez
        refine sc_no (c := f_X11_soonestFirst n 0 (zI x) (zI y)) (m := f_X12_soonestFirst n 227 (zI x) (zI y)) hO2 (r := zI (-1)) (s := zI 9) ?_ (fun X => ?_)
        · unfold f_X11_soonestFirst f_X11_whyNoWay
          simp (disch := first | omega | assumption) only [↓lt, Option.bind_some, zl, ll, zadd, zsub, zmul, zneg, ladd, lsub, lmul, lneg, zltT, zltF, zleT, zleF, zeqT, zeqF, zidx, ixT, zwide, bIT, bIF, if_true, if_false, ↓reduceIte, Nat.reduceAdd, Int.reduceAdd, Int.reduceMul, Int.reduceSub, Int.reduceNeg, cs_c, cs_o, cs_2, cu_c, cu_o, Int.cast_ofNat_Int, ps_f, ps_g, ps_w, ps_o, ps_2, pu_f, pu_g, pu_w, pu_o, uI_s, uI_o, uI_j, uI_j1, uI_j2, uI_tw, or0, true_or, or_true, false_or, or_false, nar0, nar1, f_X11_tell, f_X11_refuse, f_X11_tellIf, f_X11_tellOrNone, f_X11_tellSooner, f_X11_deny, f_X11_succeed, f_X12_refuse, f_X12_no, hp0, c_hasPlace hL, ew]
        · unfold f_X12_soonestFirst f_X12_whyNotSoon
          simp (disch := first | omega | assumption) only [↓lt, Option.bind_some, zl, ll, zadd, zsub, zmul, zneg, ladd, lsub, lmul, lneg, zltT, zltF, zleT, zleF, zeqT, zeqF, zidx, ixT, zwide, bIT, bIF, if_true, if_false, ↓reduceIte, Nat.reduceAdd, Int.reduceAdd, Int.reduceMul, Int.reduceSub, Int.reduceNeg, cs_c, cs_o, cs_2, cu_c, cu_o, Int.cast_ofNat_Int, ps_f, ps_g, ps_w, ps_o, ps_2, pu_f, pu_g, pu_w, pu_o, uI_s, uI_o, uI_j, uI_j1, uI_j2, uI_tw, or0, true_or, or_true, false_or, or_false, nar0, nar1, f_X11_tell, f_X11_refuse, f_X11_tellIf, f_X11_tellOrNone, f_X11_tellSooner, f_X11_deny, f_X11_succeed, f_X12_refuse, f_X12_no, hp0, m_isPerson, m_isPlaceAt, eg]
      · rw [if_neg u] at ew
        simp only [bIF u] at eg
        have i5 : 0 ≤ b (58 + x) ∧ b (58 + x) < b 0 ∧ b (66 + x) = -1 := by omega
        clear ez
        have gp := hg.1 x w.1 w.2
        unfold GP at gp
        have g5 : g x 0 5 = b (58 + x) := by omega
        clear gp
        by_cases at0 : b (58 + x) = y
        · refine sc_no (c := f_X11_soonestFirst n 0 (zI x) (zI y)) (m := f_X12_soonestFirst n 227 (zI x) (zI y)) hO2 (r := zI (-1)) (s := zI 9) ?_ (fun X => ?_)
          · unfold f_X11_soonestFirst f_X11_whyNoWay
            simp (disch := first | omega | assumption) only [↓lt, Option.bind_some, zl, ll, zadd, zsub, zmul, zneg, ladd, lsub, lmul, lneg, zltT, zltF, zleT, zleF, zeqT, zeqF, zidx, ixT, zwide, bIT, bIF, if_true, if_false, ↓reduceIte, Nat.reduceAdd, Int.reduceAdd, Int.reduceMul, Int.reduceSub, Int.reduceNeg, cs_c, cs_o, cs_2, cu_c, cu_o, Int.cast_ofNat_Int, ps_f, ps_g, ps_w, ps_o, ps_2, pu_f, pu_g, pu_w, pu_o, uI_s, uI_o, uI_j, uI_j1, uI_j2, uI_tw, or0, true_or, or_true, false_or, or_false, nar0, nar1, f_X11_tell, f_X11_refuse, f_X11_tellIf, f_X11_tellOrNone, f_X11_tellSooner, f_X11_deny, f_X11_succeed, f_X12_refuse, f_X12_no, hp0, c_hasPlace hL, ew, g5]
          · unfold f_X12_soonestFirst f_X12_whyNotSoon
            simp (disch := first | omega | assumption) only [↓lt, Option.bind_some, zl, ll, zadd, zsub, zmul, zneg, ladd, lsub, lmul, lneg, zltT, zltF, zleT, zleF, zeqT, zeqF, zidx, ixT, zwide, bIT, bIF, if_true, if_false, ↓reduceIte, Nat.reduceAdd, Int.reduceAdd, Int.reduceMul, Int.reduceSub, Int.reduceNeg, cs_c, cs_o, cs_2, cu_c, cu_o, Int.cast_ofNat_Int, ps_f, ps_g, ps_w, ps_o, ps_2, pu_f, pu_g, pu_w, pu_o, uI_s, uI_o, uI_j, uI_j1, uI_j2, uI_tw, or0, true_or, or_true, false_or, or_false, nar0, nar1, f_X11_tell, f_X11_refuse, f_X11_tellIf, f_X11_tellOrNone, f_X11_tellSooner, f_X11_deny, f_X11_succeed, f_X12_refuse, f_X12_no, hp0, m_isPerson, m_isPlaceAt, eg]
        · have ec := c_minutesTo (n := n) (M := M) (g := g) (q := -1) hL hl hg hb hm w.1 w.2 i5.2.2 (Or.inl rfl) v.1 v.2 (by omega)
          have em := fun X => m_laysWhen (n := n) (a := 236) (X := X) (p := x) (q := -1) (f := b (58 + x)) (s := b 5) (by decide) hb w.1 w.2 (Or.inl rfl) i5.1 i5.2.1 hi.2.2.2.2 (by omega) (by omega)
          have tv := TT_v (p := x) (q := -1) (f := b (58 + x)) (s := b 5) (j := y) hb (by omega) (by omega) v.1 (by omega)
          by_cases k : TT b x (-1) (b (58 + x)) (b 5) y < 1000000000
          · rw [if_pos k] at ec
            have nk : nT (TT b x (-1) (b (58 + x)) (b 5)) y = TT b x (-1) (b (58 + x)) (b 5) y := if_pos k
            obtain ⟨U1, f1⟩ := c_firstL (g := g) hL hl hg hb hm w.1 w.2 i5.2.2 v.1 v.2 k (b 0).toNat 0 (TT b x (-1) (b (58 + x)) (b 5)) n (by omega) (by omega) (by omega)
            have fr := fst_r (P := fsP b x y) (b 0).toNat 0 (by omega)
            have f2 := fun X => m_firstL (X := X) (κ := fun (M25 : KM) => some (zI (-1), uI M25 227 0 (zI 8))) hb hm w.1 w.2 v.1 v.2 k (b 0).toNat 0 (fun z => (X.1 237 z.toNat).toInt) n (by omega) (by omega) (by omega)
            simp only [← rs_ex] at f2
            generalize hF : fstI (fsP b x y) (b 0).toNat 0 = F at *
            generalize TT b x (-1) (b (58 + x)) (b 5) = T at *
            by_cases kf : F = -1
            · subst kf
              refine ⟨zI (-1), zI 8, uI (rs M 15 U1) 0 15 (zI 8), ?_, uI_s, SC_of hP rfl (fun a k h1 h2 => by rw [uI_o h1, rs_o (by omega)]), fun X => ?_⟩
              · unfold f_X11_soonestFirst f_X11_whyNoWay f_X6_firstPlaceTo
                simp (disch := first | omega | assumption) only [↓lt, Option.bind_some, zl, ll, zadd, zsub, zmul, zneg, ladd, lsub, lmul, lneg, zltT, zltF, zleT, zleF, zeqT, zeqF, zidx, ixT, zwide, bIT, bIF, if_true, if_false, ↓reduceIte, Nat.reduceAdd, Int.reduceAdd, Int.reduceMul, Int.reduceSub, Int.reduceNeg, cs_c, cs_o, cs_2, cu_c, cu_o, Int.cast_ofNat_Int, ps_f, ps_g, ps_w, ps_o, ps_2, pu_f, pu_g, pu_w, pu_o, uI_s, uI_o, uI_j, uI_j1, uI_j2, uI_tw, or0, true_or, or_true, false_or, or_false, nar0, nar1, f_X11_tell, f_X11_refuse, f_X11_tellIf, f_X11_tellOrNone, f_X11_tellSooner, f_X11_deny, f_X11_succeed, f_X12_refuse, f_X12_no, hp0, c_hasPlace hL, ew, ec, g5, f1]
              · obtain ⟨U2, f3⟩ := f2 (rs (uI (uI X 227 1 (zI 0)) 227 0 (zI 0)) 236 (nT T))
                rw [if_pos rfl] at f3
                refine ⟨uI (rs (rs (uI (uI X 227 1 (zI 0)) 227 0 (zI 0)) 236 (nT T)) 237 U2) 227 0 (zI 8), ?_, uI_s, SM_tr (SM_tr (SM_tr SM_st (SM_rs (Or.inl rfl))) (SM_rs (Or.inr rfl))) SM_s⟩
                unfold f_X12_soonestFirst f_X12_whyNotSoon
                simp (disch := first | omega | assumption) only [↓lt, Option.bind_some, zl, ll, zadd, zsub, zmul, zneg, ladd, lsub, lmul, lneg, zltT, zltF, zleT, zleF, zeqT, zeqF, zidx, ixT, zwide, bIT, bIF, if_true, if_false, ↓reduceIte, Nat.reduceAdd, Int.reduceAdd, Int.reduceMul, Int.reduceSub, Int.reduceNeg, cs_c, cs_o, cs_2, cu_c, cu_o, Int.cast_ofNat_Int, ps_f, ps_g, ps_w, ps_o, ps_2, pu_f, pu_g, pu_w, pu_o, uI_s, uI_o, uI_j, uI_j1, uI_j2, uI_tw, or0, true_or, or_true, false_or, or_false, nar0, nar1, f_X11_tell, f_X11_refuse, f_X11_tellIf, f_X11_tellOrNone, f_X11_tellSooner, f_X11_deny, f_X11_succeed, f_X12_refuse, f_X12_no, hp0, m_isPerson, m_isPlaceAt, eg, em, rs_s, rs_o, nk, f3]
            · have bF : 0 ≤ F ∧ F < 8 := by omega
              refine ⟨zI F, zI 0, uI (rs M 15 U1) 0 15 (zI 0), ?_, uI_s, SC_of hP rfl (fun a k h1 h2 => by rw [uI_o h1, rs_o (by omega)]), fun X => ?_⟩
              · unfold f_X11_soonestFirst f_X11_whyNoWay f_X6_firstPlaceTo
                clear fr
                simp (disch := first | omega | assumption) only [↓lt, Option.bind_some, zl, ll, zadd, zsub, zmul, zneg, ladd, lsub, lmul, lneg, zltT, zltF, zleT, zleF, zeqT, zeqF, zidx, ixT, zwide, bIT, bIF, if_true, if_false, ↓reduceIte, Nat.reduceAdd, Int.reduceAdd, Int.reduceMul, Int.reduceSub, Int.reduceNeg, cs_c, cs_o, cs_2, cu_c, cu_o, Int.cast_ofNat_Int, ps_f, ps_g, ps_w, ps_o, ps_2, pu_f, pu_g, pu_w, pu_o, uI_s, uI_o, uI_j, uI_j1, uI_j2, uI_tw, or0, true_or, or_true, false_or, or_false, nar0, nar1, f_X11_tell, f_X11_refuse, f_X11_tellIf, f_X11_tellOrNone, f_X11_tellSooner, f_X11_deny, f_X11_succeed, f_X12_refuse, f_X12_no, hp0, c_hasPlace hL, ew, ec, g5, f1]
              · obtain ⟨U2, f3⟩ := f2 (rs (uI (uI X 227 1 (zI 0)) 227 0 (zI 0)) 236 (nT T))
                rw [if_neg kf] at f3
                refine ⟨rs (rs (uI (uI X 227 1 (zI 0)) 227 0 (zI 0)) 236 (nT T)) 237 U2, ?_, by rw [rs_o (by decide), rs_o (by decide), uI_s], SM_tr (SM_tr SM_st (SM_rs (Or.inl rfl))) (SM_rs (Or.inr rfl))⟩
                unfold f_X12_soonestFirst f_X12_whyNotSoon
                simp (disch := first | omega | assumption) only [↓lt, Option.bind_some, zl, ll, zadd, zsub, zmul, zneg, ladd, lsub, lmul, lneg, zltT, zltF, zleT, zleF, zeqT, zeqF, zidx, ixT, zwide, bIT, bIF, if_true, if_false, ↓reduceIte, Nat.reduceAdd, Int.reduceAdd, Int.reduceMul, Int.reduceSub, Int.reduceNeg, cs_c, cs_o, cs_2, cu_c, cu_o, Int.cast_ofNat_Int, ps_f, ps_g, ps_w, ps_o, ps_2, pu_f, pu_g, pu_w, pu_o, uI_s, uI_o, uI_j, uI_j1, uI_j2, uI_tw, or0, true_or, or_true, false_or, or_false, nar0, nar1, f_X11_tell, f_X11_refuse, f_X11_tellIf, f_X11_tellOrNone, f_X11_tellSooner, f_X11_deny, f_X11_succeed, f_X12_refuse, f_X12_no, hp0, m_isPerson, m_isPlaceAt, eg, em, rs_s, rs_o, nk, f3]
          · rw [if_neg k] at ec
            have nk : nT (TT b x (-1) (b (58 + x)) (b 5)) y = -1 := if_neg k
            obtain ⟨m, rfl⟩ : ∃ m, n = m + 1 := ⟨n - 1, by omega⟩
            generalize TT b x (-1) (b (58 + x)) (b 5) = T at *
            have q0 : M.1 L 8 = zI (b 0) := hM.1
            have j1 : 1 ≤ b 0 := by omega
            refine ⟨zI (-1), zI 8, uI (rs M 15 T) 0 15 (zI 8), ?_, uI_s, SC_of hP rfl (fun a k h1 h2 => by rw [uI_o h1, rs_o (by omega)]), fun X => ⟨uI (rs (uI (uI X 227 1 (zI 0)) 227 0 (zI 0)) 236 (nT T)) 227 0 (zI 8), ?_, uI_s, SM_tr (SM_tr SM_st (SM_rs (Or.inl rfl))) SM_s⟩⟩
            · unfold f_X11_soonestFirst f_X11_whyNoWay f_X6_firstPlaceTo
              simp (disch := first | omega | assumption) only [↓lt, Option.bind_some, zl, ll, zadd, zsub, zmul, zneg, ladd, lsub, lmul, lneg, zltT, zltF, zleT, zleF, zeqT, zeqF, zidx, ixT, zwide, bIT, bIF, if_true, if_false, ↓reduceIte, Nat.reduceAdd, Int.reduceAdd, Int.reduceMul, Int.reduceSub, Int.reduceNeg, cs_c, cs_o, cs_2, cu_c, cu_o, Int.cast_ofNat_Int, ps_f, ps_g, ps_w, ps_o, ps_2, pu_f, pu_g, pu_w, pu_o, uI_s, uI_o, uI_j, uI_j1, uI_j2, uI_tw, or0, true_or, or_true, false_or, or_false, nar0, nar1, f_X11_tell, f_X11_refuse, f_X11_tellIf, f_X11_tellOrNone, f_X11_tellSooner, f_X11_deny, f_X11_succeed, f_X12_refuse, f_X12_no, hp0, c_hasPlace hL, ew, ec, g5]
              rw [lp_X6_firstPlaceTo_24]
              simp (disch := first | omega | assumption) only [↓lt, Option.bind_some, zl, ll, zadd, zsub, zmul, zneg, ladd, lsub, lmul, lneg, zltT, zltF, zleT, zleF, zeqT, zeqF, zidx, ixT, zwide, bIT, bIF, if_true, if_false, ↓reduceIte, Nat.reduceAdd, Int.reduceAdd, Int.reduceMul, Int.reduceSub, Int.reduceNeg, cs_c, cs_o, cs_2, cu_c, cu_o, Int.cast_ofNat_Int, ps_f, ps_g, ps_w, ps_o, ps_2, pu_f, pu_g, pu_w, pu_o, uI_s, uI_o, uI_j, uI_j1, uI_j2, uI_tw, or0, true_or, or_true, false_or, or_false, nar0, nar1, f_X11_tell, f_X11_refuse, f_X11_tellIf, f_X11_tellOrNone, f_X11_tellSooner, f_X11_deny, f_X11_succeed, f_X12_refuse, f_X12_no, hp0, rs_o, q0]
            · unfold f_X12_soonestFirst f_X12_whyNotSoon
              simp (disch := first | omega | assumption) only [↓lt, Option.bind_some, zl, ll, zadd, zsub, zmul, zneg, ladd, lsub, lmul, lneg, zltT, zltF, zleT, zleF, zeqT, zeqF, zidx, ixT, zwide, bIT, bIF, if_true, if_false, ↓reduceIte, Nat.reduceAdd, Int.reduceAdd, Int.reduceMul, Int.reduceSub, Int.reduceNeg, cs_c, cs_o, cs_2, cu_c, cu_o, Int.cast_ofNat_Int, ps_f, ps_g, ps_w, ps_o, ps_2, pu_f, pu_g, pu_w, pu_o, uI_s, uI_o, uI_j, uI_j1, uI_j2, uI_tw, or0, true_or, or_true, false_or, or_false, nar0, nar1, f_X11_tell, f_X11_refuse, f_X11_tellIf, f_X11_tellOrNone, f_X11_tellSooner, f_X11_deny, f_X11_succeed, f_X12_refuse, f_X12_no, hp0, m_isPerson, m_isPlaceAt, eg, em, rs_s, rs_o, nk]
              rw [lp_X12_soonestFirst_79]
              simp (disch := first | omega | assumption) only [↓lt, Option.bind_some, zl, ll, zadd, zsub, zmul, zneg, ladd, lsub, lmul, lneg, zltT, zltF, zleT, zleF, zeqT, zeqF, zidx, ixT, zwide, bIT, bIF, if_true, if_false, ↓reduceIte, Nat.reduceAdd, Int.reduceAdd, Int.reduceMul, Int.reduceSub, Int.reduceNeg, cs_c, cs_o, cs_2, cu_c, cu_o, Int.cast_ofNat_Int, ps_f, ps_g, ps_w, ps_o, ps_2, pu_f, pu_g, pu_w, pu_o, uI_s, uI_o, uI_j, uI_j1, uI_j2, uI_tw, or0, true_or, or_true, false_or, or_false, nar0, nar1, f_X11_tell, f_X11_refuse, f_X11_tellIf, f_X11_tellOrNone, f_X11_tellSooner, f_X11_deny, f_X11_succeed, f_X12_refuse, f_X12_no, hp0]
    · refine sc_no (c := f_X11_soonestFirst n 0 (zI x) (zI y)) (m := f_X12_soonestFirst n 227 (zI x) (zI y)) hO2 (r := zI (-1)) (s := zI 2) ?_ (fun X => ?_)
      · unfold f_X11_soonestFirst f_X11_whyNoWay
        simp (disch := first | omega | assumption) only [↓lt, Option.bind_some, zl, ll, zadd, zsub, zmul, zneg, ladd, lsub, lmul, lneg, zltT, zltF, zleT, zleF, zeqT, zeqF, zidx, ixT, zwide, bIT, bIF, if_true, if_false, ↓reduceIte, Nat.reduceAdd, Int.reduceAdd, Int.reduceMul, Int.reduceSub, Int.reduceNeg, cs_c, cs_o, cs_2, cu_c, cu_o, Int.cast_ofNat_Int, ps_f, ps_g, ps_w, ps_o, ps_2, pu_f, pu_g, pu_w, pu_o, uI_s, uI_o, uI_j, uI_j1, uI_j2, uI_tw, or0, true_or, or_true, false_or, or_false, nar0, nar1, f_X11_tell, f_X11_refuse, f_X11_tellIf, f_X11_tellOrNone, f_X11_tellSooner, f_X11_deny, f_X11_succeed, f_X12_refuse, f_X12_no, hp0, c_hasPlace hL]
      · unfold f_X12_soonestFirst f_X12_whyNotSoon
        simp (disch := first | omega | assumption) only [↓lt, Option.bind_some, zl, ll, zadd, zsub, zmul, zneg, ladd, lsub, lmul, lneg, zltT, zltF, zleT, zleF, zeqT, zeqF, zidx, ixT, zwide, bIT, bIF, if_true, if_false, ↓reduceIte, Nat.reduceAdd, Int.reduceAdd, Int.reduceMul, Int.reduceSub, Int.reduceNeg, cs_c, cs_o, cs_2, cu_c, cu_o, Int.cast_ofNat_Int, ps_f, ps_g, ps_w, ps_o, ps_2, pu_f, pu_g, pu_w, pu_o, uI_s, uI_o, uI_j, uI_j1, uI_j2, uI_tw, or0, true_or, or_true, false_or, or_false, nar0, nar1, f_X11_tell, f_X11_refuse, f_X11_tellIf, f_X11_tellOrNone, f_X11_tellSooner, f_X11_deny, f_X11_succeed, f_X12_refuse, f_X12_no, hp0, m_isPerson, m_isPlaceAt]
  · rw [if_neg w] at ew
    refine sc_no (c := f_X11_soonestFirst n 0 (zI x) (zI y)) (m := f_X12_soonestFirst n 227 (zI x) (zI y)) hO2 (r := zI (-1)) (s := zI 2) ?_ (fun X => ?_)
    · unfold f_X11_soonestFirst f_X11_whyNoWay
      by_cases v : 0 ≤ y ∧ y < b 0
      · simp (disch := first | omega | assumption) only [↓lt, Option.bind_some, zl, ll, zadd, zsub, zmul, zneg, ladd, lsub, lmul, lneg, zltT, zltF, zleT, zleF, zeqT, zeqF, zidx, ixT, zwide, bIT, bIF, if_true, if_false, ↓reduceIte, Nat.reduceAdd, Int.reduceAdd, Int.reduceMul, Int.reduceSub, Int.reduceNeg, cs_c, cs_o, cs_2, cu_c, cu_o, Int.cast_ofNat_Int, ps_f, ps_g, ps_w, ps_o, ps_2, pu_f, pu_g, pu_w, pu_o, uI_s, uI_o, uI_j, uI_j1, uI_j2, uI_tw, or0, true_or, or_true, false_or, or_false, nar0, nar1, f_X11_tell, f_X11_refuse, f_X11_tellIf, f_X11_tellOrNone, f_X11_tellSooner, f_X11_deny, f_X11_succeed, f_X12_refuse, f_X12_no, hp0, c_hasPlace hL, ew]
      · simp (disch := first | omega | assumption) only [↓lt, Option.bind_some, zl, ll, zadd, zsub, zmul, zneg, ladd, lsub, lmul, lneg, zltT, zltF, zleT, zleF, zeqT, zeqF, zidx, ixT, zwide, bIT, bIF, if_true, if_false, ↓reduceIte, Nat.reduceAdd, Int.reduceAdd, Int.reduceMul, Int.reduceSub, Int.reduceNeg, cs_c, cs_o, cs_2, cu_c, cu_o, Int.cast_ofNat_Int, ps_f, ps_g, ps_w, ps_o, ps_2, pu_f, pu_g, pu_w, pu_o, uI_s, uI_o, uI_j, uI_j1, uI_j2, uI_tw, or0, true_or, or_true, false_or, or_false, nar0, nar1, f_X11_tell, f_X11_refuse, f_X11_tellIf, f_X11_tellOrNone, f_X11_tellSooner, f_X11_deny, f_X11_succeed, f_X12_refuse, f_X12_no, hp0, c_hasPlace hL]
    · unfold f_X12_soonestFirst f_X12_whyNotSoon
      simp (disch := first | omega | assumption) only [↓lt, Option.bind_some, zl, ll, zadd, zsub, zmul, zneg, ladd, lsub, lmul, lneg, zltT, zltF, zleT, zleF, zeqT, zeqF, zidx, ixT, zwide, bIT, bIF, if_true, if_false, ↓reduceIte, Nat.reduceAdd, Int.reduceAdd, Int.reduceMul, Int.reduceSub, Int.reduceNeg, cs_c, cs_o, cs_2, cu_c, cu_o, Int.cast_ofNat_Int, ps_f, ps_g, ps_w, ps_o, ps_2, pu_f, pu_g, pu_w, pu_o, uI_s, uI_o, uI_j, uI_j1, uI_j2, uI_tw, or0, true_or, or_true, false_or, or_false, nar0, nar1, f_X11_tell, f_X11_refuse, f_X11_tellIf, f_X11_tellOrNone, f_X11_tellSooner, f_X11_deny, f_X11_succeed, f_X12_refuse, f_X12_no, hp0, m_isPerson]
