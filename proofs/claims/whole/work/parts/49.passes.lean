/-! ===== passes: both alike ===== -/
theorem HL_cI {b : Int → Int} {N : Int} {L : Nat} {M : KM} {v : Int32} (hb : WB b) (hL : HL M L b) (hl : 23 ≤ L) : HL (uI (uI M L 11 (zI (b 5 + N))) 0 15 v) L (cI b N) := by
  have hh := hb.1
  unfold WH at hh
  have o : ∀ z, z < 58 → ¬ z = 5 → cI b N z = b z := fun z h h5 => cI_o (by omega) h5
  have i1 : b 1 ≤ 12 := by omega
  clear hh
  obtain ⟨q0, q1, q2, q5, q6, q7, q8, q9, q3, q4, qd, qa, qb, qc, qs⟩ := hL
  unfold HL
  rw [o 0 (by omega) (by omega), o 1 (by omega) (by omega), o 2 (by omega) (by omega), o 3 (by omega) (by omega), o 4 (by omega) (by omega), o 6 (by omega) (by omega), o 7 (by omega) (by omega), o 8 (by omega) (by omega), o 9 (by omega) (by omega), cI_5]
  refine ⟨?_, ?_, ?_, ?_, ?_, ?_, ?_, ?_, ?_, ?_, ?_, fun r u w => ?_, fun r u w => ?_, fun r u w => ?_, fun r u w => ?_⟩
  · rw [uI_o (by omega), uI_o (by omega)]; exact q0
  · rw [uI_o (by omega), uI_o (by omega)]; exact q1
  · rw [uI_o (by omega), uI_o (by omega)]; exact q2
  · rw [uI_o (by omega), uI_s]
  · rw [uI_o (by omega), uI_o (by omega)]; exact q6
  · rw [uI_o (by omega), uI_o (by omega)]; exact q7
  · rw [uI_o (by omega), uI_o (by omega)]; exact q8
  · rw [uI_o (by omega), uI_o (by omega)]; exact q9
  · rw [uI_o (by omega), uI_o (by omega)]; exact q3
  · rw [uI_o (by omega), uI_o (by omega)]; exact q4
  · rw [uI_o (by omega), uI_o (by omega)]; exact qd
  · rw [uI_o (by omega), uI_o (by omega), o (10 + r) (by omega) (by omega)]; exact qa r u w
  · rw [uI_o (by omega), uI_o (by omega), o (22 + r) (by omega) (by omega)]; exact qb r u w
  · rw [uI_o (by omega), uI_o (by omega), o (34 + r) (by omega) (by omega)]; exact qc r u w
  · rw [uI_o (by omega), uI_o (by omega), o (46 + r) (by omega) (by omega)]; exact qs r u w
theorem sb8_ne : ∀ p0 p1 p2 p3 p4 p5 p6 p7 : Bool, ¬ sb8 p0 p1 p2 p3 p4 p5 p6 p7 = -zI 1 := by decide +kernel
theorem aS_ne {b : Int → Int} {N : Int} : ¬ aS b N = -zI 1 := by
  unfold aS
  rw [sb8_of]
  exact sb8_ne _ _ _ _ _ _ _ _
theorem k_passes (p : Int32) (n : Nat) (hn : 1200 ≤ n) : OKm (f_X11_passes n 0 p) (f_X12_passes n 227 p) := by
  obtain ⟨x, hx1, hx2, rfl⟩ := z_ex p
  refine ok_wr (fun M L g b hO => ?_)
  have hO2 := hO
  obtain ⟨hP, hL, hg, hb, hm, hC⟩ := hO
  have hp0 : M.2.2 0 10 = L := hP.1
  have hl := Ptr_L hP
  have hq := Ptr_P hP
  have hLM := (HL_cs hl.2).mp hL
  have hh := hb.1
  unfold WH at hh
  have i5 : 0 ≤ b 5 := by omega
  have q5 : M.1 L 11 = zI (b 5) := hLM.2.2.2.1
  clear hC hh
  by_cases w : 1 ≤ x ∧ x ≤ 999
  · by_cases w2 : b 5 + x ≤ 99999
    · have e := c_passMinutes (n := n) hL hg hb w2 w.1 w.2 (by omega)
      have en := aS_ne (b := b) (N := x)
      refine ⟨aS b x, zI 0, uI (uI M L 11 (zI (b 5 + x))) 0 15 (zI 0), gC g b x (AG b) (AG b), cI b x, ?_, fun X => ?_, uI_s, rfl, fun a k h => ?_, fun a k h => rfl, HL_cI hb hLM hl.1, GR_c hg hb, WB_cI' hb (by omega) (by omega), ?_, fun z h1 h2 => cI_o (by omega) (by omega), cI_o (by omega) (by omega), cI_o (by omega) (by omega)⟩
      · unfold f_X11_passes
        simp (disch := first | omega | assumption) only [↓lt, Option.bind_some, zl, zltF, zleT, if_false, if_true, ps_2, cs_2, hp0, e, en, f_X11_tell, pu_o, cu_o]
      · obtain ⟨Y, e1, e2, e3⟩ := m_passes (X := X) (n := n) hb w.1 w.2 w2 hn
        exact ⟨Y, e1, e3, e2⟩
      · have hk := KI_out hq h
        have : ¬ (a = L ∧ k = 11) := fun z => hk.2.1 (by omega)
        rw [uI_o hk.2.2.2, uI_o this]
      · rw [cI_5]; exact w2
    · refine wr_no (c := f_X11_passes n 0 (zI x)) (m := f_X12_passes n 227 (zI x)) hO2 (r := zI (-1)) (s := zI 7) ?_ (fun X => ?_)
      · unfold f_X11_passes f_X2_passMinutes
        simp (disch := first | omega | assumption) only [↓lt, Option.bind_some, zl, ll, zadd, zsub, zmul, zneg, ladd, lsub, lmul, lneg, zltT, zltF, zleT, zleF, zeqT, zeqF, zidx, ixT, zwide, bIT, bIF, if_true, if_false, ↓reduceIte, Nat.reduceAdd, Int.reduceAdd, Int.reduceMul, Int.reduceSub, Int.reduceNeg, cs_c, cs_o, cs_2, cu_c, cu_o, Int.cast_ofNat_Int, ps_f, ps_g, ps_w, ps_o, ps_2, pu_f, pu_g, pu_w, pu_o, uI_s, uI_o, uI_j, uI_j1, uI_j2, uI_tw, or0, true_or, or_true, false_or, or_false, nar0, nar1, f_X11_tell, f_X11_refuse, f_X11_tellIf, f_X11_tellOrNone, f_X11_deny, f_X11_succeed, f_X12_refuse, f_X12_no, hp0, q5]
      · unfold f_X12_passes
        simp (disch := first | omega | assumption) only [↓lt, Option.bind_some, zl, ll, zadd, zsub, zmul, zneg, ladd, lsub, lmul, lneg, zltT, zltF, zleT, zleF, zeqT, zeqF, zidx, ixT, zwide, bIT, bIF, if_true, if_false, ↓reduceIte, Nat.reduceAdd, Int.reduceAdd, Int.reduceMul, Int.reduceSub, Int.reduceNeg, cs_c, cs_o, cs_2, cu_c, cu_o, Int.cast_ofNat_Int, ps_f, ps_g, ps_w, ps_o, ps_2, pu_f, pu_g, pu_w, pu_o, uI_s, uI_o, uI_j, uI_j1, uI_j2, uI_tw, or0, true_or, or_true, false_or, or_false, nar0, nar1, f_X11_tell, f_X11_refuse, f_X11_tellIf, f_X11_tellOrNone, f_X11_deny, f_X11_succeed, f_X12_refuse, f_X12_no, m_isIn]
  · refine wr_no (c := f_X11_passes n 0 (zI x)) (m := f_X12_passes n 227 (zI x)) hO2 (r := zI (-1)) (s := zI 5) ?_ (fun X => ?_)
    · unfold f_X11_passes
      by_cases v : x < 1
      · simp (disch := first | omega | assumption) only [↓lt, Option.bind_some, zl, ll, zadd, zsub, zmul, zneg, ladd, lsub, lmul, lneg, zltT, zltF, zleT, zleF, zeqT, zeqF, zidx, ixT, zwide, bIT, bIF, if_true, if_false, ↓reduceIte, Nat.reduceAdd, Int.reduceAdd, Int.reduceMul, Int.reduceSub, Int.reduceNeg, cs_c, cs_o, cs_2, cu_c, cu_o, Int.cast_ofNat_Int, ps_f, ps_g, ps_w, ps_o, ps_2, pu_f, pu_g, pu_w, pu_o, uI_s, uI_o, uI_j, uI_j1, uI_j2, uI_tw, or0, true_or, or_true, false_or, or_false, nar0, nar1, f_X11_tell, f_X11_refuse, f_X11_tellIf, f_X11_tellOrNone, f_X11_deny, f_X11_succeed, f_X12_refuse, f_X12_no]
      · simp (disch := first | omega | assumption) only [↓lt, Option.bind_some, zl, ll, zadd, zsub, zmul, zneg, ladd, lsub, lmul, lneg, zltT, zltF, zleT, zleF, zeqT, zeqF, zidx, ixT, zwide, bIT, bIF, if_true, if_false, ↓reduceIte, Nat.reduceAdd, Int.reduceAdd, Int.reduceMul, Int.reduceSub, Int.reduceNeg, cs_c, cs_o, cs_2, cu_c, cu_o, Int.cast_ofNat_Int, ps_f, ps_g, ps_w, ps_o, ps_2, pu_f, pu_g, pu_w, pu_o, uI_s, uI_o, uI_j, uI_j1, uI_j2, uI_tw, or0, true_or, or_true, false_or, or_false, nar0, nar1, f_X11_tell, f_X11_refuse, f_X11_tellIf, f_X11_tellOrNone, f_X11_deny, f_X11_succeed, f_X12_refuse, f_X12_no]
    · unfold f_X12_passes
      simp (disch := first | omega | assumption) only [↓lt, Option.bind_some, zl, ll, zadd, zsub, zmul, zneg, ladd, lsub, lmul, lneg, zltT, zltF, zleT, zleF, zeqT, zeqF, zidx, ixT, zwide, bIT, bIF, if_true, if_false, ↓reduceIte, Nat.reduceAdd, Int.reduceAdd, Int.reduceMul, Int.reduceSub, Int.reduceNeg, cs_c, cs_o, cs_2, cu_c, cu_o, Int.cast_ofNat_Int, ps_f, ps_g, ps_w, ps_o, ps_2, pu_f, pu_g, pu_w, pu_o, uI_s, uI_o, uI_j, uI_j1, uI_j2, uI_tw, or0, true_or, or_true, false_or, or_false, nar0, nar1, f_X11_tell, f_X11_refuse, f_X11_tellIf, f_X11_tellOrNone, f_X11_deny, f_X11_succeed, f_X12_refuse, f_X12_no, m_isIn]
