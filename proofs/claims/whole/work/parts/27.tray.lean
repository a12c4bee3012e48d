/-! ===== read, write, copyPlaces ===== -/
def plS (m x y : Int) : Int := if 0 ≤ x ∧ x < 4 then (if m < 0 then 3 else if 0 ≤ y ∧ y < m then 0 else 4) else 1
theorem c_whyNotInTray {x y m : Int} {L n : Nat} {M : KM} {g : Int → Int → Int → Int} {b : Int → Int} (hl : 23 ≤ L ∧ L ≤ 61) (h1 : -2147483648 ≤ x) (h2 : x < 2147483648) (h3 : -2147483648 ≤ y) (h4 : y < 2147483648) (hm : 0 ≤ x → x < 4 → M.1 (0 + 1 + 104 + 2 * x.toNat) 2 = zI m) (hm1 : -1 ≤ m) (hm2 : m ≤ 60) : f_X11_whyNotInTray n 0 (zI x) (zI y) (ps (cs M b) L g) = some (zI (plS m x y)) := by
  unfold f_X11_whyNotInTray f_X10_isMissing f_X10_hasRun plS
  by_cases w1 : 0 ≤ x ∧ x < 4
  · have hm := hm w1.1 w1.2
    rw [if_pos w1]
    by_cases w2 : m < 0
    · rw [if_pos w2]
      simp (disch := first | omega | assumption) only [↓lt, Option.bind_some, zl, ll, zadd, zsub, zmul, zneg, ladd, lsub, lmul, lneg, zltT, zltF, zleT, zleF, zeqT, zeqF, zidx, ixT, zwide, bIT, bIF, if_true, if_false, ↓reduceIte, Nat.reduceAdd, Int.reduceAdd, Int.reduceMul, Int.reduceSub, Int.reduceNeg, cs_c, cs_o, cs_2, cu_c, cu_o, Int.cast_ofNat_Int, ps_f, ps_g, ps_w, ps_o, ps_2, pu_f, pu_g, pu_w, pu_o, uI_s, uI_o, uI_j, uI_j1, uI_j2, uI_tw, or0, true_or, or_true, false_or, or_false, nar0, nar1, c_isTray, hm]
    · rw [if_neg w2]
      by_cases w3 : 0 ≤ y ∧ y < m
      · rw [if_pos w3]
        simp (disch := first | omega | assumption) only [↓lt, Option.bind_some, zl, ll, zadd, zsub, zmul, zneg, ladd, lsub, lmul, lneg, zltT, zltF, zleT, zleF, zeqT, zeqF, zidx, ixT, zwide, bIT, bIF, if_true, if_false, ↓reduceIte, Nat.reduceAdd, Int.reduceAdd, Int.reduceMul, Int.reduceSub, Int.reduceNeg, cs_c, cs_o, cs_2, cu_c, cu_o, Int.cast_ofNat_Int, ps_f, ps_g, ps_w, ps_o, ps_2, pu_f, pu_g, pu_w, pu_o, uI_s, uI_o, uI_j, uI_j1, uI_j2, uI_tw, or0, true_or, or_true, false_or, or_false, nar0, nar1, c_isTray, hm]
      · rw [if_neg w3]
        by_cases w4 : 0 ≤ y
        · by_cases w5 : y = m
          · simp (disch := first | omega | assumption) only [↓lt, Option.bind_some, zl, ll, zadd, zsub, zmul, zneg, ladd, lsub, lmul, lneg, zltT, zltF, zleT, zleF, zeqT, zeqF, zidx, ixT, zwide, bIT, bIF, if_true, if_false, ↓reduceIte, Nat.reduceAdd, Int.reduceAdd, Int.reduceMul, Int.reduceSub, Int.reduceNeg, cs_c, cs_o, cs_2, cu_c, cu_o, Int.cast_ofNat_Int, ps_f, ps_g, ps_w, ps_o, ps_2, pu_f, pu_g, pu_w, pu_o, uI_s, uI_o, uI_j, uI_j1, uI_j2, uI_tw, or0, true_or, or_true, false_or, or_false, nar0, nar1, c_isTray, hm]
          · simp (disch := first | omega | assumption) only [↓lt, Option.bind_some, zl, ll, zadd, zsub, zmul, zneg, ladd, lsub, lmul, lneg, zltT, zltF, zleT, zleF, zeqT, zeqF, zidx, ixT, zwide, bIT, bIF, if_true, if_false, ↓reduceIte, Nat.reduceAdd, Int.reduceAdd, Int.reduceMul, Int.reduceSub, Int.reduceNeg, cs_c, cs_o, cs_2, cu_c, cu_o, Int.cast_ofNat_Int, ps_f, ps_g, ps_w, ps_o, ps_2, pu_f, pu_g, pu_w, pu_o, uI_s, uI_o, uI_j, uI_j1, uI_j2, uI_tw, or0, true_or, or_true, false_or, or_false, nar0, nar1, c_isTray, hm]
        · simp (disch := first | omega | assumption) only [↓lt, Option.bind_some, zl, ll, zadd, zsub, zmul, zneg, ladd, lsub, lmul, lneg, zltT, zltF, zleT, zleF, zeqT, zeqF, zidx, ixT, zwide, bIT, bIF, if_true, if_false, ↓reduceIte, Nat.reduceAdd, Int.reduceAdd, Int.reduceMul, Int.reduceSub, Int.reduceNeg, cs_c, cs_o, cs_2, cu_c, cu_o, Int.cast_ofNat_Int, ps_f, ps_g, ps_w, ps_o, ps_2, pu_f, pu_g, pu_w, pu_o, uI_s, uI_o, uI_j, uI_j1, uI_j2, uI_tw, or0, true_or, or_true, false_or, or_false, nar0, nar1, c_isTray, hm]
  · rw [if_neg w1]
    simp (disch := first | omega | assumption) only [↓lt, Option.bind_some, zl, ll, zadd, zsub, zmul, zneg, ladd, lsub, lmul, lneg, zltT, zltF, zleT, zleF, zeqT, zeqF, zidx, ixT, zwide, bIT, bIF, if_true, if_false, ↓reduceIte, Nat.reduceAdd, Int.reduceAdd, Int.reduceMul, Int.reduceSub, Int.reduceNeg, cs_c, cs_o, cs_2, cu_c, cu_o, Int.cast_ofNat_Int, ps_f, ps_g, ps_w, ps_o, ps_2, pu_f, pu_g, pu_w, pu_o, uI_s, uI_o, uI_j, uI_j1, uI_j2, uI_tw, or0, true_or, or_true, false_or, or_false, nar0, nar1, c_isTray]
theorem m_placed {x y m : Int} {n : Nat} {X : KM} {b : Int → Int} (h1 : -2147483648 ≤ x) (h2 : x < 2147483648) (h3 : -2147483648 ≤ y) (h4 : y < 2147483648) (hm : 0 ≤ x → x < 4 → X.1 229 x.toNat = zI m) (hm1 : -1 ≤ m) (hm2 : m ≤ 60) : f_X12_placed n 227 (zI x) (zI y) (cs X b) = some (zI (plS m x y)) := by
  unfold f_X12_placed f_X12_trayed plS
  by_cases w1 : 0 ≤ x ∧ x < 4
  · have hm := hm w1.1 w1.2
    rw [if_pos w1]
    by_cases w2 : m < 0
    · rw [if_pos w2]
      simp (disch := first | omega | assumption) only [↓lt, Option.bind_some, zl, ll, zadd, zsub, zmul, zneg, ladd, lsub, lmul, lneg, zltT, zltF, zleT, zleF, zeqT, zeqF, zidx, ixT, zwide, bIT, bIF, if_true, if_false, ↓reduceIte, Nat.reduceAdd, Int.reduceAdd, Int.reduceMul, Int.reduceSub, Int.reduceNeg, cs_c, cs_o, cs_2, cu_c, cu_o, Int.cast_ofNat_Int, ps_f, ps_g, ps_w, ps_o, ps_2, pu_f, pu_g, pu_w, pu_o, uI_s, uI_o, uI_j, uI_j1, uI_j2, uI_tw, or0, true_or, or_true, false_or, or_false, nar0, nar1, hm]
    · rw [if_neg w2]
      by_cases w3 : 0 ≤ y ∧ y < m
      · rw [if_pos w3]
        simp (disch := first | omega | assumption) only [↓lt, Option.bind_some, zl, ll, zadd, zsub, zmul, zneg, ladd, lsub, lmul, lneg, zltT, zltF, zleT, zleF, zeqT, zeqF, zidx, ixT, zwide, bIT, bIF, if_true, if_false, ↓reduceIte, Nat.reduceAdd, Int.reduceAdd, Int.reduceMul, Int.reduceSub, Int.reduceNeg, cs_c, cs_o, cs_2, cu_c, cu_o, Int.cast_ofNat_Int, ps_f, ps_g, ps_w, ps_o, ps_2, pu_f, pu_g, pu_w, pu_o, uI_s, uI_o, uI_j, uI_j1, uI_j2, uI_tw, or0, true_or, or_true, false_or, or_false, nar0, nar1, hm]
      · rw [if_neg w3]
        by_cases w4 : 0 ≤ y
        · simp (disch := first | omega | assumption) only [↓lt, Option.bind_some, zl, ll, zadd, zsub, zmul, zneg, ladd, lsub, lmul, lneg, zltT, zltF, zleT, zleF, zeqT, zeqF, zidx, ixT, zwide, bIT, bIF, if_true, if_false, ↓reduceIte, Nat.reduceAdd, Int.reduceAdd, Int.reduceMul, Int.reduceSub, Int.reduceNeg, cs_c, cs_o, cs_2, cu_c, cu_o, Int.cast_ofNat_Int, ps_f, ps_g, ps_w, ps_o, ps_2, pu_f, pu_g, pu_w, pu_o, uI_s, uI_o, uI_j, uI_j1, uI_j2, uI_tw, or0, true_or, or_true, false_or, or_false, nar0, nar1, hm]
        · simp (disch := first | omega | assumption) only [↓lt, Option.bind_some, zl, ll, zadd, zsub, zmul, zneg, ladd, lsub, lmul, lneg, zltT, zltF, zleT, zleF, zeqT, zeqF, zidx, ixT, zwide, bIT, bIF, if_true, if_false, ↓reduceIte, Nat.reduceAdd, Int.reduceAdd, Int.reduceMul, Int.reduceSub, Int.reduceNeg, cs_c, cs_o, cs_2, cu_c, cu_o, Int.cast_ofNat_Int, ps_f, ps_g, ps_w, ps_o, ps_2, pu_f, pu_g, pu_w, pu_o, uI_s, uI_o, uI_j, uI_j1, uI_j2, uI_tw, or0, true_or, or_true, false_or, or_false, nar0, nar1, hm]
  · rw [if_neg w1]
    by_cases w2 : 0 ≤ x
    · simp (disch := first | omega | assumption) only [↓lt, Option.bind_some, zl, ll, zadd, zsub, zmul, zneg, ladd, lsub, lmul, lneg, zltT, zltF, zleT, zleF, zeqT, zeqF, zidx, ixT, zwide, bIT, bIF, if_true, if_false, ↓reduceIte, Nat.reduceAdd, Int.reduceAdd, Int.reduceMul, Int.reduceSub, Int.reduceNeg, cs_c, cs_o, cs_2, cu_c, cu_o, Int.cast_ofNat_Int, ps_f, ps_g, ps_w, ps_o, ps_2, pu_f, pu_g, pu_w, pu_o, uI_s, uI_o, uI_j, uI_j1, uI_j2, uI_tw, or0, true_or, or_true, false_or, or_false, nar0, nar1]
    · simp (disch := first | omega | assumption) only [↓lt, Option.bind_some, zl, ll, zadd, zsub, zmul, zneg, ladd, lsub, lmul, lneg, zltT, zltF, zleT, zleF, zeqT, zeqF, zidx, ixT, zwide, bIT, bIF, if_true, if_false, ↓reduceIte, Nat.reduceAdd, Int.reduceAdd, Int.reduceMul, Int.reduceSub, Int.reduceNeg, cs_c, cs_o, cs_2, cu_c, cu_o, Int.cast_ofNat_Int, ps_f, ps_g, ps_w, ps_o, ps_2, pu_f, pu_g, pu_w, pu_o, uI_s, uI_o, uI_j, uI_j1, uI_j2, uI_tw, or0, true_or, or_true, false_or, or_false, nar0, nar1]
theorem plS_r {m x y : Int} : plS m x y = 0 ∨ plS m x y = 1 ∨ plS m x y = 3 ∨ plS m x y = 4 := by
  unfold plS
  by_cases w1 : 0 ≤ x ∧ x < 4
  · rw [if_pos w1]
    by_cases w2 : m < 0
    · rw [if_pos w2]; omega
    · rw [if_neg w2]
      by_cases w3 : 0 ≤ y ∧ y < m
      · rw [if_pos w3]; omega
      · rw [if_neg w3]; omega
  · rw [if_neg w1]; omega
theorem plS_0 {m x y : Int} (h : plS m x y = 0) : 0 ≤ x ∧ x < 4 ∧ 0 ≤ y ∧ y < m := by
  unfold plS at h
  by_cases w1 : 0 ≤ x ∧ x < 4
  · rw [if_pos w1] at h
    by_cases w2 : m < 0
    · rw [if_pos w2] at h; omega
    · rw [if_neg w2] at h
      by_cases w3 : 0 ≤ y ∧ y < m
      · exact ⟨w1.1, w1.2, w3.1, w3.2⟩
      · rw [if_neg w3] at h; omega
  · rw [if_neg w1] at h; omega
theorem TR_m {M : KM} (h : TRs M) (x : Int) : ∃ m, -1 ≤ m ∧ m ≤ 60 ∧ (0 ≤ x → x < 4 → M.1 (0 + 1 + 104 + 2 * x.toNat) 2 = zI m) ∧ (0 ≤ x → x < 4 → M.1 229 x.toNat = zI m) ∧ (0 ≤ x → x < 4 → ∃ s, 0 ≤ s ∧ s ≤ 3 ∧ M.1 (0 + 1 + 104 + 2 * x.toNat) 1 = zI s ∧ M.1 228 x.toNat = zI s ∧ ∀ k : Int, 0 ≤ k → k < m → M.2.1 (0 + 1 + 104 + 2 * x.toNat + 1) k.toNat = M.2.1 230 (60 * x + k).toNat) := by
  by_cases w : 0 ≤ x ∧ x < 4
  · obtain ⟨s, m, c1, c2, c3, c4, c5, c6, c7, c8, c9⟩ := h x w.1 w.2
    exact ⟨m, c3, c4, fun _ _ => by rw [show 0 + 1 + 104 + 2 * x.toNat = 1 + 104 + 2 * x.toNat by omega]; exact c7, fun _ _ => c8, fun _ _ => ⟨s, c1, c2, by rw [show 0 + 1 + 104 + 2 * x.toNat = 1 + 104 + 2 * x.toNat by omega]; exact c5, c6, fun k u v => by rw [show 0 + 1 + 104 + 2 * x.toNat + 1 = 1 + 104 + 2 * x.toNat + 1 by omega]; exact c9 k u v⟩⟩
  · exact ⟨0, by omega, by omega, fun u v => absurd ⟨u, v⟩ w, fun u v => absurd ⟨u, v⟩ w, fun u v => absurd ⟨u, v⟩ w⟩
theorem k_read (p q : Int32) (n : Nat) (hn : 100 ≤ n) : OKm (f_X11_read n 0 p q) (f_X12_read n 227 p q) := by
  obtain ⟨x, hx1, hx2, rfl⟩ := z_ex p
  obtain ⟨y, hy1, hy2, rfl⟩ := z_ex q
  refine ok_ro2 (fun M L g b hO => ?_)
  obtain ⟨hP, hL, hg, hb, hm, hC⟩ := hO; have hp0 : M.2.2 0 10 = L := hP.1; have hl := Ptr_L hP; have hT := TR_at hl hC
  obtain ⟨m, m1, m2, m3, m4, m5⟩ := TR_m hT x
  have hr := plS_r (m := m) (x := x) (y := y)
  clear hb hg hL hm hT
  by_cases w : plS m x y = 0
  · have w2 := plS_0 w
    obtain ⟨s, s1, s2, s3, s4, s5⟩ := m5 w2.1 w2.2.1
    refine ⟨M.2.1 230 (60 * x + y).toNat, zI 0, ?_, fun X hX hJ => ?_⟩
    · unfold f_X11_read
      rw [c_whyNotInTray hl hx1 hx2 hy1 hy2 m3 m1 m2, w]
      simp (disch := first | omega | assumption) only [↓lt, Option.bind_some, zl, ll, zadd, zsub, zmul, zneg, ladd, lsub, lmul, lneg, zltT, zltF, zleT, zleF, zeqT, zeqF, zidx, ixT, zwide, bIT, bIF, if_true, if_false, ↓reduceIte, Nat.reduceAdd, Int.reduceAdd, Int.reduceMul, Int.reduceSub, Int.reduceNeg, cs_c, cs_o, cs_2, cu_c, cu_o, Int.cast_ofNat_Int, ps_f, ps_g, ps_w, ps_o, ps_2, pu_f, pu_g, pu_w, pu_o, uI_s, uI_o, uI_j, uI_j1, uI_j2, uI_tw, or0, true_or, or_true, false_or, or_false, nar0, nar1, f_X11_tell, f_X11_refuse, f_X11_tellIf, f_X11_tellOrNone, f_X11_deny, f_X11_succeed, f_X12_refuse, f_X12_no, hp0, s5]
    · have e : 0 ≤ x → x < 4 → (uI X 227 1 (zI 0)).1 229 x.toNat = zI m := fun u v => by
        rw [uI_o (by omega), hX 229 _ (by unfold KI; omega)]; exact m4 u v
      have e2 : X.2.1 230 (60 * x + y).toNat = M.2.1 230 (60 * x + y).toNat := hJ 230 _ (by unfold KJ; omega)
      unfold f_X12_read
      simp (disch := first | omega | assumption) only [↓lt, zl, cu_o, m_placed hx1 hx2 hy1 hy2 e m1 m2, w]
      simp (disch := first | omega | assumption) only [↓lt, Option.bind_some, zl, ll, zadd, zsub, zmul, zneg, ladd, lsub, lmul, lneg, zltT, zltF, zleT, zleF, zeqT, zeqF, zidx, ixT, zwide, bIT, bIF, if_true, if_false, ↓reduceIte, Nat.reduceAdd, Int.reduceAdd, Int.reduceMul, Int.reduceSub, Int.reduceNeg, cs_c, cs_o, cs_2, cu_c, cu_o, Int.cast_ofNat_Int, ps_f, ps_g, ps_w, ps_o, ps_2, pu_f, pu_g, pu_w, pu_o, uI_s, uI_o, uI_j, uI_j1, uI_j2, uI_tw, or0, true_or, or_true, false_or, or_false, nar0, nar1, e2]
  · refine ⟨lI (-1), zI (plS m x y), ?_, fun X hX hJ => ?_⟩
    · unfold f_X11_read
      rw [c_whyNotInTray hl hx1 hx2 hy1 hy2 m3 m1 m2]
      simp (disch := first | omega | assumption) only [↓lt, Option.bind_some, zl, ll, zadd, zsub, zmul, zneg, ladd, lsub, lmul, lneg, zltT, zltF, zleT, zleF, zeqT, zeqF, zidx, ixT, zwide, bIT, bIF, if_true, if_false, ↓reduceIte, Nat.reduceAdd, Int.reduceAdd, Int.reduceMul, Int.reduceSub, Int.reduceNeg, cs_c, cs_o, cs_2, cu_c, cu_o, Int.cast_ofNat_Int, ps_f, ps_g, ps_w, ps_o, ps_2, pu_f, pu_g, pu_w, pu_o, uI_s, uI_o, uI_j, uI_j1, uI_j2, uI_tw, or0, true_or, or_true, false_or, or_false, nar0, nar1, f_X11_tell, f_X11_refuse, f_X11_tellIf, f_X11_tellOrNone, f_X11_deny, f_X11_succeed, f_X12_refuse, f_X12_no, hp0]
    · have e : 0 ≤ x → x < 4 → (uI X 227 1 (zI 0)).1 229 x.toNat = zI m := fun u v => by
        rw [uI_o (by omega), hX 229 _ (by unfold KI; omega)]; exact m4 u v
      unfold f_X12_read
      simp (disch := first | omega | assumption) only [↓lt, zl, cu_o, m_placed hx1 hx2 hy1 hy2 e m1 m2]
      simp (disch := first | omega | assumption) only [↓lt, Option.bind_some, zl, ll, zadd, zsub, zmul, zneg, ladd, lsub, lmul, lneg, zltT, zltF, zleT, zleF, zeqT, zeqF, zidx, ixT, zwide, bIT, bIF, if_true, if_false, ↓reduceIte, Nat.reduceAdd, Int.reduceAdd, Int.reduceMul, Int.reduceSub, Int.reduceNeg, cs_c, cs_o, cs_2, cu_c, cu_o, Int.cast_ofNat_Int, ps_f, ps_g, ps_w, ps_o, ps_2, pu_f, pu_g, pu_w, pu_o, uI_s, uI_o, uI_j, uI_j1, uI_j2, uI_tw, or0, true_or, or_true, false_or, or_false, nar0, nar1]
