/-! ===== write, copyPlaces ===== -/
theorem cut_eq {a : Nat} {s : Int} {v : Int64} {M M' : KM} (h : M.1 a 1 = zI s) (h1 : 0 ≤ s) (h2 : s ≤ 3) : f_X10_cut a v M = f_X12_cut (zI s) v M' := by
  have e : s = 0 ∨ s = 1 ∨ s = 2 ∨ s = 3 := by omega
  unfold f_X10_cut f_X12_cut
  rcases e with rfl | rfl | rfl | rfl
  · simp (disch := first | omega | assumption) only [↓lt, Option.bind_some, zl, ll, zadd, zsub, zmul, zneg, ladd, lsub, lmul, lneg, zltT, zltF, zleT, zleF, zeqT, zeqF, zidx, ixT, zwide, bIT, bIF, if_true, if_false, ↓reduceIte, Nat.reduceAdd, Int.reduceAdd, Int.reduceMul, Int.reduceSub, Int.reduceNeg, cs_c, cs_o, cs_2, cu_c, cu_o, Int.cast_ofNat_Int, ps_f, ps_g, ps_w, ps_o, ps_2, pu_f, pu_g, pu_w, pu_o, uI_s, uI_o, uI_j, uI_j1, uI_j2, uI_tw, or0, true_or, or_true, false_or, or_false, nar0, nar1, h]
  · simp (disch := first | omega | assumption) only [↓lt, Option.bind_some, zl, ll, zadd, zsub, zmul, zneg, ladd, lsub, lmul, lneg, zltT, zltF, zleT, zleF, zeqT, zeqF, zidx, ixT, zwide, bIT, bIF, if_true, if_false, ↓reduceIte, Nat.reduceAdd, Int.reduceAdd, Int.reduceMul, Int.reduceSub, Int.reduceNeg, cs_c, cs_o, cs_2, cu_c, cu_o, Int.cast_ofNat_Int, ps_f, ps_g, ps_w, ps_o, ps_2, pu_f, pu_g, pu_w, pu_o, uI_s, uI_o, uI_j, uI_j1, uI_j2, uI_tw, or0, true_or, or_true, false_or, or_false, nar0, nar1, h]
  · simp (disch := first | omega | assumption) only [↓lt, Option.bind_some, zl, ll, zadd, zsub, zmul, zneg, ladd, lsub, lmul, lneg, zltT, zltF, zleT, zleF, zeqT, zeqF, zidx, ixT, zwide, bIT, bIF, if_true, if_false, ↓reduceIte, Nat.reduceAdd, Int.reduceAdd, Int.reduceMul, Int.reduceSub, Int.reduceNeg, cs_c, cs_o, cs_2, cu_c, cu_o, Int.cast_ofNat_Int, ps_f, ps_g, ps_w, ps_o, ps_2, pu_f, pu_g, pu_w, pu_o, uI_s, uI_o, uI_j, uI_j1, uI_j2, uI_tw, or0, true_or, or_true, false_or, or_false, nar0, nar1, h]
  · simp (disch := first | omega | assumption) only [↓lt, Option.bind_some, zl, ll, zadd, zsub, zmul, zneg, ladd, lsub, lmul, lneg, zltT, zltF, zleT, zleF, zeqT, zeqF, zidx, ixT, zwide, bIT, bIF, if_true, if_false, ↓reduceIte, Nat.reduceAdd, Int.reduceAdd, Int.reduceMul, Int.reduceSub, Int.reduceNeg, cs_c, cs_o, cs_2, cu_c, cu_o, Int.cast_ofNat_Int, ps_f, ps_g, ps_w, ps_o, ps_2, pu_f, pu_g, pu_w, pu_o, uI_s, uI_o, uI_j, uI_j1, uI_j2, uI_tw, or0, true_or, or_true, false_or, or_false, nar0, nar1, h]
theorem cut_all : ∀ v : Fin 9, ∀ s : Fin 4, f_X12_cut (zI (s.val : Int)) (lI ((v.val : Int) - 1)) (fun _ _ => 0, fun _ _ => 0, fun _ _ => 0) = lI ((v.val : Int) - 1) := by decide +kernel
theorem cut_small {a : Nat} {s v : Int} {M : KM} (h : M.1 a 1 = zI s) (h1 : 0 ≤ s) (h2 : s ≤ 3) (h3 : -1 ≤ v) (h4 : v < 8) : f_X10_cut a (lI v) M = lI v := by
  have e := cut_all ⟨(v + 1).toNat, by omega⟩ ⟨s.toNat, by omega⟩
  simp only [Int.toNat_of_nonneg h1, show (((v + 1).toNat : Int)) - 1 = v by omega] at e
  rw [cut_eq (M' := (fun _ _ => 0, fun _ _ => 0, fun _ _ => 0)) h h1 h2]
  exact e
theorem k_write (p q : Int32) (v : Int64) (n : Nat) (hn : 100 ≤ n) : OKm (f_X11_write n 0 p q v) (f_X12_write n 227 p q v) := by
  obtain ⟨x, hx1, hx2, rfl⟩ := z_ex p
  obtain ⟨y, hy1, hy2, rfl⟩ := z_ex q
  refine ok_cr (fun M L g b hO => ?_)
  have hO2 := hO
  have hq := Ptr_P hO.1
  obtain ⟨hP, hL, hg, hb, hm, hC⟩ := hO; have hp0 : M.2.2 0 10 = L := hP.1; have hl := Ptr_L hP; have hT := TR_at hl hC
  obtain ⟨m, m1, m2, m3, m4, m5⟩ := TR_m hT x
  have hr := plS_r (m := m) (x := x) (y := y)
  clear hb hg hL hm
  by_cases w : plS m x y = 0
  · have w2 := plS_0 w
    obtain ⟨s, s1, s2, s3, s4, s5⟩ := m5 w2.1 w2.2.1
    refine ⟨zI 1, uI (uJ M (0 + 1 + 104 + 2 * x.toNat + 1) y.toNat (f_X12_cut (zI s) v M)) 0 15 (zI 0), uJ (uI (uI (uI (uJ M (0 + 1 + 104 + 2 * x.toNat + 1) y.toNat (f_X12_cut (zI s) v M)) 0 15 (zI 0)) 227 1 (zI 0)) 227 0 (zI 0)) 230 (60 * x + y).toNat (f_X12_cut (zI s) v M), ?_, ?_, ?_, ?_, ?_, ?_⟩
    · have m3 := m3 w2.1 w2.2.1
      have ec : f_X10_cut (0 + 1 + 104 + 2 * x.toNat) v (ps (cs M b) L g) = f_X12_cut (zI s) v M := cut_eq (by rw [ps_o (by omega), cs_o (by omega)]; exact s3) s1 s2
      unfold f_X11_write
      rw [c_whyNotInTray hl hx1 hx2 hy1 hy2 (fun _ _ => m3) m1 m2, w]
      unfold f_X10_put
      simp (disch := first | omega | assumption) only [↓lt, Option.bind_some, zl, ll, zadd, zsub, zmul, zneg, ladd, lsub, lmul, lneg, zltT, zltF, zleT, zleF, zeqT, zeqF, zidx, ixT, zwide, bIT, bIF, if_true, if_false, ↓reduceIte, Nat.reduceAdd, Int.reduceAdd, Int.reduceMul, Int.reduceSub, Int.reduceNeg, cs_c, cs_o, cs_2, cu_c, cu_o, Int.cast_ofNat_Int, ps_f, ps_g, ps_w, ps_o, ps_2, pu_f, pu_g, pu_w, pu_o, uI_s, uI_o, uI_j, uI_j1, uI_j2, uI_tw, or0, true_or, or_true, false_or, or_false, nar0, nar1, f_X11_tell, f_X11_refuse, f_X11_tellIf, f_X11_tellOrNone, f_X11_deny, f_X11_succeed, f_X12_refuse, f_X12_no, hp0, psJ, csJ, uJ_i, uJ_r, uJ_s, uJ_o, m3, ec]
    · have e : 0 ≤ x → x < 4 → (uI (uI (uJ M (0 + 1 + 104 + 2 * x.toNat + 1) y.toNat (f_X12_cut (zI s) v M)) 0 15 (zI 0)) 227 1 (zI 0)).1 229 x.toNat = zI m := fun u v => by
        rw [uI_o (by omega), uI_o (by omega)]; exact m4 u v
      have e2 : (uI (ps (uI (uI (uJ M (0 + 1 + 104 + 2 * x.toNat + 1) y.toNat (f_X12_cut (zI s) v M)) 0 15 (zI 0)) 227 1 (zI 0)) L g) 227 0 (zI 0)).1 228 x.toNat = zI s := by
        rw [uI_o (by omega), ps_o (by omega), uI_o (by omega), uI_o (by omega)]; exact s4
      have e3 : ∀ X Y : KM, f_X12_cut (zI s) v X = f_X12_cut (zI s) v Y := fun _ _ => rfl
      have e4 : 0 ≤ x → x < 4 → (ps (uI (uI (uJ M (0 + 1 + 104 + 2 * x.toNat + 1) y.toNat (f_X12_cut (zI s) v M)) 0 15 (zI 0)) 227 1 (zI 0)) L g).1 229 x.toNat = zI m := fun u v => by
        rw [ps_o (by omega)]; exact e u v
      unfold f_X12_write
      simp (disch := first | omega | assumption) only [↓lt, zl, cu_o, pu_o, m_placed hx1 hx2 hy1 hy2 e4 m1 m2, w]
      simp (disch := first | omega | assumption) only [↓lt, Option.bind_some, zl, ll, zadd, zsub, zmul, zneg, ladd, lsub, lmul, lneg, zltT, zltF, zleT, zleF, zeqT, zeqF, zidx, ixT, zwide, bIT, bIF, if_true, if_false, ↓reduceIte, Nat.reduceAdd, Int.reduceAdd, Int.reduceMul, Int.reduceSub, Int.reduceNeg, cs_c, cs_o, cs_2, cu_c, cu_o, Int.cast_ofNat_Int, ps_f, ps_g, ps_w, ps_o, ps_2, pu_f, pu_g, pu_w, pu_o, uI_s, uI_o, uI_j, uI_j1, uI_j2, uI_tw, or0, true_or, or_true, false_or, or_false, nar0, nar1, psJ, csJ, uJ_i, uJ_r, uJ_s, uJ_o, s4]
      rfl
    · rw [uJ_i, uI_o (by omega), uI_o (by omega), uI_s, uI_s]
    · rfl
    · intro a k h1 h2
      show (uI _ 227 0 _).1 a k = _
      rw [uI_o (by omega), uI_o (by omega), uI_o (by omega)]
      rfl
    · refine CR_tr hO2 (fun a k h1 h2 h3 h4 h5 => ?_) (fun a k h1 h2 => ?_) rfl (fun t h1 h2 => ?_)
      · show (uI _ 227 0 _).1 a k = _
        rw [uI_o (by omega), uI_o (by omega), uI_o (by omega)]
        rfl
      · rw [uJ_o (by omega)]
        show (uJ M _ _ _).2.1 a k = _
        rw [uJ_o (by omega)]
      · obtain ⟨s', m', c1, c2, c3, c4, c5, c6, c7, c8, c9⟩ := hT t h1 h2
        have hi : ∀ a k, (105 ≤ a ∧ a < 113 ∨ a = 228 ∨ a = 229) → (uI (uI (uI (uJ M (0 + 1 + 104 + 2 * x.toNat + 1) y.toNat (f_X12_cut (zI s) v M)) 0 15 (zI 0)) 227 1 (zI 0)) 227 0 (zI 0)).1 a k = M.1 a k := fun a k h => by
          rw [uI_o (by omega), uI_o (by omega), uI_o (by omega)]
          rfl
        refine ⟨s', m', c1, c2, c3, c4, (hi _ _ (by omega)).trans c5, (hi _ _ (by omega)).trans c6, (hi _ _ (by omega)).trans c7, (hi _ _ (by omega)).trans c8, fun k h3 h4 => ?_⟩
        by_cases w3 : t = x ∧ k = y
        · rw [w3.1, w3.2, uJ_o (by omega), uJ_s]
          show (uJ M _ _ _).2.1 _ _ = _
          rw [show 1 + 104 + 2 * x.toNat + 1 = 0 + 1 + 104 + 2 * x.toNat + 1 by omega, uJ_s]
        · have hm' : m' ≤ 60 := c4
          rw [uJ_o (by omega), uJ_o (by omega)]
          show (uJ M _ _ _).2.1 _ _ = (uJ M _ _ _).2.1 _ _
          rw [uJ_o (by omega), uJ_o (by omega)]
          exact c9 k h3 h4
  · refine cr_no (c := f_X11_write n 0 (zI x) (zI y) v) (m := f_X12_write n 227 (zI x) (zI y) v) hO2 (r := zI 0) (s := zI (plS m x y)) ?_ ?_
    · unfold f_X11_write
      rw [c_whyNotInTray hl hx1 hx2 hy1 hy2 m3 m1 m2]
      simp (disch := first | omega | assumption) only [↓lt, Option.bind_some, zl, ll, zadd, zsub, zmul, zneg, ladd, lsub, lmul, lneg, zltT, zltF, zleT, zleF, zeqT, zeqF, zidx, ixT, zwide, bIT, bIF, if_true, if_false, ↓reduceIte, Nat.reduceAdd, Int.reduceAdd, Int.reduceMul, Int.reduceSub, Int.reduceNeg, cs_c, cs_o, cs_2, cu_c, cu_o, Int.cast_ofNat_Int, ps_f, ps_g, ps_w, ps_o, ps_2, pu_f, pu_g, pu_w, pu_o, uI_s, uI_o, uI_j, uI_j1, uI_j2, uI_tw, or0, true_or, or_true, false_or, or_false, nar0, nar1, f_X11_tell, f_X11_refuse, f_X11_tellIf, f_X11_tellOrNone, f_X11_deny, f_X11_succeed, f_X12_refuse, f_X12_no, hp0]
    · have e4 : 0 ≤ x → x < 4 → (ps (uI (uI M 0 15 (zI (plS m x y))) 227 1 (zI 0)) L g).1 229 x.toNat = zI m := fun u v => by
        rw [ps_o (by omega), uI_o (by omega), uI_o (by omega)]; exact m4 u v
      unfold f_X12_write
      simp (disch := first | omega | assumption) only [↓lt, zl, cu_o, pu_o, m_placed hx1 hx2 hy1 hy2 e4 m1 m2]
      simp (disch := first | omega | assumption) only [↓lt, Option.bind_some, zl, ll, zadd, zsub, zmul, zneg, ladd, lsub, lmul, lneg, zltT, zltF, zleT, zleF, zeqT, zeqF, zidx, ixT, zwide, bIT, bIF, if_true, if_false, ↓reduceIte, Nat.reduceAdd, Int.reduceAdd, Int.reduceMul, Int.reduceSub, Int.reduceNeg, cs_c, cs_o, cs_2, cu_c, cu_o, Int.cast_ofNat_Int, ps_f, ps_g, ps_w, ps_o, ps_2, pu_f, pu_g, pu_w, pu_o, uI_s, uI_o, uI_j, uI_j1, uI_j2, uI_tw, or0, true_or, or_true, false_or, or_false, nar0, nar1]
