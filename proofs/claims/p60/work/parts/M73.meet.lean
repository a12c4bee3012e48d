/-! ===== meet, meetIn: both alike ===== -/
def mtF (b : Int → Int) (x y : Int) : Int := fI (mtS (TT b x (-1) (b (58 + x)) (b 5)) (TT b y (-1) (b (58 + y)) (b 5))) (b 0).toNat 0 (-1)
theorem mtF_r {b : Int → Int} {x y : Int} (hb : WB b) : mtF b x y = -1 ∨ (0 ≤ mtF b x y ∧ mtF b x y < b 0 ∧ mxT (TT b x (-1) (b (58 + x)) (b 5)) (TT b y (-1) (b (58 + y)) (b 5)) (mtF b x y) < 1000000000) := by
  have hh := hb.1
  unfold WH at hh
  have hi : 0 ≤ b 0 ∧ b 0 ≤ 8 := by omega
  clear hh
  have := fI_ix (f := mtS (TT b x (-1) (b (58 + x)) (b 5)) (TT b y (-1) (b (58 + y)) (b 5))) (V := okM (TT b x (-1) (b (58 + x)) (b 5)) (TT b y (-1) (b (58 + y)) (b 5))) (R := b 0) (fun i w h1 _ h => okM_st h1 h) (b 0).toNat 0 (-1) (by omega) (by omega) (Or.inl rfl)
  rw [show (0 : Int) + ((b 0).toNat : Int) = b 0 by omega] at this
  exact this
theorem cpy_rs {M : KM} {T : Int → Int} : uIs (rs M 15 T) 16 (va_cpy ((rs M 15 T).1 15) ((rs M 15 T).1 16) 0 0 8) = rs (rs M 15 T) 16 T := by
  refine Prod.ext ?_ rfl
  funext c k
  show ((if c = 16 then va_cpy ((rs M 15 T).1 15) ((rs M 15 T).1 16) 0 0 8 else (rs M 15 T).1 c) k) = (if c = 16 ∧ k < 8 then zI (T k) else (rs M 15 T).1 c k)
  by_cases e : c = 16
  · rw [if_pos e]
    unfold va_cpy
    by_cases e2 : k < 8
    · rw [if_pos (by omega), if_pos ⟨e, e2⟩]
      show (if 15 = 15 ∧ 0 + (k - 0) < 8 then zI (T ((0 + (k - 0) : Nat) : Int)) else _) = _
      rw [if_pos (by omega), show 0 + (k - 0) = k by omega]
    · rw [if_neg (by omega), if_neg (fun z => e2 z.2), e]
  · rw [if_neg e, if_neg (fun z => e z.1)]
theorem uIs_ps {M : KM} {L a : Nat} {g : Int → Int → Int → Int} {f : Nat → Int32} (h : ¬ (L + 14 ≤ a ∧ a < L + 38)) : uIs (ps M L g) a f = ps (uIs M a f) L g := by
  refine Prod.ext ?_ rfl
  funext q j
  simp only [uIs, ps]
  by_cases w : q = a
  · subst w; rw [if_pos rfl, if_neg h, if_pos rfl]
  · rw [if_neg w, if_neg w]
theorem uIs_cs {M : KM} {b : Int → Int} {a : Nat} {f : Nat → Int32} (h : ¬ a = 232) : uIs (cs M b) a f = cs (uIs M a f) b := by
  refine Prod.ext ?_ rfl
  funext q j
  simp only [uIs, cs]
  by_cases w : q = a
  · subst w; rw [if_pos rfl, if_neg h, if_pos rfl]
  · rw [if_neg w, if_neg w]
theorem row_ps {M : KM} {L a : Nat} {g : Int → Int → Int → Int} {b : Int → Int} (h : ¬ (L + 14 ≤ a ∧ a < L + 38)) (h2 : ¬ a = 232) : (ps (cs M b) L g).1 a = M.1 a := by
  funext k
  rw [ps_o h, cs_o h2]
theorem c_findMeeting {b : Int → Int} {dd : Int → Int} {x y : Int} {L n : Nat} {M : KM} {g : Int → Int → Int → Int} (hL : HL (cs M dd) L b) (hl : 23 ≤ L ∧ L ≤ 61) (hg : GR g b) (hb : WB b) (h5 : b 5 ≤ 99999) (h1 : 0 ≤ x) (h2 : x < b 2) (h6 : b (66 + x) = -1) (y1 : 0 ≤ y) (y2 : y < b 2) (y6 : b (66 + y) = -1) (hn : 300 < n) : ∃ N, f_X6_findMeeting n 14 L (zI x) (zI y) (ps (cs M dd) L g) = some (ps (cs N dd) L g) ∧ N.1 14 4 = zI (mtF b x y) ∧ N.1 14 5 = zI (inO (TT b x (-1) (b (58 + x)) (b 5)) (TT b y (-1) (b (58 + y)) (b 5)) (b 5) (mtF b x y)) ∧ (∀ a k, ¬ (a = 14 ∧ (k = 4 ∨ k = 5)) → N.1 a k = (rs (rs (rs M 15 (TT b y (-1) (b (58 + y)) (b 5))) 16 (TT b y (-1) (b (58 + y)) (b 5))) 15 (TT b x (-1) (b (58 + x)) (b 5))).1 a k) ∧ N.2 = M.2 := by
  have hh := hb.1
  unfold WH at hh
  have hi : 0 ≤ b 2 ∧ b 2 ≤ 8 ∧ 0 ≤ b 0 ∧ b 0 ≤ 8 ∧ 0 ≤ b 5 := by omega
  clear hh
  have gp := hg.1 x h1 h2
  have gq := hg.1 y y1 y2
  have z1 := WPb hb h1 h2
  have z2 := WPb hb y1 y2
  unfold GP at gp gq
  have g5 : g x 0 5 = b (58 + x) := by omega
  have g6 : g y 0 5 = b (58 + y) := by omega
  have i5 : 0 ≤ b (58 + x) ∧ b (58 + x) < b 0 ∧ 0 ≤ b (58 + y) ∧ b (58 + y) < b 0 := by omega
  clear z1 z2 gp gq
  have w0 : M.1 L 8 = zI (b 0) := ((HL_cs hl.2).mp hL).1
  have w5 : M.1 L 11 = zI (b 5) := ((HL_cs hl.2).mp hL).2.2.2.1
  have oT : okB2 700000 (TT b x (-1) (b (58 + x)) (b 5)) := TT_ok hb hi.2.2.2.2 (by omega)
  have oU : okB2 700000 (TT b y (-1) (b (58 + y)) (b 5)) := TT_ok hb hi.2.2.2.2 (by omega)
  have e1 := c_findTimes (n := n) (M := M) (g := g) (p := y) (q := -1) (f := b (58 + y)) (s := b 5) hL hl hg hb y1 y2 (Or.inl rfl) i5.2.2.1 i5.2.2.2 (by omega) (by omega) (by omega)
  generalize hU : TT b y (-1) (b (58 + y)) (b 5) = U at *
  have hL2 : HL (cs (rs (rs M 15 U) 16 U) dd) L b := (HL_cs hl.2).mpr (HL_of (fun a k x y => by rw [rs_o (by omega), rs_o (by omega)]) ((HL_cs hl.2).mp hL))
  have e2 := c_findTimes (n := n) (M := rs (rs M 15 U) 16 U) (g := g) (p := x) (q := -1) (f := b (58 + x)) (s := b 5) hL2 hl hg hb h1 h2 (Or.inl rfl) i5.1 i5.2.1 (by omega) (by omega) (by omega)
  unfold mtF
  rw [hU]
  generalize hT : TT b x (-1) (b (58 + x)) (b 5) = T at *
  have hLr : HL (cs (rs M 15 U) dd) L b := (HL_cs hl.2).mpr (HL_of (fun a k x y => by rw [rs_o (by omega)]) ((HL_cs hl.2).mp hL))
  obtain ⟨N, f1, f2, f3, f4, f5⟩ := c_meetL (M := rs M 15 U) (g := g) hLr hl hb h5 oT oU (b 0).toNat 0 (-1) (uI (uI (rs (rs (rs M 15 U) 16 U) 15 T) 14 4 (zI (-1))) 14 5 (zI 1000000000)) n (by omega) (by omega) (by omega) (Or.inl rfl) (by rw [uI_o (by omega), uI_s]) (by rw [uI_s]; rfl) (fun a k h => by rw [uI_o (by omega), uI_o (by omega)]) rfl
  refine ⟨N, ?_, f2, f3, f4, f5⟩
  rw [← f1]
  unfold f_X6_findMeeting
  have er := fun a (h : ¬ (L + 14 ≤ a ∧ a < L + 38)) (h2 : ¬ a = 232) => row_ps (M := rs M 15 U) (g := g) (b := b) h h2
  have k0 : (zI 0).toNatClampNeg = 0 := rfl
  have k8 : (zI 8).toNatClampNeg = 8 := rfl
  simp (disch := first | omega | assumption) only [↓lt, Option.bind_some, zl, zneg, ixT, if_true, if_false, zidx, ps_f, g5, g6, ps_o, cs_o, rs_o, w5, e1, k0, k8, zltF, not_false_eq_true, true_and, Nat.zero_add, Nat.le_refl, and_self, row_ps, uIs_ps, uIs_cs, cpy_rs, e2, Int.cast_ofNat_Int, pu_o, cu_o, Nat.reduceAdd]
