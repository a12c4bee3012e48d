/-! ===== calls that use their own rows alone, on both sides ===== -/
def SC (M N : KM) : Prop := (∀ a k, ¬ (a = 0 ∧ k = 15) → ¬ (14 ≤ a ∧ a ≤ 22) → N.1 a k = M.1 a k) ∧ (∀ a k, ¬ (a = 17 ∨ a = 18) → N.2.1 a k = M.2.1 a k) ∧ (∀ a k, ¬ a = 14 → N.2.2 a k = M.2.2 a k) ∧ ((N.2.2 14 2 = 17 ∧ N.2.2 14 3 = 18) ∨ (N.2.2 14 2 = 18 ∧ N.2.2 14 3 = 17))
def SM (X Y : KM) : Prop := Y.2.2 = X.2.2 ∧ (∀ a k, ¬ (a = 238 ∨ a = 239 ∨ a = 242) → Y.2.1 a k = X.2.1 a k) ∧ ∀ a k, (a < 227 ∨ a = 228 ∨ a = 229 ∨ a = 231 ∨ a = 243 ∨ (a = 227 ∧ (k = 8 ∨ k = 10 ∨ k = 11 ∨ k = 24 ∨ k = 38))) → Y.1 a k = X.1 a k
theorem SM_MF {X Y : KM} (h : MF X Y) : SM X Y := ⟨by rw [h.1], fun a k _ => by rw [h.1], h.2⟩
theorem SM_tr {X Y Z : KM} (h1 : SM X Y) (h2 : SM Y Z) : SM X Z := ⟨h2.1.trans h1.1, fun a k h => (h2.2.1 a k h).trans (h1.2.1 a k h), fun a k h => (h2.2.2 a k h).trans (h1.2.2 a k h)⟩
theorem SM_st {X : KM} {s : Int32} : SM X (uI (uI X 227 1 (zI 0)) 227 0 s) := SM_MF MF_st
theorem SM_s {X : KM} {s : Int32} : SM X (uI X 227 0 s) := ⟨rfl, fun a k _ => rfl, fun a k h => uI_o (by omega)⟩
theorem SM_rs {X : KM} {a : Nat} {T : Int → Int} (h : a = 236 ∨ a = 237) : SM X (rs X a T) := ⟨rfl, fun _ _ _ => rfl, fun c k hc => rs_o (by omega)⟩
theorem ok_sc {ρ : Type} {c m : KM → Option (ρ × KM)} (h : ∀ M L g b, Opn M L g b → ∃ (r : ρ) (s : Int32) (N : KM), c (ps (cs M b) L g) = some (r, ps (cs N b) L g) ∧ N.1 0 15 = s ∧ SC M N ∧ ∀ X, ∃ Y, m (cs X b) = some (r, cs Y b) ∧ Y.1 227 0 = s ∧ SM X Y) : OKm c m := by
  intro M hI
  obtain ⟨M0, L, g, b, e, hO, -⟩ := Inv_open hI
  have hl := Ptr_L hO.1
  have hq := Ptr_P hO.1
  obtain ⟨r, s, N, e1, h1, ⟨hN1, hN2, hN3, hN4⟩, e2⟩ := h M0 L g b hO
  obtain ⟨Y, e3, e4, e5, e6, e7⟩ := e2 (ps N L g)
  refine ⟨r, _, _, by rw [e]; exact e1, by rw [← cs_ps hl.2]; exact e3, ?_⟩
  have hY : ps Y L g = Y := by
    refine Prod.ext ?_ rfl
    funext a k
    by_cases w : L + 14 ≤ a ∧ a < L + 38
    · rw [ps_at w rfl rfl, e7 a k (by omega), ps_at w rfl rfl]
    · rw [ps_o w]
  obtain ⟨a1, a2, a3, a4, a5, a6⟩ := hO
  have hw := a4.1
  unfold WH at hw
  have hc : Inv (cs (ps Y L g) b) := by
    refine Inv_close ⟨?_, ?_, a3, a4, a5, CR_of ⟨by omega, by omega⟩ (Ptr_l a1) (M := cs (ps M0 L g) b) (fun a k x => ?_) (fun a k x => ?_) ?_ (fun _ _ _ => rfl) rfl rfl a6⟩ ?_
    · unfold Ptr at a1 ⊢
      rw [show Y.2.2 = N.2.2 from e5, hN3 0 _ (by omega), hN3 0 _ (by omega), hN3 0 _ (by omega), hN3 23 _ (by omega), hN3 61 _ (by omega), hN3 113 _ (by omega), hN3 151 _ (by omega), hN3 189 _ (by omega)]
      exact ⟨a1.1, a1.2.1, a1.2.2.1, a1.2.2.2.1, a1.2.2.2.2.1, a1.2.2.2.2.2.1, a1.2.2.2.2.2.2.1, a1.2.2.2.2.2.2.2.1, a1.2.2.2.2.2.2.2.2.1, a1.2.2.2.2.2.2.2.2.2.1, a1.2.2.2.2.2.2.2.2.2.2.1, hN4⟩
    · rw [HL_cs hl.2]
      exact HL_of (fun a k x y => by rw [e7 a k (by omega), ps_o (by omega), hN1 a k (by omega) (by omega)]) ((HL_cs hl.2).mp a2)
    · have x : KI L (M0.2.2 L 7) a k := x
      have w := KI_out hq x
      rw [cs_o w.2.2.1, cs_o w.2.2.1, ps_o w.1, ps_o w.1]
      have w2 := x
      unfold KI at w2
      rw [e7 a k (by omega), ps_o w.1]
      exact hN1 a k w.2.2.2 (by omega)
    · show Y.2.1 a k = M0.2.1 a k
      unfold KJ at x
      rw [e6 a k (by omega)]
      exact hN2 a k (by omega)
    · show Y.2.2 L 7 = M0.2.2 L 7
      rw [e5]
      exact hN3 L 7 (by omega)
    · rw [e4, e7 0 15 (by omega), ps_o (by omega), h1]
  rw [hY] at hc
  exact hc
theorem SC_s {M : KM} {L : Nat} {s : Int32} (hP : Ptr M L) : SC M (uI M 0 15 s) := ⟨fun a k h _ => uI_o h, fun _ _ _ => rfl, fun _ _ _ => rfl, by unfold Ptr at hP; exact hP.2.2.2.2.2.2.2.2.2.2.2⟩
theorem SC_of {M N : KM} {L : Nat} (hP : Ptr M L) (h2 : N.2 = M.2) (h1 : ∀ a k, ¬ (a = 0 ∧ k = 15) → ¬ (14 ≤ a ∧ a ≤ 22) → N.1 a k = M.1 a k) : SC M N := ⟨h1, fun _ _ _ => by rw [h2], fun _ _ _ => by rw [h2], by rw [h2]; unfold Ptr at hP; exact hP.2.2.2.2.2.2.2.2.2.2.2⟩
theorem sc_no {M : KM} {L : Nat} {g : Int → Int → Int → Int} {b : Int → Int} {ρ : Type} {c m : KM → Option (ρ × KM)} {r : ρ} {s : Int32} (hO : Opn M L g b) (h1 : c (ps (cs M b) L g) = some (r, ps (uI (cs M b) 0 15 s) L g)) (h2 : ∀ X, m (cs X b) = some (r, cs (uI (uI X 227 1 (zI 0)) 227 0 s) b)) : ∃ (r : ρ) (s : Int32) (N : KM), c (ps (cs M b) L g) = some (r, ps (cs N b) L g) ∧ N.1 0 15 = s ∧ SC M N ∧ ∀ X, ∃ Y, m (cs X b) = some (r, cs Y b) ∧ Y.1 227 0 = s ∧ SM X Y :=
  ⟨r, s, uI M 0 15 s, by rw [h1, cu_o (by omega)], uI_s, SC_s hO.1, fun X => ⟨_, h2 X, uI_s, SM_st⟩⟩
/-! ===== all times, in both ===== -/
theorem fI_bu {v : Int → Int} : ∀ (k : Nat) (i : Int) (T : Int → Int) (j : Int), fI (fun i T => bu T i (v i)) k i T j = if i ≤ j ∧ j < i + k then v j else T j := by
  intro k
  induction k with
  | zero => intro i T j; rw [if_neg (by omega)]; rfl
  | succ k ih =>
    intro i T j
    show fI (fun i T => bu T i (v i)) k (i + 1) (bu T i (v i)) j = _
    rw [ih]
    by_cases e : j = i
    · rw [if_neg (by omega), if_pos (by omega), e, bu_s]
    · by_cases w : i + 1 ≤ j ∧ j < i + 1 + k
      · rw [if_pos w, if_pos (by omega)]
      · rw [if_neg w, if_neg (by omega), bu_o e]
def TT (b : Int → Int) (p q f s : Int) : Int → Int := itP b p q (b 0 - 1).toNat (T0 f s)
theorem itP_ok {b : Int → Int} {p q : Int} (hb : WB b) : ∀ (k : Nat) (T : Int → Int) (B : Int), 0 ≤ B → B + 70000 * k + 80000 ≤ 900000 → okB2 B T → okB2 (B + 70000 * k) (itP b p q k T) := by
  intro k
  induction k with
  | zero => intro T B h1 h2 h3; rw [show B + 70000 * ((0 : Nat) : Int) = B by omega]; exact h3
  | succ k ih =>
    intro T B h1 h2 h3
    have := ih (pass b p q T) (B + 70000) (by omega) (by omega) (pass_ok hb ⟨h1, by omega⟩ h3)
    rw [show B + 70000 * ((k + 1 : Nat) : Int) = B + 70000 + 70000 * k by omega]
    exact this
theorem TT_ok {b : Int → Int} {p q f s : Int} (hb : WB b) (h1 : 0 ≤ s) (h2 : s ≤ 110000 ∨ s = 1000000000) : okB2 700000 (TT b p q f s) := by
  have hh := hb.1
  unfold WH at hh
  have hi : 0 ≤ b 0 ∧ b 0 ≤ 8 := by omega
  clear hh
  have := itP_ok (p := p) (q := q) hb (b 0 - 1).toNat (T0 f s) 110000 (by omega) (by omega) (T0_ok h1 h2)
  intro j j1 j2
  have := this j j1 j2
  unfold TT
  omega
theorem c_times {b : Int → Int} {dd : Int → Int} {p q : Int} {L : Nat} {M : KM} {g : Int → Int → Int → Int} (hL : HL (cs M dd) L b) (hl : 23 ≤ L ∧ L ≤ 61) (hg : GR g b) (hb : WB b) (h1 : 0 ≤ p) (h2 : p < b 2) (hq : q = -1 ∨ (0 ≤ q ∧ q < b 2)) : ∀ (k : Nat) (i : Int) (B : Int) (T : Int → Int) (n : Nat), 1 ≤ i → i + k = b 0 → 0 ≤ B → B + 70000 * k + 80000 ≤ 900000 → okB2 B T → 120 + k < n → lp_X6_findTimes_12 n 14 L (zI p) (zI q) (zI i) (ps (cs (rs M 15 T) dd) L g) = some (ps (cs (rs M 15 (itP b p q k T)) dd) L g) := by
  have hh := hb.1
  unfold WH at hh
  have hi : 0 ≤ b 0 ∧ b 0 ≤ 8 := by omega
  clear hh
  have w0 : M.1 L 8 = zI (b 0) := ((HL_cs hl.2).mp hL).1
  intro k
  induction k with
  | zero =>
    intro i B T n i1 i2 h1 h2 h3 hn
    obtain ⟨m, rfl⟩ : ∃ m, n = m + 1 := ⟨n - 1, by omega⟩
    have : i = b 0 := by omega
    subst this
    rw [lp_X6_findTimes_12]
    simp (disch := first | omega | assumption) only [↓lt, Option.bind_some, zl, ll, zadd, zsub, zmul, zneg, ladd, lsub, lmul, lneg, zltT, zltF, zleT, zleF, zeqT, zeqF, zidx, ixT, zwide, bIT, bIF, if_true, if_false, ↓reduceIte, Nat.reduceAdd, Int.reduceAdd, Int.reduceMul, Int.reduceSub, Int.reduceNeg, cs_c, cs_o, cs_2, cu_c, cu_o, Int.cast_ofNat_Int, ps_f, ps_g, ps_w, ps_o, ps_2, pu_f, pu_g, pu_w, pu_o, uI_s, uI_o, uI_j, uI_j1, uI_j2, uI_tw, or0, true_or, or_true, false_or, or_false, nar0, nar1, rs_o, w0]
    rfl
  | succ k ih =>
    intro i B T n i1 i2 b1 b2 h3 hn
    obtain ⟨m, rfl⟩ : ∃ m, n = m + 1 := ⟨n - 1, by omega⟩
    have e := fun κ => c_pass (n := m) (c6 := zI i) (κ := κ) (g := g) hL hl hg hb ⟨b1, by omega⟩ h3 h1 h2 hq (by omega)
    have ih2 := ih (i + 1) (B + 70000) (pass b p q T) m (by omega) (by omega) (by omega) (by omega) (pass_ok hb ⟨b1, by omega⟩ h3) (by omega)
    rw [lp_X6_findTimes_12]
    simp (disch := first | omega | assumption) only [↓lt, Option.bind_some, zl, ll, zadd, zsub, zmul, zneg, ladd, lsub, lmul, lneg, zltT, zltF, zleT, zleF, zeqT, zeqF, zidx, ixT, zwide, bIT, bIF, if_true, if_false, ↓reduceIte, Nat.reduceAdd, Int.reduceAdd, Int.reduceMul, Int.reduceSub, Int.reduceNeg, cs_c, cs_o, cs_2, cu_c, cu_o, Int.cast_ofNat_Int, ps_f, ps_g, ps_w, ps_o, ps_2, pu_f, pu_g, pu_w, pu_o, uI_s, uI_o, uI_j, uI_j1, uI_j2, uI_tw, or0, true_or, or_true, false_or, or_false, nar0, nar1, rs_o, w0, e]
    exact ih2
theorem c_start {b : Int → Int} {dd : Int → Int} {f s : Int} {L n : Nat} {M : KM} {g : Int → Int → Int → Int} (hL : HL (cs M dd) L b) (hl : 23 ≤ L ∧ L ≤ 61) (hb : WB b) (f1 : 0 ≤ f) (f2 : f < b 0) (hn : 20 < n) : f_X6_startAt n 14 L (zI f) (zI s) (ps (cs M dd) L g) = some (ps (cs (rs M 15 (T0 f s)) dd) L g) := by
  have hh := hb.1
  unfold WH at hh
  have hi : 0 ≤ b 0 ∧ b 0 ≤ 8 := by omega
  clear hh
  have w0 : M.1 L 8 = zI (b 0) := ((HL_cs hl.2).mp hL).1
  have hLT : ∀ T, HL (cs (rs M 15 T) dd) L b := fun T => (HL_cs hl.2).mpr (HL_of (fun a k x y => rs_o (by omega)) ((HL_cs hl.2).mp hL))
  have e := fun κ => (loop_f (lp := fun k r T => lp_X6_startAt_3 k 14 L (zI f) (zI s) r (ps (cs (rs M 15 T) dd) L g) κ) (f := fun i T => bu T i 1000000000) (fin := fun T => κ (ps (cs (rs M 15 T) dd) L g)) (fun _ _ => True) (N := 1) (R := 8) (fun k r T hk u v _ => ⟨by
    rw [lp_X6_startAt_3]
    simp (disch := first | omega | assumption) only [↓lt, Option.bind_some, zl, ll, zadd, zsub, zmul, zneg, ladd, lsub, lmul, lneg, zltT, zltF, zleT, zleF, zeqT, zeqF, zidx, ixT, zwide, bIT, bIF, if_true, if_false, ↓reduceIte, Nat.reduceAdd, Int.reduceAdd, Int.reduceMul, Int.reduceSub, Int.reduceNeg, cs_c, cs_o, cs_2, cu_c, cu_o, Int.cast_ofNat_Int, ps_f, ps_g, ps_w, ps_o, ps_2, pu_f, pu_g, pu_w, pu_o, uI_s, uI_o, uI_j, uI_j1, uI_j2, uI_tw, or0, true_or, or_true, false_or, or_false, nar0, nar1, rs_u], trivial⟩) (fun k T _ _ => by
    rw [lp_X6_startAt_3]
    simp (disch := first | omega | assumption) only [↓lt, Option.bind_some, zl, ll, zadd, zsub, zmul, zneg, ladd, lsub, lmul, lneg, zltT, zltF, zleT, zleF, zeqT, zeqF, zidx, ixT, zwide, bIT, bIF, if_true, if_false, ↓reduceIte, Nat.reduceAdd, Int.reduceAdd, Int.reduceMul, Int.reduceSub, Int.reduceNeg, cs_c, cs_o, cs_2, cu_c, cu_o, Int.cast_ofNat_Int, ps_f, ps_g, ps_w, ps_o, ps_2, pu_f, pu_g, pu_w, pu_o, uI_s, uI_o, uI_j, uI_j1, uI_j2, uI_tw, or0, true_or, or_true, false_or, or_false, nar0, nar1]) 8 0 (fun z => (M.1 15 z.toNat).toInt) n (by omega) (by omega) (by omega) trivial).1
  simp only [← rs_ex M 15] at e
  unfold f_X6_startAt
  simp (disch := first | omega | assumption) only [zl]
  rw [e]
  have ep := c_hasPlace (g := g) (p := f) (hLT (fI (fun i T => bu T i 1000000000) 8 0 fun z => (M.1 15 z.toNat).toInt)) (by omega) (by omega) hi.1 hi.2
  rw [bIT ⟨f1, f2⟩] at ep
  simp (disch := first | omega | assumption) only [↓lt, Option.bind_some, zl, ll, zadd, zsub, zmul, zneg, ladd, lsub, lmul, lneg, zltT, zltF, zleT, zleF, zeqT, zeqF, zidx, ixT, zwide, bIT, bIF, if_true, if_false, ↓reduceIte, Nat.reduceAdd, Int.reduceAdd, Int.reduceMul, Int.reduceSub, Int.reduceNeg, cs_c, cs_o, cs_2, cu_c, cu_o, Int.cast_ofNat_Int, ps_f, ps_g, ps_w, ps_o, ps_2, pu_f, pu_g, pu_w, pu_o, uI_s, uI_o, uI_j, uI_j1, uI_j2, uI_tw, or0, true_or, or_true, false_or, or_false, nar0, nar1, ep, rs_u]
  refine congrArg some (congrArg (fun K => ps (cs K dd) L g) (rs_c (fun j j1 j2 => ?_)))
  unfold T0
  by_cases w : j = f
  · rw [w, bu_s, if_pos rfl]
  · rw [bu_o w, if_neg w, fI_bu, if_pos (by omega)]
theorem c_findTimes {b : Int → Int} {dd : Int → Int} {p q f s : Int} {L n : Nat} {M : KM} {g : Int → Int → Int → Int} (hL : HL (cs M dd) L b) (hl : 23 ≤ L ∧ L ≤ 61) (hg : GR g b) (hb : WB b) (h1 : 0 ≤ p) (h2 : p < b 2) (hq : q = -1 ∨ (0 ≤ q ∧ q < b 2)) (f1 : 0 ≤ f) (f2 : f < b 0) (s1 : 0 ≤ s) (s2 : s ≤ 110000 ∨ s = 1000000000) (hn : 200 < n) : f_X6_findTimes n 14 L (zI p) (zI q) (zI f) (zI s) (ps (cs M dd) L g) = some (ps (cs (rs M 15 (TT b p q f s)) dd) L g) := by
  have hh := hb.1
  unfold WH at hh
  have hi : 0 ≤ b 0 ∧ b 0 ≤ 8 := by omega
  clear hh
  unfold f_X6_findTimes
  rw [c_start hL hl hb f1 f2 (by omega)]
  have hLT : ∀ T, HL (cs (rs M 15 T) dd) L b := fun T => (HL_cs hl.2).mpr (HL_of (fun a k x y => rs_o (by omega)) ((HL_cs hl.2).mp hL))
  have e := c_times (M := M) hL hl hg hb h1 h2 hq (b 0 - 1).toNat 1 110000 (T0 f s) n (by omega) (by omega) (by omega) (by omega) (T0_ok s1 s2) (by omega)
  rw [Option.bind_some, show (1 : Int32) = zI 1 from rfl]
  exact e
