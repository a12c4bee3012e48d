/-! ===== what must be planted: the class ===== -/
def mo (b : Int → Int) (x r : Int) : Int := if paceB b x r = 2 then 4096 + pw r else 0
def rlq (b : Int → Int) (x r f t : Int) (T : Int → Int) : Int → Int := if T f + mo b x r < T t then bu T t (T f + mo b x r) else T
def btq (b : Int → Int) (x r : Int) (T : Int → Int) : Int → Int := rlq b x r (b (22 + r)) (b (10 + r)) (rlq b x r (b (10 + r)) (b (22 + r)) T)
theorem mo_r {b : Int → Int} {x r : Int} (h1 : 0 ≤ r) (h2 : r < 12) : 0 ≤ mo b x r ∧ mo b x r ≤ 8192 := by
  unfold mo
  have := pw_r h1 (show r ≤ 12 by omega)
  by_cases e : paceB b x r = 2
  · rw [if_pos e]; omega
  · rw [if_neg e]; omega
abbrev okQ (T : Int → Int) : Prop := ∀ j, 0 ≤ j → j < 8 → 0 ≤ T j ∧ T j ≤ 1000000000
theorem rlq_ok {b T : Int → Int} {x r f t : Int} (h1 : 0 ≤ r) (h2 : r < 12) (f1 : 0 ≤ f) (f2 : f < 8) (hT : okQ T) : okQ (rlq b x r f t T) := by
  intro j j1 j2
  have tj := hT j j1 j2
  have tf := hT f f1 f2
  have m := mo_r (b := b) (x := x) h1 h2
  unfold rlq
  by_cases w : T f + mo b x r < T t
  · rw [if_pos w]
    by_cases e : j = t
    · rw [e, bu_s]
      have := hT j j1 j2
      rw [e] at this
      omega
    · rw [bu_o e]; exact tj
  · rw [if_neg w]; exact tj
theorem min_rlq {b T : Int → Int} {x r f t : Int} : bu T t (if T f + mo b x r < T t then T f + mo b x r else T t) = rlq b x r f t T := by
  unfold rlq
  by_cases w : T f + mo b x r < T t
  · rw [if_pos w, if_pos w]
  · rw [if_neg w, if_neg w]
    funext j
    by_cases e : j = t
    · rw [e, bu_s]
    · rw [bu_o e]
def paq (b : Int → Int) (x : Int) (T : Int → Int) : Int → Int := fI (btq b x) (b 1).toNat 0 T
theorem c_plantPass {b T : Int → Int} {dd : Int → Int} {x : Int} {L n : Nat} {M : KM} {g : Int → Int → Int → Int} {c3 c4 : Int32} {κ : KM → Option (Int32 × KM)} (hL : HL (cs M dd) L b) (hl : 23 ≤ L ∧ L ≤ 61) (hg : GR g b) (hb : WB b) (hT : okQ T) (h1 : 0 ≤ x) (h2 : x < b 2) (hn : 100 < n) : lp_X6_plantingCost_30 n 14 L (zI x) c3 c4 (zI 0) (ps (cs (rs M 15 T) dd) L g) κ = κ (ps (cs (rs M 15 (paq b x T)) dd) L g) := by
  have hh := hb.1
  unfold WH at hh
  have hi : 0 ≤ b 1 ∧ b 1 ≤ 12 ∧ b 0 ≤ 8 := by omega
  clear hh
  have hLM := (HL_cs hl.2).mp hL
  have w1 : M.1 L 9 = zI (b 1) := hLM.2.1
  obtain ⟨-, -, -, -, -, -, -, -, -, -, -, qa, qb, -, -⟩ := hLM
  have hLT : ∀ T, HL (cs (rs M 15 T) dd) L b := fun T => (HL_cs hl.2).mpr (HL_of (fun a k x y => rs_o (by omega)) ((HL_cs hl.2).mp hL))
  refine (loop_f (lp := fun k r T => lp_X6_plantingCost_30 k 14 L (zI x) c3 c4 r (ps (cs (rs M 15 T) dd) L g) κ) (f := btq b x) (fin := fun T => κ (ps (cs (rs M 15 T) dd) L g)) (fun _ T => okQ T) (N := 60) (R := b 1) (fun k r T hk u v hT => ?_) (fun k T _ _ => ?_) (b 1).toNat 0 T n (by omega) (by omega) (by omega) hT).1
  · have hR := hb.2.1 r u v
    unfold WR at hR
    have ea1 := qa r u v
    have eb1 := qb r u v
    have i1 : 0 ≤ b (10 + r) ∧ b (10 + r) < 8 ∧ 0 ≤ b (22 + r) ∧ b (22 + r) < 8 := by omega
    clear hR
    have ok1 := rlq_ok (b := b) (x := x) (r := r) (t := b (22 + r)) u (by omega) i1.1 i1.2.1 hT
    have ok2 := rlq_ok (b := b) (x := x) (r := r) (t := b (10 + r)) u (by omega) i1.2.2.1 i1.2.2.2 ok1
    refine ⟨?_, ok2⟩
    have T1 := hT (b (10 + r)) i1.1 i1.2.1
    have T2 := hT (b (22 + r)) i1.2.2.1 i1.2.2.2
    have U1 := ok1 (b (10 + r)) i1.1 i1.2.1
    have U2 := ok1 (b (22 + r)) i1.2.2.1 i1.2.2.2
    have m1 := min_rlq (b := b) (T := T) (x := x) (r := r) (f := b (10 + r)) (t := b (22 + r))
    have m2 := min_rlq (b := b) (T := rlq b x r (b (10 + r)) (b (22 + r)) T) (x := x) (r := r) (f := b (22 + r)) (t := b (10 + r))
    have ep := c_paceOf (n := k) (g := g) (hLT T) hg hb h1 h2 u v
    have em := mo_r (b := b) (x := x) u (show r < 12 by omega)
    have es := shl_pw u (show r ≤ 12 by omega)
    unfold btq
    rw [← m2]
    generalize hT1 : rlq b x r (b (10 + r)) (b (22 + r)) T = T' at *
    clear ok1 ok2 hT hT1
    rw [lp_X6_plantingCost_30]
    by_cases hp : paceB b x r = 2
    · have e0 : mo b x r = 4096 + pw r := if_pos hp
      rw [hp] at ep
      rw [e0] at m1 m2 em ⊢
      by_cases y1 : T (b (10 + r)) + (4096 + pw r) < T (b (22 + r))
      · rw [if_pos y1] at m1
        have hv : T' (b (22 + r)) = T (b (10 + r)) + (4096 + pw r) := by rw [← m1, bu_s]
        by_cases y2 : T' (b (22 + r)) + (4096 + pw r) < T' (b (10 + r))
        · rw [if_pos y2]
          simp (disch := first | omega | assumption) only [↓lt, Option.bind_some, zl, ll, zadd, zsub, zmul, zneg, ladd, lsub, lmul, lneg, zltT, zltF, zleT, zleF, zeqT, zeqF, zidx, ixT, zwide, bIT, bIF, if_true, if_false, ↓reduceIte, Nat.reduceAdd, Int.reduceAdd, Int.reduceMul, Int.reduceSub, Int.reduceNeg, cs_c, cs_o, cs_2, cu_c, cu_o, Int.cast_ofNat_Int, ps_f, ps_g, ps_w, ps_o, ps_2, pu_f, pu_g, pu_w, pu_o, uI_s, uI_o, uI_j, uI_j1, uI_j2, uI_tw, or0, true_or, or_true, false_or, or_false, nar0, nar1, rs_o, rs_s, rs_u, w1, ea1, eb1, ep, es, m1]
        · rw [if_neg y2]
          simp (disch := first | omega | assumption) only [↓lt, Option.bind_some, zl, ll, zadd, zsub, zmul, zneg, ladd, lsub, lmul, lneg, zltT, zltF, zleT, zleF, zeqT, zeqF, zidx, ixT, zwide, bIT, bIF, if_true, if_false, ↓reduceIte, Nat.reduceAdd, Int.reduceAdd, Int.reduceMul, Int.reduceSub, Int.reduceNeg, cs_c, cs_o, cs_2, cu_c, cu_o, Int.cast_ofNat_Int, ps_f, ps_g, ps_w, ps_o, ps_2, pu_f, pu_g, pu_w, pu_o, uI_s, uI_o, uI_j, uI_j1, uI_j2, uI_tw, or0, true_or, or_true, false_or, or_false, nar0, nar1, rs_o, rs_s, rs_u, w1, ea1, eb1, ep, es, m1]
      · rw [if_neg y1] at m1
        have hv : T' (b (22 + r)) = T (b (22 + r)) := by rw [← m1, bu_s]
        by_cases y2 : T' (b (22 + r)) + (4096 + pw r) < T' (b (10 + r))
        · rw [if_pos y2]
          simp (disch := first | omega | assumption) only [↓lt, Option.bind_some, zl, ll, zadd, zsub, zmul, zneg, ladd, lsub, lmul, lneg, zltT, zltF, zleT, zleF, zeqT, zeqF, zidx, ixT, zwide, bIT, bIF, if_true, if_false, ↓reduceIte, Nat.reduceAdd, Int.reduceAdd, Int.reduceMul, Int.reduceSub, Int.reduceNeg, cs_c, cs_o, cs_2, cu_c, cu_o, Int.cast_ofNat_Int, ps_f, ps_g, ps_w, ps_o, ps_2, pu_f, pu_g, pu_w, pu_o, uI_s, uI_o, uI_j, uI_j1, uI_j2, uI_tw, or0, true_or, or_true, false_or, or_false, nar0, nar1, rs_o, rs_s, rs_u, w1, ea1, eb1, ep, es, m1]
        · rw [if_neg y2]
          simp (disch := first | omega | assumption) only [↓lt, Option.bind_some, zl, ll, zadd, zsub, zmul, zneg, ladd, lsub, lmul, lneg, zltT, zltF, zleT, zleF, zeqT, zeqF, zidx, ixT, zwide, bIT, bIF, if_true, if_false, ↓reduceIte, Nat.reduceAdd, Int.reduceAdd, Int.reduceMul, Int.reduceSub, Int.reduceNeg, cs_c, cs_o, cs_2, cu_c, cu_o, Int.cast_ofNat_Int, ps_f, ps_g, ps_w, ps_o, ps_2, pu_f, pu_g, pu_w, pu_o, uI_s, uI_o, uI_j, uI_j1, uI_j2, uI_tw, or0, true_or, or_true, false_or, or_false, nar0, nar1, rs_o, rs_s, rs_u, w1, ea1, eb1, ep, es, m1]
    · have e0 : mo b x r = 0 := if_neg hp
      have pr := pace_r (b := b) (p := x) (r := r)
      rw [e0] at m1 m2 em ⊢
      simp only [Int.add_zero] at m1 m2 ⊢
      by_cases y1 : T (b (10 + r)) < T (b (22 + r))
      · rw [if_pos y1] at m1
        have hv : T' (b (22 + r)) = T (b (10 + r)) := by rw [← m1, bu_s]
        by_cases y2 : T' (b (22 + r)) < T' (b (10 + r))
        · rw [if_pos y2]
          simp (disch := first | omega | assumption) only [↓lt, Option.bind_some, zl, ll, zadd, zsub, zmul, zneg, ladd, lsub, lmul, lneg, zltT, zltF, zleT, zleF, zeqT, zeqF, zidx, ixT, zwide, bIT, bIF, if_true, if_false, ↓reduceIte, Nat.reduceAdd, Int.reduceAdd, Int.reduceMul, Int.reduceSub, Int.reduceNeg, cs_c, cs_o, cs_2, cu_c, cu_o, Int.cast_ofNat_Int, ps_f, ps_g, ps_w, ps_o, ps_2, pu_f, pu_g, pu_w, pu_o, uI_s, uI_o, uI_j, uI_j1, uI_j2, uI_tw, or0, true_or, or_true, false_or, or_false, nar0, nar1, rs_o, rs_s, rs_u, w1, ea1, eb1, ep, m1, Int.add_zero]
        · rw [if_neg y2]
          simp (disch := first | omega | assumption) only [↓lt, Option.bind_some, zl, ll, zadd, zsub, zmul, zneg, ladd, lsub, lmul, lneg, zltT, zltF, zleT, zleF, zeqT, zeqF, zidx, ixT, zwide, bIT, bIF, if_true, if_false, ↓reduceIte, Nat.reduceAdd, Int.reduceAdd, Int.reduceMul, Int.reduceSub, Int.reduceNeg, cs_c, cs_o, cs_2, cu_c, cu_o, Int.cast_ofNat_Int, ps_f, ps_g, ps_w, ps_o, ps_2, pu_f, pu_g, pu_w, pu_o, uI_s, uI_o, uI_j, uI_j1, uI_j2, uI_tw, or0, true_or, or_true, false_or, or_false, nar0, nar1, rs_o, rs_s, rs_u, w1, ea1, eb1, ep, m1, Int.add_zero]
      · rw [if_neg y1] at m1
        have hv : T' (b (22 + r)) = T (b (22 + r)) := by rw [← m1, bu_s]
        by_cases y2 : T' (b (22 + r)) < T' (b (10 + r))
        · rw [if_pos y2]
          simp (disch := first | omega | assumption) only [↓lt, Option.bind_some, zl, ll, zadd, zsub, zmul, zneg, ladd, lsub, lmul, lneg, zltT, zltF, zleT, zleF, zeqT, zeqF, zidx, ixT, zwide, bIT, bIF, if_true, if_false, ↓reduceIte, Nat.reduceAdd, Int.reduceAdd, Int.reduceMul, Int.reduceSub, Int.reduceNeg, cs_c, cs_o, cs_2, cu_c, cu_o, Int.cast_ofNat_Int, ps_f, ps_g, ps_w, ps_o, ps_2, pu_f, pu_g, pu_w, pu_o, uI_s, uI_o, uI_j, uI_j1, uI_j2, uI_tw, or0, true_or, or_true, false_or, or_false, nar0, nar1, rs_o, rs_s, rs_u, w1, ea1, eb1, ep, m1, Int.add_zero]
        · rw [if_neg y2]
          simp (disch := first | omega | assumption) only [↓lt, Option.bind_some, zl, ll, zadd, zsub, zmul, zneg, ladd, lsub, lmul, lneg, zltT, zltF, zleT, zleF, zeqT, zeqF, zidx, ixT, zwide, bIT, bIF, if_true, if_false, ↓reduceIte, Nat.reduceAdd, Int.reduceAdd, Int.reduceMul, Int.reduceSub, Int.reduceNeg, cs_c, cs_o, cs_2, cu_c, cu_o, Int.cast_ofNat_Int, ps_f, ps_g, ps_w, ps_o, ps_2, pu_f, pu_g, pu_w, pu_o, uI_s, uI_o, uI_j, uI_j1, uI_j2, uI_tw, or0, true_or, or_true, false_or, or_false, nar0, nar1, rs_o, rs_s, rs_u, w1, ea1, eb1, ep, m1, Int.add_zero]
  · rw [lp_X6_plantingCost_30]
    simp (disch := first | omega | assumption) only [↓lt, Option.bind_some, zl, ll, zadd, zsub, zmul, zneg, ladd, lsub, lmul, lneg, zltT, zltF, zleT, zleF, zeqT, zeqF, zidx, ixT, zwide, bIT, bIF, if_true, if_false, ↓reduceIte, Nat.reduceAdd, Int.reduceAdd, Int.reduceMul, Int.reduceSub, Int.reduceNeg, cs_c, cs_o, cs_2, cu_c, cu_o, Int.cast_ofNat_Int, ps_f, ps_g, ps_w, ps_o, ps_2, pu_f, pu_g, pu_w, pu_o, uI_s, uI_o, uI_j, uI_j1, uI_j2, uI_tw, or0, true_or, or_true, false_or, or_false, nar0, nar1, rs_o, w1]
theorem paq_ok {b T : Int → Int} {x : Int} (hb : WB b) (hT : okQ T) : okQ (paq b x T) := by
  have hh := hb.1
  unfold WH at hh
  refine fI_ind (V := fun T => okQ T) (R := b 1) (fun r T u v hv => ?_) (b 1).toNat 0 T (by omega) (by omega) hT
  have hR := hb.2.1 r u v
  unfold WR at hR
  exact rlq_ok (b := b) (x := x) (r := r) u (by omega) (by omega) (by omega) (rlq_ok (b := b) (x := x) (r := r) u (by omega) (by omega) (by omega) hv)
def itq (b : Int → Int) (x : Int) : Nat → (Int → Int) → Int → Int
  | 0, T => T
  | k + 1, T => itq b x k (paq b x T)
theorem itq_ok {b : Int → Int} {x : Int} (hb : WB b) : ∀ (k : Nat) (T : Int → Int), okQ T → okQ (itq b x k T) := by
  intro k
  induction k with
  | zero => intro T h; exact h
  | succ k ih => intro T h; exact ih _ (paq_ok hb h)
theorem c_plantL {b : Int → Int} {dd : Int → Int} {x : Int} {c3 : Int32} {L : Nat} {M : KM} {g : Int → Int → Int → Int} {κ : KM → Option (Int32 × KM)} (hL : HL (cs M dd) L b) (hl : 23 ≤ L ∧ L ≤ 61) (hg : GR g b) (hb : WB b) (h1 : 0 ≤ x) (h2 : x < b 2) : ∀ (k : Nat) (i : Int) (T : Int → Int) (n : Nat), 1 ≤ i → i + k = b 0 → okQ T → 120 + k < n → lp_X6_plantingCost_18 n 14 L (zI x) c3 (zI i) (ps (cs (rs M 15 T) dd) L g) κ = κ (ps (cs (rs M 15 (itq b x k T)) dd) L g) := by
  have hh := hb.1
  unfold WH at hh
  have hi : 0 ≤ b 0 ∧ b 0 ≤ 8 := by omega
  clear hh
  have w0 : M.1 L 8 = zI (b 0) := ((HL_cs hl.2).mp hL).1
  intro k
  induction k with
  | zero =>
    intro i T n i1 i2 h3 hn
    obtain ⟨m, rfl⟩ : ∃ m, n = m + 1 := ⟨n - 1, by omega⟩
    have : i = b 0 := by omega
    subst this
    rw [lp_X6_plantingCost_18]
    simp (disch := first | omega | assumption) only [↓lt, Option.bind_some, zl, ll, zadd, zsub, zmul, zneg, ladd, lsub, lmul, lneg, zltT, zltF, zleT, zleF, zeqT, zeqF, zidx, ixT, zwide, bIT, bIF, if_true, if_false, ↓reduceIte, Nat.reduceAdd, Int.reduceAdd, Int.reduceMul, Int.reduceSub, Int.reduceNeg, cs_c, cs_o, cs_2, cu_c, cu_o, Int.cast_ofNat_Int, ps_f, ps_g, ps_w, ps_o, ps_2, pu_f, pu_g, pu_w, pu_o, uI_s, uI_o, uI_j, uI_j1, uI_j2, uI_tw, or0, true_or, or_true, false_or, or_false, nar0, nar1, rs_o, w0]
    rfl
  | succ k ih =>
    intro i T n i1 i2 h3 hn
    obtain ⟨m, rfl⟩ : ∃ m, n = m + 1 := ⟨n - 1, by omega⟩
    have e := fun κ => c_plantPass (n := m) (c3 := c3) (c4 := zI i) (κ := κ) (g := g) hL hl hg hb h3 h1 h2 (by omega)
    have ih2 := ih (i + 1) (paq b x T) m (by omega) (by omega) (paq_ok hb h3) (by omega)
    rw [lp_X6_plantingCost_18]
    simp (disch := first | omega | assumption) only [↓lt, Option.bind_some, zl, ll, zadd, zsub, zmul, zneg, ladd, lsub, lmul, lneg, zltT, zltF, zleT, zleF, zeqT, zeqF, zidx, ixT, zwide, bIT, bIF, if_true, if_false, ↓reduceIte, Nat.reduceAdd, Int.reduceAdd, Int.reduceMul, Int.reduceSub, Int.reduceNeg, cs_c, cs_o, cs_2, cu_c, cu_o, Int.cast_ofNat_Int, ps_f, ps_g, ps_w, ps_o, ps_2, pu_f, pu_g, pu_w, pu_o, uI_s, uI_o, uI_j, uI_j1, uI_j2, uI_tw, or0, true_or, or_true, false_or, or_false, nar0, nar1, rs_o, w0, e]
    exact ih2
def PC (b : Int → Int) (x y : Int) : Int := itq b x (b 0 - 1).toNat (T0 (b (58 + x)) 0) y
theorem PC_r {b : Int → Int} {x y : Int} (hb : WB b) (h1 : 0 ≤ y) (h2 : y < 8) : 0 ≤ PC b x y ∧ PC b x y ≤ 1000000000 := by
  have ok0 : okQ (T0 (b (58 + x)) 0) := fun j j1 j2 => by
    unfold T0
    by_cases e : j = b (58 + x)
    · rw [if_pos e]; omega
    · rw [if_neg e]; omega
  exact itq_ok hb _ _ ok0 y h1 h2
theorem c_plantingCost {b : Int → Int} {dd : Int → Int} {x y : Int} {L n : Nat} {M : KM} {g : Int → Int → Int → Int} (hL : HL (cs M dd) L b) (hl : 23 ≤ L ∧ L ≤ 61) (hg : GR g b) (hb : WB b) (h1 : 0 ≤ x) (h2 : x < b 2) (h6 : b (66 + x) = -1) (y1 : 0 ≤ y) (y2 : y < b 0) (hn : 200 < n) : ∃ T, f_X6_plantingCost n 14 L (zI x) (zI y) (ps (cs M dd) L g) = some (zI (PC b x y), ps (cs (rs M 15 T) dd) L g) := by
  have hh := hb.1
  unfold WH at hh
  have hi : 0 ≤ b 0 ∧ b 0 ≤ 8 ∧ b 2 ≤ 8 := by omega
  clear hh
  have gp := hg.1 x h1 h2
  have ez := WPb hb h1 h2
  unfold GP at gp
  have g5 : g x 0 5 = b (58 + x) := by omega
  have i5 : 0 ≤ b (58 + x) ∧ b (58 + x) < b 0 := by omega
  clear gp ez
  have ok0 : okQ (T0 (b (58 + x)) 0) := fun j j1 j2 => by
    unfold T0
    by_cases e : j = b (58 + x)
    · rw [if_pos e]; omega
    · rw [if_neg e]; omega
  have e1 := c_start (n := n) (M := M) (g := g) (f := b (58 + x)) (s := 0) hL hl hb i5.1 i5.2 (by omega)
  have e2 := fun κ => c_plantL (κ := κ) (c3 := zI y) (M := M) (g := g) hL hl hg hb h1 h2 (b 0 - 1).toNat 1 (T0 (b (58 + x)) 0) n (by omega) (by omega) ok0 (by omega)
  have r := PC_r (x := x) hb y1 (show y < 8 by omega)
  refine ⟨itq b x (b 0 - 1).toNat (T0 (b (58 + x)) 0), ?_⟩
  unfold PC at r ⊢
  generalize itq b x (b 0 - 1).toNat (T0 (b (58 + x)) 0) = T at *
  unfold f_X6_plantingCost
  simp (disch := first | omega | assumption) only [↓lt, Option.bind_some, zl, ll, zadd, zsub, zmul, zneg, ladd, lsub, lmul, lneg, zltT, zltF, zleT, zleF, zeqT, zeqF, zidx, ixT, zwide, bIT, bIF, if_true, if_false, ↓reduceIte, Nat.reduceAdd, Int.reduceAdd, Int.reduceMul, Int.reduceSub, Int.reduceNeg, cs_c, cs_o, cs_2, cu_c, cu_o, Int.cast_ofNat_Int, ps_f, ps_g, ps_w, ps_o, ps_2, pu_f, pu_g, pu_w, pu_o, uI_s, uI_o, uI_j, uI_j1, uI_j2, uI_tw, or0, true_or, or_true, false_or, or_false, nar0, nar1, g5, e1, e2, rs_s]

