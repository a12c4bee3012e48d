/-! ===== soonestFirst ===== -/
theorem rs_rs {M : KM} {a : Nat} {T U : Int → Int} : rs (rs M a T) a U = rs M a U := by
  refine Prod.ext ?_ rfl
  funext c k
  show (if c = a ∧ k < 8 then _ else (if c = a ∧ k < 8 then _ else _)) = (if c = a ∧ k < 8 then _ else _)
  by_cases e : c = a ∧ k < 8
  · rw [if_pos e, if_pos e]
  · rw [if_neg e, if_neg e, if_neg e]
theorem TT_far {b : Int → Int} {p q f j : Int} (hb : WB b) : TT b p q f 1000000000 j = 1000000000 := by
  have e : T0 f 1000000000 = fun _ => 1000000000 := by
    funext j
    unfold T0
    by_cases w : j = f
    · rw [if_pos w]
    · rw [if_neg w]
  unfold TT
  rw [e, itP_st]
  refine SF_pass hb (fun r u v => ?_)
  have ra := a2I_r (p := p) (q := q) hb u v (show (0 : Int) ≤ 1000000000 by decide) (Or.inr rfl)
  exact ⟨by omega, by omega⟩
/-- from place i on he is as soon there -/
def fsP (b : Int → Int) (x y : Int) (i : Int) : Bool := decide (0 ≤ btB b (b (58 + x)) i ∧ aI b x (btB b (b (58 + x)) i) (b 5) < 1000000000 ∧ TT b x (-1) i (aI b x (btB b (b (58 + x)) i) (b 5)) y = TT b x (-1) (b (58 + x)) (b 5) y)

theorem fsP_t {b : Int → Int} {x y i : Int} (h1 : 0 ≤ btB b (b (58 + x)) i) (h2 : aI b x (btB b (b (58 + x)) i) (b 5) < 1000000000) (h3 : TT b x (-1) i (aI b x (btB b (b (58 + x)) i) (b 5)) y = TT b x (-1) (b (58 + x)) (b 5) y) : fsP b x y i = true := decide_eq_true ⟨h1, h2, h3⟩
theorem fsP_f {b : Int → Int} {x y i : Int} (h : ¬ (0 ≤ btB b (b (58 + x)) i ∧ aI b x (btB b (b (58 + x)) i) (b 5) < 1000000000 ∧ TT b x (-1) i (aI b x (btB b (b (58 + x)) i) (b 5)) y = TT b x (-1) (b (58 + x)) (b 5) y)) : fsP b x y i = false := decide_eq_false h
theorem c_firstL {b : Int → Int} {dd : Int → Int} {x y : Int} {L : Nat} {M : KM} {g : Int → Int → Int → Int} (hL : HL (cs M dd) L b) (hl : 23 ≤ L ∧ L ≤ 61) (hg : GR g b) (hb : WB b) (h5 : b 5 ≤ 99999) (h1 : 0 ≤ x) (h2 : x < b 2) (h6 : b (66 + x) = -1) (y1 : 0 ≤ y) (y2 : y < b 0) (hT : TT b x (-1) (b (58 + x)) (b 5) y < 1000000000) : ∀ (k : Nat) (i : Int) (U : Int → Int) (n : Nat), 0 ≤ i → i + k = b 0 → 300 + k < n → ∃ U', lp_X6_firstPlaceTo_24 n 14 L (zI x) (zI y) (zI (b (58 + x))) (zI (TT b x (-1) (b (58 + x)) (b 5) y - b 5)) (zI i) (ps (cs (rs M 15 U) dd) L g) = some (zI (fstI (fsP b x y) k i), ps (cs (rs M 15 U') dd) L g) := by
  have hh := hb.1
  unfold WH at hh
  have hi : 0 ≤ b 2 ∧ b 2 ≤ 8 ∧ 0 ≤ b 0 ∧ b 0 ≤ 8 ∧ 0 ≤ b 5 ∧ 0 ≤ b 1 ∧ b 1 ≤ 12 := by omega
  clear hh
  have ez := WPb hb h1 h2
  have i5 : 0 ≤ b (58 + x) ∧ b (58 + x) < b 0 := by omega
  clear ez
  have w0 : M.1 L 8 = zI (b 0) := ((HL_cs hl.2).mp hL).1
  have w5 : M.1 L 11 = zI (b 5) := ((HL_cs hl.2).mp hL).2.2.2.1
  have hLT : ∀ T, HL (cs (rs M 15 T) dd) L b := fun T => (HL_cs hl.2).mpr (HL_of (fun a k x y => rs_o (by omega)) ((HL_cs hl.2).mp hL))
  have tv := TT_v (p := x) (q := -1) (f := b (58 + x)) (s := b 5) (j := y) hb (by omega) (by omega) y1 (by omega)
  intro k
  induction k with
  | zero =>
    intro i U n i1 i2 hn
    obtain ⟨m, rfl⟩ : ∃ m, n = m + 1 := ⟨n - 1, by omega⟩
    refine ⟨U, ?_⟩
    have : i = b 0 := by omega
    subst this
    rw [lp_X6_firstPlaceTo_24]
    simp (disch := first | omega | assumption) only [↓lt, Option.bind_some, zl, ll, zadd, zsub, zmul, zneg, ladd, lsub, lmul, lneg, zltT, zltF, zleT, zleF, zeqT, zeqF, zidx, ixT, zwide, bIT, bIF, if_true, if_false, ↓reduceIte, Nat.reduceAdd, Int.reduceAdd, Int.reduceMul, Int.reduceSub, Int.reduceNeg, cs_c, cs_o, cs_2, cu_c, cu_o, Int.cast_ofNat_Int, ps_f, ps_g, ps_w, ps_o, ps_2, pu_f, pu_g, pu_w, pu_o, uI_s, uI_o, uI_j, uI_j1, uI_j2, uI_tw, or0, true_or, or_true, false_or, or_false, nar0, nar1, rs_o, w0]
    rfl
  | succ k ih =>
    intro i U n i1 i2 hn
    obtain ⟨m, rfl⟩ : ∃ m, n = m + 1 := ⟨n - 1, by omega⟩
    have er := c_roadBetween (n := m) (g := g) (x := b (58 + x)) (y := i) (hLT U) hb (by omega) (by omega) (by omega) (by omega) (by omega)
    have br := btB_r (b := b) (x := b (58 + x)) (y := i) hi.2.2.2.2.2.1
    rw [lp_X6_firstPlaceTo_24]
    by_cases w : 0 ≤ btB b (b (58 + x)) i
    · have ea := c_arrivalBy (n := m) (g := g) (p := x) (r := btB b (b (58 + x)) i) (s := b 5) (hLT U) hg hb h1 h2 w br.2 hi.2.2.2.2.1 (by omega)
      have ra := aI_r (p := x) (r := btB b (b (58 + x)) i) (s := b 5) hb w br.2 hi.2.2.2.2.1 (by omega)
      have ef := c_findTimes (n := m) (M := rs M 15 U) (g := g) (p := x) (q := -1) (f := i) (s := aI b x (btB b (b (58 + x)) i) (b 5)) (hLT U) hl hg hb h1 h2 (Or.inl rfl) i1 (by omega) (by omega) (by omega) (by omega)
      rw [rs_rs] at ef
      by_cases v : aI b x (btB b (b (58 + x)) i) (b 5) < 1000000000
      · have t2 := TT_v (p := x) (q := -1) (f := i) (s := aI b x (btB b (b (58 + x)) i) (b 5)) (j := y) hb (by omega) (by omega) y1 (by omega)
        by_cases u : TT b x (-1) i (aI b x (btB b (b (58 + x)) i) (b 5)) y = TT b x (-1) (b (58 + x)) (b 5) y
        · refine ⟨TT b x (-1) i (aI b x (btB b (b (58 + x)) i) (b 5)), ?_⟩
          have e : fstI (fsP b x y) (k + 1) i = i := if_pos (fsP_t w v u)
          rw [e]
          rw [u] at t2
          generalize btB b (b (58 + x)) i = R at *
          generalize aI b x R (b 5) = A at *
          generalize TT b x (-1) i A = T' at *
          generalize TT b x (-1) (b (58 + x)) (b 5) y = V at *
          clear ra
          unfold f_X6_minutesFrom
          simp (disch := first | omega | assumption) only [↓lt, Option.bind_some, zl, ll, zadd, zsub, zmul, zneg, ladd, lsub, lmul, lneg, zltT, zltF, zleT, zleF, zeqT, zeqF, zidx, ixT, zwide, bIT, bIF, if_true, if_false, ↓reduceIte, Nat.reduceAdd, Int.reduceAdd, Int.reduceMul, Int.reduceSub, Int.reduceNeg, cs_c, cs_o, cs_2, cu_c, cu_o, Int.cast_ofNat_Int, ps_f, ps_g, ps_w, ps_o, ps_2, pu_f, pu_g, pu_w, pu_o, uI_s, uI_o, uI_j, uI_j1, uI_j2, uI_tw, or0, true_or, or_true, false_or, or_false, nar0, nar1, rs_o, rs_s, w0, w5, er, ea, ef, u]
        · obtain ⟨U', ih2⟩ := ih (i + 1) (TT b x (-1) i (aI b x (btB b (b (58 + x)) i) (b 5))) m (by omega) (by omega) (by omega)
          refine ⟨U', ?_⟩
          have e : fstI (fsP b x y) (k + 1) i = fstI (fsP b x y) k (i + 1) := if_neg (by rw [fsP_f (fun z => u z.2.2)]; decide)
          rw [e, ← ih2]
          generalize btB b (b (58 + x)) i = R at *
          generalize aI b x R (b 5) = A at *
          generalize TT b x (-1) i A = T' at *
          generalize TT b x (-1) (b (58 + x)) (b 5) y = V at *
          clear ra ih ih2
          unfold f_X6_minutesFrom
          by_cases u2 : T' y < 1000000000
          · simp (disch := first | omega | assumption) only [↓lt, Option.bind_some, zl, ll, zadd, zsub, zmul, zneg, ladd, lsub, lmul, lneg, zltT, zltF, zleT, zleF, zeqT, zeqF, zidx, ixT, zwide, bIT, bIF, if_true, if_false, ↓reduceIte, Nat.reduceAdd, Int.reduceAdd, Int.reduceMul, Int.reduceSub, Int.reduceNeg, cs_c, cs_o, cs_2, cu_c, cu_o, Int.cast_ofNat_Int, ps_f, ps_g, ps_w, ps_o, ps_2, pu_f, pu_g, pu_w, pu_o, uI_s, uI_o, uI_j, uI_j1, uI_j2, uI_tw, or0, true_or, or_true, false_or, or_false, nar0, nar1, rs_o, rs_s, w0, w5, er, ea, ef]
          · simp (disch := first | omega | assumption) only [↓lt, Option.bind_some, zl, ll, zadd, zsub, zmul, zneg, ladd, lsub, lmul, lneg, zltT, zltF, zleT, zleF, zeqT, zeqF, zidx, ixT, zwide, bIT, bIF, if_true, if_false, ↓reduceIte, Nat.reduceAdd, Int.reduceAdd, Int.reduceMul, Int.reduceSub, Int.reduceNeg, cs_c, cs_o, cs_2, cu_c, cu_o, Int.cast_ofNat_Int, ps_f, ps_g, ps_w, ps_o, ps_2, pu_f, pu_g, pu_w, pu_o, uI_s, uI_o, uI_j, uI_j1, uI_j2, uI_tw, or0, true_or, or_true, false_or, or_false, nar0, nar1, rs_o, rs_s, w0, w5, er, ea, ef]
      · have fa : aI b x (btB b (b (58 + x)) i) (b 5) = 1000000000 := by omega
        rw [fa] at ef ea
        have t2 := TT_far (p := x) (q := -1) (f := i) (j := y) hb
        obtain ⟨U', ih2⟩ := ih (i + 1) (TT b x (-1) i 1000000000) m (by omega) (by omega) (by omega)
        refine ⟨U', ?_⟩
        have e : fstI (fsP b x y) (k + 1) i = fstI (fsP b x y) k (i + 1) := if_neg (by rw [fsP_f (fun z => v z.2.1)]; decide)
        rw [e, ← ih2]
        generalize btB b (b (58 + x)) i = R at *
        generalize TT b x (-1) i 1000000000 = T' at *
        generalize TT b x (-1) (b (58 + x)) (b 5) y = V at *
        clear ra ih ih2 v fa
        unfold f_X6_minutesFrom
        simp (disch := first | omega | assumption) only [↓lt, Option.bind_some, zl, ll, zadd, zsub, zmul, zneg, ladd, lsub, lmul, lneg, zltT, zltF, zleT, zleF, zeqT, zeqF, zidx, ixT, zwide, bIT, bIF, if_true, if_false, ↓reduceIte, Nat.reduceAdd, Int.reduceAdd, Int.reduceMul, Int.reduceSub, Int.reduceNeg, cs_c, cs_o, cs_2, cu_c, cu_o, Int.cast_ofNat_Int, ps_f, ps_g, ps_w, ps_o, ps_2, pu_f, pu_g, pu_w, pu_o, uI_s, uI_o, uI_j, uI_j1, uI_j2, uI_tw, or0, true_or, or_true, false_or, or_false, nar0, nar1, rs_o, rs_s, w0, w5, er, ea, ef, t2]
    · obtain ⟨U', ih2⟩ := ih (i + 1) U m (by omega) (by omega) (by omega)
      refine ⟨U', ?_⟩
      have e : fstI (fsP b x y) (k + 1) i = fstI (fsP b x y) k (i + 1) := if_neg (by rw [fsP_f (fun z => w z.1)]; decide)
      have er2 : btB b (b (58 + x)) i = -1 := by omega
      rw [er2] at er
      rw [e, ← ih2]
      generalize TT b x (-1) (b (58 + x)) (b 5) y = V at *
      clear ih ih2
      simp (disch := first | omega | assumption) only [↓lt, Option.bind_some, zl, ll, zadd, zsub, zmul, zneg, ladd, lsub, lmul, lneg, zltT, zltF, zleT, zleF, zeqT, zeqF, zidx, ixT, zwide, bIT, bIF, if_true, if_false, ↓reduceIte, Nat.reduceAdd, Int.reduceAdd, Int.reduceMul, Int.reduceSub, Int.reduceNeg, cs_c, cs_o, cs_2, cu_c, cu_o, Int.cast_ofNat_Int, ps_f, ps_g, ps_w, ps_o, ps_2, pu_f, pu_g, pu_w, pu_o, uI_s, uI_o, uI_j, uI_j1, uI_j2, uI_tw, or0, true_or, or_true, false_or, or_false, nar0, nar1, rs_o, rs_s, w0, w5, er]
