/-! ===== pairs: one asks, in both ===== -/
def pq (M : KM) (r s : Nat) (m : Int → Int) (A : Int → Int → Bool) : KM := (fun c k => if c = r ∧ k < 8 then zI (m k) else if c = s ∧ k < 8 then setB (A k) 8 else M.1 c k, M.2)
theorem pq_m {M : KM} {r s : Nat} {m : Int → Int} {A : Int → Int → Bool} {j : Int} (h1 : 0 ≤ j) (h2 : j < 8) : (pq M r s m A).1 r j.toNat = zI (m j) := by
  show (if r = r ∧ j.toNat < 8 then _ else _) = _
  rw [if_pos ⟨rfl, by omega⟩, Int.toNat_of_nonneg h1]
theorem pq_a {M : KM} {r s : Nat} {m : Int → Int} {A : Int → Int → Bool} {j : Int} (hrs : ¬ s = r) (h1 : 0 ≤ j) (h2 : j < 8) : (pq M r s m A).1 s j.toNat = setB (A j) 8 := by
  show (if s = r ∧ j.toNat < 8 then _ else if s = s ∧ j.toNat < 8 then _ else _) = _
  rw [if_neg (fun z => hrs z.1), if_pos ⟨rfl, by omega⟩, Int.toNat_of_nonneg h1]
theorem pq_o {M : KM} {r s c k : Nat} {m : Int → Int} {A : Int → Int → Bool} (h1 : ¬ c = r) (h2 : ¬ c = s) : (pq M r s m A).1 c k = M.1 c k := by
  show (if c = r ∧ k < 8 then _ else if c = s ∧ k < 8 then _ else _) = _
  rw [if_neg (fun z => h1 z.1), if_neg (fun z => h2 z.1)]
theorem pq_2 {M : KM} {r s : Nat} {m : Int → Int} {A : Int → Int → Bool} : (pq M r s m A).2 = M.2 := rfl
theorem pq_um {M : KM} {r s : Nat} {m : Int → Int} {A : Int → Int → Bool} {j v : Int} (h1 : 0 ≤ j) (h2 : j < 8) : uI (pq M r s m A) r j.toNat (zI v) = pq M r s (bu m j v) A := by
  refine Prod.ext ?_ rfl
  funext c k
  by_cases e : c = r ∧ k = j.toNat
  · rw [e.1, e.2, uI_s, pq_m h1 h2, bu_s]
  · rw [uI_o e]
    show (if c = r ∧ k < 8 then _ else _) = (if c = r ∧ k < 8 then _ else _)
    by_cases w : c = r ∧ k < 8
    · rw [if_pos w, if_pos w, bu_o (fun z => e ⟨w.1, by omega⟩)]
    · rw [if_neg w, if_neg w]
theorem pq_uA {M : KM} {r s : Nat} {m : Int → Int} {A : Int → Int → Bool} {p q : Int} (hrs : ¬ s = r) (h1 : 0 ≤ p) (h2 : p < 8) : uI (pq M r s m A) s p.toNat (setB (adA (A p) q) 8) = pq M r s m (adP A p q) := by
  refine Prod.ext ?_ rfl
  funext c k
  by_cases e : c = s ∧ k = p.toNat
  · rw [e.1, e.2, uI_s, pq_a hrs h1 h2]
    unfold adP
    rw [if_pos rfl]
  · rw [uI_o e]
    show (if c = r ∧ k < 8 then _ else if c = s ∧ k < 8 then _ else _) = (if c = r ∧ k < 8 then _ else if c = s ∧ k < 8 then _ else _)
    by_cases w : c = s ∧ k < 8
    · have nr : ¬ (c = r ∧ k < 8) := fun z => hrs (w.1.symm.trans z.1)
      rw [if_neg nr, if_neg nr, if_pos w, if_pos w]
      unfold adP
      rw [if_neg (fun z => e ⟨w.1, by omega⟩)]
    · rw [if_neg w, if_neg w]
theorem one0 : ∀ q : Fin 8, ¬ zI 1 <<< (zI (q.val : Int) &&& zI 31) = zI 0 := by decide
theorem and0 {P : Int → Bool} {q : Int} (h1 : 0 ≤ q) (h2 : q < 8) : (setB P 8 &&& (zI 1 <<< (zI q &&& zI 31)) = zI 0) ↔ P q = false := by
  rw [setB_and h1 h2]
  have := one0 ⟨q.toNat, by omega⟩
  simp only [Int.toNat_of_nonneg h1] at this
  cases h : P q with
  | true => rw [if_pos rfl]; exact ⟨fun z => absurd z this, fun z => absurd z (by decide)⟩
  | false => rw [if_neg (by decide)]; exact ⟨fun _ => rfl, fun _ => rfl⟩
theorem c_likes {b : Int → Int} {w x y : Int} {L n : Nat} {M : KM} {g : Int → Int → Int → Int} (hg : GR g b) (hb : WB b) (w1 : 0 ≤ w) (w2 : w < b 2) (x1 : 0 ≤ x) (x2 : x < b 2) (y1 : 0 ≤ y) (y2 : y < b 2) : f_X5_likes n L (zI w) (zI x) (zI y) (ps M L g) = some (bI (lk b w x y)) := by
  have hh := hb.1
  unfold WH at hh
  have hi : b 2 ≤ 8 := by omega
  clear hh
  have e1 := hg.2.2.1 x w x1 x2 w1 w2
  have e2 := hg.2.2.1 y w y1 y2 w1 w2
  have r1 := hb.2.2.2.2.1 x w x1 (by omega) w1 (by omega)
  have r2 := hb.2.2.2.2.1 y w y1 (by omega) w1 (by omega)
  have r1 : -9999 ≤ b (226 + 8 * x + w) ∧ b (226 + 8 * x + w) ≤ 9999 := ⟨r1.1, r1.2.1⟩
  have r2 : -9999 ≤ b (226 + 8 * y + w) ∧ b (226 + 8 * y + w) ≤ 9999 := ⟨r2.1, r2.2.1⟩
  unfold f_X5_likes
  unfold lk
  generalize b (226 + 8 * x + w) = u at *
  generalize b (226 + 8 * y + w) = v at *
  by_cases h1 : v < u
  · rw [bIT (Or.inl h1)]
    simp (disch := first | omega | assumption) only [↓lt, Option.bind_some, zl, ll, zadd, zsub, zmul, zneg, ladd, lsub, lmul, lneg, zltT, zltF, zleT, zleF, zeqT, zeqF, zidx, ixT, zwide, bIT, bIF, if_true, if_false, ↓reduceIte, Nat.reduceAdd, Int.reduceAdd, Int.reduceMul, Int.reduceSub, Int.reduceNeg, cs_c, cs_o, cs_2, cu_c, cu_o, Int.cast_ofNat_Int, ps_f, ps_g, ps_w, ps_o, ps_2, pu_f, pu_g, pu_w, pu_o, uI_s, uI_o, uI_j, uI_j1, uI_j2, uI_tw, or0, true_or, or_true, false_or, or_false, nar0, nar1, e1, e2]
  · by_cases h2 : u = v
    · by_cases h3 : x < y
      · rw [bIT (Or.inr ⟨h2, h3⟩)]
        simp (disch := first | omega | assumption) only [↓lt, Option.bind_some, zl, ll, zadd, zsub, zmul, zneg, ladd, lsub, lmul, lneg, zltT, zltF, zleT, zleF, zeqT, zeqF, zidx, ixT, zwide, bIT, bIF, if_true, if_false, ↓reduceIte, Nat.reduceAdd, Int.reduceAdd, Int.reduceMul, Int.reduceSub, Int.reduceNeg, cs_c, cs_o, cs_2, cu_c, cu_o, Int.cast_ofNat_Int, ps_f, ps_g, ps_w, ps_o, ps_2, pu_f, pu_g, pu_w, pu_o, uI_s, uI_o, uI_j, uI_j1, uI_j2, uI_tw, or0, true_or, or_true, false_or, or_false, nar0, nar1, e1, e2]
      · rw [bIF (by omega)]
        simp (disch := first | omega | assumption) only [↓lt, Option.bind_some, zl, ll, zadd, zsub, zmul, zneg, ladd, lsub, lmul, lneg, zltT, zltF, zleT, zleF, zeqT, zeqF, zidx, ixT, zwide, bIT, bIF, if_true, if_false, ↓reduceIte, Nat.reduceAdd, Int.reduceAdd, Int.reduceMul, Int.reduceSub, Int.reduceNeg, cs_c, cs_o, cs_2, cu_c, cu_o, Int.cast_ofNat_Int, ps_f, ps_g, ps_w, ps_o, ps_2, pu_f, pu_g, pu_w, pu_o, uI_s, uI_o, uI_j, uI_j1, uI_j2, uI_tw, or0, true_or, or_true, false_or, or_false, nar0, nar1, e1, e2]
    · rw [bIF (by omega)]
      simp (disch := first | omega | assumption) only [↓lt, Option.bind_some, zl, ll, zadd, zsub, zmul, zneg, ladd, lsub, lmul, lneg, zltT, zltF, zleT, zleF, zeqT, zeqF, zidx, ixT, zwide, bIT, bIF, if_true, if_false, ↓reduceIte, Nat.reduceAdd, Int.reduceAdd, Int.reduceMul, Int.reduceSub, Int.reduceNeg, cs_c, cs_o, cs_2, cu_c, cu_o, Int.cast_ofNat_Int, ps_f, ps_g, ps_w, ps_o, ps_2, pu_f, pu_g, pu_w, pu_o, uI_s, uI_o, uI_j, uI_j1, uI_j2, uI_tw, or0, true_or, or_true, false_or, or_false, nar0, nar1, e1, e2]
theorem c_likesN {w x : Int32} {L n : Nat} {M : KM} : f_X5_likes n L w x (zI (-1)) M = some (zI 1) := by
  unfold f_X5_likes
  simp (disch := first | omega | assumption) only [↓lt, Option.bind_some, zl, ll, zadd, zsub, zmul, zneg, ladd, lsub, lmul, lneg, zltT, zltF, zleT, zleF, zeqT, zeqF, zidx, ixT, zwide, bIT, bIF, if_true, if_false, ↓reduceIte, Nat.reduceAdd, Int.reduceAdd, Int.reduceMul, Int.reduceSub, Int.reduceNeg, cs_c, cs_o, cs_2, cu_c, cu_o, Int.cast_ofNat_Int, ps_f, ps_g, ps_w, ps_o, ps_2, pu_f, pu_g, pu_w, pu_o, uI_s, uI_o, uI_j, uI_j1, uI_j2, uI_tw, or0, true_or, or_true, false_or, or_false, nar0, nar1]
theorem nxS_b {b : Int → Int} {p i w : Int} {P : Int → Bool} (h1 : w = -1 ∨ (0 ≤ w ∧ w < b 2)) (h2 : 0 ≤ i ∧ i < b 2) : nxS b p P i w = -1 ∨ (0 ≤ nxS b p P i w ∧ nxS b p P i w < b 2) := by
  unfold nxS
  by_cases e : bld b i ∧ P i = false ∧ (w = -1 ∨ lk b p i w)
  · rw [if_pos e]; exact Or.inr h2
  · rw [if_neg e]; exact h1
theorem c_next {b : Int → Int} {dd : Int → Int} {p : Int} {L n : Nat} {M : KM} {g : Int → Int → Int → Int} {m : Int → Int} {A : Int → Int → Bool} {κ : Int32 → Option KM} (hL : HL (cs M dd) L b) (hl : 23 ≤ L ∧ L ≤ 61) (hg : GR g b) (hb : WB b) (p1 : 0 ≤ p) (p2 : p < b 2) (hn : 20 < n) : lp_X5_askNext_5 n 19 L (zI p) (ps (cs (pq M 20 21 m A) dd) L g) (zI (-1)) (zI 0) κ = κ (zI (nx b p (A p))) := by
  have hh := hb.1
  unfold WH at hh
  have hi : 0 ≤ b 2 ∧ b 2 ≤ 8 := by omega
  clear hh
  have w2 : M.1 L 10 = zI (b 2) := ((HL_cs hl.2).mp hL).2.2.1
  refine (loop_f (lp := fun k i w => lp_X5_askNext_5 k 19 L (zI p) (ps (cs (pq M 20 21 m A) dd) L g) (zI w) i κ) (f := nxS b p (A p)) (fin := fun w => κ (zI w)) (fun _ w => w = -1 ∨ (0 ≤ w ∧ w < b 2)) (N := 1) (R := b 2) (fun k i w hk u v hw => ⟨?_, nxS_b hw ⟨u, v⟩⟩) (fun k w _ _ => ?_) (b 2).toNat 0 (-1) n (by omega) (by omega) (by omega) (Or.inl rfl)).1
  · have gp := hg.1 i u v
    have ez := WPb hb u v
    unfold GP at gp
    have g3 : g i 0 3 = 1 - b (106 + i) := gp.1
    have i3 : 0 ≤ b (106 + i) ∧ b (106 + i) ≤ 1 := by omega
    clear gp ez
    have ea := and0 (P := A p) u (show i < 8 by omega)
    have el := fun (h : 0 ≤ w) => c_likes (L := L) (n := k) (M := cs (pq M 20 21 m A) dd) (w := p) (x := i) (y := w) hg hb p1 p2 u v h (by omega)
    have el0 := fun x => c_likesN (w := zI p) (x := x) (L := L) (n := k) (M := ps (cs (pq M 20 21 m A) dd) L g)
    show lp_X5_askNext_5 (k + 1) 19 L (zI p) (ps (cs (pq M 20 21 m A) dd) L g) (zI w) (zI i) κ = lp_X5_askNext_5 k 19 L (zI p) (ps (cs (pq M 20 21 m A) dd) L g) (zI (nxS b p (A p) i w)) (zI (i + 1)) κ
    rw [lp_X5_askNext_5]
    by_cases h1 : b (106 + i) = 1
    · by_cases h2 : A p i = false
      · have ea2 := ea.mpr h2
        by_cases h3 : w = -1
        · have en : nxS b p (A p) i w = i := if_pos ⟨⟨u, v, h1⟩, h2, Or.inl h3⟩
          rw [en]
          subst h3
          clear ea el
          simp (disch := first | omega | assumption) only [↓lt, Option.bind_some, zl, ll, zadd, zsub, zmul, zneg, ladd, lsub, lmul, lneg, zltT, zltF, zleT, zleF, zeqT, zeqF, zidx, ixT, zwide, bIT, bIF, if_true, if_false, ↓reduceIte, Nat.reduceAdd, Int.reduceAdd, Int.reduceMul, Int.reduceSub, Int.reduceNeg, cs_c, cs_o, cs_2, cu_c, cu_o, Int.cast_ofNat_Int, ps_f, ps_g, ps_w, ps_o, ps_2, pu_f, pu_g, pu_w, pu_o, uI_s, uI_o, uI_j, uI_j1, uI_j2, uI_tw, or0, true_or, or_true, false_or, or_false, nar0, nar1, pq_m, pq_a, pq_o, pq_um, pq_uA, w2, g3, ea2, el0]
        · have el1 := el (by omega)
          by_cases h4 : lk b p i w
          · have en : nxS b p (A p) i w = i := if_pos ⟨⟨u, v, h1⟩, h2, Or.inr h4⟩
            rw [en]
            rw [bIT h4] at el1
            clear ea el h4
            simp (disch := first | omega | assumption) only [↓lt, Option.bind_some, zl, ll, zadd, zsub, zmul, zneg, ladd, lsub, lmul, lneg, zltT, zltF, zleT, zleF, zeqT, zeqF, zidx, ixT, zwide, bIT, bIF, if_true, if_false, ↓reduceIte, Nat.reduceAdd, Int.reduceAdd, Int.reduceMul, Int.reduceSub, Int.reduceNeg, cs_c, cs_o, cs_2, cu_c, cu_o, Int.cast_ofNat_Int, ps_f, ps_g, ps_w, ps_o, ps_2, pu_f, pu_g, pu_w, pu_o, uI_s, uI_o, uI_j, uI_j1, uI_j2, uI_tw, or0, true_or, or_true, false_or, or_false, nar0, nar1, pq_m, pq_a, pq_o, pq_um, pq_uA, w2, g3, ea2, el1]
          · have en : nxS b p (A p) i w = w := if_neg (fun z => z.2.2.elim h3 h4)
            rw [en]
            rw [bIF h4] at el1
            clear ea el h4
            simp (disch := first | omega | assumption) only [↓lt, Option.bind_some, zl, ll, zadd, zsub, zmul, zneg, ladd, lsub, lmul, lneg, zltT, zltF, zleT, zleF, zeqT, zeqF, zidx, ixT, zwide, bIT, bIF, if_true, if_false, ↓reduceIte, Nat.reduceAdd, Int.reduceAdd, Int.reduceMul, Int.reduceSub, Int.reduceNeg, cs_c, cs_o, cs_2, cu_c, cu_o, Int.cast_ofNat_Int, ps_f, ps_g, ps_w, ps_o, ps_2, pu_f, pu_g, pu_w, pu_o, uI_s, uI_o, uI_j, uI_j1, uI_j2, uI_tw, or0, true_or, or_true, false_or, or_false, nar0, nar1, pq_m, pq_a, pq_o, pq_um, pq_uA, w2, g3, ea2, el1]
      · have ea2 : ¬ (setB (A p) 8 &&& (zI 1 <<< (zI i &&& zI 31)) = zI 0) := fun z => h2 (ea.mp z)
        have en : nxS b p (A p) i w = w := if_neg (fun z => h2 z.2.1)
        rw [en]
        clear ea el
        simp (disch := first | omega | assumption) only [↓lt, Option.bind_some, zl, ll, zadd, zsub, zmul, zneg, ladd, lsub, lmul, lneg, zltT, zltF, zleT, zleF, zeqT, zeqF, zidx, ixT, zwide, bIT, bIF, if_true, if_false, ↓reduceIte, Nat.reduceAdd, Int.reduceAdd, Int.reduceMul, Int.reduceSub, Int.reduceNeg, cs_c, cs_o, cs_2, cu_c, cu_o, Int.cast_ofNat_Int, ps_f, ps_g, ps_w, ps_o, ps_2, pu_f, pu_g, pu_w, pu_o, uI_s, uI_o, uI_j, uI_j1, uI_j2, uI_tw, or0, true_or, or_true, false_or, or_false, nar0, nar1, pq_m, pq_a, pq_o, pq_um, pq_uA, w2, g3, ea2]
    · have en : nxS b p (A p) i w = w := if_neg (fun z => h1 z.1.2.2)
      rw [en]
      clear ea el
      simp (disch := first | omega | assumption) only [↓lt, Option.bind_some, zl, ll, zadd, zsub, zmul, zneg, ladd, lsub, lmul, lneg, zltT, zltF, zleT, zleF, zeqT, zeqF, zidx, ixT, zwide, bIT, bIF, if_true, if_false, ↓reduceIte, Nat.reduceAdd, Int.reduceAdd, Int.reduceMul, Int.reduceSub, Int.reduceNeg, cs_c, cs_o, cs_2, cu_c, cu_o, Int.cast_ofNat_Int, ps_f, ps_g, ps_w, ps_o, ps_2, pu_f, pu_g, pu_w, pu_o, uI_s, uI_o, uI_j, uI_j1, uI_j2, uI_tw, or0, true_or, or_true, false_or, or_false, nar0, nar1, pq_m, pq_a, pq_o, pq_um, pq_uA, w2, g3]
  · show lp_X5_askNext_5 (k + 1) 19 L (zI p) (ps (cs (pq M 20 21 m A) dd) L g) (zI w) (zI (b 2)) κ = _
    rw [lp_X5_askNext_5]
    simp (disch := first | omega | assumption) only [↓lt, Option.bind_some, zl, ll, zadd, zsub, zmul, zneg, ladd, lsub, lmul, lneg, zltT, zltF, zleT, zleF, zeqT, zeqF, zidx, ixT, zwide, bIT, bIF, if_true, if_false, ↓reduceIte, Nat.reduceAdd, Int.reduceAdd, Int.reduceMul, Int.reduceSub, Int.reduceNeg, cs_c, cs_o, cs_2, cu_c, cu_o, Int.cast_ofNat_Int, ps_f, ps_g, ps_w, ps_o, ps_2, pu_f, pu_g, pu_w, pu_o, uI_s, uI_o, uI_j, uI_j1, uI_j2, uI_tw, or0, true_or, or_true, false_or, or_false, nar0, nar1, pq_m, pq_a, pq_o, pq_um, pq_uA, w2]
theorem setB_adA {P : Int → Bool} {q : Int} (h1 : 0 ≤ q) (h2 : q < 8) : setB P 8 ||| (zI 1 <<< (zI q &&& zI 31)) = setB (adA P q) 8 := setB_add h1 h2 adA_s (fun i hi => adA_o hi)

