/-! ===== what must be planted: the reference ===== -/
theorem bS_e {b : Int → Int} : bS b (fun _ => false) = b := by
  funext z
  exact if_neg (fun y => absurd y.2 Bool.false_ne_true)
theorem can_blind {b : Int → Int} {x r : Int} (hb : WB b) (hx : b (106 + x) = 1) (x1 : 0 ≤ x) (h1 : 0 ≤ r) (h2 : r < b 1) : canN b x r ↔ ¬ paceB b x r = 2 := by
  have e := al_can (S := fun _ => false) hb hx x1 h1 h2
  rw [bS_e] at e
  rw [e]
  unfold al
  exact ⟨fun z => z.resolve_left Bool.false_ne_true, Or.inr⟩
theorem m_comesIn {b : Int → Int} {x s : Int} {n : Nat} {X : KM} {c2 c5 : Int32} {κ : Int32 → Option Int32} {P : Int → Bool} (hb : WB b) (hx : b (106 + x) = 1) (h1 : 0 ≤ x) (h2 : x < b 2) (s1 : 0 ≤ s) (s2 : s < 4096) (hn : 60 < n) : lp_X12_comesBy_26 n 227 (zI x) c2 (zI s) c5 (cs X b) (setB P 8) (zI 0) κ = κ (setB (psR (bS b (sB s)) x P) 8) := by
  have hh := hb.1
  unfold WH at hh
  have hi : 0 ≤ b 0 ∧ b 0 ≤ 8 ∧ 0 ≤ b 1 ∧ b 1 ≤ 12 := by omega
  clear hh
  unfold psR
  rw [bS1]
  refine (loop_f (lp := fun k r P => lp_X12_comesBy_26 k 227 (zI x) c2 (zI s) c5 (cs X b) (setB P 8) r κ) (f := stR (bS b (sB s)) x) (fin := fun P => κ (setB P 8)) (fun _ _ => True) (N := 30) (R := b 1) (fun k r P hk u v _ => ⟨?_, trivial⟩) (fun k P _ _ => ?_) (b 1).toNat 0 P n (by omega) (by omega) (by omega) trivial).1
  · have br := bRoad hb u v
    obtain ⟨i1, i2⟩ := br
    have hs := fun M : KM => m_has12 (M := M) s1 s2 u i2
    have ha := fun M : KM => m_hasB (P := P) (M := M) i1.1 i1.2.1
    have hc := fun M : KM => m_hasB (P := P) (M := M) i1.2.2.1 i1.2.2.2
    have e3 := setB_ad (P := P) i1.1 i1.2.1 i1.2.2.1 i1.2.2.2
    have ec := m_canNow (n := k) (M := X) hb h1 h2 u v
    have cb := can_blind hb hx h1 u v
    have e4 : al b x (sB s) r → P (b (10 + r)) = true ∨ P (b (22 + r)) = true → stR (bS b (sB s)) x r P = adA (adA P (b (10 + r))) (b (22 + r)) := fun z y => stR_al hb hx h1 u v ⟨z, y⟩
    have e5 : ¬ (al b x (sB s) r ∧ (P (b (10 + r)) = true ∨ P (b (22 + r)) = true)) → stR (bS b (sB s)) x r P = P := fun z => stR_na hb hx h1 u v z
    rw [lp_X12_comesBy_26]
    by_cases w : sB s r = true
    · simp only [bIT w] at hs
      by_cases wa : P (b (10 + r)) = true
      · rw [e4 (Or.inl w) (Or.inl wa)]
        simp only [bIT wa] at ha
        clear e4 e5 cb
        simp (disch := first | omega | assumption) only [↓lt, Option.bind_some, zl, ll, zadd, zsub, zmul, zneg, ladd, lsub, lmul, lneg, zltT, zltF, zleT, zleF, zeqT, zeqF, zidx, ixT, zwide, bIT, bIF, if_true, if_false, ↓reduceIte, Nat.reduceAdd, Int.reduceAdd, Int.reduceMul, Int.reduceSub, Int.reduceNeg, cs_c, cs_o, cs_2, cu_c, cu_o, Int.cast_ofNat_Int, ps_f, ps_g, ps_w, ps_o, ps_2, pu_f, pu_g, pu_w, pu_o, uI_s, uI_o, uI_j, uI_j1, uI_j2, uI_tw, or0, true_or, or_true, false_or, or_false, nar0, nar1, hs, ha, e3]
      · simp only [bIF wa] at ha
        by_cases wc : P (b (22 + r)) = true
        · rw [e4 (Or.inl w) (Or.inr wc)]
          simp only [bIT wc] at hc
          clear e4 e5 cb
          simp (disch := first | omega | assumption) only [↓lt, Option.bind_some, zl, ll, zadd, zsub, zmul, zneg, ladd, lsub, lmul, lneg, zltT, zltF, zleT, zleF, zeqT, zeqF, zidx, ixT, zwide, bIT, bIF, if_true, if_false, ↓reduceIte, Nat.reduceAdd, Int.reduceAdd, Int.reduceMul, Int.reduceSub, Int.reduceNeg, cs_c, cs_o, cs_2, cu_c, cu_o, Int.cast_ofNat_Int, ps_f, ps_g, ps_w, ps_o, ps_2, pu_f, pu_g, pu_w, pu_o, uI_s, uI_o, uI_j, uI_j1, uI_j2, uI_tw, or0, true_or, or_true, false_or, or_false, nar0, nar1, hs, ha, hc, e3]
        · rw [e5 (fun z => z.2.elim wa wc)]
          simp only [bIF wc] at hc
          clear e4 e5 cb
          simp (disch := first | omega | assumption) only [↓lt, Option.bind_some, zl, ll, zadd, zsub, zmul, zneg, ladd, lsub, lmul, lneg, zltT, zltF, zleT, zleF, zeqT, zeqF, zidx, ixT, zwide, bIT, bIF, if_true, if_false, ↓reduceIte, Nat.reduceAdd, Int.reduceAdd, Int.reduceMul, Int.reduceSub, Int.reduceNeg, cs_c, cs_o, cs_2, cu_c, cu_o, Int.cast_ofNat_Int, ps_f, ps_g, ps_w, ps_o, ps_2, pu_f, pu_g, pu_w, pu_o, uI_s, uI_o, uI_j, uI_j1, uI_j2, uI_tw, or0, true_or, or_true, false_or, or_false, nar0, nar1, hs, ha, hc]
    · simp only [bIF w] at hs
      by_cases w2 : canN b x r
      · rw [bIT w2] at ec
        have w3 := cb.mp w2
        by_cases wa : P (b (10 + r)) = true
        · rw [e4 (Or.inr w3) (Or.inl wa)]
          simp only [bIT wa] at ha
          clear e4 e5 cb
          simp (disch := first | omega | assumption) only [↓lt, Option.bind_some, zl, ll, zadd, zsub, zmul, zneg, ladd, lsub, lmul, lneg, zltT, zltF, zleT, zleF, zeqT, zeqF, zidx, ixT, zwide, bIT, bIF, if_true, if_false, ↓reduceIte, Nat.reduceAdd, Int.reduceAdd, Int.reduceMul, Int.reduceSub, Int.reduceNeg, cs_c, cs_o, cs_2, cu_c, cu_o, Int.cast_ofNat_Int, ps_f, ps_g, ps_w, ps_o, ps_2, pu_f, pu_g, pu_w, pu_o, uI_s, uI_o, uI_j, uI_j1, uI_j2, uI_tw, or0, true_or, or_true, false_or, or_false, nar0, nar1, hs, ec, ha, e3]
        · simp only [bIF wa] at ha
          by_cases wc : P (b (22 + r)) = true
          · rw [e4 (Or.inr w3) (Or.inr wc)]
            simp only [bIT wc] at hc
            clear e4 e5 cb
            simp (disch := first | omega | assumption) only [↓lt, Option.bind_some, zl, ll, zadd, zsub, zmul, zneg, ladd, lsub, lmul, lneg, zltT, zltF, zleT, zleF, zeqT, zeqF, zidx, ixT, zwide, bIT, bIF, if_true, if_false, ↓reduceIte, Nat.reduceAdd, Int.reduceAdd, Int.reduceMul, Int.reduceSub, Int.reduceNeg, cs_c, cs_o, cs_2, cu_c, cu_o, Int.cast_ofNat_Int, ps_f, ps_g, ps_w, ps_o, ps_2, pu_f, pu_g, pu_w, pu_o, uI_s, uI_o, uI_j, uI_j1, uI_j2, uI_tw, or0, true_or, or_true, false_or, or_false, nar0, nar1, hs, ec, ha, hc, e3]
          · rw [e5 (fun z => z.2.elim wa wc)]
            simp only [bIF wc] at hc
            clear e4 e5 cb
            simp (disch := first | omega | assumption) only [↓lt, Option.bind_some, zl, ll, zadd, zsub, zmul, zneg, ladd, lsub, lmul, lneg, zltT, zltF, zleT, zleF, zeqT, zeqF, zidx, ixT, zwide, bIT, bIF, if_true, if_false, ↓reduceIte, Nat.reduceAdd, Int.reduceAdd, Int.reduceMul, Int.reduceSub, Int.reduceNeg, cs_c, cs_o, cs_2, cu_c, cu_o, Int.cast_ofNat_Int, ps_f, ps_g, ps_w, ps_o, ps_2, pu_f, pu_g, pu_w, pu_o, uI_s, uI_o, uI_j, uI_j1, uI_j2, uI_tw, or0, true_or, or_true, false_or, or_false, nar0, nar1, hs, ec, ha, hc]
      · rw [bIF w2] at ec
        rw [e5 (fun z => z.1.elim w (fun y => w2 (cb.mpr y)))]
        clear e4 e5 cb
        simp (disch := first | omega | assumption) only [↓lt, Option.bind_some, zl, ll, zadd, zsub, zmul, zneg, ladd, lsub, lmul, lneg, zltT, zltF, zleT, zleF, zeqT, zeqF, zidx, ixT, zwide, bIT, bIF, if_true, if_false, ↓reduceIte, Nat.reduceAdd, Int.reduceAdd, Int.reduceMul, Int.reduceSub, Int.reduceNeg, cs_c, cs_o, cs_2, cu_c, cu_o, Int.cast_ofNat_Int, ps_f, ps_g, ps_w, ps_o, ps_2, pu_f, pu_g, pu_w, pu_o, uI_s, uI_o, uI_j, uI_j1, uI_j2, uI_tw, or0, true_or, or_true, false_or, or_false, nar0, nar1, hs, ec]
  · rw [lp_X12_comesBy_26]
    simp (disch := first | omega | assumption) only [↓lt, Option.bind_some, zl, ll, zadd, zsub, zmul, zneg, ladd, lsub, lmul, lneg, zltT, zltF, zleT, zleF, zeqT, zeqF, zidx, ixT, zwide, bIT, bIF, if_true, if_false, ↓reduceIte, Nat.reduceAdd, Int.reduceAdd, Int.reduceMul, Int.reduceSub, Int.reduceNeg, cs_c, cs_o, cs_2, cu_c, cu_o, Int.cast_ofNat_Int, ps_f, ps_g, ps_w, ps_o, ps_2, pu_f, pu_g, pu_w, pu_o, uI_s, uI_o, uI_j, uI_j1, uI_j2, uI_tw, or0, true_or, or_true, false_or, or_false, nar0, nar1]
theorem m_comesBy {b : Int → Int} {x y s : Int} {n : Nat} {X : KM} (hb : WB b) (hx : b (106 + x) = 1) (h1 : 0 ≤ x) (h2 : x < b 2) (y1 : 0 ≤ y) (y2 : y < 8) (s1 : 0 ≤ s) (s2 : s < 4096) (hn : 100 < n) : f_X12_comesBy n 227 (zI x) (zI y) (zI s) (cs X b) = some (bI (Rch b x (sB s) y = true)) := by
  have hh := hb.1
  unfold WH at hh
  have hi : b 0 ≤ 8 ∧ b 2 ≤ 8 := by omega
  clear hh
  have ez := WPb hb h1 h2
  have i5 : 0 ≤ b (58 + x) ∧ b (58 + x) < 8 := by omega
  clear ez
  have e := fun κ => (loop_f (lp := fun k r P => lp_X12_comesBy_16 k 227 (zI x) (zI y) (zI s) (cs X b) (setB P 8) r κ) (f := fun _ P => psR (bS b (sB s)) x P) (fin := fun P => κ (setB P 8)) (fun _ _ => True) (N := 80) (R := 8) (fun k r P hk u v _ => ⟨by
    rw [lp_X12_comesBy_16]
    have e := fun κ => m_comesIn (n := k) (X := X) (c2 := zI y) (c5 := zI r) (κ := κ) (P := P) hb hx h1 h2 s1 s2 (by omega)
    simp (disch := first | omega | assumption) only [↓lt, Option.bind_some, zl, ll, zadd, zsub, zmul, zneg, ladd, lsub, lmul, lneg, zltT, zltF, zleT, zleF, zeqT, zeqF, zidx, ixT, zwide, bIT, bIF, if_true, if_false, ↓reduceIte, Nat.reduceAdd, Int.reduceAdd, Int.reduceMul, Int.reduceSub, Int.reduceNeg, cs_c, cs_o, cs_2, cu_c, cu_o, Int.cast_ofNat_Int, ps_f, ps_g, ps_w, ps_o, ps_2, pu_f, pu_g, pu_w, pu_o, uI_s, uI_o, uI_j, uI_j1, uI_j2, uI_tw, or0, true_or, or_true, false_or, or_false, nar0, nar1, e], trivial⟩) (fun k P _ _ => by
    rw [lp_X12_comesBy_16]
    simp (disch := first | omega | assumption) only [↓lt, Option.bind_some, zl, ll, zadd, zsub, zmul, zneg, ladd, lsub, lmul, lneg, zltT, zltF, zleT, zleF, zeqT, zeqF, zidx, ixT, zwide, bIT, bIF, if_true, if_false, ↓reduceIte, Nat.reduceAdd, Int.reduceAdd, Int.reduceMul, Int.reduceSub, Int.reduceNeg, cs_c, cs_o, cs_2, cu_c, cu_o, Int.cast_ofNat_Int, ps_f, ps_g, ps_w, ps_o, ps_2, pu_f, pu_g, pu_w, pu_o, uI_s, uI_o, uI_j, uI_j1, uI_j2, uI_tw, or0, true_or, or_true, false_or, or_false, nar0, nar1]) 8 0 (fun i => decide (i = b (58 + x))) n (by omega) (by omega) (by omega) trivial).1
  have eo := setB_one i5.1 i5.2
  rw [← eo] at e
  have e : ∀ κ, lp_X12_comesBy_16 n 227 (zI x) (zI y) (zI s) (cs X b) (zI 1 <<< (zI (b (58 + x)) &&& zI 31)) (zI 0) κ = κ (setB (Rch b x (sB s)) 8) := e
  have eh := fun M : KM => m_hasB (P := Rch b x (sB s)) (M := M) y1 y2
  unfold f_X12_comesBy
  simp (disch := first | omega | assumption) only [↓lt, Option.bind_some, zl, ll, zadd, zsub, zmul, zneg, ladd, lsub, lmul, lneg, zltT, zltF, zleT, zleF, zeqT, zeqF, zidx, ixT, zwide, bIT, bIF, if_true, if_false, ↓reduceIte, Nat.reduceAdd, Int.reduceAdd, Int.reduceMul, Int.reduceSub, Int.reduceNeg, cs_c, cs_o, cs_2, cu_c, cu_o, Int.cast_ofNat_Int, ps_f, ps_g, ps_w, ps_o, ps_2, pu_f, pu_g, pu_w, pu_o, uI_s, uI_o, uI_j, uI_j1, uI_j2, uI_tw, or0, true_or, or_true, false_or, or_false, nar0, nar1, e, eh]
def ptS (b : Int → Int) (x y s w : Int) : Int := if (w = -1 ∨ sz s < sz w) ∧ Rch b x (sB s) y = true then s else w
def ptB (b : Int → Int) (x y : Int) : Int := fI (ptS b x y) (pw (b 1)).toNat 0 (-1)
theorem sz_rr {s : Int} (h1 : 0 ≤ s) (h2 : s < 4096) : 0 ≤ sz s ∧ sz s ≤ 12 := by
  have hr := sum_rr (f := fun k => if sB s k = true then (1 : Int) else 0) (c := 0) (d := 1) (fun i => by
    by_cases w : sB s i = true
    · simp only [if_pos w]; omega
    · simp only [if_neg w]; omega) 12 0
  have h3 : ((12 : Nat) : Int) * 0 ≤ sz s ∧ sz s ≤ ((12 : Nat) : Int) * 1 := hr
  omega
theorem ptB_r {b : Int → Int} {x y : Int} (hb : WB b) : (ptB b x y = -1 ∧ ∀ s, 0 ≤ s → s < pw (b 1) → ¬ Rch b x (sB s) y = true) ∨ ((0 ≤ ptB b x y ∧ ptB b x y < pw (b 1)) ∧ Rch b x (sB (ptB b x y)) y = true ∧ ∀ s, 0 ≤ s → s < pw (b 1) → Rch b x (sB s) y = true → sz (ptB b x y) < sz s ∨ (sz (ptB b x y) = sz s ∧ ptB b x y ≤ s)) := by
  have hh := hb.1
  unfold WH at hh
  have hp := pw_r (show 0 ≤ b 1 by omega) (show b 1 ≤ 12 by omega)
  have := fI_ix (f := ptS b x y) (V := fun i w => (w = -1 ∧ ∀ s, 0 ≤ s → s < i → ¬ Rch b x (sB s) y = true) ∨ ((0 ≤ w ∧ w < i) ∧ Rch b x (sB w) y = true ∧ ∀ s, 0 ≤ s → s < i → Rch b x (sB s) y = true → sz w < sz s ∨ (sz w = sz s ∧ w ≤ s))) (R := pw (b 1)) (fun i w h1 _ h => ?_) (pw (b 1)).toNat 0 (-1) (by omega) (by omega) (Or.inl ⟨rfl, fun s _ _ => by omega⟩)
  · rw [show (0 : Int) + ((pw (b 1)).toNat : Int) = pw (b 1) by omega] at this
    exact this
  · unfold ptS
    by_cases e : (w = -1 ∨ sz i < sz w) ∧ Rch b x (sB i) y = true
    · rw [if_pos e]
      refine Or.inr ⟨⟨h1, by omega⟩, e.2, fun s s1 s2 s3 => ?_⟩
      by_cases q : s = i
      · rw [q]; exact Or.inr ⟨rfl, Int.le_refl _⟩
      · rcases h with ⟨-, h2⟩ | ⟨a1, a2, a3⟩
        · exact absurd s3 (h2 s s1 (by omega))
        · have := a3 s s1 (by omega) s3
          have := e.1.resolve_left (by omega)
          omega
    · rw [if_neg e]
      rcases h with ⟨h1', h2⟩ | ⟨a1, a2, a3⟩
      · refine Or.inl ⟨h1', fun s s1 s2 s3 => ?_⟩
        by_cases q : s = i
        · rw [q] at s3; exact e ⟨Or.inl h1', s3⟩
        · exact h2 s s1 (by omega) s3
      · refine Or.inr ⟨⟨a1.1, by omega⟩, a2, fun s s1 s2 s3 => ?_⟩
        by_cases q : s = i
        · rw [q] at s3 ⊢
          have : ¬ sz i < sz w := fun z => e ⟨Or.inr z, s3⟩
          omega
        · exact a3 s s1 (by omega) s3
theorem m_planting {b : Int → Int} {x y : Int} {n : Nat} {X : KM} (hb : WB b) (hx : b (106 + x) = 1) (h1 : 0 ≤ x) (h2 : x < b 2) (y1 : 0 ≤ y) (y2 : y < 8) (hn : 4300 < n) : f_X12_planting n 227 (zI x) (zI y) (cs X b) = some (zI (ptB b x y)) := by
  have hh := hb.1
  unfold WH at hh
  have hi : 0 ≤ b 1 ∧ b 1 ≤ 12 := by omega
  clear hh
  have hp := pw_r hi.1 hi.2
  have es := shl_pw hi.1 hi.2
  unfold f_X12_planting
  refine (loop_f (lp := fun k s w => lp_X12_planting_5 k 227 (zI x) (zI y) (cs X b) (zI w) s) (f := ptS b x y) (fin := fun w => some (zI w)) (fun i w => w = -1 ∨ (0 ≤ w ∧ w < i)) (N := 130) (R := pw (b 1)) (fun k s w hk u v hw => ⟨?_, ?_⟩) (fun k w _ _ => ?_) (pw (b 1)).toNat 0 (-1) n (by omega) (by omega) (by omega) (Or.inl rfl)).1
  · have s4 : s < 4096 := by omega
    have ec := m_comesBy (n := k) (X := X) (s := s) hb hx h1 h2 y1 y2 u s4 (by omega)
    have z1 := fun M : KM => m_size12 (n := k) (M := M) u s4 (by omega)
    have r1 := sz_rr u s4
    show lp_X12_planting_5 (k + 1) 227 (zI x) (zI y) (cs X b) (zI w) (zI s) = lp_X12_planting_5 k 227 (zI x) (zI y) (cs X b) (zI (ptS b x y s w)) (zI (s + 1))
    rw [lp_X12_planting_5]
    by_cases q : w = -1
    · by_cases c : Rch b x (sB s) y = true
      · have e : ptS b x y s w = s := if_pos ⟨Or.inl q, c⟩
        rw [e]
        rw [bIT c] at ec
        simp (disch := first | omega | assumption) only [↓lt, Option.bind_some, zl, ll, zadd, zsub, zmul, zneg, ladd, lsub, lmul, lneg, zltT, zltF, zleT, zleF, zeqT, zeqF, zidx, ixT, zwide, bIT, bIF, if_true, if_false, ↓reduceIte, Nat.reduceAdd, Int.reduceAdd, Int.reduceMul, Int.reduceSub, Int.reduceNeg, cs_c, cs_o, cs_2, cu_c, cu_o, Int.cast_ofNat_Int, ps_f, ps_g, ps_w, ps_o, ps_2, pu_f, pu_g, pu_w, pu_o, uI_s, uI_o, uI_j, uI_j1, uI_j2, uI_tw, or0, true_or, or_true, false_or, or_false, nar0, nar1, es, ec]
      · have e : ptS b x y s w = w := if_neg (fun z => c z.2)
        rw [e]
        rw [bIF c] at ec
        simp (disch := first | omega | assumption) only [↓lt, Option.bind_some, zl, ll, zadd, zsub, zmul, zneg, ladd, lsub, lmul, lneg, zltT, zltF, zleT, zleF, zeqT, zeqF, zidx, ixT, zwide, bIT, bIF, if_true, if_false, ↓reduceIte, Nat.reduceAdd, Int.reduceAdd, Int.reduceMul, Int.reduceSub, Int.reduceNeg, cs_c, cs_o, cs_2, cu_c, cu_o, Int.cast_ofNat_Int, ps_f, ps_g, ps_w, ps_o, ps_2, pu_f, pu_g, pu_w, pu_o, uI_s, uI_o, uI_j, uI_j1, uI_j2, uI_tw, or0, true_or, or_true, false_or, or_false, nar0, nar1, es, ec]
    · have hw2 := hw.resolve_left q
      have z2 := fun M : KM => m_size12 (n := k) (M := M) hw2.1 (show w < 4096 by omega) (by omega)
      have r2 := sz_rr hw2.1 (show w < 4096 by omega)
      by_cases l : sz s < sz w
      · by_cases c : Rch b x (sB s) y = true
        · have e : ptS b x y s w = s := if_pos ⟨Or.inr l, c⟩
          rw [e]
          rw [bIT c] at ec
          simp (disch := first | omega | assumption) only [↓lt, Option.bind_some, zl, ll, zadd, zsub, zmul, zneg, ladd, lsub, lmul, lneg, zltT, zltF, zleT, zleF, zeqT, zeqF, zidx, ixT, zwide, bIT, bIF, if_true, if_false, ↓reduceIte, Nat.reduceAdd, Int.reduceAdd, Int.reduceMul, Int.reduceSub, Int.reduceNeg, cs_c, cs_o, cs_2, cu_c, cu_o, Int.cast_ofNat_Int, ps_f, ps_g, ps_w, ps_o, ps_2, pu_f, pu_g, pu_w, pu_o, uI_s, uI_o, uI_j, uI_j1, uI_j2, uI_tw, or0, true_or, or_true, false_or, or_false, nar0, nar1, es, ec, z1, z2]
        · have e : ptS b x y s w = w := if_neg (fun z => c z.2)
          rw [e]
          rw [bIF c] at ec
          simp (disch := first | omega | assumption) only [↓lt, Option.bind_some, zl, ll, zadd, zsub, zmul, zneg, ladd, lsub, lmul, lneg, zltT, zltF, zleT, zleF, zeqT, zeqF, zidx, ixT, zwide, bIT, bIF, if_true, if_false, ↓reduceIte, Nat.reduceAdd, Int.reduceAdd, Int.reduceMul, Int.reduceSub, Int.reduceNeg, cs_c, cs_o, cs_2, cu_c, cu_o, Int.cast_ofNat_Int, ps_f, ps_g, ps_w, ps_o, ps_2, pu_f, pu_g, pu_w, pu_o, uI_s, uI_o, uI_j, uI_j1, uI_j2, uI_tw, or0, true_or, or_true, false_or, or_false, nar0, nar1, es, ec, z1, z2]
      · have e : ptS b x y s w = w := if_neg (fun z => z.1.elim q l)
        rw [e]
        simp (disch := first | omega | assumption) only [↓lt, Option.bind_some, zl, ll, zadd, zsub, zmul, zneg, ladd, lsub, lmul, lneg, zltT, zltF, zleT, zleF, zeqT, zeqF, zidx, ixT, zwide, bIT, bIF, if_true, if_false, ↓reduceIte, Nat.reduceAdd, Int.reduceAdd, Int.reduceMul, Int.reduceSub, Int.reduceNeg, cs_c, cs_o, cs_2, cu_c, cu_o, Int.cast_ofNat_Int, ps_f, ps_g, ps_w, ps_o, ps_2, pu_f, pu_g, pu_w, pu_o, uI_s, uI_o, uI_j, uI_j1, uI_j2, uI_tw, or0, true_or, or_true, false_or, or_false, nar0, nar1, es, z1, z2]
  · unfold ptS
    by_cases e : (w = -1 ∨ sz s < sz w) ∧ Rch b x (sB s) y = true
    · rw [if_pos e]; exact Or.inr ⟨u, by omega⟩
    · rw [if_neg e]; omega
  · show lp_X12_planting_5 (k + 1) 227 (zI x) (zI y) (cs X b) (zI w) (zI (pw (b 1))) = _
    rw [lp_X12_planting_5]
    simp (disch := first | omega | assumption) only [↓lt, Option.bind_some, zl, ll, zadd, zsub, zmul, zneg, ladd, lsub, lmul, lneg, zltT, zltF, zleT, zleF, zeqT, zeqF, zidx, ixT, zwide, bIT, bIF, if_true, if_false, ↓reduceIte, Nat.reduceAdd, Int.reduceAdd, Int.reduceMul, Int.reduceSub, Int.reduceNeg, cs_c, cs_o, cs_2, cu_c, cu_o, Int.cast_ofNat_Int, ps_f, ps_g, ps_w, ps_o, ps_2, pu_f, pu_g, pu_w, pu_o, uI_s, uI_o, uI_j, uI_j1, uI_j2, uI_tw, or0, true_or, or_true, false_or, or_false, nar0, nar1, es]
theorem plant_eq {b : Int → Int} {x y : Int} (hb : WB b) (hx : b (106 + x) = 1) (h1 : 0 ≤ x) (h2 : x < b 2) (y1 : 0 ≤ y) (y2 : y < 8) : (ptB b x y = -1 ∧ PC b x y = 1000000000) ∨ (0 ≤ ptB b x y ∧ ptB b x y < 4096 ∧ 0 ≤ sz (ptB b x y) ∧ sz (ptB b x y) ≤ 12 ∧ PC b x y = 4096 * sz (ptB b x y) + ptB b x y) := by
  have hh := hb.1
  unfold WH at hh
  have hi : 0 ≤ b 1 ∧ b 1 ≤ 12 := by omega
  clear hh
  have hp := pw_r hi.1 hi.2
  have pr := PC_r (x := x) hb y1 y2
  have up : PC b x y < 1000000000 → ∃ s, 0 ≤ s ∧ s < pw (b 1) ∧ Rch b x (sB s) y = true ∧ 4096 * sz s + s ≤ PC b x y := fun h => by
    obtain ⟨U, u1, u2, u3⟩ := upp hb hx h1 h2 h
    have r := nU_r hi.1 hi.2 u1
    refine ⟨nU U, r.1, r.2, ?_, ?_⟩
    · refine Rch_mon hb hx h1 (fun s hs => ?_) u2
      have := u1 s hs
      rw [sB_nU this.1 (by omega)]; exact hs
    · rw [← w_of (fun r hr => by have := u1 r hr; omega)]; exact u3
  rcases ptB_r (x := x) (y := y) hb with ⟨e, h⟩ | ⟨r, c, h⟩
  · refine Or.inl ⟨e, ?_⟩
    by_cases w : PC b x y < 1000000000
    · obtain ⟨s, s1, s2, s3, -⟩ := up w
      exact absurd s3 (h s s1 s2)
    · omega
  · generalize ptB b x y = B at *
    have r4 : B < 4096 := by omega
    have rz := sz_rr r.1 r4
    have lo := low hb hx h1 h2 c
    have wz := w_sz ⟨B.toNat, by omega⟩
    simp only [Int.toNat_of_nonneg r.1] at wz
    rw [wz] at lo
    obtain ⟨s, s1, s2, s3, s4⟩ := up (by omega)
    have := h s s1 s2 s3
    refine Or.inr ⟨r.1, r4, rz.1, rz.2, ?_⟩
    have zs := sz_rr s1 (show s < 4096 by omega)
    omega
