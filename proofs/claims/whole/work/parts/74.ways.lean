/-! ===== in how many ways ===== -/
def js (M : KM) (a : Nat) (W : Int → Int64) : KM := (M.1, (fun c k => if c = a ∧ k < 8 then W k else M.2.1 c k), M.2.2)
def ju (b : Int → Int64) (e : Int) (v : Int64) : Int → Int64 := fun z => if z = e then v else b z
theorem ju_s {b : Int → Int64} {e : Int} {v : Int64} : ju b e v e = v := if_pos rfl
theorem ju_o {b : Int → Int64} {e z : Int} {v : Int64} (h : ¬ z = e) : ju b e v z = b z := if_neg h
theorem js_s {M : KM} {a : Nat} {W : Int → Int64} {z : Int} (h : 0 ≤ z) (h2 : z < 8) : (js M a W).2.1 a z.toNat = W z := by
  show (if a = a ∧ z.toNat < 8 then _ else _) = _
  rw [if_pos ⟨rfl, by omega⟩, Int.toNat_of_nonneg h]
theorem js_o {M : KM} {a c k : Nat} {W : Int → Int64} (h : ¬ c = a) : (js M a W).2.1 c k = M.2.1 c k := if_neg (fun z => h z.1)
theorem js_1 {M : KM} {a : Nat} {W : Int → Int64} : (js M a W).1 = M.1 := rfl
theorem js_22 {M : KM} {a : Nat} {W : Int → Int64} : (js M a W).2.2 = M.2.2 := rfl
theorem js_c {M : KM} {a : Nat} {T U : Int → Int64} (h : ∀ j, 0 ≤ j → j < 8 → T j = U j) : js M a T = js M a U := by
  refine Prod.ext rfl (Prod.ext ?_ rfl)
  funext c k
  show (if c = a ∧ k < 8 then _ else _) = (if c = a ∧ k < 8 then _ else _)
  by_cases e : c = a ∧ k < 8
  · rw [if_pos e, if_pos e, h _ (by omega) (by omega)]
  · rw [if_neg e, if_neg e]
theorem js_ex (M : KM) (a : Nat) : M = js M a (fun z => M.2.1 a z.toNat) := by
  refine Prod.ext rfl (Prod.ext ?_ rfl)
  funext c k
  show _ = (if c = a ∧ k < 8 then _ else _)
  by_cases e : c = a ∧ k < 8
  · rw [if_pos e, e.1, Int.toNat_natCast]
  · rw [if_neg e]
theorem js_u {M : KM} {a : Nat} {W : Int → Int64} {z : Int} {v : Int64} (h : 0 ≤ z) (h2 : z < 8) : uJ (js M a W) a z.toNat v = js M a (ju W z v) := by
  refine Prod.ext rfl (Prod.ext ?_ rfl)
  funext c k
  by_cases e : c = a
  · subst e
    by_cases e2 : k = z.toNat
    · subst e2
      rw [uJ_s, js_s h h2, ju_s]
    · rw [uJ_o (fun z => e2 z.2)]
      show (if c = c ∧ k < 8 then _ else _) = (if c = c ∧ k < 8 then _ else _)
      by_cases e3 : k < 8
      · rw [if_pos ⟨rfl, e3⟩, if_pos ⟨rfl, e3⟩, ju_o (by omega)]
      · rw [if_neg (fun z => e3 z.2), if_neg (fun z => e3 z.2)]
  · rw [uJ_o (fun z => e z.1), js_o e, js_o e]
theorem js_ou {M : KM} {a c k : Nat} {W : Int → Int64} {v : Int64} (h : ¬ c = a) : uJ (js M a W) c k v = js (uJ M c k v) a W := by
  refine Prod.ext rfl (Prod.ext ?_ rfl)
  funext d i
  by_cases e : d = c ∧ i = k
  · rw [e.1, e.2, uJ_s, js_o h, uJ_s]
  · rw [uJ_o e]
    show (if d = a ∧ i < 8 then _ else _) = (if d = a ∧ i < 8 then _ else (uJ M c k v).2.1 d i)
    rw [uJ_o e]
theorem uJ_ps {M : KM} {L a k : Nat} {g : Int → Int → Int → Int} {v : Int64} : uJ (ps M L g) a k v = ps (uJ M a k v) L g := rfl
theorem uJ_cs {M : KM} {b : Int → Int} {a k : Nat} {v : Int64} : uJ (cs M b) a k v = cs (uJ M a k v) b := rfl
theorem uR_ps {M : KM} {L a k v : Nat} {g : Int → Int → Int → Int} : uR (ps M L g) a k v = ps (uR M a k v) L g := rfl
theorem uR_cs {M : KM} {b : Int → Int} {a k v : Nat} : uR (cs M b) a k v = cs (uR M a k v) b := rfl
theorem fI_ju {v : Int → Int64} : ∀ (k : Nat) (i : Int) (T : Int → Int64) (j : Int), fI (fun i T => ju T i (v i)) k i T j = if i ≤ j ∧ j < i + k then v j else T j := by
  intro k
  induction k with
  | zero => intro i T j; rw [if_neg (by omega)]; rfl
  | succ k ih =>
    intro i T j
    show fI (fun i T => ju T i (v i)) k (i + 1) (ju T i (v i)) j = _
    rw [ih]
    by_cases e : j = i
    · rw [if_neg (by omega), if_pos (by omega), e, ju_s]
    · by_cases w : i + 1 ≤ j ∧ j < i + 1 + k
      · rw [if_pos w, if_pos (by omega)]
      · rw [if_neg w, if_neg (by omega), ju_o e]
theorem js_fill {M : KM} {a : Nat} {v T : Int → Int64} : js M a (fI (fun i T => ju T i (v i)) 8 0 T) = js M a v := js_c (fun j j1 j2 => by rw [fI_ju, if_pos (by omega)])
/-- one road more, W ways so far -/
def wyS (b : Int → Int) (x : Int) (W : Int → Int64) (r : Int) (V : Int → Int64) : Int → Int64 := if paceB b x r = 2 then V else ju (ju V (b (22 + r)) (V (b (22 + r)) + W (b (10 + r)))) (b (10 + r)) (V (b (10 + r)) + W (b (22 + r)))
theorem wyS_t {b : Int → Int} {x r : Int} {W V : Int → Int64} (h : paceB b x r = 2) : wyS b x W r V = V := if_pos h
theorem wyS_f {b : Int → Int} {x r : Int} {W V : Int → Int64} (h : ¬ paceB b x r = 2) : wyS b x W r V = ju (ju V (b (22 + r)) (V (b (22 + r)) + W (b (10 + r)))) (b (10 + r)) (V (b (10 + r)) + W (b (22 + r))) := if_neg h
def wy1 (b : Int → Int) (x : Int) (W : Int → Int64) : Int → Int64 := fI (wyS b x W) (b 1).toNat 0 (fun _ => lI 0)
theorem ju_cm {V : Int → Int64} {a c : Int} {v w : Int64} (h : ¬ a = c) : ju (ju V a v) c w = ju (ju V c w) a v := by
  funext z
  by_cases e : z = a
  · rw [ju_o (by omega), e, ju_s, ju_s]
  · by_cases e2 : z = c
    · rw [e2, ju_s, ju_o (by omega), ju_s]
    · rw [ju_o e2, ju_o e, ju_o e, ju_o e2]
theorem can_pace {b : Int → Int} {p r : Int} (h1 : 0 ≤ b (106 + p)) (h2 : b (106 + p) ≤ 1) (h3 : 0 ≤ b (46 + r)) (h4 : b (46 + r) ≤ 1) : canB b p r False ↔ ¬ paceB b p r = 2 := by
  unfold paceB
  by_cases w : b (106 + p) = 0
  · by_cases v : b (98 + p) = 0 ∧ b 9 = 0
    · simp [canB, w, v]
    · simp [canB, w, v]
  · by_cases v : b (46 + r) = 0
    · by_cases u : b (130 + 12 * p + r) < b 7
      · simp [canB, w, v, u] <;> omega
      · simp [canB, w, v, u] <;> omega
    · simp [canB, w, v] <;> omega
theorem c_wayRoads {b : Int → Int} {x : Int} {L A B n : Nat} {N : KM} {g : Int → Int → Int → Int} {W : Int → Int64} {κ : KM → Option KM} (hL : HL (cs N b) L b) (hl : 23 ≤ L ∧ L ≤ 61) (hg : GR g b) (hb : WB b) (h1 : 0 ≤ x) (h2 : x < b 2) (hA : N.2.2 14 2 = A) (hB : N.2.2 14 3 = B) (hAB : ¬ A = B) (hW : ∀ j, 0 ≤ j → j < 8 → N.2.1 A j.toNat = W j) (hn : 100 < n) : lp_X6_goOneRoad_23 n 14 L (zI x) (zI 0) (ps (cs (js N B (fun _ => lI 0)) b) L g) κ = κ (ps (cs (js N B (wy1 b x W)) b) L g) := by
  have hh := hb.1
  unfold WH at hh
  have hi : 0 ≤ b 1 ∧ b 1 ≤ 12 ∧ b 0 ≤ 8 := by omega
  clear hh
  have hLM := (HL_cs hl.2).mp hL
  have w1 : N.1 L 9 = zI (b 1) := hLM.2.1
  obtain ⟨-, -, -, -, -, -, -, -, -, -, -, qa, qb, -, -⟩ := hLM
  have hLT : ∀ V, HL (cs (js N B V) b) L b := fun V => hL
  refine (loop_f (lp := fun k r V => lp_X6_goOneRoad_23 k 14 L (zI x) r (ps (cs (js N B V) b) L g) κ) (f := wyS b x W) (fin := fun V => κ (ps (cs (js N B V) b) L g)) (fun _ _ => True) (N := 60) (R := b 1) (fun k r V hk u v _ => ⟨?_, trivial⟩) (fun k V _ _ => ?_) (b 1).toNat 0 _ n (by omega) (by omega) (by omega) trivial).1
  · have hR := hb.2.1 r u v
    unfold WR at hR
    have ea1 := qa r u v
    have eb1 := qb r u v
    have i1 : 0 ≤ b (10 + r) ∧ b (10 + r) < 8 ∧ 0 ≤ b (22 + r) ∧ b (22 + r) < 8 ∧ ¬ b (10 + r) = b (22 + r) := by omega
    clear hR
    have ep := c_paceOf (n := k) (g := g) (hLT V) hg hb h1 h2 u v
    have e1 := hW _ i1.1 i1.2.1
    have e2 := hW _ i1.2.2.1 i1.2.2.2.1
    rw [lp_X6_goOneRoad_23]
    by_cases w : paceB b x r = 2
    · rw [wyS_t w]
      rw [w] at ep
      simp (disch := first | omega | assumption) only [↓lt, Option.bind_some, zl, ll, zadd, zsub, zmul, zneg, ladd, lsub, lmul, lneg, zltT, zltF, zleT, zleF, zeqT, zeqF, zidx, ixT, zwide, bIT, bIF, if_true, if_false, ↓reduceIte, Nat.reduceAdd, Int.reduceAdd, Int.reduceMul, Int.reduceSub, Int.reduceNeg, cs_c, cs_o, cs_2, cu_c, cu_o, Int.cast_ofNat_Int, ps_f, ps_g, ps_w, ps_o, ps_2, pu_f, pu_g, pu_w, pu_o, uI_s, uI_o, uI_j, uI_j1, uI_j2, uI_tw, or0, true_or, or_true, false_or, or_false, nar0, nar1, js_s, js_o, js_u, js_ou, js_1, js_22, uJ_ps, uJ_cs, uR_ps, uR_cs, ps_2, cs_2, w1, ep]
    · rw [wyS_f w]
      have pr := pace_r (b := b) (p := x) (r := r)
      simp (disch := first | omega | assumption) only [↓lt, Option.bind_some, zl, ll, zadd, zsub, zmul, zneg, ladd, lsub, lmul, lneg, zltT, zltF, zleT, zleF, zeqT, zeqF, zidx, ixT, zwide, bIT, bIF, if_true, if_false, ↓reduceIte, Nat.reduceAdd, Int.reduceAdd, Int.reduceMul, Int.reduceSub, Int.reduceNeg, cs_c, cs_o, cs_2, cu_c, cu_o, Int.cast_ofNat_Int, ps_f, ps_g, ps_w, ps_o, ps_2, pu_f, pu_g, pu_w, pu_o, uI_s, uI_o, uI_j, uI_j1, uI_j2, uI_tw, or0, true_or, or_true, false_or, or_false, nar0, nar1, js_s, js_o, js_u, js_ou, js_1, js_22, uJ_ps, uJ_cs, uR_ps, uR_cs, ps_2, cs_2, w1, ep, ea1, eb1, hA, hB, e1, e2, ju_o]
  · rw [lp_X6_goOneRoad_23]
    simp (disch := first | omega | assumption) only [↓lt, Option.bind_some, zl, ll, zadd, zsub, zmul, zneg, ladd, lsub, lmul, lneg, zltT, zltF, zleT, zleF, zeqT, zeqF, zidx, ixT, zwide, bIT, bIF, if_true, if_false, ↓reduceIte, Nat.reduceAdd, Int.reduceAdd, Int.reduceMul, Int.reduceSub, Int.reduceNeg, cs_c, cs_o, cs_2, cu_c, cu_o, Int.cast_ofNat_Int, ps_f, ps_g, ps_w, ps_o, ps_2, pu_f, pu_g, pu_w, pu_o, uI_s, uI_o, uI_j, uI_j1, uI_j2, uI_tw, or0, true_or, or_true, false_or, or_false, nar0, nar1, js_s, js_o, js_u, js_ou, js_1, js_22, uJ_ps, uJ_cs, uR_ps, uR_cs, ps_2, cs_2, w1]
theorem m_wayRoads {b : Int → Int} {x : Int} {c3 c4 c5 : Int32} {n : Nat} {X : KM} {W : Int → Int64} {κ : KM → Option (Int64 × KM)} (hb : WB b) (h1 : 0 ≤ x) (h2 : x < b 2) (hn : 100 < n) : lp_X12_ways_132 n 227 (zI x) c3 c4 c5 (zI 0) (cs (js (js X 238 W) 239 (fun _ => lI 0)) b) κ = κ (cs (js (js X 238 W) 239 (wy1 b x W)) b) := by
  have hh := hb.1
  unfold WH at hh
  have hi : 0 ≤ b 1 ∧ b 1 ≤ 12 ∧ b 0 ≤ 8 ∧ 1 ≤ b 7 ∧ b 7 ≤ 9 ∧ b 2 ≤ 8 := by omega
  clear hh
  have ez := WPb hb h1 h2
  have iz : 0 ≤ b (106 + x) ∧ b (106 + x) ≤ 1 ∧ 0 ≤ b (98 + x) ∧ b (98 + x) ≤ 1 := by omega
  clear ez
  refine (loop_f (lp := fun k r V => lp_X12_ways_132 k 227 (zI x) c3 c4 c5 r (cs (js (js X 238 W) 239 V) b) κ) (f := wyS b x W) (fin := fun V => κ (cs (js (js X 238 W) 239 V) b)) (fun _ _ => True) (N := 60) (R := b 1) (fun k r V hk u v _ => ⟨?_, trivial⟩) (fun k V _ _ => ?_) (b 1).toNat 0 _ n (by omega) (by omega) (by omega) trivial).1
  · have hR := hb.2.1 r u v
    unfold WR at hR
    have i1 : 0 ≤ b (10 + r) ∧ b (10 + r) < 8 ∧ 0 ≤ b (22 + r) ∧ b (22 + r) < 8 ∧ ¬ b (10 + r) = b (22 + r) ∧ 0 ≤ b (46 + r) ∧ b (46 + r) ≤ 1 := by omega
    clear hR
    have ec : f_X12_canGo k 227 (zI x) (zI r) (bI False) (cs (js (js X 238 W) 239 V) b) = some (bI (canB b x r False)) := m_canGo h1 (by omega) u (by omega) iz.1 iz.2.1 i1.2.2.2.2.2.1 i1.2.2.2.2.2.2 iz.2.2.1 iz.2.2.2 hb.2.2.2.1 hi.2.2.2.1 hi.2.2.2.2.1
    have cp := can_pace (b := b) (p := x) (r := r) iz.1 iz.2.1 i1.2.2.2.2.2.1 i1.2.2.2.2.2.2
    rw [bIF (fun z => z)] at ec
    rw [lp_X12_ways_132]
    by_cases w : paceB b x r = 2
    · rw [wyS_t w]
      rw [bIF (fun z => cp.mp z w)] at ec
      clear cp
      simp (disch := first | omega | assumption) only [↓lt, Option.bind_some, zl, ll, zadd, zsub, zmul, zneg, ladd, lsub, lmul, lneg, zltT, zltF, zleT, zleF, zeqT, zeqF, zidx, ixT, zwide, bIT, bIF, if_true, if_false, ↓reduceIte, Nat.reduceAdd, Int.reduceAdd, Int.reduceMul, Int.reduceSub, Int.reduceNeg, cs_c, cs_o, cs_2, cu_c, cu_o, Int.cast_ofNat_Int, ps_f, ps_g, ps_w, ps_o, ps_2, pu_f, pu_g, pu_w, pu_o, uI_s, uI_o, uI_j, uI_j1, uI_j2, uI_tw, or0, true_or, or_true, false_or, or_false, nar0, nar1, js_s, js_o, js_u, js_ou, js_1, js_22, uJ_ps, uJ_cs, uR_ps, uR_cs, ps_2, cs_2, ec]
    · rw [wyS_f w, ju_cm (by omega)]
      rw [bIT (cp.mpr w)] at ec
      clear cp
      simp (disch := first | omega | assumption) only [↓lt, Option.bind_some, zl, ll, zadd, zsub, zmul, zneg, ladd, lsub, lmul, lneg, zltT, zltF, zleT, zleF, zeqT, zeqF, zidx, ixT, zwide, bIT, bIF, if_true, if_false, ↓reduceIte, Nat.reduceAdd, Int.reduceAdd, Int.reduceMul, Int.reduceSub, Int.reduceNeg, cs_c, cs_o, cs_2, cu_c, cu_o, Int.cast_ofNat_Int, ps_f, ps_g, ps_w, ps_o, ps_2, pu_f, pu_g, pu_w, pu_o, uI_s, uI_o, uI_j, uI_j1, uI_j2, uI_tw, or0, true_or, or_true, false_or, or_false, nar0, nar1, js_s, js_o, js_u, js_ou, js_1, js_22, uJ_ps, uJ_cs, uR_ps, uR_cs, ps_2, cs_2, ec, ju_o]
  · rw [lp_X12_ways_132]
    simp (disch := first | omega | assumption) only [↓lt, Option.bind_some, zl, ll, zadd, zsub, zmul, zneg, ladd, lsub, lmul, lneg, zltT, zltF, zleT, zleF, zeqT, zeqF, zidx, ixT, zwide, bIT, bIF, if_true, if_false, ↓reduceIte, Nat.reduceAdd, Int.reduceAdd, Int.reduceMul, Int.reduceSub, Int.reduceNeg, cs_c, cs_o, cs_2, cu_c, cu_o, Int.cast_ofNat_Int, ps_f, ps_g, ps_w, ps_o, ps_2, pu_f, pu_g, pu_w, pu_o, uI_s, uI_o, uI_j, uI_j1, uI_j2, uI_tw, or0, true_or, or_true, false_or, or_false, nar0, nar1, js_s, js_o, js_u, js_ou, js_1, js_22, uJ_ps, uJ_cs, uR_ps, uR_cs, ps_2, cs_2]
def wyK (b : Int → Int) (x : Int) : Nat → (Int → Int64) → Int → Int64
  | 0, W => W
  | k + 1, W => wyK b x k (wy1 b x W)
theorem m_wayLoop {b : Int → Int} {x t N : Int} {X : KM} (hb : WB b) (h1 : 0 ≤ x) (h2 : x < b 2) (t1 : 0 ≤ t) (t2 : t < 8) (hN : N ≤ 10) : ∀ (k : Nat) (i : Int) (W V : Int → Int64) (n : Nat), 0 ≤ i → i + k = N → 200 + k < n → ∃ V', lp_X12_ways_98 n 227 (zI x) (zI t) (zI N) (zI i) (cs (js (js X 238 W) 239 V) b) = some (wyK b x k W t, cs (js (js X 238 (wyK b x k W)) 239 V') b) := by
  intro k
  induction k with
  | zero =>
    intro i W V n i1 i2 hn
    obtain ⟨m, rfl⟩ : ∃ m, n = m + 1 := ⟨n - 1, by omega⟩
    have : i = N := by omega
    subst this
    refine ⟨V, ?_⟩
    rw [lp_X12_ways_98]
    simp (disch := first | omega | assumption) only [↓lt, Option.bind_some, zl, ll, zadd, zsub, zmul, zneg, ladd, lsub, lmul, lneg, zltT, zltF, zleT, zleF, zeqT, zeqF, zidx, ixT, zwide, bIT, bIF, if_true, if_false, ↓reduceIte, Nat.reduceAdd, Int.reduceAdd, Int.reduceMul, Int.reduceSub, Int.reduceNeg, cs_c, cs_o, cs_2, cu_c, cu_o, Int.cast_ofNat_Int, ps_f, ps_g, ps_w, ps_o, ps_2, pu_f, pu_g, pu_w, pu_o, uI_s, uI_o, uI_j, uI_j1, uI_j2, uI_tw, or0, true_or, or_true, false_or, or_false, nar0, nar1, js_s, js_o, js_u, js_ou, js_1, js_22, uJ_ps, uJ_cs, uR_ps, uR_cs, ps_2, cs_2]
    rfl
  | succ k ih =>
    intro i W V n i1 i2 hn
    obtain ⟨m, rfl⟩ : ∃ m, n = m + 1 := ⟨n - 1, by omega⟩
    obtain ⟨V', ih2⟩ := ih (i + 1) (wy1 b x W) (wy1 b x W) m (by omega) (by omega) (by omega)
    refine ⟨V', ?_⟩
    have e1 := fun κ => (loop_f (lp := fun k r T => lp_X12_ways_108 k 227 (zI x) (zI t) (zI N) (zI i) r (cs (js (js X 238 W) 239 T) b) κ) (f := fun i T => ju T i (lI 0)) (fin := fun T => κ (cs (js (js X 238 W) 239 T) b)) (fun _ _ => True) (N := 1) (R := 8) (fun k r T hk u v _ => ⟨by
      rw [lp_X12_ways_108]
      simp (disch := first | omega | assumption) only [↓lt, Option.bind_some, zl, ll, zadd, zsub, zmul, zneg, ladd, lsub, lmul, lneg, zltT, zltF, zleT, zleF, zeqT, zeqF, zidx, ixT, zwide, bIT, bIF, if_true, if_false, ↓reduceIte, Nat.reduceAdd, Int.reduceAdd, Int.reduceMul, Int.reduceSub, Int.reduceNeg, cs_c, cs_o, cs_2, cu_c, cu_o, Int.cast_ofNat_Int, ps_f, ps_g, ps_w, ps_o, ps_2, pu_f, pu_g, pu_w, pu_o, uI_s, uI_o, uI_j, uI_j1, uI_j2, uI_tw, or0, true_or, or_true, false_or, or_false, nar0, nar1, js_s, js_o, js_u, js_ou, js_1, js_22, uJ_ps, uJ_cs, uR_ps, uR_cs, ps_2, cs_2], trivial⟩) (fun k T _ _ => by
      rw [lp_X12_ways_108]
      simp (disch := first | omega | assumption) only [↓lt, Option.bind_some, zl, ll, zadd, zsub, zmul, zneg, ladd, lsub, lmul, lneg, zltT, zltF, zleT, zleF, zeqT, zeqF, zidx, ixT, zwide, bIT, bIF, if_true, if_false, ↓reduceIte, Nat.reduceAdd, Int.reduceAdd, Int.reduceMul, Int.reduceSub, Int.reduceNeg, cs_c, cs_o, cs_2, cu_c, cu_o, Int.cast_ofNat_Int, ps_f, ps_g, ps_w, ps_o, ps_2, pu_f, pu_g, pu_w, pu_o, uI_s, uI_o, uI_j, uI_j1, uI_j2, uI_tw, or0, true_or, or_true, false_or, or_false, nar0, nar1]) 8 0 V m (by omega) (by omega) (by omega) trivial).1
    simp only [js_fill (v := fun _ => lI 0)] at e1
    have e2 := fun κ => m_wayRoads (c3 := zI t) (c4 := zI N) (c5 := zI i) (n := m) (X := X) (W := W) (κ := κ) hb h1 h2 (by omega)
    have e3 := fun κ => (loop_f (lp := fun k r T => lp_X12_ways_232 k 227 (zI x) (zI t) (zI N) (zI i) r (cs (js (js X 238 T) 239 (wy1 b x W)) b) κ) (f := fun i T => ju T i (wy1 b x W i)) (fin := fun T => κ (cs (js (js X 238 T) 239 (wy1 b x W)) b)) (fun _ _ => True) (N := 1) (R := 8) (fun k r T hk u v _ => ⟨by
      rw [lp_X12_ways_232]
      simp (disch := first | omega | assumption) only [↓lt, Option.bind_some, zl, ll, zadd, zsub, zmul, zneg, ladd, lsub, lmul, lneg, zltT, zltF, zleT, zleF, zeqT, zeqF, zidx, ixT, zwide, bIT, bIF, if_true, if_false, ↓reduceIte, Nat.reduceAdd, Int.reduceAdd, Int.reduceMul, Int.reduceSub, Int.reduceNeg, cs_c, cs_o, cs_2, cu_c, cu_o, Int.cast_ofNat_Int, ps_f, ps_g, ps_w, ps_o, ps_2, pu_f, pu_g, pu_w, pu_o, uI_s, uI_o, uI_j, uI_j1, uI_j2, uI_tw, or0, true_or, or_true, false_or, or_false, nar0, nar1, js_s, js_o, js_u, js_ou, js_1, js_22, uJ_ps, uJ_cs, uR_ps, uR_cs, ps_2, cs_2], trivial⟩) (fun k T _ _ => by
      rw [lp_X12_ways_232]
      simp (disch := first | omega | assumption) only [↓lt, Option.bind_some, zl, ll, zadd, zsub, zmul, zneg, ladd, lsub, lmul, lneg, zltT, zltF, zleT, zleF, zeqT, zeqF, zidx, ixT, zwide, bIT, bIF, if_true, if_false, ↓reduceIte, Nat.reduceAdd, Int.reduceAdd, Int.reduceMul, Int.reduceSub, Int.reduceNeg, cs_c, cs_o, cs_2, cu_c, cu_o, Int.cast_ofNat_Int, ps_f, ps_g, ps_w, ps_o, ps_2, pu_f, pu_g, pu_w, pu_o, uI_s, uI_o, uI_j, uI_j1, uI_j2, uI_tw, or0, true_or, or_true, false_or, or_false, nar0, nar1]) 8 0 W m (by omega) (by omega) (by omega) trivial).1
    simp only [js_fill (v := wy1 b x W)] at e3
    rw [lp_X12_ways_98]
    simp (disch := first | omega | assumption) only [↓lt, Option.bind_some, zl, ll, zadd, zsub, zmul, zneg, ladd, lsub, lmul, lneg, zltT, zltF, zleT, zleF, zeqT, zeqF, zidx, ixT, zwide, bIT, bIF, if_true, if_false, ↓reduceIte, Nat.reduceAdd, Int.reduceAdd, Int.reduceMul, Int.reduceSub, Int.reduceNeg, cs_c, cs_o, cs_2, cu_c, cu_o, Int.cast_ofNat_Int, ps_f, ps_g, ps_w, ps_o, ps_2, pu_f, pu_g, pu_w, pu_o, uI_s, uI_o, uI_j, uI_j1, uI_j2, uI_tw, or0, true_or, or_true, false_or, or_false, nar0, nar1, e1, e2, e3]
    exact ih2
/-- the class's two rows, counts first, while it reckons -/
def CW (M N : KM) (W : Int → Int64) : Prop := N.1 = M.1 ∧ (∀ a k, ¬ (a = 17 ∨ a = 18) → N.2.1 a k = M.2.1 a k) ∧ (∀ a k, ¬ a = 14 → N.2.2 a k = M.2.2 a k) ∧ ((N.2.2 14 2 = 17 ∧ N.2.2 14 3 = 18) ∨ (N.2.2 14 2 = 18 ∧ N.2.2 14 3 = 17)) ∧ ∀ j, 0 ≤ j → j < 8 → N.2.1 (N.2.2 14 2) j.toNat = W j
theorem c_goOneRoad {b : Int → Int} {x : Int} {L n : Nat} {M N : KM} {g : Int → Int → Int → Int} {W : Int → Int64} (hL : HL (cs M b) L b) (hl : 23 ≤ L ∧ L ≤ 61) (hg : GR g b) (hb : WB b) (h1 : 0 ≤ x) (h2 : x < b 2) (hW : CW M N W) (hn : 100 < n) : ∃ N', f_X6_goOneRoad n 14 L (zI x) (ps (cs N b) L g) = some (ps (cs N' b) L g) ∧ CW M N' (wy1 b x W) := by
  obtain ⟨c1, c2, c3, c4, c5⟩ := hW
  have hLN : HL (cs N b) L b := (HL_cs hl.2).mpr (HL_of (fun a k x y => by rw [c1]) ((HL_cs hl.2).mp hL))
  generalize hA : N.2.2 14 2 = A at *
  generalize hB : N.2.2 14 3 = B at *
  have hAB : ¬ A = B := by omega
  have e1 := fun κ => (loop_f (lp := fun k r T => lp_X6_goOneRoad_2 k 14 L (zI x) r (ps (cs (js N B T) b) L g) κ) (f := fun i T => ju T i (lI 0)) (fin := fun T => κ (ps (cs (js N B T) b) L g)) (fun _ _ => True) (N := 1) (R := 8) (fun k r T hk u v _ => ⟨by
    rw [lp_X6_goOneRoad_2]
    simp (disch := first | omega | assumption) only [↓lt, Option.bind_some, zl, ll, zadd, zsub, zmul, zneg, ladd, lsub, lmul, lneg, zltT, zltF, zleT, zleF, zeqT, zeqF, zidx, ixT, zwide, bIT, bIF, if_true, if_false, ↓reduceIte, Nat.reduceAdd, Int.reduceAdd, Int.reduceMul, Int.reduceSub, Int.reduceNeg, cs_c, cs_o, cs_2, cu_c, cu_o, Int.cast_ofNat_Int, ps_f, ps_g, ps_w, ps_o, ps_2, pu_f, pu_g, pu_w, pu_o, uI_s, uI_o, uI_j, uI_j1, uI_j2, uI_tw, or0, true_or, or_true, false_or, or_false, nar0, nar1, js_s, js_o, js_u, js_ou, js_1, js_22, uJ_ps, uJ_cs, uR_ps, uR_cs, ps_2, cs_2, hB], trivial⟩) (fun k T _ _ => by
    rw [lp_X6_goOneRoad_2]
    simp (disch := first | omega | assumption) only [↓lt, Option.bind_some, zl, ll, zadd, zsub, zmul, zneg, ladd, lsub, lmul, lneg, zltT, zltF, zleT, zleF, zeqT, zeqF, zidx, ixT, zwide, bIT, bIF, if_true, if_false, ↓reduceIte, Nat.reduceAdd, Int.reduceAdd, Int.reduceMul, Int.reduceSub, Int.reduceNeg, cs_c, cs_o, cs_2, cu_c, cu_o, Int.cast_ofNat_Int, ps_f, ps_g, ps_w, ps_o, ps_2, pu_f, pu_g, pu_w, pu_o, uI_s, uI_o, uI_j, uI_j1, uI_j2, uI_tw, or0, true_or, or_true, false_or, or_false, nar0, nar1]) 8 0 (fun z => N.2.1 B z.toNat) n (by omega) (by omega) (by omega) trivial).1
  simp only [js_fill (v := fun _ => lI 0)] at e1
  simp only [← js_ex N B] at e1
  have e2 := fun κ => c_wayRoads (n := n) (κ := κ) hLN hl hg hb h1 h2 hA hB hAB c5 hn
  refine ⟨uR (uR (js N B (wy1 b x W)) 14 2 B) 14 3 A, ?_, c1, fun a k h => ?_, fun a k h => ?_, ?_, fun j j1 j2 => ?_⟩
  · unfold f_X6_goOneRoad
    simp (disch := first | omega | assumption) only [↓lt, Option.bind_some, zl, ll, zadd, zsub, zmul, zneg, ladd, lsub, lmul, lneg, zltT, zltF, zleT, zleF, zeqT, zeqF, zidx, ixT, zwide, bIT, bIF, if_true, if_false, ↓reduceIte, Nat.reduceAdd, Int.reduceAdd, Int.reduceMul, Int.reduceSub, Int.reduceNeg, cs_c, cs_o, cs_2, cu_c, cu_o, Int.cast_ofNat_Int, ps_f, ps_g, ps_w, ps_o, ps_2, pu_f, pu_g, pu_w, pu_o, uI_s, uI_o, uI_j, uI_j1, uI_j2, uI_tw, or0, true_or, or_true, false_or, or_false, nar0, nar1, js_s, js_o, js_u, js_ou, js_1, js_22, uJ_ps, uJ_cs, uR_ps, uR_cs, ps_2, cs_2, e1, e2, hA, hB]
  · show (js N B (wy1 b x W)).2.1 a k = M.2.1 a k
    rw [js_o (by omega)]; exact c2 a k h
  · rw [uR_o (fun z => h z.1), uR_o (fun z => h z.1)]; exact c3 a k h
  · rw [uR_o (by omega), uR_s, uR_s]; omega
  · rw [uR_o (by omega), uR_s]
    exact js_s j1 j2
theorem c_wayLoop {b : Int → Int} {x t K : Int} {L : Nat} {M : KM} {g : Int → Int → Int → Int} (hL : HL (cs M b) L b) (hl : 23 ≤ L ∧ L ≤ 61) (hg : GR g b) (hb : WB b) (h1 : 0 ≤ x) (h2 : x < b 2) (t1 : 0 ≤ t) (t2 : t < 8) (hK : K ≤ 10) : ∀ (k : Nat) (i : Int) (W : Int → Int64) (N : KM) (n : Nat), 0 ≤ i → i + k = K → 200 + k < n → CW M N W → ∃ N', lp_X6_countWays_37 n 14 L (zI x) (zI t) (zI K) (zI i) (ps (cs N b) L g) = some (wyK b x k W t, ps (cs N' b) L g) ∧ CW M N' (wyK b x k W) := by
  intro k
  induction k with
  | zero =>
    intro i W N n i1 i2 hn hW
    obtain ⟨m, rfl⟩ : ∃ m, n = m + 1 := ⟨n - 1, by omega⟩
    have : i = K := by omega
    subst this
    have e := hW.2.2.2.2 t t1 t2
    refine ⟨N, ?_, hW⟩
    rw [lp_X6_countWays_37]
    simp (disch := first | omega | assumption) only [↓lt, Option.bind_some, zl, ll, zadd, zsub, zmul, zneg, ladd, lsub, lmul, lneg, zltT, zltF, zleT, zleF, zeqT, zeqF, zidx, ixT, zwide, bIT, bIF, if_true, if_false, ↓reduceIte, Nat.reduceAdd, Int.reduceAdd, Int.reduceMul, Int.reduceSub, Int.reduceNeg, cs_c, cs_o, cs_2, cu_c, cu_o, Int.cast_ofNat_Int, ps_f, ps_g, ps_w, ps_o, ps_2, pu_f, pu_g, pu_w, pu_o, uI_s, uI_o, uI_j, uI_j1, uI_j2, uI_tw, or0, true_or, or_true, false_or, or_false, nar0, nar1, js_s, js_o, js_u, js_ou, js_1, js_22, uJ_ps, uJ_cs, uR_ps, uR_cs, ps_2, cs_2, e]
    rfl
  | succ k ih =>
    intro i W N n i1 i2 hn hW
    obtain ⟨m, rfl⟩ : ∃ m, n = m + 1 := ⟨n - 1, by omega⟩
    obtain ⟨N1, e1, w1⟩ := c_goOneRoad (n := m) hL hl hg hb h1 h2 hW (by omega)
    obtain ⟨N2, e2, w2⟩ := ih (i + 1) (wy1 b x W) N1 m (by omega) (by omega) (by omega) w1
    refine ⟨N2, ?_, w2⟩
    rw [lp_X6_countWays_37]
    simp (disch := first | omega | assumption) only [↓lt, Option.bind_some, zl, ll, zadd, zsub, zmul, zneg, ladd, lsub, lmul, lneg, zltT, zltF, zleT, zleF, zeqT, zeqF, zidx, ixT, zwide, bIT, bIF, if_true, if_false, ↓reduceIte, Nat.reduceAdd, Int.reduceAdd, Int.reduceMul, Int.reduceSub, Int.reduceNeg, cs_c, cs_o, cs_2, cu_c, cu_o, Int.cast_ofNat_Int, ps_f, ps_g, ps_w, ps_o, ps_2, pu_f, pu_g, pu_w, pu_o, uI_s, uI_o, uI_j, uI_j1, uI_j2, uI_tw, or0, true_or, or_true, false_or, or_false, nar0, nar1, e1]
    exact e2
def oneW (f : Int) : Int → Int64 := fun j => if j = f then lI 1 else lI 0
theorem k_ways (p q l o : Int32) (n : Nat) (hn : 400 ≤ n) : OKm (f_X11_ways n 0 p q l o) (f_X12_ways n 227 p q l o) := by
  obtain ⟨x, hx1, hx2, rfl⟩ := z_ex p
  obtain ⟨f, hf1, hf2, rfl⟩ := z_ex q
  obtain ⟨t, ht1, ht2, rfl⟩ := z_ex l
  obtain ⟨K, hK1, hK2, rfl⟩ := z_ex o
  refine ok_sc (fun M L g b hO => ?_)
  have hO2 := hO
  obtain ⟨hP, hL, hg, hb, hm, hC⟩ := hO; have hp0 : M.2.2 0 10 = L := hP.1; have hl := Ptr_L hP; have hM := (HL_cs hl.2).mp hL; have hh := hb.1; unfold WH at hh
  have hi : 0 ≤ b 2 ∧ b 2 ≤ 8 ∧ 0 ≤ b 0 ∧ b 0 ≤ 8 := by omega
  clear hC hh
  by_cases w : 0 ≤ x ∧ x < b 2
  · by_cases v : 0 ≤ f ∧ f < b 0
    · by_cases u : 0 ≤ t ∧ t < b 0
      · by_cases k : 0 ≤ K ∧ K ≤ 10
        · have hp4 : (M.2.2 14 2 = 17 ∧ M.2.2 14 3 = 18) ∨ (M.2.2 14 2 = 18 ∧ M.2.2 14 3 = 17) := by unfold Ptr at hP; exact hP.2.2.2.2.2.2.2.2.2.2.2
          have hLs : HL (cs (uI M 0 15 (zI 0)) b) L b := (HL_cs hl.2).mpr (HL_of (fun a k x y => uI_o (by omega)) hM)
          generalize hA : M.2.2 14 2 = A at *
          generalize hB : M.2.2 14 3 = B at *
          have e0 := fun κ => (loop_f (lp := fun k r T => lp_X6_countWays_3 k 14 L (zI x) (zI f) (zI t) (zI K) r (ps (cs (js (uI M 0 15 (zI 0)) A T) b) L g) κ) (f := fun i T => ju T i (oneW f i)) (fin := fun T => κ (ps (cs (js (uI M 0 15 (zI 0)) A T) b) L g)) (fun _ _ => True) (N := 1) (R := 8) (fun k r T hk u v _ => ⟨by
            rw [lp_X6_countWays_3]
            unfold oneW
            by_cases y : r = f
            · simp only [if_pos y]
              simp (disch := first | omega | assumption) only [↓lt, Option.bind_some, zl, ll, zadd, zsub, zmul, zneg, ladd, lsub, lmul, lneg, zltT, zltF, zleT, zleF, zeqT, zeqF, zidx, ixT, zwide, bIT, bIF, if_true, if_false, ↓reduceIte, Nat.reduceAdd, Int.reduceAdd, Int.reduceMul, Int.reduceSub, Int.reduceNeg, cs_c, cs_o, cs_2, cu_c, cu_o, Int.cast_ofNat_Int, ps_f, ps_g, ps_w, ps_o, ps_2, pu_f, pu_g, pu_w, pu_o, uI_s, uI_o, uI_j, uI_j1, uI_j2, uI_tw, or0, true_or, or_true, false_or, or_false, nar0, nar1, js_s, js_o, js_u, js_ou, js_1, js_22, uJ_ps, uJ_cs, uR_ps, uR_cs, ps_2, cs_2, uI_j2, hA]
            · simp only [if_neg y]
              simp (disch := first | omega | assumption) only [↓lt, Option.bind_some, zl, ll, zadd, zsub, zmul, zneg, ladd, lsub, lmul, lneg, zltT, zltF, zleT, zleF, zeqT, zeqF, zidx, ixT, zwide, bIT, bIF, if_true, if_false, ↓reduceIte, Nat.reduceAdd, Int.reduceAdd, Int.reduceMul, Int.reduceSub, Int.reduceNeg, cs_c, cs_o, cs_2, cu_c, cu_o, Int.cast_ofNat_Int, ps_f, ps_g, ps_w, ps_o, ps_2, pu_f, pu_g, pu_w, pu_o, uI_s, uI_o, uI_j, uI_j1, uI_j2, uI_tw, or0, true_or, or_true, false_or, or_false, nar0, nar1, js_s, js_o, js_u, js_ou, js_1, js_22, uJ_ps, uJ_cs, uR_ps, uR_cs, ps_2, cs_2, uI_j2, hA], trivial⟩) (fun k T _ _ => by
            rw [lp_X6_countWays_3]
            simp (disch := first | omega | assumption) only [↓lt, Option.bind_some, zl, ll, zadd, zsub, zmul, zneg, ladd, lsub, lmul, lneg, zltT, zltF, zleT, zleF, zeqT, zeqF, zidx, ixT, zwide, bIT, bIF, if_true, if_false, ↓reduceIte, Nat.reduceAdd, Int.reduceAdd, Int.reduceMul, Int.reduceSub, Int.reduceNeg, cs_c, cs_o, cs_2, cu_c, cu_o, Int.cast_ofNat_Int, ps_f, ps_g, ps_w, ps_o, ps_2, pu_f, pu_g, pu_w, pu_o, uI_s, uI_o, uI_j, uI_j1, uI_j2, uI_tw, or0, true_or, or_true, false_or, or_false, nar0, nar1]) 8 0 (fun z => (uI M 0 15 (zI 0)).2.1 A z.toNat) n (by omega) (by omega) (by omega) trivial).1
          simp only [js_fill (v := oneW f)] at e0
          simp only [← js_ex (uI M 0 15 (zI 0)) A] at e0
          obtain ⟨N, e1, w1, w2, w3, w4, -⟩ := c_wayLoop (M := uI M 0 15 (zI 0)) (g := g) hLs hl hg hb w.1 w.2 u.1 (show t < 8 by omega) k.2 K.toNat 0 (oneW f) (js (uI M 0 15 (zI 0)) A (oneW f)) n (by omega) (by omega) (by omega) ⟨rfl, fun a k h => js_o (by omega), fun _ _ _ => rfl, by show (M.2.2 14 2 = 17 ∧ M.2.2 14 3 = 18) ∨ (M.2.2 14 2 = 18 ∧ M.2.2 14 3 = 17); rw [hA, hB]; exact hp4, fun j j1 j2 => by show (js (uI M 0 15 (zI 0)) A (oneW f)).2.1 (M.2.2 14 2) j.toNat = _; rw [hA]; exact js_s j1 j2⟩
          refine ⟨wyK b x K.toNat (oneW f) t, zI 0, N, ?_, by rw [w1, uI_s], ⟨fun a k h1 h2 => by rw [w1, uI_o h1], fun a k h => w2 a k h, fun a k h => w3 a k h, w4⟩, fun X => ?_⟩
          · unfold f_X11_ways f_X6_countWays
            simp (disch := first | omega | assumption) only [↓lt, Option.bind_some, zl, ll, zadd, zsub, zmul, zneg, ladd, lsub, lmul, lneg, zltT, zltF, zleT, zleF, zeqT, zeqF, zidx, ixT, zwide, bIT, bIF, if_true, if_false, ↓reduceIte, Nat.reduceAdd, Int.reduceAdd, Int.reduceMul, Int.reduceSub, Int.reduceNeg, cs_c, cs_o, cs_2, cu_c, cu_o, Int.cast_ofNat_Int, ps_f, ps_g, ps_w, ps_o, ps_2, pu_f, pu_g, pu_w, pu_o, uI_s, uI_o, uI_j, uI_j1, uI_j2, uI_tw, or0, true_or, or_true, false_or, or_false, nar0, nar1, f_X11_tell, f_X11_refuse, f_X11_tellIf, f_X11_tellOrNone, f_X11_tellSooner, f_X11_deny, f_X11_succeed, f_X12_refuse, f_X12_no, hp0, c_hasPerson hL, c_hasPlace hL, uI_j2, e0, e1]
          · have m0 := fun X κ => (loop_f (lp := fun k r T => lp_X12_ways_64 k 227 (zI x) (zI f) (zI t) (zI K) r (cs (js X 238 T) b) κ) (f := fun i T => ju T i (oneW f i)) (fin := fun T => κ (cs (js X 238 T) b)) (fun _ _ => True) (N := 1) (R := 8) (fun k r T hk u v _ => ⟨by
              rw [lp_X12_ways_64]
              unfold oneW
              by_cases y : r = f
              · simp only [if_pos y]
                simp (disch := first | omega | assumption) only [↓lt, Option.bind_some, zl, ll, zadd, zsub, zmul, zneg, ladd, lsub, lmul, lneg, zltT, zltF, zleT, zleF, zeqT, zeqF, zidx, ixT, zwide, bIT, bIF, if_true, if_false, ↓reduceIte, Nat.reduceAdd, Int.reduceAdd, Int.reduceMul, Int.reduceSub, Int.reduceNeg, cs_c, cs_o, cs_2, cu_c, cu_o, Int.cast_ofNat_Int, ps_f, ps_g, ps_w, ps_o, ps_2, pu_f, pu_g, pu_w, pu_o, uI_s, uI_o, uI_j, uI_j1, uI_j2, uI_tw, or0, true_or, or_true, false_or, or_false, nar0, nar1, js_s, js_o, js_u, js_ou, js_1, js_22, uJ_ps, uJ_cs, uR_ps, uR_cs, ps_2, cs_2]
              · simp only [if_neg y]
                simp (disch := first | omega | assumption) only [↓lt, Option.bind_some, zl, ll, zadd, zsub, zmul, zneg, ladd, lsub, lmul, lneg, zltT, zltF, zleT, zleF, zeqT, zeqF, zidx, ixT, zwide, bIT, bIF, if_true, if_false, ↓reduceIte, Nat.reduceAdd, Int.reduceAdd, Int.reduceMul, Int.reduceSub, Int.reduceNeg, cs_c, cs_o, cs_2, cu_c, cu_o, Int.cast_ofNat_Int, ps_f, ps_g, ps_w, ps_o, ps_2, pu_f, pu_g, pu_w, pu_o, uI_s, uI_o, uI_j, uI_j1, uI_j2, uI_tw, or0, true_or, or_true, false_or, or_false, nar0, nar1, js_s, js_o, js_u, js_ou, js_1, js_22, uJ_ps, uJ_cs, uR_ps, uR_cs, ps_2, cs_2], trivial⟩) (fun k T _ _ => by
              rw [lp_X12_ways_64]
              simp (disch := first | omega | assumption) only [↓lt, Option.bind_some, zl, ll, zadd, zsub, zmul, zneg, ladd, lsub, lmul, lneg, zltT, zltF, zleT, zleF, zeqT, zeqF, zidx, ixT, zwide, bIT, bIF, if_true, if_false, ↓reduceIte, Nat.reduceAdd, Int.reduceAdd, Int.reduceMul, Int.reduceSub, Int.reduceNeg, cs_c, cs_o, cs_2, cu_c, cu_o, Int.cast_ofNat_Int, ps_f, ps_g, ps_w, ps_o, ps_2, pu_f, pu_g, pu_w, pu_o, uI_s, uI_o, uI_j, uI_j1, uI_j2, uI_tw, or0, true_or, or_true, false_or, or_false, nar0, nar1]) 8 0 (fun z => X.2.1 238 z.toNat) n (by omega) (by omega) (by omega) trivial).1
            have m1 := m0
            simp only [js_fill (v := oneW f)] at m1
            simp only [← js_ex] at m1
            obtain ⟨V, e2⟩ := m_wayLoop (X := uI (uI X 227 1 (zI 0)) 227 0 (zI 0)) hb w.1 w.2 u.1 (show t < 8 by omega) k.2 K.toNat 0 (oneW f) (fun z => (js (uI (uI X 227 1 (zI 0)) 227 0 (zI 0)) 238 (oneW f)).2.1 239 z.toNat) n (by omega) (by omega) (by omega)
            rw [← js_ex] at e2
            refine ⟨js (js (uI (uI X 227 1 (zI 0)) 227 0 (zI 0)) 238 (wyK b x K.toNat (oneW f))) 239 V, ?_, by rw [js_1, js_1, uI_s], SM_tr SM_st ⟨rfl, fun a k h => by rw [js_o (by omega), js_o (by omega)], fun _ _ _ => rfl⟩⟩
            unfold f_X12_ways
            simp (disch := first | omega | assumption) only [↓lt, Option.bind_some, zl, ll, zadd, zsub, zmul, zneg, ladd, lsub, lmul, lneg, zltT, zltF, zleT, zleF, zeqT, zeqF, zidx, ixT, zwide, bIT, bIF, if_true, if_false, ↓reduceIte, Nat.reduceAdd, Int.reduceAdd, Int.reduceMul, Int.reduceSub, Int.reduceNeg, cs_c, cs_o, cs_2, cu_c, cu_o, Int.cast_ofNat_Int, ps_f, ps_g, ps_w, ps_o, ps_2, pu_f, pu_g, pu_w, pu_o, uI_s, uI_o, uI_j, uI_j1, uI_j2, uI_tw, or0, true_or, or_true, false_or, or_false, nar0, nar1, f_X11_tell, f_X11_refuse, f_X11_tellIf, f_X11_tellOrNone, f_X11_tellSooner, f_X11_deny, f_X11_succeed, f_X12_refuse, f_X12_no, hp0, m_isPerson, m_isPlaceAt, m_isIn, m1]
            exact e2
        · refine sc_no (c := f_X11_ways n 0 (zI x) (zI f) (zI t) (zI K)) (m := f_X12_ways n 227 (zI x) (zI f) (zI t) (zI K)) hO2 (r := lI (-1)) (s := zI 5) ?_ (fun X => ?_)
          · unfold f_X11_ways
            by_cases k2 : 0 ≤ K
            · simp (disch := first | omega | assumption) only [↓lt, Option.bind_some, zl, ll, zadd, zsub, zmul, zneg, ladd, lsub, lmul, lneg, zltT, zltF, zleT, zleF, zeqT, zeqF, zidx, ixT, zwide, bIT, bIF, if_true, if_false, ↓reduceIte, Nat.reduceAdd, Int.reduceAdd, Int.reduceMul, Int.reduceSub, Int.reduceNeg, cs_c, cs_o, cs_2, cu_c, cu_o, Int.cast_ofNat_Int, ps_f, ps_g, ps_w, ps_o, ps_2, pu_f, pu_g, pu_w, pu_o, uI_s, uI_o, uI_j, uI_j1, uI_j2, uI_tw, or0, true_or, or_true, false_or, or_false, nar0, nar1, f_X11_tell, f_X11_refuse, f_X11_tellIf, f_X11_tellOrNone, f_X11_tellSooner, f_X11_deny, f_X11_succeed, f_X12_refuse, f_X12_no, hp0, c_hasPerson hL, c_hasPlace hL]
            · simp (disch := first | omega | assumption) only [↓lt, Option.bind_some, zl, ll, zadd, zsub, zmul, zneg, ladd, lsub, lmul, lneg, zltT, zltF, zleT, zleF, zeqT, zeqF, zidx, ixT, zwide, bIT, bIF, if_true, if_false, ↓reduceIte, Nat.reduceAdd, Int.reduceAdd, Int.reduceMul, Int.reduceSub, Int.reduceNeg, cs_c, cs_o, cs_2, cu_c, cu_o, Int.cast_ofNat_Int, ps_f, ps_g, ps_w, ps_o, ps_2, pu_f, pu_g, pu_w, pu_o, uI_s, uI_o, uI_j, uI_j1, uI_j2, uI_tw, or0, true_or, or_true, false_or, or_false, nar0, nar1, f_X11_tell, f_X11_refuse, f_X11_tellIf, f_X11_tellOrNone, f_X11_tellSooner, f_X11_deny, f_X11_succeed, f_X12_refuse, f_X12_no, hp0, c_hasPerson hL, c_hasPlace hL]
          · unfold f_X12_ways
            simp (disch := first | omega | assumption) only [↓lt, Option.bind_some, zl, ll, zadd, zsub, zmul, zneg, ladd, lsub, lmul, lneg, zltT, zltF, zleT, zleF, zeqT, zeqF, zidx, ixT, zwide, bIT, bIF, if_true, if_false, ↓reduceIte, Nat.reduceAdd, Int.reduceAdd, Int.reduceMul, Int.reduceSub, Int.reduceNeg, cs_c, cs_o, cs_2, cu_c, cu_o, Int.cast_ofNat_Int, ps_f, ps_g, ps_w, ps_o, ps_2, pu_f, pu_g, pu_w, pu_o, uI_s, uI_o, uI_j, uI_j1, uI_j2, uI_tw, or0, true_or, or_true, false_or, or_false, nar0, nar1, f_X11_tell, f_X11_refuse, f_X11_tellIf, f_X11_tellOrNone, f_X11_tellSooner, f_X11_deny, f_X11_succeed, f_X12_refuse, f_X12_no, hp0, m_isPerson, m_isPlaceAt, m_isIn]
      · refine sc_no (c := f_X11_ways n 0 (zI x) (zI f) (zI t) (zI K)) (m := f_X12_ways n 227 (zI x) (zI f) (zI t) (zI K)) hO2 (r := lI (-1)) (s := zI 2) ?_ (fun X => ?_)
        · unfold f_X11_ways
          simp (disch := first | omega | assumption) only [↓lt, Option.bind_some, zl, ll, zadd, zsub, zmul, zneg, ladd, lsub, lmul, lneg, zltT, zltF, zleT, zleF, zeqT, zeqF, zidx, ixT, zwide, bIT, bIF, if_true, if_false, ↓reduceIte, Nat.reduceAdd, Int.reduceAdd, Int.reduceMul, Int.reduceSub, Int.reduceNeg, cs_c, cs_o, cs_2, cu_c, cu_o, Int.cast_ofNat_Int, ps_f, ps_g, ps_w, ps_o, ps_2, pu_f, pu_g, pu_w, pu_o, uI_s, uI_o, uI_j, uI_j1, uI_j2, uI_tw, or0, true_or, or_true, false_or, or_false, nar0, nar1, f_X11_tell, f_X11_refuse, f_X11_tellIf, f_X11_tellOrNone, f_X11_tellSooner, f_X11_deny, f_X11_succeed, f_X12_refuse, f_X12_no, hp0, c_hasPerson hL, c_hasPlace hL]
        · unfold f_X12_ways
          simp (disch := first | omega | assumption) only [↓lt, Option.bind_some, zl, ll, zadd, zsub, zmul, zneg, ladd, lsub, lmul, lneg, zltT, zltF, zleT, zleF, zeqT, zeqF, zidx, ixT, zwide, bIT, bIF, if_true, if_false, ↓reduceIte, Nat.reduceAdd, Int.reduceAdd, Int.reduceMul, Int.reduceSub, Int.reduceNeg, cs_c, cs_o, cs_2, cu_c, cu_o, Int.cast_ofNat_Int, ps_f, ps_g, ps_w, ps_o, ps_2, pu_f, pu_g, pu_w, pu_o, uI_s, uI_o, uI_j, uI_j1, uI_j2, uI_tw, or0, true_or, or_true, false_or, or_false, nar0, nar1, f_X11_tell, f_X11_refuse, f_X11_tellIf, f_X11_tellOrNone, f_X11_tellSooner, f_X11_deny, f_X11_succeed, f_X12_refuse, f_X12_no, hp0, m_isPerson, m_isPlaceAt]
    · refine sc_no (c := f_X11_ways n 0 (zI x) (zI f) (zI t) (zI K)) (m := f_X12_ways n 227 (zI x) (zI f) (zI t) (zI K)) hO2 (r := lI (-1)) (s := zI 2) ?_ (fun X => ?_)
      · unfold f_X11_ways
        simp (disch := first | omega | assumption) only [↓lt, Option.bind_some, zl, ll, zadd, zsub, zmul, zneg, ladd, lsub, lmul, lneg, zltT, zltF, zleT, zleF, zeqT, zeqF, zidx, ixT, zwide, bIT, bIF, if_true, if_false, ↓reduceIte, Nat.reduceAdd, Int.reduceAdd, Int.reduceMul, Int.reduceSub, Int.reduceNeg, cs_c, cs_o, cs_2, cu_c, cu_o, Int.cast_ofNat_Int, ps_f, ps_g, ps_w, ps_o, ps_2, pu_f, pu_g, pu_w, pu_o, uI_s, uI_o, uI_j, uI_j1, uI_j2, uI_tw, or0, true_or, or_true, false_or, or_false, nar0, nar1, f_X11_tell, f_X11_refuse, f_X11_tellIf, f_X11_tellOrNone, f_X11_tellSooner, f_X11_deny, f_X11_succeed, f_X12_refuse, f_X12_no, hp0, c_hasPerson hL, c_hasPlace hL]
      · unfold f_X12_ways
        simp (disch := first | omega | assumption) only [↓lt, Option.bind_some, zl, ll, zadd, zsub, zmul, zneg, ladd, lsub, lmul, lneg, zltT, zltF, zleT, zleF, zeqT, zeqF, zidx, ixT, zwide, bIT, bIF, if_true, if_false, ↓reduceIte, Nat.reduceAdd, Int.reduceAdd, Int.reduceMul, Int.reduceSub, Int.reduceNeg, cs_c, cs_o, cs_2, cu_c, cu_o, Int.cast_ofNat_Int, ps_f, ps_g, ps_w, ps_o, ps_2, pu_f, pu_g, pu_w, pu_o, uI_s, uI_o, uI_j, uI_j1, uI_j2, uI_tw, or0, true_or, or_true, false_or, or_false, nar0, nar1, f_X11_tell, f_X11_refuse, f_X11_tellIf, f_X11_tellOrNone, f_X11_tellSooner, f_X11_deny, f_X11_succeed, f_X12_refuse, f_X12_no, hp0, m_isPerson, m_isPlaceAt]
  · refine sc_no (c := f_X11_ways n 0 (zI x) (zI f) (zI t) (zI K)) (m := f_X12_ways n 227 (zI x) (zI f) (zI t) (zI K)) hO2 (r := lI (-1)) (s := zI 2) ?_ (fun X => ?_)
    · unfold f_X11_ways
      simp (disch := first | omega | assumption) only [↓lt, Option.bind_some, zl, ll, zadd, zsub, zmul, zneg, ladd, lsub, lmul, lneg, zltT, zltF, zleT, zleF, zeqT, zeqF, zidx, ixT, zwide, bIT, bIF, if_true, if_false, ↓reduceIte, Nat.reduceAdd, Int.reduceAdd, Int.reduceMul, Int.reduceSub, Int.reduceNeg, cs_c, cs_o, cs_2, cu_c, cu_o, Int.cast_ofNat_Int, ps_f, ps_g, ps_w, ps_o, ps_2, pu_f, pu_g, pu_w, pu_o, uI_s, uI_o, uI_j, uI_j1, uI_j2, uI_tw, or0, true_or, or_true, false_or, or_false, nar0, nar1, f_X11_tell, f_X11_refuse, f_X11_tellIf, f_X11_tellOrNone, f_X11_tellSooner, f_X11_deny, f_X11_succeed, f_X12_refuse, f_X12_no, hp0, c_hasPerson hL]
    · unfold f_X12_ways
      simp (disch := first | omega | assumption) only [↓lt, Option.bind_some, zl, ll, zadd, zsub, zmul, zneg, ladd, lsub, lmul, lneg, zltT, zltF, zleT, zleF, zeqT, zeqF, zidx, ixT, zwide, bIT, bIF, if_true, if_false, ↓reduceIte, Nat.reduceAdd, Int.reduceAdd, Int.reduceMul, Int.reduceSub, Int.reduceNeg, cs_c, cs_o, cs_2, cu_c, cu_o, Int.cast_ofNat_Int, ps_f, ps_g, ps_w, ps_o, ps_2, pu_f, pu_g, pu_w, pu_o, uI_s, uI_o, uI_j, uI_j1, uI_j2, uI_tw, or0, true_or, or_true, false_or, or_false, nar0, nar1, f_X11_tell, f_X11_refuse, f_X11_tellIf, f_X11_tellOrNone, f_X11_tellSooner, f_X11_deny, f_X11_succeed, f_X12_refuse, f_X12_no, hp0, m_isPerson]
