/-! ===== pairs: all ask, in both ===== -/
theorem asS_1 {b : Int → Int} {p : Int} {s : PST} (h : ¬ nx b p (s.2 p) = -1) : (asS b p s).1 = if s.1 (nx b p (s.2 p)) = -1 ∨ lk b (nx b p (s.2 p)) p (s.1 (nx b p (s.2 p))) then asM s.1 p (nx b p (s.2 p)) else s.1 := by
  unfold asS
  rw [if_neg h]
theorem c_askNext {b : Int → Int} {dd : Int → Int} {p : Int} {L n : Nat} {M : KM} {g : Int → Int → Int → Int} {s : PST} (hL : HL (cs M dd) L b) (hl : 23 ≤ L ∧ L ≤ 61) (hg : GR g b) (hb : WB b) (hG : GS b s) (hp : sgt b p) (hn : 20 < n) : f_X5_askNext n 19 L (zI p) (ps (cs (pq M 20 21 s.1 s.2) dd) L g) = some (ps (cs (pq M 20 21 (asS b p s).1 (asS b p s).2) dd) L g) := by
  have hh := hb.1
  unfold WH at hh
  have hi : 0 ≤ b 2 ∧ b 2 ≤ 8 := by omega
  clear hh
  have e1 := fun κ => c_next (κ := κ) (m := s.1) (A := s.2) hL hl hg hb hp.1 hp.2.1 hn
  unfold f_X5_askNext
  rcases nx_r (b := b) (p := p) (P := s.2 p) hi.1 with ⟨e, -⟩ | ⟨q1, q2, -⟩
  · rw [asS_n e]
    rw [e] at e1
    simp (disch := first | omega | assumption) only [↓lt, Option.bind_some, zl, ll, zadd, zsub, zmul, zneg, ladd, lsub, lmul, lneg, zltT, zltF, zleT, zleF, zeqT, zeqF, zidx, ixT, zwide, bIT, bIF, if_true, if_false, ↓reduceIte, Nat.reduceAdd, Int.reduceAdd, Int.reduceMul, Int.reduceSub, Int.reduceNeg, cs_c, cs_o, cs_2, cu_c, cu_o, Int.cast_ofNat_Int, ps_f, ps_g, ps_w, ps_o, ps_2, pu_f, pu_g, pu_w, pu_o, uI_s, uI_o, uI_j, uI_j1, uI_j2, uI_tw, or0, true_or, or_true, false_or, or_false, nar0, nar1, e1]
  · have ne : ¬ nx b p (s.2 p) = -1 := by have := q1.1; omega
    rw [asS_1 ne, asS_2 ne]
    generalize nx b p (s.2 p) = q at *
    have p8 : p < 8 := by have := hp.2.1; omega
    have q8 : q < 8 := by have := q1.2.1; omega
    have p0 : 0 ≤ p := hp.1
    have q0 : 0 ≤ q := q1.1
    have ea := setB_adA (P := s.2 p) q0 q8
    have hc := hG.2.2.1 q q1
    by_cases w : s.1 q = -1
    · rw [if_pos (Or.inl w)]
      have el0 := fun x M => c_likesN (w := zI q) (x := x) (L := L) (n := n) (M := M)
      unfold asM
      rw [if_pos w]
      clear hc q1 hp
      simp (disch := first | omega | assumption) only [↓lt, Option.bind_some, zl, ll, zadd, zsub, zmul, zneg, ladd, lsub, lmul, lneg, zltT, zltF, zleT, zleF, zeqT, zeqF, zidx, ixT, zwide, bIT, bIF, if_true, if_false, ↓reduceIte, Nat.reduceAdd, Int.reduceAdd, Int.reduceMul, Int.reduceSub, Int.reduceNeg, cs_c, cs_o, cs_2, cu_c, cu_o, Int.cast_ofNat_Int, ps_f, ps_g, ps_w, ps_o, ps_2, pu_f, pu_g, pu_w, pu_o, uI_s, uI_o, uI_j, uI_j1, uI_j2, uI_tw, or0, true_or, or_true, false_or, or_false, nar0, nar1, pq_m, pq_a, pq_o, pq_um, pq_uA, e1, ea, w, el0]
    · have hk := hc.resolve_left (fun z => w z.1)
      have k0 : 0 ≤ s.1 q ∧ s.1 q < b 2 := ⟨hk.1.1, hk.1.2.1⟩
      have el := fun M => c_likes (L := L) (n := n) (M := M) (w := q) (x := p) (y := s.1 q) hg hb q0 q1.2.1 p0 hp.2.1 k0.1 k0.2
      clear hc hk q1 hp
      by_cases v : lk b q p (s.1 q)
      · rw [if_pos (Or.inr v)]
        simp only [bIT v] at el
        unfold asM
        rw [if_neg w]
        clear v
        simp (disch := first | omega | assumption) only [↓lt, Option.bind_some, zl, ll, zadd, zsub, zmul, zneg, ladd, lsub, lmul, lneg, zltT, zltF, zleT, zleF, zeqT, zeqF, zidx, ixT, zwide, bIT, bIF, if_true, if_false, ↓reduceIte, Nat.reduceAdd, Int.reduceAdd, Int.reduceMul, Int.reduceSub, Int.reduceNeg, cs_c, cs_o, cs_2, cu_c, cu_o, Int.cast_ofNat_Int, ps_f, ps_g, ps_w, ps_o, ps_2, pu_f, pu_g, pu_w, pu_o, uI_s, uI_o, uI_j, uI_j1, uI_j2, uI_tw, or0, true_or, or_true, false_or, or_false, nar0, nar1, pq_m, pq_a, pq_o, pq_um, pq_uA, e1, ea, el]
      · rw [if_neg (fun z => z.elim w v)]
        simp only [bIF v] at el
        clear v
        simp (disch := first | omega | assumption) only [↓lt, Option.bind_some, zl, ll, zadd, zsub, zmul, zneg, ladd, lsub, lmul, lneg, zltT, zltF, zleT, zleF, zeqT, zeqF, zidx, ixT, zwide, bIT, bIF, if_true, if_false, ↓reduceIte, Nat.reduceAdd, Int.reduceAdd, Int.reduceMul, Int.reduceSub, Int.reduceNeg, cs_c, cs_o, cs_2, cu_c, cu_o, Int.cast_ofNat_Int, ps_f, ps_g, ps_w, ps_o, ps_2, pu_f, pu_g, pu_w, pu_o, uI_s, uI_o, uI_j, uI_j1, uI_j2, uI_tw, or0, true_or, or_true, false_or, or_false, nar0, nar1, pq_m, pq_a, pq_o, pq_um, pq_uA, e1, ea, el]
def ixS (b : Int → Int) (i : Int) (s : PST) : PST := if b (106 + i) = 0 ∧ s.1 i = -1 then asS b i s else s
def rdS (b : Int → Int) (s : PST) : PST := fI (ixS b) (b 2).toNat 0 s
theorem ixS_t {b : Int → Int} {i : Int} {s : PST} (h1 : b (106 + i) = 0) (h2 : s.1 i = -1) : ixS b i s = asS b i s := if_pos ⟨h1, h2⟩
theorem ixS_f {b : Int → Int} {i : Int} {s : PST} (h : ¬ (b (106 + i) = 0 ∧ s.1 i = -1)) : ixS b i s = s := if_neg h
theorem ixS_R {b : Int → Int} {i : Int} {s : PST} (h0 : 0 ≤ b 2) (h1 : 0 ≤ i) (h2 : i < b 2) (h : Rk b s) : Rk b (ixS b i s) := by
  unfold ixS
  by_cases e : b (106 + i) = 0 ∧ s.1 i = -1
  · rw [if_pos e]; exact Rk_st h0 h ⟨h1, h2, e.1⟩ e.2
  · rw [if_neg e]; exact h
theorem c_round {b : Int → Int} {dd : Int → Int} {L n : Nat} {M : KM} {g : Int → Int → Int → Int} {s : PST} {c2 : Int32} {κ : KM → Option KM} (hL : HL (cs M dd) L b) (hl : 23 ≤ L ∧ L ≤ 61) (hg : GR g b) (hb : WB b) (hG : Rk b s) (hn : 60 < n) : lp_X5_findPairs_38 n 19 L c2 (zI 0) (ps (cs (pq M 20 21 s.1 s.2) dd) L g) κ = κ (ps (cs (pq M 20 21 (rdS b s).1 (rdS b s).2) dd) L g) := by
  have hh := hb.1
  unfold WH at hh
  have hi : 0 ≤ b 2 ∧ b 2 ≤ 8 := by omega
  clear hh
  have w2 : M.1 L 10 = zI (b 2) := ((HL_cs hl.2).mp hL).2.2.1
  refine (loop_f (lp := fun k i s => lp_X5_findPairs_38 k 19 L c2 i (ps (cs (pq M 20 21 s.1 s.2) dd) L g) κ) (f := ixS b) (fin := fun s => κ (ps (cs (pq M 20 21 s.1 s.2) dd) L g)) (fun _ s => Rk b s) (N := 30) (R := b 2) (fun k i s hk u v hw => ⟨?_, ixS_R hi.1 u v hw⟩) (fun k w _ _ => ?_) (b 2).toNat 0 s n (by omega) (by omega) (by omega) hG).1
  · have gp := hg.1 i u v
    have ez := WPb hb u v
    unfold GP at gp
    have g3 : g i 0 3 = 1 - b (106 + i) := gp.1
    have i3 : 0 ≤ b (106 + i) ∧ b (106 + i) ≤ 1 := by omega
    clear gp ez
    have mr : -1 ≤ s.1 i ∧ s.1 i < 8 := by
      by_cases hs : b (106 + i) = 0
      · rcases hw.1.2.2.2.1 i ⟨u, v, hs⟩ with z | ⟨z, -⟩
        · omega
        · have := z.1; have := z.2.1; omega
      · rcases hw.1.2.2.1 i ⟨u, v, by omega⟩ with ⟨z, -⟩ | ⟨z, -⟩
        · omega
        · have := z.1; have := z.2.1; omega
    rw [lp_X5_findPairs_38]
    by_cases h1 : b (106 + i) = 0
    · by_cases h2 : s.1 i = -1
      · have ea := c_askNext (n := k) (p := i) (M := M) (g := g) hL hl hg hb hw.1 ⟨u, v, h1⟩ (by omega)
        rw [ixS_t h1 h2]
        simp (disch := first | omega | assumption) only [↓lt, Option.bind_some, zl, ll, zadd, zsub, zmul, zneg, ladd, lsub, lmul, lneg, zltT, zltF, zleT, zleF, zeqT, zeqF, zidx, ixT, zwide, bIT, bIF, if_true, if_false, ↓reduceIte, Nat.reduceAdd, Int.reduceAdd, Int.reduceMul, Int.reduceSub, Int.reduceNeg, cs_c, cs_o, cs_2, cu_c, cu_o, Int.cast_ofNat_Int, ps_f, ps_g, ps_w, ps_o, ps_2, pu_f, pu_g, pu_w, pu_o, uI_s, uI_o, uI_j, uI_j1, uI_j2, uI_tw, or0, true_or, or_true, false_or, or_false, nar0, nar1, pq_m, pq_a, pq_o, pq_um, pq_uA, w2, g3, h2, ea]
      · rw [ixS_f (fun z => h2 z.2)]
        simp (disch := first | omega | assumption) only [↓lt, Option.bind_some, zl, ll, zadd, zsub, zmul, zneg, ladd, lsub, lmul, lneg, zltT, zltF, zleT, zleF, zeqT, zeqF, zidx, ixT, zwide, bIT, bIF, if_true, if_false, ↓reduceIte, Nat.reduceAdd, Int.reduceAdd, Int.reduceMul, Int.reduceSub, Int.reduceNeg, cs_c, cs_o, cs_2, cu_c, cu_o, Int.cast_ofNat_Int, ps_f, ps_g, ps_w, ps_o, ps_2, pu_f, pu_g, pu_w, pu_o, uI_s, uI_o, uI_j, uI_j1, uI_j2, uI_tw, or0, true_or, or_true, false_or, or_false, nar0, nar1, pq_m, pq_a, pq_o, pq_um, pq_uA, w2, g3]
    · rw [ixS_f (fun z => h1 z.1)]
      simp (disch := first | omega | assumption) only [↓lt, Option.bind_some, zl, ll, zadd, zsub, zmul, zneg, ladd, lsub, lmul, lneg, zltT, zltF, zleT, zleF, zeqT, zeqF, zidx, ixT, zwide, bIT, bIF, if_true, if_false, ↓reduceIte, Nat.reduceAdd, Int.reduceAdd, Int.reduceMul, Int.reduceSub, Int.reduceNeg, cs_c, cs_o, cs_2, cu_c, cu_o, Int.cast_ofNat_Int, ps_f, ps_g, ps_w, ps_o, ps_2, pu_f, pu_g, pu_w, pu_o, uI_s, uI_o, uI_j, uI_j1, uI_j2, uI_tw, or0, true_or, or_true, false_or, or_false, nar0, nar1, pq_m, pq_a, pq_o, pq_um, pq_uA, w2, g3]
  · rw [lp_X5_findPairs_38]
    simp (disch := first | omega | assumption) only [↓lt, Option.bind_some, zl, ll, zadd, zsub, zmul, zneg, ladd, lsub, lmul, lneg, zltT, zltF, zleT, zleF, zeqT, zeqF, zidx, ixT, zwide, bIT, bIF, if_true, if_false, ↓reduceIte, Nat.reduceAdd, Int.reduceAdd, Int.reduceMul, Int.reduceSub, Int.reduceNeg, cs_c, cs_o, cs_2, cu_c, cu_o, Int.cast_ofNat_Int, ps_f, ps_g, ps_w, ps_o, ps_2, pu_f, pu_g, pu_w, pu_o, uI_s, uI_o, uI_j, uI_j1, uI_j2, uI_tw, or0, true_or, or_true, false_or, or_false, nar0, nar1, pq_m, pq_a, pq_o, pq_um, pq_uA, w2]
theorem rdS_R {b : Int → Int} {s : PST} (h0 : 0 ≤ b 2) (h : Rk b s) : Rk b (rdS b s) :=
  fI_ind (V := fun s => Rk b s) (R := b 2) (fun i s h1 h2 h => ixS_R h0 h1 h2 h) (b 2).toNat 0 s (by omega) (by omega) h
theorem ixS_c {b : Int → Int} {i : Int} {s : PST} (h0 : 0 ≤ b 2) (h8 : b 2 ≤ 8) (h1 : 0 ≤ i) (h2 : i < b 2) : ixS b i s = s ∨ cA (ixS b i s).2 = cA s.2 + 1 := by
  unfold ixS
  by_cases e : b (106 + i) = 0 ∧ s.1 i = -1
  · rw [if_pos e]; exact asS_c h0 h8 ⟨h1, h2, e.1⟩
  · rw [if_neg e]; exact Or.inl rfl
theorem rdS_c {b : Int → Int} (h0 : 0 ≤ b 2) (h8 : b 2 ≤ 8) : ∀ (k : Nat) (i : Int) (s : PST), 0 ≤ i → i + k = b 2 → (cA s.2 + 1 ≤ cA (fI (ixS b) k i s).2) ∨ (fI (ixS b) k i s = s ∧ ∀ p, i ≤ p → p < b 2 → ixS b p s = s) := by
  intro k
  induction k with
  | zero => intro i s h1 h2; exact Or.inr ⟨rfl, fun p a c => by omega⟩
  | succ k ih =>
    intro i s h1 h2
    show (cA s.2 + 1 ≤ cA (fI (ixS b) k (i + 1) (ixS b i s)).2) ∨ (fI (ixS b) k (i + 1) (ixS b i s) = s ∧ _)
    have e := ih (i + 1) (ixS b i s) (by omega) (by omega)
    rcases ixS_c (s := s) h0 h8 h1 (show i < b 2 by omega) with d | d
    · rw [d] at e ⊢
      rcases e with e | ⟨e1, e2⟩
      · exact Or.inl e
      · refine Or.inr ⟨e1, fun p a c => ?_⟩
        by_cases y : p = i
        · rw [y]; exact d
        · exact e2 p (by omega) c
    · rcases e with e | ⟨e1, e2⟩
      · exact Or.inl (by omega)
      · exact Or.inl (by rw [e1]; omega)
theorem rd_fin {b : Int → Int} {s : PST} (h0 : 0 ≤ b 2) (h8 : b 2 ≤ 8) : (cA s.2 + 1 ≤ cA (rdS b s).2) ∨ (rdS b s = s ∧ Fin8 b s) := by
  rcases rdS_c h0 h8 (b 2).toNat 0 s (by omega) (by omega) with e | ⟨e1, e2⟩
  · exact Or.inl e
  · refine Or.inr ⟨e1, fun p hp => ?_⟩
    by_cases y : s.1 p = -1
    · refine Or.inr ?_
      have := e2 p hp.1 hp.2.1
      unfold ixS at this
      rw [if_pos ⟨hp.2.2, y⟩] at this
      rcases nx_r (b := b) (p := p) (P := s.2 p) h0 with ⟨-, e⟩ | ⟨q1, q2, -⟩
      · exact e
      · exfalso
        have z := asS_2 (b := b) (p := p) (s := s) (by have := q1.1; omega)
        rw [this] at z
        have z2 := congrFun (congrFun z p) (nx b p (s.2 p))
        rw [adP_s, q2] at z2
        exact absurd z2 (by decide)
    · exact Or.inl y
def itS (b : Int → Int) : Nat → PST → PST
  | 0, s => s
  | k + 1, s => itS b k (rdS b s)
theorem itS_R {b : Int → Int} (h0 : 0 ≤ b 2) : ∀ (k : Nat) (s : PST), Rk b s → Rk b (itS b k s) := by
  intro k
  induction k with
  | zero => intro s h; exact h
  | succ k ih => intro s h; exact ih _ (rdS_R h0 h)
theorem itS_st {b : Int → Int} {s : PST} (h : rdS b s = s) : ∀ k : Nat, itS b k s = s := by
  intro k
  induction k with
  | zero => rfl
  | succ k ih => show itS b k (rdS b s) = s; rw [h]; exact ih
theorem itS_c {b : Int → Int} (h0 : 0 ≤ b 2) (h8 : b 2 ≤ 8) : ∀ (k : Nat) (s : PST), (cA s.2 + k ≤ cA (itS b k s).2) ∨ Fin8 b (itS b k s) := by
  intro k
  induction k with
  | zero => intro s; refine Or.inl ?_; show cA s.2 + 0 ≤ cA s.2; omega
  | succ k ih =>
    intro s
    show (cA s.2 + ((k + 1 : Nat) : Int) ≤ cA (itS b k (rdS b s)).2) ∨ Fin8 b (itS b k (rdS b s))
    rcases rd_fin (s := s) h0 h8 with e | ⟨e1, e2⟩
    · rcases ih (rdS b s) with d | d
      · exact Or.inl (by omega)
      · exact Or.inr d
    · refine Or.inr ?_
      rw [e1, itS_st e1]; exact e2
def s0 : PST := (fun _ => -1, fun _ _ => false)
theorem s0_R {b : Int → Int} : Rk b s0 := ⟨⟨fun _ _ h => absurd h Bool.false_ne_true, fun _ _ _ _ _ h _ => absurd h Bool.false_ne_true, fun _ _ => Or.inl ⟨rfl, fun _ => rfl⟩, fun _ _ => Or.inl rfl, fun _ _ => rfl⟩, fun _ _ _ _ _ h => absurd h Bool.false_ne_true⟩
theorem it64 {b : Int → Int} (h0 : 0 ≤ b 2) (h8 : b 2 ≤ 8) : Fin8 b (itS b 64 s0) := by
  rcases itS_c (b := b) h0 h8 64 s0 with e | e
  · have := cA_le (itS_R h0 64 s0 s0_R).1
    have c0 : cA s0.2 = 0 := by decide
    omega
  · exact e
theorem c_rounds {b : Int → Int} {dd : Int → Int} {L : Nat} {M : KM} {g : Int → Int → Int → Int} (hL : HL (cs M dd) L b) (hl : 23 ≤ L ∧ L ≤ 61) (hg : GR g b) (hb : WB b) : ∀ (k : Nat) (i : Int) (s : PST) (n : Nat), 0 ≤ i → i + k = 64 → 80 + k < n → Rk b s → lp_X5_findPairs_30 n 19 L (zI i) (ps (cs (pq M 20 21 s.1 s.2) dd) L g) = some (ps (cs (pq M 20 21 (itS b k s).1 (itS b k s).2) dd) L g) := by
  have hh := hb.1
  unfold WH at hh
  have hi : 0 ≤ b 2 ∧ b 2 ≤ 8 := by omega
  clear hh
  intro k
  induction k with
  | zero =>
    intro i s n h1 h2 h3 h4
    obtain ⟨m, rfl⟩ : ∃ m, n = m + 1 := ⟨n - 1, by omega⟩
    rw [lp_X5_findPairs_30]
    simp (disch := first | omega | assumption) only [↓lt, Option.bind_some, zl, ll, zadd, zsub, zmul, zneg, ladd, lsub, lmul, lneg, zltT, zltF, zleT, zleF, zeqT, zeqF, zidx, ixT, zwide, bIT, bIF, if_true, if_false, ↓reduceIte, Nat.reduceAdd, Int.reduceAdd, Int.reduceMul, Int.reduceSub, Int.reduceNeg, cs_c, cs_o, cs_2, cu_c, cu_o, Int.cast_ofNat_Int, ps_f, ps_g, ps_w, ps_o, ps_2, pu_f, pu_g, pu_w, pu_o, uI_s, uI_o, uI_j, uI_j1, uI_j2, uI_tw, or0, true_or, or_true, false_or, or_false, nar0, nar1]
    rfl
  | succ k ih =>
    intro i s n h1 h2 h3 h4
    obtain ⟨m, rfl⟩ : ∃ m, n = m + 1 := ⟨n - 1, by omega⟩
    have e := fun κ => c_round (n := m) (c2 := zI i) (κ := κ) (M := M) (g := g) hL hl hg hb h4 (by omega)
    have ih2 := ih (i + 1) (rdS b s) m (by omega) (by omega) (by omega) (rdS_R hi.1 h4)
    rw [lp_X5_findPairs_30]
    simp (disch := first | omega | assumption) only [↓lt, Option.bind_some, zl, ll, zadd, zsub, zmul, zneg, ladd, lsub, lmul, lneg, zltT, zltF, zleT, zleF, zeqT, zeqF, zidx, ixT, zwide, bIT, bIF, if_true, if_false, ↓reduceIte, Nat.reduceAdd, Int.reduceAdd, Int.reduceMul, Int.reduceSub, Int.reduceNeg, cs_c, cs_o, cs_2, cu_c, cu_o, Int.cast_ofNat_Int, ps_f, ps_g, ps_w, ps_o, ps_2, pu_f, pu_g, pu_w, pu_o, uI_s, uI_o, uI_j, uI_j1, uI_j2, uI_tw, or0, true_or, or_true, false_or, or_false, nar0, nar1, e]
    exact ih2
theorem pq_s0 {M : KM} {r s : Nat} {T U : Int → Int} (hrs : ¬ s = r) (hT : ∀ j, 0 ≤ j → j < 8 → T j = -1) (hU : ∀ j, 0 ≤ j → j < 8 → U j = 0) : rs (rs M s U) r T = pq M r s s0.1 s0.2 := by
  refine Prod.ext ?_ rfl
  funext c k
  show (if c = r ∧ k < 8 then zI (T k) else if c = s ∧ k < 8 then zI (U k) else M.1 c k) = (if c = r ∧ k < 8 then zI (-1) else if c = s ∧ k < 8 then setB (fun _ => false) 8 else M.1 c k)
  by_cases e : c = r ∧ k < 8
  · rw [if_pos e, if_pos e, hT _ (by omega) (by omega)]
  · rw [if_neg e, if_neg e]
    by_cases e2 : c = s ∧ k < 8
    · rw [if_pos e2, if_pos e2, hU _ (by omega) (by omega)]; decide
    · rw [if_neg e2, if_neg e2]
theorem pq_fill {M : KM} {r s : Nat} {T U : Int → Int} (hrs : ¬ s = r) : rs (rs M s (fI (fun i T => bu T i 0) 8 0 U)) r (fI (fun i T => bu T i (-1)) 8 0 T) = pq M r s s0.1 s0.2 := pq_s0 hrs (fun j j1 j2 => by rw [fI_bu (v := fun _ => -1), if_pos (by omega)]) (fun j j1 j2 => by rw [fI_bu (v := fun _ => 0), if_pos (by omega)])
theorem rs_uo {M : KM} {a c k : Nat} {T : Int → Int} {v : Int32} (h : ¬ c = a) : uI (rs M a T) c k v = rs (uI M c k v) a T := by
  refine Prod.ext ?_ rfl
  funext d i
  by_cases e : d = c ∧ i = k
  · rw [e.1, e.2, uI_s, rs_o h, uI_s]
  · rw [uI_o e]
    show (if d = a ∧ i < 8 then _ else _) = (if d = a ∧ i < 8 then _ else (uI M c k v).1 d i)
    rw [uI_o e]
theorem fI_bu2 {v u : Int → Int} : ∀ (k : Nat) (i : Int) (w : (Int → Int) × (Int → Int)), fI (fun i w => (bu w.1 i (v i), bu w.2 i (u i))) k i w = (fI (fun i T => bu T i (v i)) k i w.1, fI (fun i T => bu T i (u i)) k i w.2) := by
  intro k
  induction k with
  | zero => intro i w; rfl
  | succ k ih => intro i w; exact ih (i + 1) _
theorem c_findPairs {b : Int → Int} {dd : Int → Int} {L n : Nat} {M : KM} {g : Int → Int → Int → Int} (hL : HL (cs M dd) L b) (hl : 23 ≤ L ∧ L ≤ 61) (hg : GR g b) (hb : WB b) (hn : 200 < n) : f_X5_findPairs n 19 L (ps (cs M dd) L g) = some (ps (cs (pq M 20 21 (itS b 64 s0).1 (itS b 64 s0).2) dd) L g) := by
  have e1 := fun κ => (loop_f (lp := fun k r w => lp_X5_findPairs_2 k 19 L r (ps (cs (rs (rs M 21 w.2) 20 w.1) dd) L g) κ) (f := fun i w => (bu w.1 i (-1), bu w.2 i 0)) (fin := fun w => κ (ps (cs (rs (rs M 21 w.2) 20 w.1) dd) L g)) (fun _ _ => True) (N := 1) (R := 8) (fun k r w hk u v _ => ⟨by
    rw [lp_X5_findPairs_2]
    simp (disch := first | omega | assumption) only [↓lt, Option.bind_some, zl, ll, zadd, zsub, zmul, zneg, ladd, lsub, lmul, lneg, zltT, zltF, zleT, zleF, zeqT, zeqF, zidx, ixT, zwide, bIT, bIF, if_true, if_false, ↓reduceIte, Nat.reduceAdd, Int.reduceAdd, Int.reduceMul, Int.reduceSub, Int.reduceNeg, cs_c, cs_o, cs_2, cu_c, cu_o, Int.cast_ofNat_Int, ps_f, ps_g, ps_w, ps_o, ps_2, pu_f, pu_g, pu_w, pu_o, uI_s, uI_o, uI_j, uI_j1, uI_j2, uI_tw, or0, true_or, or_true, false_or, or_false, nar0, nar1, rs_u, rs_uo], trivial⟩) (fun k w _ _ => by
    rw [lp_X5_findPairs_2]
    simp (disch := first | omega | assumption) only [↓lt, Option.bind_some, zl, ll, zadd, zsub, zmul, zneg, ladd, lsub, lmul, lneg, zltT, zltF, zleT, zleF, zeqT, zeqF, zidx, ixT, zwide, bIT, bIF, if_true, if_false, ↓reduceIte, Nat.reduceAdd, Int.reduceAdd, Int.reduceMul, Int.reduceSub, Int.reduceNeg, cs_c, cs_o, cs_2, cu_c, cu_o, Int.cast_ofNat_Int, ps_f, ps_g, ps_w, ps_o, ps_2, pu_f, pu_g, pu_w, pu_o, uI_s, uI_o, uI_j, uI_j1, uI_j2, uI_tw, or0, true_or, or_true, false_or, or_false, nar0, nar1]) 8 0 (fun z => (M.1 20 z.toNat).toInt, fun z => (M.1 21 z.toNat).toInt) n (by omega) (by omega) (by omega) trivial).1
  have ex : rs (rs M 21 fun z => (M.1 21 z.toNat).toInt) 20 (fun z => (M.1 20 z.toNat).toInt) = M := by
    rw [← rs_ex M 21, ← rs_ex M 20]
  have e2 : ∀ κ : KM → Option KM, lp_X5_findPairs_2 n 19 L (zI 0) (ps (cs M dd) L g) κ = κ (ps (cs (pq M 20 21 s0.1 s0.2) dd) L g) := fun κ => by
    have := e1 κ
    rw [fI_bu2 (v := fun _ => -1) (u := fun _ => 0)] at this
    dsimp only at this
    rw [pq_fill (by decide), ex] at this
    exact this
  have e3 := c_rounds hL hl hg hb 64 0 s0 n (by omega) (by omega) (by omega) s0_R
  unfold f_X5_findPairs
  simp (disch := first | omega | assumption) only [zl]
  rw [e2]
  exact e3

