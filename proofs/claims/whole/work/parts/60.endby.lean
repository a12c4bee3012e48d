/-! ===== when a road is done, as the reference counts it ===== -/
theorem m_endLoop {b : Int → Int} {s k : Int} {X : KM} (hb : WB b) (h9 : b 9 = 0) (hf : ¬ (b 3 = 0 ∧ b 4 = 24)) (hs : 0 ≤ s) (hs2 : s ≤ 900000) (hk : 1 ≤ k) (hk2 : k ≤ 99) : ∀ (d : Nat) (m : Int) (n : Nat), s ≤ m → m + d = dnC (b 3) (b 4) s k → d < n → lp_X12_endBy_98 n 227 (cs X b) (zI m) (zI (clB (b 3) (b 4) s + k - clB (b 3) (b 4) m)) = some (zI (dnC (b 3) (b 4) s k)) := by
  have hh := hb.1
  unfold WH at hh
  have hi : 0 ≤ b 3 ∧ b 3 ≤ 23 ∧ b 3 < b 4 ∧ b 4 ≤ 24 := by omega
  have db := dnC_b (s := s) (k := k) hi.1 hi.2.1 hi.2.2.1 hi.2.2.2 hs hk hk2 hf
  have dl := fun m (hm : 0 ≤ m) => dnC_le (s := s) (k := k) (n := m) hi.1 hi.2.1 hi.2.2.1 hi.2.2.2 hs hk hf hm
  clear hh
  intro d
  induction d with
  | zero =>
    intro m n h1 h2 h3
    obtain ⟨l, rfl⟩ : ∃ l, n = l + 1 := ⟨n - 1, by omega⟩
    have e := (dl m (by omega)).mp (by omega)
    have cm := cl_m (m := s) (n := m) hi.1 hi.2.1 hi.2.2.1 hi.2.2.2 hs h1
    have : m = dnC (b 3) (b 4) s k := by omega
    rw [lp_X12_endBy_98, ← this]
    simp (disch := first | omega | assumption) only [↓lt, Option.bind_some, zl, ll, zadd, zsub, zmul, zneg, ladd, lsub, lmul, lneg, zltT, zltF, zleT, zleF, zeqT, zeqF, zidx, ixT, zwide, bIT, bIF, if_true, if_false, ↓reduceIte, Nat.reduceAdd, Int.reduceAdd, Int.reduceMul, Int.reduceSub, Int.reduceNeg, cs_c, cs_o, cs_2, cu_c, cu_o, Int.cast_ofNat_Int, ps_f, ps_g, ps_w, ps_o, ps_2, pu_f, pu_g, pu_w, pu_o, uI_s, uI_o, uI_j, uI_j1, uI_j2, uI_tw, or0, true_or, or_true, false_or, or_false, nar0, nar1]
  | succ d ih =>
    intro m n h1 h2 h3
    obtain ⟨l, rfl⟩ : ∃ l, n = l + 1 := ⟨n - 1, by omega⟩
    have e : ¬ (clB (b 3) (b 4) s + k ≤ clB (b 3) (b 4) m) := fun z => by
      have := (dl m (by omega)).mpr z
      omega
    have cm := cl_m (m := s) (n := m) hi.1 hi.2.1 hi.2.2.1 hi.2.2.2 hs h1
    have st := cl_step (m := m) hi.1 hi.2.1 hi.2.2.1 hi.2.2.2 (by omega)
    have eg := m_glares (n := l) (M := X) (t := m) hb.1 (by omega) (by omega)
    have ih2 := ih (m + 1) l (by omega) (by omega) (by omega)
    rw [lp_X12_endBy_98]
    by_cases g : glH (b 3) (b 4) m
    · rw [bIT (show glB b m from ⟨h9, g.1, g.2⟩)] at eg
      rw [if_pos g, Int.add_zero] at st
      rw [st] at ih2
      simp (disch := first | omega | assumption) only [↓lt, Option.bind_some, zl, ll, zadd, zsub, zmul, zneg, ladd, lsub, lmul, lneg, zltT, zltF, zleT, zleF, zeqT, zeqF, zidx, ixT, zwide, bIT, bIF, if_true, if_false, ↓reduceIte, Nat.reduceAdd, Int.reduceAdd, Int.reduceMul, Int.reduceSub, Int.reduceNeg, cs_c, cs_o, cs_2, cu_c, cu_o, Int.cast_ofNat_Int, ps_f, ps_g, ps_w, ps_o, ps_2, pu_f, pu_g, pu_w, pu_o, uI_s, uI_o, uI_j, uI_j1, uI_j2, uI_tw, or0, true_or, or_true, false_or, or_false, nar0, nar1, eg]
      exact ih2
    · rw [bIF (show ¬ glB b m from fun z => g ⟨z.2.1, z.2.2⟩)] at eg
      rw [if_neg g] at st
      rw [st] at ih2
      have er : clB (b 3) (b 4) s + k - clB (b 3) (b 4) m + -1 = clB (b 3) (b 4) s + k - (clB (b 3) (b 4) m + 1) := by omega
      simp (disch := first | omega | assumption) only [↓lt, Option.bind_some, zl, ll, zadd, zsub, zmul, zneg, ladd, lsub, lmul, lneg, zltT, zltF, zleT, zleF, zeqT, zeqF, zidx, ixT, zwide, bIT, bIF, if_true, if_false, ↓reduceIte, Nat.reduceAdd, Int.reduceAdd, Int.reduceMul, Int.reduceSub, Int.reduceNeg, cs_c, cs_o, cs_2, cu_c, cu_o, Int.cast_ofNat_Int, ps_f, ps_g, ps_w, ps_o, ps_2, pu_f, pu_g, pu_w, pu_o, uI_s, uI_o, uI_j, uI_j1, uI_j2, uI_tw, or0, true_or, or_true, false_or, or_false, nar0, nar1, eg, er]
      exact ih2
theorem m_endCloud {b : Int → Int} {X : KM} (hb : WB b) (h9 : ¬ b 9 = 0) : ∀ (k : Nat) (m : Int) (n : Nat), 0 ≤ m → m + k < 1000000 → k < n → lp_X12_endBy_98 n 227 (cs X b) (zI m) (zI k) = some (zI (m + k)) := by
  intro k
  induction k with
  | zero =>
    intro m n h1 h2 h3
    obtain ⟨l, rfl⟩ : ∃ l, n = l + 1 := ⟨n - 1, by omega⟩
    rw [lp_X12_endBy_98, show ((0 : Nat) : Int) = 0 from rfl, Int.add_zero]
    simp (disch := first | omega | assumption) only [↓lt, Option.bind_some, zl, ll, zadd, zsub, zmul, zneg, ladd, lsub, lmul, lneg, zltT, zltF, zleT, zleF, zeqT, zeqF, zidx, ixT, zwide, bIT, bIF, if_true, if_false, ↓reduceIte, Nat.reduceAdd, Int.reduceAdd, Int.reduceMul, Int.reduceSub, Int.reduceNeg, cs_c, cs_o, cs_2, cu_c, cu_o, Int.cast_ofNat_Int, ps_f, ps_g, ps_w, ps_o, ps_2, pu_f, pu_g, pu_w, pu_o, uI_s, uI_o, uI_j, uI_j1, uI_j2, uI_tw, or0, true_or, or_true, false_or, or_false, nar0, nar1]
  | succ k ih =>
    intro m n h1 h2 h3
    obtain ⟨l, rfl⟩ : ∃ l, n = l + 1 := ⟨n - 1, by omega⟩
    have eg := m_glares (n := l) (M := X) (t := m) hb.1 (by omega) (by omega)
    rw [bIF (show ¬ glB b m from fun z => h9 z.1)] at eg
    have ih2 := ih (m + 1) l (by omega) (by omega) (by omega)
    rw [lp_X12_endBy_98]
    have er : ((k + 1 : Nat) : Int) + -1 = (k : Int) := by omega
    have er2 : m + ((k + 1 : Nat) : Int) = m + 1 + (k : Int) := by omega
    rw [er2, ← ih2]
    simp (disch := first | omega | assumption) only [↓lt, Option.bind_some, zl, ll, zadd, zsub, zmul, zneg, ladd, lsub, lmul, lneg, zltT, zltF, zleT, zleF, zeqT, zeqF, zidx, ixT, zwide, bIT, bIF, if_true, if_false, ↓reduceIte, Nat.reduceAdd, Int.reduceAdd, Int.reduceMul, Int.reduceSub, Int.reduceNeg, cs_c, cs_o, cs_2, cu_c, cu_o, Int.cast_ofNat_Int, ps_f, ps_g, ps_w, ps_o, ps_2, pu_f, pu_g, pu_w, pu_o, uI_s, uI_o, uI_j, uI_j1, uI_j2, uI_tw, or0, true_or, or_true, false_or, or_false, nar0, nar1, eg, er]
def eI (b : Int → Int) (p r s : Int) : Int := if dnI (b 3) (b 4) (pcB b p r) s (b (34 + r)) < 1000000000 then dnI (b 3) (b 4) (pcB b p r) s (b (34 + r)) else -1
theorem eI_v {b : Int → Int} {p r s v : Int} (h : dnI (b 3) (b 4) (pcB b p r) s (b (34 + r)) = v) (hv : v < 1000000000) : eI b p r s = v := by
  unfold eI
  rw [h, if_pos hv]
theorem eI_n {b : Int → Int} {p r s : Int} (h : dnI (b 3) (b 4) (pcB b p r) s (b (34 + r)) = 1000000000) : eI b p r s = -1 := by
  unfold eI
  rw [h, if_neg (by decide)]
theorem m_endBy {b : Int → Int} {p r s : Int} {n : Nat} {X : KM} (hb : WB b) (h1 : 0 ≤ p) (h2 : p < b 2) (h3 : 0 ≤ r) (h4 : r < b 1) (hs : 0 ≤ s) (hs2 : s ≤ 900000) (hn : 3000 < n) : f_X12_endBy n 227 (zI p) (zI r) (zI s) (cs X b) = some (zI (eI b p r s)) := by
  have hh := hb.1
  unfold WH at hh
  have ez := WPb hb h1 h2
  have hR := hb.2.1 r h3 h4
  unfold WR at hR
  have hi : 0 ≤ b 3 ∧ b 3 ≤ 23 ∧ b 3 < b 4 ∧ b 4 ≤ 24 ∧ 0 ≤ b 9 ∧ b 9 ≤ 1 ∧ b 1 ≤ 12 ∧ b 2 ≤ 8 ∧ 1 ≤ b 7 ∧ b 7 ≤ 9 := by omega
  have ec : f_X12_canGo n 227 (zI p) (zI r) (bI True) (cs X b) = some (bI (canB b p r True)) := m_canGo h1 (by omega) h3 (by omega) (by omega) (by omega) (by omega) (by omega) (by omega) (by omega) hb.2.2.2.1 (by omega) (by omega)
  have ik : 1 ≤ b (34 + r) ∧ b (34 + r) ≤ 99 := by omega
  have ib : 0 ≤ b (98 + p) ∧ b (98 + p) ≤ 1 ∧ 0 ≤ b (106 + p) ∧ b (106 + p) ≤ 1 := by omega
  have w0 : ¬ 1000000000 ≤ s := by omega
  clear hh hR ez
  rw [bIT (c := True) trivial] at ec
  unfold f_X12_endBy
  by_cases w1 : b (106 + p) = 1
  · by_cases w2 : b (46 + r) = 1 ∨ b 7 ≤ b (130 + 12 * p + r)
    · have ep : pcB b p r = 0 := by unfold pcB; rw [if_pos w1, if_pos w2]
      rw [bIT (Or.inl ⟨w1, w2⟩)] at ec
      rw [eI_v (v := s + b (34 + r)) (by rw [ep, dnI_0 w0]) (by omega)]
      simp (disch := first | omega | assumption) only [↓lt, Option.bind_some, zl, ll, zadd, zsub, zmul, zneg, ladd, lsub, lmul, lneg, zltT, zltF, zleT, zleF, zeqT, zeqF, zidx, ixT, zwide, bIT, bIF, if_true, if_false, ↓reduceIte, Nat.reduceAdd, Int.reduceAdd, Int.reduceMul, Int.reduceSub, Int.reduceNeg, cs_c, cs_o, cs_2, cu_c, cu_o, Int.cast_ofNat_Int, ps_f, ps_g, ps_w, ps_o, ps_2, pu_f, pu_g, pu_w, pu_o, uI_s, uI_o, uI_j, uI_j1, uI_j2, uI_tw, or0, true_or, or_true, false_or, or_false, nar0, nar1, w1, ec]
    · have ep : pcB b p r = 2 := by unfold pcB; rw [if_pos w1, if_neg w2]
      rw [bIF (fun z => z.elim (fun y => w2 y.2) (fun y => by omega))] at ec
      rw [eI_n (by rw [ep, dnI_2])]
      simp (disch := first | omega | assumption) only [↓lt, Option.bind_some, zl, ll, zadd, zsub, zmul, zneg, ladd, lsub, lmul, lneg, zltT, zltF, zleT, zleF, zeqT, zeqF, zidx, ixT, zwide, bIT, bIF, if_true, if_false, ↓reduceIte, Nat.reduceAdd, Int.reduceAdd, Int.reduceMul, Int.reduceSub, Int.reduceNeg, cs_c, cs_o, cs_2, cu_c, cu_o, Int.cast_ofNat_Int, ps_f, ps_g, ps_w, ps_o, ps_2, pu_f, pu_g, pu_w, pu_o, uI_s, uI_o, uI_j, uI_j1, uI_j2, uI_tw, or0, true_or, or_true, false_or, or_false, nar0, nar1, w1, ec]
  · by_cases w3 : b (98 + p) = 1
    · have ep : pcB b p r = 0 := by unfold pcB; rw [if_neg w1, if_pos (Or.inl w3)]
      rw [bIT (Or.inr ⟨by omega, Or.inr w3⟩)] at ec
      rw [eI_v (v := s + b (34 + r)) (by rw [ep, dnI_0 w0]) (by omega)]
      simp (disch := first | omega | assumption) only [↓lt, Option.bind_some, zl, ll, zadd, zsub, zmul, zneg, ladd, lsub, lmul, lneg, zltT, zltF, zleT, zleF, zeqT, zeqF, zidx, ixT, zwide, bIT, bIF, if_true, if_false, ↓reduceIte, Nat.reduceAdd, Int.reduceAdd, Int.reduceMul, Int.reduceSub, Int.reduceNeg, cs_c, cs_o, cs_2, cu_c, cu_o, Int.cast_ofNat_Int, ps_f, ps_g, ps_w, ps_o, ps_2, pu_f, pu_g, pu_w, pu_o, uI_s, uI_o, uI_j, uI_j1, uI_j2, uI_tw, or0, true_or, or_true, false_or, or_false, nar0, nar1, w3, ec]
    · by_cases w4 : b 9 = 0
      · have ep : pcB b p r = 1 := by unfold pcB; rw [if_neg w1, if_neg (fun z => z.elim w3 (fun y => y w4))]
        by_cases w5 : b 3 = 0 ∧ b 4 = 24
        · rw [eI_n (by rw [ep, w5.1, w5.2, dnI_F w0])]
          simp (disch := first | omega | assumption) only [↓lt, Option.bind_some, zl, ll, zadd, zsub, zmul, zneg, ladd, lsub, lmul, lneg, zltT, zltF, zleT, zleF, zeqT, zeqF, zidx, ixT, zwide, bIT, bIF, if_true, if_false, ↓reduceIte, Nat.reduceAdd, Int.reduceAdd, Int.reduceMul, Int.reduceSub, Int.reduceNeg, cs_c, cs_o, cs_2, cu_c, cu_o, Int.cast_ofNat_Int, ps_f, ps_g, ps_w, ps_o, ps_2, pu_f, pu_g, pu_w, pu_o, uI_s, uI_o, uI_j, uI_j1, uI_j2, uI_tw, or0, true_or, or_true, false_or, or_false, nar0, nar1, w4, w5.1, w5.2]
        · have db := dnC_b (s := s) (k := b (34 + r)) hi.1 hi.2.1 hi.2.2.1 hi.2.2.2.1 hs ik.1 ik.2 w5
          have el := m_endLoop (X := X) (k := b (34 + r)) hb w4 w5 hs hs2 ik.1 ik.2 (dnC (b 3) (b 4) s (b (34 + r)) - s).toNat s n (by omega) (by omega) (by omega)
          rw [show clB (b 3) (b 4) s + b (34 + r) - clB (b 3) (b 4) s = b (34 + r) by omega] at el
          rw [eI_v (v := dnC (b 3) (b 4) s (b (34 + r))) (by rw [ep, dnI_1 w0 w5]) (by omega)]
          by_cases w6 : b 3 = 0
          · simp (disch := first | omega | assumption) only [↓lt, Option.bind_some, zl, ll, zadd, zsub, zmul, zneg, ladd, lsub, lmul, lneg, zltT, zltF, zleT, zleF, zeqT, zeqF, zidx, ixT, zwide, bIT, bIF, if_true, if_false, ↓reduceIte, Nat.reduceAdd, Int.reduceAdd, Int.reduceMul, Int.reduceSub, Int.reduceNeg, cs_c, cs_o, cs_2, cu_c, cu_o, Int.cast_ofNat_Int, ps_f, ps_g, ps_w, ps_o, ps_2, pu_f, pu_g, pu_w, pu_o, uI_s, uI_o, uI_j, uI_j1, uI_j2, uI_tw, or0, true_or, or_true, false_or, or_false, nar0, nar1, w4, w6, el]
          · simp (disch := first | omega | assumption) only [↓lt, Option.bind_some, zl, ll, zadd, zsub, zmul, zneg, ladd, lsub, lmul, lneg, zltT, zltF, zleT, zleF, zeqT, zeqF, zidx, ixT, zwide, bIT, bIF, if_true, if_false, ↓reduceIte, Nat.reduceAdd, Int.reduceAdd, Int.reduceMul, Int.reduceSub, Int.reduceNeg, cs_c, cs_o, cs_2, cu_c, cu_o, Int.cast_ofNat_Int, ps_f, ps_g, ps_w, ps_o, ps_2, pu_f, pu_g, pu_w, pu_o, uI_s, uI_o, uI_j, uI_j1, uI_j2, uI_tw, or0, true_or, or_true, false_or, or_false, nar0, nar1, w4, el]
      · have ep : pcB b p r = 0 := by unfold pcB; rw [if_neg w1, if_pos (Or.inr w4)]
        have el := m_endCloud (X := X) hb w4 (b (34 + r)).toNat s n hs (by omega) (by omega)
        rw [Int.toNat_of_nonneg (by omega)] at el
        rw [eI_v (v := s + b (34 + r)) (by rw [ep, dnI_0 w0]) (by omega)]
        simp (disch := first | omega | assumption) only [↓lt, Option.bind_some, zl, ll, zadd, zsub, zmul, zneg, ladd, lsub, lmul, lneg, zltT, zltF, zleT, zleF, zeqT, zeqF, zidx, ixT, zwide, bIT, bIF, if_true, if_false, ↓reduceIte, Nat.reduceAdd, Int.reduceAdd, Int.reduceMul, Int.reduceSub, Int.reduceNeg, cs_c, cs_o, cs_2, cu_c, cu_o, Int.cast_ofNat_Int, ps_f, ps_g, ps_w, ps_o, ps_2, pu_f, pu_g, pu_w, pu_o, uI_s, uI_o, uI_j, uI_j1, uI_j2, uI_tw, or0, true_or, or_true, false_or, or_false, nar0, nar1, el]
