/-! ===== pairs: the reference's order ===== -/
/-- all asked who are sighted and ahead of i, but p -/
def FinX (b : Int → Int) (i p : Int) (s : PST) : Prop := ∀ x, sgt b x → x < i → ¬ x = p → ¬ s.1 x = -1 ∨ ∀ q, bld b q → s.2 x q = true
def NoA (i : Int) (s : PST) : Prop := ∀ x q, i ≤ x → s.2 x q = false
theorem asM_cm {m : Int → Int} {p q : Int} (h : ¬ m q = -1) (h1 : ¬ m q = p) (h2 : ¬ m q = q) : bu (bu (bu m q p) p q) (m q) (-1) = asM m p q := by
  unfold asM
  rw [if_neg h]
  funext j
  by_cases e : j = m q
  · rw [e, bu_s, bu_o h1, bu_o h2, bu_s]
  · rw [bu_o e]
    by_cases e2 : j = p
    · rw [e2, bu_s, bu_s]
    · rw [bu_o e2, bu_o e2]
      by_cases e3 : j = q
      · rw [e3, bu_s, bu_s]
      · rw [bu_o e3, bu_o e3, bu_o e]
theorem asM_v {m : Int → Int} {p q j : Int} (h1 : ¬ j = p) (h2 : ¬ j = q) (h3 : ¬ j = m q ∨ m q = -1) : asM m p q j = m j := by
  unfold asM
  rw [bu_o h1, bu_o h2]
  by_cases e : m q = -1
  · rw [if_pos e]
  · rw [if_neg e, bu_o (h3.resolve_right e)]
theorem m_asks {b : Int → Int} {X : KM} {i : Int} (hb : WB b) : ∀ (d : Nat) (p : Int) (s : PST) (n : Nat), Rk b s → sgt b p → p < i → s.1 p = -1 → FinX b i p s → NoA i s → 56 < cA s.2 + d → 40 + d < n → ∃ t : PST, lp_X12_asksOn_2 n 227 (zI p) (cs (pq X 240 241 s.1 s.2) b) = some (cs (pq X 240 241 t.1 t.2) b) ∧ Rk b t ∧ FinX b i (-1) t ∧ NoA i t := by
  have hh := hb.1
  unfold WH at hh
  have hi : 0 ≤ b 2 ∧ b 2 ≤ 8 := by omega
  clear hh
  intro d
  induction d with
  | zero =>
    intro p s n h1 h2 h3 h4 h5 h6 h7
    have := cA_le h1.1
    omega
  | succ d ih =>
    intro p s n hR hp hpi hm hF hN hc hn
    obtain ⟨k, rfl⟩ : ∃ m, n = m + 1 := ⟨n - 1, by omega⟩
    have e1 := m_next (n := k) (X := X) (m := s.1) (A := s.2) hb hp.1 hp.2.1 (by omega)
    have p8 : p < 8 := by have := hp.2.1; omega
    have p0 : 0 ≤ p := hp.1
    rcases nx_r (b := b) (p := p) (P := s.2 p) hi.1 with ⟨e, eall⟩ | ⟨q1, q2, -⟩
    · refine ⟨s, ?_, hR, fun x hx h1 _ => ?_, hN⟩
      · rw [e] at e1
        rw [lp_X12_asksOn_2]
        clear hp
        simp (disch := first | omega | assumption) only [↓lt, Option.bind_some, zl, ll, zadd, zsub, zmul, zneg, ladd, lsub, lmul, lneg, zltT, zltF, zleT, zleF, zeqT, zeqF, zidx, ixT, zwide, bIT, bIF, if_true, if_false, ↓reduceIte, Nat.reduceAdd, Int.reduceAdd, Int.reduceMul, Int.reduceSub, Int.reduceNeg, cs_c, cs_o, cs_2, cu_c, cu_o, Int.cast_ofNat_Int, ps_f, ps_g, ps_w, ps_o, ps_2, pu_f, pu_g, pu_w, pu_o, uI_s, uI_o, uI_j, uI_j1, uI_j2, uI_tw, or0, true_or, or_true, false_or, or_false, nar0, nar1, e1]
      · by_cases y : x = p
        · rw [y]; exact Or.inr eall
        · exact hF x hx h1 y
    · have ne : ¬ nx b p (s.2 p) = -1 := by have := q1.1; omega
      have R2 := Rk_st hi.1 hR hp hm
      have A1 := asS_1 ne
      have A2 := asS_2 ne
      have c2 : cA (asS b p s).2 = cA s.2 + 1 := by rw [A2]; exact cA_ad p0 p8 q1.1 (by have := q1.2.1; omega) q2
      have N2 : NoA i (asS b p s) := fun x q hx => by rw [A2, adP_o (fun z => by omega)]; exact hN x q hx
      generalize hs2 : asS b p s = s2 at *
      generalize nx b p (s.2 p) = q at *
      have q8 : q < 8 := by have := q1.2.1; omega
      have q0 : 0 ≤ q := q1.1
      have pq' : ¬ p = q := fun z => by have a := hp.2.2; have c := q1.2.2; rw [z] at a; omega
      have ea := setB_adA (P := s.2 p) q0 q8
      have hc3 := hR.1.2.2.1 q q1
      have hd3 := hR.1.2.2.2.1
      by_cases w : s.1 q = -1
      · rw [if_pos (Or.inl w)] at A1
        refine ⟨s2, ?_, R2, fun x hx h1 _ => ?_, N2⟩
        · obtain ⟨l, rfl⟩ : ∃ l, k = l + 1 := ⟨k - 1, by omega⟩
          rw [lp_X12_asksOn_2, A1, A2]
          unfold asM
          rw [if_pos w]
          clear hc3 hd3 q1 hp hF ih
          simp (disch := first | omega | assumption) only [↓lt, Option.bind_some, zl, ll, zadd, zsub, zmul, zneg, ladd, lsub, lmul, lneg, zltT, zltF, zleT, zleF, zeqT, zeqF, zidx, ixT, zwide, bIT, bIF, if_true, if_false, ↓reduceIte, Nat.reduceAdd, Int.reduceAdd, Int.reduceMul, Int.reduceSub, Int.reduceNeg, cs_c, cs_o, cs_2, cu_c, cu_o, Int.cast_ofNat_Int, ps_f, ps_g, ps_w, ps_o, ps_2, pu_f, pu_g, pu_w, pu_o, uI_s, uI_o, uI_j, uI_j1, uI_j2, uI_tw, or0, true_or, or_true, false_or, or_false, nar0, nar1, pq_m, pq_a, pq_o, pq_um, pq_uA, e1, ea, w]
          rw [lp_X12_asksOn_2]
          simp (disch := first | omega | assumption) only [↓lt, Option.bind_some, zl, ll, zadd, zsub, zmul, zneg, ladd, lsub, lmul, lneg, zltT, zltF, zleT, zleF, zeqT, zeqF, zidx, ixT, zwide, bIT, bIF, if_true, if_false, ↓reduceIte, Nat.reduceAdd, Int.reduceAdd, Int.reduceMul, Int.reduceSub, Int.reduceNeg, cs_c, cs_o, cs_2, cu_c, cu_o, Int.cast_ofNat_Int, ps_f, ps_g, ps_w, ps_o, ps_2, pu_f, pu_g, pu_w, pu_o, uI_s, uI_o, uI_j, uI_j1, uI_j2, uI_tw, or0, true_or, or_true, false_or, or_false, nar0, nar1]
        · by_cases y : x = p
          · refine Or.inl ?_
            rw [y, A1]
            unfold asM
            rw [bu_s]; omega
          · have xq : ¬ x = q := fun z => by have a := hx.2.2; have c := q1.2.2; rw [z] at a; omega
            rcases hF x hx h1 y with z | z
            · refine Or.inl ?_
              rw [A1, asM_v y xq (Or.inr w)]; exact z
            · refine Or.inr (fun r hr => ?_)
              rw [A2]; exact adP_up (z r hr)
      · have hk := hc3.resolve_left (fun z => w z.1)
        have k0 : 0 ≤ s.1 q ∧ s.1 q < b 2 := ⟨hk.1.1, hk.1.2.1⟩
        have kp : ¬ s.1 q = p := fun z => by have := hk.2.2.1; rw [z, hm] at this; omega
        have kq : ¬ s.1 q = q := fun z => by have a := hk.1.2.2; have c := q1.2.2; rw [z] at a; omega
        have el := fun X => m_likes (n := k) (X := X) (w := q) (x := p) (y := s.1 q) hb q0 q8 p0 p8 k0.1 (by omega)
        by_cases v : lk b q p (s.1 q)
        · rw [if_pos (Or.inr v)] at A1
          simp only [bIT v] at el
          have kM : s2.1 (s.1 q) = -1 := by
            rw [A1, ← asM_cm w kp kq, bu_s]
          have ki : s.1 q < i := by
            apply Classical.byContradiction
            intro z
            have a := hk.2.1
            rw [hN _ _ (by omega)] at a
            exact absurd a (by decide)
          obtain ⟨t, t1, t2⟩ := ih (s.1 q) s2 k R2 hk.1 ki kM (fun x hx h1 hn => by
            by_cases y : x = p
            · refine Or.inl ?_
              rw [y, A1]
              unfold asM
              rw [bu_s]; omega
            · have xq : ¬ x = q := fun z => by have a := hx.2.2; have c := q1.2.2; rw [z] at a; omega
              rcases hF x hx h1 y with z | z
              · refine Or.inl ?_
                rw [A1, asM_v y xq (Or.inl hn)]; exact z
              · refine Or.inr (fun r hr => ?_)
                rw [A2]; exact adP_up (z r hr)) N2 (by omega) (by omega)
          refine ⟨t, ?_, t2⟩
          rw [← t1, lp_X12_asksOn_2, A1, A2, ← asM_cm w kp kq]
          clear hc3 hd3 q1 hp hF ih v hk t1 t2 A1 A2 kM
          simp (disch := first | omega | assumption) only [↓lt, Option.bind_some, zl, ll, zadd, zsub, zmul, zneg, ladd, lsub, lmul, lneg, zltT, zltF, zleT, zleF, zeqT, zeqF, zidx, ixT, zwide, bIT, bIF, if_true, if_false, ↓reduceIte, Nat.reduceAdd, Int.reduceAdd, Int.reduceMul, Int.reduceSub, Int.reduceNeg, cs_c, cs_o, cs_2, cu_c, cu_o, Int.cast_ofNat_Int, ps_f, ps_g, ps_w, ps_o, ps_2, pu_f, pu_g, pu_w, pu_o, uI_s, uI_o, uI_j, uI_j1, uI_j2, uI_tw, or0, true_or, or_true, false_or, or_false, nar0, nar1, pq_m, pq_a, pq_o, pq_um, pq_uA, e1, ea, el]
        · rw [if_neg (fun z => z.elim w v)] at A1
          simp only [bIF v] at el
          obtain ⟨t, t1, t2⟩ := ih p s2 k R2 hp hpi (by rw [A1]; exact hm) (fun x hx h1 hn => by
            rcases hF x hx h1 hn with z | z
            · refine Or.inl ?_
              rw [A1]; exact z
            · refine Or.inr (fun r hr => ?_)
              rw [A2]; exact adP_up (z r hr)) N2 (by omega) (by omega)
          refine ⟨t, ?_, t2⟩
          rw [← t1, lp_X12_asksOn_2, A1, A2]
          clear hc3 hd3 q1 hp hF ih v hk t1 t2 A1 A2
          simp (disch := first | omega | assumption) only [↓lt, Option.bind_some, zl, ll, zadd, zsub, zmul, zneg, ladd, lsub, lmul, lneg, zltT, zltF, zleT, zleF, zeqT, zeqF, zidx, ixT, zwide, bIT, bIF, if_true, if_false, ↓reduceIte, Nat.reduceAdd, Int.reduceAdd, Int.reduceMul, Int.reduceSub, Int.reduceNeg, cs_c, cs_o, cs_2, cu_c, cu_o, Int.cast_ofNat_Int, ps_f, ps_g, ps_w, ps_o, ps_2, pu_f, pu_g, pu_w, pu_o, uI_s, uI_o, uI_j, uI_j1, uI_j2, uI_tw, or0, true_or, or_true, false_or, or_false, nar0, nar1, pq_m, pq_a, pq_o, pq_um, pq_uA, e1, ea, el]
theorem m_layL {b : Int → Int} {X : KM} (hb : WB b) : ∀ (k : Nat) (i : Int) (s : PST) (n : Nat), 0 ≤ i → i + k = b 2 → 120 + k < n → Rk b s → FinX b i (-1) s → NoA i s → ∃ t : PST, lp_X12_laysPairs_30 n 227 (zI i) (cs (pq X 240 241 s.1 s.2) b) = some (cs (pq X 240 241 t.1 t.2) b) ∧ Rk b t ∧ Fin8 b t := by
  have hh := hb.1
  unfold WH at hh
  have hi : 0 ≤ b 2 ∧ b 2 ≤ 8 := by omega
  clear hh
  intro k
  induction k with
  | zero =>
    intro i s n h1 h2 h3 h4 h5 h6
    obtain ⟨m, rfl⟩ : ∃ m, n = m + 1 := ⟨n - 1, by omega⟩
    have : i = b 2 := by omega
    subst this
    refine ⟨s, ?_, h4, fun p hp => h5 p hp hp.2.1 (by have := hp.1; omega)⟩
    rw [lp_X12_laysPairs_30]
    simp (disch := first | omega | assumption) only [↓lt, Option.bind_some, zl, ll, zadd, zsub, zmul, zneg, ladd, lsub, lmul, lneg, zltT, zltF, zleT, zleF, zeqT, zeqF, zidx, ixT, zwide, bIT, bIF, if_true, if_false, ↓reduceIte, Nat.reduceAdd, Int.reduceAdd, Int.reduceMul, Int.reduceSub, Int.reduceNeg, cs_c, cs_o, cs_2, cu_c, cu_o, Int.cast_ofNat_Int, ps_f, ps_g, ps_w, ps_o, ps_2, pu_f, pu_g, pu_w, pu_o, uI_s, uI_o, uI_j, uI_j1, uI_j2, uI_tw, or0, true_or, or_true, false_or, or_false, nar0, nar1]
  | succ k ih =>
    intro i s n h1 h2 h3 h4 h5 h6
    obtain ⟨m, rfl⟩ : ∃ m, n = m + 1 := ⟨n - 1, by omega⟩
    have ez := WPb hb h1 (show i < b 2 by omega)
    have i3 : 0 ≤ b (106 + i) ∧ b (106 + i) ≤ 1 := by omega
    clear ez
    by_cases e : b (106 + i) = 0
    · have hm : s.1 i = -1 := by
        rcases h4.1.2.2.2.1 i ⟨h1, by omega, e⟩ with z | ⟨z1, z2⟩
        · exact z
        · rcases h4.1.2.2.1 _ z1 with ⟨z, -⟩ | ⟨-, z, -⟩
          · omega
          · rw [z2, h6 i _ (Int.le_refl _)] at z
            exact absurd z (by decide)
      obtain ⟨t, t1, t2, t3, t4⟩ := m_asks (X := X) (i := i + 1) hb 57 i s m h4 ⟨h1, by omega, e⟩ (by omega) hm (fun x hx h1 hn => h5 x hx (by omega) (by have := hx.1; omega)) (fun x q hx => h6 x q (by omega)) (by
        have : 0 ≤ cA s.2 := by
          have := sum_lt (f := fun _ => 0) (h := rowA s.2) (q := -1) 8 0 0 0 0 (fun j j1 j2 => by
            rw [if_neg (by omega)]
            have := sum_lt (f := fun _ => 0) (h := fun q => if s.2 j q = true then 1 else 0) (q := -1) 8 0 0 0 0 (fun l l1 l2 => by
              rw [if_neg (by omega)]
              by_cases z : s.2 j l = true
              · rw [if_pos z]; decide
              · rw [if_neg z]; decide) (by decide)
            rw [if_neg (by omega)] at this
            have this : (0 : Int) + 0 + 0 ≤ rowA s.2 j := this
            omega) (by decide)
          rw [if_neg (by omega)] at this
          have this : (0 : Int) + 0 + 0 ≤ cA s.2 := this
          omega
        omega) (by omega)
      obtain ⟨u, u1, u2⟩ := ih (i + 1) t m (by omega) (by omega) (by omega) t2 t3 t4
      refine ⟨u, ?_, u2⟩
      rw [lp_X12_laysPairs_30]
      unfold f_X12_asksOn
      simp (disch := first | omega | assumption) only [↓lt, Option.bind_some, zl, ll, zadd, zsub, zmul, zneg, ladd, lsub, lmul, lneg, zltT, zltF, zleT, zleF, zeqT, zeqF, zidx, ixT, zwide, bIT, bIF, if_true, if_false, ↓reduceIte, Nat.reduceAdd, Int.reduceAdd, Int.reduceMul, Int.reduceSub, Int.reduceNeg, cs_c, cs_o, cs_2, cu_c, cu_o, Int.cast_ofNat_Int, ps_f, ps_g, ps_w, ps_o, ps_2, pu_f, pu_g, pu_w, pu_o, uI_s, uI_o, uI_j, uI_j1, uI_j2, uI_tw, or0, true_or, or_true, false_or, or_false, nar0, nar1, e, t1]
      exact u1
    · obtain ⟨u, u1, u2⟩ := ih (i + 1) s m (by omega) (by omega) (by omega) h4 (fun x hx h1 hn => by
        by_cases y : x = i
        · rw [y] at hx; exact absurd hx.2.2 e
        · exact h5 x hx (by omega) hn) (fun x q hx => h6 x q (by omega))
      refine ⟨u, ?_, u2⟩
      rw [lp_X12_laysPairs_30]
      simp (disch := first | omega | assumption) only [↓lt, Option.bind_some, zl, ll, zadd, zsub, zmul, zneg, ladd, lsub, lmul, lneg, zltT, zltF, zleT, zleF, zeqT, zeqF, zidx, ixT, zwide, bIT, bIF, if_true, if_false, ↓reduceIte, Nat.reduceAdd, Int.reduceAdd, Int.reduceMul, Int.reduceSub, Int.reduceNeg, cs_c, cs_o, cs_2, cu_c, cu_o, Int.cast_ofNat_Int, ps_f, ps_g, ps_w, ps_o, ps_2, pu_f, pu_g, pu_w, pu_o, uI_s, uI_o, uI_j, uI_j1, uI_j2, uI_tw, or0, true_or, or_true, false_or, or_false, nar0, nar1]
      exact u1
theorem m_laysPairs {b : Int → Int} {n : Nat} {X : KM} (hb : WB b) (hn : 200 < n) : ∃ A, f_X12_laysPairs n 227 (cs X b) = some (cs (pq X 240 241 (itS b 64 s0).1 A) b) := by
  have hh := hb.1
  unfold WH at hh
  have hi : 0 ≤ b 2 ∧ b 2 ≤ 8 := by omega
  clear hh
  have e1 := fun κ => (loop_f (lp := fun k r w => lp_X12_laysPairs_2 k 227 r (cs (rs (rs X 241 w.2) 240 w.1) b) κ) (f := fun i w => (bu w.1 i (-1), bu w.2 i 0)) (fin := fun w => κ (cs (rs (rs X 241 w.2) 240 w.1) b)) (fun _ _ => True) (N := 1) (R := 8) (fun k r w hk u v _ => ⟨by
    rw [lp_X12_laysPairs_2]
    simp (disch := first | omega | assumption) only [↓lt, Option.bind_some, zl, ll, zadd, zsub, zmul, zneg, ladd, lsub, lmul, lneg, zltT, zltF, zleT, zleF, zeqT, zeqF, zidx, ixT, zwide, bIT, bIF, if_true, if_false, ↓reduceIte, Nat.reduceAdd, Int.reduceAdd, Int.reduceMul, Int.reduceSub, Int.reduceNeg, cs_c, cs_o, cs_2, cu_c, cu_o, Int.cast_ofNat_Int, ps_f, ps_g, ps_w, ps_o, ps_2, pu_f, pu_g, pu_w, pu_o, uI_s, uI_o, uI_j, uI_j1, uI_j2, uI_tw, or0, true_or, or_true, false_or, or_false, nar0, nar1, rs_u, rs_uo], trivial⟩) (fun k w _ _ => by
    rw [lp_X12_laysPairs_2]
    simp (disch := first | omega | assumption) only [↓lt, Option.bind_some, zl, ll, zadd, zsub, zmul, zneg, ladd, lsub, lmul, lneg, zltT, zltF, zleT, zleF, zeqT, zeqF, zidx, ixT, zwide, bIT, bIF, if_true, if_false, ↓reduceIte, Nat.reduceAdd, Int.reduceAdd, Int.reduceMul, Int.reduceSub, Int.reduceNeg, cs_c, cs_o, cs_2, cu_c, cu_o, Int.cast_ofNat_Int, ps_f, ps_g, ps_w, ps_o, ps_2, pu_f, pu_g, pu_w, pu_o, uI_s, uI_o, uI_j, uI_j1, uI_j2, uI_tw, or0, true_or, or_true, false_or, or_false, nar0, nar1]) 8 0 (fun z => (X.1 240 z.toNat).toInt, fun z => (X.1 241 z.toNat).toInt) n (by omega) (by omega) (by omega) trivial).1
  have ex : rs (rs X 241 fun z => (X.1 241 z.toNat).toInt) 240 (fun z => (X.1 240 z.toNat).toInt) = X := by
    rw [← rs_ex X 241, ← rs_ex X 240]
  have e2 : ∀ κ : KM → Option KM, lp_X12_laysPairs_2 n 227 (zI 0) (cs X b) κ = κ (cs (pq X 240 241 s0.1 s0.2) b) := fun κ => by
    have := e1 κ
    rw [fI_bu2 (v := fun _ => -1) (u := fun _ => 0)] at this
    dsimp only at this
    rw [pq_fill (by decide), ex] at this
    exact this
  obtain ⟨t, t1, t2, t3⟩ := m_layL (X := X) hb (b 2).toNat 0 s0 n (by omega) (by omega) (by omega) s0_R (fun x hx h1 _ => by have := hx.1; omega) (fun _ _ _ => rfl)
  have e3 : t.1 = (itS b 64 s0).1 := Rk_eq t2 (itS_R hi.1 64 s0 s0_R) t3 (it64 hi.1 hi.2) (fun j j1 j2 => by have := WPb hb j1 j2; omega)
  refine ⟨t.2, ?_⟩
  unfold f_X12_laysPairs
  simp (disch := first | omega | assumption) only [zl]
  rw [e2, ← e3]
  exact t1
