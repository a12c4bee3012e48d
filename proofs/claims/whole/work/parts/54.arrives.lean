/-! ===== arrives ===== -/
theorem m_going {b : Int → Int} {n q : Int} {k : Nat} {X : KM} (hb : WB b) (hn : 0 ≤ n) (g : goQ b q) : f_X12_isGoing k 227 (zI q) (cs X (cI b n)) = some (bI (¬ arQ b n q)) := by
  have hh := hb.1
  unfold WH at hh
  have ez := WPb hb g.1 g.2.1
  have g8 : q < 8 := by have := g.2.1; omega
  have gg := g.2.2
  have e66 : cI b n (66 + q) = _ := cI_f (b := b) (n := n) (q := q) (j := 1) g.1 g8 (by omega) (by omega)
  by_cases a : arQ b n q
  · rw [cF_ar a, if_neg (by decide), if_pos rfl] at e66
    rw [m_isGoing g.1 g8 (by omega) (by omega), e66, bIF (by decide), bIF (fun z => z a)]
  · have e := (cI_on g8 g a).2.1
    rw [m_isGoing g.1 g8 (by omega) (by omega), bIT (by omega), bIT a]
theorem m_arrL {b : Int → Int} {p : Int} {κ : Int32 → KM → Option (Int32 × KM)} (hb : WB b) (h5 : b 5 ≤ 99999) (g : goQ b p) : ∀ (k : Nat) (i : Int) (n : Nat) (X : KM), 0 ≤ i → i + k = 9999 → 100 + k < n → ¬ arQ b i p → ∃ Y d, lp_X12_arrives_47 n 227 (zI p) (zI (-1)) (zI (i + 1)) (cs X (cI b i)) κ = κ (zI (if dQ b p ≤ 9999 then dQ b p else -1)) (cs Y d) ∧ CL X Y ∧ (∀ z, ¬ (0 ≤ z ∧ z < 290) → d z = b z) := by
  intro k
  induction k with
  | zero =>
    intro i n X h1 h2 h3 ha
    obtain ⟨m, rfl⟩ : ∃ m, n = m + 1 := ⟨n - 1, by omega⟩
    have e : i = 9999 := by omega
    have ed := d_c (n := i) hb h1 (by omega) g
    have nd : ¬ dQ b p ≤ 9999 := fun z => ha (ed.mp (by omega))
    subst e
    refine ⟨X, cI b 9999, ?_, ⟨rfl, fun _ _ _ => rfl⟩, fun z h => cI_o (by omega) (by omega)⟩
    rw [if_neg nd, lp_X12_arrives_47]
    simp (disch := first | omega | assumption) only [↓lt, Option.bind_some, zl, ll, zadd, zsub, zmul, zneg, ladd, lsub, lmul, lneg, zltT, zltF, zleT, zleF, zeqT, zeqF, zidx, ixT, zwide, bIT, bIF, if_true, if_false, ↓reduceIte, Nat.reduceAdd, Int.reduceAdd, Int.reduceMul, Int.reduceSub, Int.reduceNeg, cs_c, cs_o, cs_2, cu_c, cu_o, Int.cast_ofNat_Int, ps_f, ps_g, ps_w, ps_o, ps_2, pu_f, pu_g, pu_w, pu_o, uI_s, uI_o, uI_j, uI_j1, uI_j2, uI_tw, or0, true_or, or_true, false_or, or_false, nar0, nar1]
  | succ k ih =>
    intro i n X h1 h2 h3 ha
    obtain ⟨m, rfl⟩ : ∃ m, n = m + 1 := ⟨n - 1, by omega⟩
    have hc := WB_cI' hb h1 (by omega)
    have eg := m_going (k := m) (X := cl2 X (cS (cI b i) (AG (cI b i))) (lS (cI b i) (AG (cI b i)))) hb (show 0 ≤ i + 1 by omega) g
    have ed := d_c (n := i) hb h1 (by omega) g
    have ed2 := d_c (n := i + 1) hb (by omega) (by omega) g
    by_cases a : arQ b (i + 1) p
    · have de : dQ b p = i + 1 := by
        have := ed2.mpr a
        have : ¬ dQ b p ≤ i := fun z => ha (ed.mp z)
        omega
      rw [bIF (fun z => z a)] at eg
      refine ⟨cl2 X (cS (cI b i) (AG (cI b i))) (lS (cI b i) (AG (cI b i))), cI b (i + 1), ?_, CL_cl, fun z h => cI_o (by omega) (by omega)⟩
      rw [if_pos (by omega), de, lp_X12_arrives_47]
      simp (disch := first | omega | assumption) only [↓lt, Option.bind_some, zl, zneg, zadd, zltF, zleF, if_false, m_goesMinute hc, cI_step hb h1, eg, if_true]
      obtain ⟨m', rfl⟩ : ∃ m', m = m' + 1 := ⟨m - 1, by omega⟩
      rw [lp_X12_arrives_47]
      by_cases y : 9999 < i + 1 + 1
      · simp (disch := first | omega | assumption) only [zl, zltT, if_true]
      · simp (disch := first | omega | assumption) only [zl, zltF, if_false, zleT, if_true]
    · rw [bIT a] at eg
      obtain ⟨Y, d, e1, e2, e3⟩ := ih (i + 1) m (cl2 X (cS (cI b i) (AG (cI b i))) (lS (cI b i) (AG (cI b i)))) (by omega) (by omega) (by omega) a
      refine ⟨Y, d, ?_, CL_tr CL_cl e2, e3⟩
      rw [lp_X12_arrives_47]
      simp (disch := first | omega | assumption) only [↓lt, Option.bind_some, zl, zneg, zadd, zltF, zleF, zeqF, if_false, m_goesMinute hc, cI_step hb h1, eg, if_true]
      exact e1
theorem dQ_wk {b : Int → Int} {q : Int} (hb : WB b) (h : goQ b q) : dQ b (wkB b q) = dQ b q := by
  obtain ⟨-, w2, w3, -⟩ := wk_of hb h
  unfold dQ
  rw [w2, w3]
theorem c_toGoal2 {b : Int → Int} {p : Int} {L n : Nat} {M : KM} {g : Int → Int → Int → Int} (hL : HL M L b) (hg : GR g b) (hb : WB b) (y : goQ b p) : f_X2_minutesToGoal n L (zI p) (ps M L g) = some (zI (toG b (wkB b p))) := by
  have hM := hL
  obtain ⟨q0, q1, q2, q5, q6, q7, q8, q9, q3, q4, qd, qa, qb, qc, qs⟩ := hL
  have hh := hb.1
  unfold WH at hh
  have hi : 0 ≤ b 2 ∧ b 2 ≤ 8 := by omega
  have gp := hg.1 p y.1 y.2.1
  unfold GP at gp
  have ez := WPb hb y.1 y.2.1
  have p0 := y.1
  have p1 := y.2.1
  have g9 : g p 0 9 = b (82 + p) := gp.2.2.2.2.1
  obtain ⟨w1, w2, w3, w4⟩ := wk_of hb y
  have lw : b (82 + wkB b p) = -1 := by
    by_cases l : 0 ≤ b (82 + p)
    · obtain ⟨-, -, -, -, k5, -⟩ := led_of hb p0 p1 l rfl
      rw [wk_l l]; exact k5
    · rw [wk_s l]; omega
  have gw := hg.1 (wkB b p) w1.1 w1.2.1
  unfold GP at gw
  have ew := WP_of hb w1.1 w1.2.1
  unfold WP at ew
  have gg := w1.2.2
  have hr : 0 ≤ b (122 + wkB b p) ∧ b (122 + wkB b p) < b 1 := by omega
  have w9 : g (wkB b p) 0 9 = -1 := by omega
  have e := c_toGoal (n := n) hM hb w1.1 w1.2.1 gg lw gw.1 gw.2.1 (hg.2.1 _ _ w1.1 w1.2.1 hr.1 hr.2) (by omega) w9 (by omega)
  clear gp gw ew hh
  by_cases l : 0 ≤ b (82 + p)
  · rw [wk_l l] at e w9 w1 ⊢
    have r0 := w1.1
    have r1 := w1.2.1
    unfold f_X2_minutesToGoal at e ⊢
    simp (disch := first | omega | assumption) only [↓lt, Option.bind_some, zl, ll, zadd, zsub, zmul, zneg, ladd, lsub, lmul, lneg, zltT, zltF, zleT, zleF, zeqT, zeqF, zidx, ixT, zwide, bIT, bIF, if_true, if_false, ↓reduceIte, Nat.reduceAdd, Int.reduceAdd, Int.reduceMul, Int.reduceSub, Int.reduceNeg, cs_c, cs_o, cs_2, cu_c, cu_o, Int.cast_ofNat_Int, ps_f, ps_g, ps_w, ps_o, ps_2, pu_f, pu_g, pu_w, pu_o, uI_s, uI_o, uI_j, uI_j1, uI_j2, uI_tw, or0, true_or, or_true, false_or, or_false, nar0, nar1, w9, c_hasPerson hM] at e
    simp (disch := first | omega | assumption) only [↓lt, Option.bind_some, zl, ll, zadd, zsub, zmul, zneg, ladd, lsub, lmul, lneg, zltT, zltF, zleT, zleF, zeqT, zeqF, zidx, ixT, zwide, bIT, bIF, if_true, if_false, ↓reduceIte, Nat.reduceAdd, Int.reduceAdd, Int.reduceMul, Int.reduceSub, Int.reduceNeg, cs_c, cs_o, cs_2, cu_c, cu_o, Int.cast_ofNat_Int, ps_f, ps_g, ps_w, ps_o, ps_2, pu_f, pu_g, pu_w, pu_o, uI_s, uI_o, uI_j, uI_j1, uI_j2, uI_tw, or0, true_or, or_true, false_or, or_false, nar0, nar1, g9, c_hasPerson hM]
    exact e
  · rw [wk_s l] at e ⊢
    exact e
theorem k_arrives (p : Int32) (n : Nat) (hn : 10200 ≤ n) : OKm (f_X11_arrives n 0 p) (f_X12_arrives n 227 p) := by
  obtain ⟨x, hx1, hx2, rfl⟩ := z_ex p
  refine ok_wr (fun M L g b hO => ?_)
  have hO2 := hO
  obtain ⟨hP, hL, hg, hb, hm, hC⟩ := hO
  have hp0 : M.2.2 0 10 = L := hP.1
  have hl := Ptr_L hP
  have hh := hb.1
  unfold WH at hh
  have hi : 0 ≤ b 2 ∧ b 2 ≤ 8 := by omega
  clear hC
  by_cases w : 0 ≤ x ∧ x < b 2
  · have ez := WPb hb w.1 w.2
    have gp := hg.1 x w.1 w.2
    unfold GP at gp
    have eg := fun X => m_isGoing (b := b) (n := n) (M := X) w.1 (show x < 8 by omega) (by omega) (by omega)
    by_cases y : 0 ≤ b (66 + x)
    · have go : goQ b x := ⟨w.1, w.2, y⟩
      have et := c_toGoal2 (n := n) hL hg hb go
      have dq := dQ_wk hb go
      have g5 : g x 0 5 = -1 := by omega
      have ed0 := d_c (n := 0) hb (by omega) (by omega) go
      have d1 : 1 ≤ dQ b x := by
        have : ¬ dQ b x ≤ 0 := fun z => ar_0 hb (ed0.mp z)
        omega
      have tg : (dQ b x ≤ 9999 → toG b (wkB b x) = dQ b x) ∧ (¬ dQ b x ≤ 9999 → 9999 < toG b (wkB b x) ∧ toG b (wkB b x) ≤ 1000000000) := by
        unfold toG
        rw [dq]
        unfold dQ at *
        obtain ⟨w1, w2, w3, w4⟩ := wk_of hb go
        rw [w2, w3]
        by_cases v : dnI (b 3) (b 4) (pcQ b x) (b 5) (b (74 + x)) < 1000000000
        · rw [if_pos v]; omega
        · rw [if_neg v]; omega
      have mm := fun X => m_arrL (p := x) (κ := fun (u13 : Int32) (M14 : KM) => (f_X12_gives n 227 M14).bind fun (v15 : KM) => if zI 0 ≤ u13 then some (u13, v15) else some ((f_X12_refuse 227 (zI 8) v15).1, (f_X12_refuse 227 (zI 8) v15).2)) hb hm go 9999 0 n X (by omega) (by omega) (by omega) (ar_0 hb)
      have key : ∀ X, ∃ Y, f_X12_arrives n 227 (zI x) (cs X b) = (if zI 0 ≤ zI (if dQ b x ≤ 9999 then dQ b x else -1) then some (zI (if dQ b x ≤ 9999 then dQ b x else -1), cs Y b) else some ((f_X12_refuse 227 (zI 8) (cs Y b)).1, (f_X12_refuse 227 (zI 8) (cs Y b)).2)) ∧ MF X Y ∧ Y.1 227 0 = zI 0 := fun X => by
        obtain ⟨Y, d, e1, e2, e3⟩ := mm (kp (uI (uI X 227 1 (zI 0)) 227 0 (zI 0)) b 290)
        rw [cI_0 hb, Int.zero_add] at e1
        have ek := m_keeps (n := n) (X := uI (uI X 227 1 (zI 0)) 227 0 (zI 0)) (b := b) (by omega)
        have ev := m_gives (n := n) (X := Y) (b := b) (d := d) (fun k u v => by rw [e2.2 _ _ (by omega), kp_s (by omega), Int.toNat_of_nonneg u]) e3 (by omega)
        have eg2 := eg (uI (uI X 227 1 (zI 0)) 227 0 (zI 0))
        rw [bIT y] at eg2
        rw [ev] at e1
        refine ⟨Y, ?_, MF_tr (MF_st (s := zI 0)) ⟨e2.1, fun a k h => ?_⟩, ?_⟩
        · unfold f_X12_arrives
          simp (disch := first | omega | assumption) only [↓lt, Option.bind_some, zl, zneg, cu_o, m_isPerson, bIT, zeqF, if_false, eg2, ek]
          exact e1
        · rw [e2.2 a k (by omega), kp_o (by omega)]
        · rw [e2.2 _ _ (by omega), kp_o (by omega), uI_s]
      by_cases v : dQ b x ≤ 9999
      · have t1 := tg.1 v
        simp only [if_pos v] at key
        refine wr_sc (c := f_X11_arrives n 0 (zI x)) (m := f_X12_arrives n 227 (zI x)) (N := uI M 0 15 (zI 0)) (r := zI (dQ b x)) (s := zI 0) hO2 ?_ uI_s rfl (fun a k h1 h2 => uI_o h1) (fun X => ?_)
        · rw [t1] at et
          clear tg gp ez mm key
          unfold f_X11_arrives f_X7_isAtPlace
          simp (disch := first | omega | assumption) only [↓lt, Option.bind_some, zl, ll, zadd, zsub, zmul, zneg, ladd, lsub, lmul, lneg, zltT, zltF, zleT, zleF, zeqT, zeqF, zidx, ixT, zwide, bIT, bIF, if_true, if_false, ↓reduceIte, Nat.reduceAdd, Int.reduceAdd, Int.reduceMul, Int.reduceSub, Int.reduceNeg, cs_c, cs_o, cs_2, cu_c, cu_o, Int.cast_ofNat_Int, ps_f, ps_g, ps_w, ps_o, ps_2, pu_f, pu_g, pu_w, pu_o, uI_s, uI_o, uI_j, uI_j1, uI_j2, uI_tw, or0, true_or, or_true, false_or, or_false, nar0, nar1, f_X11_tell, f_X11_refuse, f_X11_tellIf, f_X11_tellOrNone, f_X11_deny, f_X11_succeed, f_X12_refuse, f_X12_no, hp0, c_hasPerson hL, g5, et]
        · obtain ⟨Y, e1, e2, e3⟩ := key X
          refine ⟨Y, ?_, e3, e2⟩
          have z : zI 0 ≤ zI (dQ b x) := by
            simp (disch := omega) only [zleT]
          rw [e1, if_pos z]
      · have t1 := tg.2 v
        simp only [if_neg v] at key
        refine wr_sc (c := f_X11_arrives n 0 (zI x)) (m := f_X12_arrives n 227 (zI x)) (N := uI M 0 15 (zI 8)) (r := zI (-1)) (s := zI 8) hO2 ?_ uI_s rfl (fun a k h1 h2 => uI_o h1) (fun X => ?_)
        · generalize toG b (wkB b x) = G at *
          clear tg gp ez mm key
          unfold f_X11_arrives f_X7_isAtPlace
          simp (disch := first | omega | assumption) only [↓lt, Option.bind_some, zl, ll, zadd, zsub, zmul, zneg, ladd, lsub, lmul, lneg, zltT, zltF, zleT, zleF, zeqT, zeqF, zidx, ixT, zwide, bIT, bIF, if_true, if_false, ↓reduceIte, Nat.reduceAdd, Int.reduceAdd, Int.reduceMul, Int.reduceSub, Int.reduceNeg, cs_c, cs_o, cs_2, cu_c, cu_o, Int.cast_ofNat_Int, ps_f, ps_g, ps_w, ps_o, ps_2, pu_f, pu_g, pu_w, pu_o, uI_s, uI_o, uI_j, uI_j1, uI_j2, uI_tw, or0, true_or, or_true, false_or, or_false, nar0, nar1, f_X11_tell, f_X11_refuse, f_X11_tellIf, f_X11_tellOrNone, f_X11_deny, f_X11_succeed, f_X12_refuse, f_X12_no, hp0, c_hasPerson hL, g5, et]
        · obtain ⟨Y, e1, e2, e3⟩ := key X
          refine ⟨uI Y 227 0 (zI 8), ?_, uI_s, e2.1, fun a k h => ?_⟩
          · rw [e1]
            simp (disch := first | omega | assumption) only [↓lt, Option.bind_some, zl, ll, zadd, zsub, zmul, zneg, ladd, lsub, lmul, lneg, zltT, zltF, zleT, zleF, zeqT, zeqF, zidx, ixT, zwide, bIT, bIF, if_true, if_false, ↓reduceIte, Nat.reduceAdd, Int.reduceAdd, Int.reduceMul, Int.reduceSub, Int.reduceNeg, cs_c, cs_o, cs_2, cu_c, cu_o, Int.cast_ofNat_Int, ps_f, ps_g, ps_w, ps_o, ps_2, pu_f, pu_g, pu_w, pu_o, uI_s, uI_o, uI_j, uI_j1, uI_j2, uI_tw, or0, true_or, or_true, false_or, or_false, nar0, nar1, f_X11_tell, f_X11_refuse, f_X11_tellIf, f_X11_tellOrNone, f_X11_deny, f_X11_succeed, f_X12_refuse, f_X12_no]
          · rw [uI_o (by omega)]; exact e2.2 a k h
    · have g5 : 0 ≤ g x 0 5 ∧ g x 0 5 < 8 := by omega
      refine wr_no (c := f_X11_arrives n 0 (zI x)) (m := f_X12_arrives n 227 (zI x)) hO2 (r := zI (-1)) (s := zI 9) ?_ (fun X => ?_)
      · clear gp ez
        unfold f_X11_arrives f_X7_isAtPlace
        simp (disch := first | omega | assumption) only [↓lt, Option.bind_some, zl, ll, zadd, zsub, zmul, zneg, ladd, lsub, lmul, lneg, zltT, zltF, zleT, zleF, zeqT, zeqF, zidx, ixT, zwide, bIT, bIF, if_true, if_false, ↓reduceIte, Nat.reduceAdd, Int.reduceAdd, Int.reduceMul, Int.reduceSub, Int.reduceNeg, cs_c, cs_o, cs_2, cu_c, cu_o, Int.cast_ofNat_Int, ps_f, ps_g, ps_w, ps_o, ps_2, pu_f, pu_g, pu_w, pu_o, uI_s, uI_o, uI_j, uI_j1, uI_j2, uI_tw, or0, true_or, or_true, false_or, or_false, nar0, nar1, f_X11_tell, f_X11_refuse, f_X11_tellIf, f_X11_tellOrNone, f_X11_deny, f_X11_succeed, f_X12_refuse, f_X12_no, hp0, c_hasPerson hL]
      · have eg2 := eg (uI (uI X 227 1 (zI 0)) 227 0 (zI 0))
        rw [bIF y] at eg2
        unfold f_X12_arrives
        simp (disch := first | omega | assumption) only [↓lt, Option.bind_some, zl, ll, zadd, zsub, zmul, zneg, ladd, lsub, lmul, lneg, zltT, zltF, zleT, zleF, zeqT, zeqF, zidx, ixT, zwide, bIT, bIF, if_true, if_false, ↓reduceIte, Nat.reduceAdd, Int.reduceAdd, Int.reduceMul, Int.reduceSub, Int.reduceNeg, cs_c, cs_o, cs_2, cu_c, cu_o, Int.cast_ofNat_Int, ps_f, ps_g, ps_w, ps_o, ps_2, pu_f, pu_g, pu_w, pu_o, uI_s, uI_o, uI_j, uI_j1, uI_j2, uI_tw, or0, true_or, or_true, false_or, or_false, nar0, nar1, f_X11_tell, f_X11_refuse, f_X11_tellIf, f_X11_tellOrNone, f_X11_deny, f_X11_succeed, f_X12_refuse, f_X12_no, m_isPerson, eg2]
  · refine wr_no (c := f_X11_arrives n 0 (zI x)) (m := f_X12_arrives n 227 (zI x)) hO2 (r := zI (-1)) (s := zI 2) ?_ (fun X => ?_)
    · unfold f_X11_arrives
      simp (disch := first | omega | assumption) only [↓lt, Option.bind_some, zl, ll, zadd, zsub, zmul, zneg, ladd, lsub, lmul, lneg, zltT, zltF, zleT, zleF, zeqT, zeqF, zidx, ixT, zwide, bIT, bIF, if_true, if_false, ↓reduceIte, Nat.reduceAdd, Int.reduceAdd, Int.reduceMul, Int.reduceSub, Int.reduceNeg, cs_c, cs_o, cs_2, cu_c, cu_o, Int.cast_ofNat_Int, ps_f, ps_g, ps_w, ps_o, ps_2, pu_f, pu_g, pu_w, pu_o, uI_s, uI_o, uI_j, uI_j1, uI_j2, uI_tw, or0, true_or, or_true, false_or, or_false, nar0, nar1, f_X11_tell, f_X11_refuse, f_X11_tellIf, f_X11_tellOrNone, f_X11_deny, f_X11_succeed, f_X12_refuse, f_X12_no, hp0, c_hasPerson hL]
    · unfold f_X12_arrives
      simp (disch := first | omega | assumption) only [↓lt, Option.bind_some, zl, ll, zadd, zsub, zmul, zneg, ladd, lsub, lmul, lneg, zltT, zltF, zleT, zleF, zeqT, zeqF, zidx, ixT, zwide, bIT, bIF, if_true, if_false, ↓reduceIte, Nat.reduceAdd, Int.reduceAdd, Int.reduceMul, Int.reduceSub, Int.reduceNeg, cs_c, cs_o, cs_2, cu_c, cu_o, Int.cast_ofNat_Int, ps_f, ps_g, ps_w, ps_o, ps_2, pu_f, pu_g, pu_w, pu_o, uI_s, uI_o, uI_j, uI_j1, uI_j2, uI_tw, or0, true_or, or_true, false_or, or_false, nar0, nar1, f_X11_tell, f_X11_refuse, f_X11_tellIf, f_X11_tellOrNone, f_X11_deny, f_X11_succeed, f_X12_refuse, f_X12_no, m_isPerson]
