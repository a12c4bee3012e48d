/-! ===== mean: both alike ===== -/
theorem k_mean (p q : Int32) (n : Nat) (hn : 41300 ≤ n) : OKm (f_X11_mean n 0 p q) (f_X12_mean n 227 p q) := by
  obtain ⟨x, hx1, hx2, rfl⟩ := z_ex p
  obtain ⟨y, hy1, hy2, rfl⟩ := z_ex q
  intro M hI
  obtain ⟨L, b, hP, hM, hL, hC, hs⟩ := Inv_ex hI
  have hq := Ptr_P hP
  have hl := Ptr_L hP
  have hp0 : M.2.2 0 10 = L := hP.1
  have hR := hC.2.1
  obtain ⟨Pn, hPn⟩ : ∃ P, M.2.2 L 7 = P := ⟨_, rfl⟩
  rw [hPn] at hR
  have r290 : M.1 Pn 7 = zI (b 290) := by
    obtain ⟨jt, q1, q2, q3, q4, q5, q6, q7, q8, q9, q10⟩ := hR
    exact q9
  have i290 : 0 ≤ b 290 ∧ b 290 ≤ 1 := by
    obtain ⟨jt, q1, q2, q3, q4, q5, q6, q7, q8, q9, q10⟩ := hR
    exact ⟨q5, q6⟩
  have no : ∀ s : Int, f_X11_mean n 0 (zI x) (zI y) M = some (zI 0, uI M 0 15 (zI s)) → (∀ X, f_X12_mean n 227 (zI x) (zI y) (cs X b) = some (zI 0, cs (uI (uI (uI X 227 1 (zI 0)) 227 0 (zI 0)) 227 0 (zI s)) b)) → ∃ r M1 M2, f_X11_mean n 0 (zI x) (zI y) M = some (r, M1) ∧ f_X12_mean n 227 (zI x) (zI y) M1 = some (r, M2) ∧ Inv M2 := fun s h1 h2 => by
    have e : uI M 0 15 (zI s) = cs (uI M 0 15 (zI s)) b := cs_row hM (fun k => uI_o (by omega))
    refine ⟨_, _, _, h1, by rw [e]; exact h2 _, ?_⟩
    rw [uI_tw]
    exact st_no hP hM hL hC
  by_cases wy : 1 ≤ y ∧ y ≤ 20
  · by_cases w : 0 ≤ x ∧ x ≤ 10000 - y
    · by_cases v : b 290 = 0
      · refine no 8 ?_ (fun X => ?_)
        · rw [v] at r290
          unfold f_X11_mean
          simp (disch := first | omega | assumption) only [↓lt, ↓reduceIte, Option.bind_some, zl, ll, zwide, bIT, bIF, zneg, zadd, zsub, zmul, Int.reduceNeg, Int.reduceMul, ixT, zidx, if_true, if_false, zeqT, zeqF, zltT, zltF, zleT, zleF, ps_2, pu_o, uI_o, uI_s, uI_j, uI_j2, ps_o, Nat.reduceAdd, cs_o, cu_o, f_X11_tell, f_X11_refuse, f_X11_tellIf, f_X11_tellOrNone, f_X11_tellSooner, f_X11_deny, f_X11_succeed, f_X12_refuse, f_X12_no, hp0, hPn, r290]
        · have c290 : ∀ X : KM, (cs X b).1 232 (290 : Int).toNat = zI 0 := fun X => by rw [cs_c (by omega), v]
          unfold f_X12_mean
          simp (disch := first | omega | assumption) only [↓lt, ↓reduceIte, Option.bind_some, zl, ll, zwide, bIT, bIF, zneg, zadd, zsub, zmul, Int.reduceNeg, Int.reduceMul, ixT, zidx, if_true, if_false, zeqT, zeqF, zltT, zltF, zleT, zleF, ps_2, pu_o, uI_o, uI_s, uI_j, uI_j2, ps_o, Nat.reduceAdd, cs_o, cu_o, f_X11_tell, f_X11_refuse, f_X11_tellIf, f_X11_tellOrNone, f_X11_tellSooner, f_X11_deny, f_X11_succeed, f_X12_refuse, f_X12_no, m_isIn, c290]
      · have v1 : b 290 = 1 := by omega
        have n290 : ¬ M.1 Pn 7 = zI 0 := by rw [r290, v1]; decide
        obtain ⟨S, hS⟩ : ∃ S, M.2.2 0 11 = S := ⟨_, rfl⟩
        obtain ⟨PS, hPS⟩ : ∃ P, M.2.2 S 7 = P := ⟨_, rfl⟩
        have hLS : (L = 23 ∧ S = 61) ∨ (L = 61 ∧ S = 23) := by
          have := hP.2.1
          rw [hS] at this
          exact this
        have hSP : SpP M L S Pn PS := by
          refine ⟨hp0, hS, hLS, hPn, hPS, by rw [← hPn]; exact hq.2, ?_, ?_⟩
          · have h2 := hP
            unfold Ptr at h2
            rcases hLS with ⟨e1, e2⟩ | ⟨e1, e2⟩
            · subst e1; subst e2; omega
            · subst e1; subst e2; omega
          · have h2 := hP
            unfold Ptr at h2
            rcases hLS with ⟨e1, e2⟩ | ⟨e1, e2⟩
            · subst e1; subst e2; omega
            · subst e1; subst e2; omega
        have pq : PS = 31 ∨ PS = 69 ∨ PS = 99 := hSP.2.2.2.2.2.2.1
        have hS0 : SpM M M S PS := ⟨rfl, fun _ _ _ _ _ _ => rfl, fun _ _ _ _ => rfl, fun p hp => hC.2.2.2.2.2.2.2.2.2.2.2.1 S (by omega) (by omega) p hp⟩
        obtain ⟨V, Me, e1, e2, e3, e4⟩ := mean_loop (κ := fun (u14 : Int64) (M15 : KM) => (f_X11_setFraction n 0 u14 (lI y) M15).bind fun (v16 : KM) => lt (f_X11_succeed 0 v16) fun (v17 : (Int32 × KM)) => some (v17.1, v17.2)) (κ' := fun (u24 : Int64) (M25 : KM) => (f_X12_fraction n 227 u24 (lI y) M25).bind fun (v26 : (Int32 × KM)) => some (v26.1, v26.2)) hSP hL hR (x := x) (y := y) ⟨w.1, by omega⟩ wy y.toNat 0 0 n M (by omega) (by omega) (by omega) (by omega) (by omega) hS0
        have cf := fun M : KM => c_setFraction (a := V) (c := y) (n := n) (M := M) (by omega) (by omega) (by omega) (by omega) (by omega)
        have mf := fun M : KM => m_fraction (a := V) (c := y) (n := n) (M := M) (by omega) (by omega) (by omega) (by omega) (by omega)
        generalize V / eu 200 V y = t at cf mf
        generalize y / eu 200 V y = d at cf mf
        obtain ⟨M1, hM1⟩ : ∃ M1, M1 = uI (uJ (uJ Me 0 18 (lI t)) 0 19 (lI d)) 0 15 (zI 0) := ⟨_, rfl⟩
        have hc : f_X11_mean n 0 (zI x) (zI y) M = some (zI 1, M1) := by
          rw [hM1]
          unfold f_X11_mean
          simp only [cf, Option.bind_some] at e1
          simp (disch := first | omega | assumption) only [↓lt, ↓reduceIte, Option.bind_some, zl, ll, zwide, bIT, bIF, zneg, zadd, zsub, zmul, Int.reduceNeg, Int.reduceMul, ixT, zidx, if_true, if_false, zeqT, zeqF, zltT, zltF, zleT, zleF, ps_2, pu_o, uI_o, uI_s, uI_j, uI_j2, ps_o, Nat.reduceAdd, cs_o, cu_o, hp0, hPn, n290, cf]
          refine Eq.trans e1 ?_
          simp only [↓lt, f_X11_tell, f_X11_refuse, f_X11_tellIf, f_X11_tellOrNone, f_X11_tellSooner, f_X11_deny, f_X11_succeed, f_X12_refuse, f_X12_no, zl]
        have m1 : ∀ a k, ¬ (a = 0 ∧ k = 15) → M1.1 a k = Me.1 a k := fun a k h => by rw [hM1, uI_o h]; rfl
        have c1 : M1 = cs M1 b := cs_row hM (fun k => by rw [m1 232 k (by omega)]; exact e2.2.1 232 k (by omega) (by omega) (by omega) (by omega))
        obtain ⟨X1, g1, g2, g3, g4, g5⟩ := lp63 (b := b) (c1 := zI x) (c2 := zI y) (κ := fun (M12 : KM) => lp_X12_mean_93 n 227 (zI x) (zI y) (lI 0) (zI 0) M12 (fun (u24 : Int64) (M25 : KM) => (f_X12_fraction n 227 u24 (lI y) M25).bind fun (v26 : (Int32 × KM)) => some (v26.1, v26.2))) 290 0 (uI (uI M1 227 1 (zI 0)) 227 0 (zI 0)) n (by omega) (by omega) (by omega)
        obtain ⟨X', h1, h2, h3⟩ := e4 X1 (fun z u v => g5 z u v)
        have hm : f_X12_mean n 227 (zI x) (zI y) (cs M1 b) = some (zI 1, uJ (uJ (cs X' b) 227 2 (lI t)) 227 3 (lI d)) := by
          have c290 : ∀ X : KM, (cs X b).1 232 (290 : Int).toNat = zI 1 := fun X => by rw [cs_c (by omega), v1]
          simp only [mf, Option.bind_some] at h1 g1
          unfold f_X12_mean
          simp (disch := first | omega | assumption) only [↓lt, ↓reduceIte, Option.bind_some, zl, ll, zwide, bIT, bIF, zneg, zadd, zsub, zmul, Int.reduceNeg, Int.reduceMul, ixT, zidx, if_true, if_false, zeqT, zeqF, zltT, zltF, zleT, zleF, ps_2, pu_o, uI_o, uI_s, uI_j, uI_j2, ps_o, Nat.reduceAdd, cs_o, cu_o, f_X11_tell, f_X11_refuse, f_X11_tellIf, f_X11_tellOrNone, f_X11_tellSooner, f_X11_deny, f_X11_succeed, f_X12_refuse, f_X12_no, m_isIn, c290, mf]
          exact g1.trans h1
        rw [← c1] at hm
        obtain ⟨Y, hY⟩ : ∃ Y, Y = uJ (uJ X' 227 2 (lI t)) 227 3 (lI d) := ⟨_, rfl⟩
        have hYc : uJ (uJ (cs X' b) 227 2 (lI t)) 227 3 (lI d) = cs Y b := by rw [hY]; rfl
        rw [hYc] at hm
        have yM : ∀ a k, ¬ a = 234 → ¬ (a = 227 ∧ (k = 0 ∨ k = 1 ∨ k = 28 ∨ k = 29 ∨ (39 ≤ k ∧ k ≤ 46))) → Y.1 a k = M1.1 a k := fun a k u1 u2 => by
          rw [hY]
          show X'.1 a k = _
          rw [h3 a k (by omega), g3 a k u1, uI_o (by omega), uI_o (by omega)]
        have yo : ∀ a k, ¬ a = 234 → ¬ (a = 0 ∧ k = 15) → ¬ (a = 227 ∧ (k = 0 ∨ k = 1 ∨ k = 28 ∨ k = 29 ∨ (39 ≤ k ∧ k ≤ 46))) → Y.1 a k = Me.1 a k := fun a k u1 u2 u3 => by rw [yM a k u1 u3, m1 a k u2]
        have yJ : ∀ a k, ¬ (a = 0 ∧ (k = 18 ∨ k = 19)) → ¬ (a = 227 ∧ (k = 2 ∨ k = 3)) → Y.2.1 a k = Me.2.1 a k := fun a k u1 u2 => by
          rw [hY, uJ_o (by omega), uJ_o (by omega), h2, g2]
          show M1.2.1 a k = _
          rw [hM1]
          show (uJ (uJ Me 0 18 (lI t)) 0 19 (lI d)).2.1 a k = _
          rw [uJ_o (by omega), uJ_o (by omega)]
        have y22 : Y.2.2 = M.2.2 := by
          rw [hY]
          show X'.2.2 = _
          rw [h2, g2]
          show M1.2.2 = _
          rw [hM1]
          exact e2.1
        have hh := hL.2.2.1.1
        unfold WH at hh
        have hb2 : 0 ≤ b 2 ∧ b 2 ≤ 8 := by omega
        clear hh
        have me := e2.2.1
        have mj := e2.2.2.1
        refine ⟨zI 1, M1, cs Y b, hc, hm, L, b, ?_, fun k => ?_, ?_, ?_, ?_⟩
        · unfold Ptr at hP ⊢
          rw [show (cs Y b).2.2 = M.2.2 from y22]; exact hP
        · simp only [cs, if_true]
        · exact LOK_of (M := M) (fun a k u v => by rw [cs_o (by omega), yo a k (by omega) (by omega) (by omega), me a k (by omega) (by omega) (by omega) (by have := hSP; unfold SpP at this; omega)]) (fun a k u v => by rw [cs_o (by omega), yo a k (by omega) (by omega) (by omega), me a k (by omega) (by omega) (by omega) (by have := hSP; unfold SpP at this; omega)]) hL
        · refine CR_mn (M := M) (b := b) (S := S) hb2 hq.1 (by omega) hq.2 (fun a k u u2 => ?_) (fun p hp => ?_) (fun a k u u1 u2 => ?_) ?_ ?_ (by show Y.2.2 L 7 = M.2.2 L 7; rw [y22]) (fun _ _ _ => rfl) rfl rfl hC
          · have wk := KI_out hq u
            have hsp := hSP
            unfold SpP at hsp
            unfold KI at u
            rw [cs_o wk.2.2.1, yo a k (by omega) (by omega) (by omega), me a k (by omega) (by omega) u2 (by omega)]
          · rw [cs_o (by omega), cs_o (by omega), yo _ _ (by omega) (by omega) (by omega), yo _ _ (by omega) (by omega) (by omega)]
            exact e2.2.2.2 p hp
          · show Y.2.1 a k = M.2.1 a k
            unfold KJ at u
            rw [yJ a k u1 u2, mj a k (by omega) (by omega)]
          · show Y.2.1 227 2 = Y.2.1 0 18
            have q1 : Y.2.1 227 2 = lI t := by rw [hY, uJ_o (by omega), uJ_s]
            have q2 : Y.2.1 0 18 = lI t := by
              rw [hY, uJ_o (by omega), uJ_o (by omega), h2, g2]
              show M1.2.1 0 18 = _
              rw [hM1]
              show (uJ (uJ Me 0 18 (lI t)) 0 19 (lI d)).2.1 0 18 = _
              rw [uJ_o (by omega), uJ_s]
            rw [q1, q2]
          · show Y.2.1 227 3 = Y.2.1 0 19
            have q1 : Y.2.1 227 3 = lI d := by rw [hY, uJ_s]
            have q2 : Y.2.1 0 19 = lI d := by
              rw [hY, uJ_o (by omega), uJ_o (by omega), h2, g2]
              show M1.2.1 0 19 = _
              rw [hM1]
              show (uJ (uJ Me 0 18 (lI t)) 0 19 (lI d)).2.1 0 19 = _
              rw [uJ_s]
            rw [q1, q2]
        · rw [cs_o (by omega), cs_o (by omega), yM 0 15 (by omega) (by omega), hM1, uI_s, hY]
          show _ = X'.1 227 0
          rw [h3 227 0 (by omega), g3 227 0 (by omega), uI_s]
    · refine no 5 ?_ (fun X => ?_)
      · unfold f_X11_mean
        by_cases u : x < 0
        · simp (disch := first | omega | assumption) only [↓lt, ↓reduceIte, Option.bind_some, zl, ll, zwide, bIT, bIF, zneg, zadd, zsub, zmul, Int.reduceNeg, Int.reduceMul, ixT, zidx, if_true, if_false, zeqT, zeqF, zltT, zltF, zleT, zleF, ps_2, pu_o, uI_o, uI_s, uI_j, uI_j2, ps_o, Nat.reduceAdd, cs_o, cu_o, f_X11_tell, f_X11_refuse, f_X11_tellIf, f_X11_tellOrNone, f_X11_tellSooner, f_X11_deny, f_X11_succeed, f_X12_refuse, f_X12_no]
        · simp (disch := first | omega | assumption) only [↓lt, ↓reduceIte, Option.bind_some, zl, ll, zwide, bIT, bIF, zneg, zadd, zsub, zmul, Int.reduceNeg, Int.reduceMul, ixT, zidx, if_true, if_false, zeqT, zeqF, zltT, zltF, zleT, zleF, ps_2, pu_o, uI_o, uI_s, uI_j, uI_j2, ps_o, Nat.reduceAdd, cs_o, cu_o, f_X11_tell, f_X11_refuse, f_X11_tellIf, f_X11_tellOrNone, f_X11_tellSooner, f_X11_deny, f_X11_succeed, f_X12_refuse, f_X12_no]
      · unfold f_X12_mean
        simp (disch := first | omega | assumption) only [↓lt, ↓reduceIte, Option.bind_some, zl, ll, zwide, bIT, bIF, zneg, zadd, zsub, zmul, Int.reduceNeg, Int.reduceMul, ixT, zidx, if_true, if_false, zeqT, zeqF, zltT, zltF, zleT, zleF, ps_2, pu_o, uI_o, uI_s, uI_j, uI_j2, ps_o, Nat.reduceAdd, cs_o, cu_o, f_X11_tell, f_X11_refuse, f_X11_tellIf, f_X11_tellOrNone, f_X11_tellSooner, f_X11_deny, f_X11_succeed, f_X12_refuse, f_X12_no, m_isIn]
  · refine no 5 ?_ (fun X => ?_)
    · unfold f_X11_mean
      by_cases u : x < 0
      · simp (disch := first | omega | assumption) only [↓lt, ↓reduceIte, Option.bind_some, zl, ll, zwide, bIT, bIF, zneg, zadd, zsub, zmul, Int.reduceNeg, Int.reduceMul, ixT, zidx, if_true, if_false, zeqT, zeqF, zltT, zltF, zleT, zleF, ps_2, pu_o, uI_o, uI_s, uI_j, uI_j2, ps_o, Nat.reduceAdd, cs_o, cu_o, f_X11_tell, f_X11_refuse, f_X11_tellIf, f_X11_tellOrNone, f_X11_tellSooner, f_X11_deny, f_X11_succeed, f_X12_refuse, f_X12_no]
      · by_cases u2 : y < 1
        · simp (disch := first | omega | assumption) only [↓lt, ↓reduceIte, Option.bind_some, zl, ll, zwide, bIT, bIF, zneg, zadd, zsub, zmul, Int.reduceNeg, Int.reduceMul, ixT, zidx, if_true, if_false, zeqT, zeqF, zltT, zltF, zleT, zleF, ps_2, pu_o, uI_o, uI_s, uI_j, uI_j2, ps_o, Nat.reduceAdd, cs_o, cu_o, f_X11_tell, f_X11_refuse, f_X11_tellIf, f_X11_tellOrNone, f_X11_tellSooner, f_X11_deny, f_X11_succeed, f_X12_refuse, f_X12_no]
        · simp (disch := first | omega | assumption) only [↓lt, ↓reduceIte, Option.bind_some, zl, ll, zwide, bIT, bIF, zneg, zadd, zsub, zmul, Int.reduceNeg, Int.reduceMul, ixT, zidx, if_true, if_false, zeqT, zeqF, zltT, zltF, zleT, zleF, ps_2, pu_o, uI_o, uI_s, uI_j, uI_j2, ps_o, Nat.reduceAdd, cs_o, cu_o, f_X11_tell, f_X11_refuse, f_X11_tellIf, f_X11_tellOrNone, f_X11_tellSooner, f_X11_deny, f_X11_succeed, f_X12_refuse, f_X12_no]
    · unfold f_X12_mean
      simp (disch := first | omega | assumption) only [↓lt, ↓reduceIte, Option.bind_some, zl, ll, zwide, bIT, bIF, zneg, zadd, zsub, zmul, Int.reduceNeg, Int.reduceMul, ixT, zidx, if_true, if_false, zeqT, zeqF, zltT, zltF, zleT, zleF, ps_2, pu_o, uI_o, uI_s, uI_j, uI_j2, ps_o, Nat.reduceAdd, cs_o, cu_o, f_X11_tell, f_X11_refuse, f_X11_tellIf, f_X11_tellOrNone, f_X11_tellSooner, f_X11_deny, f_X11_succeed, f_X12_refuse, f_X12_no, m_isIn]
