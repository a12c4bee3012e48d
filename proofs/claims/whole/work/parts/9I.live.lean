/-! ===== live: both alike ===== -/
theorem k_live (p : Int32) (n : Nat) (hn : 41100 ≤ n) : OKm (f_X11_live n 0 p) (f_X12_live n 227 p) := by
  obtain ⟨x, hx1, hx2, rfl⟩ := z_ex p
  intro M hI
  obtain ⟨L, b, hP, hM, hL, hC, hs⟩ := Inv_ex hI
  have hq := Ptr_P hP
  have hl := Ptr_L hP
  have hp0 : M.2.2 0 10 = L := hP.1
  have hR := hC.2.1
  obtain ⟨Pn, hPn⟩ : ∃ P, M.2.2 L 7 = P := ⟨_, rfl⟩
  rw [hPn] at hR
  have hPL := PL_x hq
  rw [hPn] at hPL
  have r290 : M.1 Pn 7 = zI (b 290) := by
    obtain ⟨jt, q1, q2, q3, q4, q5, q6, q7, q8, q9, q10⟩ := hR
    exact q9
  have i290 : 0 ≤ b 290 ∧ b 290 ≤ 1 := by
    obtain ⟨jt, q1, q2, q3, q4, q5, q6, q7, q8, q9, q10⟩ := hR
    exact ⟨q5, q6⟩
  have no : ∀ s : Int, f_X11_live n 0 (zI x) M = some (zI (-1), uI M 0 15 (zI s)) → (∀ X, f_X12_live n 227 (zI x) (cs X b) = some (zI (-1), cs (uI (uI (uI X 227 1 (zI 0)) 227 0 (zI 0)) 227 0 (zI s)) b)) → ∃ r M1 M2, f_X11_live n 0 (zI x) M = some (r, M1) ∧ f_X12_live n 227 (zI x) M1 = some (r, M2) ∧ Inv M2 := fun s h1 h2 => by
    have e : uI M 0 15 (zI s) = cs (uI M 0 15 (zI s)) b := cs_row hM (fun k => uI_o (by omega))
    refine ⟨_, _, _, h1, by rw [e]; exact h2 _, ?_⟩
    rw [uI_tw]
    exact st_no hP hM hL hC
  by_cases w : 0 ≤ x ∧ x ≤ 9999
  · by_cases v : b 290 = 0
    · refine no 8 ?_ (fun X => ?_)
      · rw [v] at r290
        unfold f_X11_live
        simp (disch := first | omega | assumption) only [↓lt, ↓reduceIte, Option.bind_some, zl, ll, zwide, bIT, bIF, zneg, zadd, zsub, zmul, Int.reduceNeg, Int.reduceMul, ixT, zidx, if_true, if_false, zeqT, zeqF, zltT, zltF, zleT, zleF, ps_2, pu_o, uI_o, uI_s, uI_j, uI_j2, ps_o, Nat.reduceAdd, cs_o, cu_o, f_X11_tell, f_X11_refuse, f_X11_tellIf, f_X11_tellOrNone, f_X11_tellSooner, f_X11_deny, f_X11_succeed, f_X12_refuse, f_X12_no, hp0, hPn, r290]
      · have c290 : ∀ X : KM, (cs X b).1 232 (290 : Int).toNat = zI 0 := fun X => by rw [cs_c (by omega), v]
        unfold f_X12_live
        simp (disch := first | omega | assumption) only [↓lt, ↓reduceIte, Option.bind_some, zl, ll, zwide, bIT, bIF, zneg, zadd, zsub, zmul, Int.reduceNeg, Int.reduceMul, ixT, zidx, if_true, if_false, zeqT, zeqF, zltT, zltF, zleT, zleF, ps_2, pu_o, uI_o, uI_s, uI_j, uI_j2, ps_o, Nat.reduceAdd, cs_o, cu_o, f_X11_tell, f_X11_refuse, f_X11_tellIf, f_X11_tellOrNone, f_X11_tellSooner, f_X11_deny, f_X11_succeed, f_X12_refuse, f_X12_no, m_isIn, c290]
    · have v1 : b 290 = 1 := by omega
      have hg0 : M = ps M L (pg M L) := ps_ex M L
      obtain ⟨b1, g1, W1, X1, dn1, ms1, ar1, lf1, e1, f1, k1, x1⟩ := run_both (X := M) (n := n) hl.1 hPL hPn hL.1 hL.2.1 hL.2.2.1 hL.2.2.2 hR (x := x) ⟨w.1, by omega⟩ hn
      rw [← hg0] at e1
      obtain ⟨R, hRd⟩ : ∃ R, R = ps W1 L g1 := ⟨_, rfl⟩
      rw [← hRd] at e1
      have lf0 : R.1 12 7 = zI 0 ∨ R.1 12 7 = zI 1 := by
        have : R.1 12 7 = zI lf1 := by rw [hRd, ps_o (by omega)]; exact k1.2.2.2.2.2.2.2.1
        rw [this]
        rcases k1.2.2.2.2.2.2.2.2.2.2.2.2.2.2.2 with e | e
        · exact Or.inl (by rw [e])
        · exact Or.inr (by rw [e])
      have hc := c_live w hp0 hPn (by rw [r290, v1]; decide) e1 lf0
      obtain ⟨M1, hM1⟩ : ∃ M1, M1 = uI (uI (uI (uI (uI (uI R 4 0 (R.1 12 3)) 4 1 (R.1 12 4)) 4 2 (R.1 12 5)) 4 3 (R.1 12 6)) 4 4 (R.1 12 7)) 0 15 (zI 0) := ⟨_, rfl⟩
      rw [← hM1] at hc
      have m1 : ∀ a k, ¬ a = 4 → ¬ (a = 0 ∧ k = 15) → M1.1 a k = R.1 a k := fun a k h1 h2 => by
        rw [hM1, uI_o (by omega), uI_o (by omega), uI_o (by omega), uI_o (by omega), uI_o (by omega), uI_o (by omega)]
      have c1 : M1 = cs M1 b := cs_row hM (fun k => by
        rw [m1 232 k (by omega) (by omega), hRd, ps_o (by omega)]
        exact k1.2.1 232 k (by omega) (by omega))
      obtain ⟨b', g', W, X', dn, ms, ar, lf, e2, f2, k2, x2⟩ := run_both (X := uI (uI M1 227 1 (zI 0)) 227 0 (zI 0)) (n := n) hl.1 hPL hPn hL.1 hL.2.1 hL.2.2.1 hL.2.2.2 hR (x := x) ⟨w.1, by omega⟩ hn
      rw [← hg0] at e2
      have hRW : R = ps W L g' := by
        have := e1.symm.trans e2
        injection this
      have hm := m_live (X := M1) w v1 f2
      rw [← c1] at hm
      obtain ⟨a1, a2, a3, a4, a5, a6, a7, a8, a9, a10, a11, a12, a13, a14, a15, a16⟩ := k2
      obtain ⟨y1, y2, y3, y4, y5, y6, y7, y8⟩ := x2
      obtain ⟨Y, hY⟩ : ∃ Y, Y = uI (uI (uI (uI (uI (uI X' 243 0 (X'.1 227 42)) 243 1 (X'.1 227 43)) 243 2 (X'.1 227 44)) 243 3 (X'.1 227 45)) 243 4 (X'.1 227 46)) 227 38 (zI 1) := ⟨_, rfl⟩
      rw [← hY] at hm
      have rw12 : ∀ k, R.1 12 k = W.1 12 k := fun k => by rw [hRW, ps_o (by omega)]
      have yM : ∀ a k, ¬ a = 243 → ¬ (a = 227 ∧ (k = 0 ∨ k = 1 ∨ k = 28 ∨ k = 29 ∨ (38 ≤ k ∧ k ≤ 46))) → Y.1 a k = M1.1 a k := fun a k h1 h2 => by
        rw [hY, uI_o (by omega), uI_o (by omega), uI_o (by omega), uI_o (by omega), uI_o (by omega), uI_o (by omega), y2 a k (by omega), uI_o (by omega), uI_o (by omega)]
      have yo : ∀ a k, ¬ a = 243 → ¬ a = 4 → ¬ (a = 0 ∧ k = 15) → ¬ (a = 227 ∧ (k = 0 ∨ k = 1 ∨ k = 28 ∨ k = 29 ∨ (38 ≤ k ∧ k ≤ 46))) → Y.1 a k = R.1 a k := fun a k h1 h2 h3 h4 => by
        rw [yM a k h1 h4, m1 a k h2 h3]
      have z2 : Y.2 = M.2 := by
        rw [hY]
        show X'.2 = M.2
        rw [y1]
        show M1.2 = M.2
        rw [hM1]
        show R.2 = M.2
        rw [hRW]
        exact a1
      have hYp : ps Y L g' = Y := by
        refine Prod.ext ?_ rfl
        funext a k
        by_cases q : L + 14 ≤ a ∧ a < L + 38
        · rw [ps_at q rfl rfl, yo a k (by omega) (by omega) (by omega) (by omega), hRW, ps_at q rfl rfl]
        · rw [ps_o q]
      have hh := hL.2.2.1.1
      unfold WH at hh
      have hb2 : 0 ≤ b 2 ∧ b 2 ≤ 8 := by omega
      clear hh
      have hI2 : Inv (cs (ps Y L g') b') := by
        refine Inv_close ⟨?_, ?_, a10, a11, a12, ?_⟩ ?_
        · unfold Ptr at hP ⊢
          rw [z2]; exact hP
        · refine HL_of (M := W) (fun a k u v => ?_) a9
          rw [cs_o (by omega), yo a k (by omega) (by omega) (by omega) (by omega), hRW, ps_o (by omega)]
        · rw [hYp]
          refine CR_lv (M := M) (b := b) hb2 hq.1 hq.2 (fun a k u h1 h2 h3 => ?_) ⟨?_, ⟨ms, by omega, by omega, ?_⟩, fun k hk => ?_⟩ (fun a k _ => ?_) ?_ (fun z u v => a14 z u) (a13 0 (by omega) (by omega) (by omega)) (a13 2 (by omega) (by omega) (by omega)) hC
          · have wk := KI_out hq u
            unfold KI at u
            rw [cs_o wk.2.2.1, yo a k (by omega) (by omega) (by omega) (by omega), hRW, ps_o wk.1, a2 a k (by omega) (by omega)]
          · rw [cs_o (by omega), hY, uI_s]
          · rw [cs_o (by omega), yM 4 0 (by omega) (by omega), hM1, uI_o (by omega), uI_o (by omega), uI_o (by omega), uI_o (by omega), uI_o (by omega), uI_s, rw12]; exact a4
          · rw [cs_o (by omega), cs_o (by omega), yM 4 k (by omega) (by omega), hM1, hY]
            match k, hk with
            | 0, _ =>
              rw [uI_o (by omega), uI_o (by omega), uI_o (by omega), uI_o (by omega), uI_o (by omega), uI_s, uI_o (by omega), uI_o (by omega), uI_o (by omega), uI_o (by omega), uI_o (by omega), uI_s, rw12, a4, y4]
            | 1, _ =>
              rw [uI_o (by omega), uI_o (by omega), uI_o (by omega), uI_o (by omega), uI_s, uI_o (by omega), uI_o (by omega), uI_o (by omega), uI_o (by omega), uI_s, rw12, a5, y5]
            | 2, _ =>
              rw [uI_o (by omega), uI_o (by omega), uI_o (by omega), uI_s, uI_o (by omega), uI_o (by omega), uI_o (by omega), uI_s, rw12, a6, y6]
            | 3, _ =>
              rw [uI_o (by omega), uI_o (by omega), uI_s, uI_o (by omega), uI_o (by omega), uI_s, rw12, a7, y7]
            | 4, _ =>
              rw [uI_o (by omega), uI_s, uI_o (by omega), uI_s, rw12, a8, y8]
            | k + 5, h => omega
          · show Y.2.1 a k = M.2.1 a k
            rw [z2]
          · show Y.2.2 L 7 = M.2.2 L 7
            rw [z2]
        · rw [yM 0 15 (by omega) (by omega), hM1, uI_s, hY, uI_o (by omega), uI_o (by omega), uI_o (by omega), uI_o (by omega), uI_o (by omega), uI_o (by omega), y2 227 0 (by omega), uI_s]
      rw [hYp] at hI2
      refine ⟨zI dn, M1, cs Y b', ?_, ?_, hI2⟩
      · rw [hc, rw12, a3]
      · rw [hm, y3]
  · refine no 5 ?_ (fun X => ?_)
    · unfold f_X11_live
      by_cases u : x < 0
      · simp (disch := first | omega | assumption) only [↓lt, ↓reduceIte, Option.bind_some, zl, ll, zwide, bIT, bIF, zneg, zadd, zsub, zmul, Int.reduceNeg, Int.reduceMul, ixT, zidx, if_true, if_false, zeqT, zeqF, zltT, zltF, zleT, zleF, ps_2, pu_o, uI_o, uI_s, uI_j, uI_j2, ps_o, Nat.reduceAdd, cs_o, cu_o, f_X11_tell, f_X11_refuse, f_X11_tellIf, f_X11_tellOrNone, f_X11_tellSooner, f_X11_deny, f_X11_succeed, f_X12_refuse, f_X12_no]
      · simp (disch := first | omega | assumption) only [↓lt, ↓reduceIte, Option.bind_some, zl, ll, zwide, bIT, bIF, zneg, zadd, zsub, zmul, Int.reduceNeg, Int.reduceMul, ixT, zidx, if_true, if_false, zeqT, zeqF, zltT, zltF, zleT, zleF, ps_2, pu_o, uI_o, uI_s, uI_j, uI_j2, ps_o, Nat.reduceAdd, cs_o, cu_o, f_X11_tell, f_X11_refuse, f_X11_tellIf, f_X11_tellOrNone, f_X11_tellSooner, f_X11_deny, f_X11_succeed, f_X12_refuse, f_X12_no]
    · unfold f_X12_live
      simp (disch := first | omega | assumption) only [↓lt, ↓reduceIte, Option.bind_some, zl, ll, zwide, bIT, bIF, zneg, zadd, zsub, zmul, Int.reduceNeg, Int.reduceMul, ixT, zidx, if_true, if_false, zeqT, zeqF, zltT, zltF, zleT, zleF, ps_2, pu_o, uI_o, uI_s, uI_j, uI_j2, ps_o, Nat.reduceAdd, cs_o, cu_o, f_X11_tell, f_X11_refuse, f_X11_tellIf, f_X11_tellOrNone, f_X11_tellSooner, f_X11_deny, f_X11_succeed, f_X12_refuse, f_X12_no, m_isIn]
