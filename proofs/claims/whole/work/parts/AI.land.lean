/-! ===== land: k_land ===== -/
theorem c_keepFault {M : KM} : f_X11_keepFault 0 5 M = uI (uI (uI M 0 13 (zI 0)) 0 16 (M.1 5 4)) 0 17 (M.1 5 5) := by
  unfold f_X11_keepFault
  simp only [lt]
  rw [uI_o (show ¬ (5 = 0 ∧ 4 = 13) by omega), uI_o (show ¬ (5 = 0 ∧ 5 = 16) by omega), uI_o (show ¬ (5 = 0 ∧ 5 = 13) by omega)]
  rfl
theorem k_land (p : Int32) (n : Nat) (hn : 2200 ≤ n) : OKm (f_X11_land n 0 p) (f_X12_land n 227 p) := by
  intro M hI
  obtain ⟨L, b, hP, hM, hL, hC, hs⟩ := Inv_ex hI
  have hrow : ∀ k : Nat, M.1 232 k = zI (b k) := fun k => by
    have := congrFun (congrFun (congrArg Prod.fst hM) 232) k
    rw [this]
    have t := cs_c (M := M) (b := b) (z := (k : Int)) (by omega)
    rw [Int.toNat_natCast] at t
    exact t
  obtain ⟨E, q1, q2, rfl⟩ := z_ex p
  have hC2 := hC
  obtain ⟨-, -, -, ⟨tp, tp0, tp9, h13, h8⟩, -⟩ := hC2
  have refuse : (E < 0 ∨ tp < E) → ∃ r M1 M2, f_X11_land n 0 (zI E) M = some (r, M1) ∧ f_X12_land n 227 (zI E) M1 = some (r, M2) ∧ Inv M2 := fun w => by
    refine ⟨zI (-1), uI M 0 15 (zI 5), cs (uI (uI (uI M 0 15 (zI 5)) 227 1 (zI 0)) 227 0 (zI 5)) b, ?_, ?_, st_no hP hM hL hC⟩
    · unfold f_X11_land
      by_cases w0 : E < 0
      · simp (disch := first | omega | assumption) only [↓lt, ↓reduceIte, zl, zltT, f_X11_refuse, zneg, Int.reduceNeg]
      · simp (disch := first | omega | assumption) only [↓lt, ↓reduceIte, zl, zltF, h13, zleF, if_false, f_X11_refuse, zneg, Int.reduceNeg]
    · have e : uI M 0 15 (zI 5) = cs (uI M 0 15 (zI 5)) b := cs_row hM (fun k => uI_o (by omega))
      have h8' : (uI (uI (uI M 0 15 (zI 5)) 227 1 (zI 0)) 227 0 (zI 0)).1 227 8 = zI tp := by rw [uI_o (by omega), uI_o (by omega), uI_o (by omega)]; exact h8
      have st : f_X12_starts n 227 (zI E) (900 : Int32) (uI (uI (uI M 0 15 (zI 5)) 227 1 (zI 0)) 227 0 (zI 0)) = some (zI 0, uI (uI (uI (uI M 0 15 (zI 5)) 227 1 (zI 0)) 227 0 (zI 0)) 227 0 (zI 5)) := by
        unfold f_X12_starts
        by_cases w0 : E < 0
        · simp (disch := first | omega | assumption) only [↓lt, ↓reduceIte, zl, zltT, f_X12_no]
        · simp (disch := first | omega | assumption) only [↓lt, ↓reduceIte, zl, zltF, h8', zltT, f_X12_no]
      rw [m_land_eq, show f_X12_starts n 227 (zI E) (900 : Int32) (uI (uI (uI M 0 15 (zI 5)) 227 1 (0 : Int32)) 227 0 (0 : Int32)) = _ from st, Option.bind_some, if_pos (show zI 0 = 0 by decide), uI_tw]
      have e2 := cs_row (N := uI (uI (uI M 0 15 (zI 5)) 227 1 (zI 0)) 227 0 (zI 5)) e (fun k => by rw [uI_o (by omega), uI_o (by omega)])
      rw [← e2]
      rfl
  by_cases w0 : E < 0
  · exact refuse (Or.inl w0)
  by_cases w1 : tp < E
  · exact refuse (Or.inr w1)
  clear refuse
  have hi := hP
  unfold Ptr at hi
  obtain ⟨S, hS⟩ : ∃ S, M.2.2 0 11 = S := ⟨_, rfl⟩
  have SL : (S = 61 ∧ L = 23) ∨ (S = 23 ∧ L = 61) := by omega
  obtain ⟨P, hP7⟩ : ∃ P, M.2.2 S 7 = P := ⟨_, rfl⟩
  have hPS : P = 31 ∨ P = 69 ∨ P = 99 := by
    rcases SL with ⟨w, -⟩ | ⟨w, -⟩
    · rw [w] at hP7; omega
    · rw [w] at hP7; omega
  have h10 : M.2.2 0 10 = L := hi.1
  clear hi
  obtain ⟨r, M', X1, a1, a2, a3, a4, a5, a6, a7, a8, a9, a10, a11⟩ := land_run (X := M) (S := S) (P := P) (E := E) (tp := tp) (n := n) (by omega) hP7 hPS (by omega) hC (by omega) (by omega) tp9 h8 (fun _ _ => rfl) hM hn
  have ar : r = zI 1 ∨ r = zI 0 := by
    rcases a11 with a11 | a11
    · exact Or.inl a11.1
    · exact Or.inr a11.1
  clear a2 a6 a7 a8 a9 a10 a11 X1
  -- the class's memory behind the call
  generalize hN : uI (uI (uI M' 0 13 (zI 0)) 0 16 (M'.1 5 4)) 0 17 (M'.1 5 5) = N
  have kf : f_X11_keepFault 0 5 M' = N := by rw [c_keepFault, hN]
  have No : ∀ c i, ¬ (c = 0 ∧ (i = 13 ∨ i = 16 ∨ i = 17)) → N.1 c i = M'.1 c i := fun c i q => by rw [← hN, uI_o (by omega), uI_o (by omega), uI_o (by omega)]
  have N13 : N.1 0 13 = zI 0 := by rw [← hN, uI_o (by omega), uI_o (by omega), uI_s]
  have N16 : N.1 0 16 = M'.1 5 4 := by rw [← hN, uI_o (by omega), uI_s]
  have N17 : N.1 0 17 = M'.1 5 5 := by rw [← hN, uI_s]
  have NJ : N.2 = M'.2 := by rw [← hN]; rfl
  have r10 : M'.2.2 0 10 = L := by rw [a5 _ _ (by omega)]; exact h10
  have r11 : M'.2.2 0 11 = S := by rw [a5 _ _ (by omega)]; exact hS
  have rS7 : M'.2.2 S 7 = P := by rw [a5 _ _ (by omega)]; exact hP7
  -- the reference, from a memory whose rows are those of M
  have second : ∀ X : KM, (∀ c i, 227 ≤ c → X.1 c i = M.1 c i) → ∃ X', f_X12_land n 227 (zI E) X = mL n X' ∧ (∀ c i, ¬ (c = 227 ∧ (i ≤ 1 ∨ i = 8 ∨ i = 9 ∨ (12 ≤ i ∧ i ≤ 18) ∨ i = 25 ∨ i = 26)) → ¬ (c = 232 ∧ 2248 ≤ i) → X'.1 c i = X.1 c i) ∧ (∀ c i, ¬ (c = 227 ∧ i = 19) → ¬ (c = 235 ∧ 64 ≤ i) → X'.2.1 c i = X.2.1 c i) ∧ X'.2.2 = X.2.2 ∧ X'.1 227 0 = zI 0 ∧ X'.1 227 8 = zI 0 ∧
      ((r = zI 1 ∧ (∃ b', LB S b' M' X') ∧ X'.1 227 12 = zI 0 ∧ M'.1 5 4 = zI 0 ∧ M'.1 5 5 = zI (-1)) ∨ (r = zI 0 ∧ BD 5 M' X' ∧ P01 M' S)) := fun X hX => by
    obtain ⟨r', M2, X', b1, b2, b3, b4, b5, b6, b7, b8, b9, b10, b11⟩ := land_run (X := X) (S := S) (P := P) (E := E) (tp := tp) (n := n) (by omega) hP7 hPS (by omega) hC (by omega) (by omega) tp9 (by rw [hX _ _ (by omega)]; exact h8) (fun k hk => hX _ _ (by omega)) (cs_row hM (fun k => hX _ _ (by omega))) hn
    rw [a1] at b1
    have e := Prod.mk.inj (Option.some.inj b1)
    rw [← e.1, ← e.2] at b11
    exact ⟨X', b2, b6, b7, b8, b9, b10, b11⟩
  have cls : f_X11_land n 0 (zI E) M = if r = 0 then some (zI (-1), uI N 0 15 (zI 10)) else some (N.1 S 10, uI (uR (uR N 0 10 S) 0 11 L) 0 15 (zI 0)) := by
    unfold f_X11_land
    rw [show f_X3_readInto n (0 + 5) (M.2.2 0 11) (0 + 2) (zI E) M = some (r, M') by rw [hS]; exact a1, h13]
    simp (disch := first | omega | assumption) only [↓lt, ↓reduceIte, zl, zltF, zleT, if_true, Option.bind_some, Nat.zero_add, kf]
    by_cases q : r = zI 0
    · rw [if_pos q, if_pos q]
      simp only [f_X11_refuse, lt, zneg, zl, Int.reduceNeg]
    · rw [if_neg q, if_neg q]
      have g1 : N.2.2 0 10 = L := by rw [NJ]; exact r10
      have g2 : N.2.2 0 11 = S := by rw [NJ]; exact r11
      rw [g1, g2]
      have g3 : (uR (uR N 0 10 S) 0 11 L).2.2 0 10 = S := by rw [uR_o (by omega), uR_s]
      rw [g3]
      simp only [f_X11_tell, lt, zl, uR_i]
  rcases ar with ra | ra
  · -- taken
    rw [ra, if_neg (by decide)] at cls
    have hX1 : ∀ c i, ¬ (c = 0 ∧ (i = 13 ∨ i = 15 ∨ i = 16 ∨ i = 17)) → (uI (uR (uR N 0 10 S) 0 11 L) 0 15 (zI 0)).1 c i = M'.1 c i := fun c i q => by
      rw [uI_o (by omega), uR_i, uR_i]; exact No c i (by omega)
    have x15 : (uI (uR (uR N 0 10 S) 0 11 L) 0 15 (zI 0)).1 0 15 = zI 0 := uI_s
    have x13 : (uI (uR (uR N 0 10 S) 0 11 L) 0 15 (zI 0)).1 0 13 = zI 0 := by rw [uI_o (by omega), uR_i, uR_i]; exact N13
    have x16 : (uI (uR (uR N 0 10 S) 0 11 L) 0 15 (zI 0)).1 0 16 = M'.1 5 4 := by rw [uI_o (by omega), uR_i, uR_i]; exact N16
    have x17 : (uI (uR (uR N 0 10 S) 0 11 L) 0 15 (zI 0)).1 0 17 = M'.1 5 5 := by rw [uI_o (by omega), uR_i, uR_i]; exact N17
    have xJ : (uI (uR (uR N 0 10 S) 0 11 L) 0 15 (zI 0)).2.1 = M'.2.1 := by
      show N.2.1 = M'.2.1
      rw [NJ]
    have xR : ∀ c i, ¬ (c = 0 ∧ (i = 10 ∨ i = 11)) → (uI (uR (uR N 0 10 S) 0 11 L) 0 15 (zI 0)).2.2 c i = M'.2.2 c i := fun c i q => by
      show (uR (uR N 0 10 S) 0 11 L).2.2 c i = _
      rw [uR_o (by omega), uR_o (by omega), NJ]
    have xR10 : (uI (uR (uR N 0 10 S) 0 11 L) 0 15 (zI 0)).2.2 0 10 = S := by
      show (uR (uR N 0 10 S) 0 11 L).2.2 0 10 = S
      rw [uR_o (by omega), uR_s]
    have xR11 : (uI (uR (uR N 0 10 S) 0 11 L) 0 15 (zI 0)).2.2 0 11 = L := by
      show (uR (uR N 0 10 S) 0 11 L).2.2 0 11 = L
      rw [uR_s]
    generalize (uI (uR (uR N 0 10 S) 0 11 L) 0 15 (zI 0)) = X at *
    have hX : ∀ c i, 227 ≤ c → X.1 c i = M.1 c i := fun c i q => by rw [hX1 _ _ (by omega), a3 c i (by omega) (by omega) (by omega)]
    obtain ⟨X', b2, b6, b7, b8, b9, b10, b11⟩ := second X hX
    rcases b11 with ⟨-, ⟨b', hB⟩, z12, z4, z5⟩ | ⟨rb, -, -⟩
    · -- the reference's copy
      have hB1 := hB.1
      have hl2 := hB.2.1.1
      have y0 : uI (uI X' 227 10 (zI 0)) 227 11 (zI (-1)) = cs (jw (uI (uI X' 227 10 (zI 0)) 227 11 (zI (-1))) (fun z => X'.2.1 235 z.toNat)) b' := by
        have j := jw_ex (uI (uI X' 227 10 (zI 0)) 227 11 (zI (-1)))
        have e : (fun z : Int => (uI (uI X' 227 10 (zI 0)) 227 11 (zI (-1))).2.1 235 z.toNat) = (fun z => X'.2.1 235 z.toNat) := rfl
        rw [e] at j
        rw [← j]
        refine Prod.ext ?_ rfl
        funext a k
        simp only [cs]
        by_cases w : a = 232
        · rw [if_pos w, w, uI_o (by omega), uI_o (by omega)]; exact hB1 k
        · rw [if_neg w]
      have cp := m_copy (b := b') (W := fun z => X'.2.1 235 z.toNat) (p := 4) (q := 0) (n := n) (X := uI (uI X' 227 10 (zI 0)) 227 11 (zI (-1))) (by omega) (by omega) (by omega) (by omega) (by omega) (by omega)
      rw [← y0] at cp
      generalize hY : cs (jw (uI (uI X' 227 10 (zI 0)) 227 11 (zI (-1))) (cpW (fun z => X'.2.1 235 z.toNat) 4 0)) (cpB b' 4 0) = Y at cp
      have Y1 : ∀ c i, ¬ c = 232 → ¬ (c = 227 ∧ (i = 10 ∨ i = 11)) → Y.1 c i = X'.1 c i := fun c i q w => by
        rw [← hY, cs_o q]
        show (uI (uI X' 227 10 (zI 0)) 227 11 (zI (-1))).1 c i = _
        rw [uI_o (by omega), uI_o (by omega)]
      have Yr : ∀ k : Nat, Y.1 232 k = zI (cpB b' 4 0 k) := fun k => by
        rw [← hY]
        have t := cs_c (M := jw (uI (uI X' 227 10 (zI 0)) 227 11 (zI (-1))) (cpW (fun z => X'.2.1 235 z.toNat) 4 0)) (b := cpB b' 4 0) (z := (k : Int)) (by omega)
        rw [Int.toNat_natCast] at t
        exact t
      have Y10 : Y.1 227 10 = zI 0 := by
        rw [← hY, cs_o (by omega)]
        show (uI (uI X' 227 10 (zI 0)) 227 11 (zI (-1))).1 227 10 = _
        rw [uI_o (by omega), uI_s]
      have Y11 : Y.1 227 11 = zI (-1) := by
        rw [← hY, cs_o (by omega)]
        show (uI (uI X' 227 10 (zI 0)) 227 11 (zI (-1))).1 227 11 = _
        rw [uI_s]
      have YJ : ∀ c i, ¬ c = 235 → Y.2.1 c i = X'.2.1 c i := fun c i q => by
        rw [← hY]
        show (jw (uI (uI X' 227 10 (zI 0)) 227 11 (zI (-1))) (cpW (fun z => X'.2.1 235 z.toNat) 4 0)).2.1 c i = _
        rw [jw_o q]
        rfl
      have YW : ∀ k : Nat, Y.2.1 235 k = cpW (fun z => X'.2.1 235 z.toNat) 4 0 k := fun k => by
        rw [← hY]
        show (jw (uI (uI X' 227 10 (zI 0)) 227 11 (zI (-1))) (cpW (fun z => X'.2.1 235 z.toNat) 4 0)).2.1 235 k = _
        have t := jw_s (M := uI (uI X' 227 10 (zI 0)) 227 11 (zI (-1))) (W := cpW (fun z => X'.2.1 235 z.toNat) 4 0) (z := (k : Int)) (by omega)
        rw [Int.toNat_natCast] at t
        exact t
      have YR : Y.2.2 = X'.2.2 := by rw [← hY]; rfl
      have hans : Y.1 232 2 = M'.1 S 10 := by
        rw [Yr 2, hB.2.2.1.2.2.1, sh_at (by omega) (by omega)]
        unfold cpB
        rw [if_pos (by omega)]
        rfl
      have mo : f_X12_land n 227 (zI E) X = some (M'.1 S 10, Y) := by
        rw [b2]
        unfold mL f_X12_isWell
        have g12 : (uI X' 227 10 (zI 0)).1 227 12 = zI 0 := by rw [uI_o (by omega)]; exact z12
        have g12b : (uI (uI X' 227 10 (zI 0)) 227 11 (zI (-1))).1 227 12 = zI 0 := by rw [uI_o (by omega)]; exact g12
        simp (disch := first | omega | assumption) only [↓lt, ↓reduceIte, zl, z12, g12, g12b, zneg, Int.reduceNeg, zeqT, if_true, zeqF, if_false]
        rw [cp, Option.bind_some, if_pos (by decide)]
        exact congrArg some (Prod.ext hans rfl)
      refine ⟨M'.1 S 10, X, Y, by rw [cls, No _ _ (by omega)], mo, ?_⟩
      have f1 : ∀ c i, ¬ c = 5 → ¬ (S ≤ c ∧ c < S + 38 ∧ ¬ (S + 8 ≤ c ∧ c < S + 14)) → ¬ c = P → ¬ (c = 0 ∧ (i = 13 ∨ i = 15 ∨ i = 16 ∨ i = 17)) → ¬ (c = 227 ∧ (i ≤ 1 ∨ (8 ≤ i ∧ i ≤ 18) ∨ i = 25 ∨ i = 26)) → ¬ c = 232 → Y.1 c i = M.1 c i := fun c i w1 w2 w3 w4 w5 w6 => by
        rw [Y1 c i w6 (by omega), b6 c i (by omega) (by omega), hX1 c i w4, a3 c i w1 w2 w3]
      have f5 : ∀ k, 562 ≤ k → k < 2248 → Y.1 232 k = M.1 232 k := fun k u v => by
        rw [Yr k]
        unfold cpB
        rw [if_neg (by omega), ← hB1 k, b6 _ _ (by omega) (by omega), hX _ _ (by omega)]
      refine land_good (M' := M') (X' := X') hP hS hP7 hrow hL hC ⟨fun c i w1 w2 w3 w4 w5 w6 => ?_, fun c i w1 w2 w3 w4 => ?_⟩ (fun c i w1 w2 => ?_) (by rw [YR, b8]; exact xR10) (by rw [YR, b8]; exact xR11) hB rS7 (fun c i u v => ?_) (fun c i u v => ?_) (fun k hk => ?_) f5 (fun k hk => ?_) ?_ ?_ ?_ ?_ ?_
      · by_cases q : c = 232
        · rw [q]; exact f5 i (by omega) (by omega)
        · exact f1 c i w1 w2 w3 w4 w5 q
      · by_cases q : c = 235
        · rw [q, YW i]
          unfold cpW
          rw [if_neg (by omega)]
          show X'.2.1 235 (i : Int).toNat = _
          rw [Int.toNat_natCast, b7 _ _ (by omega) (by omega), xJ, a4 _ _ (by omega) (by omega)]
        · rw [YJ c i q, b7 c i (by omega) (by omega), xJ, a4 c i w1 w2]
      · rw [YR, b8, xR c i w2, a5 c i w1]
      · rw [Y1 c i (by omega) (by omega), b6 c i (by omega) (by omega), hX1 c i (by omega)]
      · rw [YJ c i (by omega), b7 c i (by omega) (by omega), xJ]
      · rw [Yr k, hB1]
        unfold cpB
        rw [if_pos (by omega), show (k : Int) - 562 * 0 + 562 * 4 = ((k + 2248 : Nat) : Int) by omega]
      · rw [YW k]
        unfold cpW
        rw [if_pos (by omega)]
        show X'.2.1 235 ((k : Int) - 16 * 0 + 16 * 4).toNat = _
        rw [show ((k : Int) - 16 * 0 + 16 * 4).toNat = k + 64 by omega]
      · rw [Y1 _ _ (by omega) (by omega), b6 _ _ (by omega) (by omega)]; exact x13
      · rw [Y1 _ _ (by omega) (by omega)]; exact b10
      · rw [Y10, Y1 _ _ (by omega) (by omega), b6 _ _ (by omega) (by omega), x16, z4]
      · rw [Y11, Y1 _ _ (by omega) (by omega), b6 _ _ (by omega) (by omega), x17, z5]
      · rw [Y1 0 _ (by omega) (by omega), b6 0 _ (by omega) (by omega), x15, Y1 _ _ (by omega) (by omega), b9]
    · exact absurd (ra.symm.trans rb) (by decide)
  · -- a fault
    rw [ra, if_pos (by decide)] at cls
    have hX1 : ∀ c i, ¬ (c = 0 ∧ (i = 13 ∨ i = 15 ∨ i = 16 ∨ i = 17)) → (uI N 0 15 (zI 10)).1 c i = M'.1 c i := fun c i q => by
      rw [uI_o (by omega)]; exact No c i (by omega)
    have x15 : (uI N 0 15 (zI 10)).1 0 15 = zI 10 := uI_s
    have x13 : (uI N 0 15 (zI 10)).1 0 13 = zI 0 := by rw [uI_o (by omega)]; exact N13
    have x16 : (uI N 0 15 (zI 10)).1 0 16 = M'.1 5 4 := by rw [uI_o (by omega)]; exact N16
    have x17 : (uI N 0 15 (zI 10)).1 0 17 = M'.1 5 5 := by rw [uI_o (by omega)]; exact N17
    have xJ : (uI N 0 15 (zI 10)).2 = M'.2 := by
      show N.2 = M'.2
      rw [NJ]
    generalize (uI N 0 15 (zI 10)) = X at *
    have hX : ∀ c i, 227 ≤ c → X.1 c i = M.1 c i := fun c i q => by rw [hX1 _ _ (by omega), a3 c i (by omega) (by omega) (by omega)]
    obtain ⟨X', b2, b6, b7, b8, b9, b10, b11⟩ := second X hX
    rcases b11 with ⟨rb, -⟩ | ⟨-, ⟨f, f1, f2, f4, f12, f13⟩, h01⟩
    · exact absurd (ra.symm.trans rb) (by decide)
    · have mo : f_X12_land n 227 (zI E) X = some (zI (-1), uI (uI (uI X' 227 10 (zI f)) 227 11 (X'.1 227 13)) 227 0 (zI 10)) := by
        rw [b2]
        unfold mL f_X12_isWell
        have g12 : (uI X' 227 10 (zI f)).1 227 12 = zI f := by rw [uI_o (by omega)]; exact f12
        have g13 : (uI X' 227 10 (zI f)).1 227 13 = X'.1 227 13 := uI_o (by omega)
        have g12b : (uI (uI X' 227 10 (zI f)) 227 11 (X'.1 227 13)).1 227 12 = zI f := by rw [uI_o (by omega)]; exact g12
        simp (disch := first | omega | assumption) only [↓lt, ↓reduceIte, zl, f12, g12, g13, g12b, zneg, Int.reduceNeg, zeqT, if_true, zeqF, if_false, f_X12_no]
      have Y1 : ∀ c i, ¬ (c = 227 ∧ (i = 0 ∨ i = 10 ∨ i = 11)) → (uI (uI (uI X' 227 10 (zI f)) 227 11 (X'.1 227 13)) 227 0 (zI 10)).1 c i = X'.1 c i := fun c i q => by
        rw [uI_o (by omega), uI_o (by omega), uI_o (by omega)]
      have Y0 : (uI (uI (uI X' 227 10 (zI f)) 227 11 (X'.1 227 13)) 227 0 (zI 10)).1 227 0 = zI 10 := uI_s
      have Y10 : (uI (uI (uI X' 227 10 (zI f)) 227 11 (X'.1 227 13)) 227 0 (zI 10)).1 227 10 = zI f := by rw [uI_o (by omega), uI_o (by omega), uI_s]
      have Y11 : (uI (uI (uI X' 227 10 (zI f)) 227 11 (X'.1 227 13)) 227 0 (zI 10)).1 227 11 = X'.1 227 13 := by rw [uI_o (by omega), uI_s]
      have YJ : (uI (uI (uI X' 227 10 (zI f)) 227 11 (X'.1 227 13)) 227 0 (zI 10)).2 = X'.2 := rfl
      generalize (uI (uI (uI X' 227 10 (zI f)) 227 11 (X'.1 227 13)) 227 0 (zI 10)) = Y at *
      refine ⟨zI (-1), X, Y, cls, mo, ?_⟩
      refine land_bad hP hS hP7 hrow hL hC ⟨fun c i w1 w2 w3 w4 w5 w6 => ?_, fun c i w1 w2 w3 w4 => ?_⟩ (fun c i w => ?_) (fun k hk => ?_) (fun k hk => ?_) ?_ ?_ ?_ ?_ ?_ ?_
      · rw [Y1 c i (by omega), b6 c i (by omega) (by omega), hX1 c i w4, a3 c i w1 w2 w3]
      · rw [YJ, b7 c i w3 (by omega), xJ, a4 c i w1 w2]
      · rw [YJ, b8, xJ, a5 c i w]
      · rw [Y1 _ _ (by omega), b6 _ _ (by omega) (by omega), hX _ _ (by omega)]
      · rw [YJ, b7 _ _ (by omega) (by omega), xJ, a4 _ _ (by omega) (by omega)]
      · rw [Y1 _ _ (by omega), b6 _ _ (by omega) (by omega)]; exact x13
      · rw [Y1 _ _ (by omega)]; exact b10
      · rw [Y10, Y1 _ _ (by omega), b6 _ _ (by omega) (by omega), x16, f4]
      · rw [Y11, f13, Y1 _ _ (by omega), b6 _ _ (by omega) (by omega), x17]
      · exact P01_of (fun a k u v => by rw [Y1 _ _ (by omega), b6 _ _ (by omega) (by omega), hX1 _ _ (by omega)]) h01
      · rw [Y1 0 _ (by omega), b6 0 _ (by omega) (by omega), x15, Y0]
