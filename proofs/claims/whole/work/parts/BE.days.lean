/-! ===== days: k_days ===== -/
theorem c_keepFault8 {M : KM} : f_X11_keepFault 0 8 M = uI (uI (uI M 0 13 (zI 0)) 0 16 (M.1 8 4)) 0 17 (M.1 8 5) := by
  unfold f_X11_keepFault
  simp only [lt]
  rw [uI_o (show ¬ (8 = 0 ∧ 4 = 13) by omega), uI_o (show ¬ (8 = 0 ∧ 5 = 16) by omega), uI_o (show ¬ (8 = 0 ∧ 5 = 13) by omega)]
  rfl
theorem k_days (p : Int32) (n : Nat) (hn : 2200 ≤ n) : OKm (f_X11_days n 0 p) (f_X12_days n 227 p) := by
  intro M hI
  obtain ⟨L, b, hP, hM, hL, hC, hs⟩ := Inv_ex hI
  have hrow : ∀ k : Nat, M.1 232 k = zI (b k) := fun k => by
    have := congrFun (congrFun (congrArg Prod.fst hM) 232) k
    rw [this]
    have t := cs_c (M := M) (b := b) (z := (k : Int)) (by omega)
    rw [Int.toNat_natCast] at t
    exact t
  obtain ⟨E, q1, q2, rfl⟩ := z_ex p
  have hC2 := hC
  obtain ⟨-, -, -, ⟨tp, tp0, tp9, h13, h8⟩, -⟩ := hC2
  have refuse : (E < 0 ∨ tp < E ∨ 300 < E) → ∃ r M1 M2, f_X11_days n 0 (zI E) M = some (r, M1) ∧ f_X12_days n 227 (zI E) M1 = some (r, M2) ∧ Inv M2 := fun w => by
    refine ⟨zI (-1), uI M 0 15 (zI 5), cs (uI (uI (uI M 0 15 (zI 5)) 227 1 (zI 0)) 227 0 (zI 5)) b, ?_, ?_, st_no hP hM hL hC⟩
    · unfold f_X11_days
      by_cases w0 : E < 0
      · simp (disch := first | omega | assumption) only [↓lt, ↓reduceIte, zl, zltT, f_X11_refuse, zneg, Int.reduceNeg]
      · by_cases w1 : tp < E
        · simp (disch := first | omega | assumption) only [↓lt, ↓reduceIte, zl, zltF, zltT, h13, f_X11_refuse, zneg, Int.reduceNeg]
        · simp (disch := first | omega | assumption) only [↓lt, ↓reduceIte, zl, zltF, h13, zleF, if_false, f_X11_refuse, zneg, Int.reduceNeg]
    · have e : uI M 0 15 (zI 5) = cs (uI M 0 15 (zI 5)) b := cs_row hM (fun k => uI_o (by omega))
      have h8' : (uI (uI (uI M 0 15 (zI 5)) 227 1 (zI 0)) 227 0 (zI 0)).1 227 8 = zI tp := by rw [uI_o (by omega), uI_o (by omega), uI_o (by omega)]; exact h8
      have st : f_X12_starts n 227 (zI E) (300 : Int32) (uI (uI (uI M 0 15 (zI 5)) 227 1 (zI 0)) 227 0 (zI 0)) = some (zI 0, uI (uI (uI (uI M 0 15 (zI 5)) 227 1 (zI 0)) 227 0 (zI 0)) 227 0 (zI 5)) := by
        unfold f_X12_starts
        by_cases w0 : E < 0
        · simp (disch := first | omega | assumption) only [↓lt, ↓reduceIte, zl, zltT, f_X12_no]
        · by_cases w1 : tp < E
          · simp (disch := first | omega | assumption) only [↓lt, ↓reduceIte, zl, zltF, h8', zltT, f_X12_no]
          · simp (disch := first | omega | assumption) only [↓lt, ↓reduceIte, zl, zltF, h8', zleF, f_X12_no]
      rw [m_days_eq, show f_X12_starts n 227 (zI E) (300 : Int32) (uI (uI (uI M 0 15 (zI 5)) 227 1 (0 : Int32)) 227 0 (0 : Int32)) = _ from st, Option.bind_some, if_pos (show zI 0 = 0 by decide), uI_tw]
      have e2 := cs_row (N := uI (uI (uI M 0 15 (zI 5)) 227 1 (zI 0)) 227 0 (zI 5)) e (fun k => by rw [uI_o (by omega), uI_o (by omega)])
      rw [← e2]
      rfl
  by_cases w0 : E < 0
  · exact refuse (Or.inl w0)
  by_cases w1 : tp < E
  · exact refuse (Or.inr (Or.inl w1))
  by_cases w2 : 300 < E
  · exact refuse (Or.inr (Or.inr w2))
  clear refuse
  have hi := hP
  unfold Ptr at hi
  have SL : L = 23 ∨ L = 61 := by omega
  obtain ⟨P, hP12⟩ : ∃ P, M.2.2 0 12 = P := ⟨_, rfl⟩
  obtain ⟨Q, hQ⟩ : ∃ Q, M.2.2 L 7 = Q := ⟨_, rfl⟩
  have hPS : P = 31 ∨ P = 69 ∨ P = 99 := by omega
  have h10 : M.2.2 0 10 = L := hi.1
  clear hi
  obtain ⟨r, M', X1, a1, a2, a3, a4, a5, a6, a7, a8, a9, a10, a11⟩ := days_run (X := M) (L := L) (P := P) (E := E) (tp := tp) (n := n) SL hPS hL hC (by omega) (by omega) (by omega) tp9 h8 (fun _ _ => rfl) hrow (fun _ => rfl) hn
  have ar : r = zI 1 ∨ r = zI 0 := by
    rcases a11 with a11 | a11
    · exact Or.inl a11.1
    · exact Or.inr a11.1
  clear a2 a6 a7 a8 a9 a10 a11 X1
  generalize hN : uI (uI (uI M' 0 13 (zI 0)) 0 16 (M'.1 8 4)) 0 17 (M'.1 8 5) = N
  have kf : f_X11_keepFault 0 8 M' = N := by rw [c_keepFault8, hN]
  have No : ∀ c i, ¬ (c = 0 ∧ (i = 13 ∨ i = 16 ∨ i = 17)) → N.1 c i = M'.1 c i := fun c i q => by rw [← hN, uI_o (by omega), uI_o (by omega), uI_o (by omega)]
  have N13 : N.1 0 13 = zI 0 := by rw [← hN, uI_o (by omega), uI_o (by omega), uI_s]
  have N16 : N.1 0 16 = M'.1 8 4 := by rw [← hN, uI_o (by omega), uI_s]
  have N17 : N.1 0 17 = M'.1 8 5 := by rw [← hN, uI_s]
  have NJ : N.2 = M'.2 := by rw [← hN]; rfl
  have r10 : M'.2.2 0 10 = L := by rw [a5 _ _ (by omega)]; exact h10
  have r12 : M'.2.2 0 12 = P := by rw [a5 _ _ (by omega)]; exact hP12
  have r7 : M'.2.2 L 7 = Q := by rw [a5 _ _ (by omega)]; exact hQ
  have second : ∀ X : KM, (∀ c i, 227 ≤ c → X.1 c i = M.1 c i) → (∀ k, X.2.1 235 k = M.2.1 235 k) → ∃ X', f_X12_days n 227 (zI E) X = mD n X' ∧
      (∀ c i : Nat, ¬ (c = 227 ∧ (i ≤ 1 ∨ i = 8 ∨ i = 9 ∨ (12 ≤ i ∧ i ≤ 18) ∨ i = 27)) → ¬ (c = 232 ∧ 2540 ≤ i) → X'.1 c i = X.1 c i) ∧ (∀ c i, ¬ (c = 227 ∧ i = 19) → X'.2.1 c i = X.2.1 c i) ∧ X'.2.2 = X.2.2 ∧ X'.1 227 0 = zI 0 ∧ X'.1 227 8 = zI 0 ∧
      ((r = zI 1 ∧ X'.1 227 12 = zI 0 ∧ M'.1 8 4 = zI 0 ∧ M'.1 8 5 = zI (-1) ∧ M'.1 P 7 = zI 1 ∧ ∃ (b' : Int → Int) (e j : Int) (q : Nat), (∀ k : Nat, X'.1 232 k = zI (b' k)) ∧ X'.1 227 27 = zI e ∧ M'.1 P 6 = zI e ∧ M'.1 P 5 = zI j ∧ 0 ≤ e ∧ e ≤ 30 ∧ 0 ≤ j ∧ j ≤ 60 ∧ (∀ z, z < 2540 → b' z = b z) ∧ PRB M' P (dcB b') q 3 0 e 0 j) ∨ (r = zI 0 ∧ BD 8 M' X')) := fun X hX hW => by
    obtain ⟨r', M2, X', b1, b2, b3, b4, b5, b6, b7, b8, b9, b10, b11⟩ := days_run (X := X) (L := L) (P := P) (E := E) (tp := tp) (n := n) SL hPS hL hC (by omega) (by omega) (by omega) tp9 (by rw [hX _ _ (by omega)]; exact h8) (fun k hk => hX _ _ (by omega)) (fun k => by rw [hX _ _ (by omega)]; exact hrow k) hW hn
    rw [a1] at b1
    have e := Prod.mk.inj (Option.some.inj b1)
    rw [← e.1, ← e.2] at b11
    exact ⟨X', b2, b6, b7, b8, b9, b10, b11⟩
  have cls : f_X11_days n 0 (zI E) M = if r = 0 then some (zI (-1), uI N 0 15 (zI 10)) else some (N.1 P 6, uI (uR (uR N L 7 P) 0 12 Q) 0 15 (zI 0)) := by
    unfold f_X11_days
    rw [show f_X0_readInto n (0 + 8) (M.2.2 0 12) (M.2.2 0 10) (0 + 2) (zI E) M = some (r, M') by rw [hP12, h10]; exact a1, h13]
    simp (disch := first | omega | assumption) only [↓lt, ↓reduceIte, zl, zltF, zleT, if_true, Option.bind_some, Nat.zero_add, kf]
    by_cases q : r = zI 0
    · rw [if_pos q, if_pos q]
      simp only [f_X11_refuse, lt, zneg, zl, Int.reduceNeg]
    · rw [if_neg q, if_neg q]
      have g1 : N.2.2 0 10 = L := by rw [NJ]; exact r10
      have g2 : N.2.2 0 12 = P := by rw [NJ]; exact r12
      have g4 : N.2.2 L 7 = Q := by rw [NJ]; exact r7
      rw [g1, g2, g4]
      have g3 : (uR (uR N L 7 P) 0 12 Q).2.2 0 10 = L := by rw [uR_o (by omega), uR_o (by omega)]; exact g1
      have g5 : (uR (uR N L 7 P) 0 12 Q).2.2 L 7 = P := by rw [uR_o (by omega), uR_s]
      rw [g3, g5]
      simp only [f_X11_tell, lt, zl, uR_i]
  rcases ar with ra | ra
  · -- taken
    rw [ra, if_neg (by decide)] at cls
    have hX1 : ∀ c i, ¬ (c = 0 ∧ (i = 13 ∨ i = 15 ∨ i = 16 ∨ i = 17)) → (uI (uR (uR N L 7 P) 0 12 Q) 0 15 (zI 0)).1 c i = M'.1 c i := fun c i q => by
      rw [uI_o (by omega), uR_i, uR_i]; exact No c i (by omega)
    have x15 : (uI (uR (uR N L 7 P) 0 12 Q) 0 15 (zI 0)).1 0 15 = zI 0 := uI_s
    have x13 : (uI (uR (uR N L 7 P) 0 12 Q) 0 15 (zI 0)).1 0 13 = zI 0 := by rw [uI_o (by omega), uR_i, uR_i]; exact N13
    have x16 : (uI (uR (uR N L 7 P) 0 12 Q) 0 15 (zI 0)).1 0 16 = M'.1 8 4 := by rw [uI_o (by omega), uR_i, uR_i]; exact N16
    have x17 : (uI (uR (uR N L 7 P) 0 12 Q) 0 15 (zI 0)).1 0 17 = M'.1 8 5 := by rw [uI_o (by omega), uR_i, uR_i]; exact N17
    have xJ : (uI (uR (uR N L 7 P) 0 12 Q) 0 15 (zI 0)).2.1 = M'.2.1 := by
      show N.2.1 = M'.2.1
      rw [NJ]
    have xR : ∀ c i, ¬ (c = L ∧ i = 7) → ¬ (c = 0 ∧ i = 12) → (uI (uR (uR N L 7 P) 0 12 Q) 0 15 (zI 0)).2.2 c i = M'.2.2 c i := fun c i q1 q2 => by
      show (uR (uR N L 7 P) 0 12 Q).2.2 c i = _
      rw [uR_o q2, uR_o q1, NJ]
    have xR7 : (uI (uR (uR N L 7 P) 0 12 Q) 0 15 (zI 0)).2.2 L 7 = P := by
      show (uR (uR N L 7 P) 0 12 Q).2.2 L 7 = P
      rw [uR_o (by omega), uR_s]
    have xR12 : (uI (uR (uR N L 7 P) 0 12 Q) 0 15 (zI 0)).2.2 0 12 = Q := by
      show (uR (uR N L 7 P) 0 12 Q).2.2 0 12 = Q
      rw [uR_s]
    generalize (uI (uR (uR N L 7 P) 0 12 Q) 0 15 (zI 0)) = X at *
    have hX : ∀ c i, 227 ≤ c → X.1 c i = M.1 c i := fun c i q => by rw [hX1 _ _ (by omega), a3 c i (by omega) (by omega) (by omega)]
    obtain ⟨X', b2, b6, b7, b8, b9, b10, b11⟩ := second X hX (fun k => by rw [xJ]; exact a4 _ _ (by omega))
    rcases b11 with ⟨-, z12, z4, z5, z7, b', e, j, q, y1, y2, y3, y4, y5, y6, y7, y8, y9, y10⟩ | ⟨rb, -⟩
    · -- the reference's copy
      have g12 : (uI X' 227 10 (zI 0)).1 227 12 = zI 0 := by rw [uI_o (by omega)]; exact z12
      have g12b : (uI (uI X' 227 10 (zI 0)) 227 11 (zI (-1))).1 227 12 = zI 0 := by rw [uI_o (by omega)]; exact g12
      have yrow : uI (uI (uI (uI X' 227 10 (zI 0)) 227 11 (zI (-1))) 232 290 (zI 1)) 232 291 (zI e) = cs (uI (uI X' 227 10 (zI 0)) 227 11 (zI (-1))) (bu (bu b' 290 1) 291 e) := by
        have y0 : uI (uI X' 227 10 (zI 0)) 227 11 (zI (-1)) = cs (uI (uI X' 227 10 (zI 0)) 227 11 (zI (-1))) b' := by
          refine Prod.ext ?_ rfl
          funext a k
          simp only [cs]
          by_cases w : a = 232
          · rw [if_pos w, w, uI_o (by omega), uI_o (by omega)]; exact y1 k
          · rw [if_neg w]
        have c1 := cu_c (M := uI (uI X' 227 10 (zI 0)) 227 11 (zI (-1))) (b := b') (e := 290) (v := 1) (by omega)
        have c2 := cu_c (M := uI (uI X' 227 10 (zI 0)) 227 11 (zI (-1))) (b := bu b' 290 1) (e := 291) (v := e) (by omega)
        rw [← c2, ← c1, ← y0]
        rfl
      have x27 : (uI (uI X' 227 10 (zI 0)) 227 11 (zI (-1))).1 227 27 = zI e := by rw [uI_o (by omega), uI_o (by omega)]; exact y2
      have x27b : (uI (uI (uI X' 227 10 (zI 0)) 227 11 (zI (-1))) 232 290 (zI 1)).1 227 27 = zI e := by rw [uI_o (by omega)]; exact x27
      have dy := m_days82 (X := uI (uI X' 227 10 (zI 0)) 227 11 (zI (-1))) (b := bu (bu b' 290 1) 291 e) (e := e) (n := n) x27 y5 y6 (by omega)
      have fz := fun z => fI_dy (9 * e).toNat 0 (bu (bu b' 290 1) 291 e) z (by omega) (by omega)
      generalize fI (fun i w => bu w (292 + i) (w (2540 + i))) (9 * e).toNat 0 (bu (bu b' 290 1) 291 e) = W at dy fz
      have mo : f_X12_days n 227 (zI E) X = some (zI e, cs (uI (uI X' 227 10 (zI 0)) 227 11 (zI (-1))) W) := by
        rw [b2]
        unfold mD f_X12_isWell
        simp (disch := first | omega | assumption) only [↓lt, ↓reduceIte, zl, z12, g12, g12b, zneg, Int.reduceNeg, zeqT, if_true, zeqF, if_false]
        rw [if_pos (by decide), if_pos (by decide)]
        have n0 : (zI 290).toNatClampNeg = 290 := by decide
        have n1 : (zI 291).toNatClampNeg = 291 := by decide
        rw [n0, n1, x27b, yrow]
        exact dy
      have hWr : ∀ k : Nat, (cs (uI (uI X' 227 10 (zI 0)) 227 11 (zI (-1))) W).1 232 k = zI (W k) := fun k => by
        have t := cs_c (M := uI (uI X' 227 10 (zI 0)) 227 11 (zI (-1))) (b := W) (z := (k : Int)) (by omega)
        rw [Int.toNat_natCast] at t
        exact t
      have Y1 : ∀ c i, ¬ c = 232 → ¬ (c = 227 ∧ (i = 10 ∨ i = 11)) → (cs (uI (uI X' 227 10 (zI 0)) 227 11 (zI (-1))) W).1 c i = X'.1 c i := fun c i q w => by
        rw [cs_o q, uI_o (by omega), uI_o (by omega)]
      have Y10 : (cs (uI (uI X' 227 10 (zI 0)) 227 11 (zI (-1))) W).1 227 10 = zI 0 := by rw [cs_o (by omega), uI_o (by omega), uI_s]
      have Y11 : (cs (uI (uI X' 227 10 (zI 0)) 227 11 (zI (-1))) W).1 227 11 = zI (-1) := by rw [cs_o (by omega), uI_s]
      have YJ : (cs (uI (uI X' 227 10 (zI 0)) 227 11 (zI (-1))) W).2 = X'.2 := rfl
      generalize (cs (uI (uI X' 227 10 (zI 0)) 227 11 (zI (-1))) W) = Y at *
      have Wlo : ∀ z, ¬ z = 290 → ¬ z = 291 → ¬ (292 ≤ z ∧ z < 292 + 9 * e) → W z = b' z := fun z h1 h2 h3 => by
        rw [fz z, if_neg (by omega), bu_o h2, bu_o h1]
      refine ⟨zI e, X, Y, by rw [cls, No _ _ (by omega), y3], mo, ?_⟩
      refine days_good (M' := M') (b9 := b') (q := q) hP hP12 hQ hrow hL hC ⟨fun c i w1 w2 w3 w4 w5 w6 => ?_, fun c i w1 w2 => ?_⟩ (fun c i w1 w2 w3 => ?_) (by rw [YJ, b8]; exact xR7) (by rw [YJ, b8]; exact xR12) ⟨y5, y6⟩ ⟨y7, y8⟩ (fun a k u v => ?_) y4 y3 z7 y10 y9 ?_ ?_ (fun k u v => ?_) (fun k u1 u2 u3 u4 => ?_) ?_ ?_ ?_ ?_ ?_
      · rw [Y1 c i w6 (by omega), b6 c i (by omega) (by omega), hX1 c i w4, a3 c i w1 w2 w3]
      · rw [YJ, b7 c i w2, xJ, a4 c i w1]
      · rw [YJ, b8, xR c i w2 w3, a5 c i w1]
      · rw [Y1 _ _ (by omega) (by omega), b6 _ _ (by omega) (by omega), hX1 _ _ (by omega)]
      · rw [hWr 290, fz, if_neg (by omega), bu_o (by omega)]; exact congrArg zI bu_s
      · rw [hWr 291, fz, if_neg (by omega)]; exact congrArg zI bu_s
      · rw [hWr k, fz, if_pos (by omega), bu_o (by omega), bu_o (by omega), show (k : Int) + 2248 = 2248 + k by omega]
      · rw [hWr k, Wlo _ (by omega) (by omega) (by omega), y9 _ (by omega)]; exact (hrow k).symm
      · rw [Y1 _ _ (by omega) (by omega), b6 _ _ (by omega) (by omega)]; exact x13
      · rw [Y1 _ _ (by omega) (by omega)]; exact b10
      · rw [Y10, Y1 _ _ (by omega) (by omega), b6 _ _ (by omega) (by omega), x16, z4]
      · rw [Y11, Y1 _ _ (by omega) (by omega), b6 _ _ (by omega) (by omega), x17, z5]
      · rw [Y1 0 _ (by omega) (by omega), b6 0 _ (by omega) (by omega), x15, Y1 _ _ (by omega) (by omega), b9]
    · exact absurd (ra.symm.trans rb) (by decide)
  · -- a fault
    rw [ra, if_pos (by decide)] at cls
    have hX1 : ∀ c i, ¬ (c = 0 ∧ (i = 13 ∨ i = 15 ∨ i = 16 ∨ i = 17)) → (uI N 0 15 (zI 10)).1 c i = M'.1 c i := fun c i q => by
      rw [uI_o (by omega)]; exact No c i (by omega)
    have x15 : (uI N 0 15 (zI 10)).1 0 15 = zI 10 := uI_s
    have x13 : (uI N 0 15 (zI 10)).1 0 13 = zI 0 := by rw [uI_o (by omega)]; exact N13
    have x16 : (uI N 0 15 (zI 10)).1 0 16 = M'.1 8 4 := by rw [uI_o (by omega)]; exact N16
    have x17 : (uI N 0 15 (zI 10)).1 0 17 = M'.1 8 5 := by rw [uI_o (by omega)]; exact N17
    have xJ : (uI N 0 15 (zI 10)).2 = M'.2 := by
      show N.2 = M'.2
      rw [NJ]
    generalize (uI N 0 15 (zI 10)) = X at *
    have hX : ∀ c i, 227 ≤ c → X.1 c i = M.1 c i := fun c i q => by rw [hX1 _ _ (by omega), a3 c i (by omega) (by omega) (by omega)]
    obtain ⟨X', b2, b6, b7, b8, b9, b10, b11⟩ := second X hX (fun k => by rw [xJ]; exact a4 _ _ (by omega))
    rcases b11 with ⟨rb, -⟩ | ⟨-, ⟨f, f1, f2, f4, f12, f13⟩⟩
    · exact absurd (ra.symm.trans rb) (by decide)
    · have mo : f_X12_days n 227 (zI E) X = some (zI (-1), uI (uI (uI X' 227 10 (zI f)) 227 11 (X'.1 227 13)) 227 0 (zI 10)) := by
        rw [b2]
        unfold mD f_X12_isWell
        have g12 : (uI X' 227 10 (zI f)).1 227 12 = zI f := by rw [uI_o (by omega)]; exact f12
        have g13 : (uI X' 227 10 (zI f)).1 227 13 = X'.1 227 13 := uI_o (by omega)
        have g12b : (uI (uI X' 227 10 (zI f)) 227 11 (X'.1 227 13)).1 227 12 = zI f := by rw [uI_o (by omega)]; exact g12
        simp (disch := first | omega | assumption) only [↓lt, ↓reduceIte, zl, f12, g12, g13, g12b, zneg, Int.reduceNeg, zeqT, if_true, zeqF, if_false, f_X12_no]
      have Y1 : ∀ c i, ¬ (c = 227 ∧ (i = 0 ∨ i = 10 ∨ i = 11)) → (uI (uI (uI X' 227 10 (zI f)) 227 11 (X'.1 227 13)) 227 0 (zI 10)).1 c i = X'.1 c i := fun c i q => by
        rw [uI_o (by omega), uI_o (by omega), uI_o (by omega)]
      have Y0 : (uI (uI (uI X' 227 10 (zI f)) 227 11 (X'.1 227 13)) 227 0 (zI 10)).1 227 0 = zI 10 := uI_s
      have Y10 : (uI (uI (uI X' 227 10 (zI f)) 227 11 (X'.1 227 13)) 227 0 (zI 10)).1 227 10 = zI f := by rw [uI_o (by omega), uI_o (by omega), uI_s]
      have Y11 : (uI (uI (uI X' 227 10 (zI f)) 227 11 (X'.1 227 13)) 227 0 (zI 10)).1 227 11 = X'.1 227 13 := by rw [uI_o (by omega), uI_s]
      have YJ : (uI (uI (uI X' 227 10 (zI f)) 227 11 (X'.1 227 13)) 227 0 (zI 10)).2 = X'.2 := rfl
      generalize (uI (uI (uI X' 227 10 (zI f)) 227 11 (X'.1 227 13)) 227 0 (zI 10)) = Y at *
      refine ⟨zI (-1), X, Y, cls, mo, ?_⟩
      refine days_bad (P := P) hP hP12 hrow hL hC ⟨fun c i w1 w2 w3 w4 w5 w6 => ?_, fun c i w1 w2 => ?_⟩ (fun c i w => ?_) (fun k hk => ?_) ?_ ?_ ?_ ?_ ?_
      · rw [Y1 c i (by omega), b6 c i (by omega) (by omega), hX1 c i w4, a3 c i w1 w2 w3]
      · rw [YJ, b7 c i w2, xJ, a4 c i w1]
      · rw [YJ, b8, xJ, a5 c i w]
      · rw [Y1 _ _ (by omega), b6 _ _ (by omega) (by omega), hX _ _ (by omega)]
      · rw [Y1 _ _ (by omega), b6 _ _ (by omega) (by omega)]; exact x13
      · rw [Y1 _ _ (by omega)]; exact b10
      · rw [Y10, Y1 _ _ (by omega), b6 _ _ (by omega) (by omega), x16, f4]
      · rw [Y11, f13, Y1 _ _ (by omega), b6 _ _ (by omega) (by omega), x17]
      · rw [Y1 0 _ (by omega), b6 0 _ (by omega) (by omega), x15, Y0]
