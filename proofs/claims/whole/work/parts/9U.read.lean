/-! ===== land, days: the next sign, both ===== -/
def kA (n : Nat) (a0 : Nat) (M14 : KM) : Option KM :=
  if (M14.1 a0 3) < (M14.1 a0 2) then
    if ix (M14.1 a0 3) (ktl (kty (M14.2.2 a0 1))) then
    lt ((M14.1 (M14.2.2 a0 1) ((M14.1 a0 3)).toNatClampNeg)) fun (v17 : Int32) =>
    lt ((
      lt ((
        lt (uI M14 a0 8 v17) fun (M18 : KM) =>
        lt (uI M18 a0 3 ((M18.1 a0 3) + (1 : Int32))) fun (M19 : KM) =>
        lt (fun (x20 : Int32) => (
          lt (fun (x21 : Int32) => (
            lt (uI M19 a0 6 x21) fun (M22 : KM) =>
            some M22
          ) : Int32 → Option KM) fun j203 =>
          if x20 = 0 then
            j203 (4 : Int32)
          else
            j203 (3 : Int32)
        ) : Int32 → Option KM) fun j192 =>
        lt ((
          j192 (1 : Int32)
        ) : Option KM) fun j187 =>
        if v17 = (59 : Int32) then
          j187
        else
          if v17 = (60 : Int32) then
            j187
          else
            if v17 = (62 : Int32) then
              j187
            else
              if v17 = (61 : Int32) then
                j187
              else
                j192 (0 : Int32)
      ) : Option KM) fun j148 =>
      if v17 < (48 : Int32) then
        j148
      else
        if (57 : Int32) < v17 then
          j148
        else
          (f_X9_scanNumber n a0 M14).bind fun (v28 : KM) =>
          some v28
    ) : Option KM) fun j129 =>
    if v17 < (97 : Int32) then
      j129
    else
      if (122 : Int32) < v17 then
        j129
      else
        (f_X9_scanWord n a0 M14).bind fun (v31 : KM) =>
        some v31
    else none
  else
    lt (uI M14 a0 6 (0 : Int32)) fun (M34 : KM) =>
    some M34
def kX (n : Nat) (a0 : Nat) (M9 : KM) : Option KM :=
  if (M9.1 a0 15) < (M9.1 a0 9) then
    (f_X12_look2 n a0 (M9.1 a0 15) M9).bind fun (v10 : Int32) =>
    lt (f_X12_isLetter v10 M9) fun (v11 : Int32) =>
    if v11 = 0 then
      lt (f_X12_isDigit v10 M9) fun (v12 : Int32) =>
      if v12 = 0 then
        lt (uI M9 a0 16 ((M9.1 a0 15) + (1 : Int32))) fun (M13 : KM) =>
        lt (uI M13 a0 17 v10) fun (M14 : KM) =>
        lt (f_X12_isSignByte a0 v10 M14) fun (v15 : Int32) =>
        lt (fun (x16 : Int32) => (
          lt (uI M14 a0 14 x16) fun (M17 : KM) =>
          some M17
        ) : Int32 → Option KM) fun j327 =>
        if v15 = 0 then
          j327 (4 : Int32)
        else
          j327 (3 : Int32)
      else
        lt (uI M9 a0 17 (0 : Int32)) fun (M19 : KM) =>
        lp_X12_advance_210 n a0 M19
          (fun (M28 : KM) => (
            lt (fun (x29 : Int32) => (
              lt (uI M28 a0 14 x29) fun (M30 : KM) =>
              some M30
            ) : Int32 → Option KM) fun j292 =>
            if ((M28.1 a0 16) - (M28.1 a0 15)) ≤ (4 : Int32) then
              j292 (2 : Int32)
            else
              j292 (4 : Int32)
          ))
    else
      lt (uI M9 a0 14 (1 : Int32)) fun (M33 : KM) =>
      lt (uJ M33 a0 19 (0 : Int64)) fun (M34 : KM) =>
      lp_X12_advance_109 n a0 M34
        (fun (M43 : KM) => (
          lt (uI M43 a0 18 ((M43.1 a0 16) - (M43.1 a0 15))) fun (M44 : KM) =>
          some M44
        ))
  else
    lt (uI M9 a0 14 (0 : Int32)) fun (M46 : KM) =>
    some M46
theorem bsome {α : Type} (x : Option α) : (x.bind fun v => some v) = x := by cases x <;> rfl
def cRd (M : KM) (a : Nat) (s : Int) : KM := uI (uJ (uI (uI (uI (uI M a 11 (M.1 a 10)) a 3 (zI s)) a 10 (zI s)) a 7 (zI (-1))) a 9 (lI 0)) a 8 (zI 0)
theorem cRd_o {M : KM} {a c i : Nat} {s : Int} (h : ¬ (c = a ∧ (i = 3 ∨ i = 7 ∨ i = 8 ∨ i = 10 ∨ i = 11))) : (cRd M a s).1 c i = M.1 c i := by
  unfold cRd
  rw [uI_o (by omega), uJ_i, uI_o (by omega), uI_o (by omega), uI_o (by omega), uI_o (by omega)]
theorem cRd_j {M : KM} {a c i : Nat} {s : Int} (h : ¬ (c = a ∧ i = 9)) : (cRd M a s).2.1 c i = M.2.1 c i := by
  show (uJ (uI (uI (uI (uI M a 11 (M.1 a 10)) a 3 (zI s)) a 10 (zI s)) a 7 (zI (-1))) a 9 (lI 0)).2.1 c i = _
  rw [uJ_o h]; rfl
theorem cRd_2 {M : KM} {a : Nat} {s : Int} : (cRd M a s).2.2 = M.2.2 := rfl
theorem cRd_v {M : KM} {a : Nat} {s : Int} : (cRd M a s).1 a 3 = zI s ∧ (cRd M a s).1 a 10 = zI s ∧ (cRd M a s).1 a 7 = zI (-1) ∧ (cRd M a s).1 a 8 = zI 0 ∧ (cRd M a s).1 a 11 = M.1 a 10 ∧ (cRd M a s).2.1 a 9 = lI 0 := by
  refine ⟨?_, ?_, ?_, ?_, ?_, ?_⟩
  · unfold cRd; rw [uI_o (by omega), uJ_i, uI_o (by omega), uI_o (by omega), uI_s]
  · unfold cRd; rw [uI_o (by omega), uJ_i, uI_o (by omega), uI_s]
  · unfold cRd; rw [uI_o (by omega), uJ_i, uI_s]
  · unfold cRd; rw [uI_s]
  · unfold cRd; rw [uI_o (by omega), uJ_i, uI_o (by omega), uI_o (by omega), uI_o (by omega), uI_s]
  · exact uJ_s
theorem c_adv0 {T : Int → Int} {E q : Int} {a : Nat} {M : KM} {n : Nat} (ha : a = 5 ∨ a = 8) (h1 : 0 ≤ E) (h2 : E ≤ 900) (r1 : M.2.2 a 1 = 2) (e2 : M.1 a 2 = zI E) (hT : ∀ z, 0 ≤ z → z < 900 → M.1 2 z.toNat = zI (T z) ∧ -128 ≤ T z ∧ T z < 128) (h3 : M.1 a 3 = zI q) (q1 : 0 ≤ q) (q2 : q ≤ E) (hn : 1000 < n) : f_X9_advance n a M = kA n a (cRd M a (skB T E 900 q)) := by
  show lp_X9_advance_8 n a (uI M a 11 (M.1 a 10)) _ = _
  rw [c_skip (T := T) ha h1 h2 900 q _ n (show (uI M a 11 (M.1 a 10)).2.2 a 1 = 2 from r1) (by rw [uI_o (by omega)]; exact e2) (fun z u v => by rw [uI_o (by omega)]; exact hT z u v) (by rw [uI_o (by omega)]; exact h3) q1 q2 (by omega) (by omega)]
  have g : (uI (uI M a 11 (M.1 a 10)) a 3 (zI (skB T E 900 q))).1 a 3 = zI (skB T E 900 q) := uI_s
  rw [g]
  rfl
def xRd (X : KM) (s : Int) : KM := uI (uI X 227 15 (zI s)) 227 16 (zI s)
theorem xRd_o {X : KM} {c i : Nat} {s : Int} (h : ¬ (c = 227 ∧ (i = 15 ∨ i = 16))) : (xRd X s).1 c i = X.1 c i := by
  unfold xRd
  rw [uI_o (by omega), uI_o (by omega)]
theorem m_adv0 {T : Int → Int} {E q : Int} {X : KM} {n : Nat} (h1 : 0 ≤ E) (h2 : E ≤ 900) (e9 : X.1 227 9 = zI E) (hT : ∀ z, 0 ≤ z → z < 900 → X.1 231 z.toNat = zI (T z) ∧ -128 ≤ T z ∧ T z < 128) (h16 : X.1 227 16 = zI q) (q1 : 0 ≤ q) (q2 : q ≤ E) (hn : 1000 < n) : f_X12_advance n 227 X = kX n 227 (xRd X (skB T E 900 q)) := by
  show lp_X12_advance_8 n 227 (uI X 227 15 (X.1 227 16)) _ = _
  rw [m_skip (T := T) h1 h2 900 q _ n (by rw [uI_o (by omega)]; exact e9) (fun z u v => by rw [uI_o (by omega)]; exact hT z u v) (by rw [uI_s]; exact h16) q1 q2 (by omega) (by omega), uI_tw]
  have g : (uI X 227 15 (zI (skB T E 900 q))).1 227 15 = zI (skB T E 900 q) := uI_s
  rw [g]
  rfl
abbrev sgn (t : Int) : Prop := t = 59 ∨ t = 60 ∨ t = 61 ∨ t = 62
theorem kA_end {E s : Int} {a n : Nat} {M : KM} (h1 : 0 ≤ E) (h2 : E ≤ 900) (e2 : M.1 a 2 = zI E) (h3 : M.1 a 3 = zI s) (h : ¬ s < E) (hs : s ≤ E) : kA n a M = some (uI M a 6 (zI 0)) := by
  unfold kA
  simp (disch := first | omega | assumption) only [↓lt, ↓reduceIte, zl, e2, h3, zltF, if_false]
theorem kA_at {T : Int → Int} {E s : Int} {a n : Nat} {M : KM} (h1 : 0 ≤ E) (h2 : E ≤ 900) (hs : 0 ≤ s) (r1 : M.2.2 a 1 = 2) (e2 : M.1 a 2 = zI E) (h3 : M.1 a 3 = zI s) (hT : M.1 2 s.toNat = zI (T s) ∧ -128 ≤ T s ∧ T s < 128) (h : s < E) :
    (97 ≤ T s ∧ T s ≤ 122 → kA n a M = f_X9_scanWord n a M) ∧ (48 ≤ T s ∧ T s ≤ 57 → kA n a M = f_X9_scanNumber n a M) ∧ (¬ (97 ≤ T s ∧ T s ≤ 122) → ¬ (48 ≤ T s ∧ T s ≤ 57) → kA n a M = some (uI (uI (uI M a 8 (zI (T s))) a 3 (zI (s + 1))) a 6 (zI (if sgn (T s) then 3 else 4)))) := by
  obtain ⟨t1, t2, t3⟩ := hT
  have g : (uI M a 8 (zI (T s))).1 a 3 = zI s := by rw [uI_o (by omega)]; exact h3
  refine ⟨fun w => ?_, fun w => ?_, fun w1 w2 => ?_⟩
  · unfold kA
    simp (disch := first | omega | assumption) only [↓lt, ↓reduceIte, zl, e2, h3, r1, tp900, zltT, zltF, ixT, zidx, t1, if_true, if_false, bsome]
  · unfold kA
    simp (disch := first | omega | assumption) only [↓lt, ↓reduceIte, zl, e2, h3, r1, tp900, zltT, zltF, ixT, zidx, t1, if_true, if_false, bsome]
  · have d : (T s < 48) ∨ (57 < T s ∧ T s < 97) ∨ 122 < T s := by omega
    by_cases v : sgn (T s)
    · rw [if_pos v]
      have v' := v
      unfold kA
      rcases v with v | v | v | v
      · rw [v] at t1 g ⊢
        simp (disch := first | omega | assumption) only [↓lt, ↓reduceIte, zl, e2, h3, g, r1, tp900, zltT, zltF, zeqT, zeqF, ixT, zidx, t1, if_true, if_false, zadd]
      · rw [v] at t1 g ⊢
        simp (disch := first | omega | assumption) only [↓lt, ↓reduceIte, zl, e2, h3, g, r1, tp900, zltT, zltF, zeqT, zeqF, ixT, zidx, t1, if_true, if_false, zadd]
      · rw [v] at t1 g ⊢
        simp (disch := first | omega | assumption) only [↓lt, ↓reduceIte, zl, e2, h3, g, r1, tp900, zltT, zltF, zeqT, zeqF, ixT, zidx, t1, if_true, if_false, zadd]
      · rw [v] at t1 g ⊢
        simp (disch := first | omega | assumption) only [↓lt, ↓reduceIte, zl, e2, h3, g, r1, tp900, zltT, zltF, zeqT, zeqF, ixT, zidx, t1, if_true, if_false, zadd]
    · rw [if_neg v]
      have n1 : ¬ T s = 59 := fun q => v (Or.inl q)
      have n2 : ¬ T s = 60 := fun q => v (Or.inr (Or.inl q))
      have n3 : ¬ T s = 61 := fun q => v (Or.inr (Or.inr (Or.inl q)))
      have n4 : ¬ T s = 62 := fun q => v (Or.inr (Or.inr (Or.inr q)))
      unfold kA
      rcases d with d | d | d
      · simp (disch := first | omega | assumption) only [↓lt, ↓reduceIte, zl, e2, h3, g, r1, tp900, zltT, zltF, zeqT, zeqF, ixT, zidx, t1, if_true, if_false, zadd]
      · simp (disch := first | omega | assumption) only [↓lt, ↓reduceIte, zl, e2, h3, g, r1, tp900, zltT, zltF, zeqT, zeqF, ixT, zidx, t1, if_true, if_false, zadd]
      · simp (disch := first | omega | assumption) only [↓lt, ↓reduceIte, zl, e2, h3, g, r1, tp900, zltT, zltF, zeqT, zeqF, ixT, zidx, t1, if_true, if_false, zadd]
theorem kX_end {E s : Int} {n : Nat} {X : KM} (h1 : 0 ≤ E) (h2 : E ≤ 900) (e9 : X.1 227 9 = zI E) (h15 : X.1 227 15 = zI s) (h : ¬ s < E) (hs : s ≤ E) : kX n 227 X = some (uI X 227 14 (zI 0)) := by
  unfold kX
  simp (disch := first | omega | assumption) only [↓lt, ↓reduceIte, zl, e9, h15, zltF, if_false]
theorem m_isSignByte {a : Nat} {v : Int} {M : KM} (h1 : 0 ≤ v) (h2 : v < 256) : f_X12_isSignByte a (zI v) M = bI (sgn v) := by
  unfold f_X12_isSignByte
  by_cases q : sgn v
  · rw [bIT q]
    rcases q with q | q | q | q
    · subst q; decide
    · subst q; decide
    · subst q; decide
    · subst q; decide
  · rw [bIF q]
    have n1 : ¬ v = 59 := fun r => q (Or.inl r)
    have n2 : ¬ v = 60 := fun r => q (Or.inr (Or.inl r))
    have n3 : ¬ v = 61 := fun r => q (Or.inr (Or.inr (Or.inl r)))
    have n4 : ¬ v = 62 := fun r => q (Or.inr (Or.inr (Or.inr r)))
    simp (disch := first | omega | assumption) only [↓lt, ↓reduceIte, zl, zeqF, if_false]
theorem kX_at {T : Int → Int} {E s : Int} {n : Nat} {X : KM} (h1 : 0 ≤ E) (h2 : E ≤ 900) (hs : 0 ≤ s) (e9 : X.1 227 9 = zI E) (h15 : X.1 227 15 = zI s) (h16 : X.1 227 16 = zI s) (hT : ∀ z, 0 ≤ z → z < 900 → X.1 231 z.toNat = zI (T z) ∧ -128 ≤ T z ∧ T z < 128) (h : s < E) (hn : 1000 < n) :
    (97 ≤ T s ∧ T s ≤ 122 → ∃ X', kX n 227 X = some X' ∧ X' = uI (uI (uJ (uI (uJ (uI X 227 14 (zI 1)) 227 19 (lI 0)) 227 16 (zI s)) 227 19 (lI (wmB T E s 900 s 0).2)) 227 16 (zI (wmB T E s 900 s 0).1)) 227 18 (zI ((wmB T E s 900 s 0).1 - s))) ∧
    (48 ≤ T s ∧ T s ≤ 57 → kX n 227 X = some (uI (uI (uI (uI X 227 17 (zI 0)) 227 17 (zI (nuB T E s 900 s 0).2)) 227 16 (zI (nuB T E s 900 s 0).1)) 227 14 (zI (if (nuB T E s 900 s 0).1 - s ≤ 4 then 2 else 4)))) ∧
    (¬ (97 ≤ T s ∧ T s ≤ 122) → ¬ (48 ≤ T s ∧ T s ≤ 57) → kX n 227 X = some (uI (uI (uI X 227 16 (zI (s + 1))) 227 17 (zI (T s % 256))) 227 14 (zI (if sgn (T s) then 3 else 4)))) := by
  have t := (hT s hs (by omega)).2
  have lk := m_look2 (n := n) e9 hT h1 h2 hs (by omega)
  rw [show byB T E s = T s % 256 from if_pos h] at lk
  have r0 : 0 ≤ T s % 256 ∧ T s % 256 < 256 := by omega
  have il := fun M => m_isLetter (v := T s % 256) (M := M) r0.1 r0.2
  have id := fun M => m_isDigit (v := T s % 256) (M := M) r0.1 r0.2
  refine ⟨fun w => ?_, fun w => ?_, fun w1 w2 => ?_⟩
  · have il1 : ∀ M, f_X12_isLetter (zI (T s % 256)) M = zI 1 := fun M => by rw [il, bIT (by omega)]
    have L := fun κ => m_letters (T := T) (E := E) (s := s) (κ := κ) h1 h2 hs 900 s 0 (uJ (uI X 227 14 (zI 1)) 227 19 (lI 0)) n (by rw [uJ_i, uI_o (by omega)]; exact e9) (fun z u v => by rw [uJ_i, uI_o (by omega)]; exact hT z u v) (by rw [uJ_i, uI_o (by omega)]; exact h15) (by rw [uJ_i, uI_o (by omega)]; exact h16) uJ_s (by omega) (by omega) (by omega) (by omega)
    have wl : s ≤ (wmB T E s 900 s 0).1 ∧ (wmB T E s 900 s 0).1 ≤ E := by
      rw [wm_1 (s := s) 900 s 0 0]
      exact ⟨wo_le _ _ _, wo_E _ _ _ (by omega)⟩
    obtain ⟨X', l1, l2⟩ := L (fun (M43 : KM) => (
          lt (uI M43 227 18 ((M43.1 227 16) - (M43.1 227 15))) fun (M44 : KM) =>
          some M44
        ))
    have g : X' = uI (uJ (uI (uJ (uI X 227 14 (zI 1)) 227 19 (lI 0)) 227 16 (zI s)) 227 19 (lI (wmB T E s 900 s 0).2)) 227 16 (zI (wmB T E s 900 s 0).1) := by
      rw [l2]
      refine Prod.ext ?_ (Prod.ext ?_ rfl)
      · funext c i
        by_cases e : c = 227 ∧ i = 16
        · rw [e.1, e.2, uI_s, uI_s]
        · rw [uI_o e, uI_o e]
          show (uI X 227 14 (zI 1)).1 c i = (uI (uJ (uI X 227 14 (zI 1)) 227 19 (lI 0)) 227 16 (zI s)).1 c i
          rw [uI_o e]
          rfl
      · rfl
    have g16 : X'.1 227 16 = zI (wmB T E s 900 s 0).1 := by rw [g]; exact uI_s
    have g15 : X'.1 227 15 = zI s := by
      rw [g, uI_o (by omega), uJ_i, uI_o (by omega), uJ_i, uI_o (by omega)]; exact h15
    refine ⟨uI X' 227 18 (zI ((wmB T E s 900 s 0).1 - s)), ?_, by rw [g]⟩
    unfold kX
    simp (disch := first | omega | assumption) only [↓reduceIte, zl, e9, h15, zltT, if_true, lk, Option.bind_some]
    rw [lt, il1, if_neg (by decide)]
    refine Eq.trans l1 ?_
    rw [lt, g16, g15, zsub]
  · have il1 : ∀ M, f_X12_isLetter (zI (T s % 256)) M = zI 0 := fun M => by rw [il, bIF (by omega)]
    have id1 : ∀ M, f_X12_isDigit (zI (T s % 256)) M = zI 1 := fun M => by rw [id, bIT (by omega)]
    have L := fun κ => m_digits (T := T) (E := E) (s := s) (κ := κ) h1 h2 hs 900 s 0 (uI X 227 17 (zI 0)) n (by rw [uI_o (by omega)]; exact e9) (fun z u v => by rw [uI_o (by omega)]; exact hT z u v) (by rw [uI_o (by omega)]; exact h15) (by rw [uI_o (by omega)]; exact h16) uI_s (by omega) (by omega) (by omega) (by omega)
    have wl := nu_1 (k := 899) h w.1 w.2
    generalize nuB T E s 900 s 0 = W at L wl ⊢
    obtain ⟨q, v⟩ := W
    simp only at L wl ⊢
    have g16 : (uI (uI (uI X 227 17 (zI 0)) 227 17 (zI v)) 227 16 (zI q)).1 227 16 = zI q := uI_s
    have g15 : (uI (uI (uI X 227 17 (zI 0)) 227 17 (zI v)) 227 16 (zI q)).1 227 15 = zI s := by
      rw [uI_o (by omega), uI_o (by omega), uI_o (by omega)]; exact h15
    unfold kX
    simp (disch := first | omega | assumption) only [↓reduceIte, zl, e9, h15, zltT, if_true, lk, Option.bind_some]
    rw [lt, il1, if_pos rfl, lt, id1, if_neg (by decide), lt, L]
    rw [g16, g15, zsub]
    by_cases q4 : q - s ≤ 4
    · rw [if_pos q4]
      simp (disch := first | omega | assumption) only [↓lt, ↓reduceIte, zleT, if_true]
    · rw [if_neg q4]
      simp (disch := first | omega | assumption) only [↓lt, ↓reduceIte, zleF, if_false]
  · have il1 : ∀ M, f_X12_isLetter (zI (T s % 256)) M = zI 0 := fun M => by rw [il, bIF (by omega)]
    have id1 : ∀ M, f_X12_isDigit (zI (T s % 256)) M = zI 0 := fun M => by rw [id, bIF (by omega)]
    have is1 := fun M => m_isSignByte (a := 227) (v := T s % 256) (M := M) r0.1 r0.2
    unfold kX
    simp (disch := first | omega | assumption) only [↓reduceIte, zl, e9, h15, zltT, if_true, lk, Option.bind_some]
    rw [lt, il1, if_pos rfl, lt, id1, if_pos rfl]
    simp (disch := first | omega | assumption) only [↓lt, ↓reduceIte, is1, zadd]
    by_cases v : sgn (T s)
    · rw [if_pos v, bIT (by unfold sgn at v ⊢; omega)]
      simp (disch := first | omega | assumption) only [zeqF, if_false]
    · rw [if_neg v, bIF (by unfold sgn at v ⊢; omega)]
      simp (disch := first | omega | assumption) only [zeqT, if_true]
