/-! ===== land, days: the next sign, both ===== -/
def kA (n : Nat) (a0 : Nat) (M14 : KM) : Option KM :=
  if (M14.1 a0 3) < (M14.1 a0 2) then
    if ix (M14.1 a0 3) (ktl (kty (M14.2.2 a0 1))) then
    lt ((M14.1 (M14.2.2 a0 1) ((M14.1 a0 3)).toNatClampNeg)) fun (v17 : Int32) =>
    lt ((
      lt ((
        lt (uI M14 a0 8 v17) fun (M18 : KM) =>
        lt (uI M18 a0 3 ((M18.1 a0 3) + (1 : Int32))) fun (M19 : KM) =>
        lt (fun (x20 : Int32) => (
          lt (fun (x21 : Int32) => (
            lt (uI M19 a0 6 x21) fun (M22 : KM) =>
            some M22
          ) : Int32 → Option KM) fun j203 =>
          if x20 = 0 then
            j203 (4 : Int32)
          else
            j203 (3 : Int32)
        ) : Int32 → Option KM) fun j192 =>
        lt ((
          j192 (1 : Int32)
        ) : Option KM) fun j187 =>
        if v17 = (59 : Int32) then
          j187
        else
          if v17 = (60 : Int32) then
            j187
          else
            if v17 = (62 : Int32) then
              j187
            else
              if v17 = (61 : Int32) then
                j187
              else
                j192 (0 : Int32)
      ) : Option KM) fun j148 =>
      if v17 < (48 : Int32) then
        j148
      else
        if (57 : Int32) < v17 then
          j148
        else
          (f_X9_scanNumber n a0 M14).bind fun (v28 : KM) =>
          some v28
    ) : Option KM) fun j129 =>
    if v17 < (97 : Int32) then
      j129
    else
      if (122 : Int32) < v17 then
        j129
      else
        (f_X9_scanWord n a0 M14).bind fun (v31 : KM) =>
        some v31
    else none
  else
    lt (uI M14 a0 6 (0 : Int32)) fun (M34 : KM) =>
    some M34
theorem bsome {α : Type} (x : Option α) : (x.bind fun v => some v) = x := by cases x <;> rfl
def cRd (M : KM) (a : Nat) (s : Int) : KM := uI (uJ (uI (uI (uI (uI M a 11 (M.1 a 10)) a 3 (zI s)) a 10 (zI s)) a 7 (zI (-1))) a 9 (lI 0)) a 8 (zI 0)
theorem cRd_o {M : KM} {a c i : Nat} {s : Int} (h : ¬ (c = a ∧ (i = 3 ∨ i = 7 ∨ i = 8 ∨ i = 10 ∨ i = 11))) : (cRd M a s).1 c i = M.1 c i := by
  unfold cRd
  rw [uI_o (by omega), uJ_i, uI_o (by omega), uI_o (by omega), uI_o (by omega), uI_o (by omega)]
theorem cRd_j {M : KM} {a c i : Nat} {s : Int} (h : ¬ (c = a ∧ i = 9)) : (cRd M a s).2.1 c i = M.2.1 c i := by
  show (uJ (uI (uI (uI (uI M a 11 (M.1 a 10)) a 3 (zI s)) a 10 (zI s)) a 7 (zI (-1))) a 9 (lI 0)).2.1 c i = _
  rw [uJ_o h]; rfl
theorem cRd_2 {M : KM} {a : Nat} {s : Int} : (cRd M a s).2.2 = M.2.2 := rfl
theorem cRd_v {M : KM} {a : Nat} {s : Int} : (cRd M a s).1 a 3 = zI s ∧ (cRd M a s).1 a 10 = zI s ∧ (cRd M a s).1 a 7 = zI (-1) ∧ (cRd M a s).1 a 8 = zI 0 ∧ (cRd M a s).1 a 11 = M.1 a 10 ∧ (cRd M a s).2.1 a 9 = lI 0 := by
  refine ⟨?_, ?_, ?_, ?_, ?_, ?_⟩
  · unfold cRd; rw [uI_o (by omega), uJ_i, uI_o (by omega), uI_o (by omega), uI_s]
  · unfold cRd; rw [uI_o (by omega), uJ_i, uI_o (by omega), uI_s]
  · unfold cRd; rw [uI_o (by omega), uJ_i, uI_s]
  · unfold cRd; rw [uI_s]
  · unfold cRd; rw [uI_o (by omega), uJ_i, uI_o (by omega), uI_o (by omega), uI_o (by omega), uI_s]
  · exact uJ_s
theorem c_adv0 {T : Int → Int} {E q : Int} {a : Nat} {M : KM} {n : Nat} (ha : a = 5 ∨ a = 8) (h1 : 0 ≤ E) (h2 : E ≤ 900) (r1 : M.2.2 a 1 = 2) (e2 : M.1 a 2 = zI E) (hT : ∀ z, 0 ≤ z → z < 900 → M.1 2 z.toNat = zI (T z) ∧ -128 ≤ T z ∧ T z < 128) (h3 : M.1 a 3 = zI q) (q1 : 0 ≤ q) (q2 : q ≤ E) (hn : 1000 < n) : f_X9_advance n a M = kA n a (cRd M a (skB T E 900 q)) := by
  show lp_X9_advance_8 n a (uI M a 11 (M.1 a 10)) _ = _
  rw [c_skip (T := T) ha h1 h2 900 q _ n (show (uI M a 11 (M.1 a 10)).2.2 a 1 = 2 from r1) (by rw [uI_o (by omega)]; exact e2) (fun z u v => by rw [uI_o (by omega)]; exact hT z u v) (by rw [uI_o (by omega)]; exact h3) q1 q2 (by omega) (by omega)]
  have g : (uI (uI M a 11 (M.1 a 10)) a 3 (zI (skB T E 900 q))).1 a 3 = zI (skB T E 900 q) := uI_s
  rw [g]
  rfl
def xRd (X : KM) (s : Int) : KM := uI (uI X 227 15 (zI s)) 227 16 (zI s)
theorem xRd_o {X : KM} {c i : Nat} {s : Int} (h : ¬ (c = 227 ∧ (i = 15 ∨ i = 16))) : (xRd X s).1 c i = X.1 c i := by
  unfold xRd
  rw [uI_o (by omega), uI_o (by omega)]
abbrev sgn (t : Int) : Prop := t = 59 ∨ t = 60 ∨ t = 61 ∨ t = 62
theorem kA_end {E s : Int} {a n : Nat} {M : KM} (h1 : 0 ≤ E) (h2 : E ≤ 900) (e2 : M.1 a 2 = zI E) (h3 : M.1 a 3 = zI s) (h : ¬ s < E) (hs : s ≤ E) : kA n a M = some (uI M a 6 (zI 0)) := by
  unfold kA
  simp (disch := first | omega | assumption) only [↓lt, ↓reduceIte, zl, e2, h3, zltF, if_false]
theorem kA_at {T : Int → Int} {E s : Int} {a n : Nat} {M : KM} (h1 : 0 ≤ E) (h2 : E ≤ 900) (hs : 0 ≤ s) (r1 : M.2.2 a 1 = 2) (e2 : M.1 a 2 = zI E) (h3 : M.1 a 3 = zI s) (hT : M.1 2 s.toNat = zI (T s) ∧ -128 ≤ T s ∧ T s < 128) (h : s < E) :
    (97 ≤ T s ∧ T s ≤ 122 → kA n a M = f_X9_scanWord n a M) ∧ (48 ≤ T s ∧ T s ≤ 57 → kA n a M = f_X9_scanNumber n a M) ∧ (¬ (97 ≤ T s ∧ T s ≤ 122) → ¬ (48 ≤ T s ∧ T s ≤ 57) → kA n a M = some (uI (uI (uI M a 8 (zI (T s))) a 3 (zI (s + 1))) a 6 (zI (if sgn (T s) then 3 else 4)))) := by
  obtain ⟨t1, t2, t3⟩ := hT
  have g : (uI M a 8 (zI (T s))).1 a 3 = zI s := by rw [uI_o (by omega)]; exact h3
  refine ⟨fun w => ?_, fun w => ?_, fun w1 w2 => ?_⟩
  · unfold kA
    simp (disch := first | omega | assumption) only [↓lt, ↓reduceIte, zl, e2, h3, r1, tp900, zltT, zltF, ixT, zidx, t1, if_true, if_false, bsome]
  · unfold kA
    simp (disch := first | omega | assumption) only [↓lt, ↓reduceIte, zl, e2, h3, r1, tp900, zltT, zltF, ixT, zidx, t1, if_true, if_false, bsome]
  · have d : (T s < 48) ∨ (57 < T s ∧ T s < 97) ∨ 122 < T s := by omega
    by_cases v : sgn (T s)
    · rw [if_pos v]
      have v' := v
      unfold kA
      rcases v with v | v | v | v
      · rw [v] at t1 g ⊢
        simp (disch := first | omega | assumption) only [↓lt, ↓reduceIte, zl, e2, h3, g, r1, tp900, zltT, zltF, zeqT, zeqF, ixT, zidx, t1, if_true, if_false, zadd]
      · rw [v] at t1 g ⊢
        simp (disch := first | omega | assumption) only [↓lt, ↓reduceIte, zl, e2, h3, g, r1, tp900, zltT, zltF, zeqT, zeqF, ixT, zidx, t1, if_true, if_false, zadd]
      · rw [v] at t1 g ⊢
        simp (disch := first | omega | assumption) only [↓lt, ↓reduceIte, zl, e2, h3, g, r1, tp900, zltT, zltF, zeqT, zeqF, ixT, zidx, t1, if_true, if_false, zadd]
      · rw [v] at t1 g ⊢
        simp (disch := first | omega | assumption) only [↓lt, ↓reduceIte, zl, e2, h3, g, r1, tp900, zltT, zltF, zeqT, zeqF, ixT, zidx, t1, if_true, if_false, zadd]
    · rw [if_neg v]
      have n1 : ¬ T s = 59 := fun q => v (Or.inl q)
      have n2 : ¬ T s = 60 := fun q => v (Or.inr (Or.inl q))
      have n3 : ¬ T s = 61 := fun q => v (Or.inr (Or.inr (Or.inl q)))
      have n4 : ¬ T s = 62 := fun q => v (Or.inr (Or.inr (Or.inr q)))
      unfold kA
      rcases d with d | d | d
      · simp (disch := first | omega | assumption) only [↓lt, ↓reduceIte, zl, e2, h3, g, r1, tp900, zltT, zltF, zeqT, zeqF, ixT, zidx, t1, if_true, if_false, zadd]
      · simp (disch := first | omega | assumption) only [↓lt, ↓reduceIte, zl, e2, h3, g, r1, tp900, zltT, zltF, zeqT, zeqF, ixT, zidx, t1, if_true, if_false, zadd]
      · simp (disch := first | omega | assumption) only [↓lt, ↓reduceIte, zl, e2, h3, g, r1, tp900, zltT, zltF, zeqT, zeqF, ixT, zidx, t1, if_true, if_false, zadd]
