/-! ===== days: the text, whole ===== -/
/-- the reference behind the last step -/
def mD (n : Nat) (M8 : KM) : Option (Int32 × KM) :=
        lt (f_X12_isWell 227 M8) fun (v9 : (Int32 × KM)) =>
        if v9.1 = 0 then
          some ((-1 : Int32), v9.2)
        else
          if ix (290 : Int32) 2810 then
          lt (uI v9.2 232 ((290 : Int32)).toNatClampNeg (1 : Int32)) fun (M11 : KM) =>
          if ix (291 : Int32) 2810 then
          lt (uI M11 232 ((291 : Int32)).toNatClampNeg (M11.1 227 27)) fun (M13 : KM) =>
          lp_X12_days_82 n 227 (0 : Int32) M13
          else none
          else none
theorem m_days_eq {n : Nat} {E : Int32} {X : KM} : f_X12_days n 227 E X = (f_X12_starts n 227 E (300 : Int32) (uI (uI X 227 1 (0 : Int32)) 227 0 (0 : Int32))).bind fun (v3 : (Int32 × KM)) => if v3.1 = 0 then some ((-1 : Int32), v3.2) else lp_X12_days_28 n 227 (uI v3.2 227 27 (0 : Int32)) (mD n) := rfl
theorem days_loop {T : Int → Int} {E : Int} {P L : Nat} (hE : 0 ≤ E ∧ E ≤ 300) (hP : 11 < P) (hL : 23 ≤ L) (hPL : P + 6 ≤ L ∨ L + 8 ≤ P) : ∀ (m : Nat) (M X : KM) (s k jj v e j w : Int) (b : Int → Int) (c N : Nat), E - s ≤ m → 1410 + m < c → GD T E 8 s k jj v M X → DS P L 0 e j b M X → 0 ≤ w → w ≤ s → E - s + 1010 < N → ∃ M' X', (∀ κ, lp_X12_days_28 c 227 X κ = κ X') ∧ FD P j 0 M M' ∧ GX e X X' ∧
    ((lpD N P L w M = some (zI 1, uI M' P 7 (zI 1)) ∧ ∃ (b' : Int → Int) (e1 j1 : Int) (q : Nat), X'.1 227 12 = zI 0 ∧ M'.1 8 4 = zI 0 ∧ M'.1 8 5 = zI (-1) ∧ DS P L 0 e1 j1 b' M' X' ∧ (∀ z, z < 2540 + 9 * e → b' z = b z) ∧ PRB M' P (dcB b') q 3 e e1 j j1) ∨ (lpD N P L w M = some (zI 0, M') ∧ BD 8 M' X')) := by
  intro m
  induction m with
  | zero =>
    intro M X s k jj v e j w b c N hm hc g hD u1 u2 u3
    obtain ⟨c, rfl⟩ : ∃ q, c = q + 1 := ⟨c - 1, by omega⟩
    obtain ⟨-, -, s6, s14, -, s0, sE, sE2, k0, k4, -⟩ := SG_s g.2.1
    obtain ⟨N, rfl⟩ : ∃ q, N = q + 1 := ⟨N - 1, by omega⟩
    have kz : k = 0 := by
      by_cases q : k = 0
      · exact q
      · have := sE2 q; omega
    refine ⟨M, X, fun κ => ?_, FD_r, GX_r, Or.inl ⟨?_, b, e, j, 0, g.2.2.1, g.2.2.2.1, g.2.2.2.2, hD, fun _ _ => rfl, ⟨rfl, rfl⟩⟩⟩
    · rw [lp_X12_days_28, if_pos (by rw [g.2.2.1]; rfl), if_pos (by rw [s14, kz]; rfl)]
    · show lp_X0_readInto_19 (N + 1) 8 P L (zI w) M (kF P) = _
      rw [c_iter0 (by rw [s6, kz])]
      unfold kF
      rw [hD.2.1, if_pos (by decide)]
      rfl
  | succ m ih =>
    intro M X s k jj v e j w b c N hm hc g hD u1 u2 u3
    obtain ⟨c, rfl⟩ : ∃ q, c = q + 1 := ⟨c - 1, by omega⟩
    obtain ⟨-, -, s6, s14, -, s0, sE, sE2, k0, k4, -⟩ := SG_s g.2.1
    by_cases kz : k = 0
    · obtain ⟨N, rfl⟩ : ∃ q, N = q + 1 := ⟨N - 1, by omega⟩
      refine ⟨M, X, fun κ => ?_, FD_r, GX_r, Or.inl ⟨?_, b, e, j, 0, g.2.2.1, g.2.2.2.1, g.2.2.2.2, hD, fun _ _ => rfl, ⟨rfl, rfl⟩⟩⟩
      · rw [lp_X12_days_28, if_pos (by rw [g.2.2.1]; rfl), if_pos (by rw [s14, kz]; rfl)]
      · show lp_X0_readInto_19 (N + 1) 8 P L (zI w) M (kF P) = _
        rw [c_iter0 (by rw [s6, kz])]
        unfold kF
        rw [hD.2.1, if_pos (by decide)]
        rfl
    · obtain ⟨X1, e1, e2⟩ := rs_step (T := T) (E := E) (P := P) (L := L) (n := c) hE hP hL hPL (by omega) 8 0 (by omega) (by omega) (by omega) M X s k jj v e j w b N g hD (Or.inr kz) (fun h => by omega) u1 u2 u3
      have hl : ∀ κ, lp_X12_days_28 (c + 1) 227 X κ = lp_X12_days_28 c 227 X1 κ := fun κ => by
        rw [lp_X12_days_28, if_pos (by rw [g.2.2.1]; rfl), if_neg (by rw [s14, show (0 : Int32) = zI 0 from rfl, zeqF kz (by omega) (by omega) (by omega) (by omega)]; exact id)]
        have e1' : rs_X12 8 c 227 (zI 0) X = some X1 := e1
        show (rs_X12 8 c 227 (zI 0) X).bind _ = _
        rw [e1', Option.bind_some]
      rcases e2 with ⟨t, M1, b1, s1, k1, j1, v1, f1, i1, g1, l1, l1b, D1, B1, F1, G1, O1, C1⟩ | ⟨M1, hB, F1, G1, C1⟩
      · have sE1 := (SG_s g1.2.1).2.2.2.2.2.2.1
        obtain ⟨M2, X2, h1, F2, G2, h2⟩ := ih M1 X1 s1 k1 j1 v1 f1 i1 (w + t) b1 c (N - t) (by omega) (by omega) g1 D1 (by omega) (by omega) (by omega)
        have lo := ONE_lt O1
        have r1 := DS_r D1
        have r0 := DS_r hD
        refine ⟨M2, X2, fun κ => by rw [hl, h1], FD_t (by omega) (Int.le_refl _) F1 F2, GX_t (by omega) G1 G2, ?_⟩
        rcases h2 with ⟨C2, b2, e2, j2, q2, z1, z2, z3, D2, B2, P2⟩ | ⟨C2, hB2⟩
        · have O2 : ONE M2 P (dcB b2) (3 - 0 : Int).toNat e f1 j i1 := ONE_loc (fun a q u v w x => F2.2.1 a q u v (by omega)) (fun z u v => by rw [dc_at (by omega), dc_at (by omega)]; exact B2 _ (by omega)) (by rw [dc_lo (by omega), dc_lo (by omega)]; exact B2 0 (by omega)) (by rw [dc_lo (by omega), dc_lo (by omega)]; exact B2 2 (by omega)) (by omega) O1
          obtain ⟨q3, P3⟩ := PRB_cons (D := 3) O2 P2
          exact Or.inl ⟨by rw [C1, C2], b2, e2, j2, q3, z1, z2, z3, D2, fun z hz => by rw [B2 z (by omega), B1 z hz], P3⟩
        · exact Or.inr ⟨by rw [C1, C2], hB2⟩
      · obtain ⟨c, rfl⟩ : ∃ q, c = q + 1 := ⟨c - 1, by omega⟩
        refine ⟨M1, X1, fun κ => ?_, F1, G1, Or.inr ⟨C1, hB⟩⟩
        rw [hl, lp_X12_days_28, if_neg (xb_12 (BD_X hB))]
theorem days_run {M X : KM} {L P : Nat} {b : Int → Int} {E tp : Int} {n : Nat} (hL : L = 23 ∨ L = 61) (h3 : P = 31 ∨ P = 69 ∨ P = 99) (hO : LOK M L b) (hC : CR M L b) (E0 : 0 ≤ E) (E1 : E ≤ tp) (E3 : E ≤ 300) (t9 : tp ≤ 900) (h8 : X.1 227 8 = zI tp) (hx : ∀ k : Nat, k < 900 → X.1 231 k = M.1 231 k) (hb : ∀ k : Nat, X.1 232 k = zI (b k)) (hw : ∀ k : Nat, X.2.1 235 k = M.2.1 235 k) (hn : 2200 ≤ n) :
    ∃ r M' X', f_X0_readInto n 8 P L 2 (zI E) M = some (r, M') ∧ f_X12_days n 227 (zI E) X = mD n X' ∧
      (∀ c i, ¬ c = 8 → ¬ (P ≤ c ∧ c < P + 6) → ¬ c = 11 → M'.1 c i = M.1 c i) ∧ (∀ c i, ¬ c = 8 → M'.2.1 c i = M.2.1 c i) ∧ (∀ c i, ¬ (c = 8 ∧ i = 1) → M'.2.2 c i = M.2.2 c i) ∧
      (∀ c i : Nat, ¬ (c = 227 ∧ (i ≤ 1 ∨ i = 8 ∨ i = 9 ∨ (12 ≤ i ∧ i ≤ 18) ∨ i = 27)) → ¬ (c = 232 ∧ 2540 ≤ i) → X'.1 c i = X.1 c i) ∧ (∀ c i, ¬ (c = 227 ∧ i = 19) → X'.2.1 c i = X.2.1 c i) ∧ X'.2.2 = X.2.2 ∧ X'.1 227 0 = zI 0 ∧ X'.1 227 8 = zI 0 ∧
      ((r = zI 1 ∧ X'.1 227 12 = zI 0 ∧ M'.1 8 4 = zI 0 ∧ M'.1 8 5 = zI (-1) ∧ M'.1 P 7 = zI 1 ∧ ∃ (b' : Int → Int) (e j : Int) (q : Nat), (∀ k : Nat, X'.1 232 k = zI (b' k)) ∧ X'.1 227 27 = zI e ∧ M'.1 P 6 = zI e ∧ M'.1 P 5 = zI j ∧ 0 ≤ e ∧ e ≤ 30 ∧ 0 ≤ j ∧ j ≤ 60 ∧ (∀ z, z < 2540 → b' z = b z) ∧ PRB M' P (dcB b') q 3 0 e 0 j) ∨ (r = zI 0 ∧ BD 8 M' X')) := by
  obtain ⟨cn, -, -, -, ct, -, -, -, -, -, -, -, ck⟩ := hC
  have hh := hO.2.2.1.1
  unfold WH at hh
  have h08 := hO.1.1
  have h10 := hO.1.2.2.1
  have kFe : f_X0_readInto n 8 P L 2 (zI E) M = (f_X9_advance n 8 (uI (uI (uI (uI (uI (uR (uI (uI (uI (uI M P 5 (zI 0)) P 6 (zI 0)) P 7 (zI 0)) 8 13 (zI 0)) 8 1 2) 8 2 (zI E)) 8 3 (zI 0)) 8 11 (zI 0)) 8 4 (zI 0)) 8 5 (zI (-1)))).bind (fun v4 => lpD n P L 0 v4) := by
    unfold f_X0_readInto f_X9_begin f_X8_clear
    rw [lt, lt, lt, lt, lt, lt]
    have e9 : (if Int32.ofNat (ktl (kty 2)) < zI E then Int32.ofNat (ktl (kty 2)) else zI E) = zI E := by
      rw [tp900, if_neg (by rw [show Int32.ofNat 900 = zI 900 from rfl, zltF (by omega) (by omega) (by omega)]; exact id)]
    rw [e9, lt, lt, lt, lt, lt, lt, bsome]
    rfl
  have n5 : ∀ a k, ¬ a = 8 → ¬ (a = P ∧ (k = 5 ∨ k = 6 ∨ k = 7)) → (uI (uI (uI (uI (uI (uR (uI (uI (uI (uI M P 5 (zI 0)) P 6 (zI 0)) P 7 (zI 0)) 8 13 (zI 0)) 8 1 2) 8 2 (zI E)) 8 3 (zI 0)) 8 11 (zI 0)) 8 4 (zI 0)) 8 5 (zI (-1))).1 a k = M.1 a k := fun a k q1 q2 => by
    rw [uI_o (by omega), uI_o (by omega), uI_o (by omega), uI_o (by omega), uI_o (by omega), uR_i, uI_o (by omega), uI_o (by omega), uI_o (by omega), uI_o (by omega)]
  have c3 : (uI (uI (uI (uI (uI (uR (uI (uI (uI (uI M P 5 (zI 0)) P 6 (zI 0)) P 7 (zI 0)) 8 13 (zI 0)) 8 1 2) 8 2 (zI E)) 8 3 (zI 0)) 8 11 (zI 0)) 8 4 (zI 0)) 8 5 (zI (-1))).1 8 3 = zI 0 := by
    rw [uI_o (by omega), uI_o (by omega), uI_o (by omega), uI_s]
  have c2 : (uI (uI (uI (uI (uI (uR (uI (uI (uI (uI M P 5 (zI 0)) P 6 (zI 0)) P 7 (zI 0)) 8 13 (zI 0)) 8 1 2) 8 2 (zI E)) 8 3 (zI 0)) 8 11 (zI 0)) 8 4 (zI 0)) 8 5 (zI (-1))).1 8 2 = zI E := by
    rw [uI_o (by omega), uI_o (by omega), uI_o (by omega), uI_o (by omega), uI_s]
  have c4 : (uI (uI (uI (uI (uI (uR (uI (uI (uI (uI M P 5 (zI 0)) P 6 (zI 0)) P 7 (zI 0)) 8 13 (zI 0)) 8 1 2) 8 2 (zI E)) 8 3 (zI 0)) 8 11 (zI 0)) 8 4 (zI 0)) 8 5 (zI (-1))).1 8 4 = zI 0 := by
    rw [uI_o (by omega), uI_s]
  have c5 : (uI (uI (uI (uI (uI (uR (uI (uI (uI (uI M P 5 (zI 0)) P 6 (zI 0)) P 7 (zI 0)) 8 13 (zI 0)) 8 1 2) 8 2 (zI E)) 8 3 (zI 0)) 8 11 (zI 0)) 8 4 (zI 0)) 8 5 (zI (-1))).1 8 5 = zI (-1) := uI_s
  have c13 : (uI (uI (uI (uI (uI (uR (uI (uI (uI (uI M P 5 (zI 0)) P 6 (zI 0)) P 7 (zI 0)) 8 13 (zI 0)) 8 1 2) 8 2 (zI E)) 8 3 (zI 0)) 8 11 (zI 0)) 8 4 (zI 0)) 8 5 (zI (-1))).1 8 13 = zI 0 := by
    rw [uI_o (by omega), uI_o (by omega), uI_o (by omega), uI_o (by omega), uI_o (by omega), uR_i, uI_s]
  have cP5 : (uI (uI (uI (uI (uI (uR (uI (uI (uI (uI M P 5 (zI 0)) P 6 (zI 0)) P 7 (zI 0)) 8 13 (zI 0)) 8 1 2) 8 2 (zI E)) 8 3 (zI 0)) 8 11 (zI 0)) 8 4 (zI 0)) 8 5 (zI (-1))).1 P 5 = zI 0 := by
    rw [uI_o (by omega), uI_o (by omega), uI_o (by omega), uI_o (by omega), uI_o (by omega), uR_i, uI_o (by omega), uI_o (by omega), uI_o (by omega), uI_s]
  have cP6 : (uI (uI (uI (uI (uI (uR (uI (uI (uI (uI M P 5 (zI 0)) P 6 (zI 0)) P 7 (zI 0)) 8 13 (zI 0)) 8 1 2) 8 2 (zI E)) 8 3 (zI 0)) 8 11 (zI 0)) 8 4 (zI 0)) 8 5 (zI (-1))).1 P 6 = zI 0 := by
    rw [uI_o (by omega), uI_o (by omega), uI_o (by omega), uI_o (by omega), uI_o (by omega), uR_i, uI_o (by omega), uI_o (by omega), uI_s]
  have cJ : (uI (uI (uI (uI (uI (uR (uI (uI (uI (uI M P 5 (zI 0)) P 6 (zI 0)) P 7 (zI 0)) 8 13 (zI 0)) 8 1 2) 8 2 (zI E)) 8 3 (zI 0)) 8 11 (zI 0)) 8 4 (zI 0)) 8 5 (zI (-1))).2.1 = M.2.1 := rfl
  have cR : ∀ a k, ¬ (a = 8 ∧ k = 1) → (uI (uI (uI (uI (uI (uR (uI (uI (uI (uI M P 5 (zI 0)) P 6 (zI 0)) P 7 (zI 0)) 8 13 (zI 0)) 8 1 2) 8 2 (zI E)) 8 3 (zI 0)) 8 11 (zI 0)) 8 4 (zI 0)) 8 5 (zI (-1))).2.2 a k = M.2.2 a k := fun a k q => by
    show (uR (uI (uI (uI (uI M P 5 (zI 0)) P 6 (zI 0)) P 7 (zI 0)) 8 13 (zI 0)) 8 1 2).2.2 a k = _
    rw [uR_o q]
    rfl
  have cR1 : (uI (uI (uI (uI (uI (uR (uI (uI (uI (uI M P 5 (zI 0)) P 6 (zI 0)) P 7 (zI 0)) 8 13 (zI 0)) 8 1 2) 8 2 (zI E)) 8 3 (zI 0)) 8 11 (zI 0)) 8 4 (zI 0)) 8 5 (zI (-1))).2.2 8 1 = 2 := by
    show (uR (uI (uI (uI (uI M P 5 (zI 0)) P 6 (zI 0)) P 7 (zI 0)) 8 13 (zI 0)) 8 1 2).2.2 8 1 = 2
    exact uR_s
  generalize (uI (uI (uI (uI (uI (uR (uI (uI (uI (uI M P 5 (zI 0)) P 6 (zI 0)) P 7 (zI 0)) 8 13 (zI 0)) 8 1 2) 8 2 (zI E)) 8 3 (zI 0)) 8 11 (zI 0)) 8 4 (zI 0)) 8 5 (zI (-1))) = B at *
  -- the reference before its first sign
  have x5o : ∀ a k, ¬ (a = 227 ∧ (k ≤ 1 ∨ k = 8 ∨ k = 9 ∨ k = 12 ∨ k = 16)) → (uI (uI (uI (uI (uI (uI X 227 1 (zI 0)) 227 0 (zI 0)) 227 9 (zI E)) 227 8 (zI 0)) 227 16 (zI 0)) 227 12 (zI 0)).1 a k = X.1 a k := fun a k q => by
    rw [uI_o (by omega), uI_o (by omega), uI_o (by omega), uI_o (by omega), uI_o (by omega), uI_o (by omega)]
  have x5z : (uI (uI (uI (uI (uI (uI X 227 1 (zI 0)) 227 0 (zI 0)) 227 9 (zI E)) 227 8 (zI 0)) 227 16 (zI 0)) 227 12 (zI 0)).1 227 0 = zI 0 := by
    rw [uI_o (by omega), uI_o (by omega), uI_o (by omega), uI_o (by omega), uI_s]
  have x58 : (uI (uI (uI (uI (uI (uI X 227 1 (zI 0)) 227 0 (zI 0)) 227 9 (zI E)) 227 8 (zI 0)) 227 16 (zI 0)) 227 12 (zI 0)).1 227 8 = zI 0 := by
    rw [uI_o (by omega), uI_o (by omega), uI_s]
  have x59 : (uI (uI (uI (uI (uI (uI X 227 1 (zI 0)) 227 0 (zI 0)) 227 9 (zI E)) 227 8 (zI 0)) 227 16 (zI 0)) 227 12 (zI 0)).1 227 9 = zI E := by
    rw [uI_o (by omega), uI_o (by omega), uI_o (by omega), uI_s]
  have x516 : (uI (uI (uI (uI (uI (uI X 227 1 (zI 0)) 227 0 (zI 0)) 227 9 (zI E)) 227 8 (zI 0)) 227 16 (zI 0)) 227 12 (zI 0)).1 227 16 = zI 0 := by
    rw [uI_o (by omega), uI_s]
  have x512 : (uI (uI (uI (uI (uI (uI X 227 1 (zI 0)) 227 0 (zI 0)) 227 9 (zI E)) 227 8 (zI 0)) 227 16 (zI 0)) 227 12 (zI 0)).1 227 12 = zI 0 := uI_s
  have x5J : (uI (uI (uI (uI (uI (uI X 227 1 (zI 0)) 227 0 (zI 0)) 227 9 (zI E)) 227 8 (zI 0)) 227 16 (zI 0)) 227 12 (zI 0)).2 = X.2 := rfl
  have ms := fun X' => m_starts (X := uI (uI X 227 1 (zI 0)) 227 0 (zI 0)) (X' := X') (E := E) (tp := tp) (mx := 300) (n := n) E0 E1 (by omega) t9 (by omega) (by rw [uI_o (by omega), uI_o (by omega)]; exact h8)
  generalize (uI (uI (uI (uI (uI (uI X 227 1 (zI 0)) 227 0 (zI 0)) 227 9 (zI E)) 227 8 (zI 0)) 227 16 (zI 0)) 227 12 (zI 0)) = X5 at *
  have tpe : ∀ z : Int, 0 ≤ z → z < 900 → M.1 2 z.toNat = zI (M.1 2 z.toNat).toInt ∧ -128 ≤ (M.1 2 z.toNat).toInt ∧ (M.1 2 z.toNat).toInt < 128 := fun z u v => by
    obtain ⟨-, t, t1, t2, t3⟩ := ct z.toNat (by omega)
    rw [t3, zI_toInt (by omega) (by omega)]
    exact ⟨rfl, t1, t2⟩
  have ev : EV (fun z => (M.1 2 z.toNat).toInt) E 8 B X5 := ⟨cR1, c2, x59, fun z u v => by rw [n5 _ _ (by omega) (by omega)]; exact tpe z u v, fun z u v => by rw [x5o _ _ (by omega), hx _ (by omega), (ct z.toNat (by omega)).1]; exact tpe z u v, fun k hk => by rw [cJ]; exact (ck k hk).2⟩
  obtain ⟨M1, X6, s, k, j, v, a1, a2, a3, a4, a5, a6, a7⟩ := adv (n := n) (Or.inr rfl) E0 (by omega) ev c3 x516 (by omega) E0 (by omega)
  have g0 : GD (fun z => (M.1 2 z.toNat).toInt) E 8 s k j v M1 (uI X6 227 27 (zI 0)) := by
    refine GD_of (M := M1) (X := X6) (fun _ _ _ => rfl) (fun _ _ _ => rfl) rfl (fun c i w => uI_o (by omega)) rfl ⟨EV_F (by omega) (FA_C a6) (GA_C a7) ev, a3, ?_, ?_, ?_⟩
    · rw [a7.1 _ _ (by omega)]; exact x512
    · rw [a6.1 _ _ (by omega)]; exact c4
    · rw [a6.1 _ _ (by omega)]; exact c5
  have m1 : ∀ c i, ¬ c = 8 → ¬ (c = P ∧ (i = 5 ∨ i = 6 ∨ i = 7)) → M1.1 c i = M.1 c i := fun c i q1 q2 => by rw [a6.1 c i (by omega), n5 c i q1 q2]
  have D0 : DS P L 0 0 0 b M1 (uI X6 227 27 (zI 0)) := by
    refine ⟨fun k => by rw [uI_o (by omega), a7.1 _ _ (by omega), x5o _ _ (by omega)]; exact hb k, by rw [a6.1 _ _ (by omega)]; exact c13, by rw [a6.1 _ _ (by omega)]; exact cP6, uI_s, by rw [a6.1 _ _ (by omega)]; exact cP5, by omega, by omega, by omega, by omega, by omega, by omega, ⟨by omega, ?_, ?_, ?_, ?_, fun i u v => ?_, fun i u v => ?_⟩⟩
    · rw [m1 _ _ (by omega) (by omega)]; exact h08
    · rw [m1 _ _ (by omega) (by omega)]; exact h10
    · rw [uI_o (by omega), a7.1 _ _ (by omega), x5o _ _ (by omega)]; exact hb 0
    · rw [uI_o (by omega), a7.1 _ _ (by omega), x5o _ _ (by omega)]; exact hb 2
    · rw [a6.2.1 _ _ (by omega), cJ, uI_j1, a7.2.1 _ _ (by omega), x5J, hw, show 16 * 0 + i = i by omega]
      exact cn.1 i u v
    · rw [a6.2.1 _ _ (by omega), cJ, uI_j1, a7.2.1 _ _ (by omega), x5J, hw, show 16 * 0 + 8 + i = 8 + i by omega, show L + 14 + 3 * i.toNat = L + 6 + 8 + 3 * i.toNat by omega]
      exact cn.2 i u v
  have hsE := SG_s a3
  obtain ⟨M', X', d1, d2, d3, d4⟩ := days_loop (L := L) (P := P) ⟨E0, E3⟩ (by omega) (by omega) (by omega) 300 M1 (uI X6 227 27 (zI 0)) s k j v 0 0 0 b n n (by omega) (by omega) g0 D0 (by omega) (by omega) (by omega)
  have mo : f_X12_days n 227 (zI E) X = mD n X' := by
    rw [m_days_eq, show f_X12_starts n 227 (zI E) (300 : Int32) (uI (uI X 227 1 (0 : Int32)) 227 0 (0 : Int32)) = some (zI 1, X6) from ms X6 a2, Option.bind_some, if_neg (show ¬ zI 1 = 0 by decide)]
    exact d1 _
  have fX : ∀ c i : Nat, ¬ (c = 227 ∧ (i ≤ 1 ∨ i = 8 ∨ i = 9 ∨ (12 ≤ i ∧ i ≤ 18) ∨ i = 27)) → ¬ (c = 232 ∧ 2540 ≤ i) → X'.1 c i = X.1 c i := fun c i w1 w2 => by
    rw [d3.1 c i (by omega) (by omega), uI_o (by omega), a7.1 c i (by omega), x5o c i (by omega)]
  have fJ : ∀ c i, ¬ (c = 227 ∧ i = 19) → X'.2.1 c i = X.2.1 c i := fun c i w => by
    rw [d3.2.1 c i w, uI_j1, a7.2.1 c i w, x5J]
  have fR : X'.2.2 = X.2.2 := by rw [d3.2.2, uI_j2, a7.2.2, x5J]
  have f0 : X'.1 227 0 = zI 0 := by rw [d3.1 _ _ (by omega) (by omega), uI_o (by omega), a7.1 _ _ (by omega)]; exact x5z
  have f8 : X'.1 227 8 = zI 0 := by rw [d3.1 _ _ (by omega) (by omega), uI_o (by omega), a7.1 _ _ (by omega)]; exact x58
  have fM : ∀ c i, ¬ c = 8 → ¬ (P ≤ c ∧ c < P + 6) → ¬ c = 11 → M'.1 c i = M.1 c i := fun c i w1 w2 w3 => by
    rw [d2.1 c i w1 w2 (by omega), m1 c i w1 (by omega)]
  have fMJ : ∀ c i, ¬ c = 8 → M'.2.1 c i = M.2.1 c i := fun c i w => by
    rw [d2.2.2.2.2.1 c i (by omega), a6.2.1 c i (by omega), cJ]
  have fMR : ∀ c i, ¬ (c = 8 ∧ i = 1) → M'.2.2 c i = M.2.2 c i := fun c i w => by
    rw [d2.2.2.2.2.2, a6.2.2, cR c i w]
  rcases d4 with ⟨q1, b', e1, j1, q, z1, z2, z3, D2, B2, P2⟩ | ⟨q1, hB⟩
  · have rr := DS_r D2
    obtain ⟨y1, y2, y3, y4, y5, -⟩ := D2
    refine ⟨zI 1, uI M' P 7 (zI 1), X', by rw [kFe, a1, Option.bind_some]; exact q1, mo, fun c i w1 w2 w3 => by rw [uI_o (by omega)]; exact fM c i w1 w2 w3, fMJ, fMR, fX, fJ, fR, f0, f8, Or.inl ⟨rfl, z1, by rw [uI_o (by omega)]; exact z2, by rw [uI_o (by omega)]; exact z3, uI_s, b', e1, j1, q, y1, y4, by rw [uI_o (by omega)]; exact y3, by rw [uI_o (by omega)]; exact y5, by omega, by omega, by omega, by omega, fun z hz => B2 z (by omega), ?_⟩⟩
    exact PRB_loc (M := M') (c := dcB b') (s0 := 0) (e0 := e1) (i0 := 0) (j0 := j1) (fun a k u v w x => uI_o (by omega)) (fun _ _ _ => rfl) rfl rfl (by omega) q 3 _ _ _ _ (by omega) (by omega) (by omega) (by omega) P2
  · exact ⟨zI 0, M', X', by rw [kFe, a1, Option.bind_some]; exact q1, mo, fM, fMJ, fMR, fX, fJ, fR, f0, f8, Or.inr ⟨rfl, hB⟩⟩
