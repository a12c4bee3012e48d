/-! ===== land: the text, whole ===== -/
/-- what stands between the calls, made of what stood: a text was read -/
theorem CR_mk {M M' : KM} {L L' : Nat} {b b' : Int → Int} (h : CR M L b) (hNM : NM M' L' b' (fun z => M'.2.1 235 z.toNat)) (hPR : PR M' (M'.2.2 L' 7) b')
    (h1 : ∀ a k, (a = 4 ∨ (105 ≤ a ∧ a < 227) ∨ a = 228 ∨ a = 229 ∨ a = 243 ∨ (a = 0 ∧ k = 14) ∨ (a = 227 ∧ (k = 24 ∨ k = 38))) → M'.1 a k = M.1 a k)
    (hT : ∀ k : Nat, M'.1 231 k = M.1 231 k ∧ M'.1 2 k = M.1 2 k)
    (h2 : ∀ a k, (a = 6 ∨ a = 9 ∨ (105 ≤ a ∧ a < 227) ∨ a = 230 ∨ (a = 235 ∧ 16 ≤ k ∧ k < 64) ∨ (a = 0 ∧ (k = 18 ∨ k = 19)) ∨ (a = 227 ∧ (k = 2 ∨ k = 3))) → M'.2.1 a k = M.2.1 a k)
    (t0 : M'.1 0 13 = zI 0) (t1 : M'.1 227 8 = zI 0) (f1 : M'.1 227 10 = M'.1 0 16) (f2 : M'.1 227 11 = M'.1 0 17)
    (ho : ∀ l : Nat, l = 23 ∨ l = 61 ∨ l = 113 ∨ l = 151 ∨ l = 189 → ¬ l = L' → ∀ p : Nat, p < 8 → (M'.1 (l + 14 + 3 * p) 3 = zI 0 ∨ M'.1 (l + 14 + 3 * p) 3 = zI 1) ∧ (M'.1 (l + 14 + 3 * p) 4 = zI 0 ∨ M'.1 (l + 14 + 3 * p) 4 = zI 1))
    (h4 : ∀ z, 562 ≤ z → z < 2248 → b' z = b z) : CR M' L' b' := by
  obtain ⟨a1, a2, ⟨mk, a3, a4, a5, a6, a7⟩, ⟨tp, a8, a9, a10, a11⟩, a12, a13, a14, a15, a16, a17, a18, a19, a20⟩ := h
  refine ⟨hNM, hPR, ⟨mk, a3, a4, ?_, ?_, fun i hi hi2 => ?_⟩, ⟨0, by omega, by omega, t0, t1⟩, fun k hk => ?_, f1, f2, ?_, ?_, fun t ht ht2 => ?_, ?_, ho, fun k hk => ?_⟩
  · rw [h1 _ _ (by omega)]; exact a5
  · rw [h1 _ _ (by omega)]; exact a6
  · obtain ⟨c1, c2, c3⟩ := a7 i hi hi2
    have e : sh b' (562 * (i + 1)) = sh b (562 * (i + 1)) := by
      funext z
      simp only [sh]
      by_cases x : 0 ≤ z ∧ z < 562
      · rw [if_pos x, if_pos x]; exact h4 _ (by omega) (by omega)
      · rw [if_neg x, if_neg x]
    have e0 := c1.2.2.1.1
    unfold WH at e0
    rw [e]
    exact ⟨LOK_of (fun a k x y => h1 a k (by omega)) (fun a k x y => h1 a k (by omega)) c1, NM_c (w := fun z => M.2.1 235 (16 * (i + 1) + z).toNat) (fun _ _ _ => rfl) (fun z u v => h2 235 _ (by omega)) (by omega) (by omega) (NM_of (fun a k x y => h2 a k (by omega)) (fun _ => rfl) rfl rfl (by omega) c2), PR_of (fun a k x y => h1 a k (by omega)) (fun z _ _ => rfl) rfl rfl c3⟩
  · rw [(hT k).1, (hT k).2]; exact a12 k hk
  · rw [h2 227 _ (by omega), h2 0 _ (by omega)]; exact a15
  · rw [h2 227 _ (by omega), h2 0 _ (by omega)]; exact a16
  · obtain ⟨s, m, c1, c2, c3, c4, c5, c6, c7, c8, c9⟩ := a17 t ht ht2
    refine ⟨s, m, c1, c2, c3, c4, ?_, ?_, ?_, ?_, fun k x y => ?_⟩
    · rw [h1 _ _ (by omega)]; exact c5
    · rw [h1 _ _ (by omega)]; exact c6
    · rw [h1 _ _ (by omega)]; exact c7
    · rw [h1 _ _ (by omega)]; exact c8
    · rw [h2 _ _ (by omega), h2 230 _ (by omega)]; exact c9 k x y
  · rcases a18 with ⟨c1, c2⟩ | ⟨c1, ⟨v, c2, c3, c4⟩, c5⟩
    · refine Or.inl ⟨?_, ?_⟩
      · rw [h1 _ _ (by omega)]; exact c1
      · rw [h1 _ _ (by omega)]; exact c2
    · refine Or.inr ⟨?_, ⟨v, c2, c3, ?_⟩, fun k hk => ?_⟩
      · rw [h1 _ _ (by omega)]; exact c1
      · rw [h1 _ _ (by omega)]; exact c4
      · rw [h1 243 _ (by omega), h1 4 _ (by omega)]; exact c5 k hk
  · rw [h2 6 _ (by omega), h2 9 _ (by omega)]; exact a20 k hk
/-- the reference behind the last part -/
def mL (n : Nat) (M12 : KM) : Option (Int32 × KM) :=
        lt (f_X12_isWell 227 M12) fun (v13 : (Int32 × KM)) =>
        if v13.1 = 0 then
          some ((-1 : Int32), v13.2)
        else
          (f_X12_copy n 227 (4 : Int32) (0 : Int32) v13.2).bind fun (v14 : KM) =>
          if ix (2 : Int32) 2810 then
          some ((v14.1 232 ((2 : Int32)).toNatClampNeg), v14)
          else none
theorem m_land_eq {n : Nat} {E : Int32} {X : KM} : f_X12_land n 227 E X = (f_X12_starts n 227 E (900 : Int32) (uI (uI X 227 1 (0 : Int32)) 227 0 (0 : Int32))).bind fun (v3 : (Int32 × KM)) => if v3.1 = 0 then some ((-1 : Int32), v3.2) else (f_X12_empties n 227 (4 : Int32) v3.2).bind fun (v4 : KM) => lp_X12_land_38 n 227 (uI (uI v4 227 25 (0 : Int32)) 227 26 (0 : Int32)) (mL n) := rfl
theorem m_starts {X X' : KM} {E tp mx : Int} {n : Nat} (E0 : 0 ≤ E) (E1 : E ≤ tp) (E2 : E ≤ mx) (t9 : tp ≤ 900) (m9 : mx ≤ 900) (h8 : X.1 227 8 = zI tp) (e : f_X12_advance n 227 (uI (uI (uI (uI X 227 9 (zI E)) 227 8 (zI 0)) 227 16 (zI 0)) 227 12 (zI 0)) = some X') : f_X12_starts n 227 (zI E) (zI mx) X = some (zI 1, X') := by
  unfold f_X12_starts
  simp (disch := first | omega | assumption) only [↓lt, ↓reduceIte, zl, h8, zltF, zleT, if_true, if_false, e, Option.bind_some]
theorem EV_F {T : Int → Int} {E : Int} {a : Nat} {M M' X X' : KM} (ha : ¬ a = 2) (h1 : FC a M M') (h2 : GC X X') (h : EV T E a M X) : EV T E a M' X' := by
  obtain ⟨q1, q2, q3, q4, q5, q6⟩ := h
  exact ⟨by rw [h1.2.2]; exact q1, by rw [h1.1 _ _ (by omega)]; exact q2, by rw [h2.1 _ _ (by omega)]; exact q3, fun z u w => by rw [h1.1 _ _ (by omega)]; exact q4 z u w, fun z u w => by rw [h2.1 _ _ (by omega)]; exact q5 z u w, fun k u => by rw [h1.2.1 _ _ (by omega)]; exact q6 k u⟩
theorem land_run {M X : KM} {L S P : Nat} {b bx : Int → Int} {E tp : Int} {n : Nat} (hS : S = 23 ∨ S = 61) (hP : M.2.2 S 7 = P) (h3 : P = 31 ∨ P = 69 ∨ P = 99) (hSL : ¬ S = L) (hC : CR M L b) (E0 : 0 ≤ E) (E1 : E ≤ tp) (t9 : tp ≤ 900) (h8 : X.1 227 8 = zI tp) (hx : ∀ k : Nat, k < 900 → X.1 231 k = M.1 231 k) (hb : X = cs X bx) (hn : 2200 ≤ n) :
    ∃ r M' X', f_X3_readInto n 5 S 2 (zI E) M = some (r, M') ∧ f_X12_land n 227 (zI E) X = mL n X' ∧
      (∀ c i, ¬ c = 5 → ¬ (S ≤ c ∧ c < S + 38 ∧ ¬ (S + 8 ≤ c ∧ c < S + 14)) → ¬ c = P → M'.1 c i = M.1 c i) ∧ (∀ c i, ¬ c = 5 → ¬ (S ≤ c ∧ c < S + 38 ∧ ¬ (S + 8 ≤ c ∧ c < S + 14)) → M'.2.1 c i = M.2.1 c i) ∧ (∀ c i, ¬ (c = 5 ∧ i = 1) → M'.2.2 c i = M.2.2 c i) ∧
      (∀ c i, ¬ (c = 227 ∧ (i ≤ 1 ∨ i = 8 ∨ i = 9 ∨ (12 ≤ i ∧ i ≤ 18) ∨ i = 25 ∨ i = 26)) → ¬ (c = 232 ∧ 2248 ≤ i) → X'.1 c i = X.1 c i) ∧ (∀ c i, ¬ (c = 227 ∧ i = 19) → ¬ (c = 235 ∧ 64 ≤ i) → X'.2.1 c i = X.2.1 c i) ∧ X'.2.2 = X.2.2 ∧ X'.1 227 0 = zI 0 ∧ X'.1 227 8 = zI 0 ∧
      ((r = zI 1 ∧ (∃ b', LB S b' M' X') ∧ X'.1 227 12 = zI 0 ∧ M'.1 5 4 = zI 0 ∧ M'.1 5 5 = zI (-1)) ∨ (r = zI 0 ∧ BD 5 M' X' ∧ P01 M' S)) := by
  obtain ⟨cl2, l8, l9, l10, l11, l12, l13, l14, l15, l70, l71, l72, lp5, lp6, lp7, lo⟩ := c_clear hP h3 hS
  obtain ⟨-, -, -, -, ct, -, -, -, -, -, -, co, ck⟩ := hC
  generalize hN : f_X2_clear S M = N at *
  -- the class before its first sign
  have hMb : f_X3_readInto n 5 S 2 (zI E) M = (f_X9_advance n 5 (uI (uI (uI (uI (uI (uR (uI (uI N 5 12 (zI 0)) 5 13 (zI 0)) 5 1 2) 5 2 (zI E)) 5 3 (zI 0)) 5 11 (zI 0)) 5 4 (zI 0)) 5 5 (zI (-1)))).bind (fun v4 => lp_X3_readInto_23 n 5 S (0 : Int32) v4) := by
    unfold f_X3_readInto f_X9_begin
    rw [hN, lt, lt, lt, lt, lt]
    have e9 : (if Int32.ofNat (ktl (kty 2)) < zI E then Int32.ofNat (ktl (kty 2)) else zI E) = zI E := by
      rw [tp900, if_neg (by rw [show Int32.ofNat 900 = zI 900 from rfl, zltF (by omega) (by omega) (by omega)]; exact id)]
    rw [e9, lt, lt, lt, lt, lt]
    rw [bsome]
    rfl
  have n5 : ∀ a k, ¬ a = 5 → (uI (uI (uI (uI (uI (uR (uI (uI N 5 12 (zI 0)) 5 13 (zI 0)) 5 1 2) 5 2 (zI E)) 5 3 (zI 0)) 5 11 (zI 0)) 5 4 (zI 0)) 5 5 (zI (-1))).1 a k = N.1 a k := fun a k q => by
    rw [uI_o (by omega), uI_o (by omega), uI_o (by omega), uI_o (by omega), uI_o (by omega), uR_i, uI_o (by omega), uI_o (by omega)]
  have c3 : (uI (uI (uI (uI (uI (uR (uI (uI N 5 12 (zI 0)) 5 13 (zI 0)) 5 1 2) 5 2 (zI E)) 5 3 (zI 0)) 5 11 (zI 0)) 5 4 (zI 0)) 5 5 (zI (-1))).1 5 3 = zI 0 := by
    rw [uI_o (by omega), uI_o (by omega), uI_o (by omega), uI_s]
  have c2 : (uI (uI (uI (uI (uI (uR (uI (uI N 5 12 (zI 0)) 5 13 (zI 0)) 5 1 2) 5 2 (zI E)) 5 3 (zI 0)) 5 11 (zI 0)) 5 4 (zI 0)) 5 5 (zI (-1))).1 5 2 = zI E := by
    rw [uI_o (by omega), uI_o (by omega), uI_o (by omega), uI_o (by omega), uI_s]
  have c4 : (uI (uI (uI (uI (uI (uR (uI (uI N 5 12 (zI 0)) 5 13 (zI 0)) 5 1 2) 5 2 (zI E)) 5 3 (zI 0)) 5 11 (zI 0)) 5 4 (zI 0)) 5 5 (zI (-1))).1 5 4 = zI 0 := by
    rw [uI_o (by omega), uI_s]
  have c5 : (uI (uI (uI (uI (uI (uR (uI (uI N 5 12 (zI 0)) 5 13 (zI 0)) 5 1 2) 5 2 (zI E)) 5 3 (zI 0)) 5 11 (zI 0)) 5 4 (zI 0)) 5 5 (zI (-1))).1 5 5 = zI (-1) := uI_s
  have c12 : (uI (uI (uI (uI (uI (uR (uI (uI N 5 12 (zI 0)) 5 13 (zI 0)) 5 1 2) 5 2 (zI E)) 5 3 (zI 0)) 5 11 (zI 0)) 5 4 (zI 0)) 5 5 (zI (-1))).1 5 12 = zI 0 := by
    rw [uI_o (by omega), uI_o (by omega), uI_o (by omega), uI_o (by omega), uI_o (by omega), uR_i, uI_o (by omega), uI_s]
  have c13 : (uI (uI (uI (uI (uI (uR (uI (uI N 5 12 (zI 0)) 5 13 (zI 0)) 5 1 2) 5 2 (zI E)) 5 3 (zI 0)) 5 11 (zI 0)) 5 4 (zI 0)) 5 5 (zI (-1))).1 5 13 = zI 0 := by
    rw [uI_o (by omega), uI_o (by omega), uI_o (by omega), uI_o (by omega), uI_o (by omega), uR_i, uI_s]
  have cJ : (uI (uI (uI (uI (uI (uR (uI (uI N 5 12 (zI 0)) 5 13 (zI 0)) 5 1 2) 5 2 (zI E)) 5 3 (zI 0)) 5 11 (zI 0)) 5 4 (zI 0)) 5 5 (zI (-1))).2.1 = M.2.1 := by
    show N.2.1 = M.2.1
    rw [cl2]
  have cR : ∀ a k, ¬ (a = 5 ∧ k = 1) → (uI (uI (uI (uI (uI (uR (uI (uI N 5 12 (zI 0)) 5 13 (zI 0)) 5 1 2) 5 2 (zI E)) 5 3 (zI 0)) 5 11 (zI 0)) 5 4 (zI 0)) 5 5 (zI (-1))).2.2 a k = M.2.2 a k := fun a k q => by
    show (uR (uI (uI N 5 12 (zI 0)) 5 13 (zI 0)) 5 1 2).2.2 a k = _
    rw [uR_o q]
    show N.2.2 a k = _
    rw [cl2]
  have cR1 : (uI (uI (uI (uI (uI (uR (uI (uI N 5 12 (zI 0)) 5 13 (zI 0)) 5 1 2) 5 2 (zI E)) 5 3 (zI 0)) 5 11 (zI 0)) 5 4 (zI 0)) 5 5 (zI (-1))).2.2 5 1 = 2 := by
    show (uR (uI (uI N 5 12 (zI 0)) 5 13 (zI 0)) 5 1 2).2.2 5 1 = 2
    exact uR_s
  generalize (uI (uI (uI (uI (uI (uR (uI (uI N 5 12 (zI 0)) 5 13 (zI 0)) 5 1 2) 5 2 (zI E)) 5 3 (zI 0)) 5 11 (zI 0)) 5 4 (zI 0)) 5 5 (zI (-1))) = B at *
  -- the reference before its first sign
  have x5o : ∀ a k, ¬ (a = 227 ∧ (k ≤ 1 ∨ k = 8 ∨ k = 9 ∨ k = 12 ∨ k = 16)) → (uI (uI (uI (uI (uI (uI X 227 1 (zI 0)) 227 0 (zI 0)) 227 9 (zI E)) 227 8 (zI 0)) 227 16 (zI 0)) 227 12 (zI 0)).1 a k = X.1 a k := fun a k q => by
    rw [uI_o (by omega), uI_o (by omega), uI_o (by omega), uI_o (by omega), uI_o (by omega), uI_o (by omega)]
  have x5z : (uI (uI (uI (uI (uI (uI X 227 1 (zI 0)) 227 0 (zI 0)) 227 9 (zI E)) 227 8 (zI 0)) 227 16 (zI 0)) 227 12 (zI 0)).1 227 0 = zI 0 := by
    rw [uI_o (by omega), uI_o (by omega), uI_o (by omega), uI_o (by omega), uI_s]
  have x58 : (uI (uI (uI (uI (uI (uI X 227 1 (zI 0)) 227 0 (zI 0)) 227 9 (zI E)) 227 8 (zI 0)) 227 16 (zI 0)) 227 12 (zI 0)).1 227 8 = zI 0 := by
    rw [uI_o (by omega), uI_o (by omega), uI_s]
  have x59 : (uI (uI (uI (uI (uI (uI X 227 1 (zI 0)) 227 0 (zI 0)) 227 9 (zI E)) 227 8 (zI 0)) 227 16 (zI 0)) 227 12 (zI 0)).1 227 9 = zI E := by
    rw [uI_o (by omega), uI_o (by omega), uI_o (by omega), uI_s]
  have x516 : (uI (uI (uI (uI (uI (uI X 227 1 (zI 0)) 227 0 (zI 0)) 227 9 (zI E)) 227 8 (zI 0)) 227 16 (zI 0)) 227 12 (zI 0)).1 227 16 = zI 0 := by
    rw [uI_o (by omega), uI_s]
  have x512 : (uI (uI (uI (uI (uI (uI X 227 1 (zI 0)) 227 0 (zI 0)) 227 9 (zI E)) 227 8 (zI 0)) 227 16 (zI 0)) 227 12 (zI 0)).1 227 12 = zI 0 := uI_s
  have x5J : (uI (uI (uI (uI (uI (uI X 227 1 (zI 0)) 227 0 (zI 0)) 227 9 (zI E)) 227 8 (zI 0)) 227 16 (zI 0)) 227 12 (zI 0)).2 = X.2 := rfl
  have ms := fun X' => m_starts (X := uI (uI X 227 1 (zI 0)) 227 0 (zI 0)) (X' := X') (E := E) (tp := tp) (mx := 900) (n := n) E0 E1 (by omega) t9 (by omega) (by rw [uI_o (by omega), uI_o (by omega)]; exact h8)
  generalize (uI (uI (uI (uI (uI (uI X 227 1 (zI 0)) 227 0 (zI 0)) 227 9 (zI E)) 227 8 (zI 0)) 227 16 (zI 0)) 227 12 (zI 0)) = X5 at *
  -- the first sign
  have tpe : ∀ z : Int, 0 ≤ z → z < 900 → M.1 2 z.toNat = zI (M.1 2 z.toNat).toInt ∧ -128 ≤ (M.1 2 z.toNat).toInt ∧ (M.1 2 z.toNat).toInt < 128 := fun z u v => by
    obtain ⟨-, t, t1, t2, t3⟩ := ct z.toNat (by omega)
    rw [t3, zI_toInt (by omega) (by omega)]
    exact ⟨rfl, t1, t2⟩
  have ev : EV (fun z => (M.1 2 z.toNat).toInt) E 5 B X5 := ⟨cR1, c2, x59, fun z u v => by rw [n5 _ _ (by omega), lo _ _ (by omega) (by omega) (by omega)]; exact tpe z u v, fun z u v => by rw [x5o _ _ (by omega), hx _ (by omega), (ct z.toNat (by omega)).1]; exact tpe z u v, fun k hk => by rw [cJ]; exact (ck k hk).1⟩
  obtain ⟨M1, X6, s, k, j, v, a1, a2, a3, a4, a5, a6, a7⟩ := adv (n := n) (Or.inl rfl) E0 (by omega) ev c3 x516 (by omega) E0 (by omega)
  have hE : 0 ≤ E ∧ E ≤ 900 := by omega
  have row6 : X6 = cs X6 bx := by
    have : ∀ k, X6.1 232 k = X.1 232 k := fun k => by rw [a7.1 _ _ (by omega), x5o _ _ (by omega)]
    exact cs_row hb this
  obtain ⟨b8, b1, b2, b3⟩ := m_empties (X := X6) (b := bx) (q := 4) (n := n) (by omega) (by omega) (by omega)
  rw [← row6] at b1
  have bs : ∀ i, 0 ≤ i → i < 562 → sh b8 2248 i = emB i := fun i i0 i1 => by rw [sh_at i0 i1]; exact b3 i i0 i1
  have cO : ∀ a k, ¬ a = 5 → M1.1 a k = N.1 a k := fun a k q => by rw [a6.1 a k (by omega), n5 a k q]
  have g0 : GD (fun z => (M.1 2 z.toNat).toInt) E 5 s k j v M1 X6 := by
    refine ⟨EV_F (by omega) (FA_C a6) (GA_C a7) ev, a3, ?_, ?_, ?_⟩
    · rw [a7.1 _ _ (by omega)]; exact x512
    · rw [a6.1 _ _ (by omega)]; exact c4
    · rw [a6.1 _ _ (by omega)]; exact c5
  have x8o : ∀ a k, ¬ (a = 227 ∧ (k = 25 ∨ k = 26)) → ¬ a = 232 → (uI (uI (cs X6 b8) 227 25 (zI 0)) 227 26 (zI 0)).1 a k = X6.1 a k := fun a k q w => by
    rw [uI_o (by omega), uI_o (by omega), cs_o w]
  have x8r : ∀ k : Nat, (uI (uI (cs X6 b8) 227 25 (zI 0)) 227 26 (zI 0)).1 232 k = zI (b8 k) := fun k => by
    rw [uI_o (by omega), uI_o (by omega)]
    have := cs_c (M := X6) (b := b8) (z := (k : Int)) (by omega)
    rw [Int.toNat_natCast] at this
    exact this
  have x825 : (uI (uI (cs X6 b8) 227 25 (zI 0)) 227 26 (zI 0)).1 227 25 = zI 0 := by rw [uI_o (by omega), uI_s]
  have x826 : (uI (uI (cs X6 b8) 227 25 (zI 0)) 227 26 (zI 0)).1 227 26 = zI 0 := uI_s
  have x8J : (uI (uI (cs X6 b8) 227 25 (zI 0)) 227 26 (zI 0)).2 = X6.2 := rfl
  have em : f_X12_land n 227 (zI E) X = lp_X12_land_38 n 227 (uI (uI (cs X6 b8) 227 25 (zI 0)) 227 26 (zI 0)) (mL n) := by
    rw [m_land_eq, show f_X12_starts n 227 (zI E) (900 : Int32) (uI (uI X 227 1 (0 : Int32)) 227 0 (0 : Int32)) = some (zI 1, X6) from ms X6 a2, Option.bind_some, if_neg (show ¬ zI 1 = 0 by decide)]
    show (f_X12_empties n 227 (zI 4) X6).bind _ = _
    rw [b1]
    rfl
  generalize (uI (uI (cs X6 b8) 227 25 (zI 0)) 227 26 (zI 0)) = X8 at *
  have g8 : GD (fun z => (M.1 2 z.toNat).toInt) E 5 s k j v M1 X8 := GD_of (M := M1) (X := X6) (fun _ _ _ => rfl) (fun _ _ _ => rfl) rfl (fun c i w => x8o c i (by omega) (by omega)) (by rw [x8J]) g0
  have z0 := bs 0 (by omega) (by omega)
  have z1 := bs 1 (by omega) (by omega)
  have z2 := bs 2 (by omega) (by omega)
  have z3 := bs 3 (by omega) (by omega)
  have z4 := bs 4 (by omega) (by omega)
  have z5 := bs 5 (by omega) (by omega)
  have z6 := bs 6 (by omega) (by omega)
  have z7 := bs 7 (by omega) (by omega)
  have z8 := bs 8 (by omega) (by omega)
  have z9 := bs 9 (by omega) (by omega)
  have e0 : emB 0 = 0 := by decide
  have e1 : emB 1 = 0 := by decide
  have e2 : emB 2 = 0 := by decide
  have hP1 : M1.2.2 S 7 = P := by rw [a6.2.2, cR _ _ (by omega)]; exact hP
  have L8 : LB S b8 M1 X8 := by
    refine ⟨x8r, em_CB bs, ⟨?_, ?_, ?_, ?_, ?_, ?_, ?_, ?_, ?_, ?_, ?_, fun r u v => ?_, fun r u v => ?_, fun r u v => ?_, fun r u v => ?_⟩, fun p u v => ?_, fun p u => ?_, fun k u v => ?_, fun k u v => ?_, ?_, ?_, ?_⟩
    · rw [z0, cO _ _ (by omega)]; exact l8
    · rw [z1, cO _ _ (by omega)]; exact l9
    · rw [z2, cO _ _ (by omega)]; exact l10
    · rw [z5, cO _ _ (by omega)]; exact l11
    · rw [z6, cO _ _ (by omega)]; exact l12
    · rw [z7, cO _ _ (by omega)]; exact l13
    · rw [z8, cO _ _ (by omega)]; exact l14
    · rw [z9, cO _ _ (by omega)]; exact l15
    · rw [z3, cO _ _ (by omega)]; exact l70
    · rw [z4, cO _ _ (by omega)]; exact l71
    · rw [z3, z4, cO _ _ (by omega)]; exact l72
    · rw [z1, e1] at v; omega
    · rw [z1, e1] at v; omega
    · rw [z1, e1] at v; omega
    · rw [z1, e1] at v; omega
    · rw [z2, e2] at v; omega
    · rw [cO _ _ (by omega), cO _ _ (by omega), lo _ _ (by omega) (by omega) (by omega), lo _ _ (by omega) (by omega) (by omega)]
      exact co S (by omega) hSL p u
    · rw [z0, e0] at v; omega
    · rw [z2, e2] at v; omega
    · rw [hP1, cO _ _ (by omega)]; exact lp5
    · rw [hP1, cO _ _ (by omega)]; exact lp6
    · rw [hP1, cO _ _ (by omega)]; exact lp7
  have T8 : TO M1 X8 := by
    refine ⟨0, 0, by omega, by omega, by omega, by omega, ?_, x825, ?_, x826⟩
    · rw [a6.1 _ _ (by omega)]; exact c12
    · rw [a6.1 _ _ (by omega)]; exact c13
  have hsE := SG_s a3
  obtain ⟨r, M', X', d1, d2, d3, d4, d5⟩ := j_parts hE 900 M1 X8 s k j v 0 b8 n (by omega) g8 ⟨by rw [hP1]; exact h3, hS⟩ L8 T8 (by omega) (by omega) (by omega)
  refine ⟨r, M', X', ?_, ?_, fun c i w1 w2 w3 => ?_, fun c i w1 w2 => ?_, fun c i w => ?_, fun c i w1 w2 => ?_, fun c i w1 w2 => ?_, ?_, ?_, ?_, d5⟩
  · rw [hMb, a1, Option.bind_some]; exact d1
  · rw [em]; exact d2 _
  · rw [d3.1 c i w1 w2, cO c i w1, lo c i (by omega) (by omega) (by omega)]
  · rw [d3.2.2.1 c i w1 w2, a6.2.1 c i (by omega), cJ]
  · rw [d3.2.2.2, a6.2.2, cR c i w]
  · rw [d4.1 c i (by omega) w2]
    by_cases q : c = 232
    · subst q
      have w4 : i < 2248 := by omega
      rw [x8r i, b2 _ (by omega)]
      have := congrFun (congrFun (congrArg Prod.fst hb) 232) i
      rw [this]
      have t := cs_c (M := X) (b := bx) (z := (i : Int)) (by omega)
      rw [Int.toNat_natCast] at t
      exact t.symm
    · rw [x8o c i (by omega) q, a7.1 c i (by omega), x5o c i (by omega)]
  · rw [d4.2.1 c i w1 w2, x8J, a7.2.1 c i w1, x5J]
  · rw [d4.2.2, x8J, a7.2.2, x5J]
  · rw [d4.1 _ _ (by omega) (by omega), x8o _ _ (by omega) (by omega), a7.1 _ _ (by omega)]; exact x5z
  · rw [d4.1 _ _ (by omega) (by omega), x8o _ _ (by omega) (by omega), a7.1 _ _ (by omega)]; exact x58
