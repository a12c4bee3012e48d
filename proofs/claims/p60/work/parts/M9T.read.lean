/-! ===== land, days: both at a sign ===== -/
/-- the tape, its end, the words that are kept: alike in the class's reader a and in the reference -/
def EV (T : Int → Int) (E : Int) (a : Nat) (M X : KM) : Prop := M.2.2 a 1 = 2 ∧ M.1 a 2 = zI E ∧ X.1 227 9 = zI E ∧ (∀ z, 0 ≤ z → z < 900 → M.1 2 z.toNat = zI (T z) ∧ -128 ≤ T z ∧ T z < 128) ∧ (∀ z, 0 ≤ z → z < 900 → X.1 231 z.toNat = zI (T z) ∧ -128 ≤ T z ∧ T z < 128) ∧ ∀ k : Nat, k < 26 → M.2.1 (a + 1) k = kwd k
/-- both stand at the same sign, which begins at s; k its kind, j the number of its word or -1, v its number -/
def SG (a : Nat) (E s k j v : Int) (M X : KM) : Prop := ∃ (q l : Int) (w : Int64), 0 ≤ s ∧ s ≤ q ∧ q ≤ E ∧ (¬ k = 0 → s < q) ∧ 0 ≤ k ∧ k ≤ 4 ∧ -1 ≤ j ∧ j < 26 ∧ 0 ≤ l ∧ l ≤ 900 ∧
  M.1 a 10 = zI s ∧ X.1 227 15 = zI s ∧ M.1 a 3 = zI q ∧ X.1 227 16 = zI q ∧ M.1 a 6 = zI k ∧ X.1 227 14 = zI k ∧ M.1 a 7 = zI j ∧ M.2.1 a 9 = w ∧
  (∀ i : Nat, i < 26 → ((k = 1 ∧ X.2.1 227 19 = kwd i) ↔ j = i)) ∧ (k = 1 → X.1 227 18 = zI l) ∧ (w = lI 0 ↔ ¬ (k = 1 ∧ l ≤ 8 ∧ j = -1)) ∧ (¬ w = lI 0 → X.2.1 227 19 = w) ∧ (0 ≤ j → k = 1) ∧
  (k = 2 → M.1 a 8 = zI v ∧ X.1 227 17 = zI v ∧ 0 ≤ v ∧ v ≤ 9999) ∧ (k = 3 → M.1 a 8 = zI v ∧ X.1 227 17 = zI v ∧ (v = 59 ∨ v = 60 ∨ v = 61 ∨ v = 62))
def FA (a : Nat) (M M' : KM) : Prop := (∀ c i, ¬ (c = a ∧ 3 ≤ i ∧ i ≤ 11 ∧ ¬ i = 4 ∧ ¬ i = 5) → M'.1 c i = M.1 c i) ∧ (∀ c i, ¬ (c = a ∧ i = 9) → M'.2.1 c i = M.2.1 c i) ∧ M'.2.2 = M.2.2
def GA (X X' : KM) : Prop := (∀ c i, ¬ (c = 227 ∧ 14 ≤ i ∧ i ≤ 18) → X'.1 c i = X.1 c i) ∧ (∀ c i, ¬ (c = 227 ∧ i = 19) → X'.2.1 c i = X.2.1 c i) ∧ X'.2.2 = X.2.2
theorem lgT {x y : Int64} (h : x = y) : lg_cmp x y = 0 := by rw [lg_eq]; exact h
theorem lgF {x y : Int64} (h : ¬ x = y) : ¬ lg_cmp x y = 0 := by rw [lg_eq]; exact h
theorem lgz {x y : Int64} : (lg_cmp x y = zI 0) = (x = y) := lg_eq x y
theorem kwd_inj : ∀ i j : Fin 26, kwd i.val = kwd j.val → i = j := by decide
theorem kwd_r : ∀ i : Fin 26, kwd i.val ≠ lI 0 ∧ kwd i.val ≠ lI (-1) := by decide
/-- the class's row of kept words, asked for a code -/
theorem c_kept {a : Nat} {v : Int64} {M : KM} {κ : Int32 → Option KM} {κ' : Option KM} (hk : ∀ k : Nat, k < 26 → M.2.1 (a + 1) k = kwd k) {n : Nat} (hn : 30 < n) : (∃ i : Nat, i < 26 ∧ v = kwd i ∧ lp_X9_scanWord_113 n a v M (zI 0) κ κ' = κ (zI i)) ∨ ((∀ i : Nat, i < 26 → ¬ v = kwd i) ∧ lp_X9_scanWord_113 n a v M (zI 0) κ κ' = κ') := by
  have e := loop_fst (lp := fun n i => lp_X9_scanWord_113 n a v M i κ κ') (P := fun i => decide (M.2.1 (a + 1) i.toNat = v)) (res := fun i => if i < 0 then κ' else κ (zI i)) (N := 0) (R := 26) (fun n i hn h1 h2 => by
      rw [lp_X9_scanWord_113]
      simp (disch := first | omega | assumption) only [↓lt, ↓reduceIte, zl, lgz, zleF, if_false, ixT, zidx, if_true, zadd]
      by_cases q : M.2.1 (a + 1) i.toNat = v
      · rw [if_pos q, if_pos (decide_eq_true q), if_neg (by omega)]
      · rw [if_neg q, if_neg (by simpa using q)]) (fun n hn => by
      rw [lp_X9_scanWord_113]
      simp (disch := first | omega | assumption) only [↓reduceIte, zl, zleT, if_true]
      rfl) 26 0 n (by omega) (by omega) (by omega)
  rcases fst_r (P := fun i => decide (M.2.1 (a + 1) i.toNat = v)) 26 0 (by omega) with ⟨f1, f2⟩ | ⟨f1, f2, f3, f4⟩
  · right
    refine ⟨fun i hi hv => ?_, ?_⟩
    · have := f2 (i : Int) (by omega) (by omega)
      rw [Int.toNat_natCast, hk i hi] at this
      exact absurd hv.symm (by simpa using this)
    · rw [e, f1, if_pos (by omega)]
  · left
    have e3 : M.2.1 (a + 1) (fstI (fun i => decide (M.2.1 (a + 1) i.toNat = v)) 26 0).toNat = v := by simpa using f3
    refine ⟨(fstI (fun i => decide (M.2.1 (a + 1) i.toNat = v)) 26 0).toNat, by omega, ?_, ?_⟩
    · rw [← hk _ (by omega)]; exact e3.symm
    · rw [e, if_neg (by omega), Int.toNat_of_nonneg f1]
/-- a word, in the class -/
theorem c_word {T : Int → Int} {E s : Int} {a : Nat} {M : KM} {n : Nat} (ha : a = 5 ∨ a = 8) (h1 : 0 ≤ E) (h2 : E ≤ 900) (hs : 0 ≤ s) (hE : s < E) (t1 : 97 ≤ T s) (t2 : T s ≤ 122) (r1 : M.2.2 a 1 = 2) (e2 : M.1 a 2 = zI E) (hT : ∀ z, 0 ≤ z → z < 900 → M.1 2 z.toNat = zI (T z) ∧ -128 ≤ T z ∧ T z < 128) (hk : ∀ k : Nat, k < 26 → M.2.1 (a + 1) k = kwd k) (h10 : M.1 a 10 = zI s) (h3 : M.1 a 3 = zI s) (h7 : M.1 a 7 = zI (-1)) (h9 : M.2.1 a 9 = lI 0) (hn : 1000 < n) :
    ∃ M' j, f_X9_scanWord n a M = some M' ∧ M'.1 a 3 = zI (woB T E s 900 s 0).1 ∧ M'.1 a 6 = zI 1 ∧ M'.1 a 7 = zI j ∧ -1 ≤ j ∧ j < 26 ∧ (M'.2.1 a 9 = lI 0 ↔ ¬ ((woB T E s 900 s 0).1 - s ≤ 8 ∧ j = -1)) ∧ (¬ M'.2.1 a 9 = lI 0 → M'.2.1 a 9 = lI (woB T E s 900 s 0).2) ∧ (8 < (woB T E s 900 s 0).1 - s → j = -1) ∧ ((woB T E s 900 s 0).1 - s ≤ 8 → ∀ i : Nat, i < 26 → (lI (woB T E s 900 s 0).2 = kwd i ↔ j = i)) ∧ (∀ c i, ¬ (c = a ∧ (i = 3 ∨ i = 6 ∨ i = 7)) → M'.1 c i = M.1 c i) ∧ (∀ c i, ¬ (c = a ∧ i = 9) → M'.2.1 c i = M.2.1 c i) ∧ M'.2.2 = M.2.2 := by
  have w1 := wo_1 (k := 899) hE t1 t2
  have L := c_letters (T := T) (E := E) (s := s) (a := a) (κ := (fun (u15 : Int64) (M16 : KM) => (
      if ((M16.1 a 3) - (M16.1 a 10)) ≤ (8 : Int32) then
        lp_X9_scanWord_113 n a u15 M16 (0 : Int32)
          (fun (u21 : Int32) => (
            lt (uI M16 a 7 u21) fun (M22 : KM) =>
            some M22
          ))
          ((
            lt (uJ M16 a 9 u15) fun (M23 : KM) =>
            some M23
          ))
      else
        some M16
    ))) ha h1 h2 hs 900 s 0 (uI M a 6 (zI 1)) n r1 (by rw [uI_o (by omega)]; exact e2) (fun z u v => by rw [uI_o (by omega)]; exact hT z u v) (by rw [uI_o (by omega)]; exact h10) (by rw [uI_o (by omega)]; exact h3) (by omega) (by omega) (by omega) (by omega)
  have U : f_X9_scanWord n a M = lp_X9_scanWord_7 n a (lI 0) (uI M a 6 (zI 1)) (fun (u15 : Int64) (M16 : KM) => (
      if ((M16.1 a 3) - (M16.1 a 10)) ≤ (8 : Int32) then
        lp_X9_scanWord_113 n a u15 M16 (0 : Int32)
          (fun (u21 : Int32) => (
            lt (uI M16 a 7 u21) fun (M22 : KM) =>
            some M22
          ))
          ((
            lt (uJ M16 a 9 u15) fun (M23 : KM) =>
            some M23
          ))
      else
        some M16
    )) := rfl
  rw [U, L]
  generalize hW : woB T E s 900 s 0 = W at w1 ⊢
  obtain ⟨q, v⟩ := W
  simp only at w1 ⊢
  have g3 : (uI (uI M a 6 (zI 1)) a 3 (zI q)).1 a 3 = zI q := uI_s
  have g10 : (uI (uI M a 6 (zI 1)) a 3 (zI q)).1 a 10 = zI s := by rw [uI_o (by omega), uI_o (by omega)]; exact h10
  have fr : ∀ c i, ¬ (c = a ∧ (i = 3 ∨ i = 6 ∨ i = 7)) → (uI (uI M a 6 (zI 1)) a 3 (zI q)).1 c i = M.1 c i := fun c i h => by rw [uI_o (by omega), uI_o (by omega)]
  rw [g3, g10, zsub]
  by_cases q8 : q - s ≤ 8
  · rw [if_pos (show zI (q - s) ≤ (8 : Int32) by rw [show ((8 : Int32)) = zI 8 from rfl, zleT q8 (by omega) (by omega)]; trivial)]
    have v0 : ¬ lI v = lI 0 := fun h => by
      have := congrArg Int64.toInt h
      rw [lI_toInt (by omega) (by omega), lI_toInt (by omega) (by omega)] at this
      omega
    rcases c_kept (a := a) (v := lI v) (M := uI (uI M a 6 (zI 1)) a 3 (zI q)) (κ := (fun (u21 : Int32) => (
            lt (uI (uI (uI M a 6 (zI 1)) a 3 (zI q)) a 7 u21) fun (M22 : KM) =>
            some M22
          ))) (κ' := ((
            lt (uJ (uI (uI M a 6 (zI 1)) a 3 (zI q)) a 9 (lI v)) fun (M23 : KM) =>
            some M23
          ))) (n := n) hk (by omega) with ⟨i, i1, i2, i3⟩ | ⟨i1, i2⟩
    · refine ⟨uI (uI (uI M a 6 (zI 1)) a 3 (zI q)) a 7 (zI i), i, i3, ?_, ?_, uI_s, by omega, by omega, ?_, ?_, by omega, fun _ k hk2 => ?_, fun c k h => ?_, fun _ _ _ => rfl, rfl⟩
      · rw [uI_o (by omega)]; exact g3
      · rw [uI_o (by omega), uI_o (by omega)]; exact uI_s
      · exact ⟨fun _ h => by omega, fun _ => h9⟩
      · exact fun h => absurd h9 h
      · rw [i2]
        exact ⟨fun h => by
          have := kwd_inj ⟨i, i1⟩ ⟨k, hk2⟩ h
          have := congrArg Fin.val this
          simp only at this
          omega, fun h => by rw [show i = k by omega]⟩
      · rw [uI_o (by omega)]; exact fr c k h
    · refine ⟨uJ (uI (uI M a 6 (zI 1)) a 3 (zI q)) a 9 (lI v), -1, i2, g3, ?_, ?_, by omega, by omega, ?_, ?_, by omega, fun _ k hk2 => ?_, fun c k h => fr c k h, fun c k h => uJ_o h, rfl⟩
      · show (uI (uI M a 6 (zI 1)) a 3 (zI q)).1 a 6 = zI 1
        rw [uI_o (by omega)]; exact uI_s
      · show (uI (uI M a 6 (zI 1)) a 3 (zI q)).1 a 7 = _
        rw [uI_o (by omega), uI_o (by omega)]; exact h7
      · rw [uJ_s]
        exact ⟨fun h => absurd h v0, fun h => absurd ⟨q8, rfl⟩ h⟩
      · intro _; exact uJ_s
      · exact ⟨fun h => absurd h (i1 k hk2), fun h => by omega⟩
  · rw [if_neg (show ¬ zI (q - s) ≤ (8 : Int32) by rw [show ((8 : Int32)) = zI 8 from rfl, zleF (by omega) (by omega) (by omega)]; exact id)]
    refine ⟨_, -1, rfl, g3, ?_, ?_, by omega, by omega, ?_, ?_, by omega, fun h => absurd h q8, fr, fun _ _ _ => rfl, rfl⟩
    · rw [uI_o (by omega)]; exact uI_s
    · rw [uI_o (by omega), uI_o (by omega)]; exact h7
    · exact ⟨fun _ h => q8 h.1, fun _ => h9⟩
    · exact fun h => absurd h9 h

