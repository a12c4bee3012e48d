/-! ===== passes, as the reference walks it ===== -/
theorem stF_or {P Q R : Int → Bool} : ∀ (k : Nat) (i : Int) (w v : Int32), (∀ j, i ≤ j → j < i + k → R j = (P j || Q j)) → fI (stF R) k i (w ||| v) = fI (stF P) k i w ||| fI (stF Q) k i v := by
  intro k
  induction k with
  | zero => intro i w v _; rfl
  | succ k ih =>
    intro i w v h
    simp only [fI]
    have e : stF R i (w ||| v) = stF P i w ||| stF Q i v := by
      unfold stF
      rw [h i (by omega) (by omega)]
      generalize (zI 1 <<< (zI i &&& zI 31)) = x
      cases P i with
      | false =>
        cases Q i with
        | false => rfl
        | true => exact Int32.or_assoc _ _ _
      | true =>
        cases Q i with
        | false =>
          show w ||| v ||| x = w ||| x ||| v
          rw [Int32.or_assoc, Int32.or_comm v x, ← Int32.or_assoc]
        | true =>
          show w ||| v ||| x = w ||| x ||| (v ||| x)
          rw [Int32.or_assoc w x, Int32.or_comm x (v ||| x), Int32.or_assoc v x x, Int32.or_self, Int32.or_assoc]
    rw [e]
    exact ih (i + 1) _ _ (fun j a b => h j (by omega) (by omega))
theorem setB_or {P Q R : Int → Bool} {k : Int} (h : ∀ j, 0 ≤ j → j < k → R j = (P j || Q j)) : setB P k ||| setB Q k = setB R k := by
  have e := stF_or (P := P) (Q := Q) (R := R) k.toNat 0 (zI 0) (zI 0) (fun j a b => h j a (by omega))
  rw [show zI 0 ||| zI 0 = zI 0 by decide] at e
  exact e.symm
def aS (b : Int → Int) (n : Int) : Int32 := setB (fun q => decide (arQ b n q)) 8
theorem aS_step {b : Int → Int} {n : Int} (hb : WB b) (hn : 0 ≤ n) : aS b n ||| cS (cI b n) (AG (cI b n)) = aS b (n + 1) := by
  refine setB_or (fun q h1 h2 => ?_)
  have T := T_c hb hn h1 h2
  by_cases a : arQ b n q
  · rw [decide_eq_true a, decide_eq_true (ar_up hb hn a)]; rfl
  · rw [decide_eq_false a]
    by_cases a2 : arQ b (n + 1) q
    · have t := T.mpr ⟨a, a2⟩
      rw [decide_eq_true a2, t.1, decide_eq_true t.2]; rfl
    · rw [decide_eq_false a2]
      cases h : AG (cI b n) q with
      | false => rfl
      | true => rw [decide_eq_false (fun z => a2 (T.mp ⟨h, z⟩).2)]; rfl
theorem kQ_0 {b : Int → Int} {q : Int} : kQ b 0 q = 0 := mv_0
theorem ar_0 {b : Int → Int} {q : Int} (hb : WB b) : ¬ arQ b 0 q := fun z => by
  have ep := WP_of hb z.1.1 z.1.2.1
  have e := z.2
  rw [kQ_0] at e
  have g := z.1.2.2
  unfold WP at ep
  omega
theorem aS_0 {b : Int → Int} (hb : WB b) : aS b 0 = zI 0 := by
  unfold aS
  rw [show (fun q => decide (arQ b 0 q)) = fun _ => false by funext q; exact decide_eq_false (ar_0 hb)]
  decide
theorem cI_0 {b : Int → Int} (hb : WB b) : cI b 0 = b := by
  refine cells_ext (fun z h => ?_) (fun q j u v x y => ?_) (fun q r u v x y => ?_) (fun x y u v k l => ?_)
  · by_cases h5 : z = 5
    · rw [h5, cI_5]; omega
    · exact cI_o h h5
  · rw [cI_f u v x y]
    by_cases g : goQ b q
    · rw [cF_on g (ar_0 hb), kQ_0]
      by_cases j2 : j = 2
      · subst j2; rw [if_pos rfl, show 58 + 8 * 2 + q = 74 + q by omega]; omega
      · rw [if_neg j2]
        by_cases j4 : j = 4
        · subst j4; rw [if_pos rfl, show 58 + 8 * 4 + q = 90 + q by omega]; omega
        · rw [if_neg j4]
    · exact cF_g0 g
  · rw [cI_g u v x y, if_neg (fun z => ar_0 hb z.1)]
  · rw [cI_w u v k l, if_neg (fun z => ar_0 hb z.1), if_neg (fun z => ar_0 hb z.1)]
theorem WB_cI {b : Int → Int} (hb : WB b) : ∀ n : Nat, b 5 + n ≤ 200000 → WB (cI b n) := by
  intro n
  induction n with
  | zero => intro _; rw [show ((0 : Nat) : Int) = 0 from rfl, cI_0 hb]; exact hb
  | succ n ih =>
    intro h
    rw [show ((n + 1 : Nat) : Int) = (n : Int) + 1 by omega, ← cI_step hb (by omega) (by omega)]
    exact WB_mN (ih (by omega)) (by rw [cI_5]; omega)
theorem WB_cI' {b : Int → Int} (hb : WB b) {n : Int} (hn : 0 ≤ n) (h : b 5 + n ≤ 200000) : WB (cI b n) := by
  have e := WB_cI hb n.toNat (by omega)
  rw [show ((n.toNat : Nat) : Int) = n by omega] at e
  exact e
theorem MF_cl {X : KM} {c : Int32} {l : Int} : MF X (cl2 X c l) := ⟨rfl, fun a k h => by unfold cl2; rw [uI_o (by omega), uI_o (by omega)]⟩
theorem MF_tr {X Y Z : KM} (h1 : MF X Y) (h2 : MF Y Z) : MF X Z := ⟨h2.1.trans h1.1, fun a k h => (h2.2 a k h).trans (h1.2 a k h)⟩
theorem MF_rf {X : KM} : MF X X := ⟨rfl, fun _ _ _ => rfl⟩
