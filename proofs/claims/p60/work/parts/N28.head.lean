/-! ===== the land read so far ===== -/
def LC (c : Int → Int) (M : KM) : Prop := CB c ∧ HL M 61 c ∧ PB M 61 c ∧ P01 M 61 ∧ (∀ k, 0 ≤ k → k < c 0 → M.2.1 (61 + 1) k.toNat = lI (385 + k)) ∧ ∀ p, 0 ≤ p → p < c 2 → M.2.1 (61 + 14 + 3 * p.toNat) 2 = lI (513 + p)
theorem LC_of {c : Int → Int} {M M' : KM} (h1 : ∀ a k, 61 ≤ a → a < 99 → M'.1 a k = M.1 a k) (h2 : ∀ a k, 61 ≤ a → a < 99 → M'.2.1 a k = M.2.1 a k) (h : LC c M) : LC c M' := by
  obtain ⟨a1, a2, a3, a4, a5, a6⟩ := h
  have hh := a1.1
  refine ⟨a1, HL_of (fun a k u v => h1 a k (by omega) (by omega)) a2, PB_of (fun a k u v => h1 a k (by omega) (by omega)) (fun _ _ _ => rfl) rfl (by omega) a3, P01_of (fun a k u v => h1 a k (by omega) (by omega)) a4, fun k u v => ?_, fun p u v => ?_⟩
  · rw [h2 _ _ (by omega) (by omega)]; exact a5 k u v
  · rw [h2 _ _ (by omega) (by omega)]; exact a6 p u v
theorem LC_F {c : Int → Int} {M M' : KM} (f : FC 5 M M') (h : LC c M) : LC c M' := LC_of (fun a k u v => f.1 a k (by omega)) (fun a k u v => f.2.1 a k (by omega)) h
theorem li_inj {a c : Int} (h1 : 0 ≤ a) (h2 : a < 1000000) (h3 : 0 ≤ c) (h4 : c < 1000000) (h : lI a = lI c) : a = c := by
  have := congrArg Int64.toInt h
  rw [lI_toInt (by omega) (by omega), lI_toInt (by omega) (by omega)] at this
  exact this
theorem pn_L {c : Int → Int} {M : KM} {n : Nat} {nm : Int} (h : LC c M) (h1 : 0 ≤ nm) (h2 : nm < 10000) (hn : 100 < n) : f_X2_placeNamed n 61 (lI nm) M = some (zI (if 385 ≤ nm ∧ nm < 385 + c 0 then nm - 385 else -1)) := by
  obtain ⟨a1, a2, a3, a4, a5, a6⟩ := h
  have hh := a1.1
  rw [c_placeNamed (c := c 0) a2.1 (by omega) (by omega) (by omega)]
  congr 2
  rcases fst_r (P := fun i => decide (M.2.1 (61 + 1) i.toNat = lI nm)) (c 0).toNat 0 (by omega) with ⟨e, f⟩ | ⟨e1, e2, e3, -⟩
  · rw [e, if_neg]
    intro z
    have := of_decide_eq_false (f (nm - 385) (by omega) (by omega))
    rw [a5 (nm - 385) (by omega) (by omega), show 385 + (nm - 385) = nm by omega] at this
    exact this rfl
  · have := of_decide_eq_true e3
    generalize fstI (fun i => decide (M.2.1 (61 + 1) i.toNat = lI nm)) (c 0).toNat 0 = i at *
    rw [a5 i (by omega) (by omega)] at this
    have := li_inj (by omega) (by omega) (by omega) (by omega) this
    rw [if_pos (by omega)]
    omega
theorem pr_L {c : Int → Int} {M : KM} {n : Nat} {nm : Int} (h : LC c M) (h1 : 0 ≤ nm) (h2 : nm < 10000) (hn : 100 < n) : f_X2_personNamed n 61 (lI nm) M = some (zI (if 513 ≤ nm ∧ nm < 513 + c 2 then nm - 513 else -1)) := by
  obtain ⟨a1, a2, a3, a4, a5, a6⟩ := h
  have hh := a1.1
  rw [c_personNamed (c := c 2) a2.2.2.1 (by omega) (by omega) (by omega)]
  congr 2
  rcases fst_r (P := fun i => decide (M.2.1 (61 + 14 + 3 * i.toNat) 2 = lI nm)) (c 2).toNat 0 (by omega) with ⟨e, f⟩ | ⟨e1, e2, e3, -⟩
  · rw [e, if_neg]
    intro z
    have := of_decide_eq_false (f (nm - 513) (by omega) (by omega))
    rw [a6 (nm - 513) (by omega) (by omega), show 513 + (nm - 513) = nm by omega] at this
    exact this rfl
  · have := of_decide_eq_true e3
    generalize fstI (fun i => decide (M.2.1 (61 + 14 + 3 * i.toNat) 2 = lI nm)) (c 2).toNat 0 = i at *
    rw [a6 i (by omega) (by omega)] at this
    have := li_inj (by omega) (by omega) (by omega) (by omega) this
    rw [if_pos (by omega)]
    omega
/-- what reading may change -/
def RF (M M' : KM) : Prop := M'.2.2 = M.2.2 ∧ ∀ a k, ¬ a = 5 → ¬ (61 ≤ a ∧ a < 69) → ¬ (75 ≤ a ∧ a < 99) → M'.1 a k = M.1 a k
theorem RF_r {M : KM} : RF M M := ⟨rfl, fun _ _ _ _ _ => rfl⟩
theorem RF_t {M N K : KM} (h : RF M N) (g : RF N K) : RF M K := ⟨g.1.trans h.1, fun a k x y z => (g.2 a k x y z).trans (h.2 a k x y z)⟩
theorem RF_F {M M' : KM} (f : FC 5 M M') : RF M M' := ⟨f.2.2, fun a k x y z => f.1 a k (by omega)⟩
/-- told once: t; whether somebody is known to know: u -/
def To (M : KM) (t u : Int) : Prop := M.1 5 12 = zI t ∧ M.1 5 13 = zI u
theorem To_F {M M' : KM} {t u : Int} (f : FC 5 M M') (h : To M t u) : To M' t u := ⟨by rw [f.1 _ _ (by omega)]; exact h.1, by rw [f.1 _ _ (by omega)]; exact h.2⟩
theorem c_once {T : Int → Int} {E : Int} {M : KM} {l l' : List Int} {j t t' k' j' v' nm' : Int} {n : Nat} (hT : TK T E M l 1 j 0 0) (ho : To M t 0) (hj : 0 ≤ j ∧ j < 26) (b1 : zI t &&& (zI 1 <<< (zI j &&& zI 31)) = zI 0) (b2 : zI t ||| (zI 1 <<< (zI j &&& zI 31)) = zI t') (hn : 1000 < n) (hN : Nx l l' k' j' v' nm') : ∃ M', f_X3_startOnce n 5 M = some (zI 1, M') ∧ (∀ a k, ¬ (a = 5 ∧ 3 ≤ k ∧ k ≤ 12) → M'.1 a k = M.1 a k) ∧ (∀ a k, ¬ (a = 5 ∧ k = 9) → M'.2.1 a k = M.2.1 a k) ∧ M'.2.2 = M.2.2 ∧ To M' t' 0 ∧ TK T E M' l' k' j' v' nm' := by
  have h7 := hT.2.2.1
  obtain ⟨o1, o2⟩ := ho
  have hT2 : TK T E (uI M 5 12 (zI t')) l 1 j 0 0 := TK_F (fun c i h => uI_o (by omega)) (fun c i h => rfl) rfl hT
  obtain ⟨M', e, f, k⟩ := tk_adv hT2 hn hN
  refine ⟨M', ?_, fun a k h => by rw [f.1 _ _ (by omega), uI_o (by omega)], fun a k h => f.2.1 a k h, f.2.2, ⟨by rw [f.1 _ _ (by omega), uI_s], by rw [f.1 _ _ (by omega), uI_o (by omega)]; exact o2⟩, k⟩
  unfold f_X3_startOnce
  simp only [zl]
  rw [h7, o1, o2]
  dsimp only [lt]
  rw [b1, if_pos rfl, b2, k_skip, e, Option.bind_some]
  by_cases q : j = 4
  · rw [q, if_pos rfl, if_pos rfl]
  · rw [if_neg (eqN q (by omega) (by omega) (by omega) (by omega))]
/-- a number that is told once -/
def rd1 (n : Nat) (lo hi : Int32) (cell : Nat) (M : KM) : Option (Int32 × KM) :=
  (f_X9_takeNumber n 5 lo hi M).bind fun (v1 : (Int32 × KM)) =>
  lt (uI v1.2 61 cell v1.1) fun (M2 : KM) =>
  if (M2.1 61 cell) = (-1 : Int32) then
    some ((0 : Int32), M2)
  else
    (f_X9_takeSemicolon n 5 M2).bind fun (v3 : (Int32 × KM)) =>
    if v3.1 = 0 then
      some ((0 : Int32), v3.2)
    else
      some ((1 : Int32), v3.2)
theorem c_rd1 {T : Int → Int} {E : Int} {M : KM} {l : List Int} {v lo hi : Int} {cell n : Nat} (hT : TK T E M (sw 6 ++ l) 2 (-1) v 0) (h1 : lo ≤ v) (h2 : v ≤ hi) (l0 : 0 ≤ lo) (l1 : hi < 100000) (hn : 1000 < n) (hL : Lx l) : ∃ M', rd1 n (zI lo) (zI hi) cell M = some (zI 1, M') ∧ (∀ a k, ¬ (a = 5 ∧ 3 ≤ k ∧ k ≤ 11) → ¬ (a = 61 ∧ k = cell) → M'.1 a k = M.1 a k) ∧ M'.1 61 cell = zI v ∧ (∀ a k, ¬ (a = 5 ∧ k = 9) → M'.2.1 a k = M.2.1 a k) ∧ M'.2.2 = M.2.2 ∧ At T E M' l := by
  obtain ⟨M1, e1, f1, k1⟩ := tk_adv hT hn (nx_semi (l := l))
  have k2 : TK T E (uI M1 61 cell (zI v)) l 3 (-1) 59 0 := TK_F (fun c i h => uI_o (by omega)) (fun c i h => rfl) rfl k1
  obtain ⟨M', e2, f2, k3⟩ := tk_At k2.1 k2.2.2.2.2.2 hn hL
  refine ⟨M', ?_, fun a k h g => by rw [f2.1 _ _ h, uI_o g, f1.1 _ _ h], by rw [f2.1 _ _ (by omega), uI_s], fun a k h => by rw [f2.2.1 _ _ h]; exact f1.2.1 a k h, f2.2.2.trans f1.2.2, k3⟩
  unfold rd1
  simp only [zl]
  rw [k_num hT.2.1 hT.2.2.2.1 h1 h2 l0 l1 e1, Option.bind_some, lt_hd]
  dsimp only
  rw [uI_s, zneg, if_neg (eqN (by omega) (by omega) (by omega) (by omega) (by omega)), k_semi k2.2.1 k2.2.2.2.1 e2, Option.bind_some]
  exact if_neg (show ¬ zI 1 = zI 0 by decide)
/-- a head of the land changed -/
theorem LC_1 {c : Int → Int} {M M' : KM} {e v : Int} {cell : Nat} (hce : (cell = 11 ∧ e = 5 ∧ 0 ≤ v ∧ v ≤ 1439) ∨ (cell = 12 ∧ e = 6 ∧ 1 ≤ v ∧ v ≤ 9) ∨ (cell = 13 ∧ e = 7 ∧ 1 ≤ v ∧ v ≤ 9) ∨ (cell = 14 ∧ e = 8 ∧ 0 ≤ v ∧ v ≤ 16)) (h1 : ∀ a k, 61 ≤ a → a < 99 → ¬ (a = 61 ∧ k = cell) → M'.1 a k = M.1 a k) (hv : M'.1 61 cell = zI v) (h2 : ∀ a k, 61 ≤ a → a < 99 → M'.2.1 a k = M.2.1 a k) (h : LC c M) : LC (bu c e v) M' := by
  obtain ⟨a1, a2, a3, a4, a5, a6⟩ := h
  have hh := a1.1
  have o : ∀ z, ¬ z = e → bu c e v z = c z := fun z hz => bu_o hz
  have s : bu c e v e = v := bu_s
  generalize bu c e v = d at *
  obtain ⟨b0, b1, b2, b5, b6, b7, b8, b9, b3, b4, bd, br1, br2, br3, br4⟩ := a2
  refine ⟨CB_h a1 (fun z u w => o z (by omega)) (o 1 (by omega)) (o 2 (by omega)) (o 9 (by omega)) ?_, ?_, PB_of (fun a k u w => h1 a k (by omega) (by omega) (by omega)) (fun z u w => o z (by omega)) (o 2 (by omega)) (by omega) a3, P01_of (fun a k u w => h1 a k (by omega) (by omega) (by omega)) a4, fun k u w => ?_, fun p u w => ?_⟩
  · have o0 := o 0 (by omega)
    have o3 := o 3 (by omega)
    have o4 := o 4 (by omega)
    rcases hce with ⟨-, rfl, vr⟩ | ⟨-, rfl, vr⟩ | ⟨-, rfl, vr⟩ | ⟨-, rfl, vr⟩
    · have o6 := o 6 (by omega)
      have o7 := o 7 (by omega)
      have o8 := o 8 (by omega)
      omega
    · have o6 := o 5 (by omega)
      have o7 := o 7 (by omega)
      have o8 := o 8 (by omega)
      omega
    · have o6 := o 5 (by omega)
      have o7 := o 6 (by omega)
      have o8 := o 8 (by omega)
      omega
    · have o6 := o 5 (by omega)
      have o7 := o 6 (by omega)
      have o8 := o 7 (by omega)
      omega
  · have cell_ : ∀ (k : Nat) (z : Int), ((k = 11 ∧ z = 5) ∨ (k = 12 ∧ z = 6) ∨ (k = 13 ∧ z = 7) ∨ (k = 14 ∧ z = 8)) → M.1 61 k = zI (c z) → M'.1 61 k = zI (d z) := fun k z hk hm => by
      by_cases q : k = cell
      · rw [q, hv, show z = e by omega, s]
      · rw [h1 _ _ (by omega) (by omega) (by omega), o z (by omega)]; exact hm
    have o1 := o 1 (by omega)
    unfold HL
    rw [o 0 (by omega), o 1 (by omega), o 2 (by omega), o 3 (by omega), o 4 (by omega), o 9 (by omega)]
    refine ⟨?_, ?_, ?_, cell_ 11 5 (by omega) b5, cell_ 12 6 (by omega) b6, cell_ 13 7 (by omega) b7, cell_ 14 8 (by omega) b8, ?_, ?_, ?_, ?_, fun r u w => ?_, fun r u w => ?_, fun r u w => ?_, fun r u w => ?_⟩
    · rw [h1 _ _ (by omega) (by omega) (by omega)]; exact b0
    · rw [h1 _ _ (by omega) (by omega) (by omega)]; exact b1
    · rw [h1 _ _ (by omega) (by omega) (by omega)]; exact b2
    · rw [h1 _ _ (by omega) (by omega) (by omega)]; exact b9
    · rw [h1 _ _ (by omega) (by omega) (by omega)]; exact b3
    · rw [h1 _ _ (by omega) (by omega) (by omega)]; exact b4
    · rw [h1 _ _ (by omega) (by omega) (by omega)]; exact bd
    · rw [h1 _ _ (by omega) (by omega) (by omega), o _ (by omega)]; exact br1 r u w
    · rw [h1 _ _ (by omega) (by omega) (by omega), o _ (by omega)]; exact br2 r u w
    · rw [h1 _ _ (by omega) (by omega) (by omega), o _ (by omega)]; exact br3 r u w
    · rw [h1 _ _ (by omega) (by omega) (by omega), o _ (by omega)]; exact br4 r u w
  · rw [o 0 (by omega)] at w
    rw [h2 _ _ (by omega) (by omega)]; exact a5 k u w
  · rw [o 2 (by omega)] at w
    rw [h2 _ _ (by omega) (by omega)]; exact a6 p u w
/-- the hours set -/
theorem LC_2 {c : Int → Int} {M M' : KM} {f t : Int} (hft : 0 ≤ f ∧ f < t ∧ t ≤ 24) (h1 : ∀ a k, 61 ≤ a → a < 99 → ¬ (a = 68 ∧ k ≤ 2) → M'.1 a k = M.1 a k) (v0 : M'.1 68 0 = zI f) (v1 : M'.1 68 1 = zI t) (v2 : M'.1 68 2 = zI ((t - f) * 60)) (h2 : ∀ a k, 61 ≤ a → a < 99 → M'.2.1 a k = M.2.1 a k) (h : LC c M) : LC (bu (bu c 3 f) 4 t) M' := by
  obtain ⟨a1, a2, a3, a4, a5, a6⟩ := h
  have hh := a1.1
  have o : ∀ z, ¬ z = 3 → ¬ z = 4 → bu (bu c 3 f) 4 t z = c z := fun z hz hz2 => by rw [bu_o hz2, bu_o hz]
  have s3 : bu (bu c 3 f) 4 t 3 = f := by rw [bu_o (by omega), bu_s]
  have s4 : bu (bu c 3 f) 4 t 4 = t := bu_s
  generalize bu (bu c 3 f) 4 t = d at *
  obtain ⟨b0, b1, b2, b5, b6, b7, b8, b9, b3, b4, bd, br1, br2, br3, br4⟩ := a2
  refine ⟨CB_h a1 (fun z u w => o z (by omega) (by omega)) (o 1 (by omega) (by omega)) (o 2 (by omega) (by omega)) (o 9 (by omega) (by omega)) ?_, ?_, PB_of (fun a k u w => h1 a k (by omega) (by omega) (by omega)) (fun z u w => o z (by omega) (by omega)) (o 2 (by omega) (by omega)) (by omega) a3, P01_of (fun a k u w => h1 a k (by omega) (by omega) (by omega)) a4, fun k u w => ?_, fun p u w => ?_⟩
  · rw [o 0 (by omega) (by omega), s3, s4, o 5 (by omega) (by omega), o 6 (by omega) (by omega), o 7 (by omega) (by omega), o 8 (by omega) (by omega)]
    omega
  · unfold HL
    rw [o 0 (by omega) (by omega), o 1 (by omega) (by omega), o 2 (by omega) (by omega), s3, s4, o 5 (by omega) (by omega), o 6 (by omega) (by omega), o 7 (by omega) (by omega), o 8 (by omega) (by omega), o 9 (by omega) (by omega)]
    refine ⟨?_, ?_, ?_, ?_, ?_, ?_, ?_, ?_, v0, v1, v2, fun r u w => ?_, fun r u w => ?_, fun r u w => ?_, fun r u w => ?_⟩
    · rw [h1 _ _ (by omega) (by omega) (by omega)]; exact b0
    · rw [h1 _ _ (by omega) (by omega) (by omega)]; exact b1
    · rw [h1 _ _ (by omega) (by omega) (by omega)]; exact b2
    · rw [h1 _ _ (by omega) (by omega) (by omega)]; exact b5
    · rw [h1 _ _ (by omega) (by omega) (by omega)]; exact b6
    · rw [h1 _ _ (by omega) (by omega) (by omega)]; exact b7
    · rw [h1 _ _ (by omega) (by omega) (by omega)]; exact b8
    · rw [h1 _ _ (by omega) (by omega) (by omega)]; exact b9
    · rw [h1 _ _ (by omega) (by omega) (by omega), o _ (by omega) (by omega)]; exact br1 r u w
    · rw [h1 _ _ (by omega) (by omega) (by omega), o _ (by omega) (by omega)]; exact br2 r u w
    · rw [h1 _ _ (by omega) (by omega) (by omega), o _ (by omega) (by omega)]; exact br3 r u w
    · rw [h1 _ _ (by omega) (by omega) (by omega), o _ (by omega) (by omega)]; exact br4 r u w
  · rw [o 0 (by omega) (by omega)] at w
    rw [h2 _ _ (by omega) (by omega)]; exact a5 k u w
  · rw [o 2 (by omega) (by omega)] at w
    rw [h2 _ _ (by omega) (by omega)]; exact a6 p u w
