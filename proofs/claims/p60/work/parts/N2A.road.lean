/-! ===== a place, a road ===== -/
theorem k_start {n : Nat} {M M' : KM} {a b : Int} (h : a < b) (h0 : 0 ≤ a) (h1 : b < 1000) (e : f_X9_advance n 5 M = some M') : f_X3_start n 5 (zI a) (zI b) M = some (zI 1, M') := by
  unfold f_X3_start
  rw [if_pos (ltP h (by omega) (by omega)), k_skip, e]
  rfl
theorem k_new {n : Nat} {M M' : KM} {nm : Int} (h9 : M.2.1 5 9 = lI nm) (hz : ¬ lI nm = lI 0) (h1 : f_X2_placeNamed n 61 (lI nm) M = some (zI (-1))) (h2 : f_X2_personNamed n 61 (lI nm) M = some (zI (-1))) (e : f_X9_advance n 5 M = some M') : f_X9_takeNewName n 5 61 M = some (lI nm, M') := by
  unfold f_X9_takeNewName
  simp only [zl, ll]
  rw [h9, if_neg (fun z => hz (by rw [lgz] at z; exact z)), h1, Option.bind_some]
  dsimp only [lt]
  rw [zneg, if_pos rfl, h2, Option.bind_some, if_pos rfl, e]
  rfl
theorem nm_nz {v : Int} (h1 : 0 < v) (h2 : v < 10000) : ¬ lI v = lI 0 := fun z => by
  have := li_inj (by omega) (by omega) (by omega) (by omega) z
  omega
theorem LC_p {c : Int → Int} {M M' : KM} (h8 : c 0 < 8) (h1 : ∀ a k, 61 ≤ a → a < 99 → ¬ (a = 61 ∧ k = 8) → M'.1 a k = M.1 a k) (v8 : M'.1 61 8 = zI (c 0 + 1)) (h2 : ∀ a k, 61 ≤ a → a < 99 → ¬ (a = 62 ∧ k = (c 0).toNat) → M'.2.1 a k = M.2.1 a k) (w8 : M'.2.1 62 (c 0).toNat = lI (385 + c 0)) (h : LC c M) : LC (bu c 0 (c 0 + 1)) M' := by
  obtain ⟨a1, a2, a3, a4, a5, a6⟩ := h
  have hh := a1.1
  have o : ∀ z, ¬ z = 0 → bu c 0 (c 0 + 1) z = c z := fun z hz => bu_o hz
  have s : bu c 0 (c 0 + 1) 0 = c 0 + 1 := bu_s
  generalize bu c 0 (c 0 + 1) = d at *
  obtain ⟨b0, b1, b2, b5, b6, b7, b8, b9, b3, b4, bd, br1, br2, br3, br4⟩ := a2
  refine ⟨CB_h a1 (fun z u w => o z (by omega)) (o 1 (by omega)) (o 2 (by omega)) (o 9 (by omega)) ?_, ?_, PB_of (fun a k u w => h1 a k (by omega) (by omega) (by omega)) (fun z u w => o z (by omega)) (o 2 (by omega)) (by omega) a3, P01_of (fun a k u w => h1 a k (by omega) (by omega) (by omega)) a4, fun k u w => ?_, fun p u w => ?_⟩
  · rw [s, o 3 (by omega), o 4 (by omega), o 5 (by omega), o 6 (by omega), o 7 (by omega), o 8 (by omega)]
    omega
  · unfold HL
    rw [s, o 1 (by omega), o 2 (by omega), o 3 (by omega), o 4 (by omega), o 5 (by omega), o 6 (by omega), o 7 (by omega), o 8 (by omega), o 9 (by omega)]
    refine ⟨v8, ?_, ?_, ?_, ?_, ?_, ?_, ?_, ?_, ?_, ?_, fun r u w => ?_, fun r u w => ?_, fun r u w => ?_, fun r u w => ?_⟩
    · rw [h1 _ _ (by omega) (by omega) (by omega)]; exact b1
    · rw [h1 _ _ (by omega) (by omega) (by omega)]; exact b2
    · rw [h1 _ _ (by omega) (by omega) (by omega)]; exact b5
    · rw [h1 _ _ (by omega) (by omega) (by omega)]; exact b6
    · rw [h1 _ _ (by omega) (by omega) (by omega)]; exact b7
    · rw [h1 _ _ (by omega) (by omega) (by omega)]; exact b8
    · rw [h1 _ _ (by omega) (by omega) (by omega)]; exact b9
    · rw [h1 _ _ (by omega) (by omega) (by omega)]; exact b3
    · rw [h1 _ _ (by omega) (by omega) (by omega)]; exact b4
    · rw [h1 _ _ (by omega) (by omega) (by omega)]; exact bd
    · rw [h1 _ _ (by omega) (by omega) (by omega), o _ (by omega)]; exact br1 r u w
    · rw [h1 _ _ (by omega) (by omega) (by omega), o _ (by omega)]; exact br2 r u w
    · rw [h1 _ _ (by omega) (by omega) (by omega), o _ (by omega)]; exact br3 r u w
    · rw [h1 _ _ (by omega) (by omega) (by omega), o _ (by omega)]; exact br4 r u w
  · rw [s] at w
    by_cases e : k = c 0
    · rw [e]; exact w8
    · rw [h2 _ _ (by omega) (by omega) (by omega)]; exact a5 k u (by omega)
  · rw [o 2 (by omega)] at w
    rw [h2 _ _ (by omega) (by omega) (by omega)]; exact a6 p u w
theorem pt_place {T : Int → Int} {E : Int} {M : KM} {l : List Int} {c : Int → Int} {t u : Int} {n : Nat} (hA : At T E M (sw 7 ++ (nam 108 (c 0) ++ (sw 6 ++ l)))) (hC : LC c M) (ho : To M t u) (h8 : c 0 < 8) (hn : 1000 < n) (hL : Lx l) : ∃ M', Pa T E n M M' l (bu c 0 (c 0 + 1)) t u := by
  have hh := hC.1.1
  have k0 : TK T E M (nam 108 (c 0) ++ (sw 6 ++ l)) 1 6 0 0 := hA.2 _ _ _ _ _ (nx_word (w := sw 7) (i := 6) (by decide) (by decide) (by decide) (nl_c (by decide)) (by decide) (by decide +kernel))
  obtain ⟨M1, e1, f1, k1⟩ := tk_adv k0 hn (nx_L (k := c 0) (l := sw 6 ++ l) (by omega) h8 (nl_c (by decide)))
  have C1 := LC_F f1 hC
  have p1 := pn_L (n := n) (nm := 385 + c 0) C1 (by omega) (by omega) (by omega)
  have q1 := pr_L (n := n) (nm := 385 + c 0) C1 (by omega) (by omega) (by omega)
  rw [if_neg (by omega)] at p1 q1
  obtain ⟨M2, e2, f2, k2⟩ := tk_adv k1 hn (nx_semi (l := l))
  have f12 := FC_t f1 f2
  have a3 := c_addPlace (S := 61) (n := n) (w := lI (385 + c 0)) (c := c 0) (M := M2) (by rw [f12.1 _ _ (by omega)]; exact hC.2.1.1) (by omega) h8
  have k3 : TK T E (uI (uJ M2 (61 + 1) (c 0).toNat (lI (385 + c 0))) 61 8 (zI (c 0 + 1))) l 3 (-1) 59 0 := TK_F (fun c i h => by rw [uI_o (by omega)]; rfl) (fun c i h => uJ_o (by omega)) rfl k2
  obtain ⟨M4, e4, f4, k4⟩ := tk_At k3.1 k3.2.2.2.2.2 hn hL
  have fr : ∀ a k, ¬ (a = 5 ∧ 3 ≤ k ∧ k ≤ 11) → ¬ (a = 61 ∧ k = 8) → M4.1 a k = M.1 a k := fun a k x y => by
    rw [f4.1 _ _ x, uI_o y]
    exact f12.1 a k x
  have fj : ∀ a k, ¬ (a = 5 ∧ k = 9) → ¬ (a = 62 ∧ k = (c 0).toNat) → M4.2.1 a k = M.2.1 a k := fun a k x y => by
    rw [f4.2.1 _ _ x]
    show (uJ M2 (61 + 1) (c 0).toNat (lI (385 + c 0))).2.1 a k = _
    rw [uJ_o y]
    exact f12.2.1 a k x
  refine ⟨M4, ?_, ⟨f4.2.2.trans f12.2.2, fun a k x y z => fr a k (by omega) (by omega)⟩, k4, LC_p h8 (fun a k x y z => fr a k (by omega) z) ?_ (fun a k x y z => fj a k (by omega) z) ?_ hC, ⟨by rw [fr _ _ (by omega) (by omega)]; exact ho.1, by rw [fr _ _ (by omega) (by omega)]; exact ho.2⟩⟩
  · have h7 := k0.2.2.1
    unfold f_X3_readPart
    simp only [zl]
    rw [lt_hd, h7]
    rw [if_neg (show ¬ zI 6 = zI 0 by decide), if_neg (show ¬ zI 6 = zI 1 by decide), if_neg (show ¬ zI 6 = zI 2 by decide), if_neg (show ¬ zI 6 = zI 3 by decide), if_neg (show ¬ zI 6 = zI 4 by decide), if_neg (show ¬ zI 6 = zI 5 by decide), if_pos rfl, hC.2.1.1]
    refine sq11 (Y := fun M => f_X3_readPlace n 5 61 M) (k_start h8 (by omega) (by omega) e1) ?_
    show f_X3_readPlace n 5 61 M1 = _
    unfold f_X3_readPlace
    simp only [ll]
    rw [k_new k1.2.2.2.2.1 (nm_nz (by omega) (by omega)) p1 q1 e2, Option.bind_some]
    dsimp only
    rw [if_neg (lgF (nm_nz (by omega) (by omega))), a3, Option.bind_some, k_semi k3.2.1 k3.2.2.2.1 e4]
    rfl
  · rw [f4.1 _ _ (by omega), uI_s]
  · rw [f4.2.1 _ _ (by omega)]
    exact uJ_s
/-! a road -/
def rdC (c : Int → Int) (x y m q : Int) : Int → Int := bu (bu (bu (bu (bu c (10 + c 1) x) (22 + c 1) y) (34 + c 1) m) (46 + c 1) q) 1 (c 1 + 1)
theorem rdC_v {c : Int → Int} {x y m q : Int} (h0 : 0 ≤ c 1) (h12 : c 1 < 12) : (∀ z, ¬ z = 1 → ¬ z = 10 + c 1 → ¬ z = 22 + c 1 → ¬ z = 34 + c 1 → ¬ z = 46 + c 1 → rdC c x y m q z = c z) ∧ rdC c x y m q 1 = c 1 + 1 ∧ rdC c x y m q (10 + c 1) = x ∧ rdC c x y m q (22 + c 1) = y ∧ rdC c x y m q (34 + c 1) = m ∧ rdC c x y m q (46 + c 1) = q := by
  unfold rdC
  refine ⟨fun z z1 z2 z3 z4 z5 => ?_, bu_s, ?_, ?_, ?_, ?_⟩
  · rw [bu_o z1, bu_o z5, bu_o z4, bu_o z3, bu_o z2]
  · rw [bu_o (by omega), bu_o (by omega), bu_o (by omega), bu_o (by omega), bu_s]
  · rw [bu_o (by omega), bu_o (by omega), bu_o (by omega), bu_s]
  · rw [bu_o (by omega), bu_o (by omega), bu_s]
  · rw [bu_o (by omega), bu_s]
theorem LC_r {c : Int → Int} {M M' : KM} {x y m q : Int} (h12 : c 1 < 12) (hx : 0 ≤ x ∧ x < c 0 ∧ 0 ≤ y ∧ y < c 0 ∧ ¬ x = y ∧ 1 ≤ m ∧ m ≤ 99 ∧ 0 ≤ q ∧ q ≤ 1) (h1 : ∀ a k, 61 ≤ a → a < 99 → ¬ (a = 61 ∧ k = 9) → ¬ (63 ≤ a ∧ a ≤ 66 ∧ k = (c 1).toNat) → M'.1 a k = M.1 a k) (v9 : M'.1 61 9 = zI (c 1 + 1)) (vx : M'.1 63 (c 1).toNat = zI x) (vy : M'.1 64 (c 1).toNat = zI y) (vm : M'.1 65 (c 1).toNat = zI m) (vq : M'.1 66 (c 1).toNat = zI q) (h2 : ∀ a k, 61 ≤ a → a < 99 → M'.2.1 a k = M.2.1 a k) (h : LC c M) : LC (rdC c x y m q) M' := by
  obtain ⟨a1, a2, a3, a4, a5, a6⟩ := h
  have hh := a1.1
  obtain ⟨o, s1, sx, sy', sm, sq'⟩ := rdC_v (c := c) (x := x) (y := y) (m := m) (q := q) (by omega) h12
  generalize rdC c x y m q = d at *
  obtain ⟨b0, b1, b2, b5, b6, b7, b8, b9, b3, b4, bd, br1, br2, br3, br4⟩ := a2
  have oo : ∀ z, z < 10 → ¬ z = 1 → d z = c z := fun z z1 z2 => o z z2 (by omega) (by omega) (by omega) (by omega)
  have op : ∀ z, 58 ≤ z → d z = c z := fun z z1 => o z (by omega) (by omega) (by omega) (by omega) (by omega)
  refine ⟨CB_road a1 h12 (fun z _ _ z1 z2 z3 z4 z5 => o z z1 z2 z3 z4 z5) s1 sx sy' sm sq' hx, ?_, PB_of (fun a k u w => h1 a k (by omega) (by omega) (by omega) (by omega)) (fun z u w => op z u) (oo 2 (by omega) (by omega)) (by omega) a3, P01_of (fun a k u w => h1 a k (by omega) (by omega) (by omega) (by omega)) a4, fun k u w => ?_, fun p u w => ?_⟩
  · unfold HL
    rw [oo 0 (by omega) (by omega), s1, oo 2 (by omega) (by omega), oo 3 (by omega) (by omega), oo 4 (by omega) (by omega), oo 5 (by omega) (by omega), oo 6 (by omega) (by omega), oo 7 (by omega) (by omega), oo 8 (by omega) (by omega), oo 9 (by omega) (by omega)]
    refine ⟨?_, v9, ?_, ?_, ?_, ?_, ?_, ?_, ?_, ?_, ?_, fun r u w => ?_, fun r u w => ?_, fun r u w => ?_, fun r u w => ?_⟩
    · rw [h1 _ _ (by omega) (by omega) (by omega) (by omega)]; exact b0
    · rw [h1 _ _ (by omega) (by omega) (by omega) (by omega)]; exact b2
    · rw [h1 _ _ (by omega) (by omega) (by omega) (by omega)]; exact b5
    · rw [h1 _ _ (by omega) (by omega) (by omega) (by omega)]; exact b6
    · rw [h1 _ _ (by omega) (by omega) (by omega) (by omega)]; exact b7
    · rw [h1 _ _ (by omega) (by omega) (by omega) (by omega)]; exact b8
    · rw [h1 _ _ (by omega) (by omega) (by omega) (by omega)]; exact b9
    · rw [h1 _ _ (by omega) (by omega) (by omega) (by omega)]; exact b3
    · rw [h1 _ _ (by omega) (by omega) (by omega) (by omega)]; exact b4
    · rw [h1 _ _ (by omega) (by omega) (by omega) (by omega)]; exact bd
    · by_cases e : r = c 1
      · rw [e, sx]; exact vx
      · rw [h1 _ _ (by omega) (by omega) (by omega) (by omega), o (10 + r) (by omega) (by omega) (by omega) (by omega) (by omega)]; exact br1 r u (by omega)
    · by_cases e : r = c 1
      · rw [e, sy']; exact vy
      · rw [h1 _ _ (by omega) (by omega) (by omega) (by omega), o (22 + r) (by omega) (by omega) (by omega) (by omega) (by omega)]; exact br2 r u (by omega)
    · by_cases e : r = c 1
      · rw [e, sm]; exact vm
      · rw [h1 _ _ (by omega) (by omega) (by omega) (by omega), o (34 + r) (by omega) (by omega) (by omega) (by omega) (by omega)]; exact br3 r u (by omega)
    · by_cases e : r = c 1
      · rw [e, sq']; exact vq
      · rw [h1 _ _ (by omega) (by omega) (by omega) (by omega), o (46 + r) (by omega) (by omega) (by omega) (by omega) (by omega)]; exact br4 r u (by omega)
  · rw [oo 0 (by omega) (by omega)] at w
    rw [h2 _ _ (by omega) (by omega)]; exact a5 k u w
  · rw [oo 2 (by omega) (by omega)] at w
    rw [h2 _ _ (by omega) (by omega)]; exact a6 p u w
theorem rb_L {c : Int → Int} {M : KM} {n : Nat} {x y : Int} (h : LC c M) (hx : 0 ≤ x ∧ x < 100 ∧ 0 ≤ y ∧ y < 100) (hn : 100 < n) : f_X2_roadBetween n 61 (zI x) (zI y) M = some (zI (btB c x y)) := by
  have e := c_roadBetween (L := 61) (n := n) (M := M) (g := pg M 61) (x := x) (y := y) h.2.1 (CB_WB h.1).1 (by omega) (by omega) (by omega) (by omega) (by omega)
  rw [← ps_ex] at e
  exact e
theorem k_place {T : Int → Int} {E : Int} {M : KM} {l l' : List Int} {c : Int → Int} {x k' j' v' nm' : Int} {n : Nat} (hT : TK T E M l 1 (-1) 0 (385 + x)) (hC : LC c M) (hx : 0 ≤ x ∧ x < c 0) (hn : 1000 < n) (hN : Nx l l' k' j' v' nm') : ∃ M', f_X9_takePlace n 5 61 M = some (zI x, M') ∧ FC 5 M M' ∧ TK T E M' l' k' j' v' nm' := by
  have hh := hC.1.1
  have p1 := pn_L (n := n) (nm := 385 + x) hC (by omega) (by omega) (by omega)
  rw [if_pos (by omega), show 385 + x - 385 = x by omega] at p1
  obtain ⟨M', e, f, k⟩ := tk_adv hT hn hN
  refine ⟨M', ?_, f, k⟩
  unfold f_X9_takePlace
  rw [hT.2.2.2.2.1, p1, Option.bind_some, k_known hT.2.2.2.2.1 (nm_nz (by omega) (by omega)) hx.1 (by omega) e]
  rfl
theorem k_person {T : Int → Int} {E : Int} {M : KM} {l l' : List Int} {c : Int → Int} {x k' j' v' nm' : Int} {n : Nat} (hT : TK T E M l 1 (-1) 0 (513 + x)) (hC : LC c M) (hx : 0 ≤ x ∧ x < c 2) (hn : 1000 < n) (hN : Nx l l' k' j' v' nm') : ∃ M', f_X9_takePerson n 5 61 M = some (zI x, M') ∧ FC 5 M M' ∧ TK T E M' l' k' j' v' nm' := by
  have hh := hC.1.1
  have p1 := pr_L (n := n) (nm := 513 + x) hC (by omega) (by omega) (by omega)
  rw [if_pos (by omega), show 513 + x - 513 = x by omega] at p1
  obtain ⟨M', e, f, k⟩ := tk_adv hT hn hN
  refine ⟨M', ?_, f, k⟩
  unfold f_X9_takePerson
  rw [hT.2.2.2.2.1, p1, Option.bind_some, k_known hT.2.2.2.2.1 (nm_nz (by omega) (by omega)) hx.1 (by omega) e]
  rfl
def wSm : List Int := [115, 109, 101, 108, 108, 115]
def wMi : List Int := [109, 105, 110, 117, 116, 101, 115]
theorem pt_road {T : Int → Int} {E : Int} {M : KM} {l : List Int} {c : Int → Int} {x y m q t u : Int} {n : Nat} (hA : At T E M (sw 8 ++ (nam 108 x ++ (nam 108 y ++ (sw 9 ++ (nmb m ++ ((if q = 1 then sw 10 else sw 6) ++ l))))))) (hC : LC c M) (ho : To M t u) (h12 : c 1 < 12) (hx : 0 ≤ x ∧ x < c 0 ∧ 0 ≤ y ∧ y < c 0 ∧ ¬ x = y ∧ 1 ≤ m ∧ m ≤ 99 ∧ 0 ≤ q ∧ q ≤ 1) (hb : btB c x y = -1) (hn : 1000 < n) (hL : Lx l) : ∃ M', Pa T E n M M' l (rdC c x y m q) t u := by
  have hh := hC.1.1
  have k0 : TK T E M (nam 108 x ++ (nam 108 y ++ (sw 9 ++ (nmb m ++ ((if q = 1 then sw 10 else sw 6) ++ l))))) 1 7 0 0 := hA.2 _ _ _ _ _ (nx_word (w := sw 8) (i := 7) (by decide) (by decide) (by decide) (nl_c (by decide)) (by decide) (by decide +kernel))
  obtain ⟨M1, e1, f1, k1⟩ := tk_adv k0 hn (nx_L (k := x) (l := nam 108 y ++ (sw 9 ++ (nmb m ++ ((if q = 1 then sw 10 else sw 6) ++ l)))) (by omega) (by omega) (nl_c (by decide)))
  have C1 := LC_F f1 hC
  obtain ⟨M2, e2, f2, k2⟩ := k_place k1 C1 ⟨hx.1, hx.2.1⟩ hn (nx_L (k := y) (l := sw 9 ++ (nmb m ++ ((if q = 1 then sw 10 else sw 6) ++ l))) (by omega) (by omega) (nl_c (by decide)))
  have C2 := LC_F f2 C1
  obtain ⟨M3, e3, f3, k3⟩ := k_place k2 C2 ⟨hx.2.2.1, hx.2.2.2.1⟩ hn (show Nx (sw 9 ++ (nmb m ++ ((if q = 1 then sw 10 else sw 6) ++ l))) (nmb m ++ ((if q = 1 then sw 10 else sw 6) ++ l)) 1 ((8 : Nat) : Int) 0 0 from nx_word1 (w := wMi) (i := 8) (by decide) (by decide) (by decide) (nl_c (by decide)) (by decide) (by decide +kernel))
  have C3 := LC_F f3 C2
  have rb := rb_L (n := n) (x := x) (y := y) C3 (by omega) (by omega)
  rw [hb] at rb
  obtain ⟨M4, e4, f4, k4⟩ := tk_adv k3 hn (nx_N (v := m) (l := (if q = 1 then sw 10 else sw 6) ++ l) (by omega) (by omega) (by
    by_cases w : q = 1
    · rw [if_pos w]; exact nd_c (by decide)
    · rw [if_neg w]; exact nd_c (by decide)))
  -- the sign behind the minutes, and whether it smells
  have fin : ∀ (M5 M6 : KM), f_X9_advance n 5 M4 = some M5 → FC 5 M4 M6 → TK T E M6 l 3 (-1) 59 0 → f_X9_skipWord n 5 (zI 9) M5 = some (zI q, M6) → ∃ M', Pa T E n M M' l (rdC c x y m q) t u := by
    intro M5 M6 e5 f6 k6 e6
    have f16 := FC_t f1 (FC_t f2 (FC_t f3 (FC_t f4 f6)))
    have ar := c_addRoad (S := 61) (n := n) (c := c 1) (x := x) (y := y) (m := m) (q := q) (M := M6) (by rw [f16.1 _ _ (by omega)]; exact hC.2.1.2.1) (by omega) h12 (by omega)
    have fa : ∀ a k, ¬ (a = 61 ∧ k = 9) → ¬ (63 ≤ a ∧ a ≤ 66 ∧ k = (c 1).toNat) → (uI (uI (uI (uI (uI M6 (61 + 2) (c 1).toNat (zI x)) (61 + 3) (c 1).toNat (zI y)) (61 + 4) (c 1).toNat (zI m)) (61 + 5) (c 1).toNat (zI q)) 61 9 (zI (c 1 + 1))).1 a k = M6.1 a k := fun a k y1 y2 => by
      rw [uI_o (by omega), uI_o (by omega), uI_o (by omega), uI_o (by omega), uI_o (by omega)]
    have k7 : TK T E (uI (uI (uI (uI (uI M6 (61 + 2) (c 1).toNat (zI x)) (61 + 3) (c 1).toNat (zI y)) (61 + 4) (c 1).toNat (zI m)) (61 + 5) (c 1).toNat (zI q)) 61 9 (zI (c 1 + 1))) l 3 (-1) 59 0 := TK_F (fun c i h => fa c i (by omega) (by omega)) (fun c i h => rfl) rfl k6
    have v9 : (uI (uI (uI (uI (uI M6 (61 + 2) (c 1).toNat (zI x)) (61 + 3) (c 1).toNat (zI y)) (61 + 4) (c 1).toNat (zI m)) (61 + 5) (c 1).toNat (zI q)) 61 9 (zI (c 1 + 1))).1 61 9 = zI (c 1 + 1) := uI_s
    have vx : (uI (uI (uI (uI (uI M6 (61 + 2) (c 1).toNat (zI x)) (61 + 3) (c 1).toNat (zI y)) (61 + 4) (c 1).toNat (zI m)) (61 + 5) (c 1).toNat (zI q)) 61 9 (zI (c 1 + 1))).1 63 (c 1).toNat = zI x := by rw [uI_o (by omega), uI_o (by omega), uI_o (by omega), uI_o (by omega)]; exact uI_s
    have vy : (uI (uI (uI (uI (uI M6 (61 + 2) (c 1).toNat (zI x)) (61 + 3) (c 1).toNat (zI y)) (61 + 4) (c 1).toNat (zI m)) (61 + 5) (c 1).toNat (zI q)) 61 9 (zI (c 1 + 1))).1 64 (c 1).toNat = zI y := by rw [uI_o (by omega), uI_o (by omega), uI_o (by omega)]; exact uI_s
    have vm : (uI (uI (uI (uI (uI M6 (61 + 2) (c 1).toNat (zI x)) (61 + 3) (c 1).toNat (zI y)) (61 + 4) (c 1).toNat (zI m)) (61 + 5) (c 1).toNat (zI q)) 61 9 (zI (c 1 + 1))).1 65 (c 1).toNat = zI m := by rw [uI_o (by omega), uI_o (by omega)]; exact uI_s
    have vq : (uI (uI (uI (uI (uI M6 (61 + 2) (c 1).toNat (zI x)) (61 + 3) (c 1).toNat (zI y)) (61 + 4) (c 1).toNat (zI m)) (61 + 5) (c 1).toNat (zI q)) 61 9 (zI (c 1 + 1))).1 66 (c 1).toNat = zI q := by rw [uI_o (by omega)]; exact uI_s
    have h2 : (uI (uI (uI (uI (uI M6 (61 + 2) (c 1).toNat (zI x)) (61 + 3) (c 1).toNat (zI y)) (61 + 4) (c 1).toNat (zI m)) (61 + 5) (c 1).toNat (zI q)) 61 9 (zI (c 1 + 1))).2 = M6.2 := rfl
    generalize uI (uI (uI (uI (uI M6 (61 + 2) (c 1).toNat (zI x)) (61 + 3) (c 1).toNat (zI y)) (61 + 4) (c 1).toNat (zI m)) (61 + 5) (c 1).toNat (zI q)) 61 9 (zI (c 1 + 1)) = M7 at *
    obtain ⟨M8, e8, f8, k8⟩ := tk_At k7.1 k7.2.2.2.2.2 hn hL
    have fr : ∀ a k, ¬ (a = 5 ∧ 3 ≤ k ∧ k ≤ 11) → ¬ (a = 61 ∧ k = 9) → ¬ (63 ≤ a ∧ a ≤ 66 ∧ k = (c 1).toNat) → M8.1 a k = M.1 a k := fun a k y0 y1 y2 => by
      rw [f8.1 _ _ y0, fa a k y1 y2, f16.1 _ _ y0]
    refine ⟨M8, ?_, ⟨f8.2.2.trans ((congrArg Prod.snd h2).trans f16.2.2), fun a k y0 y1 y2 => fr a k (by omega) (by omega) (by omega)⟩, k8, LC_r h12 hx (fun a k y0 y1 y2 y3 => fr a k (by omega) y2 y3) ?_ ?_ ?_ ?_ ?_ (fun a k y0 y1 => ?_) hC, ⟨by rw [fr _ _ (by omega) (by omega) (by omega)]; exact ho.1, by rw [fr _ _ (by omega) (by omega) (by omega)]; exact ho.2⟩⟩
    · have h7 := k0.2.2.1
      unfold f_X3_readPart
      simp only [zl]
      rw [lt_hd, h7]
      rw [if_neg (show ¬ zI 7 = zI 0 by decide), if_neg (show ¬ zI 7 = zI 1 by decide), if_neg (show ¬ zI 7 = zI 2 by decide), if_neg (show ¬ zI 7 = zI 3 by decide), if_neg (show ¬ zI 7 = zI 4 by decide), if_neg (show ¬ zI 7 = zI 5 by decide), if_neg (show ¬ zI 7 = zI 6 by decide), if_pos rfl, hC.2.1.2.1]
      refine sq11 (Y := fun M => f_X3_readRoad n 5 61 M) (k_start h12 (by omega) (by omega) e1) ?_
      show f_X3_readRoad n 5 61 M1 = _
      unfold f_X3_readRoad
      simp only [zl]
      rw [e2, Option.bind_some]
      dsimp only [lt]
      rw [zneg, if_neg (eqN (by omega) (by omega) (by omega) (by omega) (by omega)), e3, Option.bind_some]
      dsimp only
      rw [if_neg (eqN (by omega) (by omega) (by omega) (by omega) (by omega)), if_neg (eqN hx.2.2.2.2.1 (by omega) (by omega) (by omega) (by omega)), rb, Option.bind_some, if_pos rfl, show (zI 8) = zI ((8 : Nat) : Int) from rfl, k_word k3.2.2.1 e4, Option.bind_some]
      dsimp only
      rw [if_neg (show ¬ zI 1 = zI 0 by decide), k_num k4.2.1 k4.2.2.2.1 (by omega) (by omega) (by omega) (by omega) e5, Option.bind_some]
      dsimp only
      rw [if_neg (eqN (by omega) (by omega) (by omega) (by omega) (by omega)), e6, Option.bind_some]
      dsimp only
      rw [ar, Option.bind_some, k_semi k7.2.1 k7.2.2.2.1 e8]
      rfl
    · rw [f8.1 _ _ (by omega)]; exact v9
    · rw [f8.1 _ _ (by omega)]; exact vx
    · rw [f8.1 _ _ (by omega)]; exact vy
    · rw [f8.1 _ _ (by omega)]; exact vm
    · rw [f8.1 _ _ (by omega)]; exact vq
    · rw [f8.2.1 _ _ (by omega), h2, f16.2.1 _ _ (by omega)]
  by_cases w : q = 1
  · rw [if_pos w] at k4
    obtain ⟨M5, e5, f5, k5⟩ := tk_adv k4 hn (show Nx (sw 10 ++ l) (sw 6 ++ l) 1 ((9 : Nat) : Int) 0 0 from nx_word1 (w := wSm) (i := 9) (by decide) (by decide) (by decide) (nl_c (by decide)) (by decide) (by decide +kernel))
    obtain ⟨M6, e6, f6, k6⟩ := tk_adv k5 hn (nx_semi (l := l))
    exact fin M5 M6 e5 (FC_t f5 f6) k6 (by rw [w]; exact k_skipT k5.2.2.1 e6)
  · rw [if_neg w] at k4
    obtain ⟨M5, e5, f5, k5⟩ := tk_adv k4 hn (nx_semi (l := l))
    exact fin M5 M5 e5 f5 k5 (by rw [show q = 0 by omega]; exact k_skipF k5.2.2.1 (by omega) (by omega) (by omega))
