/-! ===== the heads of the text ===== -/
theorem sq11 {X : Option (Int32 × KM)} {Y : KM → Option (Int32 × KM)} {M1 M2 : KM} (h1 : X = some (zI 1, M1)) (h2 : Y M1 = some (zI 1, M2)) : (X.bind fun (v2 : (Int32 × KM)) => if v2.1 = zI 0 then some (zI 0, v2.2) else (Y v2.2).bind fun (v3 : (Int32 × KM)) => if v3.1 = zI 0 then some (zI 0, v3.2) else some (zI 1, v3.2)) = some (zI 1, M2) := by
  rw [h1, Option.bind_some]
  dsimp only
  rw [if_neg (show ¬ zI 1 = zI 0 by decide), h2, Option.bind_some]
  exact if_neg (show ¬ zI 1 = zI 0 by decide)
/-- a part read: what follows is l -/
def Pa (T : Int → Int) (E : Int) (n : Nat) (M M' : KM) (l : List Int) (c' : Int → Int) (t u : Int) : Prop := f_X3_readPart n 5 61 M = some (zI 1, M') ∧ RF M M' ∧ At T E M' l ∧ LC c' M' ∧ To M' t u
def wC : List Int := [99, 108, 111, 99, 107]
def wR : List Int := [114, 111, 112, 101]
def wH : List Int := [104, 97, 98, 105, 116]
def wO : List Int := [111, 100, 100, 115]
theorem nl_c {c : Int} {l : List Int} (h : ¬ (97 ≤ c ∧ c ≤ 122)) : nl (c :: l) := fun d m e => by
  have : c = d := by injection e
  omega
theorem nd_c {c : Int} {l : List Int} (h : ¬ (48 ≤ c ∧ c ≤ 57)) : nd (c :: l) := fun d m e => by
  have : c = d := by injection e
  omega
theorem pt_clock {T : Int → Int} {E : Int} {M : KM} {l : List Int} {c : Int → Int} {v t t' : Int} {n : Nat} (hA : At T E M (wC ++ (nmb v ++ (sw 6 ++ l)))) (hC : LC c M) (ho : To M t 0) (b1 : zI t &&& (zI 1 <<< (zI 2 &&& zI 31)) = zI 0) (b2 : zI t ||| (zI 1 <<< (zI 2 &&& zI 31)) = zI t') (hv : 0 ≤ v ∧ v ≤ 1439) (hn : 1000 < n) (hL : Lx l) : ∃ M', Pa T E n M M' l (bu c 5 v) t' 0 := by
  have k0 : TK T E M (nmb v ++ (sw 6 ++ l)) 1 2 0 0 := hA.2 _ _ _ _ _ (nx_word (w := wC) (i := 2) (by decide) (by decide) (by decide) (nl_c (by decide)) (by decide) (by decide +kernel))
  obtain ⟨M1, e1, f1, g1, r1, o1, k1⟩ := c_once k0 ho (by omega) b1 b2 hn (nx_N (v := v) (by omega) (by omega) (nd_c (by decide)))
  obtain ⟨M2, e2, f2, v2, g2, r2, k2⟩ := c_rd1 (cell := 11) k1 hv.1 hv.2 (by omega) (by omega) hn hL
  refine ⟨M2, ?_, ⟨r2.trans r1, fun a k x y z => by rw [f2 a k (by omega) (by omega), f1 a k (by omega)]⟩, k2, ?_, ⟨by rw [f2 _ _ (by omega) (by omega)]; exact o1.1, by rw [f2 _ _ (by omega) (by omega)]; exact o1.2⟩⟩
  · have h7 := k0.2.2.1
    unfold f_X3_readPart
    simp only [zl]
    rw [lt_hd, h7]
    rw [if_neg (show ¬ zI 2 = zI 0 by decide), if_neg (show ¬ zI 2 = zI 1 by decide), if_pos rfl]
    exact sq11 (Y := fun M => f_X3_readClock n 5 61 M) e1 e2
  · exact LC_1 (e := 5) (cell := 11) (by omega) (fun a k x y z => by rw [f2 a k (by omega) z, f1 a k (by omega)]) v2 (fun a k x y => by rw [g2 a k (by omega), g1 a k (by omega)]) hC
theorem pt_rope {T : Int → Int} {E : Int} {M : KM} {l : List Int} {c : Int → Int} {v t t' : Int} {n : Nat} (hA : At T E M (wR ++ (nmb v ++ (sw 6 ++ l)))) (hC : LC c M) (ho : To M t 0) (b1 : zI t &&& (zI 1 <<< (zI 3 &&& zI 31)) = zI 0) (b2 : zI t ||| (zI 1 <<< (zI 3 &&& zI 31)) = zI t') (hv : 1 ≤ v ∧ v ≤ 9) (hn : 1000 < n) (hL : Lx l) : ∃ M', Pa T E n M M' l (bu c 6 v) t' 0 := by
  have k0 : TK T E M (nmb v ++ (sw 6 ++ l)) 1 3 0 0 := hA.2 _ _ _ _ _ (nx_word (w := wR) (i := 3) (by decide) (by decide) (by decide) (nl_c (by decide)) (by decide) (by decide +kernel))
  obtain ⟨M1, e1, f1, g1, r1, o1, k1⟩ := c_once k0 ho (by omega) b1 b2 hn (nx_N (v := v) (by omega) (by omega) (nd_c (by decide)))
  obtain ⟨M2, e2, f2, v2, g2, r2, k2⟩ := c_rd1 (cell := 12) k1 hv.1 hv.2 (by omega) (by omega) hn hL
  refine ⟨M2, ?_, ⟨r2.trans r1, fun a k x y z => by rw [f2 a k (by omega) (by omega), f1 a k (by omega)]⟩, k2, ?_, ⟨by rw [f2 _ _ (by omega) (by omega)]; exact o1.1, by rw [f2 _ _ (by omega) (by omega)]; exact o1.2⟩⟩
  · have h7 := k0.2.2.1
    unfold f_X3_readPart
    simp only [zl]
    rw [lt_hd, h7]
    rw [if_neg (show ¬ zI 3 = zI 0 by decide), if_neg (show ¬ zI 3 = zI 1 by decide), if_neg (show ¬ zI 3 = zI 2 by decide), if_pos rfl]
    exact sq11 (Y := fun M => f_X3_readRope n 5 61 M) e1 e2
  · exact LC_1 (e := 6) (cell := 12) (by omega) (fun a k x y z => by rw [f2 a k (by omega) z, f1 a k (by omega)]) v2 (fun a k x y => by rw [g2 a k (by omega), g1 a k (by omega)]) hC
theorem pt_habit {T : Int → Int} {E : Int} {M : KM} {l : List Int} {c : Int → Int} {v t t' : Int} {n : Nat} (hA : At T E M (wH ++ (nmb v ++ (sw 6 ++ l)))) (hC : LC c M) (ho : To M t 0) (b1 : zI t &&& (zI 1 <<< (zI 4 &&& zI 31)) = zI 0) (b2 : zI t ||| (zI 1 <<< (zI 4 &&& zI 31)) = zI t') (hv : 1 ≤ v ∧ v ≤ 9) (hn : 1000 < n) (hL : Lx l) : ∃ M', Pa T E n M M' l (bu c 7 v) t' 0 := by
  have k0 : TK T E M (nmb v ++ (sw 6 ++ l)) 1 4 0 0 := hA.2 _ _ _ _ _ (nx_word (w := wH) (i := 4) (by decide) (by decide) (by decide) (nl_c (by decide)) (by decide) (by decide +kernel))
  obtain ⟨M1, e1, f1, g1, r1, o1, k1⟩ := c_once k0 ho (by omega) b1 b2 hn (nx_N (v := v) (by omega) (by omega) (nd_c (by decide)))
  obtain ⟨M2, e2, f2, v2, g2, r2, k2⟩ := c_rd1 (cell := 13) k1 hv.1 hv.2 (by omega) (by omega) hn hL
  refine ⟨M2, ?_, ⟨r2.trans r1, fun a k x y z => by rw [f2 a k (by omega) (by omega), f1 a k (by omega)]⟩, k2, ?_, ⟨by rw [f2 _ _ (by omega) (by omega)]; exact o1.1, by rw [f2 _ _ (by omega) (by omega)]; exact o1.2⟩⟩
  · have h7 := k0.2.2.1
    unfold f_X3_readPart
    simp only [zl]
    rw [lt_hd, h7]
    rw [if_neg (show ¬ zI 4 = zI 0 by decide), if_neg (show ¬ zI 4 = zI 1 by decide), if_neg (show ¬ zI 4 = zI 2 by decide), if_neg (show ¬ zI 4 = zI 3 by decide), if_pos rfl]
    exact sq11 (Y := fun M => f_X3_readHabit n 5 61 M) e1 e2
  · exact LC_1 (e := 7) (cell := 13) (by omega) (fun a k x y z => by rw [f2 a k (by omega) z, f1 a k (by omega)]) v2 (fun a k x y => by rw [g2 a k (by omega), g1 a k (by omega)]) hC
theorem pt_odds {T : Int → Int} {E : Int} {M : KM} {l : List Int} {c : Int → Int} {v t t' : Int} {n : Nat} (hA : At T E M (wO ++ (nmb v ++ (sw 6 ++ l)))) (hC : LC c M) (ho : To M t 0) (b1 : zI t &&& (zI 1 <<< (zI 5 &&& zI 31)) = zI 0) (b2 : zI t ||| (zI 1 <<< (zI 5 &&& zI 31)) = zI t') (hv : 0 ≤ v ∧ v ≤ 16) (hn : 1000 < n) (hL : Lx l) : ∃ M', Pa T E n M M' l (bu c 8 v) t' 0 := by
  have k0 : TK T E M (nmb v ++ (sw 6 ++ l)) 1 5 0 0 := hA.2 _ _ _ _ _ (nx_word (w := wO) (i := 5) (by decide) (by decide) (by decide) (nl_c (by decide)) (by decide) (by decide +kernel))
  obtain ⟨M1, e1, f1, g1, r1, o1, k1⟩ := c_once k0 ho (by omega) b1 b2 hn (nx_N (v := v) (by omega) (by omega) (nd_c (by decide)))
  obtain ⟨M2, e2, f2, v2, g2, r2, k2⟩ := c_rd1 (cell := 14) k1 hv.1 hv.2 (by omega) (by omega) hn hL
  refine ⟨M2, ?_, ⟨r2.trans r1, fun a k x y z => by rw [f2 a k (by omega) (by omega), f1 a k (by omega)]⟩, k2, ?_, ⟨by rw [f2 _ _ (by omega) (by omega)]; exact o1.1, by rw [f2 _ _ (by omega) (by omega)]; exact o1.2⟩⟩
  · have h7 := k0.2.2.1
    unfold f_X3_readPart
    simp only [zl]
    rw [lt_hd, h7]
    rw [if_neg (show ¬ zI 5 = zI 0 by decide), if_neg (show ¬ zI 5 = zI 1 by decide), if_neg (show ¬ zI 5 = zI 2 by decide), if_neg (show ¬ zI 5 = zI 3 by decide), if_neg (show ¬ zI 5 = zI 4 by decide), if_pos rfl]
    exact sq11 (Y := fun M => f_X3_readOdds n 5 61 M) e1 e2
  · exact LC_1 (e := 8) (cell := 14) (by omega) (fun a k x y z => by rw [f2 a k (by omega) z, f1 a k (by omega)]) v2 (fun a k x y => by rw [g2 a k (by omega), g1 a k (by omega)]) hC
theorem pt_glare {T : Int → Int} {E : Int} {M : KM} {l : List Int} {c : Int → Int} {f t : Int} {n : Nat} (hA : At T E M (sw 0 ++ (nmb f ++ (sw 1 ++ (nmb t ++ (sw 6 ++ l)))))) (hC : LC c M) (ho : To M 0 0) (hf : 0 ≤ f ∧ f ≤ 23) (ht : f < t ∧ t ≤ 24) (hn : 1000 < n) (hL : Lx l) : ∃ M', Pa T E n M M' l (bu (bu c 3 f) 4 t) 1 0 := by
  have k0 : TK T E M (nmb f ++ (sw 1 ++ (nmb t ++ (sw 6 ++ l)))) 1 ((0 : Nat) : Int) 0 0 := hA.2 _ _ _ _ _ (nx_word (w := sw 0) (i := 0) (by decide) (by decide) (by decide) (nl_c (by decide)) (by decide) (by decide +kernel))
  obtain ⟨M1, e1, f1, g1, r1, o1, k1⟩ := c_once (j := 0) (t' := 1) k0 ho (by omega) (by decide) (by decide) hn (nx_N (v := f) (by omega) (by omega) (nd_c (by decide)))
  obtain ⟨M2, e2, f2, k2⟩ := tk_adv k1 hn (show Nx (sw 1 ++ (nmb t ++ (sw 6 ++ l))) (nmb t ++ (sw 6 ++ l)) 1 ((1 : Nat) : Int) 0 0 from nx_word1 (w := [116, 111]) (i := 1) (by decide) (by decide) (by decide) (nl_c (by decide)) (by decide) (by decide +kernel))
  obtain ⟨M3, e3, f3, k3⟩ := tk_adv k2 hn (nx_N (v := t) (l := sw 6 ++ l) (by omega) (by omega) (nd_c (by decide)))
  obtain ⟨M4, e4, f4, k4⟩ := tk_adv k3 hn (nx_semi (l := l))
  have f14 := FC_t f2 (FC_t f3 f4)
  have st : f_X1_set (61 + 7) (zI f) (zI t) M4 = uI (uI (uI M4 68 0 (zI f)) 68 1 (zI t)) 68 2 (zI ((t - f) * 60)) := by
    unfold f_X1_set
    simp only [zl]
    dsimp only [lt]
    rw [uI_s, uI_o (by omega), uI_s, zsub, zmul]
  have k5 : TK T E (uI (uI (uI M4 68 0 (zI f)) 68 1 (zI t)) 68 2 (zI ((t - f) * 60))) l 3 (-1) 59 0 := TK_F (fun c i h => by rw [uI_o (by omega), uI_o (by omega), uI_o (by omega)]) (fun c i h => rfl) rfl k4
  obtain ⟨M6, e6, f6, k6⟩ := tk_At k5.1 k5.2.2.2.2.2 hn hL
  have fr : ∀ a k, ¬ (a = 5 ∧ 3 ≤ k ∧ k ≤ 12) → ¬ (a = 68 ∧ k ≤ 2) → M6.1 a k = M.1 a k := fun a k x y => by
    rw [f6.1 _ _ (by omega), uI_o (by omega), uI_o (by omega), uI_o (by omega), f14.1 _ _ (by omega), f1 _ _ x]
  refine ⟨M6, ?_, ⟨f6.2.2.trans (f14.2.2.trans r1), fun a k x y z => fr a k (by omega) (by omega)⟩, k6, ?_, ⟨?_, ?_⟩⟩
  · have h7 := k0.2.2.1
    unfold f_X3_readPart
    simp only [zl]
    rw [lt_hd, h7]
    rw [show zI ((0 : Nat) : Int) = zI 0 from rfl, if_pos rfl]
    refine sq11 (Y := fun M => f_X3_readGlare n 5 61 M) e1 ?_
    show f_X3_readGlare n 5 61 M1 = _
    unfold f_X3_readGlare
    simp only [zl]
    rw [k_num k1.2.1 k1.2.2.2.1 (by omega) (by omega) (by omega) (by omega) e2, Option.bind_some]
    dsimp only
    rw [zneg, if_neg (eqN (by omega) (by omega) (by omega) (by omega) (by omega)), show (zI 1) = zI ((1 : Nat) : Int) from rfl, k_word k2.2.2.1 e3, Option.bind_some]
    dsimp only
    rw [if_neg (show ¬ zI 1 = zI 0 by decide), zadd, k_num k3.2.1 k3.2.2.2.1 (by omega) (by omega) (by omega) (by omega) e4, Option.bind_some]
    dsimp only
    rw [if_neg (eqN (by omega) (by omega) (by omega) (by omega) (by omega)), lt_hd, st, k_semi k5.2.1 k5.2.2.2.1 e6]
    rfl
  · refine LC_2 (by omega) (fun a k x y z => fr a k (by omega) z) ?_ ?_ ?_ (fun a k x y => ?_) hC
    · rw [f6.1 _ _ (by omega), uI_o (by omega), uI_o (by omega), uI_s]
    · rw [f6.1 _ _ (by omega), uI_o (by omega), uI_s]
    · rw [f6.1 _ _ (by omega), uI_s]
    · rw [f6.2.1 _ _ (by omega)]
      show M4.2.1 a k = _
      rw [f14.2.1 _ _ (by omega), g1 _ _ (by omega)]
  · rw [f6.1 _ _ (by omega), uI_o (by omega), uI_o (by omega), uI_o (by omega), f14.1 _ _ (by omega)]; exact o1.1
  · rw [f6.1 _ _ (by omega), uI_o (by omega), uI_o (by omega), uI_o (by omega), f14.1 _ _ (by omega)]; exact o1.2
