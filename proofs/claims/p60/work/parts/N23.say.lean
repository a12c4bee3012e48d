/-! ===== the text as a list ===== -/
theorem gd_l {ts us : List Int} {i : Nat} (h : i < ts.length) : (ts ++ us).getD i 0 = ts.getD i 0 := by
  rw [List.getD_eq_getElem?_getD, List.getD_eq_getElem?_getD, List.getElem?_append_left h]
theorem gd_c {ts : List Int} {c : Int} : (ts ++ [c]).getD ts.length 0 = c := by
  rw [List.getD_eq_getElem?_getD, List.getElem?_append_right (Nat.le_refl _), Nat.sub_self]
  rfl
theorem gd_r {ts : List Int} (h : ∀ c ∈ ts, 0 ≤ c ∧ c < 128) (i : Nat) : 0 ≤ ts.getD i 0 ∧ ts.getD i 0 < 128 := by
  by_cases q : i < ts.length
  · rw [List.getD_eq_getElem?_getD, List.getElem?_eq_getElem q]
    exact h _ (List.getElem_mem q)
  · rw [List.getD_eq_getElem?_getD, List.getElem?_eq_none (by omega)]
    exact ⟨Int.le_refl _, by decide⟩
theorem t20 : (zI 20).toNatClampNeg = 20 := rfl
theorem t21 : (zI 21).toNatClampNeg = 21 := rfl
/-- ts has been said -/
def Tp (M : KM) (ts : List Int) : Prop := (∀ c ∈ ts, 0 ≤ c ∧ c < 128) ∧ ts.length ≤ 880 ∧ ∃ q f : Nat, ts.length = f + q ∧ q < 20 ∧ M.1 227 20 = zI q ∧ M.1 227 21 = zI ts.length ∧ M.1 0 13 = zI f ∧ (∀ i, i < q → M.1 227 i = zI (ts.getD (f + i) 0)) ∧ (∀ z, z < f → M.1 2 z = zI (ts.getD z 0)) ∧ ∀ z : Nat, z < 900 → ∃ t : Int, -128 ≤ t ∧ t < 128 ∧ M.1 2 z = zI t
/-- a step that says us -/
def Sy (g : KM → Option KM) (us : List Int) : Prop := ∀ M ts, Tp M ts → ts.length + us.length ≤ 880 → ∃ N, g M = some N ∧ TF M N ∧ N.1 227 22 = M.1 227 22 ∧ Tp N (ts ++ us)
theorem Sy_put {n : Nat} {c : Int} (hc : 0 ≤ c ∧ c < 128) (hn : 50 ≤ n) : Sy (f_L_put n 0 227 (zI c)) [c] := by
  intro M ts hT hl
  obtain ⟨t1, t2, q, f, e1, e2, e3, e4, e5, e6, e7, e8⟩ := hT
  have hl2 : ts.length + 1 ≤ 880 := hl
  have a1 : ∀ c' ∈ ts ++ [c], 0 ≤ c' ∧ c' < 128 := fun c' h => by
    rcases List.mem_append.mp h with h | h
    · exact t1 c' h
    · rw [List.mem_singleton.mp h]; exact hc
  have a2 : (ts ++ [c]).length = ts.length + 1 := by rw [List.length_append]; rfl
  have M9 : ∀ K : KM, K = uI (uI (uI M 227 q (zI c)) 227 20 (zI ((q + 1 : Nat) : Int))) 227 21 (zI ((ts.length + 1 : Nat) : Int)) → TF M K ∧ K.1 227 22 = M.1 227 22 ∧ K.1 227 20 = zI ((q + 1 : Nat) : Int) ∧ K.1 227 21 = zI ((ts.length + 1 : Nat) : Int) ∧ K.1 0 13 = zI f ∧ (∀ i, i < q + 1 → K.1 227 i = zI ((ts ++ [c]).getD (f + i) 0)) ∧ (∀ z, K.1 2 z = M.1 2 z) := fun K hK => by
    subst hK
    refine ⟨⟨rfl, fun a k h1 h2 h3 => ?_⟩, ?_, ?_, uI_s, ?_, fun i hi => ?_, fun z => ?_⟩
    · rw [uI_o (by omega), uI_o (by omega), uI_o (by omega)]
    · rw [uI_o (by omega), uI_o (by omega), uI_o (by omega)]
    · rw [uI_o (by omega), uI_s]
    · rw [uI_o (by omega), uI_o (by omega), uI_o (by omega)]; exact e5
    · rw [uI_o (by omega), uI_o (by omega)]
      by_cases w : i = q
      · rw [w, uI_s, show f + q = ts.length by omega, gd_c]
      · rw [uI_o (by omega), e6 i (by omega), gd_l (by omega)]
    · rw [uI_o (by omega), uI_o (by omega), uI_o (by omega)]
  have head : ∀ K, f_L_put n 0 227 (zI c) M = K ↔ (if zI ((q + 1 : Nat) : Int) = zI 20 then (f_L_feed n 0 227 (uI (uI (uI M 227 q (zI c)) 227 20 (zI ((q + 1 : Nat) : Int))) 227 21 (zI ((ts.length + 1 : Nat) : Int)))).bind fun v => some v else some (uI (uI (uI M 227 q (zI c)) 227 20 (zI ((q + 1 : Nat) : Int))) 227 21 (zI ((ts.length + 1 : Nat) : Int)))) = K := fun K => by
    have i1 : ix (zI 20) 24 := ixP (by omega) (by omega) (by omega)
    have i2 : ix (zI 21) 24 := ixP (by omega) (by omega) (by omega)
    have i3 : ix (zI q) 24 := ixP (by omega) (by omega) (by omega)
    have k0 : (zI (q : Int)).toNatClampNeg = q := by rw [zidx (by omega) (by omega)]; omega
    have k1 : (uI M 227 q (zI c)).1 227 20 = zI q := by
      rw [uI_o (by omega)]; exact e3
    have k2 : (uI (uI M 227 q (zI c)) 227 20 (zI ((q + 1 : Nat) : Int))).1 227 21 = zI ts.length := by
      rw [uI_o (by omega), uI_o (by omega)]; exact e4
    have k3 : (uI (uI (uI M 227 q (zI c)) 227 20 (zI ((q + 1 : Nat) : Int))) 227 21 (zI ((ts.length + 1 : Nat) : Int))).1 227 20 = zI ((q + 1 : Nat) : Int) := by
      rw [uI_o (by omega), uI_s]
    unfold f_L_put
    simp only [zl, t20, t21]
    rw [if_pos i1, e3, if_pos i3, lt_hd, if_pos i1, if_pos i1, k0, k1, zadd, show (q : Int) + 1 = ((q + 1 : Nat) : Int) by omega, lt_hd, if_pos i2, if_pos i2, k2, zadd, show (ts.length : Int) + 1 = ((ts.length + 1 : Nat) : Int) by omega, lt_hd, if_pos i1, k3]
  obtain ⟨m1, m2, m3, m4, m5, m6, m7⟩ := M9 _ rfl
  by_cases w : q + 1 = 20
  · obtain ⟨N, g1, g2, g3, g4, g5, g6, g7⟩ := c_feedL (c := fun i => (ts ++ [c]).getD (f + i) 0) (n := n) (q := q + 1) (f := f) m5 (by omega) (by omega) m3 (fun i hi => ⟨m6 i hi, gd_r a1 _⟩) hn
    refine ⟨N, (head _).mpr ?_, TF_t m1 g2, g5.trans m2, a1, by omega, 0, f + 20, by omega, by omega, g3, by rw [g4, m4, a2], g6, fun i hi => by omega, fun z hz => ?_, fun z hz => ?_⟩
    · rw [if_pos (by rw [w]; rfl), g1]; rfl
    · rw [g7 z]
      by_cases y : f ≤ z ∧ z < f + 20
      · rw [if_pos y, if_pos (by omega), show f + (z - f) = z by omega]
      · rw [if_neg y, m7, e7 z (by omega), gd_l (by omega)]
    · rw [g7 z]
      by_cases y : f ≤ z ∧ z < f + 20
      · rw [if_pos y, if_pos (by omega)]
        have := gd_r a1 (f + (z - f))
        exact ⟨_, by omega, this.2, rfl⟩
      · rw [if_neg y, m7]; exact e8 z hz
  · refine ⟨_, (head _).mpr (if_neg (eqN (by omega) (by omega) (by omega) (by omega) (by omega))), m1, m2, a1, by omega, q + 1, f, by omega, by omega, m3, by rw [m4, a2], m5, m6, fun z hz => ?_, fun z hz => ?_⟩
    · rw [m7, e7 z hz, gd_l (by omega)]
    · rw [m7]; exact e8 z hz
theorem Sy_bind {g k : KM → Option KM} {us vs : List Int} (h1 : Sy g us) (h2 : Sy k vs) : Sy (fun M => (g M).bind k) (us ++ vs) := by
  intro M ts hT hl
  rw [List.length_append] at hl
  obtain ⟨N, a1, a2, a3, a4⟩ := h1 M ts hT (by omega)
  obtain ⟨K, b1, b2, b3, b4⟩ := h2 N (ts ++ us) a4 (by rw [List.length_append]; omega)
  refine ⟨K, ?_, TF_t a2 b2, b3.trans a3, by rw [← List.append_assoc]; exact b4⟩
  show (g M).bind k = _
  rw [a1]; exact b1
theorem Sy_some : Sy (fun M => some M) [] := fun M ts hT _ => ⟨M, rfl, TF_r, rfl, by rw [List.append_nil]; exact hT⟩
theorem Sy_e {g k : KM → Option KM} {us : List Int} (h : Sy g us) (e : ∀ M, k M = g M) : Sy k us := fun M ts hT hl => by rw [e]; exact h M ts hT hl
theorem Sy_l {g : KM → Option KM} {us vs : List Int} (h : Sy g us) (e : us = vs) : Sy g vs := by rw [← e]; exact h
/-! ===== the law's words ===== -/
def lwText : List (List Int) := [[103, 108, 97, 114, 101], [32, 116, 111], [59, 99, 108, 111, 99, 107], [59, 114, 111, 112, 101], [59, 104, 97, 98, 105, 116], [59, 111, 100, 100, 115], [59], [112, 108, 97, 99, 101], [114, 111, 97, 100], [32, 109, 105, 110, 117, 116, 101, 115], [32, 115, 109, 101, 108, 108, 115, 59], [98, 108, 105, 110, 100], [115, 105, 103, 104, 116, 101, 100], [32, 97, 116], [32, 103, 108, 97, 115, 115, 101, 115, 59], [107, 110, 111, 119, 115]]
def sw (i : Nat) : List Int := lwText.getD i []
theorem sw_len2 : ∀ i, i < 16 → (sw i).length = sLen i ∧ sLen i ≤ 9 := by decide +kernel
theorem sw_ch2 : ∀ i, i < 16 → ∀ k, k < 9 → k < sLen i → sCh i k = zI ((sw i).getD k 0) ∧ 0 ≤ (sw i).getD k 0 ∧ (sw i).getD k 0 < 128 := by decide +kernel
theorem drop_gd {l : List Int} {w : Nat} (h : w < l.length) : l.drop w = l.getD w 0 :: l.drop (w + 1) := by
  rw [List.drop_eq_getElem_cons h, List.getD_eq_getElem?_getD, List.getElem?_eq_getElem h]
  rfl
theorem Sy_sayL {i : Nat} (hi : i < 16) : ∀ (k n w : Nat), w + k = sLen i → k + 60 ≤ n → Sy (lp_L_say_2 n 0 227 i (zI w)) ((sw i).drop w) := by
  obtain ⟨l1, l2⟩ := sw_len2 i hi
  intro k
  induction k with
  | zero =>
    intro n w hw hn
    obtain ⟨m, rfl⟩ : ∃ m, n = m + 1 := ⟨n - 1, by omega⟩
    rw [List.drop_eq_nil_of_le (by omega)]
    refine Sy_e Sy_some fun M => ?_
    rw [lp_L_say_2, nI_z, if_pos (leP (by omega) (by omega) (by omega))]
  | succ k ih =>
    intro n w hw hn
    obtain ⟨m, rfl⟩ : ∃ m, n = m + 1 := ⟨n - 1, by omega⟩
    obtain ⟨c1, c2, c3⟩ := sw_ch2 i hi w (by omega) (by omega)
    rw [drop_gd (by omega)]
    refine Sy_e (Sy_bind (Sy_put (n := m) ⟨c2, c3⟩ (by omega)) (ih m (w + 1) (by omega) (by omega))) fun M => ?_
    rw [lp_L_say_2, nI_z, if_neg (leN (by omega) (by omega) (by omega)), if_pos (ixP (by omega) (by omega) (by omega)), zidx (by omega) (by omega), show ((w : Int)).toNat = w by omega, c1]
    simp only [zl]
    rw [zadd]
    rfl
theorem Sy_say {i n : Nat} (hi : i < 16) (hn : 80 ≤ n) : Sy (f_L_say n 0 227 i) (sw i) := by
  have := sw_len2 i hi
  exact Sy_sayL hi (sLen i) n 0 (by omega) (by omega)
def dg (v : Int) : List Int := (if 999 < v then [48 + v / 1000] else []) ++ ((if 99 < v then [48 + v / 100 % 10] else []) ++ ((if 9 < v then [48 + v / 10 % 10] else []) ++ [48 + v % 10]))
def nmb (v : Int) : List Int := 32 :: dg v
def nam (s k : Int) : List Int := [32, s, 97 + k]
theorem Sy_name {s k : Int} {n : Nat} (hs : 0 ≤ s ∧ s < 128) (hk : 0 ≤ k ∧ k < 8) (hn : 80 ≤ n) : Sy (f_L_name n 0 227 (zI s) (zI k)) (nam s k) := by
  refine Sy_e (Sy_bind (Sy_put (n := n) (c := 32) (by omega) (by omega)) (Sy_bind (Sy_put (n := n) hs (by omega)) (Sy_put (n := n) (c := 97 + k) (by omega) (by omega)))) fun M => ?_
  unfold f_L_name
  simp only [zl, zadd]
  cases f_L_put n 0 227 (zI 32) M with
  | none => rfl
  | some v =>
    show ((f_L_put n 0 227 (zI s) v).bind fun v2 => (f_L_put n 0 227 (zI (97 + k)) v2).bind fun v3 => some v3) = (f_L_put n 0 227 (zI s) v).bind (f_L_put n 0 227 (zI (97 + k)))
    cases f_L_put n 0 227 (zI s) v with
    | none => rfl
    | some v2 => exact bsome _
theorem Sy_number {v : Int} {n : Nat} (hv : 0 ≤ v ∧ v ≤ 9999) (hn : 80 ≤ n) : Sy (f_L_number n 0 227 (zI v)) (nmb v) := by
  have d1 : zI v / zI 1000 = zI (v / 1000) := zdiv hv.1 (by omega) (by omega) (by omega)
  have d2 : zI v / zI 100 = zI (v / 100) := zdiv hv.1 (by omega) (by omega) (by omega)
  have d3 : zI v / zI 10 = zI (v / 10) := zdiv hv.1 (by omega) (by omega) (by omega)
  have r1 := rem_z (a := v) (d := 10) hv.1 (by omega) (by omega) (by omega)
  have r2 := rem_z (a := v / 10) (d := 10) (by omega) (by omega) (by omega) (by omega)
  have r3 := rem_z (a := v / 100) (d := 10) (by omega) (by omega) (by omega) (by omega)
  rw [d3] at r1
  have opt : ∀ (b c : Int) (g : KM → Option KM) (us : List Int), Sy g us → 0 ≤ b → b < 10000 → (b < v → 0 ≤ c ∧ c < 128) → Sy (fun M => if zI v ≤ zI b then g M else (f_L_put n 0 227 (zI c) M).bind g) ((if b < v then [c] else []) ++ us) := fun b c g us hg b0 b1 hc => by
    by_cases w : b < v
    · rw [if_pos w]
      refine Sy_e (Sy_bind (Sy_put (n := n) (hc w) (by omega)) hg) fun M => ?_
      exact if_neg (leN w (by omega) (by omega))
    · rw [if_neg w, List.nil_append]
      refine Sy_e hg fun M => ?_
      exact if_pos (leP (by omega) (by omega) (by omega))
  have s0 := Sy_put (n := n) (c := 48 + v % 10) (by omega) (by omega)
  have s1 := opt 9 (48 + v / 10 % 10) _ _ s0 (by omega) (by omega) (by omega)
  have s2 := opt 99 (48 + v / 100 % 10) _ _ s1 (by omega) (by omega) (by omega)
  have s3 := opt 999 (48 + v / 1000) _ _ s2 (by omega) (by omega) (by omega)
  refine Sy_e (Sy_bind (Sy_put (n := n) (c := 32) (by omega) (by omega)) s3) fun M => ?_
  unfold f_L_number
  simp only [zl, ↓lt, show (1000 : Int32) = zI 1000 from rfl, d1, d2, d3, r1, r2, r3, zadd, bsome]
