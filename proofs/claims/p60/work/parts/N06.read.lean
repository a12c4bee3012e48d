/-! ===== the calls that ask, on a state ===== -/
theorem r_many {b : Int → Int} {n : Nat} (hn : 100 ≤ n) :
    Rd (f_X11_many n 0 (3 : Int32)) b (zI (b 3)) ∧ Rd (f_X11_many n 0 (4 : Int32)) b (zI (b 4)) ∧ Rd (f_X11_many n 0 (9 : Int32)) b (bI (glB b (b 5))) ∧
    Rd (f_X11_many n 0 (11 : Int32)) b (setB (fun q => decide (b (106 + q) = 1)) (b 2)) ∧ Rd (f_X11_many n 0 (12 : Int32)) b (setB (fun q => decide (0 ≤ b (66 + q))) (b 2)) ∧
    Rd (f_X11_many n 0 (13 : Int32)) b (setB (fun q => decide (0 ≤ b (82 + q))) (b 2)) ∧ Rd (f_X11_many n 0 (14 : Int32)) b (zI (sumB (fun q => b (90 + q)) (b 2))) :=
  ⟨Rd_of fun M L g h => (q_many (x := 0) h hn).1, Rd_of fun M L g h => (q_many (x := 0) h hn).2.1, Rd_of fun M L g h => (q_many (x := 0) h hn).2.2.1, Rd_of fun M L g h => (q_many (x := 0) h hn).2.2.2.1, Rd_of fun M L g h => (q_many (x := 0) h hn).2.2.2.2.1, Rd_of fun M L g h => (q_many (x := 0) h hn).2.2.2.2.2.1, Rd_of fun M L g h => (q_many (x := 0) h hn).2.2.2.2.2.2⟩
theorem r_person {b : Int → Int} {x : Int} {n : Nat} (hn : 100 ≤ n) (w : 0 ≤ x ∧ x < b 2) :
    Rd (f_X11_person n 0 (zI x) (0 : Int32)) b (zI (if 0 ≤ b (66 + x) then -1 else b (58 + x))) ∧ Rd (f_X11_person n 0 (zI x) (1 : Int32)) b (zI (if 0 ≤ b (66 + x) then b (66 + x) else -1)) ∧
    Rd (f_X11_person n 0 (zI x) (2 : Int32)) b (zI (b (74 + x))) ∧ Rd (f_X11_person n 0 (zI x) (3 : Int32)) b (zI (if 0 ≤ b (82 + x) then b (82 + x) else -1)) :=
  ⟨Rd_of fun M L g h => (q_person h hn w).1, Rd_of fun M L g h => (q_person h hn w).2.1, Rd_of fun M L g h => (q_person h hn w).2.2.1, Rd_of fun M L g h => (q_person h hn w).2.2.2⟩
theorem r_owes {b : Int → Int} {x y : Int} {n : Nat} (hn : 100 ≤ n) (w : 0 ≤ x ∧ x < b 2 ∧ 0 ≤ y ∧ y < b 2) (w2 : ¬ x = y) : Rd (f_X11_owes n 0 (zI x) (zI y)) b (zI (b (226 + 8 * x + y))) := Rd_of fun M L g h => q_owes h hn w w2
theorem r_net {b : Int → Int} {x : Int} {n : Nat} (hn : 100 ≤ n) (w : 0 ≤ x ∧ x < b 2) : Rd (f_X11_net n 0 (zI x)) b (zI (sumB (fun q => b (226 + 8 * q + x)) (b 2))) := Rd_of fun M L g h => q_net h hn w
theorem r_stuck {b : Int → Int} {n : Nat} (hn : 100 ≤ n) : Rd (f_X11_stuck n 0) b (setB (fun i => decide (b (66 + i) < 0 ∧ lvB b i = -1)) (b 2)) := Rd_of fun M L g h => q_stuck h hn
theorem r_can {b : Int → Int} {x y : Int} {n : Nat} (hn : 100 ≤ n) (w : 0 ≤ x ∧ x < b 2) (w2 : 0 ≤ y ∧ y < b 1) : Rd (f_X11_can n 0 (zI x) (zI y)) b (bI (canN b x y)) := Rd_of fun M L g h => q_can h hn w w2
theorem r_roadOf {b : Int → Int} {x y : Int} {n : Nat} (hn : 100 ≤ n) (w1 : 0 ≤ x ∧ x < b 0) (w2 : 0 ≤ y ∧ y < b 0) (w3 : ¬ btB b x y = -1) : Rd (f_X11_roadOf n 0 (zI x) (zI y)) b (zI (btB b x y)) := Rd_of fun M L g h => q_roadOf h hn w1 w2 w3
theorem r_reach {b : Int → Int} {x : Int} {n : Nat} (hn : 200 ≤ n) (w : 0 ≤ x ∧ x < b 2) (y : b (66 + x) < 0) : Rd (f_X11_reach n 0 (zI x)) b (setB (itR b x 8 0 (fun i => decide (i = b (58 + x)))) 8) := Rd_of fun M L g h => q_reach h hn w y
theorem r_lostIn {b : Int → Int} {x : Int} {n : Nat} (hn : 100 ≤ n) (w : 0 ≤ x ∧ x ≤ 999) : Rd (f_X11_lostIn n 0 (zI x)) b (zI (lT b x)) := Rd_of fun M L g h => q_lostIn h hn w
theorem r_lostBy {b : Int → Int} {x f t : Int} {n : Nat} (hn : 100 ≤ n) (w : 0 ≤ x ∧ x ≤ 999) (i3 : 0 ≤ f ∧ f ≤ 23 ∧ f < t ∧ t ≤ 24) : Rd (f_X11_lostBy n 0 (zI x) (zI f) (zI t)) b (zI (lT (hB b f t) x)) := Rd_of fun M L g h => q_lostBy h hn w i3
theorem r_bestFrom {b : Int → Int} {x : Int} {n : Nat} (hn : 100 ≤ n) (w : 0 ≤ x ∧ x ≤ 999) : Rd (f_X11_bestFrom n 0 (zI x)) b (zI (bfR b x)) := Rd_of fun M L g h => q_bestFrom h hn w
theorem r_soonest {b : Int → Int} {x y : Int} {n : Nat} (hn : 300 ≤ n) (w : 0 ≤ x ∧ x < b 2) (v : 0 ≤ y ∧ y < b 0) (u : b (66 + x) < 0) : Rd (f_X11_soonest n 0 (zI x) (zI y)) b (zI (soB b x (-1) y)) := Rd_of fun M L g h => q_soonest h hn w v u
theorem r_first {b : Int → Int} {x y : Int} {n : Nat} (hn : 400 ≤ n) (w : 0 ≤ x ∧ x < b 2) (v : 0 ≤ y ∧ y < b 0) (u : b (66 + x) < 0) (at0 : ¬ b (58 + x) = y) (k : TT b x (-1) (b (58 + x)) (b 5) y < 1000000000) : Rd (f_X11_soonestFirst n 0 (zI x) (zI y)) b (zI (fiB b x y)) := Rd_of fun M L g h => q_first h hn w v u at0 k
theorem r_two {b : Int → Int} {x y z : Int} {n : Nat} (hn : 300 ≤ n) (w : 0 ≤ x ∧ x < b 2) (w2 : 0 ≤ y ∧ y < b 2) (v : 0 ≤ z ∧ z < b 0) (u : b (66 + x) < 0) (u2 : b (66 + y) < 0) (nxy : ¬ x = y) : Rd (f_X11_soonestTwo n 0 (zI x) (zI y) (zI z)) b (zI (if b (58 + x) = b (58 + y) then soB b x y z else -1)) := Rd_of fun M L g h => q_two h hn w w2 v u u2 nxy
theorem r_meet {b : Int → Int} {x y : Int} {n : Nat} (hn : 400 ≤ n) (w : 0 ≤ x ∧ x < b 2) (w2 : 0 ≤ y ∧ y < b 2) : Rd (f_X11_meet n 0 (zI x) (zI y)) b (zI (if x = y ∨ 0 ≤ b (66 + x) ∨ 0 ≤ b (66 + y) then -1 else mtF b x y)) := Rd_of fun M L g h => q_meet h hn w w2
theorem r_meetIn {b : Int → Int} {x y : Int} {n : Nat} (hn : 400 ≤ n) (w : 0 ≤ x ∧ x < b 2) (w2 : 0 ≤ y ∧ y < b 2) (e : ¬ (x = y ∨ 0 ≤ b (66 + x) ∨ 0 ≤ b (66 + y))) (kf : ¬ mtF b x y = -1) : Rd (f_X11_meetIn n 0 (zI x) (zI y)) b (zI (mxT (TT b x (-1) (b (58 + x)) (b 5)) (TT b y (-1) (b (58 + y)) (b 5)) (mtF b x y) - b 5)) := Rd_of fun M L g h => q_meetIn h hn w w2 e kf
theorem r_pair {b : Int → Int} {x : Int} {n : Nat} (hn : 300 ≤ n) (w : 0 ≤ x ∧ x < b 2) : Rd (f_X11_pair n 0 (zI x)) b (zI (pmB b x)) := Rd_of fun M L g h => q_pair h hn w
theorem r_pairs {b : Int → Int} {n : Nat} (hn : 300 ≤ n) : Rd (f_X11_pairs n 0) b (zI (npB b)) := Rd_of fun M L g h => q_pairs h hn
theorem r_pairsOwe {b : Int → Int} {n : Nat} (hn : 300 ≤ n) : Rd (f_X11_pairsOwe n 0) b (zI (noB b)) := Rd_of fun M L g h => q_pairsOwe h hn
theorem r_plantSet {b : Int → Int} {x y : Int} {n : Nat} (hn : 300 ≤ n) (w : 0 ≤ x ∧ x < b 2) (v : 0 ≤ y ∧ y < b 0) (u : b (66 + x) < 0) : Rd (f_X11_plantSet n 0 (zI x) (zI y)) b (zI (if b (106 + x) = 1 then ptB b x y else -1)) := Rd_of fun M L g h => q_plantSet h hn w v u
/-! ===== and those that do ===== -/
theorem s_plant {X : KM} {b : Int → Int} {bm : Option (Int → Int)} {x : Int} {n : Nat} (h : SS X b bm) (hn : 100 ≤ n) (w1 : 0 ≤ x ∧ x < b 1) (w : b (46 + x) = 0) : ∃ Y, f_X11_plant n 0 (zI x) (1 : Int32) X = some (zI 1, Y) ∧ SS Y (bu b (46 + x) 1) bm := by
  obtain ⟨M, L, g, rfl, hC, hm, hh⟩ := h
  have hl := Ptr_l hC.1
  obtain ⟨N, e, w2, c⟩ := q_plant hC hn w1 w
  exact ⟨_, e, N, L, g, rfl, c, Mk_Wr hl w2 hm, Ht_Wr hl w2 (bu_o (by omega)) (bu_o (by omega)) (bu_o (by omega)) hh⟩
theorem s_go_T {X : KM} {b : Int → Int} {bm : Option (Int → Int)} {x y : Int} {n : Nat} (h : SS X b bm) (hn : 100 ≤ n) (w1 : 0 ≤ x ∧ x < b 2) (w2 : 0 ≤ y ∧ y < b 0) (w3 : stOK b x y) : ∃ Y, f_X11_go n 0 (zI x) (zI y) X = some (zI (b (34 + goR b x y)), Y) ∧ SS Y (ouB b x 0 y) bm ∧ Led b (ouB b x 0 y) x 0 y := by
  obtain ⟨M, L, g, rfl, hC, hm, hh⟩ := h
  have hl := Ptr_l hC.1
  obtain ⟨N, e, s, c, l⟩ := q_go_T hC hn w1 w2 w3
  exact ⟨_, e, ⟨N, L, _, rfl, c, Mk_Wr hl (Wr_Sc s) hm, Ht_Wr hl (Wr_Sc s) (l.1 _ (by omega)) (l.1 _ (by omega)) (l.1 _ (by omega)) hh⟩, l⟩
/-- places, roads, hours and minute stay -/
def Sg (c : KM → Option (Int32 × KM)) (b : Int → Int) : Prop := ∀ X bm, SS X b bm → ∃ r Y b', c X = some (r, Y) ∧ SS Y b' bm ∧ (∀ z, ¬ (58 ≤ z ∧ z < 130) → b' z = b z)
theorem Sg_of {c : KM → Option (Int32 × KM)} {b : Int → Int} (h : ∀ M L g, CI M L g b → Go c M L g b) : Sg c b := by
  intro X bm ⟨M, L, g, e, hC, hm, hh⟩
  have hl := Ptr_l hC.1
  obtain ⟨r, N, g', b', e1, s, c1, l⟩ := h M L g hC
  exact ⟨r, _, b', by rw [e]; exact e1, ⟨N, L, g', rfl, c1, Mk_Wr hl (Wr_Sc s) hm, Ht_Wr hl (Wr_Sc s) (l _ (by omega)) (l _ (by omega)) (l _ (by omega)) hh⟩, l⟩
theorem s_go {b : Int → Int} {x y : Int} {n : Nat} (hn : 100 ≤ n) (w1 : 0 ≤ x ∧ x < b 2) (w2 : 0 ≤ y ∧ y < b 0) : Sg (f_X11_go n 0 (zI x) (zI y)) b := Sg_of fun M L g h => q_go h hn w1 w2
theorem s_lead {b : Int → Int} {x y z : Int} {n : Nat} (hn : 100 ≤ n) (w1 : 0 ≤ x ∧ x < b 2) (w2 : 0 ≤ y ∧ y < b 0) (hz1 : -2147483648 ≤ z) (hz2 : z < 2147483648) : Sg (f_X11_lead n 0 (zI x) (zI z) (zI y)) b := Sg_of fun M L g h => q_lead h hn w1 w2 hz1 hz2
theorem s_cloud {X : KM} {b : Int → Int} {bm : Option (Int → Int)} {p : Int} {n : Nat} (h : SS X b bm) (hn : 100 ≤ n) (hp : p = 0 ∨ p = 1) : ∃ r Y b', f_X11_cloud n 0 (zI p) X = some (r, Y) ∧ SS Y b' bm ∧ (∀ z, ¬ z = 9 → b' z = b z) := by
  obtain ⟨M, L, g, rfl, hC, hm, hh⟩ := h
  have hl := Ptr_l hC.1
  obtain ⟨r, N, b', e, w, c, l⟩ := q_cloud hC hn hp
  exact ⟨r, _, b', e, ⟨N, L, g, rfl, c, Mk_Wr hl w hm, Ht_Wr hl w (l _ (by omega)) (l _ (by omega)) (l _ (by omega)) hh⟩, l⟩
theorem s_passes {X : KM} {b : Int → Int} {bm : Option (Int → Int)} {x : Int} {n : Nat} (h : SS X b bm) (hn : 300 ≤ n) (w : 1 ≤ x ∧ x ≤ 999) (w2 : b 5 + x ≤ 99999) : ∃ Y, f_X11_passes n 0 (zI x) X = some (aS b x, Y) ∧ SS Y (cI b x) bm := by
  obtain ⟨M, L, g, rfl, hC, hm, hh⟩ := h
  have hl := Ptr_l hC.1
  obtain ⟨N, e, v, c⟩ := q_passes hC hn w w2
  exact ⟨_, e, N, L, _, rfl, c, Mk_Wr hl v hm, Ht_Wr hl v (cI_o (by omega) (by omega)) (cI_o (by omega) (by omega)) (cI_o (by omega) (by omega)) hh⟩
