/-! ===== mark and back ===== -/
theorem CI_LOK {M : KM} {L : Nat} {g : Int → Int → Int → Int} {b : Int → Int} (h : CI M L g b) : LOK (ps M L g) L b := by
  obtain ⟨h1, h2, h3, h4, h5, h6⟩ := h
  have hl := Ptr_L h1
  have hW := h4
  obtain ⟨w1, w2, w3, w4, w5, w6⟩ := h4
  unfold WH at w1
  refine ⟨HL_of (fun a k x y => ps_o (by omega)) h2, ?_, hW, h5⟩
  refine ⟨fun p x y => ?_, fun p r x y z w => ?_, fun p q x y z w => ?_, fun p x y => ?_⟩
  · have e := h3.1 p x y
    have e2 := w3 p x y
    unfold GP at e ⊢
    unfold WP at e2
    rw [pg_ps (k := 3) (by omega) (by omega) (by omega) (by omega) (by omega) (by omega) (by omega), pg_ps (k := 4) (by omega) (by omega) (by omega) (by omega) (by omega) (by omega) (by omega), pg_ps (k := 5) (by omega) (by omega) (by omega) (by omega) (by omega) (by omega) (by omega), pg_ps (k := 6) (by omega) (by omega) (by omega) (by omega) (by omega) (by omega) (by omega), pg_ps (k := 7) (by omega) (by omega) (by omega) (by omega) (by omega) (by omega) (by omega), pg_ps (k := 8) (by omega) (by omega) (by omega) (by omega) (by omega) (by omega) (by omega), pg_ps (k := 9) (by omega) (by omega) (by omega) (by omega) (by omega) (by omega) (by omega), pg_ps (k := 11) (by omega) (by omega) (by omega) (by omega) (by omega) (by omega) (by omega)]
    refine ⟨e.1, e.2.1, e.2.2.1, e.2.2.2.1, e.2.2.2.2.1, ?_, e.2.2.2.2.2.2⟩
    rcases e.2.2.2.2.2.1 with q | q
    · exact Or.inl q
    · right
      rw [pg_ps (k := 10) (by omega) (by omega) (by omega) (by omega) (by omega) (by omega) (by omega)]
      exact q
  · have e := h3.2.1 p r x y z w
    have e2 := w4 p r x (by omega) z (by omega)
    rw [pg_ps (by omega) (by omega) (by omega) (by omega) (by omega) (by omega) (by omega)]
    exact e
  · have e := h3.2.2.1 p q x y z w
    have e2 := w5 p q x (by omega) z (by omega)
    rw [pg_ps (by omega) (by omega) (by omega) (by omega) (by omega) (by omega) (by omega)]
    exact e
  · have e := h3.2.2.2 p x y
    rw [pg_ps (k := 3) (by omega) (by omega) (by omega) (by omega) (by omega) (by omega) (by omega), pg_ps (k := 4) (by omega) (by omega) (by omega) (by omega) (by omega) (by omega) (by omega)]
    exact e
theorem LOK_CI {M : KM} {L : Nat} {b : Int → Int} (hP : Ptr M L) (h : LOK M L b) (h7 : M.1 (M.2.2 L 7) 7 = zI 0 ∨ M.1 (M.2.2 L 7) 7 = zI 1) : CI M L (pg M L) b := ⟨hP, h.1, h.2.1, h.2.2.1, h.2.2.2, h7⟩
theorem CI_7 {M : KM} {L : Nat} {g : Int → Int → Int → Int} {b : Int → Int} (h : CI M L g b) : (ps M L g).1 (M.2.2 L 7) 7 = zI 0 ∨ (ps M L g).1 (M.2.2 L 7) 7 = zI 1 := by
  have hq := Ptr_P h.1
  rw [ps_o (by omega)]
  exact h.2.2.2.2.2
theorem LOK_15 {M : KM} {L : Nat} {b : Int → Int} (h : LOK M L b) : M.1 L 15 = zI 0 ∨ M.1 L 15 = zI 1 := by
  have hh := h.2.2.1.1
  unfold WH at hh
  rw [show M.1 L 15 = zI (b 9) from h.1.2.2.2.2.2.2.2.1]
  have : b 9 = 0 ∨ b 9 = 1 := by omega
  rcases this with e | e
  · exact Or.inl (by rw [e])
  · exact Or.inr (by rw [e])
/-- a land kept aside -/
def Kp (M : KM) (b : Int → Int) : Prop := LOK M 113 b ∧ (M.1 121 7 = zI 0 ∨ M.1 121 7 = zI 1)
theorem q_mark {M : KM} {L n : Nat} {b : Int → Int} (hP : Ptr M L) (h : LOK M L b) (h7 : M.1 (M.2.2 L 7) 7 = zI 0 ∨ M.1 (M.2.2 L 7) 7 = zI 1) (h14 : M.1 0 14 = zI 0) (hn : 100 ≤ n) : ∃ N, f_X11_mark n 0 M = some (zI 1, N) ∧ Ptr N L ∧ LOK N L b ∧ (N.1 (N.2.2 L 7) 7 = zI 0 ∨ N.1 (N.2.2 L 7) 7 = zI 1) ∧ N.1 0 14 = zI 1 ∧ Kp N b ∧ (∀ a k, 227 ≤ a → N.1 a k = M.1 a k) := by
  have hq := Ptr_P hP
  have hl := Ptr_L hP
  have hP2 := hP
  unfold Ptr at hP2
  have hD : M.2.2 113 7 = 121 := hP2.2.2.2.2.2.2.2.2.1
  have hap : apt 113 L 121 (M.2.2 L 7) := by
    unfold apt
    omega
  obtain ⟨N, e1, hCo⟩ := c_landCopy (n := n) hap hD rfl (LOK_15 h) h7 (LOK_01 h) (by omega)
  have lok := LCo_LOK hCo h
  obtain ⟨d1, d2, d3, -, -, -, -, d8, d9, -⟩ := hCo
  have fN : ∀ a k, ¬ (113 ≤ a ∧ a < 151) → N.1 a k = M.1 a k := fun a k h => d2 a k (by omega) (by omega) (by omega)
  have n14 : N.1 0 14 = zI 0 := (fN 0 14 (by omega)).trans h14
  have hp0 : M.2.2 0 10 = L := hP2.1
  have m1 : ∀ a k, ¬ (113 ≤ a ∧ a < 151) → ¬ (a = 0 ∧ (k = 14 ∨ k = 15)) → (uI (uI N 0 14 (zI 1)) 0 15 (zI 0)).1 a k = M.1 a k := fun a k h1 h2 => by
    rw [uI_o (by omega), uI_o (by omega)]; exact fN a k h1
  have m2 : ∀ a k, ¬ a = 0 → (uI (uI N 0 14 (zI 1)) 0 15 (zI 0)).1 a k = N.1 a k := fun a k h1 => by
    rw [uI_o (by omega), uI_o (by omega)]
  have m3 : (uI (uI N 0 14 (zI 1)) 0 15 (zI 0)).2.2 = M.2.2 := d1
  refine ⟨uI (uI N 0 14 (zI 1)) 0 15 (zI 0), ?_, ?_, ?_, ?_, ?_, ⟨?_, ?_⟩, fun a k x => m1 a k (by omega) (by omega)⟩
  · have es : (0 : Nat) + 3 + 110 + 38 * (0 : Int).toNat = 113 := by omega
    unfold f_X11_mark
    simp (disch := first | omega | assumption) only [↓lt, zl, h14, zltT, if_true, ixT, zidx, es, hp0, e1, Option.bind_some, n14, zadd, f_X11_tell, uI_s]
    rfl
  · unfold Ptr; rw [m3]; exact hP2
  · exact LOK_of (fun a k x y => m1 a k (by omega) (by omega)) (fun a k x y => m1 a k (by omega) (by omega)) h
  · rw [m3, m1 _ _ (by omega) (by omega)]; exact h7
  · rw [uI_o (by omega), uI_s]
  · exact LOK_of (fun a k x y => m2 a k (by omega)) (fun a k x y => m2 a k (by omega)) lok
  · rw [m2 _ _ (by omega), d9.2.2.1]; exact h7
theorem q_back {M : KM} {L n : Nat} {b bm : Int → Int} (hP : Ptr M L) (h : LOK M L b) (h14 : M.1 0 14 = zI 1) (hk : Kp M bm) (hn : 100 ≤ n) : ∃ N, f_X11_back n 0 M = some (zI 0, N) ∧ Ptr N L ∧ LOK N L bm ∧ (N.1 (N.2.2 L 7) 7 = zI 0 ∨ N.1 (N.2.2 L 7) 7 = zI 1) ∧ N.1 0 14 = zI 0 ∧ (∀ a k, 227 ≤ a → N.1 a k = M.1 a k) := by
  have hq := Ptr_P hP
  have hl := Ptr_L hP
  have hP2 := hP
  unfold Ptr at hP2
  have hD : M.2.2 113 7 = 121 := hP2.2.2.2.2.2.2.2.2.1
  have hap : apt L 113 (M.2.2 L 7) 121 := by
    unfold apt
    omega
  obtain ⟨k1, k2⟩ := hk
  have m0 : ∀ a k, ¬ a = 0 → (uI M 0 14 (zI 0)).1 a k = M.1 a k := fun a k h => uI_o (by omega)
  have k3 := LOK_of (M' := uI M 0 14 (zI 0)) (fun a k x y => m0 a k (by omega)) (fun a k x y => m0 a k (by omega)) k1
  obtain ⟨N, e1, hCo⟩ := c_landCopy (M := uI M 0 14 (zI 0)) (n := n) hap rfl hD (by rw [m0 _ _ (by omega)]; exact LOK_15 k1) (by rw [m0 _ _ (by omega)]; exact k2) (fun p hp => by rw [m0 _ _ (by omega), m0 _ _ (by omega)]; exact LOK_01 k1 p hp) (by omega)
  have lok := LCo_LOK hCo k3
  obtain ⟨d1, d2, d3, -, -, -, -, d8, d9, -⟩ := hCo
  have hp0 : M.2.2 0 10 = L := hP2.1
  have fN14 : N.1 0 14 = zI 0 := by
    rw [d2 0 14 (by omega) (by omega) (by omega)]
    exact uI_s
  have m3 : (uI N 0 15 (zI 0)).2.2 = M.2.2 := d1
  refine ⟨uI N 0 15 (zI 0), ?_, ?_, ?_, ?_, ?_, fun a k x => ?_⟩
  · have eS : (0 : Nat) + 3 + 110 + 38 * (0 : Int).toNat = 113 := by omega
    unfold f_X11_back
    simp (disch := first | omega | assumption) only [↓lt, zl, h14, zleT, if_true, ixT, zidx, zsub, Int.reduceSub, uI_s, uI_j2, eS, hp0, e1, Option.bind_some, fN14, f_X11_tell]
  · unfold Ptr; rw [m3]; exact hP2
  · exact LOK_of (fun a k x y => uI_o (by omega)) (fun a k x y => uI_o (by omega)) lok
  · rw [m3, uI_o (by omega), d9.2.2.1, m0 _ _ (by omega)]; exact k2
  · rw [uI_o (by omega)]; exact fN14
  · rw [uI_o (by omega), d2 _ _ (by omega) (by omega) (by omega), m0 _ _ (by omega)]
/-! ===== a state of the class and the law's rows ===== -/
/-- the land is b; kept aside: bm, or nothing; the law's row h tells how many places, roads, people -/
def Ht (M : KM) (b : Int → Int) : Prop := M.1 228 0 = zI (b 0) ∧ M.1 228 1 = zI (b 1) ∧ M.1 228 2 = zI (b 2)
def Mk (M : KM) (bm : Option (Int → Int)) : Prop := match bm with
  | none => M.1 0 14 = zI 0
  | some d => M.1 0 14 = zI 1 ∧ Kp M d
def SS (X : KM) (b : Int → Int) (bm : Option (Int → Int)) : Prop := ∃ M L g, X = ps M L g ∧ CI M L g b ∧ Mk M bm ∧ Ht M b
theorem Mk_Wr {L : Nat} {M N : KM} {bm : Option (Int → Int)} (hl : L = 23 ∨ L = 61) (h : Wr L M N) (k : Mk M bm) : Mk N bm := by
  cases bm with
  | none => exact (h.2 0 14 (by omega) (by omega) (by omega)).trans k
  | some d =>
    obtain ⟨k1, k2, k3⟩ := k
    refine ⟨(h.2 0 14 (by omega) (by omega) (by omega)).trans k1, ?_, ?_⟩
    · exact LOK_of (fun a k x y => h.2 a k (by omega) (by omega) (by omega)) (fun a k x y => h.2 a k (by omega) (by omega) (by omega)) k2
    · rw [h.2 _ _ (by omega) (by omega) (by omega)]; exact k3
theorem Ht_Wr {L : Nat} {M N : KM} {b b' : Int → Int} (hl : L = 23 ∨ L = 61) (h : Wr L M N) (e0 : b' 0 = b 0) (e1 : b' 1 = b 1) (e2 : b' 2 = b 2) (k : Ht M b) : Ht N b' := by
  obtain ⟨k1, k2, k3⟩ := k
  refine ⟨?_, ?_, ?_⟩
  · rw [h.2 _ _ (by omega) (by omega) (by omega), e0]; exact k1
  · rw [h.2 _ _ (by omega) (by omega) (by omega), e1]; exact k2
  · rw [h.2 _ _ (by omega) (by omega) (by omega), e2]; exact k3
theorem SS_Ht {X : KM} {b : Int → Int} {bm : Option (Int → Int)} (h : SS X b bm) : Ht X b := by
  obtain ⟨M, L, g, rfl, hC, -, h1, h2, h3⟩ := h
  have hl := Ptr_L hC.1
  exact ⟨by rw [ps_o (by omega)]; exact h1, by rw [ps_o (by omega)]; exact h2, by rw [ps_o (by omega)]; exact h3⟩
theorem SS_WB {X : KM} {b : Int → Int} {bm : Option (Int → Int)} (h : SS X b bm) : WB b ∧ b 5 ≤ 99999 := by
  obtain ⟨M, L, g, rfl, hC, -⟩ := h
  exact ⟨hC.2.2.2.1, hC.2.2.2.2.1⟩
/-- asked, nothing changes -/
def Rd (c : KM → Option (Int32 × KM)) (b : Int → Int) (r : Int32) : Prop := ∀ X bm, SS X b bm → ∃ Y, c X = some (r, Y) ∧ SS Y b bm
theorem Rd_of {c : KM → Option (Int32 × KM)} {b : Int → Int} {r : Int32} (h : ∀ M L g, CI M L g b → Ro c M L g r) : Rd c b r := by
  intro X bm ⟨M, L, g, e, hC, hm, hh⟩
  obtain ⟨N, e1, s⟩ := h M L g hC
  have hl := Ptr_l hC.1
  exact ⟨ps N L g, by rw [e]; exact e1, N, L, g, rfl, CI_Sc hC s, Mk_Wr hl (Wr_Sc s) hm, Ht_Wr hl (Wr_Sc s) rfl rfl rfl hh⟩
theorem SS_mark {X : KM} {b : Int → Int} {n : Nat} (h : SS X b none) (hn : 100 ≤ n) : ∃ Y, f_X11_mark n 0 X = some (zI 1, Y) ∧ SS Y b (some b) := by
  obtain ⟨M, L, g, rfl, hC, hm, hh⟩ := h
  have hl := Ptr_L hC.1
  have hP : Ptr (ps M L g) L := hC.1
  obtain ⟨N, e, a1, a2, a3, a4, a5, a6⟩ := q_mark hP (CI_LOK hC) (CI_7 hC) (by rw [ps_o (by omega)]; exact hm) hn
  refine ⟨N, e, N, L, pg N L, ps_ex N L, LOK_CI a1 a2 a3, ⟨a4, a5⟩, ?_⟩
  obtain ⟨h1, h2, h3⟩ := hh
  exact ⟨by rw [a6 _ _ (by omega), ps_o (by omega)]; exact h1, by rw [a6 _ _ (by omega), ps_o (by omega)]; exact h2, by rw [a6 _ _ (by omega), ps_o (by omega)]; exact h3⟩
theorem SS_back {X : KM} {b bm : Int → Int} {n : Nat} (h : SS X b (some bm)) (e0 : bm 0 = b 0) (e1 : bm 1 = b 1) (e2 : bm 2 = b 2) (hn : 100 ≤ n) : ∃ Y, f_X11_back n 0 X = some (zI 0, Y) ∧ SS Y bm none := by
  obtain ⟨M, L, g, rfl, hC, hm, hh⟩ := h
  have hl := Ptr_L hC.1
  have hP : Ptr (ps M L g) L := hC.1
  obtain ⟨m1, m2, m3⟩ := hm
  have hK : Kp (ps M L g) bm := ⟨LOK_of (fun a k x y => ps_o (by omega)) (fun a k x y => ps_o (by omega)) m2, by rw [ps_o (by omega)]; exact m3⟩
  obtain ⟨N, e, a1, a2, a3, a4, a6⟩ := q_back hP (CI_LOK hC) (by rw [ps_o (by omega)]; exact m1) hK hn
  refine ⟨N, e, N, L, pg N L, ps_ex N L, LOK_CI a1 a2 a3, a4, ?_⟩
  obtain ⟨h1, h2, h3⟩ := hh
  exact ⟨by rw [a6 _ _ (by omega), ps_o (by omega), e0]; exact h1, by rw [a6 _ _ (by omega), ps_o (by omega), e1]; exact h2, by rw [a6 _ _ (by omega), ps_o (by omega), e2]; exact h3⟩
