/-! ===== days: both go alike ===== -/
theorem RC_inc {W0 : KM} {L : Nat} {b0 b : Int → Int} {g : Int → Int → Int → Int} {W : KM} {dr dn ms ar lf : Int} (hl : 23 ≤ L) (h : RC W0 L b0 b g W dr dn ms ar lf) (hd : dn < 300) : RC W0 L b0 b g (uI W 12 2 (zI (dn + 1))) dr (dn + 1) ms ar lf := by
  obtain ⟨a1, a2, a3, a4, a5, a6, a7, a8, a9, a10, a11, a12⟩ := h
  exact ⟨⟨HL_12 hl a1.1, a1.2⟩, a2, a3, a4, fun a k u v => by rw [uI_o (by omega)]; exact a5 a k u v, by rw [uI_o (by omega)]; exact a6, uI_s, by rw [uI_o (by omega)]; exact a8, by rw [uI_o (by omega)]; exact a9, by rw [uI_o (by omega)]; exact a10, a11, by omega⟩
theorem RC_lf {W0 : KM} {L : Nat} {b0 b : Int → Int} {g : Int → Int → Int → Int} {W : KM} {dr dn ms ar lf : Int} (hl : 23 ≤ L) (h : RC W0 L b0 b g W dr dn ms ar lf) : RC W0 L b0 b g (uI W 12 7 (zI 1)) dr dn ms ar 1 := by
  obtain ⟨a1, a2, a3, a4, a5, a6, a7, a8, a9, a10, a11, a12⟩ := h
  exact ⟨⟨HL_12 hl a1.1, a1.2⟩, a2, a3, a4, fun a k u v => by rw [uI_o (by omega)]; exact a5 a k u v, by rw [uI_o (by omega)]; exact a6, by rw [uI_o (by omega)]; exact a7, by rw [uI_o (by omega)]; exact a8, by rw [uI_o (by omega)]; exact a9, uI_s, a11, a12⟩
theorem RC_13 {W0 : KM} {L k : Nat} {b0 b : Int → Int} {g : Int → Int → Int → Int} {W : KM} {dr dn ms ar lf : Int} {v : Int32} (hl : 23 ≤ L) (h : RC W0 L b0 b g W dr dn ms ar lf) : RC W0 L b0 b g (uI W 13 k v) dr dn ms ar lf := by
  obtain ⟨a1, a2, a3, a4, a5, a6, a7, a8, a9, a10, a11, a12⟩ := h
  exact ⟨⟨HL_of (fun a j x y => uI_o (by omega)) a1.1, a1.2⟩, a2, a3, a4, fun a k u v => by rw [uI_o (by omega)]; exact a5 a k u v, by rw [uI_o (by omega)]; exact a6, by rw [uI_o (by omega)]; exact a7, by rw [uI_o (by omega)]; exact a8, by rw [uI_o (by omega)]; exact a9, by rw [uI_o (by omega)]; exact a10, a11, a12⟩
theorem RC_sm {W0 : KM} {L : Nat} {b0 b : Int → Int} {g : Int → Int → Int → Int} {W : KM} {dr dn ms ar lf : Int} (hl : 23 ≤ L) (h : RC W0 L b0 b g W dr dn ms ar lf) : RC W0 L b0 b g (uI (uI W 12 5 (zI (ar + 0))) 12 3 (zI (ms + 0))) dr dn ms ar lf := by
  obtain ⟨a1, a2, a3, a4, a5, a6, a7, a8, a9, a10, a11, a12⟩ := h
  exact ⟨⟨HL_12 hl (HL_12 hl a1.1), a1.2⟩, a2, a3, a4, fun a k u v => by rw [uI_o (by omega), uI_o (by omega)]; exact a5 a k u v, by rw [uI_o (by omega), uI_o (by omega)]; exact a6, by rw [uI_o (by omega), uI_o (by omega)]; exact a7, by rw [uI_s, Int.add_zero], by rw [uI_o (by omega), uI_s, Int.add_zero], by rw [uI_o (by omega), uI_o (by omega)]; exact a10, a11, a12⟩
theorem RX_inc {X0 : KM} {b0 b : Int → Int} {X : KM} {dr dn ms ar lf ov : Int} (h : RX X0 b0 b X dr dn ms ar lf ov) : RX X0 b0 b (uI X 227 41 (zI (dn + 1))) dr (dn + 1) ms ar lf ov := by
  obtain ⟨a1, a2, a3, a4, a5, a6, a7, a8, a9, a10⟩ := h
  exact ⟨a1, fun a k u => by rw [uI_o (by omega)]; exact a2 a k u, by rw [uI_o (by omega)]; exact a3, uI_s, by rw [uI_o (by omega)]; exact a5, by rw [uI_o (by omega)]; exact a6, by rw [uI_o (by omega)]; exact a7, by rw [uI_o (by omega)]; exact a8, by rw [uI_o (by omega)]; exact a9, by rw [uI_o (by omega)]; exact a10⟩
theorem RX_ms {X0 : KM} {b0 b : Int → Int} {X : KM} {dr dn ms ms' ar lf ov : Int} (h : RX X0 b0 b X dr dn ms ar lf ov) : RX X0 b0 b (uI X 227 42 (zI ms')) dr dn ms' ar lf ov := by
  obtain ⟨a1, a2, a3, a4, a5, a6, a7, a8, a9, a10⟩ := h
  exact ⟨a1, fun a k u => by rw [uI_o (by omega)]; exact a2 a k u, by rw [uI_o (by omega)]; exact a3, by rw [uI_o (by omega)]; exact a4, uI_s, by rw [uI_o (by omega)]; exact a6, by rw [uI_o (by omega)]; exact a7, by rw [uI_o (by omega)]; exact a8, by rw [uI_o (by omega)]; exact a9, by rw [uI_o (by omega)]; exact a10⟩
theorem RX_ov {X0 : KM} {b0 b : Int → Int} {X : KM} {dr dn ms ar lf ov : Int} (h : RX X0 b0 b X dr dn ms ar lf ov) : RX X0 b0 b (uI X 227 39 (zI 1)) dr dn ms ar lf 1 := by
  obtain ⟨a1, a2, a3, a4, a5, a6, a7, a8, a9, a10⟩ := h
  exact ⟨a1, fun a k u => by rw [uI_o (by omega)]; exact a2 a k u, by rw [uI_o (by omega)]; exact a3, by rw [uI_o (by omega)]; exact a4, by rw [uI_o (by omega)]; exact a5, by rw [uI_o (by omega)]; exact a6, by rw [uI_o (by omega)]; exact a7, by rw [uI_o (by omega)]; exact a8, by rw [uI_o (by omega)]; exact a9, uI_s⟩
theorem RX_lf {X0 : KM} {b0 b : Int → Int} {X : KM} {dr dn ms ar lf ov : Int} (h : RX X0 b0 b X dr dn ms ar lf ov) : RX X0 b0 b (uI X 227 46 (zI 1)) dr dn ms ar 1 ov := by
  obtain ⟨a1, a2, a3, a4, a5, a6, a7, a8, a9, a10⟩ := h
  exact ⟨a1, fun a k u => by rw [uI_o (by omega)]; exact a2 a k u, by rw [uI_o (by omega)]; exact a3, by rw [uI_o (by omega)]; exact a4, by rw [uI_o (by omega)]; exact a5, by rw [uI_o (by omega)]; exact a6, by rw [uI_o (by omega)]; exact a7, by rw [uI_o (by omega)]; exact a8, uI_s, by rw [uI_o (by omega)]; exact a10⟩
theorem stp_loop {W : KM} {L P n : Nat} {g : Int → Int → Int → Int} {i a ms ar : Int} (hl : 23 ≤ L) (hPL : P = L + 8 ∨ (31 ≤ P ∧ P + 6 ≤ L) ∨ L + 38 ≤ P) (hP : W.2.2 L 7 = P) (hi : 0 ≤ i ∧ i < 60) (r1 : W.1 (P + 1) i.toNat = zI 9) (r2 : W.1 (P + 2) i.toNat = zI a) (a8 : W.1 12 3 = zI ms) (a9 : W.1 12 5 = zI ar) : f_X4_doStep n 12 L (zI i) (ps W L g) = some (zI (i + 1), ps (uI (uI (uI W 13 i.toNat (zI a)) 12 5 (zI (ar + 0))) 12 3 (zI (ms + 0))) L g) := by
  unfold f_X4_doStep
  simp (disch := first | omega | assumption) only [↓lt, ↓reduceIte, Option.bind_some, zl, zneg, zadd, zsub, zmul, Int.reduceNeg, Int.reduceMul, ixT, zidx, if_true, if_false, zeqT, zeqF, zltT, zltF, zleT, zleF, ps_2, pu_o, uI_o, uI_s, uI_j, uI_j2, ps_o, Nat.reduceAdd, cs_o, cu_o, hP, r1, r2, bc0, a8, a9]
theorem stp_stop {W : KM} {L P n : Nat} {g : Int → Int → Int → Int} {i jt : Int} (hl : 23 ≤ L) (hPL : P = L + 8 ∨ (31 ≤ P ∧ P + 6 ≤ L) ∨ L + 38 ≤ P) (hP : W.2.2 L 7 = P) (hi : 0 ≤ i ∧ i < 60) (r1 : W.1 (P + 1) i.toNat = zI 11) (hj : W.1 P 5 = zI jt) : f_X4_doStep n 12 L (zI i) (ps W L g) = some (zI jt, ps W L g) := by
  unfold f_X4_doStep
  simp (disch := first | omega | assumption) only [↓lt, ↓reduceIte, Option.bind_some, zl, zneg, zadd, zsub, zmul, Int.reduceNeg, Int.reduceMul, ixT, zidx, if_true, if_false, zeqT, zeqF, zltT, zltF, zleT, zleF, ps_2, pu_o, uI_o, uI_s, uI_j, uI_j2, ps_o, Nat.reduceAdd, cs_o, cu_o, hP, r1, hj]
