theorem uI_tw {M : KM} {a k : Nat} {v w : Int32} : uI (uI M a k v) a k w = uI M a k w := by
  refine Prod.ext ?_ rfl
  funext b j
  by_cases h : b = a ∧ j = k
  · rw [h.1, h.2, uI_s, uI_s]
  · rw [uI_o h, uI_o h, uI_o h]
theorem or0 (w : Int32) : w ||| zI 0 = w := by
  apply Int32.toBitVec_inj.mp
  rw [Int32.toBitVec_or, show (zI 0).toBitVec = 0#32 from rfl]
  exact BitVec.or_zero
theorem nar0 : vp_nar .boolean (zI 0) = zI 0 := by decide
theorem nar1 : vp_nar .boolean (zI 1) = zI 1 := by decide
/-! ===== the reference's row of cells, and the class's people, as rows of numbers ===== -/
/-- the row c (cell 232) is b -/
def cs (M : KM) (b : Int → Int) : KM := (fun a => if a = 232 then (fun k => zI (b k)) else M.1 a, M.2)
def bu (b : Int → Int) (e v : Int) : Int → Int := fun z => if z = e then v else b z
theorem bu_s {b : Int → Int} {e v : Int} : bu b e v e = v := if_pos rfl
theorem bu_o {b : Int → Int} {e v z : Int} (h : ¬ z = e) : bu b e v z = b z := if_neg h
theorem cs_ex (M : KM) : M = cs M (fun z => (M.1 232 z.toNat).toInt) := by
  refine Prod.ext ?_ rfl
  funext a k
  simp only [cs]
  by_cases h : a = 232
  · rw [if_pos h, h, ← z_of, Int.toNat_natCast]
  · rw [if_neg h]
theorem cs_c {M : KM} {b : Int → Int} {z : Int} (h : 0 ≤ z) : (cs M b).1 232 z.toNat = zI (b z) := by
  simp only [cs, if_true]
  rw [Int.toNat_of_nonneg h]
theorem cs_o {M : KM} {b : Int → Int} {a k : Nat} (h : ¬ a = 232) : (cs M b).1 a k = M.1 a k := by
  simp only [cs]; rw [if_neg h]
theorem cs_2 {M : KM} {b : Int → Int} : (cs M b).2 = M.2 := rfl
theorem cs_cs {M : KM} {b d : Int → Int} : cs (cs M b) d = cs M d := by
  refine Prod.ext ?_ rfl
  funext a
  simp only [cs]
  by_cases h : a = 232
  · rw [if_pos h, if_pos h]
  · rw [if_neg h, if_neg h, if_neg h]
theorem cu_c {M : KM} {b : Int → Int} {e v : Int} (h : 0 ≤ e) : uI (cs M b) 232 e.toNat (zI v) = cs M (bu b e v) := by
  refine Prod.ext ?_ rfl
  funext a k
  simp only [uI, cs, bu]
  by_cases q : a = 232
  · simp only [if_pos q, upd]
    by_cases w : k = e.toNat
    · rw [if_pos w, if_pos (show (k : Int) = e by omega)]
    · rw [if_neg w, if_neg (show ¬ (k : Int) = e by omega)]
  · rw [if_neg q, if_neg q, if_neg q]
theorem cu_o {M : KM} {b : Int → Int} {a k : Nat} {v : Int32} (h : ¬ a = 232) : uI (cs M b) a k v = cs (uI M a k v) b := by
  refine Prod.ext ?_ rfl
  funext q j
  simp only [uI, cs]
  by_cases w : q = a
  · subst w; rw [if_pos rfl, if_neg h, if_neg h, if_pos rfl]
  · rw [if_neg w, if_neg w]
/-- the people of the land at L are g: of person p, row j (0 his fields, 1 gone, 2 owes), place k -/
def ps (M : KM) (L : Nat) (g : Int → Int → Int → Int) : KM := (fun a => if L + 14 ≤ a ∧ a < L + 38 then (fun k => zI (g (((a - (L + 14)) / 3 : Nat) : Int) (((a - (L + 14)) % 3 : Nat) : Int) k)) else M.1 a, M.2)
def gu (g : Int → Int → Int → Int) (p j k v : Int) : Int → Int → Int → Int := fun q i l => if q = p ∧ i = j ∧ l = k then v else g q i l
theorem gu_s {g : Int → Int → Int → Int} {p j k v : Int} : gu g p j k v p j k = v := if_pos ⟨rfl, rfl, rfl⟩
theorem gu_o {g : Int → Int → Int → Int} {p j k v q i l : Int} (h : ¬ (q = p ∧ i = j ∧ l = k)) : gu g p j k v q i l = g q i l := if_neg h
theorem ps_2 {M : KM} {L : Nat} {g : Int → Int → Int → Int} : (ps M L g).2 = M.2 := rfl
theorem ps_o {M : KM} {L : Nat} {g : Int → Int → Int → Int} {a k : Nat} (h : ¬ (L + 14 ≤ a ∧ a < L + 38)) : (ps M L g).1 a k = M.1 a k := by
  simp only [ps]; rw [if_neg h]
theorem ps_at {M : KM} {L a : Nat} {g : Int → Int → Int → Int} {p j : Int} {k : Nat} (h : L + 14 ≤ a ∧ a < L + 38) (hp : (((a - (L + 14)) / 3 : Nat) : Int) = p) (hj : (((a - (L + 14)) % 3 : Nat) : Int) = j) : (ps M L g).1 a k = zI (g p j k) := by
  simp only [ps]
  rw [if_pos h, hp, hj]
theorem ps_f {M : KM} {L : Nat} {g : Int → Int → Int → Int} {p : Int} {k : Nat} (h0 : 0 ≤ p) (h1 : p < 8) : (ps M L g).1 (L + 6 + 8 + 3 * p.toNat) k = zI (g p 0 k) := ps_at (by omega) (by omega) (by omega)
theorem ps_g {M : KM} {L : Nat} {g : Int → Int → Int → Int} {p r : Int} (h0 : 0 ≤ p) (h1 : p < 8) (h2 : 0 ≤ r) : (ps M L g).1 (L + 6 + 8 + 3 * p.toNat + 1) r.toNat = zI (g p 1 r) := by
  rw [ps_at (p := p) (j := 1) (by omega) (by omega) (by omega), Int.toNat_of_nonneg h2]
theorem ps_w {M : KM} {L : Nat} {g : Int → Int → Int → Int} {p r : Int} (h0 : 0 ≤ p) (h1 : p < 8) (h2 : 0 ≤ r) : (ps M L g).1 (L + 6 + 8 + 3 * p.toNat + 2) r.toNat = zI (g p 2 r) := by
  rw [ps_at (p := p) (j := 2) (by omega) (by omega) (by omega), Int.toNat_of_nonneg h2]
/-- the people of the land at L, as they stand -/
def pg (M : KM) (L : Nat) : Int → Int → Int → Int := fun p j k => (M.1 (L + 14 + 3 * p.toNat + j.toNat) k.toNat).toInt
theorem ps_ex (M : KM) (L : Nat) : M = ps M L (pg M L) := by
  refine Prod.ext ?_ rfl
  funext a k
  by_cases h : L + 14 ≤ a ∧ a < L + 38
  · rw [ps_at h rfl rfl]
    simp only [pg, Int.toNat_natCast]
    rw [← z_of, show L + 14 + 3 * ((a - (L + 14)) / 3) + (a - (L + 14)) % 3 = a by omega]
  · rw [ps_o h]
theorem pu_at {M : KM} {L a k : Nat} {g : Int → Int → Int → Int} {p j e v : Int} (h : L + 14 ≤ a ∧ a < L + 38) (hp : (((a - (L + 14)) / 3 : Nat) : Int) = p) (hj : (((a - (L + 14)) % 3 : Nat) : Int) = j) (he : (k : Int) = e) : uI (ps M L g) a k (zI v) = ps M L (gu g p j e v) := by
  refine Prod.ext ?_ rfl
  funext b i
  by_cases w : b = a
  · subst w
    rw [ps_at h hp hj]
    by_cases q : i = k
    · subst q
      rw [uI_s, ← he, gu_s]
    · rw [uI_o (fun z => q z.2), ps_at h hp hj, gu_o (fun z => q (by omega))]
  · rw [uI_o (fun z => w z.1)]
    by_cases q : L + 14 ≤ b ∧ b < L + 38
    · rw [ps_at q rfl rfl, ps_at q rfl rfl, gu_o (fun z => w (by omega))]
    · rw [ps_o q, ps_o q]
theorem pu_f {M : KM} {L : Nat} {g : Int → Int → Int → Int} {p v : Int} {k : Nat} (h0 : 0 ≤ p) (h1 : p < 8) : uI (ps M L g) (L + 6 + 8 + 3 * p.toNat) k (zI v) = ps M L (gu g p 0 k v) := pu_at (by omega) (by omega) (by omega) rfl
theorem pu_g {M : KM} {L : Nat} {g : Int → Int → Int → Int} {p r v : Int} (h0 : 0 ≤ p) (h1 : p < 8) (h2 : 0 ≤ r) : uI (ps M L g) (L + 6 + 8 + 3 * p.toNat + 1) r.toNat (zI v) = ps M L (gu g p 1 r v) := pu_at (by omega) (by omega) (by omega) (Int.toNat_of_nonneg h2)
theorem pu_w {M : KM} {L : Nat} {g : Int → Int → Int → Int} {p r v : Int} (h0 : 0 ≤ p) (h1 : p < 8) (h2 : 0 ≤ r) : uI (ps M L g) (L + 6 + 8 + 3 * p.toNat + 2) r.toNat (zI v) = ps M L (gu g p 2 r v) := pu_at (by omega) (by omega) (by omega) (Int.toNat_of_nonneg h2)
theorem pu_o {M : KM} {L : Nat} {g : Int → Int → Int → Int} {a k : Nat} {v : Int32} (h : ¬ (L + 14 ≤ a ∧ a < L + 38)) : uI (ps M L g) a k v = ps (uI M a k v) L g := by
  refine Prod.ext ?_ rfl
  funext q j
  simp only [uI, ps]
  by_cases w : q = a
  · subst w; rw [if_pos rfl, if_neg h, if_neg h, if_pos rfl]
  · rw [if_neg w, if_neg w]

