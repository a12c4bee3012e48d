/-! ===== feed ===== -/
/-- a byte of an int, as a row of bytes holds it -/
def byT (a : Int) (s : Int) : Int32 := vp_nar .byte ((zI a >>> (zI s &&& zI 31))).toInt8.toInt32
def u4R (r : Nat → Int32) (tp a : Int) : Nat → Int32 := upd (upd (upd (upd r tp.toNat (byT a 24)) (tp + 1).toNat (byT a 16)) (tp + 1 + 1).toNat (byT a 8)) (tp + 1 + 1 + 1).toNat (byT a 0)
theorem uI_uIs {M : KM} {a k : Nat} {v : Int32} : uI M a k v = uIs M a (upd (M.1 a) k v) := by
  refine Prod.ext ?_ rfl
  funext b
  simp only [uI, uIs]
  by_cases h : b = a
  · rw [if_pos h, if_pos h, h]
  · rw [if_neg h, if_neg h]
theorem uIs_s {M : KM} {a : Nat} {f : Nat → Int32} : (uIs M a f).1 a = f := by simp [uIs]
theorem uIs_o {M : KM} {a b : Nat} {f : Nat → Int32} (h : ¬ b = a) : (uIs M a f).1 b = M.1 b := by simp only [uIs]; rw [if_neg h]
theorem uIs_tw {M : KM} {a : Nat} {f h : Nat → Int32} : uIs (uIs M a f) a h = uIs M a h := by
  refine Prod.ext ?_ rfl
  funext b
  simp only [uIs]
  by_cases q : b = a
  · rw [if_pos q, if_pos q]
  · rw [if_neg q, if_neg q, if_neg q]
theorem uIs_uI {M : KM} {a c k : Nat} {v : Int32} {f : Nat → Int32} (h : ¬ c = a) : uIs (uI M c k v) a f = uI (uIs M a f) c k v := by
  refine Prod.ext ?_ rfl
  funext b
  simp only [uI, uIs]
  by_cases q : b = a
  · rw [if_pos q, q, if_neg (fun z => h z.symm), if_pos rfl]
  · rw [if_neg q]
    by_cases w : b = c
    · rw [if_pos w, if_pos w, if_neg h]
    · rw [if_neg w, if_neg w, if_neg q]
theorem c_feedOne {a tp : Int} {n : Nat} {W : KM} (h0 : W.1 0 13 = zI tp) (h1 : 0 ≤ tp) (h2 : tp + 4 ≤ 900) (hn : 100 ≤ n) : f_X11_feedOne n 0 (zI a) W = some (uI (uIs W 2 (u4R (W.1 2) tp a)) 0 13 (zI (tp + 1 + 1 + 1 + 1))) := by
  obtain ⟨n, rfl⟩ : ∃ m, n = m + 1 + 1 + 1 + 1 + 1 := ⟨n - 5, by omega⟩
  unfold f_X11_feedOne
  rw [lp_X11_feedOne_3]
  simp (disch := first | omega | assumption) only [lt, zl, zadd, zsub, zneg, zltF, zleF, if_false, ↓reduceIte, ixT, if_true, zidx, h0, Nat.reduceAdd, Int.reduceAdd, Int.reduceNeg, uI_o, uI_s]
  rw [lp_X11_feedOne_3]
  simp (disch := first | omega | assumption) only [lt, zl, zadd, zsub, zneg, zltF, zleF, if_false, ↓reduceIte, ixT, if_true, zidx, h0, Nat.reduceAdd, Int.reduceAdd, Int.reduceNeg, uI_o, uI_s]
  rw [lp_X11_feedOne_3]
  simp (disch := first | omega | assumption) only [lt, zl, zadd, zsub, zneg, zltF, zleF, if_false, ↓reduceIte, ixT, if_true, zidx, h0, Nat.reduceAdd, Int.reduceAdd, Int.reduceNeg, uI_o, uI_s]
  rw [lp_X11_feedOne_3]
  simp (disch := first | omega | assumption) only [lt, zl, zadd, zsub, zneg, zltF, zleF, if_false, ↓reduceIte, ixT, if_true, zidx, h0, Nat.reduceAdd, Int.reduceAdd, Int.reduceNeg, uI_o, uI_s]
  rw [lp_X11_feedOne_3]
  simp (disch := first | omega | assumption) only [lt, zl, zltT, if_true, ↓reduceIte]
  congr 1
  sorry
