/-! ===== the tape ===== -/
theorem CR_tp {M M' : KM} {L : Nat} {b b' : Int → Int} (hb : 0 ≤ b 2 ∧ b 2 ≤ 8) (hL : L = 23 ∨ L = 61) (hPp : M.2.2 L 7 = 31 ∨ M.2.2 L 7 = 69 ∨ M.2.2 L 7 = 99) (h1 : ∀ a k, KI L (M.2.2 L 7) a k → ¬ a = 2 → ¬ a = 231 → ¬ (a = 0 ∧ k = 13) → ¬ (a = 227 ∧ k = 8) → M'.1 a k = M.1 a k) (htp : ∃ tp, 0 ≤ tp ∧ tp ≤ 900 ∧ M'.1 0 13 = zI tp ∧ M'.1 227 8 = zI tp) (hrw : ∀ k : Nat, k < 900 → M'.1 231 k = M'.1 2 k ∧ ∃ t : Int, -128 ≤ t ∧ t < 128 ∧ M'.1 2 k = zI t) (h2 : ∀ a k, KJ L a k → M'.2.1 a k = M.2.1 a k) (h3 : M'.2.2 L 7 = M.2.2 L 7) (h4 : ∀ z, 290 ≤ z → z < 2248 → b' z = b z) (h5 : b' 0 = b 0) (h6 : b' 2 = b 2) (h : CR M L b) : CR M' L b' := by
  obtain ⟨a1, a2, ⟨mk, a3, a4, a5, a6, a7⟩, ⟨tp, a8, a9, a10, a11⟩, a12, a13, a14, a15, a16, a17, a18, a19, a20⟩ := h
  refine ⟨?_, ?_, ⟨mk, a3, a4, ?_, ?_, fun i hi hi2 => ?_⟩, htp, hrw, ?_, ?_, ?_, ?_, fun t ht ht2 => ?_, ?_, fun l hl hl2 p hp => ?_, fun k hk => ?_⟩
  · exact NM_of (fun a k x y => h2 a k (by unfold KJ; omega)) (fun z => h2 235 _ (by unfold KJ; omega)) h5 h6 hb.2 a1
  · rw [h3]; exact PR_of (fun a k x y => h1 a k (by unfold KI; omega) (by omega) (by omega) (by omega) (by omega)) (fun z x y => h4 z x (by omega)) h5 h6 a2
  · rw [h1 _ _ (by unfold KI; omega) (by omega) (by omega) (by omega) (by omega)]; exact a5
  · rw [h1 _ _ (by unfold KI; omega) (by omega) (by omega) (by omega) (by omega)]; exact a6
  · obtain ⟨c1, c2, c3⟩ := a7 i hi hi2
    have e : sh b' (562 * (i + 1)) = sh b (562 * (i + 1)) := by
      funext z
      simp only [sh]
      by_cases x : 0 ≤ z ∧ z < 562
      · rw [if_pos x, if_pos x]; exact h4 _ (by omega) (by omega)
      · rw [if_neg x, if_neg x]
    have e0 := c1.2.2.1.1
    unfold WH at e0
    rw [e]
    exact ⟨LOK_of (fun a k x y => h1 a k (by unfold KI; omega) (by omega) (by omega) (by omega) (by omega)) (fun a k x y => h1 a k (by unfold KI; omega) (by omega) (by omega) (by omega) (by omega)) c1, NM_of (fun a k x y => h2 a k (by unfold KJ; omega)) (fun z => h2 235 _ (by unfold KJ; omega)) rfl rfl (by omega) c2, PR_of (fun a k x y => h1 a k (by unfold KI; omega) (by omega) (by omega) (by omega) (by omega)) (fun z _ _ => rfl) rfl rfl c3⟩
  · rw [h1 227 _ (by unfold KI; omega) (by omega) (by omega) (by omega) (by omega), h1 0 _ (by unfold KI; omega) (by omega) (by omega) (by omega) (by omega)]; exact a13
  · rw [h1 227 _ (by unfold KI; omega) (by omega) (by omega) (by omega) (by omega), h1 0 _ (by unfold KI; omega) (by omega) (by omega) (by omega) (by omega)]; exact a14
  · rw [h2 227 _ (by unfold KJ; omega), h2 0 _ (by unfold KJ; omega)]; exact a15
  · rw [h2 227 _ (by unfold KJ; omega), h2 0 _ (by unfold KJ; omega)]; exact a16
  · obtain ⟨s, m, c1, c2, c3, c4, c5, c6, c7, c8, c9⟩ := a17 t ht ht2
    refine ⟨s, m, c1, c2, c3, c4, ?_, ?_, ?_, ?_, fun k x y => ?_⟩
    · rw [h1 _ _ (by unfold KI; omega) (by omega) (by omega) (by omega) (by omega)]; exact c5
    · rw [h1 _ _ (by unfold KI; omega) (by omega) (by omega) (by omega) (by omega)]; exact c6
    · rw [h1 _ _ (by unfold KI; omega) (by omega) (by omega) (by omega) (by omega)]; exact c7
    · rw [h1 _ _ (by unfold KI; omega) (by omega) (by omega) (by omega) (by omega)]; exact c8
    · rw [h2 _ _ (by unfold KJ; omega), h2 230 _ (by unfold KJ; omega)]; exact c9 k x y
  · rcases a18 with ⟨c1, c2⟩ | ⟨c1, ⟨v, c2, c3, c4⟩, c5⟩
    · refine Or.inl ⟨?_, ?_⟩
      · rw [h1 _ _ (by unfold KI; omega) (by omega) (by omega) (by omega) (by omega)]; exact c1
      · rw [h1 _ _ (by unfold KI; omega) (by omega) (by omega) (by omega) (by omega)]; exact c2
    · refine Or.inr ⟨?_, ⟨v, c2, c3, ?_⟩, fun k hk => ?_⟩
      · rw [h1 _ _ (by unfold KI; omega) (by omega) (by omega) (by omega) (by omega)]; exact c1
      · rw [h1 _ _ (by unfold KI; omega) (by omega) (by omega) (by omega) (by omega)]; exact c4
      · rw [h1 243 _ (by unfold KI; omega) (by omega) (by omega) (by omega) (by omega), h1 4 _ (by unfold KI; omega) (by omega) (by omega) (by omega) (by omega)]; exact c5 k hk
  · rw [h1 _ _ (by unfold KI; omega) (by omega) (by omega) (by omega) (by omega), h1 _ _ (by unfold KI; omega) (by omega) (by omega) (by omega) (by omega)]; exact a19 l hl hl2 p hp
  · rw [h2 6 _ (by unfold KJ; omega), h2 9 _ (by unfold KJ; omega)]; exact a20 k hk
/-! ===== feed ===== -/
/-- a byte of an int, as a row of bytes holds it -/
def byT (a s : Int) : Int32 := vp_nar .byte ((zI a >>> (zI s &&& zI 31))).toInt8.toInt32
theorem byT_r (a s : Int) : ∃ t : Int, -128 ≤ t ∧ t < 128 ∧ byT a s = zI t := by
  have e : byT a s = ((zI a >>> (zI s &&& zI 31))).toInt8.toInt32.toInt8.toInt32 := rfl
  generalize ((zI a >>> (zI s &&& zI 31))).toInt8.toInt32.toInt8 = y at e
  refine ⟨y.toInt, Int8.le_toInt y, Int8.toInt_lt y, ?_⟩
  rw [e, z_of y.toInt32, Int8.toInt_toInt32]
def tw (M : KM) (a c k : Nat) (tp : Int) (r : Nat → Int32) : KM := uI (uIs M a r) c k (zI tp)
theorem tw_c {M : KM} {a c k : Nat} {tp : Int} {r : Nat → Int32} : (tw M a c k tp r).1 c k = zI tp := uI_s
theorem tw_st {M : KM} {a c k j : Nat} {tp v : Int} {r : Nat → Int32} {x : Int32} (h : ¬ c = a) : uI (uI (tw M a c k tp r) a j x) c k (zI v) = tw M a c k v (upd r j x) := by
  unfold tw
  refine Prod.ext ?_ rfl
  funext d i
  by_cases e : d = c ∧ i = k
  · rw [e.1, e.2, uI_s, uI_s]
  · rw [uI_o e, uI_o e]
    by_cases e2 : d = a
    · rw [e2, uIs_rs]
      by_cases e3 : i = j
      · rw [e3, uI_s]; simp [upd]
      · rw [uI_o (fun z => e3 z.2), uI_o (fun z => h z.1.symm), uIs_rs]; simp [upd, e3]
    · rw [uI_o (fun z => e2 z.1), uI_o e, uIs_ro e2, uIs_ro e2]
theorem tw_ex {M : KM} {a c k : Nat} {tp : Int} (h : ¬ c = a) (h2 : M.1 c k = zI tp) : M = tw M a c k tp (M.1 a) := by
  unfold tw
  refine Prod.ext ?_ rfl
  funext d i
  by_cases e : d = c ∧ i = k
  · rw [e.1, e.2, uI_s, h2]
  · rw [uI_o e]
    by_cases e2 : d = a
    · rw [e2, uIs_rs]
    · rw [uIs_ro e2]
theorem tw_o {M : KM} {a c k d i : Nat} {tp : Int} {r : Nat → Int32} (h1 : ¬ (d = c ∧ i = k)) (h2 : ¬ d = a) : (tw M a c k tp r).1 d i = M.1 d i := by
  unfold tw
  rw [uI_o h1, uIs_ro h2]
theorem tw_a {M : KM} {a c k i : Nat} {tp : Int} {r : Nat → Int32} (h : ¬ c = a) : (tw M a c k tp r).1 a i = r i := by
  unfold tw
  rw [uI_o (fun z => h z.1.symm), uIs_rs]
def u4R (r : Nat → Int32) (tp a : Int) : Nat → Int32 := upd (upd (upd (upd r tp.toNat (byT a 24)) (tp + 1).toNat (byT a 16)) (tp + 1 + 1).toNat (byT a 8)) (tp + 1 + 1 + 1).toNat (byT a 0)
theorem c_feedOne {a tp : Int} {n : Nat} {M : KM} {r : Nat → Int32} (h1 : 0 ≤ tp) (h2 : tp + 4 ≤ 900) (hn : 10 ≤ n) : f_X11_feedOne n 0 (zI a) (tw M 2 0 13 tp r) = some (tw M 2 0 13 (tp + 1 + 1 + 1 + 1) (u4R r tp a)) := by
  obtain ⟨n, rfl⟩ : ∃ m, n = m + 1 + 1 + 1 + 1 + 1 := ⟨n - 5, by omega⟩
  have st : ∀ (k : Nat) (s t : Int) (r : Nat → Int32), 0 ≤ s → s < 32 → 0 ≤ t → t < 900 → lp_X11_feedOne_3 (k + 1) 0 (zI a) (zI s) (tw M 2 0 13 t r) = lp_X11_feedOne_3 k 0 (zI a) (zI (s + -8)) (tw M 2 0 13 (t + 1) (upd r t.toNat (byT a s))) := fun k s t r s1 s2 t1 t2 => by
    have eu : ∀ x : Int32, (uI (tw M 2 0 13 t r) 2 t.toNat x).1 0 13 = zI t := fun x => by rw [uI_o (by omega)]; exact tw_c
    rw [lp_X11_feedOne_3]
    simp (disch := first | omega | assumption) only [↓lt, zl, zneg, Int.reduceNeg, zltF, zleF, if_false, tw_c, ixT, if_true, zidx, Nat.reduceAdd, eu, zadd, tw_st]
    rfl
  unfold f_X11_feedOne
  show lp_X11_feedOne_3 (n + 1 + 1 + 1 + 1 + 1) 0 (zI a) (zI 24) (tw M 2 0 13 tp r) = _
  rw [st _ 24 tp r (by decide) (by decide) h1 (by omega)]
  show lp_X11_feedOne_3 (n + 1 + 1 + 1 + 1) 0 (zI a) (zI 16) _ = _
  rw [st _ 16 (tp + 1) _ (by decide) (by decide) (by omega) (by omega)]
  show lp_X11_feedOne_3 (n + 1 + 1 + 1) 0 (zI a) (zI 8) _ = _
  rw [st _ 8 (tp + 1 + 1) _ (by decide) (by decide) (by omega) (by omega)]
  show lp_X11_feedOne_3 (n + 1 + 1) 0 (zI a) (zI 0) _ = _
  rw [st _ 0 (tp + 1 + 1 + 1) _ (by decide) (by decide) (by omega) (by omega)]
  rw [lp_X11_feedOne_3]
  exact if_pos (by decide)
/-- two rows of bytes alike -/
def tpR (r q : Nat → Int32) : Prop := ∀ k : Nat, k < 900 → q k = r k ∧ ∃ t : Int, -128 ≤ t ∧ t < 128 ∧ r k = zI t
theorem tpR_u {r q : Nat → Int32} {j : Nat} {x : Int32} (h : tpR r q) (hx : ∃ t : Int, -128 ≤ t ∧ t < 128 ∧ x = zI t) : tpR (upd r j x) (upd q j x) := fun k hk => by
  by_cases e : k = j
  · simp only [upd, e, if_true]
    exact ⟨trivial, hx⟩
  · simp only [upd, if_neg e]
    exact h k hk
theorem tpR_4 {r q : Nat → Int32} {tp a : Int} (h : tpR r q) : tpR (u4R r tp a) (u4R q tp a) := tpR_u (tpR_u (tpR_u (tpR_u h (byT_r _ _)) (byT_r _ _)) (byT_r _ _)) (byT_r _ _)
