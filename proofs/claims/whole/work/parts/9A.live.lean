/-! ===== days: one step of the reference, by kinds ===== -/
theorem da_end {k nn E : Nat} {X : KM} {b : Int → Int} {e s : Int} (h : e ≤ s) (h1 : 0 ≤ e) (h2 : s ≤ 30) : lp_X12_doAll_2 (k + 1) (rE nn E) 227 (zI e) (zI s) (cs X b) = some (cs X b) := by
  rw [lp_X12_doAll_2]
  simp (disch := first | omega | assumption) only [↓lt, ↓reduceIte, Option.bind_some, zl, zneg, zadd, zsub, zmul, Int.reduceNeg, Int.reduceMul, ixT, zidx, if_true, if_false, zeqT, zeqF, zltT, zltF, zleT, zleF, ps_2, pu_o, uI_o, uI_s, uI_j, uI_j2, ps_o, Nat.reduceAdd, cs_o, cu_o]
theorem da_over {k nn E : Nat} {X : KM} {b : Int → Int} {e s : Int} (h : X.1 227 39 = zI 1) (h1 : 0 ≤ e ∧ e ≤ 30) (h2 : 0 ≤ s ∧ s ≤ 30) : lp_X12_doAll_2 (k + 1) (rE nn E) 227 (zI e) (zI s) (cs X b) = some (cs X b) := by
  by_cases w : e ≤ s
  · exact da_end w h1.1 h2.2
  · rw [lp_X12_doAll_2]
    simp (disch := first | omega | assumption) only [↓lt, ↓reduceIte, Option.bind_some, zl, zneg, zadd, zsub, zmul, Int.reduceNeg, Int.reduceMul, ixT, zidx, if_true, if_false, zeqT, zeqF, zltT, zltF, zleT, zleF, ps_2, pu_o, uI_o, uI_s, uI_j, uI_j2, ps_o, Nat.reduceAdd, cs_o, cu_o, h]
theorem da_step {k nn E : Nat} {X X' : KM} {b b' : Int → Int} {e s f : Int} (h : s < e) (h1 : 0 ≤ s) (h2 : e ≤ 30) (h39 : X.1 227 39 = zI 0) (hr : rE nn E (zI s) (cs X b) = some (cs X' b')) (hf : b' (292 + 9 * s + 8) = f) : lp_X12_doAll_2 (k + 1) (rE nn E) 227 (zI e) (zI s) (cs X b) = lp_X12_doAll_2 k (rE nn E) 227 (zI e) (zI f) (cs X' b') := by
  have c8 : (cs X' b').1 232 (292 + 9 * s + 8).toNat = zI f := by rw [cs_c (by omega), hf]
  rw [lp_X12_doAll_2]
  simp (disch := first | omega | assumption) only [↓lt, ↓reduceIte, Option.bind_some, zl, zneg, zadd, zsub, zmul, Int.reduceNeg, Int.reduceMul, ixT, zidx, if_true, if_false, zeqT, zeqF, zltT, zltF, zleT, zleF, ps_2, pu_o, uI_o, uI_s, uI_j, uI_j2, ps_o, Nat.reduceAdd, cs_o, cu_o, h39, hr, c8]
theorem one_cut {nn E : Nat} {X : KM} {b : Int → Int} {s : Int} (h : X.1 227 41 = zI 300) : rE nn E (zI s) (cs X b) = some (cs (uI (uI X 227 39 (zI 1)) 227 46 (zI 1)) b) := by
  unfold rE f_X12_doOne_G
  simp (disch := first | omega | assumption) only [↓lt, ↓reduceIte, Option.bind_some, zl, zneg, zadd, zsub, zmul, Int.reduceNeg, Int.reduceMul, ixT, zidx, if_true, if_false, zeqT, zeqF, zltT, zltF, zleT, zleF, ps_2, pu_o, uI_o, uI_s, uI_j, uI_j2, ps_o, Nat.reduceAdd, cs_o, cu_o, h]
theorem one_simple {nn E : Nat} {X X2 : KM} {b b2 : Int → Int} {s dn ms v kd : Int} (h : X.1 227 41 = zI dn) (hd : 0 ≤ dn ∧ dn < 300) (hs : 0 ≤ s ∧ s < 30) (hm : X.1 227 42 = zI ms) (hk : b (292 + 9 * s) = kd) (hk2 : 0 ≤ kd ∧ kd < 6) (hv : v = 0 ∨ v = 1) (hr : f_X12_does nn 227 (zI (292 + 9 * s)) (cs (uI X 227 41 (zI (dn + 1))) b) = some (zI v, cs X2 b2)) : rE nn E (zI s) (cs X b) = some (cs (uI X2 227 42 (zI (ms + (1 - v)))) b2) := by
  have ck : ∀ X : KM, (cs X b).1 232 (292 + 9 * s).toNat = zI kd := fun X => by rw [cs_c (by omega), hk]
  unfold rE f_X12_doOne_G
  rcases hv with rfl | rfl
  · simp (disch := first | omega | assumption) only [↓lt, ↓reduceIte, Option.bind_some, zl, zneg, zadd, zsub, zmul, Int.reduceNeg, Int.reduceMul, ixT, zidx, if_true, if_false, zeqT, zeqF, zltT, zltF, zleT, zleF, ps_2, pu_o, uI_o, uI_s, uI_j, uI_j2, ps_o, Nat.reduceAdd, cs_o, cu_o, h, ck, hr, hm]
    rfl
  · simp (disch := first | omega | assumption) only [↓lt, ↓reduceIte, Option.bind_some, zl, zneg, zadd, zsub, zmul, Int.reduceNeg, Int.reduceMul, ixT, zidx, if_true, if_false, zeqT, zeqF, zltT, zltF, zleT, zleF, ps_2, pu_o, uI_o, uI_s, uI_j, uI_j2, ps_o, Nat.reduceAdd, cs_o, cu_o, h, ck, hr, hm]
    rfl
theorem one_stop {nn E : Nat} {X : KM} {b : Int → Int} {s dn : Int} (h : X.1 227 41 = zI dn) (hd : 0 ≤ dn ∧ dn < 300) (hs : 0 ≤ s ∧ s < 30) (hk : b (292 + 9 * s) = 8) : rE nn E (zI s) (cs X b) = some (cs (uI (uI X 227 41 (zI (dn + 1))) 227 39 (zI 1)) b) := by
  have ck : ∀ X : KM, (cs X b).1 232 (292 + 9 * s).toNat = zI 8 := fun X => by rw [cs_c (by omega), hk]
  unfold rE f_X12_doOne_G
  simp (disch := first | omega | assumption) only [↓lt, ↓reduceIte, Option.bind_some, zl, zneg, zadd, zsub, zmul, Int.reduceNeg, Int.reduceMul, ixT, zidx, if_true, if_false, zeqT, zeqF, zltT, zltF, zleT, zleF, ps_2, pu_o, uI_o, uI_s, uI_j, uI_j2, ps_o, Nat.reduceAdd, cs_o, cu_o, h, ck]
theorem one_when0 {nn E : Nat} {X : KM} {b : Int → Int} {s dn : Int} (h : X.1 227 41 = zI dn) (hd : 0 ≤ dn ∧ dn < 300) (hs : 0 ≤ s ∧ s < 30) (hk : b (292 + 9 * s) = 6) (hr : ∀ X, f_X12_isSo nn 227 (zI (292 + 9 * s)) (cs X b) = some (zI 0)) : rE nn E (zI s) (cs X b) = some (cs (uI X 227 41 (zI (dn + 1))) b) := by
  have ck : ∀ X : KM, (cs X b).1 232 (292 + 9 * s).toNat = zI 6 := fun X => by rw [cs_c (by omega), hk]
  unfold rE f_X12_doOne_G
  simp (disch := first | omega | assumption) only [↓lt, ↓reduceIte, Option.bind_some, zl, zneg, zadd, zsub, zmul, Int.reduceNeg, Int.reduceMul, ixT, zidx, if_true, if_false, zeqT, zeqF, zltT, zltF, zleT, zleF, ps_2, pu_o, uI_o, uI_s, uI_j, uI_j2, ps_o, Nat.reduceAdd, cs_o, cu_o, h, ck, hr]
theorem one_when1 {nn E : Nat} {X X2 : KM} {b b2 : Int → Int} {s dn f : Int} (h : X.1 227 41 = zI dn) (hd : 0 ≤ dn ∧ dn < 300) (hs : 0 ≤ s ∧ s < 30) (hk : b (292 + 9 * s) = 6) (hf : b (292 + 9 * s + 8) = f) (hr : ∀ X, f_X12_isSo nn 227 (zI (292 + 9 * s)) (cs X b) = some (zI 1)) (hd2 : da_X12 E nn 227 (zI (s + 1)) (zI f) (cs (uI X 227 41 (zI (dn + 1))) b) = some (cs X2 b2)) : rE nn E (zI s) (cs X b) = some (cs X2 b2) := by
  have ck : ∀ X : KM, (cs X b).1 232 (292 + 9 * s).toNat = zI 6 := fun X => by rw [cs_c (by omega), hk]
  have c8 : ∀ X : KM, (cs X b).1 232 (292 + 9 * s + 8).toNat = zI f := fun X => by rw [cs_c (by omega), hf]
  unfold rE f_X12_doOne_G
  simp (disch := first | omega | assumption) only [↓lt, ↓reduceIte, Option.bind_some, zl, zneg, zadd, zsub, zmul, Int.reduceNeg, Int.reduceMul, ixT, zidx, if_true, if_false, zeqT, zeqF, zltT, zltF, zleT, zleF, ps_2, pu_o, uI_o, uI_s, uI_j, uI_j2, ps_o, Nat.reduceAdd, cs_o, cu_o, h, ck, c8, hr, hd2]
theorem one_loop {nn E : Nat} {X X2 : KM} {b b2 : Int → Int} {s dn : Int} (h : X.1 227 41 = zI dn) (hd : 0 ≤ dn ∧ dn < 300) (hs : 0 ≤ s ∧ s < 30) (hk : b (292 + 9 * s) = 7) (hr : lp_X12_doOne_120 nn (fun u v M => da_X12 E nn 227 u v M) 227 (zI s) (zI (292 + 9 * s)) (zI 0) (cs (uI X 227 41 (zI (dn + 1))) b) (fun M => some M) = some (cs X2 b2)) : rE nn E (zI s) (cs X b) = some (cs X2 b2) := by
  have ck : ∀ X : KM, (cs X b).1 232 (292 + 9 * s).toNat = zI 7 := fun X => by rw [cs_c (by omega), hk]
  unfold rE f_X12_doOne_G
  simp (disch := first | omega | assumption) only [↓lt, ↓reduceIte, Option.bind_some, zl, zneg, zadd, zsub, zmul, Int.reduceNeg, Int.reduceMul, ixT, zidx, if_true, if_false, zeqT, zeqF, zltT, zltF, zleT, zleF, ps_2, pu_o, uI_o, uI_s, uI_j, uI_j2, ps_o, Nat.reduceAdd, cs_o, cu_o, h, ck, hr]
theorem lo_end {k nn E : Nat} {X : KM} {b : Int → Int} {s a c : Int} {κ : KM → Option KM} (hs : 0 ≤ s ∧ s < 30) (ha : b (292 + 9 * s + 1) = a) (hc : a ≤ c) (ha2 : 1 ≤ a) (hc2 : c ≤ 99) : lp_X12_doOne_120 (k + 1) (fun u v M => da_X12 E nn 227 u v M) 227 (zI s) (zI (292 + 9 * s)) (zI c) (cs X b) κ = κ (cs X b) := by
  have c1 : ∀ X : KM, (cs X b).1 232 (292 + 9 * s + 1).toNat = zI a := fun X => by rw [cs_c (by omega), ha]
  rw [lp_X12_doOne_120]
  simp (disch := first | omega | assumption) only [↓lt, ↓reduceIte, Option.bind_some, zl, zneg, zadd, zsub, zmul, Int.reduceNeg, Int.reduceMul, ixT, zidx, if_true, if_false, zeqT, zeqF, zltT, zltF, zleT, zleF, ps_2, pu_o, uI_o, uI_s, uI_j, uI_j2, ps_o, Nat.reduceAdd, cs_o, cu_o, c1]
theorem lo_over {k nn E : Nat} {X : KM} {b : Int → Int} {s a c : Int} {κ : KM → Option KM} (hs : 0 ≤ s ∧ s < 30) (ha : b (292 + 9 * s + 1) = a) (hc : 0 ≤ c ∧ c ≤ 99) (ha2 : 1 ≤ a ∧ a ≤ 99) (h39 : X.1 227 39 = zI 1) : lp_X12_doOne_120 (k + 1) (fun u v M => da_X12 E nn 227 u v M) 227 (zI s) (zI (292 + 9 * s)) (zI c) (cs X b) κ = κ (cs X b) := by
  by_cases w : a ≤ c
  · exact lo_end hs ha w ha2.1 hc.2
  · have c1 : ∀ X : KM, (cs X b).1 232 (292 + 9 * s + 1).toNat = zI a := fun X => by rw [cs_c (by omega), ha]
    rw [lp_X12_doOne_120]
    simp (disch := first | omega | assumption) only [↓lt, ↓reduceIte, Option.bind_some, zl, zneg, zadd, zsub, zmul, Int.reduceNeg, Int.reduceMul, ixT, zidx, if_true, if_false, zeqT, zeqF, zltT, zltF, zleT, zleF, ps_2, pu_o, uI_o, uI_s, uI_j, uI_j2, ps_o, Nat.reduceAdd, cs_o, cu_o, c1, h39]
theorem lo_step {k nn E : Nat} {X X2 : KM} {b b2 : Int → Int} {s a c f : Int} {κ : KM → Option KM} (hs : 0 ≤ s ∧ s < 30) (ha : b (292 + 9 * s + 1) = a) (hf : b (292 + 9 * s + 8) = f) (hc : 0 ≤ c ∧ c < a) (ha2 : a ≤ 99) (h39 : X.1 227 39 = zI 0) (hr : da_X12 E nn 227 (zI (s + 1)) (zI f) (cs X b) = some (cs X2 b2)) : lp_X12_doOne_120 (k + 1) (fun u v M => da_X12 E nn 227 u v M) 227 (zI s) (zI (292 + 9 * s)) (zI c) (cs X b) κ = lp_X12_doOne_120 k (fun u v M => da_X12 E nn 227 u v M) 227 (zI s) (zI (292 + 9 * s)) (zI (c + 1)) (cs X2 b2) κ := by
  have c1 : ∀ X : KM, (cs X b).1 232 (292 + 9 * s + 1).toNat = zI a := fun X => by rw [cs_c (by omega), ha]
  have c8 : ∀ X : KM, (cs X b).1 232 (292 + 9 * s + 8).toNat = zI f := fun X => by rw [cs_c (by omega), hf]
  rw [lp_X12_doOne_120]
  simp (disch := first | omega | assumption) only [↓lt, ↓reduceIte, Option.bind_some, zl, zneg, zadd, zsub, zmul, Int.reduceNeg, Int.reduceMul, ixT, zidx, if_true, if_false, zeqT, zeqF, zltT, zltF, zleT, zleF, ps_2, pu_o, uI_o, uI_s, uI_j, uI_j2, ps_o, Nat.reduceAdd, cs_o, cu_o, c1, c8, h39, hr]
