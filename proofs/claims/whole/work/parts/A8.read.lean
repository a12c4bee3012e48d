/-! ===== land: a road ===== -/
/-- the reference behind the second place of a road, and what comes before -/
def mR2 (n : Nat) (c p q : Int32) (v10 : KM) : Option KM :=
  if ix ((2258 : Int32) + c) 2810 then
  lt (uI v10 232 (((2258 : Int32) + c)).toNatClampNeg p) fun (M12 : KM) =>
  if ix ((2270 : Int32) + c) 2810 then
  lt (uI M12 232 (((2270 : Int32) + c)).toNatClampNeg q) fun (M14 : KM) =>
  (f_X12_count n 227 (1 : Int32) (99 : Int32) M14).bind fun (v15 : (Int32 × KM)) =>
  if ix ((2282 : Int32) + c) 2810 then
  lt (uI v15.2 232 (((2282 : Int32) + c)).toNatClampNeg v15.1) fun (M17 : KM) =>
  lt (f_X12_isSmells 227 M17) fun (v18 : Int32) =>
  (f_X12_perhaps n 227 v18 M17).bind fun (v19 : (Int32 × KM)) =>
  lt (fun (M20 : KM) => (
    if (M20.1 227 12) = 0 then
      if ix (2249 : Int32) 2810 then
      if ix (2249 : Int32) 2810 then
      lt (uI M20 232 ((2249 : Int32)).toNatClampNeg ((M20.1 232 ((2249 : Int32)).toNatClampNeg) + (1 : Int32))) fun (M23 : KM) =>
      some M23
      else none
      else none
    else
      some M20
  ) : KM → Option KM) fun j156 =>
  if v19.1 = 0 then
    j156 v19.2
  else
    if ix ((2294 : Int32) + c) 2810 then
    lt (uI v19.2 232 (((2294 : Int32) + c)).toNatClampNeg (1 : Int32)) fun (M26 : KM) =>
    j156 M26
    else none
  else none
  else none
  else none
def mR (n : Nat) (c p q : Int32) (M7 : KM) : Option KM :=
  (f_X12_must n 227 (1 : Int32) M7).bind fun (v8 : KM) =>
  lt (f_X12_isMinutes 227 v8) fun (v9 : Int32) =>
  (f_X12_must n 227 v9 v8).bind fun (v10 : KM) => mR2 n c p q v10
def mR0 (n : Nat) (c : Int32) (M3 : KM) : Option KM :=
  if (M3.1 227 12) ≤ 0 then
    (f_X12_advance n 227 M3).bind fun (v4 : KM) =>
    (f_X12_readTold n 227 (4 : Int32) (0 : Int32) v4).bind fun (v5 : (Int32 × KM)) =>
    (f_X12_told n 227 (4 : Int32) (0 : Int32) v5.2).bind fun (v6 : (Int32 × KM)) =>
    if (v6.2.1 227 12) = 0 then
      if v5.1 = v6.1 then
        mR n c v5.1 v6.1 (f_X12_fail 227 (5 : Int32) (v6.2.1 227 15) v6.2)
      else
        (f_X12_roadBy n 227 (4 : Int32) v5.1 v6.1 v6.2).bind fun (v29 : Int32) =>
        if v29 < 0 then
          mR n c v5.1 v6.1 v6.2
        else
          mR n c v5.1 v6.1 (f_X12_fail 227 (5 : Int32) (v6.2.1 227 15) v6.2)
    else
      mR n c v5.1 v6.1 v6.2
  else
    some M3
theorem m_readRoad_eq {n : Nat} {X : KM} : f_X12_readRoad n 227 X = if ix (2249 : Int32) 2810 then (if (X.1 232 2249) = (12 : Int32) then mR0 n (X.1 232 2249) (f_X12_fail 227 (6 : Int32) (X.1 227 15) X) else mR0 n (X.1 232 2249) X) else none := rfl
theorem mR2_bad {n : Nat} {c : Int} {p q : Int32} {Y : KM} (c0 : 0 ≤ c) (c1 : c < 12) (h : XB Y) : mR2 n (zI c) p q Y = some (uI (uI (uI Y 232 (2258 + c).toNat p) 232 (2270 + c).toNat q) 232 (2282 + c).toNat (zI 0)) := by
  have xw : ∀ Z k v, XB Z → XB (uI Z 232 k v) := fun Z k v hz => by
    obtain ⟨f, f1, f2, f3⟩ := hz
    exact ⟨f, f1, f2, by rw [uI_o (by omega)]; exact f3⟩
  have e1 := xb_count (p := zI 1) (q := zI 99) (n := n) (xw _ (2270 + c).toNat q (xw _ (2258 + c).toNat p h))
  have h3 := xw _ (2282 + c).toNat (zI 0) (xw _ (2270 + c).toNat q (xw _ (2258 + c).toNat p h))
  have e2 := fun p => xb_perhaps (p := p) (n := n) h3
  obtain ⟨f, f1, f2, f3⟩ := h3
  unfold mR2
  simp (disch := first | omega | assumption) only [↓lt, ↓reduceIte, zl, zadd, ixT, zidx, if_true, e1, Option.bind_some, e2, zeqT, f3, zeqF, if_false]
theorem mR_bad {n : Nat} {c : Int} {p q : Int32} {Y : KM} (c0 : 0 ≤ c) (c1 : c < 12) (h : XB Y) : mR n (zI c) p q Y = some (uI (uI (uI Y 232 (2258 + c).toNat p) 232 (2270 + c).toNat q) 232 (2282 + c).toNat (zI 0)) := by
  unfold mR
  rw [xb_must h]
  simp only [Option.bind_some, lt]
  rw [xb_must h]
  exact mR2_bad c0 c1 h
theorem rdK_sh {b : Int → Int} {x y : Int} (h0 : 0 ≤ sh b 2248 1) (h : sh b 2248 1 ≤ 12) : rdK b 2248 x y = rdB (sh b 2248) x y := by
  unfold rdK rdB
  rw [show b (2248 + 1) = sh b 2248 1 from (sh_at (by omega) (by omega)).symm]
  refine fst_c _ _ (fun r u v => ?_)
  rw [sh_at (by omega) (by omega), sh_at (by omega) (by omega), show 2248 + (10 + r) = 2248 + 10 + r by omega, show 2248 + (22 + r) = 2248 + 22 + r by omega]
/-- the road between two places of the land that is read: the same in both; -1: none -/
theorem j_between {S n : Nat} {b : Int → Int} {M X : KM} {x y : Int} (h : LB S b M X) (x0 : 0 ≤ x) (x1 : x < 8) (y0 : 0 ≤ y) (y1 : y < 8) (hn : 1000 < n) : ∃ r, -1 ≤ r ∧ r < sh b 2248 1 ∧ (x = y → r = -1) ∧ f_X2_roadBetween n S (zI x) (zI y) M = some (zI r) ∧ (¬ x = y → f_X12_roadBy n 227 (zI 4) (zI x) (zI y) X = some (zI r)) ∧ (x = y → f_X12_roadBy n 227 (zI 4) (zI x) (zI y) X = some (zI (-1))) := by
  obtain ⟨a1, a2, a3, -⟩ := h
  have hh := a2.1
  have hw := CB_WB a2
  have hr := a2.2.1
  have e1 := c_roadBetween (M := M) (L := S) (g := pg M S) (x := x) (y := y) (n := n) a3 hw.1 (by omega) (by omega) y0 (by omega) (by omega)
  rw [← ps_ex] at e1
  have X1 : X = cs X b := by
    refine Prod.ext ?_ rfl
    funext a k
    simp only [cs]
    by_cases w : a = 232
    · rw [if_pos w, w]; exact a1 k
    · rw [if_neg w]
  have s1 : sh b 2248 1 = b (2248 + 1) := sh_at (by omega) (by omega)
  have e2 := m_roadByK (M := X) (b := b) (k := 2248) (x := x) (y := y) (n := n) (by omega) (by omega) (by omega) (by omega) (by omega) (by omega) (by omega) (by omega) (by omega) (fun r u v => by
    have := hr r u (by omega)
    unfold WR at this
    rw [sh_at (e := 10 + r) (by omega) (by omega), sh_at (e := 22 + r) (by omega) (by omega)] at this
    rw [show 2248 + 10 + r = 2248 + (10 + r) by omega, show 2248 + 22 + r = 2248 + (22 + r) by omega]
    omega)
  rw [← X1, rdK_sh (by omega) (by omega)] at e2
  have e3 : f_X12_roadBy n 227 (zI 4) (zI x) (zI y) X = some (zI (rdB (sh b 2248) x y)) := by
    unfold f_X12_roadBy
    simp (disch := first | omega | assumption) only [↓lt, ↓reduceIte, zl, zmul, Int.reduceMul]
    exact e2
  have rr := rdB_r (b := sh b 2248) (x := x) (y := y) (by omega)
  by_cases q : x = y
  · refine ⟨-1, by omega, by omega, fun _ => rfl, ?_, fun z => absurd q z, fun _ => ?_⟩
    · rw [e1]; unfold btB; rw [if_pos q]
    · rw [e3]
      have : rdB (sh b 2248) x y = -1 := by
        unfold rdB
        rcases fst_r (P := fun r => decide ((sh b 2248 (10 + r) = x ∧ sh b 2248 (22 + r) = y) ∨ (sh b 2248 (10 + r) = y ∧ sh b 2248 (22 + r) = x))) (sh b 2248 1).toNat 0 (by omega) with ⟨f1, -⟩ | ⟨f1, f2, f3, -⟩
        · exact f1
        · exfalso
          have := hr _ f1 (by omega)
          unfold WR at this
          simp only [decide_eq_true_eq] at f3
          omega
      rw [this]
  · refine ⟨rdB (sh b 2248) x y, rr.1, rr.2, fun z => absurd z q, ?_, fun _ => e3, fun z => absurd z q⟩
    rw [e1]; unfold btB; rw [if_neg q]
/-- a road laid behind those that are there -/
theorem LB_road {S : Nat} {b b' : Int → Int} {M M' X X' : KM} {c x y m q : Int} (hS : Sp S M) (h : LB S b M X) (hc : c = sh b 2248 1) (c12 : c < 12) (hq : 0 ≤ x ∧ x < sh b 2248 0 ∧ 0 ≤ y ∧ y < sh b 2248 0 ∧ ¬ x = y ∧ 1 ≤ m ∧ m ≤ 99 ∧ 0 ≤ q ∧ q ≤ 1) (hr : ∀ k : Nat, X'.1 232 k = zI (b' k)) (hb : ∀ z, 2248 ≤ z → z < 2810 → ¬ z = 2249 → ¬ z = 2258 + c → ¬ z = 2270 + c → ¬ z = 2282 + c → ¬ z = 2294 + c → b' z = b z) (b1 : b' 2249 = c + 1) (bx : b' (2258 + c) = x) (bY : b' (2270 + c) = y) (bm : b' (2282 + c) = m) (bq : b' (2294 + c) = q)
    (hM : ∀ a k, 23 ≤ a → a < 105 → ¬ (a = S ∧ k = 9) → ¬ (S + 2 ≤ a ∧ a ≤ S + 5 ∧ k = c.toNat) → M'.1 a k = M.1 a k) (q9 : M'.1 S 9 = zI (c + 1)) (qx : M'.1 (S + 2) c.toNat = zI x) (qy : M'.1 (S + 3) c.toNat = zI y) (qm : M'.1 (S + 4) c.toNat = zI m) (qq : M'.1 (S + 5) c.toNat = zI q) (hJ : ∀ a k, 23 ≤ a → a < 105 → M'.2.1 a k = M.2.1 a k) (hR : M'.2.2 S 7 = M.2.2 S 7) (hW : ∀ k, X'.2.1 235 k = X.2.1 235 k) : LB S b' M' X' := by
  obtain ⟨a1, a2, a3, a4, a5, a6, a7, a8, a9, a10⟩ := h
  have hh := a2.1
  obtain ⟨hP, hS⟩ := hS
  have sb : ∀ z, 0 ≤ z → z < 562 → ¬ z = 1 → ¬ z = 10 + c → ¬ z = 22 + c → ¬ z = 34 + c → ¬ z = 46 + c → sh b' 2248 z = sh b 2248 z := fun z u v e1 e2 e3 e4 e5 => by
    rw [sh_at u v, sh_at u v]; exact hb _ (by omega) (by omega) (by omega) (by omega) (by omega) (by omega) (by omega)
  have s1 : sh b' 2248 1 = c + 1 := by rw [sh_at (by omega) (by omega)]; exact b1
  have sx : sh b' 2248 (10 + c) = x := by rw [sh_at (by omega) (by omega), ← bx]; congr 1; omega
  have sy : sh b' 2248 (22 + c) = y := by rw [sh_at (by omega) (by omega), ← bY]; congr 1; omega
  have sm : sh b' 2248 (34 + c) = m := by rw [sh_at (by omega) (by omega), ← bm]; congr 1; omega
  have sq : sh b' 2248 (46 + c) = q := by rw [sh_at (by omega) (by omega), ← bq]; congr 1; omega
  have hC : CB (sh b' 2248) := CB_road (c := sh b 2248) (x := x) (y := y) (m := m) (q := q) a2 (by omega) (fun z u v e1 e2 e3 e4 e5 => sb z u v e1 (by omega) (by omega) (by omega) (by omega)) (by rw [← hc]; exact s1) (by rw [← hc]; exact sx) (by rw [← hc]; exact sy) (by rw [← hc]; exact sm) (by rw [← hc]; exact sq) hq
  have z0 := sb 0 (by omega) (by omega) (by omega) (by omega) (by omega) (by omega) (by omega)
  have z2 := sb 2 (by omega) (by omega) (by omega) (by omega) (by omega) (by omega) (by omega)
  have z3 := sb 3 (by omega) (by omega) (by omega) (by omega) (by omega) (by omega) (by omega)
  have z4 := sb 4 (by omega) (by omega) (by omega) (by omega) (by omega) (by omega) (by omega)
  have z5 := sb 5 (by omega) (by omega) (by omega) (by omega) (by omega) (by omega) (by omega)
  have z6 := sb 6 (by omega) (by omega) (by omega) (by omega) (by omega) (by omega) (by omega)
  have z7 := sb 7 (by omega) (by omega) (by omega) (by omega) (by omega) (by omega) (by omega)
  have z8 := sb 8 (by omega) (by omega) (by omega) (by omega) (by omega) (by omega) (by omega)
  have z9 := sb 9 (by omega) (by omega) (by omega) (by omega) (by omega) (by omega) (by omega)
  obtain ⟨c0, c1, c2, c5, c6, c7, c8, c9, c3, c4, cd, ca, cb, cc, cs⟩ := a3
  refine ⟨hr, hC, ⟨?_, ?_, ?_, ?_, ?_, ?_, ?_, ?_, ?_, ?_, ?_, fun r u v => ?_, fun r u v => ?_, fun r u v => ?_, fun r u v => ?_⟩, PB_of (fun a k u v => hM a k (by omega) (by omega) (by omega) (by omega)) (fun z u v => sb z (by omega) (by omega) (by omega) (by omega) (by omega) (by omega) (by omega)) z2 (by omega) a4, P01_of (fun a k u v => hM a k (by omega) (by omega) (by omega) (by omega)) a5, fun k u v => ?_, fun k u v => ?_, ?_, ?_, ?_⟩
  · rw [z0, hM _ _ (by omega) (by omega) (by omega) (by omega)]; exact c0
  · rw [s1]; exact q9
  · rw [z2, hM _ _ (by omega) (by omega) (by omega) (by omega)]; exact c2
  · rw [z5, hM _ _ (by omega) (by omega) (by omega) (by omega)]; exact c5
  · rw [z6, hM _ _ (by omega) (by omega) (by omega) (by omega)]; exact c6
  · rw [z7, hM _ _ (by omega) (by omega) (by omega) (by omega)]; exact c7
  · rw [z8, hM _ _ (by omega) (by omega) (by omega) (by omega)]; exact c8
  · rw [z9, hM _ _ (by omega) (by omega) (by omega) (by omega)]; exact c9
  · rw [z3, hM _ _ (by omega) (by omega) (by omega) (by omega)]; exact c3
  · rw [z4, hM _ _ (by omega) (by omega) (by omega) (by omega)]; exact c4
  · rw [z3, z4, hM _ _ (by omega) (by omega) (by omega) (by omega)]; exact cd
  · rw [s1] at v
    by_cases w : r = c
    · rw [w, sx]; exact qx
    · rw [sb _ (by omega) (by omega) (by omega) (by omega) (by omega) (by omega) (by omega), hM _ _ (by omega) (by omega) (by omega) (by omega)]; exact ca r u (by omega)
  · rw [s1] at v
    by_cases w : r = c
    · rw [w, sy]; exact qy
    · rw [sb _ (by omega) (by omega) (by omega) (by omega) (by omega) (by omega) (by omega), hM _ _ (by omega) (by omega) (by omega) (by omega)]; exact cb r u (by omega)
  · rw [s1] at v
    by_cases w : r = c
    · rw [w, sm]; exact qm
    · rw [sb _ (by omega) (by omega) (by omega) (by omega) (by omega) (by omega) (by omega), hM _ _ (by omega) (by omega) (by omega) (by omega)]; exact cc r u (by omega)
  · rw [s1] at v
    by_cases w : r = c
    · rw [w, sq]; exact qq
    · rw [sb _ (by omega) (by omega) (by omega) (by omega) (by omega) (by omega) (by omega), hM _ _ (by omega) (by omega) (by omega) (by omega)]; exact cs r u (by omega)
  · rw [z0] at v; rw [hJ _ _ (by omega) (by omega), hW]; exact a6 k u v
  · rw [z2] at v; rw [hJ _ _ (by omega) (by omega), hW]; exact a7 k u v
  · rw [hR, hM _ _ (by omega) (by omega) (by omega) (by omega)]; exact a8
  · rw [hR, hM _ _ (by omega) (by omega) (by omega) (by omega)]; exact a9
  · rw [hR, hM _ _ (by omega) (by omega) (by omega) (by omega)]; exact a10
