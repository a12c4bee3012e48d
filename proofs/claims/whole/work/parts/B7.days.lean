/-! ===== days: any step's head ===== -/
/-- the reference from the word of a step on, whole -/
def gTl (r : Int32 → KM → Option KM) (n : Nat) (p x2 w6 : Int32) (v13 : KM) : Option KM :=
  lp_X12_readStep_142 n r 227 p x2 w6 v13
    (fun (M19 : KM) => (
      lt (fun (M20 : KM) => (
        if ix (w6 + (8 : Int32)) 2810 then
        lt (uI M20 232 ((w6 + (8 : Int32))).toNatClampNeg (M20.1 227 27)) fun (M22 : KM) =>
        some M22
        else none
      ) : KM → Option KM) fun j192 =>
      if x2 = 0 then
        j192 M19
      else
        lt (f_X12_isEnd 227 M19) fun (v23 : Int32) =>
        (f_X12_must n 227 v23 M19).bind fun (v24 : KM) =>
        lt (f_X12_isSign 227 (59 : Int32) v24) fun (v25 : Int32) =>
        (f_X12_must n 227 v25 v24).bind fun (v26 : KM) =>
        j192 v26
    ))
def gW (r : Int32 → KM → Option KM) (n : Nat) (p x2 v1 : Int32) (M5 : KM) : Option KM :=
  lt (((2540 : Int32) + ((9 : Int32) * (M5.1 227 27)))) fun (v6 : Int32) =>
  lt (uI M5 227 27 ((M5.1 227 27) + (1 : Int32))) fun (M7 : KM) =>
  (f_X12_advance n 227 M7).bind fun (v8 : KM) =>
  if ix v6 2810 then
  lt (uI v8 232 (v6).toNatClampNeg v1) fun (M10 : KM) =>
  (f_X12_readRest n 227 v6 M10).bind fun (v11 : KM) =>
  lt (f_X12_isSign 227 (59 : Int32) v11) fun (v12 : Int32) =>
  (f_X12_must n 227 v12 v11).bind fun (v13 : KM) =>
  gTl r n p x2 v6 v13
  else none
theorem gW_eq {r : Int32 → KM → Option KM} {n : Nat} {p x2 v1 : Int32} {X Y : KM} (h : sgB n v1 X = some Y) : gW r n p x2 v1 X = gTl r n p x2 ((2540 : Int32) + ((9 : Int32) * (X.1 227 27))) Y := by
  unfold sgB at h
  unfold gW
  rw [lt, lt]
  cases ha : f_X12_advance n 227 (uI X 227 27 (X.1 227 27 + 1)) with
  | none => rw [ha] at h; exact absurd h (by simp)
  | some v8 =>
    rw [ha, Option.bind_some] at h
    rw [Option.bind_some]
    by_cases c : ix ((2540 : Int32) + ((9 : Int32) * (X.1 227 27))) 2810
    · rw [if_pos c] at h ⊢
      rw [lt]
      cases hb : f_X12_readRest n 227 ((2540 : Int32) + ((9 : Int32) * (X.1 227 27))) (uI v8 232 ((2540 : Int32) + ((9 : Int32) * (X.1 227 27))).toNatClampNeg v1) with
      | none => rw [hb] at h; exact absurd h (by simp)
      | some v11 =>
        rw [hb, Option.bind_some] at h
        rw [Option.bind_some, lt, h, Option.bind_some]
    · rw [if_neg c] at h
      exact absurd h (by simp)
/-- whether a block begins -/
def blk (q : Int) : Int := if q = 6 then 1 else if q = 7 then 1 else 0
theorem G_go {r : Int32 → KM → Option KM} {n : Nat} {X : KM} {p q e : Int} (hs : f_X12_stepWord 227 X = zI q) (q0 : 0 ≤ q) (q9 : q ≤ 8) (h12 : X.1 227 12 = zI 0) (h27 : X.1 227 27 = zI e) (e0 : 0 ≤ e) (e30 : e < 30) (hp : blk q = 1 → ¬ p = 3) (p0 : 0 ≤ p) (p9 : p ≤ 9) : f_X12_readStep_G r n 227 (zI p) X = gW r n (zI p) (zI (blk q)) (zI q) X := by
  have z12 : X.1 227 12 = (0 : Int32) := h12
  have z12b : X.1 227 12 ≤ (0 : Int32) := by rw [h12]; decide
  have n27 : ¬ X.1 227 27 = (30 : Int32) := by
    rw [h27, show (30 : Int32) = zI 30 from rfl, zeqF (by omega) (by omega) (by omega) (by omega) (by omega)]; exact id
  have q1 : (0 : Int32) ≤ zI q := by
    rw [show (0 : Int32) = zI 0 from rfl, zleT q0 (by omega) (by omega)]; trivial
  have pn : ¬ p = 3 → ¬ zI p = (3 : Int32) := fun h => by
    rw [show (3 : Int32) = zI 3 from rfl, zeqF h (by omega) (by omega) (by omega) (by omega)]; exact id
  unfold f_X12_readStep_G
  rw [lt, hs, lt, lt]
  by_cases c6 : q = 6
  · have b1 : blk q = 1 := if_pos c6
    rw [b1] at hp ⊢
    rw [if_pos (by rw [c6]; rfl)]
    try dsimp only
    rw [lt, if_pos q1]
    try dsimp only
    rw [lt, if_pos z12, if_neg n27]
    try dsimp only
    rw [lt, if_pos z12, if_neg (by decide), if_neg (pn (hp rfl))]
    try dsimp only
    rw [if_pos z12b]
    rfl
  · have n6 : ¬ zI q = (6 : Int32) := by
      rw [show (6 : Int32) = zI 6 from rfl, zeqF c6 (by omega) (by omega) (by omega) (by omega)]; exact id
    by_cases c7 : q = 7
    · have b1 : blk q = 1 := by unfold blk; rw [if_neg c6, if_pos c7]
      rw [b1] at hp ⊢
      rw [if_neg n6, if_pos (by rw [c7]; rfl)]
      try dsimp only
      rw [lt, if_pos q1]
      try dsimp only
      rw [lt, if_pos z12, if_neg n27]
      try dsimp only
      rw [lt, if_pos z12, if_neg (by decide), if_neg (pn (hp rfl))]
      try dsimp only
      rw [if_pos z12b]
      rfl
    · have n7 : ¬ zI q = (7 : Int32) := by
        rw [show (7 : Int32) = zI 7 from rfl, zeqF c7 (by omega) (by omega) (by omega) (by omega)]; exact id
      have b0 : blk q = 0 := by unfold blk; rw [if_neg c6, if_neg c7]
      rw [b0]
      rw [if_neg n6, if_neg n7]
      try dsimp only
      rw [lt, if_pos q1]
      try dsimp only
      rw [lt, if_pos z12, if_neg n27]
      try dsimp only
      rw [lt, if_pos z12, if_pos rfl]
      try dsimp only
      rw [if_pos z12b]
      rfl
theorem xb_le {X : KM} (h : XB X) : ¬ X.1 227 12 ≤ (0 : Int32) := by
  obtain ⟨f, f1, f2, f3⟩ := h
  rw [f3, show (0 : Int32) = zI 0 from rfl, zleF (by omega) (by omega) (by omega)]
  exact id
/-- no step begins so -/
theorem G_no {r : Int32 → KM → Option KM} {n : Nat} {X Y : KM} {p : Int32} (hs : f_X12_stepWord 227 X = zI (-1)) (ha : f_X12_amiss 227 X = Y) (hY : XB Y) : f_X12_readStep_G r n 227 p X = some Y := by
  unfold f_X12_readStep_G
  rw [lt, hs, lt, lt, if_neg (by decide), if_neg (by decide)]
  try dsimp only
  rw [lt, if_neg (by decide)]
  try dsimp only
  rw [ha]
  try dsimp only
  rw [lt, lt, if_neg (xb_12 hY)]
  try dsimp only
  rw [lt, if_neg (xb_12 hY)]
  try dsimp only
  rw [if_neg (xb_le hY)]
/-- too many steps -/
theorem G_30 {r : Int32 → KM → Option KM} {n : Nat} {X Y : KM} {q : Int} {p : Int32} (hs : f_X12_stepWord 227 X = zI q) (q0 : 0 ≤ q) (q9 : q ≤ 8) (h12 : X.1 227 12 = zI 0) (h27 : X.1 227 27 = zI 30) (ha : f_X12_fail 227 (zI 6) (X.1 227 15) X = Y) (hY : XB Y) : f_X12_readStep_G r n 227 p X = some Y := by
  have z12 : X.1 227 12 = (0 : Int32) := h12
  have z27 : X.1 227 27 = (30 : Int32) := h27
  have q1 : (0 : Int32) ≤ zI q := by
    rw [show (0 : Int32) = zI 0 from rfl, zleT q0 (by omega) (by omega)]; trivial
  have ha2 : f_X12_fail 227 (6 : Int32) (X.1 227 15) X = Y := ha
  unfold f_X12_readStep_G
  rw [lt, hs, lt, lt]
  by_cases c6 : zI q = (6 : Int32)
  · rw [if_pos c6]
    try dsimp only
    rw [lt, if_pos q1]
    try dsimp only
    rw [lt, if_pos z12, if_pos z27]
    try dsimp only
    rw [ha2]
    try dsimp only
    rw [lt]
    try dsimp only
    rw [lt, if_neg (xb_12 hY)]
    try dsimp only
    rw [if_neg (xb_le hY)]
  · rw [if_neg c6]
    by_cases c7 : zI q = (7 : Int32)
    · rw [if_pos c7]
      try dsimp only
      rw [lt, if_pos q1]
      try dsimp only
      rw [lt, if_pos z12, if_pos z27]
      try dsimp only
      rw [ha2]
      try dsimp only
      rw [lt]
      try dsimp only
      rw [lt, if_neg (xb_12 hY)]
      try dsimp only
      rw [if_neg (xb_le hY)]
    · rw [if_neg c7]
      try dsimp only
      rw [lt, if_pos q1]
      try dsimp only
      rw [lt, if_pos z12, if_pos z27]
      try dsimp only
      rw [ha2]
      try dsimp only
      rw [lt]
      try dsimp only
      rw [lt, if_neg (xb_12 hY)]
      try dsimp only
      rw [if_neg (xb_le hY)]
/-- too deep -/
theorem G_deep {r : Int32 → KM → Option KM} {n : Nat} {X Y : KM} {q e : Int} (hs : f_X12_stepWord 227 X = zI q) (hq : q = 6 ∨ q = 7) (h12 : X.1 227 12 = zI 0) (h27 : X.1 227 27 = zI e) (e0 : 0 ≤ e) (e30 : e < 30) (ha : f_X12_fail 227 (zI 7) (X.1 227 15) X = Y) (hY : XB Y) : f_X12_readStep_G r n 227 (zI 3) X = some Y := by
  have z12 : X.1 227 12 = (0 : Int32) := h12
  have n27 : ¬ X.1 227 27 = (30 : Int32) := by
    rw [h27, show (30 : Int32) = zI 30 from rfl, zeqF (by omega) (by omega) (by omega) (by omega) (by omega)]; exact id
  have ha2 : f_X12_fail 227 (7 : Int32) (X.1 227 15) X = Y := ha
  unfold f_X12_readStep_G
  rw [lt, hs, lt, lt]
  rcases hq with hq | hq
  · subst hq
    rw [if_pos (by decide)]
    try dsimp only
    rw [lt, if_pos (by decide)]
    try dsimp only
    rw [lt, if_pos z12, if_neg n27]
    try dsimp only
    rw [lt, if_pos z12, if_neg (by decide), if_pos (by decide)]
    try dsimp only
    rw [ha2]
    try dsimp only
    rw [lt]
    try dsimp only
    rw [if_neg (xb_le hY)]
  · subst hq
    rw [if_neg (by decide), if_pos (by decide)]
    try dsimp only
    rw [lt, if_pos (by decide)]
    try dsimp only
    rw [lt, if_pos z12, if_neg n27]
    try dsimp only
    rw [lt, if_pos z12, if_neg (by decide), if_pos (by decide)]
    try dsimp only
    rw [ha2]
    try dsimp only
    rw [lt]
    try dsimp only
    rw [if_neg (xb_le hY)]
theorem c_step15 {P L n : Nat} {M : KM} (h : M.1 8 7 = zI 15) : f_X0_readStep n 8 P L M = sq (f_X0_start n 8 P) (f_X0_readNumberStep n 8 P (zI 0) (zI 600)) M := by
  unfold f_X0_readStep
  rw [lt, h, if_pos (by decide)]
  rfl
theorem c_step16 {P L n : Nat} {M : KM} (h : M.1 8 7 = zI 16) : f_X0_readStep n 8 P L M = sq (f_X0_start n 8 P) (f_X0_readGo n 8 P L) M := by
  unfold f_X0_readStep
  rw [lt, h, if_neg (by decide), if_pos (by decide)]
  rfl
theorem c_step17 {P L n : Nat} {M : KM} (h : M.1 8 7 = zI 17) : f_X0_readStep n 8 P L M = sq (f_X0_start n 8 P) (f_X0_readLead n 8 P L) M := by
  unfold f_X0_readStep
  rw [lt, h, if_neg (by decide), if_neg (by decide), if_pos (by decide)]
  rfl
theorem c_step18 {P L n : Nat} {M : KM} (h : M.1 8 7 = zI 18) : f_X0_readStep n 8 P L M = sq (f_X0_start n 8 P) (f_X0_addStep n 8 P (zI 3) (zI 0) (zI 0) (zI 0)) M := by
  unfold f_X0_readStep
  rw [lt, h, if_neg (by decide), if_neg (by decide), if_neg (by decide), if_pos (by decide)]
  rfl
theorem c_step19 {P L n : Nat} {M : KM} (h : M.1 8 7 = zI 19) : f_X0_readStep n 8 P L M = sq (f_X0_start n 8 P) (f_X0_addStep n 8 P (zI 4) (zI 0) (zI 0) (zI 0)) M := by
  unfold f_X0_readStep
  rw [lt, h, if_neg (by decide), if_neg (by decide), if_neg (by decide), if_neg (by decide), if_pos (by decide)]
  rfl
theorem c_step20 {P L n : Nat} {M : KM} (h : M.1 8 7 = zI 20) : f_X0_readStep n 8 P L M = sq (f_X0_start n 8 P) (f_X0_addStep n 8 P (zI 5) (zI 0) (zI 0) (zI 0)) M := by
  unfold f_X0_readStep
  rw [lt, h, if_neg (by decide), if_neg (by decide), if_neg (by decide), if_neg (by decide), if_neg (by decide), if_pos (by decide)]
  rfl
theorem c_step21 {P L n : Nat} {M : KM} (h : M.1 8 7 = zI 21) : f_X0_readStep n 8 P L M = sq (f_X0_startBlock n 8 P) (f_X0_readTest n 8 P L) M := by
  unfold f_X0_readStep
  rw [lt, h, if_neg (by decide), if_neg (by decide), if_neg (by decide), if_neg (by decide), if_neg (by decide), if_neg (by decide), if_pos (by decide)]
  rfl
theorem c_step23 {P L n : Nat} {M : KM} (h : M.1 8 7 = zI 23) : f_X0_readStep n 8 P L M = sq (f_X0_startBlock n 8 P) (f_X0_readNumberStep n 8 P (zI 9) (zI 99)) M := by
  unfold f_X0_readStep
  rw [lt, h, if_neg (by decide), if_neg (by decide), if_neg (by decide), if_neg (by decide), if_neg (by decide), if_neg (by decide), if_neg (by decide), if_neg (by decide), if_pos (by decide)]
  rfl
theorem c_step25 {P L n : Nat} {M : KM} (h : M.1 8 7 = zI 25) : f_X0_readStep n 8 P L M = sq (f_X0_start n 8 P) (f_X0_addStep n 8 P (zI 11) (zI 0) (zI 0) (zI 0)) M := by
  unfold f_X0_readStep
  rw [lt, h, if_neg (by decide), if_neg (by decide), if_neg (by decide), if_neg (by decide), if_neg (by decide), if_neg (by decide), if_neg (by decide), if_neg (by decide), if_neg (by decide), if_neg (by decide), if_pos (by decide)]
  rfl
theorem c_stepNo {P L n : Nat} {M : KM} {j : Int} (h : M.1 8 7 = zI j) (j0 : -1 ≤ j) (j1 : j < 26) (hs : stW j = -1) : f_X0_readStep n 8 P L M = some ((f_X9_failOrder 8 M).1, (f_X9_failOrder 8 M).2) := by
  have hj2 : j = -1 ∨ j = 0 ∨ j = 1 ∨ j = 2 ∨ j = 3 ∨ j = 4 ∨ j = 5 ∨ j = 6 ∨ j = 7 ∨ j = 8 ∨ j = 9 ∨ j = 10 ∨ j = 11 ∨ j = 12 ∨ j = 13 ∨ j = 14 ∨ j = 15 ∨ j = 16 ∨ j = 17 ∨ j = 18 ∨ j = 19 ∨ j = 20 ∨ j = 21 ∨ j = 22 ∨ j = 23 ∨ j = 24 ∨ j = 25 := by omega
  unfold f_X0_readStep
  rw [lt, h]
  rcases hj2 with rfl | rfl | rfl | rfl | rfl | rfl | rfl | rfl | rfl | rfl | rfl | rfl | rfl | rfl | rfl | rfl | rfl | rfl | rfl | rfl | rfl | rfl | rfl | rfl | rfl | rfl | rfl
  · rw [if_neg (by decide), if_neg (by decide), if_neg (by decide), if_neg (by decide), if_neg (by decide), if_neg (by decide), if_neg (by decide), if_neg (by decide), if_neg (by decide), if_neg (by decide), if_neg (by decide)]
    rfl
  · rw [if_neg (by decide), if_neg (by decide), if_neg (by decide), if_neg (by decide), if_neg (by decide), if_neg (by decide), if_neg (by decide), if_neg (by decide), if_neg (by decide), if_neg (by decide), if_neg (by decide)]
    rfl
  · rw [if_neg (by decide), if_neg (by decide), if_neg (by decide), if_neg (by decide), if_neg (by decide), if_neg (by decide), if_neg (by decide), if_neg (by decide), if_neg (by decide), if_neg (by decide), if_neg (by decide)]
    rfl
  · rw [if_neg (by decide), if_neg (by decide), if_neg (by decide), if_neg (by decide), if_neg (by decide), if_neg (by decide), if_neg (by decide), if_neg (by decide), if_neg (by decide), if_neg (by decide), if_neg (by decide)]
    rfl
  · rw [if_neg (by decide), if_neg (by decide), if_neg (by decide), if_neg (by decide), if_neg (by decide), if_neg (by decide), if_neg (by decide), if_neg (by decide), if_neg (by decide), if_neg (by decide), if_neg (by decide)]
    rfl
  · rw [if_neg (by decide), if_neg (by decide), if_neg (by decide), if_neg (by decide), if_neg (by decide), if_neg (by decide), if_neg (by decide), if_neg (by decide), if_neg (by decide), if_neg (by decide), if_neg (by decide)]
    rfl
  · rw [if_neg (by decide), if_neg (by decide), if_neg (by decide), if_neg (by decide), if_neg (by decide), if_neg (by decide), if_neg (by decide), if_neg (by decide), if_neg (by decide), if_neg (by decide), if_neg (by decide)]
    rfl
  · rw [if_neg (by decide), if_neg (by decide), if_neg (by decide), if_neg (by decide), if_neg (by decide), if_neg (by decide), if_neg (by decide), if_neg (by decide), if_neg (by decide), if_neg (by decide), if_neg (by decide)]
    rfl
  · rw [if_neg (by decide), if_neg (by decide), if_neg (by decide), if_neg (by decide), if_neg (by decide), if_neg (by decide), if_neg (by decide), if_neg (by decide), if_neg (by decide), if_neg (by decide), if_neg (by decide)]
    rfl
  · rw [if_neg (by decide), if_neg (by decide), if_neg (by decide), if_neg (by decide), if_neg (by decide), if_neg (by decide), if_neg (by decide), if_neg (by decide), if_neg (by decide), if_neg (by decide), if_neg (by decide)]
    rfl
  · rw [if_neg (by decide), if_neg (by decide), if_neg (by decide), if_neg (by decide), if_neg (by decide), if_neg (by decide), if_neg (by decide), if_neg (by decide), if_neg (by decide), if_neg (by decide), if_neg (by decide)]
    rfl
  · rw [if_neg (by decide), if_neg (by decide), if_neg (by decide), if_neg (by decide), if_neg (by decide), if_neg (by decide), if_neg (by decide), if_neg (by decide), if_neg (by decide), if_neg (by decide), if_neg (by decide)]
    rfl
  · rw [if_neg (by decide), if_neg (by decide), if_neg (by decide), if_neg (by decide), if_neg (by decide), if_neg (by decide), if_neg (by decide), if_neg (by decide), if_neg (by decide), if_neg (by decide), if_neg (by decide)]
    rfl
  · rw [if_neg (by decide), if_neg (by decide), if_neg (by decide), if_neg (by decide), if_neg (by decide), if_neg (by decide), if_neg (by decide), if_neg (by decide), if_neg (by decide), if_neg (by decide), if_neg (by decide)]
    rfl
  · rw [if_neg (by decide), if_neg (by decide), if_neg (by decide), if_neg (by decide), if_neg (by decide), if_neg (by decide), if_neg (by decide), if_neg (by decide), if_neg (by decide), if_neg (by decide), if_neg (by decide)]
    rfl
  · rw [if_neg (by decide), if_neg (by decide), if_neg (by decide), if_neg (by decide), if_neg (by decide), if_neg (by decide), if_neg (by decide), if_neg (by decide), if_neg (by decide), if_neg (by decide), if_neg (by decide)]
    rfl
  · exact absurd hs (by decide)
  · exact absurd hs (by decide)
  · exact absurd hs (by decide)
  · exact absurd hs (by decide)
  · exact absurd hs (by decide)
  · exact absurd hs (by decide)
  · exact absurd hs (by decide)
  · rw [if_neg (by decide), if_neg (by decide), if_neg (by decide), if_neg (by decide), if_neg (by decide), if_neg (by decide), if_neg (by decide), if_pos (by decide)]
    rfl
  · exact absurd hs (by decide)
  · rw [if_neg (by decide), if_neg (by decide), if_neg (by decide), if_neg (by decide), if_neg (by decide), if_neg (by decide), if_neg (by decide), if_neg (by decide), if_neg (by decide), if_pos (by decide)]
    rfl
  · exact absurd hs (by decide)
theorem stW_v {j : Int} (j0 : -1 ≤ j) (j1 : j < 26) : stW j = -1 ∨ (j = 15 ∧ stW j = 0) ∨ (j = 16 ∧ stW j = 1) ∨ (j = 17 ∧ stW j = 2) ∨ (j = 18 ∧ stW j = 3) ∨ (j = 19 ∧ stW j = 4) ∨ (j = 20 ∧ stW j = 5) ∨ (j = 21 ∧ stW j = 6) ∨ (j = 23 ∧ stW j = 7) ∨ (j = 25 ∧ stW j = 8) := by
  have hj2 : j = -1 ∨ j = 0 ∨ j = 1 ∨ j = 2 ∨ j = 3 ∨ j = 4 ∨ j = 5 ∨ j = 6 ∨ j = 7 ∨ j = 8 ∨ j = 9 ∨ j = 10 ∨ j = 11 ∨ j = 12 ∨ j = 13 ∨ j = 14 ∨ j = 15 ∨ j = 16 ∨ j = 17 ∨ j = 18 ∨ j = 19 ∨ j = 20 ∨ j = 21 ∨ j = 22 ∨ j = 23 ∨ j = 24 ∨ j = 25 := by omega
  rcases hj2 with rfl | rfl | rfl | rfl | rfl | rfl | rfl | rfl | rfl | rfl | rfl | rfl | rfl | rfl | rfl | rfl | rfl | rfl | rfl | rfl | rfl | rfl | rfl | rfl | rfl | rfl | rfl <;> decide
/-- a step that may begin: its head, both -/
theorem hd_any {T : Int → Int} {E s k jj v : Int} {M X : KM} {P L n m : Nat} {d e j : Int} {b : Int → Int} (hE : 0 ≤ E ∧ E ≤ 900) (hP : 11 < P) (hL : 23 ≤ L) (hPL : P + 6 ≤ L ∨ L + 8 ≤ P) (g : GD T E 8 s k jj v M X) (hD : DS P L d e j b M X) (he : e < 30) (hq : 0 ≤ stW jj) (hd : blk (stW jj) = 1 → d < 3) (hn : 1000 < n) (hm : 1000 < m) :
    HR T E P L d e j b s M X (blk (stW jj)) (f_X0_readStep n 8 P L M) (sgB m (zI (stW jj)) X) := by
  have s7 := (SG_s g.2.1).2.2.2.2.1
  have sj := SG_j g.2.1
  rcases stW_v sj.1 sj.2 with h | ⟨h, h2⟩ | ⟨h, h2⟩ | ⟨h, h2⟩ | ⟨h, h2⟩ | ⟨h, h2⟩ | ⟨h, h2⟩ | ⟨h, h2⟩ | ⟨h, h2⟩ | ⟨h, h2⟩
  · omega
  · have hk : ¬ k = 0 := by have := (SG_s g.2.1).2.2.2.2.2.2.2.2.2.2 (by omega); omega
    rw [h2] at hd ⊢
    rw [h] at s7
    rw [c_step15 s7]
    exact hd_wait hE hP hL hPL g hk hD he hn hm
  · have hk : ¬ k = 0 := by have := (SG_s g.2.1).2.2.2.2.2.2.2.2.2.2 (by omega); omega
    rw [h2] at hd ⊢
    rw [h] at s7
    rw [c_step16 s7]
    exact hd_go hE hP hL hPL g hk hD he hn hm
  · have hk : ¬ k = 0 := by have := (SG_s g.2.1).2.2.2.2.2.2.2.2.2.2 (by omega); omega
    rw [h2] at hd ⊢
    rw [h] at s7
    rw [c_step17 s7]
    exact hd_lead hE hP hL hPL g hk hD he hn hm
  · have hk : ¬ k = 0 := by have := (SG_s g.2.1).2.2.2.2.2.2.2.2.2.2 (by omega); omega
    rw [h2] at hd ⊢
    rw [h] at s7
    rw [c_step18 s7]
    exact hd_word (q := 3) (c := 3) hE hP hL hPL g hk hD he (by omega) hn hm
  · have hk : ¬ k = 0 := by have := (SG_s g.2.1).2.2.2.2.2.2.2.2.2.2 (by omega); omega
    rw [h2] at hd ⊢
    rw [h] at s7
    rw [c_step19 s7]
    exact hd_word (q := 4) (c := 4) hE hP hL hPL g hk hD he (by omega) hn hm
  · have hk : ¬ k = 0 := by have := (SG_s g.2.1).2.2.2.2.2.2.2.2.2.2 (by omega); omega
    rw [h2] at hd ⊢
    rw [h] at s7
    rw [c_step20 s7]
    exact hd_word (q := 5) (c := 5) hE hP hL hPL g hk hD he (by omega) hn hm
  · have hk : ¬ k = 0 := by have := (SG_s g.2.1).2.2.2.2.2.2.2.2.2.2 (by omega); omega
    rw [h2] at hd ⊢
    rw [h] at s7
    rw [c_step21 s7]
    exact hd_when hE hP hL hPL g hk hD he (hd (by decide)) hn hm
  · have hk : ¬ k = 0 := by have := (SG_s g.2.1).2.2.2.2.2.2.2.2.2.2 (by omega); omega
    rw [h2] at hd ⊢
    rw [h] at s7
    rw [c_step23 s7]
    exact hd_loop hE hP hL hPL g hk hD he (hd (by decide)) hn hm
  · have hk : ¬ k = 0 := by have := (SG_s g.2.1).2.2.2.2.2.2.2.2.2.2 (by omega); omega
    rw [h2] at hd ⊢
    rw [h] at s7
    rw [c_step25 s7]
    exact hd_word (q := 8) (c := 11) hE hP hL hPL g hk hD he (by omega) hn hm
/-- a step that may not begin -/
theorem c_full {P L n : Nat} {M M' : KM} {j : Int} (h : M.1 8 7 = zI j) (j0 : -1 ≤ j) (j1 : j < 26) (hs : 0 ≤ stW j) (h6 : M.1 P 6 = zI 30) (hf : f_X9_fail 8 (zI 6) M = (zI 0, M')) : f_X0_readStep n 8 P L M = some (zI 0, M') := by
  have e1 : f_X0_start n 8 P M = some (zI 0, M') := by
    unfold f_X0_start
    simp (disch := first | omega | assumption) only [↓lt, ↓reduceIte, zl, h6, zltF, if_false, hf]
  have e2 : f_X0_startBlock n 8 P M = some (zI 0, M') := by
    unfold f_X0_startBlock
    simp (disch := first | omega | assumption) only [↓lt, ↓reduceIte, zl, h6, zleT, if_true, e1, Option.bind_some, zeqT]
  rcases stW_v j0 j1 with q | ⟨q, -⟩ | ⟨q, -⟩ | ⟨q, -⟩ | ⟨q, -⟩ | ⟨q, -⟩ | ⟨q, -⟩ | ⟨q, -⟩ | ⟨q, -⟩ | ⟨q, -⟩
  · omega
  · rw [q] at h; rw [c_step15 h]; exact sq_0 e1
  · rw [q] at h; rw [c_step16 h]; exact sq_0 e1
  · rw [q] at h; rw [c_step17 h]; exact sq_0 e1
  · rw [q] at h; rw [c_step18 h]; exact sq_0 e1
  · rw [q] at h; rw [c_step19 h]; exact sq_0 e1
  · rw [q] at h; rw [c_step20 h]; exact sq_0 e1
  · rw [q] at h; rw [c_step21 h]; exact sq_0 e2
  · rw [q] at h; rw [c_step23 h]; exact sq_0 e2
  · rw [q] at h; rw [c_step25 h]; exact sq_0 e1
theorem c_deep {P L n : Nat} {M M' : KM} {j e : Int} (h : M.1 8 7 = zI j) (j0 : -1 ≤ j) (j1 : j < 26) (hs : blk (stW j) = 1) (h6 : M.1 P 6 = zI e) (e0 : 0 ≤ e) (e30 : e < 30) (h13 : M.1 8 13 = zI 3) (hf : f_X9_fail 8 (zI 7) M = (zI 0, M')) : f_X0_readStep n 8 P L M = some (zI 0, M') := by
  have e2 : f_X0_startBlock n 8 P M = some (zI 0, M') := by
    unfold f_X0_startBlock
    simp (disch := first | omega | assumption) only [↓lt, ↓reduceIte, zl, h6, h13, zleF, zltF, if_false, hf]
  rcases stW_v j0 j1 with q | ⟨q, q2⟩ | ⟨q, q2⟩ | ⟨q, q2⟩ | ⟨q, q2⟩ | ⟨q, q2⟩ | ⟨q, q2⟩ | ⟨q, q2⟩ | ⟨q, q2⟩ | ⟨q, q2⟩
  · rw [q] at hs; exact absurd hs (by decide)
  · rw [q2] at hs; exact absurd hs (by decide)
  · rw [q2] at hs; exact absurd hs (by decide)
  · rw [q2] at hs; exact absurd hs (by decide)
  · rw [q2] at hs; exact absurd hs (by decide)
  · rw [q2] at hs; exact absurd hs (by decide)
  · rw [q2] at hs; exact absurd hs (by decide)
  · rw [q] at h; rw [c_step21 h]; exact sq_0 e2
  · rw [q] at h; rw [c_step23 h]; exact sq_0 e2
  · rw [q2] at hs; exact absurd hs (by decide)
