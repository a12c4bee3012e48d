/-! ===== clouds: both alike ===== -/

def odS (o : Int) (N : Nat) : Nat → Int → Int → Int := fI (fun i v => v + od o N i.toNat)
theorem c_cloudL {b : Int → Int} {N o : Int} {L : Nat} {M : KM} {κ : Int64 → Option (Int32 × KM)} (h0 : M.2.2 0 10 = L) (h14 : M.1 L 14 = zI o) (o1 : 0 ≤ o) (o2 : o ≤ 16) (hN : 0 ≤ N ∧ N ≤ 12) : ∀ (k : Nat) (i v : Int) (n : Nat), 0 ≤ i → i + k = N + 1 → 60 + k < n → lp_X11_clouds_31 n 0 (zI N) M (lI v) (zI i) κ = κ (lI (odS o N.toNat k i v)) := by
  intro k
  induction k with
  | zero =>
    intro i v n h1 h2 h3
    obtain ⟨m, rfl⟩ : ∃ m, n = m + 1 := ⟨n - 1, by omega⟩
    rw [lp_X11_clouds_31]
    simp (disch := first | omega | assumption) only [↓lt, Option.bind_some, zl, ll, zadd, zsub, zmul, zneg, ladd, lsub, lmul, lneg, zltT, zltF, zleT, zleF, zeqT, zeqF, zidx, ixT, zwide, bIT, bIF, if_true, if_false, ↓reduceIte, Nat.reduceAdd, Int.reduceAdd, Int.reduceMul, Int.reduceSub, Int.reduceNeg, cs_c, cs_o, cs_2, cu_c, cu_o, Int.cast_ofNat_Int, ps_f, ps_g, ps_w, ps_o, ps_2, pu_f, pu_g, pu_w, pu_o, uI_s, uI_o, uI_j, uI_j1, uI_j2, uI_tw, or0, true_or, or_true, false_or, or_false, nar0, nar1]
    rfl
  | succ k ih =>
    intro i v n h1 h2 h3
    obtain ⟨m, rfl⟩ : ∃ m, n = m + 1 := ⟨n - 1, by omega⟩
    have cf := ch_cc ⟨N.toNat, by omega⟩ ⟨i.toNat, by omega⟩ (by show i.toNat ≤ N.toNat; omega)
    simp only [Int.toNat_of_nonneg hN.1, Int.toNat_of_nonneg h1] at cf
    have e1 := c_choices (M := M) hN (show 0 ≤ i ∧ i ≤ 12 by omega) i.toNat 1 1 m (by omega) (by omega) cf.1 (by omega)
    rw [cf.2] at e1
    have e2 := c_power (x := o) (M := M) (by omega) (by omega) i.toNat 0 i 1 m (by omega) (by omega) (by omega) (by omega)
    have e3 := c_power (x := 16 - o) (M := M) (by omega) (by omega) (N - i).toNat 0 (N - i) 1 m (by omega) (by omega) (by omega) (by omega)
    have e4 : odS o N.toNat (k + 1) i v = odS o N.toNat k (i + 1) (v + cc N.toNat i.toNat * (1 * o ^ i.toNat) * (1 * (16 - o) ^ (N - i).toNat)) := by
      show odS o N.toNat k (i + 1) (v + od o N.toNat i.toNat) = _
      unfold od
      rw [if_pos (by omega), Int.one_mul, Int.one_mul, show (N - i).toNat = N.toNat - i.toNat by omega]
    have ih2 := ih (i + 1) (v + cc N.toNat i.toNat * (1 * o ^ i.toNat) * (1 * (16 - o) ^ (N - i).toNat)) m (by omega) (by omega) (by omega)
    rw [e4, ← ih2, lp_X11_clouds_31]
    unfold f_X11_choices f_X11_power
    clear ih ih2 e4 cf
    simp (disch := first | omega | assumption) only [↓lt, zl, ll, zadd, zsub, zltF, if_false, Option.bind_some, h0, h14, e1, e2, e3, lmul, ladd]
def jc (M : KM) (W : Int → Int) : KM := (M.1, (fun c k => if c = 242 ∧ k < 13 then lI (W k) else M.2.1 c k), M.2.2)
theorem jc_s {M : KM} {W : Int → Int} {z : Int} (h : 0 ≤ z) (h2 : z < 13) : (jc M W).2.1 242 z.toNat = lI (W z) := by
  show (if 242 = 242 ∧ z.toNat < 13 then _ else _) = _
  rw [if_pos ⟨rfl, by omega⟩, Int.toNat_of_nonneg h]
theorem jc_o {M : KM} {c k : Nat} {W : Int → Int} (h : ¬ c = 242) : (jc M W).2.1 c k = M.2.1 c k := if_neg (fun z => h z.1)
theorem jc_1 {M : KM} {W : Int → Int} : (jc M W).1 = M.1 := rfl
theorem jc_22 {M : KM} {W : Int → Int} : (jc M W).2.2 = M.2.2 := rfl
theorem jc_c {M : KM} {T U : Int → Int} (h : ∀ j, 0 ≤ j → j < 13 → T j = U j) : jc M T = jc M U := by
  refine Prod.ext rfl (Prod.ext ?_ rfl)
  funext c k
  show (if c = 242 ∧ k < 13 then _ else _) = (if c = 242 ∧ k < 13 then _ else _)
  by_cases e : c = 242 ∧ k < 13
  · rw [if_pos e, if_pos e, h _ (by omega) (by omega)]
  · rw [if_neg e, if_neg e]
theorem jc_ex (M : KM) : M = jc M (fun z => (M.2.1 242 z.toNat).toInt) := by
  refine Prod.ext rfl (Prod.ext ?_ rfl)
  funext c k
  show _ = (if c = 242 ∧ k < 13 then _ else _)
  by_cases e : c = 242 ∧ k < 13
  · rw [if_pos e, e.1]
    show M.2.1 242 k = lI ((M.2.1 242 ((k : Int)).toNat).toInt)
    rw [Int.toNat_natCast, ← l_of]
  · rw [if_neg e]
theorem jc_u {M : KM} {W : Int → Int} {z v : Int} (h : 0 ≤ z) (h2 : z < 13) : uJ (jc M W) 242 z.toNat (lI v) = jc M (bu W z v) := by
  refine Prod.ext rfl (Prod.ext ?_ rfl)
  funext c k
  by_cases e : c = 242
  · subst e
    by_cases e2 : k = z.toNat
    · subst e2
      rw [uJ_s, jc_s h h2, bu_s]
    · rw [uJ_o (fun z => e2 z.2)]
      show (if 242 = 242 ∧ k < 13 then _ else _) = (if 242 = 242 ∧ k < 13 then _ else _)
      by_cases e3 : k < 13
      · rw [if_pos ⟨rfl, e3⟩, if_pos ⟨rfl, e3⟩, bu_o (by omega)]
      · rw [if_neg (fun z => e3 z.2), if_neg (fun z => e3 z.2)]
  · rw [uJ_o (fun z => e z.1), jc_o e, jc_o e]
def dn (o : Int) : Nat → (Int → Int) → Int → Int
  | 0, W => W
  | k + 1, W => dn o k (bu W ((k : Int) + 1) (W ((k : Int) + 1) * (16 - o) + W k * o))
theorem dn_v {o : Int} : ∀ (k : Nat) (W : Int → Int) (j : Int), dn o k W j = if 1 ≤ j ∧ j ≤ k then W j * (16 - o) + W (j - 1) * o else W j := by
  intro k
  induction k with
  | zero => intro W j; rw [if_neg (by omega)]; rfl
  | succ k ih =>
    intro W j
    show dn o k (bu W ((k : Int) + 1) (W ((k : Int) + 1) * (16 - o) + W k * o)) j = _
    rw [ih]
    by_cases e : j = (k : Int) + 1
    · rw [if_neg (by omega), if_pos (by omega), e, bu_s, show (k : Int) + 1 - 1 = k by omega]
    · by_cases w : 1 ≤ j ∧ j ≤ k
      · rw [if_pos w, if_pos (by omega), bu_o (by omega), bu_o (by omega)]
      · rw [if_neg w, if_neg (by omega), bu_o e]
theorem m_cloud88 {b : Int → Int} {c1 c2 : Int32} {c3 : Int64} {c5 : Int32} {X : KM} {κ : KM → Option (Int32 × KM)} (o1 : 0 ≤ b 8) (o2 : b 8 ≤ 16) : ∀ (k : Nat) (W : Int → Int) (n : Nat), k ≤ 12 → k < n → lp_X12_clouds_88 n 227 c1 c2 c3 c5 (zI k) (cs (jc X W) b) κ = κ (cs (jc X (dn (b 8) k W)) b) := by
  intro k
  induction k with
  | zero =>
    intro W n h1 h2
    obtain ⟨m, rfl⟩ : ∃ m, n = m + 1 := ⟨n - 1, by omega⟩
    rw [lp_X12_clouds_88]
    show (if zI 0 ≤ 0 then _ else _) = _
    rw [if_pos (by decide)]
    rfl
  | succ k ih =>
    intro W n h1 h2
    obtain ⟨m, rfl⟩ : ∃ m, n = m + 1 := ⟨n - 1, by omega⟩
    have e := ih (bu W ((k : Int) + 1) (W ((k : Int) + 1) * (16 - b 8) + W k * b 8)) m (by omega) (by omega)
    show _ = κ (cs (jc X (dn (b 8) k (bu W ((k : Int) + 1) (W ((k : Int) + 1) * (16 - b 8) + W k * b 8)))) b)
    rw [← e, lp_X12_clouds_88, show ((k + 1 : Nat) : Int) = (k : Int) + 1 by omega]
    generalize hK : (k : Int) = K at *
    have er : K + 1 + -1 = K := by omega
    have er2 : K + 1 - 1 = K := by omega
    simp (disch := first | omega | assumption) only [↓lt, Option.bind_some, zl, ll, zadd, zsub, zmul, zneg, ladd, lsub, lmul, lneg, zltT, zltF, zleT, zleF, zeqT, zeqF, zidx, ixT, zwide, bIT, bIF, if_true, if_false, ↓reduceIte, Nat.reduceAdd, Int.reduceAdd, Int.reduceMul, Int.reduceSub, Int.reduceNeg, cs_c, cs_o, cs_2, cu_c, cu_o, Int.cast_ofNat_Int, ps_f, ps_g, ps_w, ps_o, ps_2, pu_f, pu_g, pu_w, pu_o, uI_s, uI_o, uI_j, uI_j1, uI_j2, uI_tw, or0, true_or, or_true, false_or, or_false, nar0, nar1, jc_s, jc_u, jc_1, jc_22, uJ_cs, cs_2, er, er2]
theorem m_cloud78 {b : Int → Int} {N : Int} {c2 : Int32} {X : KM} {κ : Int64 → KM → Option (Int32 × KM)} (o1 : 0 ≤ b 8) (o2 : b 8 ≤ 16) (hN : N ≤ 12) : ∀ (k : Nat) (i : Int) (n : Nat), 0 ≤ i → i + k = N → 40 + k < n → lp_X12_clouds_78 n 227 (zI N) c2 (lI (16 ^ i.toNat)) (zI i) (cs (jc X (fun j => od (b 8) i.toNat j.toNat)) b) κ = κ (lI (16 ^ N.toNat)) (cs (jc X (fun j => od (b 8) N.toNat j.toNat)) b) := by
  intro k
  induction k with
  | zero =>
    intro i n h1 h2 h3
    obtain ⟨m, rfl⟩ : ∃ m, n = m + 1 := ⟨n - 1, by omega⟩
    have : i = N := by omega
    subst this
    rw [lp_X12_clouds_78]
    simp (disch := first | omega | assumption) only [↓lt, Option.bind_some, zl, ll, zadd, zsub, zmul, zneg, ladd, lsub, lmul, lneg, zltT, zltF, zleT, zleF, zeqT, zeqF, zidx, ixT, zwide, bIT, bIF, if_true, if_false, ↓reduceIte, Nat.reduceAdd, Int.reduceAdd, Int.reduceMul, Int.reduceSub, Int.reduceNeg, cs_c, cs_o, cs_2, cu_c, cu_o, Int.cast_ofNat_Int, ps_f, ps_g, ps_w, ps_o, ps_2, pu_f, pu_g, pu_w, pu_o, uI_s, uI_o, uI_j, uI_j1, uI_j2, uI_tw, or0, true_or, or_true, false_or, or_false, nar0, nar1]
  | succ k ih =>
    intro i n h1 h2 h3
    obtain ⟨m, rfl⟩ : ∃ m, n = m + 1 := ⟨n - 1, by omega⟩
    have ih2 := ih (i + 1) m (by omega) (by omega) (by omega)
    have e := fun κ => m_cloud88 (c1 := zI N) (c2 := c2) (c3 := lI (16 ^ i.toNat)) (c5 := zI i) (X := X) (κ := κ) o1 o2 12 (fun j => od (b 8) i.toNat j.toNat) m (by omega) (by omega)
    have et : (i + 1).toNat = i.toNat + 1 := by omega
    have eD : jc X (bu (dn (b 8) 12 (fun j => od (b 8) i.toNat j.toNat)) 0 (dn (b 8) 12 (fun j => od (b 8) i.toNat j.toNat) 0 * (16 - b 8))) = jc X (fun j => od (b 8) (i + 1).toNat j.toNat) := jc_c (fun j j1 j2 => by
      rw [et]
      by_cases w : j = 0
      · rw [w, bu_s, dn_v, if_neg (by omega)]
        exact od_0.symm
      · rw [bu_o w, dn_v, if_pos (by omega), show j.toNat = (j - 1).toNat + 1 by omega]
        exact od_s.symm)
    rw [← ih2, ← eD, et, Int.pow_succ, lp_X12_clouds_78]
    have e : ∀ κ, lp_X12_clouds_88 m 227 (zI N) c2 (lI (16 ^ i.toNat)) (zI i) (zI 12) (cs (jc X (fun j => od (b 8) i.toNat j.toNat)) b) κ = κ (cs (jc X (dn (b 8) 12 (fun j => od (b 8) i.toNat j.toNat))) b) := e
    generalize dn (b 8) 12 (fun j => od (b 8) i.toNat j.toNat) = D at *
    clear ih ih2 eD et
    simp (disch := first | omega | assumption) only [↓lt, Option.bind_some, zl, ll, zadd, zsub, zmul, zneg, ladd, lsub, lmul, lneg, zltT, zltF, zleT, zleF, zeqT, zeqF, zidx, ixT, zwide, bIT, bIF, if_true, if_false, ↓reduceIte, Nat.reduceAdd, Int.reduceAdd, Int.reduceMul, Int.reduceSub, Int.reduceNeg, cs_c, cs_o, cs_2, cu_c, cu_o, Int.cast_ofNat_Int, ps_f, ps_g, ps_w, ps_o, ps_2, pu_f, pu_g, pu_w, pu_o, uI_s, uI_o, uI_j, uI_j1, uI_j2, uI_tw, or0, true_or, or_true, false_or, or_false, nar0, nar1, jc_s, jc_u, jc_1, jc_22, uJ_cs, cs_2, e]
theorem m_cloud182 {b W : Int → Int} {c3 : Int64} {X : KM} {κ : Int64 → Option (Int32 × KM)} : ∀ (k : Nat) (i v : Int) (n : Nat), 0 ≤ i → i + k = 13 → k < n → lp_X12_clouds_182 n 227 c3 (cs (jc X W) b) (lI v) (zI i) κ = κ (lI (fI (fun i v => v + W i) k i v)) := by
  intro k
  induction k with
  | zero =>
    intro i v n h1 h2 h3
    obtain ⟨m, rfl⟩ : ∃ m, n = m + 1 := ⟨n - 1, by omega⟩
    rw [lp_X12_clouds_182]
    simp (disch := first | omega | assumption) only [↓lt, Option.bind_some, zl, ll, zadd, zsub, zmul, zneg, ladd, lsub, lmul, lneg, zltT, zltF, zleT, zleF, zeqT, zeqF, zidx, ixT, zwide, bIT, bIF, if_true, if_false, ↓reduceIte, Nat.reduceAdd, Int.reduceAdd, Int.reduceMul, Int.reduceSub, Int.reduceNeg, cs_c, cs_o, cs_2, cu_c, cu_o, Int.cast_ofNat_Int, ps_f, ps_g, ps_w, ps_o, ps_2, pu_f, pu_g, pu_w, pu_o, uI_s, uI_o, uI_j, uI_j1, uI_j2, uI_tw, or0, true_or, or_true, false_or, or_false, nar0, nar1]
    rfl
  | succ k ih =>
    intro i v n h1 h2 h3
    obtain ⟨m, rfl⟩ : ∃ m, n = m + 1 := ⟨n - 1, by omega⟩
    have ih2 := ih (i + 1) (v + W i) m (by omega) (by omega) (by omega)
    show _ = κ (lI (fI (fun i v => v + W i) k (i + 1) (v + W i)))
    rw [← ih2, lp_X12_clouds_182]
    simp (disch := first | omega | assumption) only [↓lt, Option.bind_some, zl, ll, zadd, zsub, zmul, zneg, ladd, lsub, lmul, lneg, zltT, zltF, zleT, zleF, zeqT, zeqF, zidx, ixT, zwide, bIT, bIF, if_true, if_false, ↓reduceIte, Nat.reduceAdd, Int.reduceAdd, Int.reduceMul, Int.reduceSub, Int.reduceNeg, cs_c, cs_o, cs_2, cu_c, cu_o, Int.cast_ofNat_Int, ps_f, ps_g, ps_w, ps_o, ps_2, pu_f, pu_g, pu_w, pu_o, uI_s, uI_o, uI_j, uI_j1, uI_j2, uI_tw, or0, true_or, or_true, false_or, or_false, nar0, nar1, jc_s, jc_u, jc_1, jc_22, uJ_cs, cs_2]
theorem odS_z {o : Int} {N : Nat} : ∀ (k : Nat) (i v : Int), (N : Int) < i → odS o N k i v = v := by
  intro k
  induction k with
  | zero => intro i v _; rfl
  | succ k ih =>
    intro i v h
    show odS o N k (i + 1) (v + od o N i.toNat) = v
    have : od o N i.toNat = 0 := if_neg (by omega)
    rw [this, Int.add_zero]
    exact ih (i + 1) v (by omega)
theorem odS_r {o : Int} {N : Nat} (h1 : 0 ≤ o) (h2 : o ≤ 16) : ∀ (k : Nat) (i v : Int), v ≤ odS o N k i v ∧ odS o N k i v ≤ v + k * 16 ^ N := by
  intro k
  induction k with
  | zero => intro i v; show v ≤ v ∧ v ≤ v + 0 * 16 ^ N; omega
  | succ k ih =>
    intro i v
    have a := ih (i + 1) (v + od o N i.toNat)
    have c := od_r h1 h2 N i.toNat
    show v ≤ odS o N k (i + 1) (v + od o N i.toNat) ∧ odS o N k (i + 1) (v + od o N i.toNat) ≤ v + ((k + 1 : Nat) : Int) * 16 ^ N
    rw [show ((k + 1 : Nat) : Int) = (k : Int) + 1 by omega, Int.add_mul, Int.one_mul]
    omega
theorem p16 : ∀ N : Fin 13, 1 ≤ (16 : Int) ^ N.val ∧ (16 : Int) ^ N.val ≤ 281474976710656 := by decide
theorem k_clouds (p q : Int32) (n : Nat) (hn : 400 ≤ n) : OKm (f_X11_clouds n 0 p q) (f_X12_clouds n 227 p q) := by
  obtain ⟨N, hN1, hN2, rfl⟩ := z_ex p
  obtain ⟨K, hK1, hK2, rfl⟩ := z_ex q
  refine ok_fr (fun M L g b hO => ?_)
  have hO2 := hO
  obtain ⟨hP, hL, hg, hb, hm, hC⟩ := hO; have hp0 : M.2.2 0 10 = L := hP.1; have hl := Ptr_L hP; have hM := (HL_cs hl.2).mp hL; have hh := hb.1; unfold WH at hh
  have ho : 0 ≤ b 8 ∧ b 8 ≤ 16 := by omega
  clear hC hh
  by_cases w : 0 ≤ N ∧ N ≤ 12
  · by_cases v : 0 ≤ K ∧ K ≤ 12
    · refine Or.inr ?_
      have q8 : (ps (cs M b) L g).1 L 14 = zI (b 8) := by
        rw [ps_o (by omega)]
        exact hL.2.2.2.2.2.2.1
      have q8' : ∀ v4 : Int32, True := fun _ => trivial
      have ea : (ps (cs M b) L g).2.2 0 10 = L := hp0
      have pw := p16 ⟨N.toNat, by omega⟩
      have pw : 1 ≤ (16 : Int) ^ N.toNat ∧ (16 : Int) ^ N.toNat ≤ 281474976710656 := pw
      have sr := odS_r (N := N.toNat) ho.1 ho.2 (13 - K).toNat K 0
      have s0 : odS (b 8) N.toNat (N + 1 - K).toNat K 0 = odS (b 8) N.toNat (13 - K).toNat K 0 := by
        by_cases y : K ≤ N
        · have e := fI_sp (f := fun i v => v + od (b 8) N.toNat i.toNat) (N + 1 - K).toNat (12 - N).toNat K 0
          rw [show (N + 1 - K).toNat + (12 - N).toNat = (13 - K).toNat by omega] at e
          refine Eq.symm (e.trans ?_)
          exact odS_z (12 - N).toNat _ _ (by omega)
        · rw [odS_z _ _ _ (by omega), odS_z _ _ _ (by omega)]
      have e1 : ∀ κ, lp_X11_clouds_31 n 0 (zI N) (ps (cs M b) L g) (lI 0) (zI K) κ = κ (lI (odS (b 8) N.toNat (13 - K).toNat K 0)) := fun κ => by
        rw [← s0]
        by_cases y : K ≤ N + 1
        · exact c_cloudL (b := b) ea q8 ho.1 ho.2 w (N + 1 - K).toNat K 0 n v.1 (by omega) (by omega)
        · obtain ⟨m, rfl⟩ : ∃ m, n = m + 1 := ⟨n - 1, by omega⟩
          rw [odS_z _ _ _ (by omega), lp_X11_clouds_31]
          simp (disch := first | omega | assumption) only [↓lt, Option.bind_some, zl, ll, zadd, zsub, zmul, zneg, ladd, lsub, lmul, lneg, zltT, zltF, zleT, zleF, zeqT, zeqF, zidx, ixT, zwide, bIT, bIF, if_true, if_false, ↓reduceIte, Nat.reduceAdd, Int.reduceAdd, Int.reduceMul, Int.reduceSub, Int.reduceNeg, cs_c, cs_o, cs_2, cu_c, cu_o, Int.cast_ofNat_Int, ps_f, ps_g, ps_w, ps_o, ps_2, pu_f, pu_g, pu_w, pu_o, uI_s, uI_o, uI_j, uI_j1, uI_j2, uI_tw, or0, true_or, or_true, false_or, or_false, nar0, nar1]
      have e2 := c_power (x := 16) (M := ps (cs M b) L g) (by decide) (by decide) N.toNat 0 N 1 n (by omega) (by omega) (by omega) (by omega)
      rw [Int.one_mul] at e2
      have k1 : ((13 - K).toNat : Int) ≤ 13 := by omega
      have k2 : ((13 - K).toNat : Int) * 16 ^ N.toNat ≤ 13 * 16 ^ N.toNat := Int.mul_le_mul_of_nonneg_right k1 (by omega)
      have m3 := fun X κ => m_cloud182 (b := b) (W := fun j => od (b 8) N.toNat j.toNat) (c3 := lI (16 ^ N.toNat)) (X := X) (κ := κ) (13 - K).toNat K 0 n v.1 (by omega) (by omega)
      have m3 : ∀ X κ, lp_X12_clouds_182 n 227 (lI (16 ^ N.toNat)) (cs (jc X fun j => od (b 8) N.toNat j.toNat) b) (lI 0) (zI K) κ = κ (lI (odS (b 8) N.toNat (13 - K).toNat K 0)) := m3
      have m2 := fun X κ => m_cloud78 (b := b) (N := N) (c2 := zI K) (X := X) (κ := κ) ho.1 ho.2 w.2 N.toNat 0 n (by omega) (by omega) (by omega)
      have m2 : ∀ X κ, lp_X12_clouds_78 n 227 (zI N) (zI K) (lI 1) (zI 0) (cs (jc X (fun j => od (b 8) 0 j.toNat)) b) κ = κ (lI (16 ^ N.toNat)) (cs (jc X (fun j => od (b 8) N.toNat j.toNat)) b) := m2
      have m1 := fun X κ => (loop_f (lp := fun k r T => lp_X12_clouds_45 k 227 (zI N) (zI K) (lI 1) r (cs (jc X T) b) κ) (f := fun i T => bu T i (if i = 0 then 1 else 0)) (fin := fun T => κ (cs (jc X T) b)) (fun _ _ => True) (N := 1) (R := 13) (fun k r T hk u v _ => ⟨by
        rw [lp_X12_clouds_45]
        by_cases y : r = 0
        · simp only [if_pos y]
          simp (disch := first | omega | assumption) only [↓lt, Option.bind_some, zl, ll, zadd, zsub, zmul, zneg, ladd, lsub, lmul, lneg, zltT, zltF, zleT, zleF, zeqT, zeqF, zidx, ixT, zwide, bIT, bIF, if_true, if_false, ↓reduceIte, Nat.reduceAdd, Int.reduceAdd, Int.reduceMul, Int.reduceSub, Int.reduceNeg, cs_c, cs_o, cs_2, cu_c, cu_o, Int.cast_ofNat_Int, ps_f, ps_g, ps_w, ps_o, ps_2, pu_f, pu_g, pu_w, pu_o, uI_s, uI_o, uI_j, uI_j1, uI_j2, uI_tw, or0, true_or, or_true, false_or, or_false, nar0, nar1, jc_s, jc_u, jc_1, jc_22, uJ_cs, cs_2]
        · simp only [if_neg y]
          simp (disch := first | omega | assumption) only [↓lt, Option.bind_some, zl, ll, zadd, zsub, zmul, zneg, ladd, lsub, lmul, lneg, zltT, zltF, zleT, zleF, zeqT, zeqF, zidx, ixT, zwide, bIT, bIF, if_true, if_false, ↓reduceIte, Nat.reduceAdd, Int.reduceAdd, Int.reduceMul, Int.reduceSub, Int.reduceNeg, cs_c, cs_o, cs_2, cu_c, cu_o, Int.cast_ofNat_Int, ps_f, ps_g, ps_w, ps_o, ps_2, pu_f, pu_g, pu_w, pu_o, uI_s, uI_o, uI_j, uI_j1, uI_j2, uI_tw, or0, true_or, or_true, false_or, or_false, nar0, nar1, jc_s, jc_u, jc_1, jc_22, uJ_cs, cs_2], trivial⟩) (fun k T _ _ => by
        rw [lp_X12_clouds_45]
        simp (disch := first | omega | assumption) only [↓lt, Option.bind_some, zl, ll, zadd, zsub, zmul, zneg, ladd, lsub, lmul, lneg, zltT, zltF, zleT, zleF, zeqT, zeqF, zidx, ixT, zwide, bIT, bIF, if_true, if_false, ↓reduceIte, Nat.reduceAdd, Int.reduceAdd, Int.reduceMul, Int.reduceSub, Int.reduceNeg, cs_c, cs_o, cs_2, cu_c, cu_o, Int.cast_ofNat_Int, ps_f, ps_g, ps_w, ps_o, ps_2, pu_f, pu_g, pu_w, pu_o, uI_s, uI_o, uI_j, uI_j1, uI_j2, uI_tw, or0, true_or, or_true, false_or, or_false, nar0, nar1]) 13 0 (fun z => (X.2.1 242 z.toNat).toInt) n (by omega) (by omega) (by omega) trivial).1
      have jf : ∀ X : KM, jc X (fI (fun i T => bu T i (if i = 0 then 1 else 0)) 13 0 (fun z => (X.2.1 242 z.toNat).toInt)) = jc X (fun j => od (b 8) 0 j.toNat) := fun X => jc_c (fun j j1 j2 => by
        rw [fI_bu (v := fun i => if i = 0 then 1 else 0), if_pos (by omega)]
        unfold od
        by_cases y : j = 0
        · subst y
          rw [if_pos rfl]
          show (1 : Int) = 1 * (b 8) ^ 0 * (16 - b 8) ^ 0
          rw [Int.pow_zero, Int.pow_zero]; rfl
        · rw [if_neg y, if_neg (by omega)])
      simp only [jf] at m1
      simp only [← jc_ex] at m1
      generalize odS (b 8) N.toNat (13 - K).toNat K 0 = S at *
      have cf := fun M : KM => c_setFraction (a := S) (c := 16 ^ N.toNat) (n := n) (M := M) (by omega) pw.1 (by omega) (by omega) (by omega)
      have mf := fun M : KM => m_fraction (a := S) (c := 16 ^ N.toNat) (n := n) (M := M) (by omega) pw.1 (by omega) (by omega) (by omega)
      generalize (16 : Int) ^ N.toNat = D at *
      generalize S / eu 200 S D = t at *
      generalize D / eu 200 S D = d at *
      refine ⟨zI 1, lI t, lI d, ?_, fun X => ⟨jc (uI (uI X 227 1 (zI 0)) 227 0 (zI 0)) (fun j => od (b 8) N.toNat j.toNat), ?_, by rw [jc_1, uI_s], SM_tr SM_st ⟨rfl, fun a k h => jc_o (by omega), fun _ _ _ => rfl⟩⟩⟩
      · unfold f_X11_clouds f_X11_power
        simp (disch := first | omega | assumption) only [↓lt, Option.bind_some, zl, ll, zadd, zsub, zmul, zneg, ladd, lsub, lmul, lneg, zltT, zltF, zleT, zleF, zeqT, zeqF, zidx, ixT, zwide, bIT, bIF, if_true, if_false, ↓reduceIte, Nat.reduceAdd, Int.reduceAdd, Int.reduceMul, Int.reduceSub, Int.reduceNeg, cs_c, cs_o, cs_2, cu_c, cu_o, Int.cast_ofNat_Int, ps_f, ps_g, ps_w, ps_o, ps_2, pu_f, pu_g, pu_w, pu_o, uI_s, uI_o, uI_j, uI_j1, uI_j2, uI_tw, or0, true_or, or_true, false_or, or_false, nar0, nar1, f_X11_tell, f_X11_refuse, f_X11_tellIf, f_X11_tellOrNone, f_X11_tellSooner, f_X11_deny, f_X11_succeed, f_X12_refuse, f_X12_no, hp0, e1, e2, cf, uJ_ps, uJ_cs]
      · unfold f_X12_clouds
        simp (disch := first | omega | assumption) only [↓lt, Option.bind_some, zl, ll, zadd, zsub, zmul, zneg, ladd, lsub, lmul, lneg, zltT, zltF, zleT, zleF, zeqT, zeqF, zidx, ixT, zwide, bIT, bIF, if_true, if_false, ↓reduceIte, Nat.reduceAdd, Int.reduceAdd, Int.reduceMul, Int.reduceSub, Int.reduceNeg, cs_c, cs_o, cs_2, cu_c, cu_o, Int.cast_ofNat_Int, ps_f, ps_g, ps_w, ps_o, ps_2, pu_f, pu_g, pu_w, pu_o, uI_s, uI_o, uI_j, uI_j1, uI_j2, uI_tw, or0, true_or, or_true, false_or, or_false, nar0, nar1, f_X11_tell, f_X11_refuse, f_X11_tellIf, f_X11_tellOrNone, f_X11_tellSooner, f_X11_deny, f_X11_succeed, f_X12_refuse, f_X12_no, hp0, m_isIn, m1, m2, m3, mf, uJ_cs]
    · refine Or.inl ⟨zI 0, zI 5, ?_, fun X => ?_⟩
      · unfold f_X11_clouds
        by_cases y : 0 ≤ K
        · simp (disch := first | omega | assumption) only [↓lt, Option.bind_some, zl, ll, zadd, zsub, zmul, zneg, ladd, lsub, lmul, lneg, zltT, zltF, zleT, zleF, zeqT, zeqF, zidx, ixT, zwide, bIT, bIF, if_true, if_false, ↓reduceIte, Nat.reduceAdd, Int.reduceAdd, Int.reduceMul, Int.reduceSub, Int.reduceNeg, cs_c, cs_o, cs_2, cu_c, cu_o, Int.cast_ofNat_Int, ps_f, ps_g, ps_w, ps_o, ps_2, pu_f, pu_g, pu_w, pu_o, uI_s, uI_o, uI_j, uI_j1, uI_j2, uI_tw, or0, true_or, or_true, false_or, or_false, nar0, nar1, f_X11_tell, f_X11_refuse, f_X11_tellIf, f_X11_tellOrNone, f_X11_tellSooner, f_X11_deny, f_X11_succeed, f_X12_refuse, f_X12_no, hp0]
        · simp (disch := first | omega | assumption) only [↓lt, Option.bind_some, zl, ll, zadd, zsub, zmul, zneg, ladd, lsub, lmul, lneg, zltT, zltF, zleT, zleF, zeqT, zeqF, zidx, ixT, zwide, bIT, bIF, if_true, if_false, ↓reduceIte, Nat.reduceAdd, Int.reduceAdd, Int.reduceMul, Int.reduceSub, Int.reduceNeg, cs_c, cs_o, cs_2, cu_c, cu_o, Int.cast_ofNat_Int, ps_f, ps_g, ps_w, ps_o, ps_2, pu_f, pu_g, pu_w, pu_o, uI_s, uI_o, uI_j, uI_j1, uI_j2, uI_tw, or0, true_or, or_true, false_or, or_false, nar0, nar1, f_X11_tell, f_X11_refuse, f_X11_tellIf, f_X11_tellOrNone, f_X11_tellSooner, f_X11_deny, f_X11_succeed, f_X12_refuse, f_X12_no, hp0]
      · unfold f_X12_clouds
        simp (disch := first | omega | assumption) only [↓lt, Option.bind_some, zl, ll, zadd, zsub, zmul, zneg, ladd, lsub, lmul, lneg, zltT, zltF, zleT, zleF, zeqT, zeqF, zidx, ixT, zwide, bIT, bIF, if_true, if_false, ↓reduceIte, Nat.reduceAdd, Int.reduceAdd, Int.reduceMul, Int.reduceSub, Int.reduceNeg, cs_c, cs_o, cs_2, cu_c, cu_o, Int.cast_ofNat_Int, ps_f, ps_g, ps_w, ps_o, ps_2, pu_f, pu_g, pu_w, pu_o, uI_s, uI_o, uI_j, uI_j1, uI_j2, uI_tw, or0, true_or, or_true, false_or, or_false, nar0, nar1, f_X11_tell, f_X11_refuse, f_X11_tellIf, f_X11_tellOrNone, f_X11_tellSooner, f_X11_deny, f_X11_succeed, f_X12_refuse, f_X12_no, hp0, m_isIn]
  · refine Or.inl ⟨zI 0, zI 5, ?_, fun X => ?_⟩
    · unfold f_X11_clouds
      by_cases y : 0 ≤ N
      · simp (disch := first | omega | assumption) only [↓lt, Option.bind_some, zl, ll, zadd, zsub, zmul, zneg, ladd, lsub, lmul, lneg, zltT, zltF, zleT, zleF, zeqT, zeqF, zidx, ixT, zwide, bIT, bIF, if_true, if_false, ↓reduceIte, Nat.reduceAdd, Int.reduceAdd, Int.reduceMul, Int.reduceSub, Int.reduceNeg, cs_c, cs_o, cs_2, cu_c, cu_o, Int.cast_ofNat_Int, ps_f, ps_g, ps_w, ps_o, ps_2, pu_f, pu_g, pu_w, pu_o, uI_s, uI_o, uI_j, uI_j1, uI_j2, uI_tw, or0, true_or, or_true, false_or, or_false, nar0, nar1, f_X11_tell, f_X11_refuse, f_X11_tellIf, f_X11_tellOrNone, f_X11_tellSooner, f_X11_deny, f_X11_succeed, f_X12_refuse, f_X12_no, hp0]
      · simp (disch := first | omega | assumption) only [↓lt, Option.bind_some, zl, ll, zadd, zsub, zmul, zneg, ladd, lsub, lmul, lneg, zltT, zltF, zleT, zleF, zeqT, zeqF, zidx, ixT, zwide, bIT, bIF, if_true, if_false, ↓reduceIte, Nat.reduceAdd, Int.reduceAdd, Int.reduceMul, Int.reduceSub, Int.reduceNeg, cs_c, cs_o, cs_2, cu_c, cu_o, Int.cast_ofNat_Int, ps_f, ps_g, ps_w, ps_o, ps_2, pu_f, pu_g, pu_w, pu_o, uI_s, uI_o, uI_j, uI_j1, uI_j2, uI_tw, or0, true_or, or_true, false_or, or_false, nar0, nar1, f_X11_tell, f_X11_refuse, f_X11_tellIf, f_X11_tellOrNone, f_X11_tellSooner, f_X11_deny, f_X11_succeed, f_X12_refuse, f_X12_no, hp0]
    · unfold f_X12_clouds
      simp (disch := first | omega | assumption) only [↓lt, Option.bind_some, zl, ll, zadd, zsub, zmul, zneg, ladd, lsub, lmul, lneg, zltT, zltF, zleT, zleF, zeqT, zeqF, zidx, ixT, zwide, bIT, bIF, if_true, if_false, ↓reduceIte, Nat.reduceAdd, Int.reduceAdd, Int.reduceMul, Int.reduceSub, Int.reduceNeg, cs_c, cs_o, cs_2, cu_c, cu_o, Int.cast_ofNat_Int, ps_f, ps_g, ps_w, ps_o, ps_2, pu_f, pu_g, pu_w, pu_o, uI_s, uI_o, uI_j, uI_j1, uI_j2, uI_tw, or0, true_or, or_true, false_or, or_false, nar0, nar1, f_X11_tell, f_X11_refuse, f_X11_tellIf, f_X11_tellOrNone, f_X11_tellSooner, f_X11_deny, f_X11_succeed, f_X12_refuse, f_X12_no, hp0, m_isIn]
