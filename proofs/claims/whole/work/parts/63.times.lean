/-! ===== one road tried, by the reference ===== -/
def rs (M : KM) (a : Nat) (T : Int → Int) : KM := (fun c k => if c = a ∧ k < 8 then zI (T k) else M.1 c k, M.2)
theorem rs_s {M : KM} {a : Nat} {T : Int → Int} {z : Int} (h : 0 ≤ z) (h2 : z < 8) : (rs M a T).1 a z.toNat = zI (T z) := by
  show (if a = a ∧ z.toNat < 8 then _ else _) = _
  rw [if_pos ⟨rfl, by omega⟩, Int.toNat_of_nonneg h]
theorem rs_o {M : KM} {a c k : Nat} {T : Int → Int} (h : ¬ c = a) : (rs M a T).1 c k = M.1 c k := if_neg (fun z => h z.1)
theorem rs_2 {M : KM} {a : Nat} {T : Int → Int} : (rs M a T).2 = M.2 := rfl
theorem rs_c {M : KM} {a : Nat} {T U : Int → Int} (h : ∀ j, 0 ≤ j → j < 8 → T j = U j) : rs M a T = rs M a U := by
  refine Prod.ext ?_ rfl
  funext c k
  show (if c = a ∧ k < 8 then _ else _) = (if c = a ∧ k < 8 then _ else _)
  by_cases e : c = a ∧ k < 8
  · rw [if_pos e, if_pos e, h _ (by omega) (by omega)]
  · rw [if_neg e, if_neg e]
theorem rs_ex (M : KM) (a : Nat) : M = rs M a (fun z => (M.1 a z.toNat).toInt) := by
  refine Prod.ext ?_ rfl
  funext c k
  show _ = (if c = a ∧ k < 8 then _ else _)
  by_cases e : c = a ∧ k < 8
  · rw [if_pos e, e.1, ← z_of, Int.toNat_natCast]
  · rw [if_neg e]
theorem rs_u {M : KM} {a : Nat} {T : Int → Int} {z v : Int} (h : 0 ≤ z) (h2 : z < 8) : uI (rs M a T) a z.toNat (zI v) = rs M a (bu T z v) := by
  refine Prod.ext ?_ rfl
  funext c k
  by_cases e : c = a
  · subst e
    by_cases e2 : k = z.toNat
    · subst e2
      rw [uI_s, rs_s h h2, bu_s]
    · rw [uI_o (fun z => e2 z.2)]
      show (if c = c ∧ k < 8 then _ else _) = (if c = c ∧ k < 8 then _ else _)
      by_cases e3 : k < 8
      · rw [if_pos ⟨rfl, e3⟩, if_pos ⟨rfl, e3⟩, bu_o (by omega)]
      · rw [if_neg (fun z => e3 z.2), if_neg (fun z => e3 z.2)]
  · rw [uI_o (fun z => e z.1), rs_o e, rs_o e]
def nT (T : Int → Int) : Int → Int := fun j => nv (T j)
theorem nT_u {T : Int → Int} {z v : Int} (hv : v < 1000000000) : bu (nT T) z v = nT (bu T z v) := by
  funext j
  by_cases e : j = z
  · subst e
    rw [bu_s]
    show v = nv (bu T j v j)
    rw [bu_s]
    exact (if_pos hv).symm
  · rw [bu_o e]
    show nv (T j) = nv (bu T z v j)
    rw [bu_o e]
abbrev okT (T : Int → Int) : Prop := ∀ j, 0 ≤ j → j < 8 → 0 ≤ T j ∧ (T j ≤ 900000 ∨ T j = 1000000000)
/-- from f to t by road r, if that is sooner -/
def rlx (b : Int → Int) (p q r f t : Int) (T : Int → Int) : Int → Int := if a2I b p q r (T f) < T t then bu T t (a2I b p q r (T f)) else T
theorem m_improves {b T : Int → Int} {p q r f t : Int} {n a : Nat} {X : KM} (ha : ¬ a = 232) (hb : WB b) (hT : okT T) (h1 : 0 ≤ p) (h2 : p < b 2) (hq : q = -1 ∨ (0 ≤ q ∧ q < b 2)) (h3 : 0 ≤ r) (h4 : r < b 1) (f1 : 0 ≤ f) (f2 : f < 8) (t1 : 0 ≤ t) (t2 : t < 8) (hn : 3000 < n) : f_X12_improves n 227 a (zI p) (zI q) (zI r) (zI f) (zI t) (cs (rs X a (nT T)) b) = some (bI (a2I b p q r (T f) < T t), cs (rs X a (nT (rlx b p q r f t T))) b) := by
  have Tf := hT f f1 f2
  have Tt := hT t t1 t2
  have ra := a2I_r (p := p) (q := q) hb h3 h4 Tf.1 Tf.2
  have ef : (rs X a (nT T)).1 a f.toNat = zI (nv (T f)) := rs_s f1 f2
  have et : (rs X a (nT T)).1 a t.toNat = zI (nv (T t)) := rs_s t1 t2
  unfold f_X12_improves
  by_cases w : T f ≤ 900000
  · have em := m_endOfTwo (X := rs X a (nT T)) hb h1 h2 hq h3 h4 Tf.1 w hn
    have nf : nv (T f) = T f := if_pos (by omega)
    rw [nf] at ef
    by_cases v : a2I b p q r (T f) < T t
    · have na : nv (a2I b p q r (T f)) = a2I b p q r (T f) := if_pos (by omega)
      have er : rlx b p q r f t T = bu T t (a2I b p q r (T f)) := if_pos v
      rw [na] at em
      rw [er, bIT v, ← nT_u (by omega)]
      generalize a2I b p q r (T f) = A at *
      by_cases u : T t < 1000000000
      · have nt : nv (T t) = T t := if_pos u
        rw [nt] at et
        simp (disch := first | omega | assumption) only [↓lt, Option.bind_some, zl, ll, zadd, zsub, zmul, zneg, ladd, lsub, lmul, lneg, zltT, zltF, zleT, zleF, zeqT, zeqF, zidx, ixT, zwide, bIT, bIF, if_true, if_false, ↓reduceIte, Nat.reduceAdd, Int.reduceAdd, Int.reduceMul, Int.reduceSub, Int.reduceNeg, cs_c, cs_o, cs_2, cu_c, cu_o, Int.cast_ofNat_Int, ps_f, ps_g, ps_w, ps_o, ps_2, pu_f, pu_g, pu_w, pu_o, uI_s, uI_o, uI_j, uI_j1, uI_j2, uI_tw, or0, true_or, or_true, false_or, or_false, nar0, nar1, ef, et, em, rs_u]
      · have nt : nv (T t) = -1 := if_neg u
        rw [nt] at et
        simp (disch := first | omega | assumption) only [↓lt, Option.bind_some, zl, ll, zadd, zsub, zmul, zneg, ladd, lsub, lmul, lneg, zltT, zltF, zleT, zleF, zeqT, zeqF, zidx, ixT, zwide, bIT, bIF, if_true, if_false, ↓reduceIte, Nat.reduceAdd, Int.reduceAdd, Int.reduceMul, Int.reduceSub, Int.reduceNeg, cs_c, cs_o, cs_2, cu_c, cu_o, Int.cast_ofNat_Int, ps_f, ps_g, ps_w, ps_o, ps_2, pu_f, pu_g, pu_w, pu_o, uI_s, uI_o, uI_j, uI_j1, uI_j2, uI_tw, or0, true_or, or_true, false_or, or_false, nar0, nar1, ef, et, em, rs_u]
    · have er : rlx b p q r f t T = T := if_neg v
      rw [er, bIF v]
      by_cases na : a2I b p q r (T f) < 1000000000
      · have nb : nv (a2I b p q r (T f)) = a2I b p q r (T f) := if_pos na
        have nt : nv (T t) = T t := if_pos (by omega)
        rw [nb] at em
        rw [nt] at et
        generalize a2I b p q r (T f) = A at *
        simp (disch := first | omega | assumption) only [↓lt, Option.bind_some, zl, ll, zadd, zsub, zmul, zneg, ladd, lsub, lmul, lneg, zltT, zltF, zleT, zleF, zeqT, zeqF, zidx, ixT, zwide, bIT, bIF, if_true, if_false, ↓reduceIte, Nat.reduceAdd, Int.reduceAdd, Int.reduceMul, Int.reduceSub, Int.reduceNeg, cs_c, cs_o, cs_2, cu_c, cu_o, Int.cast_ofNat_Int, ps_f, ps_g, ps_w, ps_o, ps_2, pu_f, pu_g, pu_w, pu_o, uI_s, uI_o, uI_j, uI_j1, uI_j2, uI_tw, or0, true_or, or_true, false_or, or_false, nar0, nar1, ef, et, em]
      · have nb : nv (a2I b p q r (T f)) = -1 := if_neg na
        rw [nb] at em
        simp (disch := first | omega | assumption) only [↓lt, Option.bind_some, zl, ll, zadd, zsub, zmul, zneg, ladd, lsub, lmul, lneg, zltT, zltF, zleT, zleF, zeqT, zeqF, zidx, ixT, zwide, bIT, bIF, if_true, if_false, ↓reduceIte, Nat.reduceAdd, Int.reduceAdd, Int.reduceMul, Int.reduceSub, Int.reduceNeg, cs_c, cs_o, cs_2, cu_c, cu_o, Int.cast_ofNat_Int, ps_f, ps_g, ps_w, ps_o, ps_2, pu_f, pu_g, pu_w, pu_o, uI_s, uI_o, uI_j, uI_j1, uI_j2, uI_tw, or0, true_or, or_true, false_or, or_false, nar0, nar1, ef, em]
  · have nf : nv (T f) = -1 := if_neg (by omega)
    rw [nf] at ef
    have v : ¬ a2I b p q r (T f) < T t := by omega
    have er : rlx b p q r f t T = T := if_neg v
    rw [er, bIF v]
    simp (disch := first | omega | assumption) only [↓lt, Option.bind_some, zl, ll, zadd, zsub, zmul, zneg, ladd, lsub, lmul, lneg, zltT, zltF, zleT, zleF, zeqT, zeqF, zidx, ixT, zwide, bIT, bIF, if_true, if_false, ↓reduceIte, Nat.reduceAdd, Int.reduceAdd, Int.reduceMul, Int.reduceSub, Int.reduceNeg, cs_c, cs_o, cs_2, cu_c, cu_o, Int.cast_ofNat_Int, ps_f, ps_g, ps_w, ps_o, ps_2, pu_f, pu_g, pu_w, pu_o, uI_s, uI_o, uI_j, uI_j1, uI_j2, uI_tw, or0, true_or, or_true, false_or, or_false, nar0, nar1, ef]
