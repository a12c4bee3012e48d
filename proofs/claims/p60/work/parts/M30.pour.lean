/-! ===== pour ===== -/
/-- many numbers from s on come to d on, as they were -/
def cpJ (M : KM) (s d lo hi : Int) : KM := (M.1, (fun (c j : Nat) => if c = 230 ∧ d + lo ≤ (j : Int) ∧ (j : Int) < d + hi then M.2.1 230 ((j : Int) - d + s).toNat else M.2.1 c j), M.2.2)
theorem cpJ_i {M : KM} {s d lo hi : Int} : (cpJ M s d lo hi).1 = M.1 := rfl
theorem cpJ_0 {M : KM} {s d lo : Int} : cpJ M s d lo lo = M := by
  refine Prod.ext rfl (Prod.ext ?_ rfl)
  funext c j
  show (if _ then _ else _) = _
  rw [if_neg (by omega)]
theorem cpJ_up {M : KM} {s d k : Int} (hs : 0 ≤ s) (hd : 0 ≤ d) (hk : 0 ≤ k) (h : s ≥ d ∨ s + k < d) : uJ (cpJ M s d 0 k) 230 (d + k).toNat ((cpJ M s d 0 k).2.1 230 (s + k).toNat) = cpJ M s d 0 (k + 1) := by
  refine Prod.ext rfl (Prod.ext ?_ rfl)
  funext c j
  show (uJ _ _ _ _).2.1 c j = (if _ then _ else _)
  by_cases w : c = 230 ∧ j = (d + k).toNat
  · rw [w.1, w.2, uJ_s, if_pos (by omega)]
    show (if _ then _ else _) = _
    rw [if_neg (by omega)]
    exact congrArg (M.2.1 230) (by omega)
  · rw [uJ_o w]
    show (if _ then _ else _) = _
    by_cases v : c = 230 ∧ d + 0 ≤ (j : Int) ∧ (j : Int) < d + k
    · rw [if_pos v, if_pos (by omega)]
    · rw [if_neg v, if_neg (by omega)]
theorem cpJ_dn {M : KM} {s d m k : Int} (hs : 0 ≤ s) (hd : 0 ≤ d) (hk : 0 ≤ k) (hm : k < m) (h : s < d ∨ d + m ≤ s) : uJ (cpJ M s d (m - k) m) 230 (d + (m - 1 - k)).toNat ((cpJ M s d (m - k) m).2.1 230 (s + (m - 1 - k)).toNat) = cpJ M s d (m - (k + 1)) m := by
  refine Prod.ext rfl (Prod.ext ?_ rfl)
  funext c j
  show (uJ _ _ _ _).2.1 c j = (if _ then _ else _)
  by_cases w : c = 230 ∧ j = (d + (m - 1 - k)).toNat
  · rw [w.1, w.2, uJ_s, if_pos (by omega)]
    show (if _ then _ else _) = _
    rw [if_neg (by omega)]
    exact congrArg (M.2.1 230) (by omega)
  · rw [uJ_o w]
    show (if _ then _ else _) = _
    by_cases v : c = 230 ∧ d + (m - k) ≤ (j : Int) ∧ (j : Int) < d + m
    · rw [if_pos v, if_pos (by omega)]
    · rw [if_neg v, if_neg (by omega)]
theorem lg_le {a b : Int} (h1 : -9223372036854775808 ≤ a) (h2 : a < 9223372036854775808) (h3 : -9223372036854775808 ≤ b) (h4 : b < 9223372036854775808) : (lg_cmp (lI a) (lI b) ≤ 0) = (a ≤ b) := by
  have e := lg_gt h1 h2 h3 h4
  by_cases w : a ≤ b
  · have : ¬ (0 < lg_cmp (lI a) (lI b)) := by rw [e]; omega
    refine propext ⟨fun _ => w, fun _ => ?_⟩
    rw [Int32.le_iff_toInt_le]
    rw [Int32.lt_iff_toInt_lt] at this
    omega
  · have : 0 < lg_cmp (lI a) (lI b) := by rw [e]; omega
    refine propext ⟨fun z => ?_, fun z => absurd z w⟩
    rw [Int32.le_iff_toInt_le] at z
    rw [Int32.lt_iff_toInt_lt] at this
    omega
theorem gT {a b : Int} (h : -1000000000000 < a ∧ a < 1000000000000 ∧ -1000000000000 < b ∧ b < 1000000000000 ∧ b < a) : (zI 0 < lg_cmp (lI a) (lI b)) = True := (lg_gt (by omega) (by omega) (by omega) (by omega)).trans (eq_true h.2.2.2.2)
theorem gF {a b : Int} (h : -1000000000000 < a ∧ a < 1000000000000 ∧ -1000000000000 < b ∧ b < 1000000000000 ∧ ¬ b < a) : (zI 0 < lg_cmp (lI a) (lI b)) = False := (lg_gt (by omega) (by omega) (by omega) (by omega)).trans (eq_false h.2.2.2.2)
theorem eT {a b : Int} (h : -1000000000000 < a ∧ a < 1000000000000 ∧ -1000000000000 < b ∧ b < 1000000000000 ∧ a ≤ b) : (lg_cmp (lI a) (lI b) ≤ zI 0) = True := (lg_le (by omega) (by omega) (by omega) (by omega)).trans (eq_true h.2.2.2.2)
theorem eF {a b : Int} (h : -1000000000000 < a ∧ a < 1000000000000 ∧ -1000000000000 < b ∧ b < 1000000000000 ∧ ¬ a ≤ b) : (lg_cmp (lI a) (lI b) ≤ zI 0) = False := (lg_le (by omega) (by omega) (by omega) (by omega)).trans (eq_false h.2.2.2.2)
theorem uJs_ps {M : KM} {L a : Nat} {g : Int → Int → Int → Int} {f : Nat → Int64} : uJs (ps M L g) a f = ps (uJs M a f) L g := rfl
theorem uJs_cs {M : KM} {a : Nat} {b : Int → Int} {f : Nat → Int64} : uJs (cs M b) a f = cs (uJs M a f) b := rfl
