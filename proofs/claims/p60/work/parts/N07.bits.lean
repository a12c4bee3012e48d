/-! ===== sets as ints ===== -/
theorem setB_in {P : Int → Bool} {k : Int} (h0 : 0 ≤ k) (h8 : k ≤ 8) : setB P k = setB (fun i => P i && decide (i < k)) 8 := by
  have h1 : ∀ (m : Nat) (i : Int) (w : Int32), i + m ≤ k → fI (stF P) m i w = fI (stF (fun i => P i && decide (i < k))) m i w := fun m i w h => fI_c m i w (fun j v a c => by
    show (if P j = true then _ else _) = (if (P j && decide (j < k)) = true then _ else _)
    rw [decide_eq_true (show j < k by omega), Bool.and_true])
  have h2 : ∀ (m : Nat) (i : Int) (w : Int32), k ≤ i → fI (stF (fun i => P i && decide (i < k))) m i w = w := by
    intro m
    induction m with
    | zero => intro i w _; rfl
    | succ m ih =>
      intro i w hi
      show fI _ m (i + 1) (stF _ i w) = w
      have e : stF (fun i => P i && decide (i < k)) i w = w := by
        unfold stF
        rw [if_neg (by show ¬ (P i && decide (i < k)) = true; rw [decide_eq_false (show ¬ i < k by omega), Bool.and_false]; exact Bool.false_ne_true)]
      rw [e]
      exact ih (i + 1) w (by omega)
  unfold setB
  rw [show (8 : Int).toNat = k.toNat + (8 - k).toNat by omega, fI_sp, h2 _ _ _ (by omega), h1 _ _ _ (by omega)]
theorem setB_bit {P : Int → Bool} {q : Int} (h1 : 0 ≤ q) (h2 : q < 8) : ((setB P 8 >>> (zI q &&& 31)) &&& (1 : Int32) = (1 : Int32)) ↔ P q = true := by
  rw [sb8_of]
  obtain ⟨a0, a1, a2, a3, a4, a5, a6, a7⟩ := sb8_has (P 0) (P 1) (P 2) (P 3) (P 4) (P 5) (P 6) (P 7)
  have hq : q = 0 ∨ q = 1 ∨ q = 2 ∨ q = 3 ∨ q = 4 ∨ q = 5 ∨ q = 6 ∨ q = 7 := by omega
  rcases hq with rfl | rfl | rfl | rfl | rfl | rfl | rfl | rfl
  · exact a0
  · exact a1
  · exact a2
  · exact a3
  · exact a4
  · exact a5
  · exact a6
  · exact a7
theorem setBk_bit {P : Int → Bool} {k q : Int} (h0 : 0 ≤ k) (h8 : k ≤ 8) (h1 : 0 ≤ q) (h2 : q < k) : ((setB P k >>> (zI q &&& 31)) &&& (1 : Int32) = (1 : Int32)) ↔ P q = true := by
  rw [setB_in h0 h8, setB_bit h1 (by omega), decide_eq_true h2, Bool.and_true]
theorem bit_01 : ∀ p0 p1 p2 p3 p4 p5 p6 p7 : Bool, ∀ q : Fin 8, ((sb8 p0 p1 p2 p3 p4 p5 p6 p7 >>> (zI (q.val : Int) &&& 31)) &&& (1 : Int32) = (1 : Int32)) ∨ ((sb8 p0 p1 p2 p3 p4 p5 p6 p7 >>> (zI (q.val : Int) &&& 31)) &&& (1 : Int32) = (0 : Int32)) := by decide +kernel
theorem setBk_01 {P : Int → Bool} {k q : Int} (h0 : 0 ≤ k) (h8 : k ≤ 8) (h1 : 0 ≤ q) (h2 : q < k) : (setB P k >>> (zI q &&& 31)) &&& (1 : Int32) = if P q = true then (1 : Int32) else (0 : Int32) := by
  have hb := setBk_bit (P := P) h0 h8 h1 h2
  by_cases w : P q = true
  · rw [if_pos w]; exact hb.mpr w
  · rw [if_neg w]
    rw [setB_in h0 h8, sb8_of] at hb ⊢
    have h3 := bit_01 (P 0 && decide ((0 : Int) < k)) (P 1 && decide ((1 : Int) < k)) (P 2 && decide ((2 : Int) < k)) (P 3 && decide ((3 : Int) < k)) (P 4 && decide ((4 : Int) < k)) (P 5 && decide ((5 : Int) < k)) (P 6 && decide ((6 : Int) < k)) (P 7 && decide ((7 : Int) < k)) ⟨q.toNat, by omega⟩
    simp only [Int.toNat_of_nonneg h1] at h3
    rcases h3 with h3 | h3
    · exact absurd (hb.mp h3) w
    · exact h3
theorem or_and32 (x y z : Int32) : (x ||| y) &&& z = (x &&& z) ||| (y &&& z) := by
  rw [Int32.and_comm, and_or32, Int32.and_comm z x, Int32.and_comm z y]
theorem setB_and_0 {P : Int → Bool} {C : Int32} {k : Int} (h : ∀ i, 0 ≤ i → i < k → P i = true → (zI 1 <<< (zI i &&& zI 31)) &&& C = zI 0) : setB P k &&& C = zI 0 := by
  have h1 : ∀ (m : Nat) (i : Int) (w : Int32), 0 ≤ i → i + m ≤ k → w &&& C = zI 0 → fI (stF P) m i w &&& C = zI 0 := by
    intro m
    induction m with
    | zero => intro i w _ _ hw; exact hw
    | succ m ih =>
      intro i w h0 hk hw
      show fI (stF P) m (i + 1) (stF P i w) &&& C = zI 0
      refine ih (i + 1) _ (by omega) (by omega) ?_
      unfold stF
      by_cases q : P i = true
      · rw [if_pos q, or_and32, hw, h i h0 (by omega) q]; decide
      · rw [if_neg q]; exact hw
  unfold setB
  by_cases q : 0 ≤ k
  · exact h1 k.toNat 0 (zI 0) (by omega) (by omega) Int32.zero_and
  · rw [show k.toNat = 0 by omega]
    show zI 0 &&& C = zI 0
    exact Int32.zero_and
theorem one_not : ∀ q0 q1 q2 q3 q4 q5 q6 q7 : Bool, ∀ i : Fin 8, (fun j : Nat => if j = 0 then q0 else if j = 1 then q1 else if j = 2 then q2 else if j = 3 then q3 else if j = 4 then q4 else if j = 5 then q5 else if j = 6 then q6 else q7) i.val = true → (zI 1 <<< (zI (i.val : Int) &&& zI 31)) &&& (sb8 q0 q1 q2 q3 q4 q5 q6 q7 ^^^ (-1 : Int32)) = zI 0 := by decide +kernel
/-- of one set nobody is outside another one -/
theorem sub_0 {P Q : Int → Bool} {k : Int} (h0 : 0 ≤ k) (h8 : k ≤ 8) (h : ∀ i, 0 ≤ i → i < k → P i = true → Q i = true) : setB P k &&& (setB Q k ^^^ (-1 : Int32)) = 0 := by
  refine setB_and_0 fun i i0 i1 hp => ?_
  have hq := h i i0 i1 hp
  rw [setB_in (P := Q) h0 h8, sb8_of]
  have h2 := one_not (Q 0 && decide ((0 : Int) < k)) (Q 1 && decide ((1 : Int) < k)) (Q 2 && decide ((2 : Int) < k)) (Q 3 && decide ((3 : Int) < k)) (Q 4 && decide ((4 : Int) < k)) (Q 5 && decide ((5 : Int) < k)) (Q 6 && decide ((6 : Int) < k)) (Q 7 && decide ((7 : Int) < k)) ⟨i.toNat, by omega⟩
  simp only [Int.toNat_of_nonneg i0] at h2
  refine h2 ?_
  have hi : i = 0 ∨ i = 1 ∨ i = 2 ∨ i = 3 ∨ i = 4 ∨ i = 5 ∨ i = 6 ∨ i = 7 := by omega
  have hd : decide (i < k) = true := decide_eq_true i1
  rcases hi with rfl | rfl | rfl | rfl | rfl | rfl | rfl | rfl <;> simp [hq, i1]
/-- two sets of nobody together -/
theorem dis_0 {P Q : Int → Bool} {k : Int} (h0 : 0 ≤ k) (h8 : k ≤ 8) (h : ∀ i, 0 ≤ i → i < k → P i = true → Q i = false) : setB P k &&& setB Q k = 0 := by
  refine setB_and_0 fun i i0 i1 hp => ?_
  rw [Int32.and_comm, setB_in (P := Q) h0 h8, setB_and i0 (by omega)]
  have e : (Q i && decide (i < k)) = false := by rw [h i i0 i1 hp]; rfl
  rw [if_neg (by rw [e]; exact Bool.false_ne_true)]
/-! ===== how many of a set ===== -/
def szL (c : Int32) : Nat → Int32 → Int32 → Int32
  | 0, w, _ => w
  | m + 1, w, i => szL c m (w + ((c >>> (i &&& 31)) &&& (1 : Int32))) (i + (1 : Int32))
theorem size_L {c : Int32} {M : KM} : ∀ (m : Nat) (i : Int) (w : Int32) (n : Nat), 0 ≤ i → i + m = 16 → m < n → lp_L_size_4 n c M w (zI i) = some (szL c m w (zI i)) := by
  intro m
  induction m with
  | zero =>
    intro i w n h0 h1 hn
    obtain ⟨k, rfl⟩ : ∃ k, n = k + 1 := ⟨n - 1, by omega⟩
    rw [lp_L_size_4, if_pos (by rw [show (16 : Int32) = zI 16 from rfl, zleT (by omega) (by omega) (by omega)]; trivial)]
    rfl
  | succ m ih =>
    intro i w n h0 h1 hn
    obtain ⟨k, rfl⟩ : ∃ k, n = k + 1 := ⟨n - 1, by omega⟩
    rw [lp_L_size_4, if_neg (by rw [show (16 : Int32) = zI 16 from rfl, zleF (by omega) (by omega) (by omega)]; exact id)]
    have e : zI i + (1 : Int32) = zI (i + 1) := zadd i 1
    show lp_L_size_4 k c M (w + ((c >>> (zI i &&& 31)) &&& (1 : Int32))) (zI i + (1 : Int32)) = some (szL c m _ (zI i + (1 : Int32)))
    rw [e]
    exact ih (i + 1) _ k (by omega) (by omega) (by omega)
theorem szL_8 : ∀ p0 p1 p2 p3 p4 p5 p6 p7 : Bool, szL (sb8 p0 p1 p2 p3 p4 p5 p6 p7) 16 (zI 0) (zI 0) = zI ((if p0 = true then 1 else 0) + (if p1 = true then 1 else 0) + (if p2 = true then 1 else 0) + (if p3 = true then 1 else 0) + (if p4 = true then 1 else 0) + (if p5 = true then 1 else 0) + (if p6 = true then 1 else 0) + (if p7 = true then 1 else 0)) := by decide +kernel
theorem size_8 {P : Int → Bool} {M : KM} {n : Nat} (hn : 20 ≤ n) : f_L_size n (setB P 8) M = some (zI (cdB P)) := by
  unfold f_L_size
  rw [show (0 : Int32) = zI 0 from rfl, size_L 16 0 _ n (by omega) (by omega) (by omega), sb8_of, szL_8]
  unfold cdB
  rw [sum8]
theorem cdB_r {P : Int → Bool} : 0 ≤ cdB P ∧ cdB P ≤ 8 := by
  have h := sumB_r (f := fun i => if P i = true then 1 else 0) (d := 1) (fun i => by by_cases q : P i = true <;> simp [q]) 8 0
  exact h
