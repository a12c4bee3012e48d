/-! ===== signs taken ===== -/
/-- the first sign of l has just been read, whichever it is -/
def At (T : Int → Int) (E : Int) (M : KM) (l : List Int) : Prop := RC T E M ∧ ∀ l' k j v nm, Nx l l' k j v nm → TK T E M l' k j v nm
def Lx (l : List Int) : Prop := ∃ l' k j v nm, Nx l l' k j v nm
theorem tk_adv {T : Int → Int} {E : Int} {M : KM} {l l' : List Int} {k j v nm k' j' v' nm' : Int} {n : Nat} (h : TK T E M l k j v nm) (hn : 1000 < n) (hN : Nx l l' k' j' v' nm') : ∃ M', f_X9_advance n 5 M = some M' ∧ FC 5 M M' ∧ TK T E M' l' k' j' v' nm' := hN T E M n h.1 hn h.2.2.2.2.2
theorem tk_At {T : Int → Int} {E : Int} {M : KM} {l : List Int} {n : Nat} (hR : RC T E M) (hp : ∃ p, M.1 5 3 = zI p ∧ 0 ≤ p ∧ Rem T E p l) (hn : 1000 < n) (hL : Lx l) : ∃ M', f_X9_advance n 5 M = some M' ∧ FC 5 M M' ∧ At T E M' l := by
  obtain ⟨l', k, j, v, nm, hN⟩ := hL
  obtain ⟨M', a1, a2, a3⟩ := hN T E M n hR hn hp
  refine ⟨M', a1, a2, a3.1, fun l2 k2 j2 v2 nm2 hN2 => ?_⟩
  obtain ⟨M2, b1, b2, b3⟩ := hN2 T E M n hR hn hp
  rw [a1] at b1
  rw [Option.some.inj b1]
  exact b3
theorem At_F {T : Int → Int} {E : Int} {M M' : KM} {l : List Int} (h1 : ∀ c i, (c = 5 ∧ 2 ≤ i ∧ i ≤ 11) ∨ c = 2 → M'.1 c i = M.1 c i) (h2 : ∀ c i, (c = 5 ∧ i = 9) ∨ c = 6 → M'.2.1 c i = M.2.1 c i) (h3 : M'.2.2 5 1 = M.2.2 5 1) (h : At T E M l) : At T E M' l := by
  obtain ⟨⟨r1, r2, r3, r4, r5⟩, h⟩ := h
  have hR : RC T E M' := ⟨h3.trans r1, by rw [h1 _ _ (by omega)]; exact r2, fun z u v => by rw [h1 _ _ (by omega)]; exact r3 z u v, fun k hk => by rw [h2 _ _ (by omega)]; exact r4 k hk, r5⟩
  refine ⟨hR, fun l' k j v nm hN => ?_⟩
  obtain ⟨-, t1, t2, t3, t4, p, p1, p2, p3⟩ := h l' k j v nm hN
  exact ⟨hR, by rw [h1 _ _ (by omega)]; exact t1, by rw [h1 _ _ (by omega)]; exact t2, by rw [h1 _ _ (by omega)]; exact t3, by rw [h2 _ _ (by omega)]; exact t4, p, by rw [h1 _ _ (by omega)]; exact p1, p2, p3⟩
theorem TK_F {T : Int → Int} {E : Int} {M M' : KM} {l : List Int} {k j v nm : Int} (h1 : ∀ c i, (c = 5 ∧ 2 ≤ i ∧ i ≤ 11) ∨ c = 2 → M'.1 c i = M.1 c i) (h2 : ∀ c i, (c = 5 ∧ i = 9) ∨ c = 6 → M'.2.1 c i = M.2.1 c i) (h3 : M'.2.2 5 1 = M.2.2 5 1) (h : TK T E M l k j v nm) : TK T E M' l k j v nm := by
  obtain ⟨⟨r1, r2, r3, r4, r5⟩, t1, t2, t3, t4, p, p1, p2, p3⟩ := h
  exact ⟨⟨h3.trans r1, by rw [h1 _ _ (by omega)]; exact r2, fun z u v => by rw [h1 _ _ (by omega)]; exact r3 z u v, fun k hk => by rw [h2 _ _ (by omega)]; exact r4 k hk, r5⟩, by rw [h1 _ _ (by omega)]; exact t1, by rw [h1 _ _ (by omega)]; exact t2, by rw [h1 _ _ (by omega)]; exact t3, by rw [h2 _ _ (by omega)]; exact t4, p, by rw [h1 _ _ (by omega)]; exact p1, p2, p3⟩
theorem k_skip {n : Nat} {M : KM} : f_X9_skip n 5 M = f_X9_advance n 5 M := bsome _
theorem k_skipT {n : Nat} {M M' : KM} {j : Int} (h : M.1 5 7 = zI j) (e : f_X9_advance n 5 M = some M') : f_X9_skipWord n 5 (zI j) M = some (zI 1, M') := by
  unfold f_X9_skipWord
  rw [h, if_pos rfl, e]
  rfl
theorem k_skipF {n : Nat} {M : KM} {j i : Int} (h : M.1 5 7 = zI j) (hj : -1 ≤ j ∧ j < 26) (hi : 0 ≤ i ∧ i < 26) (hn : ¬ j = i) : f_X9_skipWord n 5 (zI i) M = some (zI 0, M) := by
  unfold f_X9_skipWord
  rw [h, if_neg (eqN hn (by omega) (by omega) (by omega) (by omega))]
  rfl
theorem k_word {n : Nat} {M M' : KM} {j : Int} (h : M.1 5 7 = zI j) (e : f_X9_advance n 5 M = some M') : f_X9_takeWord n 5 (zI j) M = some (zI 1, M') := by
  unfold f_X9_takeWord
  rw [k_skipT h e, Option.bind_some]
  rfl
theorem k_semi {n : Nat} {M M' : KM} (h6 : M.1 5 6 = zI 3) (h8 : M.1 5 8 = zI 59) (e : f_X9_advance n 5 M = some M') : f_X9_takeSemicolon n 5 M = some (zI 1, M') := by
  unfold f_X9_takeSemicolon
  simp only [zl]
  rw [lt_hd, h6, if_pos rfl, h8, if_pos rfl, e]
  rfl
theorem k_num {n : Nat} {M M' : KM} {v lo hi : Int} (h6 : M.1 5 6 = zI 2) (h8 : M.1 5 8 = zI v) (h1 : lo ≤ v) (h2 : v ≤ hi) (l0 : 0 ≤ lo) (l1 : hi < 100000) (e : f_X9_advance n 5 M = some M') : f_X9_takeNumber n 5 (zI lo) (zI hi) M = some (zI v, M') := by
  unfold f_X9_takeNumber
  simp only [zl]
  rw [h6, if_pos rfl, lt_hd, h8, if_neg (ltN h1 (by omega) (by omega)), if_pos (leP h2 (by omega) (by omega)), lt_hd, e]
  rfl
theorem k_known {n : Nat} {M M' : KM} {nm i : Int} (h9 : M.2.1 5 9 = lI nm) (hz : ¬ lI nm = lI 0) (i0 : 0 ≤ i) (i1 : i < 100) (e : f_X9_advance n 5 M = some M') : f_X9_takeKnown n 5 (zI i) M = some (zI i, M') := by
  unfold f_X9_takeKnown
  simp only [zl, ll]
  rw [h9, if_neg (fun z => hz (by rw [lgz] at z; exact z)), zneg, if_neg (eqN (by omega) (by omega) (by omega) (by omega) (by omega)), e]
  rfl
/-! ===== the next sign of such a text ===== -/
theorem hd_w {w l : List Int} (hw : ∀ c ∈ w, 97 ≤ c ∧ c ≤ 122) (w1 : 1 ≤ w.length) : hd0 (w ++ l) := by
  cases w with
  | nil => exact absurd w1 (by decide)
  | cons c w =>
    intro d m e
    have : c = d := by injection e
    have := hw c (List.mem_cons_self)
    omega
theorem nx_word {w l : List Int} {i : Nat} (hw : ∀ c ∈ w, 97 ≤ c ∧ c ≤ 122) (w1 : 1 ≤ w.length) (w8 : w.length ≤ 8) (hl : nl l) (hi : i < 26) (hk : lI (cdW w 0) = kwd i) : Nx (w ++ l) l 1 i 0 0 := Nx_0 (hd_w hw w1) (Ktk_word hw w1 w8 hl hi hk)
theorem nx_word1 {w l : List Int} {i : Nat} (hw : ∀ c ∈ w, 97 ≤ c ∧ c ≤ 122) (w1 : 1 ≤ w.length) (w8 : w.length ≤ 8) (hl : nl l) (hi : i < 26) (hk : lI (cdW w 0) = kwd i) : Nx (32 :: (w ++ l)) l 1 i 0 0 := Nx_1 (hd_w hw w1) (Ktk_word hw w1 w8 hl hi hk)
theorem nx_semi {l : List Int} : Nx (sw 6 ++ l) l 3 (-1) 59 0 := Nx_0 (fun c m e => by
  have : (59 : Int) = c := by injection e
  omega) Ktk_semi
theorem nx_end : Nx [] [] 0 (-1) 0 0 := Nx_0 (fun c m e => by injection e) Ktk_end
theorem kw_nm : ∀ k : Fin 8, ∀ i : Fin 26, ¬ lI (385 + (k.val : Int)) = kwd i.val ∧ ¬ lI (513 + (k.val : Int)) = kwd i.val := by decide +kernel
theorem nam_eq {s k : Int} {l : List Int} : nam s k ++ l = 32 :: ([s, 97 + k] ++ l) := rfl
theorem nx_L {k : Int} {l : List Int} (h1 : 0 ≤ k) (h2 : k < 8) (hl : nl l) : Nx (nam 108 k ++ l) l 1 (-1) 0 (385 + k) := by
  have hw : ∀ c ∈ [108, 97 + k], 97 ≤ c ∧ c ≤ 122 := fun c hc => by
    rcases List.mem_cons.mp hc with e | e
    · omega
    · have := List.mem_singleton.mp e; omega
  have e : cdW [108, 97 + k] 0 = 385 + k := by
    show (0 * 32 + 108 - 96) * 32 + (97 + k) - 96 = _
    omega
  have g := Ktk_name (w := [108, 97 + k]) (l := l) hw (show (1 : Nat) ≤ 2 by decide) (show (2 : Nat) ≤ 8 by decide) hl (fun i hi => by
    rw [e]
    have := (kw_nm ⟨k.toNat, by omega⟩ ⟨i, hi⟩).1
    simp only [Int.toNat_of_nonneg h1] at this
    exact this)
  rw [e] at g
  exact Nx_1 (hd_w hw (show (1 : Nat) ≤ 2 by decide)) g
theorem nx_P {k : Int} {l : List Int} (h1 : 0 ≤ k) (h2 : k < 8) (hl : nl l) : Nx (nam 112 k ++ l) l 1 (-1) 0 (513 + k) := by
  have hw : ∀ c ∈ [112, 97 + k], 97 ≤ c ∧ c ≤ 122 := fun c hc => by
    rcases List.mem_cons.mp hc with e | e
    · omega
    · have := List.mem_singleton.mp e; omega
  have e : cdW [112, 97 + k] 0 = 513 + k := by
    show (0 * 32 + 112 - 96) * 32 + (97 + k) - 96 = _
    omega
  have g := Ktk_name (w := [112, 97 + k]) (l := l) hw (show (1 : Nat) ≤ 2 by decide) (show (2 : Nat) ≤ 8 by decide) hl (fun i hi => by
    rw [e]
    have := (kw_nm ⟨k.toNat, by omega⟩ ⟨i, hi⟩).2
    simp only [Int.toNat_of_nonneg h1] at this
    exact this)
  rw [e] at g
  exact Nx_1 (hd_w hw (show (1 : Nat) ≤ 2 by decide)) g
theorem dg_ok {v : Int} (h0 : 0 ≤ v) (h1 : v ≤ 9999) : (∀ c ∈ dg v, 48 ≤ c ∧ c ≤ 57) ∧ 1 ≤ (dg v).length ∧ vlD (dg v) 0 = v := by
  unfold dg
  by_cases a : 999 < v
  · rw [if_pos a, if_pos (show 99 < v by omega), if_pos (show 9 < v by omega)]
    refine ⟨fun c hc => ?_, (show (1 : Nat) ≤ 4 by decide), ?_⟩
    · simp only [List.cons_append, List.nil_append, List.mem_cons, List.not_mem_nil, or_false] at hc
      omega
    · show (((0 * 10 + (48 + v / 1000) - 48) * 10 + (48 + v / 100 % 10) - 48) * 10 + (48 + v / 10 % 10) - 48) * 10 + (48 + v % 10) - 48 = v
      omega
  · rw [if_neg a]
    by_cases b : 99 < v
    · rw [if_pos b, if_pos (show 9 < v by omega)]
      refine ⟨fun c hc => ?_, (show (1 : Nat) ≤ 3 by decide), ?_⟩
      · simp only [List.cons_append, List.nil_append, List.mem_cons, List.not_mem_nil, or_false] at hc
        omega
      · show ((0 * 10 + (48 + v / 100 % 10) - 48) * 10 + (48 + v / 10 % 10) - 48) * 10 + (48 + v % 10) - 48 = v
        omega
    · rw [if_neg b]
      by_cases d : 9 < v
      · rw [if_pos d]
        refine ⟨fun c hc => ?_, (show (1 : Nat) ≤ 2 by decide), ?_⟩
        · simp only [List.cons_append, List.nil_append, List.mem_cons, List.not_mem_nil, or_false] at hc
          omega
        · show (0 * 10 + (48 + v / 10 % 10) - 48) * 10 + (48 + v % 10) - 48 = v
          omega
      · rw [if_neg d]
        refine ⟨fun c hc => ?_, (show (1 : Nat) ≤ 1 by decide), ?_⟩
        · simp only [List.nil_append, List.mem_cons, List.not_mem_nil, or_false] at hc
          omega
        · show 0 * 10 + (48 + v % 10) - 48 = v
          omega
theorem nx_N {v : Int} {l : List Int} (h0 : 0 ≤ v) (h1 : v ≤ 9999) (hl : nd l) : Nx (nmb v ++ l) l 2 (-1) v 0 := by
  obtain ⟨d1, d2, d3⟩ := dg_ok h0 h1
  have g := Ktk_num (w := dg v) (l := l) d1 d2 dg_l hl
  rw [d3] at g
  refine Nx_1 (fun c m e => ?_) g
  generalize dg v = w at *
  cases w with
  | nil => exact absurd d2 (by decide)
  | cons d w =>
    have : d = c := by injection e
    have := d1 d (List.mem_cons_self)
    omega
