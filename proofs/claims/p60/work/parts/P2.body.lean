theorem BR_KR {D : va_G} {z : Nat} {E : KE} {H : Heap} {cy : Nat → ClassId} {M : KM} (hR : BR D z E H) (hE2 : E.2 = NK) (hE : ∀ a, a < NK → E.1 a = kc (fun b => z + b) cy (kty a) a (M.1 a) (M.2.1 a) (M.2.2 a)) (hT : KT M.2.2) : KR (fun b => z + b) D cy M H := by
  refine ⟨?_, hT⟩
  have e : kws (fun b => z + b) cy M = bws z E := by
    unfold kws bws
    rw [hE2]
    exact List.map_congr_left (fun a ha => by rw [hE a (List.mem_range.mp ha)])
  rw [e]
  exact hR.1
theorem KA_add (z : Nat) : KA (fun b => z + b) z := ⟨fun a b h => Nat.add_left_cancel h, fun a => Nat.le_add_right _ _⟩
def toK (x : BX) (q1 q2 : Nat) (Qk : KO → State → Prop) : KX := match x with
  | (p, l, e, R, s, m, args, below, meth, c, D, z, n, k1, k2, Q) => (p, l, e, R, s, m, args, below, meth, c, D, z, n, q1, q2, Qk)
def BXQ (x : BX) : KE → State → Prop := match x with
  | (p, l, e, R, s, m, args, below, meth, c, D, z, n, k1, k2, Q) => Q
theorem toK_G {cy : Nat → ClassId} {w : Nat × Nat} {x : BX} {cc : ByteArray} {own : String} {nL d q1 q2 : Nat} {Qk : KO → State → Prop} (G : BG cy w x cc own nL none d) (h1 : q1 ≤ (BXk x).1) (h2 : q2 ≤ (BXk x).2) : KG (fun a => BXz x + a) cy (toK x q1 q2 Qk) cc own nL none d := by
  obtain ⟨p, l, e, R, s, m, args, below, meth, c, D, z, n, k1, k2, Q⟩ := x
  obtain ⟨hx, hb, hml, hn, hown, hr, hlk, hts, hK, hW, ⟨hf, hkc, hks⟩, hlo, hz⟩ := G
  exact ⟨hx, hb, hml, hn, hown, fun r hr => (by cases hr), hlk, hts, hK, KA_add z, ⟨hf, Nat.le_trans h1 hkc, Nat.le_trans h2 hks⟩, hlo, hz⟩
theorem b_law {cy : Nat → ClassId} {x : BX} {E' : KE} {pc q1 q2 : Nat} {o : KO} {Z : State → Prop} {L : List (Nat × Value)} {st : List Value} {E : KE} {M : KM} (hQ : BXQ x = fun _ => Z) (hE2 : E.2 = NK) (hE : ∀ a, a < NK → E.1 a = kc (fun a => BXz x + a) cy (kty a) a (M.1 a) (M.2.1 a) (M.2.2 a)) (hT : KT M.2.2) (k : KV (fun a => BXz x + a) cy (toK x q1 q2 (fun _ => Z)) o pc L st M) : BV x E' pc L st E q1 q2 := by
  obtain ⟨p, l, e, R, s, m, args, below, meth, c, D, z, n, k1, k2, Q⟩ := x
  have hQ : Q = fun _ => Z := hQ
  subst hQ
  intro H locs ls hR hS hl
  exact k H locs ls (BR_KR hR hE2 hE hT) hS hl
set_option maxRecDepth 100000 in
set_option maxHeartbeats 4000000 in
theorem law_body {x : BX} {cy : Nat → ClassId} {w : Nat × Nat} {b L : Nat} {xs : Nat → Int32} {aK aV : Nat → Nat} {Z : State → Prop} {E' : KE} (G : BG cy w x cL_law "NoonGuidesLaw" 21 none 12) (hk : BXk x = (600000, 7302250)) (hQ : BXQ x = fun _ => Z) (GW : ∀ (q1 q2 : Nat) (Qk : KO → State → Prop), KWx b L xs aK aV (toK x q1 q2 Qk)) (GL : ∀ (q1 q2 : Nat), q1 ≤ 600000 → q2 ≤ 7302250 → KLw (toK x q1 q2 (fun _ => Z)) b) {n : Nat} (hf : f_L_law L xs n 0 227 228 M00 = some 1) : BV x E' 0 [(0, .ref b)] [] (bL (fun _ => .inr (0, [])) 0 []) 0 0 := by
  refine b_new (ci := 10) G tyX11 rfl tb_X11 tyX11_ok t_20 t_21 t_1 [.null, .null, .null, .null, .null, .null, .null, .null, .null, .null, .null, .null, .null, .int 0, .int 0, .int 0, .int 0, .int 0, .long 0, .long 0] (by decide +kernel) (by rw [hk]; exact Nat.le_of_ble_eq_true rfl) (by rw [hk]; exact Nat.le_of_ble_eq_true rfl) dL_law_0 ?_
  rw [bL_new]
  show BV x _ 3 _ [.ref (BXz x + 0)] (bL _ 0 [.inr (10, [.null, .null, .null, .null, .null, .null, .null, .null, .null, .null, .null, .null, .null, .int 0, .int 0, .int 0, .int 0, .int 0, .long 0, .long 0])]) _ _
  refine b_dup G dL_law_3 rfl ?_
  refine b_call (i := 0) G (cb_X11 _ 0) t_22 t_23 t_1 t_24 rfl nm_X11_init (Nat.le_of_ble_eq_true rfl) (Nat.le_of_ble_eq_true rfl) (by rw [hk]; exact Nat.le_of_ble_eq_true rfl) (by rw [hk]; exact Nat.le_of_ble_eq_true rfl) (Nat.le_of_ble_eq_true rfl) dL_law_4 ?_
  refine b_astore_n [(1, .ref (BXz x + 0)), (0, .ref b)] G dL_law_7 (Nat.le_of_ble_eq_true rfl) rfl ?_
  refine b_bipush (24) G dL_law_8 (by decide) ?_
  refine b_newa (t0 := 1) (at0 := .int) (N := 24) (a0 := (24, .inl (fun _ => 0))) G t_142 ⟨_, rfl⟩ (fun _ => rfl) (by decide) (by decide) (Nat.le_of_ble_eq_true rfl) (by rw [hk]; exact Nat.le_of_ble_eq_true rfl) (by rw [hk]; exact Nat.le_of_ble_eq_true rfl) dL_law_10 ?_ (fun cA h => (Prod.ext_iff.mp (Option.some.inj (h.symm.trans rfl))).1)
  rw [bL_new, bL_len, ln_L_11]
  refine b_astore_n [(2, .ref (BXz x + 227)), (1, .ref (BXz x + 0)), (0, .ref b)] G dL_law_12 (Nat.le_of_ble_eq_true rfl) rfl ?_
  refine b_bipush (53) G dL_law_13 (by decide) ?_
  refine b_newa (t0 := 1) (at0 := .int) (N := 53) (a0 := (53, .inl (fun _ => 0))) G t_142 ⟨_, rfl⟩ (fun _ => rfl) (by decide) (by decide) (Nat.le_of_ble_eq_true rfl) (by rw [hk]; exact Nat.le_of_ble_eq_true rfl) (by rw [hk]; exact Nat.le_of_ble_eq_true rfl) dL_law_15 ?_ (fun cA h => (Prod.ext_iff.mp (Option.some.inj (h.symm.trans rfl))).1)
  rw [bL_new, bL_len, List.length_append, ln_L_11]
  refine b_astore_n [(3, .ref (BXz x + 228)), (2, .ref (BXz x + 227)), (1, .ref (BXz x + 0)), (0, .ref b)] G dL_law_17 (Nat.le_of_ble_eq_true rfl) rfl ?_
  have hL : (L_11 cy (BXz x) 0 ++ [.inl (cy 1, 24, .inl (fun _ => 0))]) ++ [.inl (cy 1, 53, .inl (fun _ => 0))] = (List.range' 0 229).map (FINw kwF cy (BXz x)) := by
    have e1 : ([.inl (cy 1, 24, .inl (fun _ => 0))] : List va_E) = (List.range' 227 1).map (FINw kwF cy (BXz x)) := by
      show _ = [FINw kwF cy (BXz x) 227]
      rw [fin_227]
    have e2 : ([.inl (cy 1, 53, .inl (fun _ => 0))] : List va_E) = (List.range' 228 1).map (FINw kwF cy (BXz x)) := by
      show _ = [FINw kwF cy (BXz x) 228]
      rw [fin_228]
    rw [sg_all, e1, e2, fcat 0 227 227 1 228 rfl rfl, fcat 0 228 228 1 229 rfl rfl]
  have hB : ∀ a, a < NK → (bL (fun _ => .inr (0, [])) 0 ((L_11 cy (BXz x) 0 ++ [.inl (cy 1, 24, .inl (fun _ => 0))]) ++ [.inl (cy 1, 53, .inl (fun _ => 0))])).1 a = FINw kwF cy (BXz x) a := fun a ha => by
    have ha : a < 229 := ha
    rw [hL]
    show (if a < 0 then (.inr (0, []) : va_E) else ((List.range' 0 229).map (FINw kwF cy (BXz x))).getD (a - 0) (.inr (0, []))) = _
    rw [if_neg (Nat.not_lt_zero a)]
    exact fget (Nat.zero_le a) (by omega)
  refine b_law (cy := cy) (M := M00) (o := (none, M00)) hQ (by rw [hL]; rfl) (fun a ha => hB a ha) KT_0 ?_
  have GK := toK_G (Qk := fun _ => Z) (q1 := 229) (q2 := 5014) G (by rw [hk]; exact Nat.le_of_ble_eq_true rfl) (by rw [hk]; exact Nat.le_of_ble_eq_true rfl)
  refine v_sub [(3, .ref (BXz x + 228)), (2, .ref (BXz x + 227)), (1, .ref (BXz x + 0)), (0, .ref b)] [0, 1, 2, 3] rfl ?_
  exact s_L_law GK L xs (a1 := 0) (a2 := 227) (a3 := 228) (GW _ _ _) (GL _ _ (Nat.le_of_ble_eq_true rfl) (Nat.le_of_ble_eq_true rfl)) n kt_0 kt_227 kt_228 hf
