theorem l_newB {cy : Nat → ClassId} {w : Nat × Nat} {x : BX} {E' : KE} {cc : ByteArray} {own C : String} {nL d pc pc2 kc ks idx ci N nn n2 : Nat} {ini : Option (Bool × Option FieldType × BP)} {T : u_T} {L : List (Nat × Value)} {rest : List Value} {B : Nat → va_E} {i : Nat} {l : List va_E} (G : BG cy w x cc own nL ini d) (ty : Nat → FieldType) (hc : vwCl[ci]? = some (C, T, N)) (hin : ∀ w ∈ u_ws C T N, w ∈ tb) (hty : ∀ k, k < N → parseFieldDescriptor (T k).2.2.1 = some (ty k)) (w1 : Cond.classLink own idx C ∈ tb) (w2 : Cond.instantiable C N ∈ tb) (w3 : Cond.initialized C ∈ tb) (fs : List Value) (hfs : ∀ j, j < N → defaultValue (ty j) = vp_V fs j) (h1 : kc + 1 ≤ (BXk x).1) (h2 : ks + N ≤ (BXk x).2) (hlen : l.length = nn) (hn2 : i + nn = n2) (hd : dc cc pc (.new idx) 3 pc2)
    (kk : BV x E' pc2 L (.ref (BXz x + n2) :: rest) (bL (bL B i l).1 n2 [.inr (ci, fs)]) (kc + 1) (ks + N)) : BV x E' pc L rest (bL B i l) kc ks := by
  subst hlen hn2
  refine b_new G ty hc hin hty w1 w2 w3 fs hfs h1 h2 hd ?_
  rw [bL_new, bL_cut, bL_len]
  exact kk
set_option maxRecDepth 100000 in
set_option maxHeartbeats 4000000 in
theorem law_body {x : BX} {cy : Nat → ClassId} {w : Nat × Nat} {b L : Nat} {xs : Nat → Int32} {Z : State → Prop} {E' : KE} (G : BG cy w x cL_law "NoonGuidesLaw" 4 none 100) (hk : BXk x = (600000, 7302249)) (hQ : BXQ x = fun _ => Z) (GS : ∀ (q1 q2 : Nat) (Qk : KO → State → Prop), KS (toK x q1 q2 Qk) b L xs) (GL : ∀ (q1 q2 : Nat), q1 ≤ 600000 → q2 ≤ 7302249 → KLw (toK x q1 q2 (fun _ => Z)) b) (hL : L ≤ 3072) {y : KM} (hf : f_X12_empties 700 227 (0 : Int32) M00 = some y) (hI : Inv y) : BV x E' 0 [(0, .ref b)] [] (bL (fun _ => .inr (0, [])) 0 []) 0 0 := by
  have hB : ∀ a, a < 227 → (bL (fun _ => .inr (0, [])) 0 (L_11 cy (BXz x) 0)).1 a = FINw kwF cy (BXz x) a := fun a ha => by
    show (if a < 0 then (.inr (0, []) : va_E) else (L_11 cy (BXz x) 0).getD (a - 0) (.inr (0, []))) = _
    rw [if_neg (Nat.not_lt_zero a), sg_all]
    exact fget (Nat.zero_le a) (by omega)
  refine b_new (ci := 10) G tyX11 rfl tb_X11 tyX11_ok t_21 t_22 t_1 [.null, .null, .null, .null, .null, .null, .null, .null, .null, .null, .null, .null, .null, .int 0, .int 0, .int 0, .int 0, .int 0, .long 0, .long 0] (by decide +kernel) (by rw [hk]; exact Nat.le_of_ble_eq_true rfl) (by rw [hk]; exact Nat.le_of_ble_eq_true rfl) dL_law_0 ?_
  rw [bL_new]
  show BV x _ 3 _ [.ref (BXz x + 0)] (bL _ 0 [.inr (10, [.null, .null, .null, .null, .null, .null, .null, .null, .null, .null, .null, .null, .null, .int 0, .int 0, .int 0, .int 0, .int 0, .long 0, .long 0])]) _ _
  refine b_dup G dL_law_3 rfl ?_
  refine b_call (i := 0) G (cb_X11 _ 0) t_23 t_24 t_1 t_25 rfl nm_X11_init (Nat.le_of_ble_eq_true rfl) (Nat.le_of_ble_eq_true rfl) (by rw [hk]; exact Nat.le_of_ble_eq_true rfl) (by rw [hk]; exact Nat.le_of_ble_eq_true rfl) (Nat.le_of_ble_eq_true rfl) dL_law_4 ?_
  refine b_astore_n [(1, .ref (BXz x + 0)), (0, .ref b)] G dL_law_7 (Nat.le_of_ble_eq_true rfl) rfl ?_
  refine l_newB (ci := 11) (nn := 227) (n2 := 227) G tyX12 rfl tb_X12 tyX12_ok t_1481 t_1482 t_17 [.int 0, .int 0, .long 0, .long 0, .null, .null, .null, .null, .int 0, .int 0, .int 0, .int 0, .int 0, .int 0, .int 0, .int 0, .int 0, .int 0, .int 0, .long 0, .null, .null, .null, .null, .int 0, .int 0, .int 0, .int 0, .int 0, .int 0, .null, .null, .null, .null, .null, .null, .null, .null, .int 0, .int 0, .int 0, .int 0, .int 0, .int 0, .int 0, .int 0, .int 0] (by decide +kernel) (by rw [hk]; exact Nat.le_of_ble_eq_true rfl) (by rw [hk]; exact Nat.le_of_ble_eq_true rfl) ln_L_11 rfl dL_law_8 ?_
  refine b_dup G dL_law_11 rfl ?_
  refine b_kcall (i := 227) (o2 := (none, y)) G (cb_X12 _ hB rfl hf) t_1483 t_1484 t_17 t_1485 rfl nm_X12_init (Nat.le_of_ble_eq_true rfl) (Nat.le_of_ble_eq_true rfl) (by rw [hk]; exact Nat.le_of_ble_eq_true rfl) (by rw [hk]; exact Nat.le_of_ble_eq_true rfl) (Nat.le_of_ble_eq_true rfl) dL_law_12 (fun _ => Z) (none, y) (by rw [hQ]) ?_
  have GK := toK_G (Qk := fun _ => Z) (q1 := 0 + 1 + 226 + 1 + 16) (q2 := 0 + 20 + 4917 + 47 + 4684) G (by rw [hk]; exact Nat.le_of_ble_eq_true rfl) (by rw [hk]; exact Nat.le_of_ble_eq_true rfl)
  show KV _ _ _ _ 15 [(1, .ref (BXz x + 0)), (0, .ref b)] [.ref (BXz x + 227)] y
  refine v_astore_n [(2, .ref (BXz x + 227)), (1, .ref (BXz x + 0)), (0, .ref b)] GK dL_law_15 (Nat.le_of_ble_eq_true rfl) rfl ?_
  refine v_iconst 0 GK dL_law_16 (by decide) ?_
  refine v_istore_n [(3, .int 0), (2, .ref (BXz x + 227)), (1, .ref (BXz x + 0)), (0, .ref b)] GK dL_law_17 (Nat.le_of_ble_eq_true rfl) rfl ?_
  refine v_sub [(0, .ref b), (1, .ref (BXz x + 0)), (2, .ref (BXz x + 227)), (3, .int 0)] [3, 2, 1, 0] rfl ?_
  obtain ⟨n, hn⟩ : ∃ n, 41400 + 512 < n := ⟨_, Nat.lt_succ_self _⟩
  have hz := law_all (xs := xs) hL 512 0 y n (by omega) (by omega) (by omega) hn hI
  rw [show zI 0 = (0 : Int32) by decide +kernel] at hz
  exact s_L_law_18 GK L xs (a1 := 0) (a2 := 227) (GS _ _ _) (GL _ _ (Nat.le_of_ble_eq_true rfl) (Nat.le_of_ble_eq_true rfl)) kt_0 kt_227 n 0 y hz
/-- from the entry, for every script of at most 3072 ints, the law comes to its end with true -/
theorem whole_start {p : Program} {e : Env} {s : State} {m : MethodId} {below : List Frame} {meth : Method} {c : Code} (l : Launch) (hflags : l.flags = flags0) {b L : Nat} {xs : Nat → Int32} (hL : L ≤ 3072) (C0 : lw_At p s m meth c b L xs) : W p l e room_1 s m #[Value.ref b] below meth c s.heap [] 0 0 (lw_Z below #[Value.ref b] s) (entryFrame m ([Value.ref b] : List Value).toArray 4) := by
  obtain ⟨hx, hb, hr, hml, hown, hts, hX, hbl, hlocks, hgv⟩ := id C0
  have hT := tb_start hts
  obtain ⟨D, hKc⟩ := cls_start hT
  obtain ⟨cy, hKa⟩ := arr_start hts hT
  obtain ⟨w, hW⟩ := KW_start hts hgv
  obtain ⟨y, hf, hI⟩ := start_inv
  have G : BG cy w (p, l, e, room_1, s, m, #[Value.ref b], below, meth, c, D, s.heap.size, 4, 600000, 7302249, fun _ => lw_Z below #[Value.ref b] s) cL_law "NoonGuidesLaw" 4 none 100 := ⟨hx, hb, hml, rfl, hown, fun b rt qc h => (by cases h), hlocks, hT, ⟨hKc, hKa⟩, hW, ⟨Nat.le_of_ble_eq_true rfl, Nat.le_of_ble_eq_true rfl, Nat.le_of_ble_eq_true rfl⟩, Nat.le_of_ble_eq_true rfl, Nat.le_refl _⟩
  have key := law_body (E' := (fun _ => .inr (0, []), 0)) (b := b) (L := L) (xs := xs) (Z := lw_Z below #[Value.ref b] s) G rfl rfl (fun q1 q2 Qk => (show va_X b L xs s s.heap ∧ b < s.heap.size ∧ ¬ s.heap.size ≤ b from ⟨hX, hbl, Nat.not_le.mpr hbl⟩)) (fun q1 q2 h1 h2 => (show (fun _ => lw_Z below #[Value.ref b] s) = (fun _ => lw_Z below #[Value.ref b] s) ∧ room_1 = room_1 ∧ #[Value.ref b] = #[Value.ref b] ∧ q1 ≤ 600000 ∧ q2 ≤ 7302249 ∧ s.heap.size = s.heap.size ∧ c.code = code ∧ meth.sig.returnType = ret from ⟨rfl, rfl, rfl, h1, h2, rfl, hb, hr⟩)) hL hf hI
  rw [lg_entry_eq]
  exact key s.heap [] _ ⟨fun k q h => by simp [bws, bL] at h, rfl⟩ va_S.rf (lv_entry [.ref b] (Nat.le_of_ble_eq_true rfl))
