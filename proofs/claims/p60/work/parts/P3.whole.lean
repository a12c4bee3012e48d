/-- from the entry, for every script of at most 260 ints, the law comes to its end with true -/
theorem whole_start {p : Program} {e : Env} {s : State} {m : MethodId} {below : List Frame} {meth : Method} {c : Code} (l : Launch) (hflags : l.flags = flags0) {b L : Nat} {xs : Nat → Int32} (hL : L ≤ 260) (C0 : lw_At p s m meth c b L xs) : W p l e room_1 s m #[Value.ref b] below meth c s.heap [] 0 0 (lw_Z below #[Value.ref b] s) (entryFrame m ([Value.ref b] : List Value).toArray 21) := by
  obtain ⟨hx, hb, hr, hml, hown, hts, hX, hbl, hlocks, hgv⟩ := id C0
  have hT := tb_start hts
  obtain ⟨D, hKc⟩ := cls_start hT
  obtain ⟨cy, hKa⟩ := arr_start hts hT
  obtain ⟨w, hW⟩ := KW_start hts hgv
  obtain ⟨aK, aV, hU⟩ := KWS_start hts hgv hX hbl
  obtain ⟨n, hf⟩ := law_true L xs hL
  have G : BG cy w (p, l, e, room_1, s, m, #[Value.ref b], below, meth, c, D, s.heap.size, 21, 600000, 7302250, fun _ => lw_Z below #[Value.ref b] s) cL_law "NoonGuidesLaw" 21 none 12 := ⟨hx, hb, hml, rfl, hown, fun b rt qc h => (by cases h), hlocks, hT, ⟨hKc, hKa⟩, hW, ⟨Nat.le_of_ble_eq_true rfl, Nat.le_of_ble_eq_true rfl, Nat.le_of_ble_eq_true rfl⟩, Nat.le_of_ble_eq_true rfl, Nat.le_refl _⟩
  have key := law_body (E' := (fun _ => .inr (0, []), 0)) (b := b) (L := L) (xs := xs) (aK := aK) (aV := aV) (Z := lw_Z below #[Value.ref b] s) G rfl rfl (fun q1 q2 Qk => (show KWS s.heap.size b L xs aK aV s s.heap from hU)) (fun q1 q2 h1 h2 => (show (fun _ => lw_Z below #[Value.ref b] s) = (fun _ => lw_Z below #[Value.ref b] s) ∧ room_1 = room_1 ∧ #[Value.ref b] = #[Value.ref b] ∧ q1 ≤ 600000 ∧ q2 ≤ 7302250 ∧ s.heap.size = s.heap.size ∧ c.code = code ∧ meth.sig.returnType = ret from ⟨rfl, rfl, rfl, h1, h2, rfl, hb, hr⟩)) hf
  rw [lg_entry_eq]
  exact key s.heap [] _ ⟨fun k q h => by simp [bws, bL] at h, rfl⟩ va_S.rf (lv_entry [.ref b] (Nat.le_of_ble_eq_true rfl))
