abbrev cX11_tell : ByteArray := prog_1_method_5_code
def yX11_tell : MethodName := ⟨RX11, "tell", "(I)I"⟩
theorem dX11_tell_0 : dc cX11_tell 0 (.aload_n 0) 1 1 := ⟨by decide +kernel, rfl⟩
theorem dX11_tell_1 : dc cX11_tell 1 (.iconst 0) 1 2 := ⟨by decide +kernel, rfl⟩
theorem dX11_tell_2 : dc cX11_tell 2 (.putfield 98) 3 5 := ⟨by decide +kernel, rfl⟩
theorem dX11_tell_5 : dc cX11_tell 5 (.iload_n 1) 1 6 := ⟨by decide +kernel, rfl⟩
theorem dX11_tell_6 : dc cX11_tell 6 (.ireturn) 1 7 := ⟨by decide +kernel, rfl⟩
theorem nm_X11_tell : (yX11_tell).cls ≠ "java/lang/invoke/MethodHandle" ∧ (yX11_tell).cls ≠ "java/lang/invoke/VarHandle" ∧ (parseMethodDescriptor (yX11_tell).desc).map (fun d => d.parameters.length) = some 1 := ⟨by decide +kernel, by decide +kernel, by decide +kernel⟩
set_option maxRecDepth 100000 in
set_option maxHeartbeats 4000000 in
theorem c_X11_tell {l : Launch} {ad : Nat → Nat} {cy : Nat → ClassId} {D : va_G} {z : Nat} {a0 : Nat} {p1 : Int32} {M : KM} {y : (Int32 × KM)} (h0 : kty a0 = 11) (hf : f_X11_tell a0 p1 M = y) : KC l ad cy D z yX11_tell cX11_tell 2 (some .int) 1 [.ref (ad a0), .int p1] M (some (.int y.1), y.2) := by
  refine kv_enter (by decide +kernel) (Nat.le_of_ble_eq_true rfl) ?_
  intro x hl hD hz G
  subst hl hD hz
  unfold f_X11_tell at hf
  have G : KG ad cy x cX11_tell "NoonGuides" 2 (some (some .int)) 1 := G
  show KV ad cy x (some (.int y.1), y.2) 0 [(0, .ref (ad a0)), (1, .int p1)] [] M
  refine v_aload_n G dX11_tell_0 0 rfl ?_
  refine v_iconst (0 : Int32) G dX11_tell_1 (by decide) ?_
  refine pf_11_15 G h0 t_472 (Or.inl rfl) dX11_tell_2 ?_
  refine v_nmM (fun M1 eM1 => ?_)
  replace hf := lt_e hf eM1
  refine v_iload_n G dX11_tell_5 1 rfl ?_
  obtain rfl := hf
  exact v_iret G dX11_tell_6
abbrev cX11_refuse : ByteArray := prog_1_method_9_code
def yX11_refuse : MethodName := ⟨RX11, "refuse", "(I)I"⟩
theorem dX11_refuse_0 : dc cX11_refuse 0 (.aload_n 0) 1 1 := ⟨by decide +kernel, rfl⟩
theorem dX11_refuse_1 : dc cX11_refuse 1 (.iload_n 1) 1 2 := ⟨by decide +kernel, rfl⟩
theorem dX11_refuse_2 : dc cX11_refuse 2 (.putfield 98) 3 5 := ⟨by decide +kernel, rfl⟩
theorem dX11_refuse_5 : dc cX11_refuse 5 (.iconst (-1)) 1 6 := ⟨by decide +kernel, rfl⟩
theorem dX11_refuse_6 : dc cX11_refuse 6 (.ireturn) 1 7 := ⟨by decide +kernel, rfl⟩
theorem nm_X11_refuse : (yX11_refuse).cls ≠ "java/lang/invoke/MethodHandle" ∧ (yX11_refuse).cls ≠ "java/lang/invoke/VarHandle" ∧ (parseMethodDescriptor (yX11_refuse).desc).map (fun d => d.parameters.length) = some 1 := ⟨by decide +kernel, by decide +kernel, by decide +kernel⟩
set_option maxRecDepth 100000 in
set_option maxHeartbeats 4000000 in
theorem c_X11_refuse {l : Launch} {ad : Nat → Nat} {cy : Nat → ClassId} {D : va_G} {z : Nat} {a0 : Nat} {p1 : Int32} {M : KM} {y : (Int32 × KM)} (h0 : kty a0 = 11) (hf : f_X11_refuse a0 p1 M = y) : KC l ad cy D z yX11_refuse cX11_refuse 2 (some .int) 1 [.ref (ad a0), .int p1] M (some (.int y.1), y.2) := by
  refine kv_enter (by decide +kernel) (Nat.le_of_ble_eq_true rfl) ?_
  intro x hl hD hz G
  subst hl hD hz
  unfold f_X11_refuse at hf
  have G : KG ad cy x cX11_refuse "NoonGuides" 2 (some (some .int)) 1 := G
  show KV ad cy x (some (.int y.1), y.2) 0 [(0, .ref (ad a0)), (1, .int p1)] [] M
  refine v_aload_n G dX11_refuse_0 0 rfl ?_
  refine v_iload_n G dX11_refuse_1 1 rfl ?_
  refine pf_11_15 G h0 t_472 (Or.inl rfl) dX11_refuse_2 ?_
  refine v_nmM (fun M1 eM1 => ?_)
  replace hf := lt_e hf eM1
  refine v_iconst (-1 : Int32) G dX11_refuse_5 (by decide) ?_
  obtain rfl := hf
  exact v_iret G dX11_refuse_6
abbrev cX11_tellOrNone : ByteArray := prog_1_method_6_code
def yX11_tellOrNone : MethodName := ⟨RX11, "tellOrNone", "(I)I"⟩
theorem dX11_tellOrNone_0 : dc cX11_tellOrNone 0 (.iload_n 1) 1 1 := ⟨by decide +kernel, rfl⟩
theorem dX11_tellOrNone_1 : dc cX11_tellOrNone 1 (.iconst (-1)) 1 2 := ⟨by decide +kernel, rfl⟩
theorem dX11_tellOrNone_2 : dc cX11_tellOrNone 2 (.if_icmp .ne 12) 3 5 := ⟨by decide +kernel, rfl⟩
theorem dX11_tellOrNone_5 : dc cX11_tellOrNone 5 (.aload_n 0) 1 6 := ⟨by decide +kernel, rfl⟩
theorem dX11_tellOrNone_6 : dc cX11_tellOrNone 6 (.bipush 8) 2 8 := ⟨by decide +kernel, rfl⟩
theorem dX11_tellOrNone_8 : dc cX11_tellOrNone 8 (.invokevirtual 104) 3 11 := ⟨by decide +kernel, rfl⟩
theorem dX11_tellOrNone_11 : dc cX11_tellOrNone 11 (.goto 8) 3 14 := ⟨by decide +kernel, rfl⟩
theorem dX11_tellOrNone_14 : dc cX11_tellOrNone 14 (.aload_n 0) 1 15 := ⟨by decide +kernel, rfl⟩
theorem dX11_tellOrNone_15 : dc cX11_tellOrNone 15 (.iload_n 1) 1 16 := ⟨by decide +kernel, rfl⟩
theorem dX11_tellOrNone_16 : dc cX11_tellOrNone 16 (.invokevirtual 108) 3 19 := ⟨by decide +kernel, rfl⟩
theorem dX11_tellOrNone_19 : dc cX11_tellOrNone 19 (.ireturn) 1 20 := ⟨by decide +kernel, rfl⟩
theorem nm_X11_tellOrNone : (yX11_tellOrNone).cls ≠ "java/lang/invoke/MethodHandle" ∧ (yX11_tellOrNone).cls ≠ "java/lang/invoke/VarHandle" ∧ (parseMethodDescriptor (yX11_tellOrNone).desc).map (fun d => d.parameters.length) = some 1 := ⟨by decide +kernel, by decide +kernel, by decide +kernel⟩
set_option maxRecDepth 100000 in
set_option maxHeartbeats 4000000 in
theorem c_X11_tellOrNone {l : Launch} {ad : Nat → Nat} {cy : Nat → ClassId} {D : va_G} {z : Nat} {a0 : Nat} {p1 : Int32} {M : KM} {y : (Int32 × KM)} (h0 : kty a0 = 11) (hf : f_X11_tellOrNone a0 p1 M = y) : KC l ad cy D z yX11_tellOrNone cX11_tellOrNone 2 (some .int) 2 [.ref (ad a0), .int p1] M (some (.int y.1), y.2) := by
  refine kv_enter (by decide +kernel) (Nat.le_of_ble_eq_true rfl) ?_
  intro x hl hD hz G
  subst hl hD hz
  unfold f_X11_tellOrNone at hf
  have G : KG ad cy x cX11_tellOrNone "NoonGuides" 2 (some (some .int)) 2 := G
  show KV ad cy x (some (.int y.1), y.2) 0 [(0, .ref (ad a0)), (1, .int p1)] [] M
  refine v_iload_n G dX11_tellOrNone_0 1 rfl ?_
  refine v_iconst (-1 : Int32) G dX11_tellOrNone_1 (by decide) ?_
  refine v_icmp_ne 14 G dX11_tellOrNone_2 (by decide) (fun h3 => ?_) (fun h3 => ?_)
  · replace hf := (if_neg h3).symm.trans hf
    refine v_aload_n G dX11_tellOrNone_14 0 rfl ?_
    refine v_iload_n G dX11_tellOrNone_15 1 rfl ?_
    obtain ⟨v1, hcv1⟩ : ∃ q, f_X11_tell a0 p1 M = q := ⟨_, rfl⟩
    replace hf := lt_e hf hcv1.symm
    refine v_callV [.int p1] G (c_X11_tell h0 hcv1) h0 (by decide) rfl rfl rfl t_521 t_523 t_p0 t_1 t_524 nm_X11_tell (by decide) (by decide) rfl rfl (Nat.le_of_ble_eq_true rfl) dX11_tellOrNone_16 (kv_ri ?_)
    obtain rfl := hf
    exact v_iret G dX11_tellOrNone_19
  · replace hf := (if_pos h3).symm.trans hf
    refine v_aload_n G dX11_tellOrNone_5 0 rfl ?_
    refine v_bipush (8 : Int32) G dX11_tellOrNone_6 (by decide) ?_
    obtain ⟨v2, hcv2⟩ : ∃ q, f_X11_refuse a0 (8 : Int32) M = q := ⟨_, rfl⟩
    replace hf := lt_e hf hcv2.symm
    refine v_callV [.int (8 : Int32)] G (c_X11_refuse h0 hcv2) h0 (by decide) rfl rfl rfl t_557 t_559 t_p2 t_1 t_560 nm_X11_refuse (by decide) (by decide) rfl rfl (Nat.le_of_ble_eq_true rfl) dX11_tellOrNone_8 (kv_ri ?_)
    refine v_goto 19 G dX11_tellOrNone_11 (by decide) ?_
    obtain rfl := hf
    exact v_iret G dX11_tellOrNone_19
abbrev cX11_tellSooner : ByteArray := prog_1_method_7_code
def yX11_tellSooner : MethodName := ⟨RX11, "tellSooner", "(I)I"⟩
theorem dX11_tellSooner_0 : dc cX11_tellSooner 0 (.iload_n 1) 1 1 := ⟨by decide +kernel, rfl⟩
theorem dX11_tellSooner_1 : dc cX11_tellSooner 1 (.ldc 111) 2 3 := ⟨by decide +kernel, rfl⟩
theorem dX11_tellSooner_3 : dc cX11_tellSooner 3 (.if_icmp .lt 12) 3 6 := ⟨by decide +kernel, rfl⟩
theorem dX11_tellSooner_6 : dc cX11_tellSooner 6 (.aload_n 0) 1 7 := ⟨by decide +kernel, rfl⟩
theorem dX11_tellSooner_7 : dc cX11_tellSooner 7 (.bipush 8) 2 9 := ⟨by decide +kernel, rfl⟩
theorem dX11_tellSooner_9 : dc cX11_tellSooner 9 (.invokevirtual 104) 3 12 := ⟨by decide +kernel, rfl⟩
theorem dX11_tellSooner_12 : dc cX11_tellSooner 12 (.goto 8) 3 15 := ⟨by decide +kernel, rfl⟩
theorem dX11_tellSooner_15 : dc cX11_tellSooner 15 (.aload_n 0) 1 16 := ⟨by decide +kernel, rfl⟩
theorem dX11_tellSooner_16 : dc cX11_tellSooner 16 (.iload_n 1) 1 17 := ⟨by decide +kernel, rfl⟩
theorem dX11_tellSooner_17 : dc cX11_tellSooner 17 (.invokevirtual 108) 3 20 := ⟨by decide +kernel, rfl⟩
theorem dX11_tellSooner_20 : dc cX11_tellSooner 20 (.ireturn) 1 21 := ⟨by decide +kernel, rfl⟩
theorem nm_X11_tellSooner : (yX11_tellSooner).cls ≠ "java/lang/invoke/MethodHandle" ∧ (yX11_tellSooner).cls ≠ "java/lang/invoke/VarHandle" ∧ (parseMethodDescriptor (yX11_tellSooner).desc).map (fun d => d.parameters.length) = some 1 := ⟨by decide +kernel, by decide +kernel, by decide +kernel⟩
set_option maxRecDepth 100000 in
set_option maxHeartbeats 4000000 in
theorem c_X11_tellSooner {l : Launch} {ad : Nat → Nat} {cy : Nat → ClassId} {D : va_G} {z : Nat} {a0 : Nat} {p1 : Int32} {M : KM} {y : (Int32 × KM)} (h0 : kty a0 = 11) (hf : f_X11_tellSooner a0 p1 M = y) : KC l ad cy D z yX11_tellSooner cX11_tellSooner 2 (some .int) 2 [.ref (ad a0), .int p1] M (some (.int y.1), y.2) := by
  refine kv_enter (by decide +kernel) (Nat.le_of_ble_eq_true rfl) ?_
  intro x hl hD hz G
  subst hl hD hz
  unfold f_X11_tellSooner at hf
  have G : KG ad cy x cX11_tellSooner "NoonGuides" 2 (some (some .int)) 2 := G
  show KV ad cy x (some (.int y.1), y.2) 0 [(0, .ref (ad a0)), (1, .int p1)] [] M
  refine v_iload_n G dX11_tellSooner_0 1 rfl ?_
  refine v_ldc G dX11_tellSooner_1 t_800 ?_
  refine v_icmp_lt 15 G dX11_tellSooner_3 (by decide) (fun h3 => ?_) (fun h3 => ?_)
  · replace hf := (if_pos h3).symm.trans hf
    refine v_aload_n G dX11_tellSooner_15 0 rfl ?_
    refine v_iload_n G dX11_tellSooner_16 1 rfl ?_
    obtain ⟨v1, hcv1⟩ : ∃ q, f_X11_tell a0 p1 M = q := ⟨_, rfl⟩
    replace hf := lt_e hf hcv1.symm
    refine v_callV [.int p1] G (c_X11_tell h0 hcv1) h0 (by decide) rfl rfl rfl t_521 t_523 t_p0 t_1 t_524 nm_X11_tell (by decide) (by decide) rfl rfl (Nat.le_of_ble_eq_true rfl) dX11_tellSooner_17 (kv_ri ?_)
    obtain rfl := hf
    exact v_iret G dX11_tellSooner_20
  · replace hf := (if_neg h3).symm.trans hf
    refine v_aload_n G dX11_tellSooner_6 0 rfl ?_
    refine v_bipush (8 : Int32) G dX11_tellSooner_7 (by decide) ?_
    obtain ⟨v2, hcv2⟩ : ∃ q, f_X11_refuse a0 (8 : Int32) M = q := ⟨_, rfl⟩
    replace hf := lt_e hf hcv2.symm
    refine v_callV [.int (8 : Int32)] G (c_X11_refuse h0 hcv2) h0 (by decide) rfl rfl rfl t_557 t_559 t_p2 t_1 t_560 nm_X11_refuse (by decide) (by decide) rfl rfl (Nat.le_of_ble_eq_true rfl) dX11_tellSooner_9 (kv_ri ?_)
    refine v_goto 20 G dX11_tellSooner_12 (by decide) ?_
    obtain rfl := hf
    exact v_iret G dX11_tellSooner_20
abbrev cX11_tellIf : ByteArray := prog_1_method_8_code
def yX11_tellIf : MethodName := ⟨RX11, "tellIf", "(Z)I"⟩
theorem dX11_tellIf_0 : dc cX11_tellIf 0 (.aload_n 0) 1 1 := ⟨by decide +kernel, rfl⟩
theorem dX11_tellIf_1 : dc cX11_tellIf 1 (.iload_n 1) 1 2 := ⟨by decide +kernel, rfl⟩
theorem dX11_tellIf_2 : dc cX11_tellIf 2 (.ifCond .eq 7) 3 5 := ⟨by decide +kernel, rfl⟩
theorem dX11_tellIf_5 : dc cX11_tellIf 5 (.iconst 1) 1 6 := ⟨by decide +kernel, rfl⟩
theorem dX11_tellIf_6 : dc cX11_tellIf 6 (.goto 4) 3 9 := ⟨by decide +kernel, rfl⟩
theorem dX11_tellIf_9 : dc cX11_tellIf 9 (.iconst 0) 1 10 := ⟨by decide +kernel, rfl⟩
theorem dX11_tellIf_10 : dc cX11_tellIf 10 (.invokevirtual 108) 3 13 := ⟨by decide +kernel, rfl⟩
theorem dX11_tellIf_13 : dc cX11_tellIf 13 (.ireturn) 1 14 := ⟨by decide +kernel, rfl⟩
theorem nm_X11_tellIf : (yX11_tellIf).cls ≠ "java/lang/invoke/MethodHandle" ∧ (yX11_tellIf).cls ≠ "java/lang/invoke/VarHandle" ∧ (parseMethodDescriptor (yX11_tellIf).desc).map (fun d => d.parameters.length) = some 1 := ⟨by decide +kernel, by decide +kernel, by decide +kernel⟩
set_option maxRecDepth 100000 in
set_option maxHeartbeats 4000000 in
theorem c_X11_tellIf {l : Launch} {ad : Nat → Nat} {cy : Nat → ClassId} {D : va_G} {z : Nat} {a0 : Nat} {p1 : Int32} {M : KM} {y : (Int32 × KM)} (h0 : kty a0 = 11) (hf : f_X11_tellIf a0 p1 M = y) : KC l ad cy D z yX11_tellIf cX11_tellIf 2 (some .int) 2 [.ref (ad a0), .int p1] M (some (.int y.1), y.2) := by
  refine kv_enter (by decide +kernel) (Nat.le_of_ble_eq_true rfl) ?_
  intro x hl hD hz G
  subst hl hD hz
  unfold f_X11_tellIf at hf
  have G : KG ad cy x cX11_tellIf "NoonGuides" 2 (some (some .int)) 2 := G
  show KV ad cy x (some (.int y.1), y.2) 0 [(0, .ref (ad a0)), (1, .int p1)] [] M
  refine v_aload_n G dX11_tellIf_0 0 rfl ?_
  refine v_iload_n G dX11_tellIf_1 1 rfl ?_
  obtain ⟨j10, ej10, hf⟩ := lt_j hf
  have hj10 : ∀ (x1 : Int32), j10 x1 = y → KV ad cy x (some (.int y.1), y.2) 10 [] [.int x1, .ref (ad a0)] M := by
    intro x1 hf
    rw [ej10] at hf
    obtain ⟨v2, hcv2⟩ : ∃ q, f_X11_tell a0 x1 M = q := ⟨_, rfl⟩
    replace hf := lt_e hf hcv2.symm
    refine v_callV [.int x1] G (c_X11_tell h0 hcv2) h0 (by decide) rfl rfl rfl t_521 t_523 t_p0 t_1 t_524 nm_X11_tell (by decide) (by decide) rfl rfl (Nat.le_of_ble_eq_true rfl) dX11_tellIf_10 (kv_ri ?_)
    obtain rfl := hf
    exact v_iret G dX11_tellIf_13
  refine v_if_eq 9 G dX11_tellIf_2 (by decide) (fun h3 => ?_) (fun h3 => ?_)
  · replace hf := (if_pos h3).symm.trans hf
    refine v_iconst (0 : Int32) G dX11_tellIf_9 (by decide) ?_
    refine v_sub _ [] rfl ?_
    exact hj10 (0 : Int32) hf
  · replace hf := (if_neg h3).symm.trans hf
    refine v_iconst (1 : Int32) G dX11_tellIf_5 (by decide) ?_
    refine v_goto 10 G dX11_tellIf_6 (by decide) ?_
    refine v_sub _ [] rfl ?_
    exact hj10 (1 : Int32) hf
abbrev cX11_succeed : ByteArray := prog_1_method_10_code
def yX11_succeed : MethodName := ⟨RX11, "succeed", "()Z"⟩
theorem dX11_succeed_0 : dc cX11_succeed 0 (.aload_n 0) 1 1 := ⟨by decide +kernel, rfl⟩
theorem dX11_succeed_1 : dc cX11_succeed 1 (.iconst 0) 1 2 := ⟨by decide +kernel, rfl⟩
theorem dX11_succeed_2 : dc cX11_succeed 2 (.putfield 98) 3 5 := ⟨by decide +kernel, rfl⟩
theorem dX11_succeed_5 : dc cX11_succeed 5 (.iconst 1) 1 6 := ⟨by decide +kernel, rfl⟩
theorem dX11_succeed_6 : dc cX11_succeed 6 (.ireturn) 1 7 := ⟨by decide +kernel, rfl⟩
theorem nm_X11_succeed : (yX11_succeed).cls ≠ "java/lang/invoke/MethodHandle" ∧ (yX11_succeed).cls ≠ "java/lang/invoke/VarHandle" ∧ (parseMethodDescriptor (yX11_succeed).desc).map (fun d => d.parameters.length) = some 0 := ⟨by decide +kernel, by decide +kernel, by decide +kernel⟩
set_option maxRecDepth 100000 in
theorem z_X11_succeed {a0 : Nat} {M : KM} {y : (Int32 × KM)} (hf : f_X11_succeed a0 M = y) : (y.1 = 0 ∨ y.1 = 1) := by
  unfold f_X11_succeed at hf
  obtain ⟨M1, eM1⟩ : ∃ q : KM, q = (uI M a0 15 (0 : Int32)) := ⟨_, rfl⟩
  replace hf := lt_e hf eM1
  obtain rfl := hf
  exact (Or.inr rfl)
set_option maxRecDepth 100000 in
set_option maxHeartbeats 4000000 in
theorem c_X11_succeed {l : Launch} {ad : Nat → Nat} {cy : Nat → ClassId} {D : va_G} {z : Nat} {a0 : Nat} {M : KM} {y : (Int32 × KM)} (h0 : kty a0 = 11) (hf : f_X11_succeed a0 M = y) : KC l ad cy D z yX11_succeed cX11_succeed 1 (some .boolean) 1 [.ref (ad a0)] M (some (.int y.1), y.2) := by
  refine kv_enter (by decide +kernel) (Nat.le_of_ble_eq_true rfl) ?_
  intro x hl hD hz G
  subst hl hD hz
  unfold f_X11_succeed at hf
  have G : KG ad cy x cX11_succeed "NoonGuides" 1 (some (some .boolean)) 1 := G
  show KV ad cy x (some (.int y.1), y.2) 0 [(0, .ref (ad a0))] [] M
  refine v_aload_n G dX11_succeed_0 0 rfl ?_
  refine v_iconst (0 : Int32) G dX11_succeed_1 (by decide) ?_
  refine pf_11_15 G h0 t_472 (Or.inl rfl) dX11_succeed_2 ?_
  refine v_nmM (fun M1 eM1 => ?_)
  replace hf := lt_e hf eM1
  refine v_iconst (1 : Int32) G dX11_succeed_5 (by decide) ?_
  obtain rfl := hf
  exact v_zret G (Or.inr rfl) dX11_succeed_6
abbrev cX11_deny : ByteArray := prog_1_method_11_code
def yX11_deny : MethodName := ⟨RX11, "deny", "(I)Z"⟩
theorem dX11_deny_0 : dc cX11_deny 0 (.aload_n 0) 1 1 := ⟨by decide +kernel, rfl⟩
theorem dX11_deny_1 : dc cX11_deny 1 (.iload_n 1) 1 2 := ⟨by decide +kernel, rfl⟩
theorem dX11_deny_2 : dc cX11_deny 2 (.putfield 98) 3 5 := ⟨by decide +kernel, rfl⟩
theorem dX11_deny_5 : dc cX11_deny 5 (.iconst 0) 1 6 := ⟨by decide +kernel, rfl⟩
theorem dX11_deny_6 : dc cX11_deny 6 (.ireturn) 1 7 := ⟨by decide +kernel, rfl⟩
theorem nm_X11_deny : (yX11_deny).cls ≠ "java/lang/invoke/MethodHandle" ∧ (yX11_deny).cls ≠ "java/lang/invoke/VarHandle" ∧ (parseMethodDescriptor (yX11_deny).desc).map (fun d => d.parameters.length) = some 1 := ⟨by decide +kernel, by decide +kernel, by decide +kernel⟩
set_option maxRecDepth 100000 in
theorem z_X11_deny {a0 : Nat} {p1 : Int32} {M : KM} {y : (Int32 × KM)} (hf : f_X11_deny a0 p1 M = y) : (y.1 = 0 ∨ y.1 = 1) := by
  unfold f_X11_deny at hf
  obtain ⟨M1, eM1⟩ : ∃ q : KM, q = (uI M a0 15 p1) := ⟨_, rfl⟩
  replace hf := lt_e hf eM1
  obtain rfl := hf
  exact (Or.inl rfl)
set_option maxRecDepth 100000 in
set_option maxHeartbeats 4000000 in
theorem c_X11_deny {l : Launch} {ad : Nat → Nat} {cy : Nat → ClassId} {D : va_G} {z : Nat} {a0 : Nat} {p1 : Int32} {M : KM} {y : (Int32 × KM)} (h0 : kty a0 = 11) (hf : f_X11_deny a0 p1 M = y) : KC l ad cy D z yX11_deny cX11_deny 2 (some .boolean) 1 [.ref (ad a0), .int p1] M (some (.int y.1), y.2) := by
  refine kv_enter (by decide +kernel) (Nat.le_of_ble_eq_true rfl) ?_
  intro x hl hD hz G
  subst hl hD hz
  unfold f_X11_deny at hf
  have G : KG ad cy x cX11_deny "NoonGuides" 2 (some (some .boolean)) 1 := G
  show KV ad cy x (some (.int y.1), y.2) 0 [(0, .ref (ad a0)), (1, .int p1)] [] M
  refine v_aload_n G dX11_deny_0 0 rfl ?_
  refine v_iload_n G dX11_deny_1 1 rfl ?_
  refine pf_11_15 G h0 t_472 (Or.inl rfl) dX11_deny_2 ?_
  refine v_nmM (fun M1 eM1 => ?_)
  replace hf := lt_e hf eM1
  refine v_iconst (0 : Int32) G dX11_deny_5 (by decide) ?_
  obtain rfl := hf
  exact v_zret G (Or.inl rfl) dX11_deny_6
abbrev cX11_feedOne : ByteArray := prog_1_method_21_code
def yX11_feedOne : MethodName := ⟨RX11, "feedOne", "(I)V"⟩
theorem dX11_feedOne_0 : dc cX11_feedOne 0 (.bipush 24) 2 2 := ⟨by decide +kernel, rfl⟩
theorem dX11_feedOne_2 : dc cX11_feedOne 2 (.istore_n 2) 1 3 := ⟨by decide +kernel, rfl⟩
theorem dX11_feedOne_3 : dc cX11_feedOne 3 (.iload_n 2) 1 4 := ⟨by decide +kernel, rfl⟩
theorem dX11_feedOne_4 : dc cX11_feedOne 4 (.ifCond .lt 42) 3 7 := ⟨by decide +kernel, rfl⟩
theorem dX11_feedOne_7 : dc cX11_feedOne 7 (.aload_n 0) 1 8 := ⟨by decide +kernel, rfl⟩
theorem dX11_feedOne_8 : dc cX11_feedOne 8 (.getfield 159) 3 11 := ⟨by decide +kernel, rfl⟩
theorem dX11_feedOne_11 : dc cX11_feedOne 11 (.sipush 900) 3 14 := ⟨by decide +kernel, rfl⟩
theorem dX11_feedOne_14 : dc cX11_feedOne 14 (.if_icmp .ge 32) 3 17 := ⟨by decide +kernel, rfl⟩
theorem dX11_feedOne_17 : dc cX11_feedOne 17 (.aload_n 0) 1 18 := ⟨by decide +kernel, rfl⟩
theorem dX11_feedOne_18 : dc cX11_feedOne 18 (.getfield 15) 3 21 := ⟨by decide +kernel, rfl⟩
theorem dX11_feedOne_21 : dc cX11_feedOne 21 (.aload_n 0) 1 22 := ⟨by decide +kernel, rfl⟩
theorem dX11_feedOne_22 : dc cX11_feedOne 22 (.getfield 159) 3 25 := ⟨by decide +kernel, rfl⟩
theorem dX11_feedOne_25 : dc cX11_feedOne 25 (.iload_n 1) 1 26 := ⟨by decide +kernel, rfl⟩
theorem dX11_feedOne_26 : dc cX11_feedOne 26 (.iload_n 2) 1 27 := ⟨by decide +kernel, rfl⟩
theorem dX11_feedOne_27 : dc cX11_feedOne 27 (.ishr) 1 28 := ⟨by decide +kernel, rfl⟩
theorem dX11_feedOne_28 : dc cX11_feedOne 28 (.i2b) 1 29 := ⟨by decide +kernel, rfl⟩
theorem dX11_feedOne_29 : dc cX11_feedOne 29 (.bastore) 1 30 := ⟨by decide +kernel, rfl⟩
theorem dX11_feedOne_30 : dc cX11_feedOne 30 (.aload_n 0) 1 31 := ⟨by decide +kernel, rfl⟩
theorem dX11_feedOne_31 : dc cX11_feedOne 31 (.dup) 1 32 := ⟨by decide +kernel, rfl⟩
theorem dX11_feedOne_32 : dc cX11_feedOne 32 (.getfield 159) 3 35 := ⟨by decide +kernel, rfl⟩
theorem dX11_feedOne_35 : dc cX11_feedOne 35 (.iconst 1) 1 36 := ⟨by decide +kernel, rfl⟩
theorem dX11_feedOne_36 : dc cX11_feedOne 36 (.iadd) 1 37 := ⟨by decide +kernel, rfl⟩
theorem dX11_feedOne_37 : dc cX11_feedOne 37 (.putfield 159) 3 40 := ⟨by decide +kernel, rfl⟩
theorem dX11_feedOne_40 : dc cX11_feedOne 40 (.iinc 2 (-8)) 3 43 := ⟨by decide +kernel, rfl⟩
theorem dX11_feedOne_43 : dc cX11_feedOne 43 (.goto (-40)) 3 46 := ⟨by decide +kernel, rfl⟩
theorem dX11_feedOne_46 : dc cX11_feedOne 46 (.return_) 1 47 := ⟨by decide +kernel, rfl⟩
theorem nm_X11_feedOne : (yX11_feedOne).cls ≠ "java/lang/invoke/MethodHandle" ∧ (yX11_feedOne).cls ≠ "java/lang/invoke/VarHandle" ∧ (parseMethodDescriptor (yX11_feedOne).desc).map (fun d => d.parameters.length) = some 1 := ⟨by decide +kernel, by decide +kernel, by decide +kernel⟩
set_option maxRecDepth 100000 in
set_option maxHeartbeats 4000000 in
theorem s_X11_feedOne_3 {ad : Nat → Nat} {cy : Nat → ClassId} {x : KX} (G : KG ad cy x cX11_feedOne "NoonGuides" 3 (some none) 1) {a0 : Nat} {c1 : Int32} (h0 : kty a0 = 11) {y : KM} : ∀ (n : Nat) (w2 : Int32) (M : KM), lp_X11_feedOne_3 n a0 c1 w2 M = some y → KV ad cy x (none, y) 3 [(0, .ref (ad a0)), (1, .int c1), (2, .int w2)] [] M := by
  intro n
  induction n with
  | zero =>
    intro w2 M hf
    cases hf
  | succ n ih =>
    intro w2 M hf
    rw [lp_X11_feedOne_3] at hf
    refine v_iload_n G dX11_feedOne_3 2 rfl ?_
    refine v_if_lt 46 G dX11_feedOne_4 (by decide) (fun h6 => ?_) (fun h6 => ?_)
    · replace hf := (if_pos h6).symm.trans hf
      obtain rfl := Option.some.inj hf
      exact v_vret G dX11_feedOne_46
    · replace hf := (if_neg h6).symm.trans hf
      refine v_aload_n G dX11_feedOne_7 0 rfl ?_
      refine gf_11_13 G h0 t_470 (Or.inl rfl) dX11_feedOne_8 ?_
      refine v_sipush (900 : Int32) G dX11_feedOne_11 (by decide) ?_
      refine v_icmp_ge 46 G dX11_feedOne_14 (by decide) (fun h5 => ?_) (fun h5 => ?_)
      · replace hf := (if_pos h5).symm.trans hf
        obtain rfl := Option.some.inj hf
        exact v_vret G dX11_feedOne_46
      · replace hf := (if_neg h5).symm.trans hf
        refine v_aload_n G dX11_feedOne_17 0 rfl ?_
        refine gf_11_1 G h0 t_458 (Or.inl rfl) dX11_feedOne_18 ?_
        refine v_aload_n G dX11_feedOne_21 0 rfl ?_
        refine gf_11_13 G h0 t_470 (Or.inl rfl) dX11_feedOne_22 ?_
        refine v_iload_n G dX11_feedOne_25 1 rfl ?_
        refine v_iload_n G dX11_feedOne_26 2 rfl ?_
        refine v_ishr G dX11_feedOne_27 ?_
        refine v_i2b G dX11_feedOne_28 ?_
        obtain ⟨g1, hf⟩ := gd_e hf
        refine as_21 G (kf_11_2 h0) g1 dX11_feedOne_29 ?_
        refine v_nmM (fun M2 eM2 => ?_)
        replace hf := lt_e hf eM2
        refine v_aload_n G dX11_feedOne_30 0 rfl ?_
        refine v_dup G dX11_feedOne_31 rfl ?_
        refine gf_11_13 G h0 t_470 (Or.inl rfl) dX11_feedOne_32 ?_
        refine v_iconst (1 : Int32) G dX11_feedOne_35 (by decide) ?_
        refine v_iadd G dX11_feedOne_36 ?_
        refine pf_11_13 G h0 t_470 (Or.inl rfl) dX11_feedOne_37 ?_
        refine v_nmM (fun M3 eM3 => ?_)
        replace hf := lt_e hf eM3
        obtain ⟨v4, ev4⟩ : ∃ q : Int32, q = w2 + (-8 : Int32) := ⟨_, rfl⟩
        replace hf := lt_e hf ev4
        refine v_iinc v4 [(2, .int v4), (0, .ref (ad a0)), (1, .int c1)] G dX11_feedOne_40 2 rfl (by rw [ev4]; rfl) (by decide) rfl ?_
        refine v_goto 3 G dX11_feedOne_43 (by decide) ?_
        refine v_sub _ [1, 2, 0] rfl ?_
        exact ih v4 M3 hf
set_option maxRecDepth 100000 in
set_option maxHeartbeats 4000000 in
theorem c_X11_feedOne {l : Launch} {ad : Nat → Nat} {cy : Nat → ClassId} {D : va_G} {z : Nat} (n : Nat) {a0 : Nat} {p1 : Int32} {M : KM} {y : KM} (h0 : kty a0 = 11) (hf : f_X11_feedOne n a0 p1 M = some y) : KC l ad cy D z yX11_feedOne cX11_feedOne 3 none 1 [.ref (ad a0), .int p1] M (none, y) := by
  refine kv_enter (by decide +kernel) (Nat.le_of_ble_eq_true rfl) ?_
  intro x hl hD hz G
  subst hl hD hz
  unfold f_X11_feedOne at hf
  have G : KG ad cy x cX11_feedOne "NoonGuides" 3 (some none) 1 := G
  show KV ad cy x (none, y) 0 [(0, .ref (ad a0)), (1, .int p1)] [] M
  refine v_bipush (24 : Int32) G dX11_feedOne_0 (by decide) ?_
  refine v_istore_n [(2, .int (24 : Int32)), (0, .ref (ad a0)), (1, .int p1)] G dX11_feedOne_2 (by decide) rfl ?_
  refine v_sub _ [1, 2, 0] rfl ?_
  refine s_X11_feedOne_3 G h0 n (24 : Int32) M hf
abbrev cX11_feed : ByteArray := prog_1_method_20_code
def yX11_feed : MethodName := ⟨RX11, "feed", "(IIIII)I"⟩
theorem dX11_feed_0 : dc cX11_feed 0 (.aload_n 0) 1 1 := ⟨by decide +kernel, rfl⟩
theorem dX11_feed_1 : dc cX11_feed 1 (.getfield 159) 3 4 := ⟨by decide +kernel, rfl⟩
theorem dX11_feed_4 : dc cX11_feed 4 (.bipush 20) 2 6 := ⟨by decide +kernel, rfl⟩
theorem dX11_feed_6 : dc cX11_feed 6 (.iadd) 1 7 := ⟨by decide +kernel, rfl⟩
theorem dX11_feed_7 : dc cX11_feed 7 (.sipush 900) 3 10 := ⟨by decide +kernel, rfl⟩
theorem dX11_feed_10 : dc cX11_feed 10 (.if_icmp .le 5) 3 13 := ⟨by decide +kernel, rfl⟩
theorem dX11_feed_13 : dc cX11_feed 13 (.iconst (-1)) 1 14 := ⟨by decide +kernel, rfl⟩
theorem dX11_feed_14 : dc cX11_feed 14 (.ireturn) 1 15 := ⟨by decide +kernel, rfl⟩
theorem dX11_feed_15 : dc cX11_feed 15 (.aload_n 0) 1 16 := ⟨by decide +kernel, rfl⟩
theorem dX11_feed_16 : dc cX11_feed 16 (.iload_n 1) 1 17 := ⟨by decide +kernel, rfl⟩
theorem dX11_feed_17 : dc cX11_feed 17 (.invokevirtual 162) 3 20 := ⟨by decide +kernel, rfl⟩
theorem dX11_feed_20 : dc cX11_feed 20 (.aload_n 0) 1 21 := ⟨by decide +kernel, rfl⟩
theorem dX11_feed_21 : dc cX11_feed 21 (.iload_n 2) 1 22 := ⟨by decide +kernel, rfl⟩
theorem dX11_feed_22 : dc cX11_feed 22 (.invokevirtual 162) 3 25 := ⟨by decide +kernel, rfl⟩
theorem dX11_feed_25 : dc cX11_feed 25 (.aload_n 0) 1 26 := ⟨by decide +kernel, rfl⟩
theorem dX11_feed_26 : dc cX11_feed 26 (.iload_n 3) 1 27 := ⟨by decide +kernel, rfl⟩
theorem dX11_feed_27 : dc cX11_feed 27 (.invokevirtual 162) 3 30 := ⟨by decide +kernel, rfl⟩
theorem dX11_feed_30 : dc cX11_feed 30 (.aload_n 0) 1 31 := ⟨by decide +kernel, rfl⟩
theorem dX11_feed_31 : dc cX11_feed 31 (.iload 4) 2 33 := ⟨by decide +kernel, rfl⟩
theorem dX11_feed_33 : dc cX11_feed 33 (.invokevirtual 162) 3 36 := ⟨by decide +kernel, rfl⟩
theorem dX11_feed_36 : dc cX11_feed 36 (.aload_n 0) 1 37 := ⟨by decide +kernel, rfl⟩
theorem dX11_feed_37 : dc cX11_feed 37 (.iload 5) 2 39 := ⟨by decide +kernel, rfl⟩
theorem dX11_feed_39 : dc cX11_feed 39 (.invokevirtual 162) 3 42 := ⟨by decide +kernel, rfl⟩
theorem dX11_feed_42 : dc cX11_feed 42 (.aload_n 0) 1 43 := ⟨by decide +kernel, rfl⟩
theorem dX11_feed_43 : dc cX11_feed 43 (.getfield 159) 3 46 := ⟨by decide +kernel, rfl⟩
theorem dX11_feed_46 : dc cX11_feed 46 (.ireturn) 1 47 := ⟨by decide +kernel, rfl⟩
theorem nm_X11_feed : (yX11_feed).cls ≠ "java/lang/invoke/MethodHandle" ∧ (yX11_feed).cls ≠ "java/lang/invoke/VarHandle" ∧ (parseMethodDescriptor (yX11_feed).desc).map (fun d => d.parameters.length) = some 5 := ⟨by decide +kernel, by decide +kernel, by decide +kernel⟩
set_option maxRecDepth 100000 in
set_option maxHeartbeats 4000000 in
theorem c_X11_feed {l : Launch} {ad : Nat → Nat} {cy : Nat → ClassId} {D : va_G} {z : Nat} (n : Nat) {a0 : Nat} {p1 : Int32} {p2 : Int32} {p3 : Int32} {p4 : Int32} {p5 : Int32} {M : KM} {y : (Int32 × KM)} (h0 : kty a0 = 11) (hf : f_X11_feed n a0 p1 p2 p3 p4 p5 M = some y) : KC l ad cy D z yX11_feed cX11_feed 6 (some .int) 2 [.ref (ad a0), .int p1, .int p2, .int p3, .int p4, .int p5] M (some (.int y.1), y.2) := by
  refine kv_enter (by decide +kernel) (Nat.le_of_ble_eq_true rfl) ?_
  intro x hl hD hz G
  subst hl hD hz
  unfold f_X11_feed at hf
  have G : KG ad cy x cX11_feed "NoonGuides" 6 (some (some .int)) 2 := G
  show KV ad cy x (some (.int y.1), y.2) 0 [(0, .ref (ad a0)), (1, .int p1), (2, .int p2), (3, .int p3), (4, .int p4), (5, .int p5)] [] M
  refine v_aload_n G dX11_feed_0 0 rfl ?_
  refine gf_11_13 G h0 t_470 (Or.inl rfl) dX11_feed_1 ?_
  refine v_bipush (20 : Int32) G dX11_feed_4 (by decide) ?_
  refine v_iadd G dX11_feed_6 ?_
  refine v_sipush (900 : Int32) G dX11_feed_7 (by decide) ?_
  refine v_icmp_le 15 G dX11_feed_10 (by decide) (fun h6 => ?_) (fun h6 => ?_)
  · replace hf := (if_pos h6).symm.trans hf
    refine v_aload_n G dX11_feed_15 0 rfl ?_
    refine v_iload_n G dX11_feed_16 1 rfl ?_
    obtain ⟨v1, hcv1, hf⟩ := bd_e hf
    refine v_callV [.int p1] G (c_X11_feedOne n h0 hcv1) h0 (by decide) rfl rfl rfl t_955 t_957 t_p23 t_1 t_958 nm_X11_feedOne (by decide) (by decide) rfl rfl (Nat.le_of_ble_eq_true rfl) dX11_feed_17 (kv_rv ?_)
    refine v_aload_n G dX11_feed_20 0 rfl ?_
    refine v_iload_n G dX11_feed_21 2 rfl ?_
    obtain ⟨v2, hcv2, hf⟩ := bd_e hf
    refine v_callV [.int p2] G (c_X11_feedOne n h0 hcv2) h0 (by decide) rfl rfl rfl t_955 t_957 t_p23 t_1 t_958 nm_X11_feedOne (by decide) (by decide) rfl rfl (Nat.le_of_ble_eq_true rfl) dX11_feed_22 (kv_rv ?_)
    refine v_aload_n G dX11_feed_25 0 rfl ?_
    refine v_iload_n G dX11_feed_26 3 rfl ?_
    obtain ⟨v3, hcv3, hf⟩ := bd_e hf
    refine v_callV [.int p3] G (c_X11_feedOne n h0 hcv3) h0 (by decide) rfl rfl rfl t_955 t_957 t_p23 t_1 t_958 nm_X11_feedOne (by decide) (by decide) rfl rfl (Nat.le_of_ble_eq_true rfl) dX11_feed_27 (kv_rv ?_)
    refine v_aload_n G dX11_feed_30 0 rfl ?_
    refine v_iload G dX11_feed_31 4 rfl ?_
    obtain ⟨v4, hcv4, hf⟩ := bd_e hf
    refine v_callV [.int p4] G (c_X11_feedOne n h0 hcv4) h0 (by decide) rfl rfl rfl t_955 t_957 t_p23 t_1 t_958 nm_X11_feedOne (by decide) (by decide) rfl rfl (Nat.le_of_ble_eq_true rfl) dX11_feed_33 (kv_rv ?_)
    refine v_aload_n G dX11_feed_36 0 rfl ?_
    refine v_iload G dX11_feed_37 5 rfl ?_
    obtain ⟨v5, hcv5, hf⟩ := bd_e hf
    refine v_callV [.int p5] G (c_X11_feedOne n h0 hcv5) h0 (by decide) rfl rfl rfl t_955 t_957 t_p23 t_1 t_958 nm_X11_feedOne (by decide) (by decide) rfl rfl (Nat.le_of_ble_eq_true rfl) dX11_feed_39 (kv_rv ?_)
    refine v_aload_n G dX11_feed_42 0 rfl ?_
    refine gf_11_13 G h0 t_470 (Or.inl rfl) dX11_feed_43 ?_
    obtain rfl := Option.some.inj hf
    exact v_iret G dX11_feed_46
  · replace hf := (if_neg h6).symm.trans hf
    refine v_iconst (-1 : Int32) G dX11_feed_13 (by decide) ?_
    obtain rfl := Option.some.inj hf
    exact v_iret G dX11_feed_14
abbrev cX11_keepFault : ByteArray := prog_1_method_24_code
def yX11_keepFault : MethodName := ⟨RX11, "keepFault", "(LNoonGuides$TextReader;)V"⟩
theorem dX11_keepFault_0 : dc cX11_keepFault 0 (.aload_n 0) 1 1 := ⟨by decide +kernel, rfl⟩
theorem dX11_keepFault_1 : dc cX11_keepFault 1 (.iconst 0) 1 2 := ⟨by decide +kernel, rfl⟩
theorem dX11_keepFault_2 : dc cX11_keepFault 2 (.putfield 159) 3 5 := ⟨by decide +kernel, rfl⟩
theorem dX11_keepFault_5 : dc cX11_keepFault 5 (.aload_n 0) 1 6 := ⟨by decide +kernel, rfl⟩
theorem dX11_keepFault_6 : dc cX11_keepFault 6 (.aload_n 1) 1 7 := ⟨by decide +kernel, rfl⟩
theorem dX11_keepFault_7 : dc cX11_keepFault 7 (.getfield 186) 3 10 := ⟨by decide +kernel, rfl⟩
theorem dX11_keepFault_10 : dc cX11_keepFault 10 (.putfield 86) 3 13 := ⟨by decide +kernel, rfl⟩
theorem dX11_keepFault_13 : dc cX11_keepFault 13 (.aload_n 0) 1 14 := ⟨by decide +kernel, rfl⟩
theorem dX11_keepFault_14 : dc cX11_keepFault 14 (.aload_n 1) 1 15 := ⟨by decide +kernel, rfl⟩
theorem dX11_keepFault_15 : dc cX11_keepFault 15 (.getfield 189) 3 18 := ⟨by decide +kernel, rfl⟩
theorem dX11_keepFault_18 : dc cX11_keepFault 18 (.putfield 90) 3 21 := ⟨by decide +kernel, rfl⟩
theorem dX11_keepFault_21 : dc cX11_keepFault 21 (.return_) 1 22 := ⟨by decide +kernel, rfl⟩
theorem nm_X11_keepFault : (yX11_keepFault).cls ≠ "java/lang/invoke/MethodHandle" ∧ (yX11_keepFault).cls ≠ "java/lang/invoke/VarHandle" ∧ (parseMethodDescriptor (yX11_keepFault).desc).map (fun d => d.parameters.length) = some 1 := ⟨by decide +kernel, by decide +kernel, by decide +kernel⟩
set_option maxRecDepth 100000 in
set_option maxHeartbeats 4000000 in
theorem c_X11_keepFault_L {l : Launch} {ad : Nat → Nat} {cy : Nat → ClassId} {D : va_G} {z : Nat} {a0 : Nat} {a1 : Nat} {M : KM} {y : KM} (h0 : kty a0 = 11) (h1 : kty a1 = 4) (hf : f_X11_keepFault a0 a1 M = y) : KC l ad cy D z yX11_keepFault cX11_keepFault 2 none 1 [.ref (ad a0), .ref (ad a1)] M (none, y) := by
  refine kv_enter (by decide +kernel) (Nat.le_of_ble_eq_true rfl) ?_
  intro x hl hD hz G
  subst hl hD hz
  unfold f_X11_keepFault at hf
  have G : KG ad cy x cX11_keepFault "NoonGuides" 2 (some none) 1 := G
  show KV ad cy x (none, y) 0 [(0, .ref (ad a0)), (1, .ref (ad a1))] [] M
  refine v_aload_n G dX11_keepFault_0 0 rfl ?_
  refine v_iconst (0 : Int32) G dX11_keepFault_1 (by decide) ?_
  refine pf_11_13 G h0 t_470 (Or.inl rfl) dX11_keepFault_2 ?_
  refine v_nmM (fun M1 eM1 => ?_)
  replace hf := lt_e hf eM1
  refine v_aload_n G dX11_keepFault_5 0 rfl ?_
  refine v_aload_n G dX11_keepFault_6 1 rfl ?_
  refine gf_3_4 G h1 t_99 (Or.inl rfl) dX11_keepFault_7 ?_
  refine pf_11_16 G h0 t_473 (Or.inl rfl) dX11_keepFault_10 ?_
  refine v_nmM (fun M2 eM2 => ?_)
  replace hf := lt_e hf eM2
  refine v_aload_n G dX11_keepFault_13 0 rfl ?_
  refine v_aload_n G dX11_keepFault_14 1 rfl ?_
  refine gf_3_5 G h1 t_101 (Or.inl rfl) dX11_keepFault_15 ?_
  refine pf_11_17 G h0 t_474 (Or.inl rfl) dX11_keepFault_18 ?_
  refine v_nmM (fun M3 eM3 => ?_)
  replace hf := lt_e hf eM3
  obtain rfl := hf
  exact v_vret G dX11_keepFault_21
set_option maxRecDepth 100000 in
set_option maxHeartbeats 4000000 in
theorem c_X11_keepFault_D {l : Launch} {ad : Nat → Nat} {cy : Nat → ClassId} {D : va_G} {z : Nat} {a0 : Nat} {a1 : Nat} {M : KM} {y : KM} (h0 : kty a0 = 11) (h1 : kty a1 = 1) (hf : f_X11_keepFault a0 a1 M = y) : KC l ad cy D z yX11_keepFault cX11_keepFault 2 none 1 [.ref (ad a0), .ref (ad a1)] M (none, y) := by
  refine kv_enter (by decide +kernel) (Nat.le_of_ble_eq_true rfl) ?_
  intro x hl hD hz G
  subst hl hD hz
  unfold f_X11_keepFault at hf
  have G : KG ad cy x cX11_keepFault "NoonGuides" 2 (some none) 1 := G
  show KV ad cy x (none, y) 0 [(0, .ref (ad a0)), (1, .ref (ad a1))] [] M
  refine v_aload_n G dX11_keepFault_0 0 rfl ?_
  refine v_iconst (0 : Int32) G dX11_keepFault_1 (by decide) ?_
  refine pf_11_13 G h0 t_470 (Or.inl rfl) dX11_keepFault_2 ?_
  refine v_nmM (fun M1 eM1 => ?_)
  replace hf := lt_e hf eM1
  refine v_aload_n G dX11_keepFault_5 0 rfl ?_
  refine v_aload_n G dX11_keepFault_6 1 rfl ?_
  refine gf_0_4 G h1 t_99 (Or.inl rfl) dX11_keepFault_7 ?_
  refine pf_11_16 G h0 t_473 (Or.inl rfl) dX11_keepFault_10 ?_
  refine v_nmM (fun M2 eM2 => ?_)
  replace hf := lt_e hf eM2
  refine v_aload_n G dX11_keepFault_13 0 rfl ?_
  refine v_aload_n G dX11_keepFault_14 1 rfl ?_
  refine gf_0_5 G h1 t_101 (Or.inl rfl) dX11_keepFault_15 ?_
  refine pf_11_17 G h0 t_474 (Or.inl rfl) dX11_keepFault_18 ?_
  refine v_nmM (fun M3 eM3 => ?_)
  replace hf := lt_e hf eM3
  obtain rfl := hf
  exact v_vret G dX11_keepFault_21
abbrev cX11_land : ByteArray := prog_1_method_22_code
def yX11_land : MethodName := ⟨RX11, "land", "(I)I"⟩
theorem dX11_land_0 : dc cX11_land 0 (.iload_n 1) 1 1 := ⟨by decide +kernel, rfl⟩
theorem dX11_land_1 : dc cX11_land 1 (.ifCond .lt 11) 3 4 := ⟨by decide +kernel, rfl⟩
theorem dX11_land_4 : dc cX11_land 4 (.iload_n 1) 1 5 := ⟨by decide +kernel, rfl⟩
theorem dX11_land_5 : dc cX11_land 5 (.aload_n 0) 1 6 := ⟨by decide +kernel, rfl⟩
theorem dX11_land_6 : dc cX11_land 6 (.getfield 159) 3 9 := ⟨by decide +kernel, rfl⟩
theorem dX11_land_9 : dc cX11_land 9 (.if_icmp .le 9) 3 12 := ⟨by decide +kernel, rfl⟩
theorem dX11_land_12 : dc cX11_land 12 (.aload_n 0) 1 13 := ⟨by decide +kernel, rfl⟩
theorem dX11_land_13 : dc cX11_land 13 (.iconst 5) 1 14 := ⟨by decide +kernel, rfl⟩
theorem dX11_land_14 : dc cX11_land 14 (.invokevirtual 104) 3 17 := ⟨by decide +kernel, rfl⟩
theorem dX11_land_17 : dc cX11_land 17 (.ireturn) 1 18 := ⟨by decide +kernel, rfl⟩
theorem dX11_land_18 : dc cX11_land 18 (.aload_n 0) 1 19 := ⟨by decide +kernel, rfl⟩
theorem dX11_land_19 : dc cX11_land 19 (.getfield 32) 3 22 := ⟨by decide +kernel, rfl⟩
theorem dX11_land_22 : dc cX11_land 22 (.aload_n 0) 1 23 := ⟨by decide +kernel, rfl⟩
theorem dX11_land_23 : dc cX11_land 23 (.getfield 76) 3 26 := ⟨by decide +kernel, rfl⟩
theorem dX11_land_26 : dc cX11_land 26 (.aload_n 0) 1 27 := ⟨by decide +kernel, rfl⟩
theorem dX11_land_27 : dc cX11_land 27 (.getfield 15) 3 30 := ⟨by decide +kernel, rfl⟩
theorem dX11_land_30 : dc cX11_land 30 (.iload_n 1) 1 31 := ⟨by decide +kernel, rfl⟩
theorem dX11_land_31 : dc cX11_land 31 (.invokevirtual 166) 3 34 := ⟨by decide +kernel, rfl⟩
theorem dX11_land_34 : dc cX11_land 34 (.istore_n 2) 1 35 := ⟨by decide +kernel, rfl⟩
theorem dX11_land_35 : dc cX11_land 35 (.aload_n 0) 1 36 := ⟨by decide +kernel, rfl⟩
theorem dX11_land_36 : dc cX11_land 36 (.aload_n 0) 1 37 := ⟨by decide +kernel, rfl⟩
theorem dX11_land_37 : dc cX11_land 37 (.getfield 32) 3 40 := ⟨by decide +kernel, rfl⟩
theorem dX11_land_40 : dc cX11_land 40 (.invokevirtual 170) 3 43 := ⟨by decide +kernel, rfl⟩
theorem dX11_land_43 : dc cX11_land 43 (.iload_n 2) 1 44 := ⟨by decide +kernel, rfl⟩
theorem dX11_land_44 : dc cX11_land 44 (.ifCond .ne 10) 3 47 := ⟨by decide +kernel, rfl⟩
theorem dX11_land_47 : dc cX11_land 47 (.aload_n 0) 1 48 := ⟨by decide +kernel, rfl⟩
theorem dX11_land_48 : dc cX11_land 48 (.bipush 10) 2 50 := ⟨by decide +kernel, rfl⟩
theorem dX11_land_50 : dc cX11_land 50 (.invokevirtual 104) 3 53 := ⟨by decide +kernel, rfl⟩
theorem dX11_land_53 : dc cX11_land 53 (.ireturn) 1 54 := ⟨by decide +kernel, rfl⟩
theorem dX11_land_54 : dc cX11_land 54 (.aload_n 0) 1 55 := ⟨by decide +kernel, rfl⟩
theorem dX11_land_55 : dc cX11_land 55 (.getfield 72) 3 58 := ⟨by decide +kernel, rfl⟩
theorem dX11_land_58 : dc cX11_land 58 (.astore_n 3) 1 59 := ⟨by decide +kernel, rfl⟩
theorem dX11_land_59 : dc cX11_land 59 (.aload_n 0) 1 60 := ⟨by decide +kernel, rfl⟩
theorem dX11_land_60 : dc cX11_land 60 (.aload_n 0) 1 61 := ⟨by decide +kernel, rfl⟩
theorem dX11_land_61 : dc cX11_land 61 (.getfield 76) 3 64 := ⟨by decide +kernel, rfl⟩
theorem dX11_land_64 : dc cX11_land 64 (.putfield 72) 3 67 := ⟨by decide +kernel, rfl⟩
theorem dX11_land_67 : dc cX11_land 67 (.aload_n 0) 1 68 := ⟨by decide +kernel, rfl⟩
theorem dX11_land_68 : dc cX11_land 68 (.aload_n 3) 1 69 := ⟨by decide +kernel, rfl⟩
theorem dX11_land_69 : dc cX11_land 69 (.putfield 76) 3 72 := ⟨by decide +kernel, rfl⟩
theorem dX11_land_72 : dc cX11_land 72 (.aload_n 0) 1 73 := ⟨by decide +kernel, rfl⟩
theorem dX11_land_73 : dc cX11_land 73 (.aload_n 0) 1 74 := ⟨by decide +kernel, rfl⟩
theorem dX11_land_74 : dc cX11_land 74 (.getfield 72) 3 77 := ⟨by decide +kernel, rfl⟩
theorem dX11_land_77 : dc cX11_land 77 (.getfield 174) 3 80 := ⟨by decide +kernel, rfl⟩
theorem dX11_land_80 : dc cX11_land 80 (.invokevirtual 108) 3 83 := ⟨by decide +kernel, rfl⟩
theorem dX11_land_83 : dc cX11_land 83 (.ireturn) 1 84 := ⟨by decide +kernel, rfl⟩
theorem nm_X11_land : (yX11_land).cls ≠ "java/lang/invoke/MethodHandle" ∧ (yX11_land).cls ≠ "java/lang/invoke/VarHandle" ∧ (parseMethodDescriptor (yX11_land).desc).map (fun d => d.parameters.length) = some 1 := ⟨by decide +kernel, by decide +kernel, by decide +kernel⟩
set_option maxRecDepth 100000 in
set_option maxHeartbeats 4000000 in
theorem c_X11_land {l : Launch} {ad : Nat → Nat} {cy : Nat → ClassId} {D : va_G} {z : Nat} (n : Nat) {a0 : Nat} {p1 : Int32} {M : KM} {y : (Int32 × KM)} (h0 : kty a0 = 11) (hf : f_X11_land n a0 p1 M = some y) : KC l ad cy D z yX11_land cX11_land 4 (some .int) 8 [.ref (ad a0), .int p1] M (some (.int y.1), y.2) := by
  refine kv_enter (by decide +kernel) (Nat.le_of_ble_eq_true rfl) ?_
  intro x hl hD hz G
  subst hl hD hz
  unfold f_X11_land at hf
  have G : KG ad cy x cX11_land "NoonGuides" 4 (some (some .int)) 8 := G
  show KV ad cy x (some (.int y.1), y.2) 0 [(0, .ref (ad a0)), (1, .int p1)] [] M
  refine v_iload_n G dX11_land_0 1 rfl ?_
  obtain ⟨j12, ej12, hf⟩ := lt_j hf
  have hj12 : j12 = some y → KV ad cy x (some (.int y.1), y.2) 12 [(0, .ref (ad a0))] [] M := by
    intro hf
    rw [ej12] at hf
    refine v_aload_n G dX11_land_12 0 rfl ?_
    refine v_iconst (5 : Int32) G dX11_land_13 (by decide) ?_
    obtain ⟨v1, hcv1⟩ : ∃ q, f_X11_refuse a0 (5 : Int32) M = q := ⟨_, rfl⟩
    replace hf := lt_e hf hcv1.symm
    refine v_callV [.int (5 : Int32)] G (c_X11_refuse h0 hcv1) h0 (by decide) rfl rfl rfl t_557 t_559 t_p2 t_1 t_560 nm_X11_refuse (by decide) (by decide) rfl rfl (Nat.le_of_ble_eq_true rfl) dX11_land_14 (kv_ri ?_)
    obtain rfl := Option.some.inj hf
    exact v_iret G dX11_land_17
  refine v_if_lt 12 G dX11_land_1 (by decide) (fun h15 => ?_) (fun h15 => ?_)
  · replace hf := (if_pos h15).symm.trans hf
    refine v_sub _ [0] rfl ?_
    exact hj12 hf
  · replace hf := (if_neg h15).symm.trans hf
    refine v_iload_n G dX11_land_4 1 rfl ?_
    refine v_aload_n G dX11_land_5 0 rfl ?_
    refine gf_11_13 G h0 t_470 (Or.inl rfl) dX11_land_6 ?_
    refine v_icmp_le 18 G dX11_land_9 (by decide) (fun h14 => ?_) (fun h14 => ?_)
    · replace hf := (if_pos h14).symm.trans hf
      refine v_aload_n G dX11_land_18 0 rfl ?_
      refine gf_11_4 G h0 t_461 (Or.inl rfl) dX11_land_19 ?_
      refine v_aload_n G dX11_land_22 0 rfl ?_
      refine gf_11_11 G h0 t_468 (Or.inl rfl) dX11_land_23 ?_
      refine v_kt (fun hKT => ?_)
      have hk2 := hKT.2.1 _ h0
      refine v_aload_n G dX11_land_26 0 rfl ?_
      refine gf_11_1 G h0 t_458 (Or.inl rfl) dX11_land_27 ?_
      refine v_iload_n G dX11_land_30 1 rfl ?_
      obtain ⟨v3, hcv3, hf⟩ := bd_e hf
      refine v_callV [.ref (ad (M.2.2 a0 11)), .ref (ad (a0 + 2)), .int p1] G (c_X3_readInto n (kf_11_5 h0) hk2 (Or.inl (kf_11_2 h0)) hcv3) (kf_11_5 h0) (by decide) rfl rfl rfl t_987 t_988 t_989 t_3 t_990 nm_X3_readInto (by decide) (by decide) rfl rfl (Nat.le_of_ble_eq_true rfl) dX11_land_31 (kv_ri ?_)
      refine v_istore_n [(2, .int v3.1), (0, .ref (ad a0)), (1, .int p1)] G dX11_land_34 (by decide) rfl ?_
      refine v_aload_n G dX11_land_35 1 rfl ?_
      refine v_aload_n G dX11_land_36 1 rfl ?_
      refine gf_11_4 G h0 t_461 (Or.inl rfl) dX11_land_37 ?_
      obtain ⟨v4, hcv4⟩ : ∃ q, f_X11_keepFault a0 (a0 + 5) v3.2 = q := ⟨_, rfl⟩
      replace hf := lt_e hf hcv4.symm
      refine v_callV [.ref (ad (a0 + 5))] G (c_X11_keepFault_L h0 (kf_11_5 h0) hcv4) h0 (by decide) rfl rfl rfl t_1178 t_1180 t_p36 t_1 t_1181 nm_X11_keepFault (by decide) (by decide) rfl rfl (Nat.le_of_ble_eq_true rfl) dX11_land_40 (kv_rv ?_)
      refine v_iload_n G dX11_land_43 0 rfl ?_
      refine v_if_ne 54 G dX11_land_44 (by decide) (fun h13 => ?_) (fun h13 => ?_)
      · replace hf := (if_neg h13).symm.trans hf
        refine v_aload_n G dX11_land_54 1 rfl ?_
        refine gf_11_10 G h0 t_467 (Or.inl rfl) dX11_land_55 ?_
        refine v_kt (fun hKT => ?_)
        have hk5 := hKT.1 _ h0
        refine v_nma (fun v6 ev6 => ?_)
        have hv6 : kty v6 = 3 := by rw [ev6]; exact hk5
        replace hf := lt_e hf ev6
        refine v_astore_n [(3, .ref (ad v6)), (2, .int v3.1), (0, .ref (ad a0)), (1, .int p1)] G dX11_land_58 (by decide) rfl ?_
        refine v_aload_n G dX11_land_59 2 rfl ?_
        refine v_aload_n G dX11_land_60 2 rfl ?_
        refine gf_11_11 G h0 t_468 (Or.inl rfl) dX11_land_61 ?_
        refine v_kt (fun hKT => ?_)
        have hk7 := hKT.2.1 _ h0
        refine pf_11_10 G h0 (ktu_11_10 h0 hk7) t_467 (Or.inl rfl) dX11_land_64 ?_
        refine v_nmM (fun M8 eM8 => ?_)
        replace hf := lt_e hf eM8
        refine v_aload_n G dX11_land_67 2 rfl ?_
        refine v_aload_n G dX11_land_68 0 rfl ?_
        refine pf_11_11 G h0 (ktu_11_11 h0 hv6) t_468 (Or.inl rfl) dX11_land_69 ?_
        refine v_nmM (fun M9 eM9 => ?_)
        replace hf := lt_e hf eM9
        refine v_aload_n G dX11_land_72 2 rfl ?_
        refine v_aload_n G dX11_land_73 2 rfl ?_
        refine gf_11_10 G h0 t_467 (Or.inl rfl) dX11_land_74 ?_
        refine v_kt (fun hKT => ?_)
        have hk10 := hKT.1 _ h0
        refine gf_2_10 G hk10 t_392 (Or.inl rfl) dX11_land_77 ?_
        obtain ⟨v11, hcv11⟩ : ∃ q, f_X11_tell a0 (M9.1 (M9.2.2 a0 10) 10) M9 = q := ⟨_, rfl⟩
        replace hf := lt_e hf hcv11.symm
        refine v_callV [.int (M9.1 (M9.2.2 a0 10) 10)] G (c_X11_tell h0 hcv11) h0 (by decide) rfl rfl rfl t_521 t_523 t_p0 t_1 t_524 nm_X11_tell (by decide) (by decide) rfl rfl (Nat.le_of_ble_eq_true rfl) dX11_land_80 (kv_ri ?_)
        obtain rfl := Option.some.inj hf
        exact v_iret G dX11_land_83
      · replace hf := (if_pos h13).symm.trans hf
        refine v_aload_n G dX11_land_47 1 rfl ?_
        refine v_bipush (10 : Int32) G dX11_land_48 (by decide) ?_
        obtain ⟨v12, hcv12⟩ : ∃ q, f_X11_refuse a0 (10 : Int32) v4 = q := ⟨_, rfl⟩
        replace hf := lt_e hf hcv12.symm
        refine v_callV [.int (10 : Int32)] G (c_X11_refuse h0 hcv12) h0 (by decide) rfl rfl rfl t_557 t_559 t_p2 t_1 t_560 nm_X11_refuse (by decide) (by decide) rfl rfl (Nat.le_of_ble_eq_true rfl) dX11_land_50 (kv_ri ?_)
        obtain rfl := Option.some.inj hf
        exact v_iret G dX11_land_53
    · replace hf := (if_neg h14).symm.trans hf
      refine v_sub _ [0] rfl ?_
      exact hj12 hf
abbrev cX11_days : ByteArray := prog_1_method_23_code
def yX11_days : MethodName := ⟨RX11, "days", "(I)I"⟩
theorem dX11_days_0 : dc cX11_days 0 (.iload_n 1) 1 1 := ⟨by decide +kernel, rfl⟩
theorem dX11_days_1 : dc cX11_days 1 (.ifCond .lt 18) 3 4 := ⟨by decide +kernel, rfl⟩
theorem dX11_days_4 : dc cX11_days 4 (.iload_n 1) 1 5 := ⟨by decide +kernel, rfl⟩
theorem dX11_days_5 : dc cX11_days 5 (.aload_n 0) 1 6 := ⟨by decide +kernel, rfl⟩
theorem dX11_days_6 : dc cX11_days 6 (.getfield 159) 3 9 := ⟨by decide +kernel, rfl⟩
theorem dX11_days_9 : dc cX11_days 9 (.if_icmp .gt 10) 3 12 := ⟨by decide +kernel, rfl⟩
theorem dX11_days_12 : dc cX11_days 12 (.iload_n 1) 1 13 := ⟨by decide +kernel, rfl⟩
theorem dX11_days_13 : dc cX11_days 13 (.sipush 300) 3 16 := ⟨by decide +kernel, rfl⟩
theorem dX11_days_16 : dc cX11_days 16 (.if_icmp .le 9) 3 19 := ⟨by decide +kernel, rfl⟩
theorem dX11_days_19 : dc cX11_days 19 (.aload_n 0) 1 20 := ⟨by decide +kernel, rfl⟩
theorem dX11_days_20 : dc cX11_days 20 (.iconst 5) 1 21 := ⟨by decide +kernel, rfl⟩
theorem dX11_days_21 : dc cX11_days 21 (.invokevirtual 104) 3 24 := ⟨by decide +kernel, rfl⟩
theorem dX11_days_24 : dc cX11_days 24 (.ireturn) 1 25 := ⟨by decide +kernel, rfl⟩
theorem dX11_days_25 : dc cX11_days 25 (.aload_n 0) 1 26 := ⟨by decide +kernel, rfl⟩
theorem dX11_days_26 : dc cX11_days 26 (.getfield 39) 3 29 := ⟨by decide +kernel, rfl⟩
theorem dX11_days_29 : dc cX11_days 29 (.aload_n 0) 1 30 := ⟨by decide +kernel, rfl⟩
theorem dX11_days_30 : dc cX11_days 30 (.getfield 82) 3 33 := ⟨by decide +kernel, rfl⟩
theorem dX11_days_33 : dc cX11_days 33 (.aload_n 0) 1 34 := ⟨by decide +kernel, rfl⟩
theorem dX11_days_34 : dc cX11_days 34 (.getfield 72) 3 37 := ⟨by decide +kernel, rfl⟩
theorem dX11_days_37 : dc cX11_days 37 (.aload_n 0) 1 38 := ⟨by decide +kernel, rfl⟩
theorem dX11_days_38 : dc cX11_days 38 (.getfield 15) 3 41 := ⟨by decide +kernel, rfl⟩
theorem dX11_days_41 : dc cX11_days 41 (.iload_n 1) 1 42 := ⟨by decide +kernel, rfl⟩
theorem dX11_days_42 : dc cX11_days 42 (.invokevirtual 177) 3 45 := ⟨by decide +kernel, rfl⟩
theorem dX11_days_45 : dc cX11_days 45 (.istore_n 2) 1 46 := ⟨by decide +kernel, rfl⟩
theorem dX11_days_46 : dc cX11_days 46 (.aload_n 0) 1 47 := ⟨by decide +kernel, rfl⟩
theorem dX11_days_47 : dc cX11_days 47 (.aload_n 0) 1 48 := ⟨by decide +kernel, rfl⟩
theorem dX11_days_48 : dc cX11_days 48 (.getfield 39) 3 51 := ⟨by decide +kernel, rfl⟩
theorem dX11_days_51 : dc cX11_days 51 (.invokevirtual 170) 3 54 := ⟨by decide +kernel, rfl⟩
theorem dX11_days_54 : dc cX11_days 54 (.iload_n 2) 1 55 := ⟨by decide +kernel, rfl⟩
theorem dX11_days_55 : dc cX11_days 55 (.ifCond .ne 10) 3 58 := ⟨by decide +kernel, rfl⟩
theorem dX11_days_58 : dc cX11_days 58 (.aload_n 0) 1 59 := ⟨by decide +kernel, rfl⟩
theorem dX11_days_59 : dc cX11_days 59 (.bipush 10) 2 61 := ⟨by decide +kernel, rfl⟩
theorem dX11_days_61 : dc cX11_days 61 (.invokevirtual 104) 3 64 := ⟨by decide +kernel, rfl⟩
theorem dX11_days_64 : dc cX11_days 64 (.ireturn) 1 65 := ⟨by decide +kernel, rfl⟩
theorem dX11_days_65 : dc cX11_days 65 (.aload_n 0) 1 66 := ⟨by decide +kernel, rfl⟩
theorem dX11_days_66 : dc cX11_days 66 (.getfield 72) 3 69 := ⟨by decide +kernel, rfl⟩
theorem dX11_days_69 : dc cX11_days 69 (.getfield 180) 3 72 := ⟨by decide +kernel, rfl⟩
theorem dX11_days_72 : dc cX11_days 72 (.astore_n 3) 1 73 := ⟨by decide +kernel, rfl⟩
theorem dX11_days_73 : dc cX11_days 73 (.aload_n 0) 1 74 := ⟨by decide +kernel, rfl⟩
theorem dX11_days_74 : dc cX11_days 74 (.getfield 72) 3 77 := ⟨by decide +kernel, rfl⟩
theorem dX11_days_77 : dc cX11_days 77 (.aload_n 0) 1 78 := ⟨by decide +kernel, rfl⟩
theorem dX11_days_78 : dc cX11_days 78 (.getfield 82) 3 81 := ⟨by decide +kernel, rfl⟩
theorem dX11_days_81 : dc cX11_days 81 (.putfield 180) 3 84 := ⟨by decide +kernel, rfl⟩
theorem dX11_days_84 : dc cX11_days 84 (.aload_n 0) 1 85 := ⟨by decide +kernel, rfl⟩
theorem dX11_days_85 : dc cX11_days 85 (.aload_n 3) 1 86 := ⟨by decide +kernel, rfl⟩
theorem dX11_days_86 : dc cX11_days 86 (.putfield 82) 3 89 := ⟨by decide +kernel, rfl⟩
theorem dX11_days_89 : dc cX11_days 89 (.aload_n 0) 1 90 := ⟨by decide +kernel, rfl⟩
theorem dX11_days_90 : dc cX11_days 90 (.aload_n 0) 1 91 := ⟨by decide +kernel, rfl⟩
theorem dX11_days_91 : dc cX11_days 91 (.getfield 72) 3 94 := ⟨by decide +kernel, rfl⟩
theorem dX11_days_94 : dc cX11_days 94 (.getfield 180) 3 97 := ⟨by decide +kernel, rfl⟩
theorem dX11_days_97 : dc cX11_days 97 (.getfield 183) 3 100 := ⟨by decide +kernel, rfl⟩
theorem dX11_days_100 : dc cX11_days 100 (.invokevirtual 108) 3 103 := ⟨by decide +kernel, rfl⟩
theorem dX11_days_103 : dc cX11_days 103 (.ireturn) 1 104 := ⟨by decide +kernel, rfl⟩
theorem nm_X11_days : (yX11_days).cls ≠ "java/lang/invoke/MethodHandle" ∧ (yX11_days).cls ≠ "java/lang/invoke/VarHandle" ∧ (parseMethodDescriptor (yX11_days).desc).map (fun d => d.parameters.length) = some 1 := ⟨by decide +kernel, by decide +kernel, by decide +kernel⟩
set_option maxRecDepth 100000 in
set_option maxHeartbeats 4000000 in
theorem c_X11_days {l : Launch} {ad : Nat → Nat} {cy : Nat → ClassId} {D : va_G} {z : Nat} (n : Nat) {a0 : Nat} {p1 : Int32} {M : KM} {y : (Int32 × KM)} (h0 : kty a0 = 11) (hf : f_X11_days n a0 p1 M = some y) : KC l ad cy D z yX11_days cX11_days 4 (some .int) 8 [.ref (ad a0), .int p1] M (some (.int y.1), y.2) := by
  refine kv_enter (by decide +kernel) (Nat.le_of_ble_eq_true rfl) ?_
  intro x hl hD hz G
  subst hl hD hz
  unfold f_X11_days at hf
  have G : KG ad cy x cX11_days "NoonGuides" 4 (some (some .int)) 8 := G
  show KV ad cy x (some (.int y.1), y.2) 0 [(0, .ref (ad a0)), (1, .int p1)] [] M
  refine v_iload_n G dX11_days_0 1 rfl ?_
  obtain ⟨j19, ej19, hf⟩ := lt_j hf
  have hj19 : j19 = some y → KV ad cy x (some (.int y.1), y.2) 19 [(0, .ref (ad a0))] [] M := by
    intro hf
    rw [ej19] at hf
    refine v_aload_n G dX11_days_19 0 rfl ?_
    refine v_iconst (5 : Int32) G dX11_days_20 (by decide) ?_
    obtain ⟨v1, hcv1⟩ : ∃ q, f_X11_refuse a0 (5 : Int32) M = q := ⟨_, rfl⟩
    replace hf := lt_e hf hcv1.symm
    refine v_callV [.int (5 : Int32)] G (c_X11_refuse h0 hcv1) h0 (by decide) rfl rfl rfl t_557 t_559 t_p2 t_1 t_560 nm_X11_refuse (by decide) (by decide) rfl rfl (Nat.le_of_ble_eq_true rfl) dX11_days_21 (kv_ri ?_)
    obtain rfl := Option.some.inj hf
    exact v_iret G dX11_days_24
  refine v_if_lt 19 G dX11_days_1 (by decide) (fun h20 => ?_) (fun h20 => ?_)
  · replace hf := (if_pos h20).symm.trans hf
    refine v_sub _ [0] rfl ?_
    exact hj19 hf
  · replace hf := (if_neg h20).symm.trans hf
    refine v_iload_n G dX11_days_4 1 rfl ?_
    refine v_aload_n G dX11_days_5 0 rfl ?_
    refine gf_11_13 G h0 t_470 (Or.inl rfl) dX11_days_6 ?_
    refine v_icmp_gt 19 G dX11_days_9 (by decide) (fun h19 => ?_) (fun h19 => ?_)
    · replace hf := (if_pos h19).symm.trans hf
      refine v_sub _ [0] rfl ?_
      exact hj19 hf
    · replace hf := (if_neg h19).symm.trans hf
      refine v_iload_n G dX11_days_12 1 rfl ?_
      refine v_sipush (300 : Int32) G dX11_days_13 (by decide) ?_
      refine v_icmp_le 25 G dX11_days_16 (by decide) (fun h18 => ?_) (fun h18 => ?_)
      · replace hf := (if_pos h18).symm.trans hf
        refine v_aload_n G dX11_days_25 0 rfl ?_
        refine gf_11_5 G h0 t_462 (Or.inl rfl) dX11_days_26 ?_
        refine v_aload_n G dX11_days_29 0 rfl ?_
        refine gf_11_12 G h0 t_469 (Or.inl rfl) dX11_days_30 ?_
        refine v_kt (fun hKT => ?_)
        have hk2 := hKT.2.2.1 _ h0
        refine v_aload_n G dX11_days_33 0 rfl ?_
        refine gf_11_10 G h0 t_467 (Or.inl rfl) dX11_days_34 ?_
        refine v_kt (fun hKT => ?_)
        have hk3 := hKT.1 _ h0
        refine v_aload_n G dX11_days_37 0 rfl ?_
        refine gf_11_1 G h0 t_458 (Or.inl rfl) dX11_days_38 ?_
        refine v_iload_n G dX11_days_41 1 rfl ?_
        obtain ⟨v4, hcv4, hf⟩ := bd_e hf
        refine v_callV [.ref (ad (M.2.2 a0 12)), .ref (ad (M.2.2 a0 10)), .ref (ad (a0 + 2)), .int p1] G (c_X0_readInto n (kf_11_8 h0) hk2 hk3 (Or.inl (kf_11_2 h0)) hcv4) (kf_11_8 h0) (by decide) rfl rfl rfl t_1186 t_1187 t_1188 t_8 t_1189 nm_X0_readInto (by decide) (by decide) rfl rfl (Nat.le_of_ble_eq_true rfl) dX11_days_42 (kv_ri ?_)
        refine v_istore_n [(2, .int v4.1), (0, .ref (ad a0)), (1, .int p1)] G dX11_days_45 (by decide) rfl ?_
        refine v_aload_n G dX11_days_46 1 rfl ?_
        refine v_aload_n G dX11_days_47 1 rfl ?_
        refine gf_11_5 G h0 t_462 (Or.inl rfl) dX11_days_48 ?_
        obtain ⟨v5, hcv5⟩ : ∃ q, f_X11_keepFault a0 (a0 + 8) v4.2 = q := ⟨_, rfl⟩
        replace hf := lt_e hf hcv5.symm
        refine v_callV [.ref (ad (a0 + 8))] G (c_X11_keepFault_D h0 (kf_11_8 h0) hcv5) h0 (by decide) rfl rfl rfl t_1178 t_1180 t_p36 t_1 t_1181 nm_X11_keepFault (by decide) (by decide) rfl rfl (Nat.le_of_ble_eq_true rfl) dX11_days_51 (kv_rv ?_)
        refine v_iload_n G dX11_days_54 0 rfl ?_
        refine v_if_ne 65 G dX11_days_55 (by decide) (fun h17 => ?_) (fun h17 => ?_)
        · replace hf := (if_neg h17).symm.trans hf
          refine v_aload_n G dX11_days_65 1 rfl ?_
          refine gf_11_10 G h0 t_467 (Or.inl rfl) dX11_days_66 ?_
          refine v_kt (fun hKT => ?_)
          have hk6 := hKT.1 _ h0
          refine gf_2_7 G hk6 t_380 (Or.inl rfl) dX11_days_69 ?_
          refine v_kt (fun hKT => ?_)
          have hk7 := hKT.2.2.2.1 _ hk6
          refine v_nma (fun v8 ev8 => ?_)
          have hv8 : kty v8 = 9 := by rw [ev8]; exact hk7
          replace hf := lt_e hf ev8
          refine v_astore_n [(3, .ref (ad v8)), (2, .int v4.1), (0, .ref (ad a0)), (1, .int p1)] G dX11_days_72 (by decide) rfl ?_
          refine v_aload_n G dX11_days_73 2 rfl ?_
          refine gf_11_10 G h0 t_467 (Or.inl rfl) dX11_days_74 ?_
          refine v_kt (fun hKT => ?_)
          have hk9 := hKT.1 _ h0
          refine v_aload_n G dX11_days_77 2 rfl ?_
          refine gf_11_12 G h0 t_469 (Or.inl rfl) dX11_days_78 ?_
          refine v_kt (fun hKT => ?_)
          have hk10 := hKT.2.2.1 _ h0
          refine pf_2_7 G hk9 (ktu_2_7 hk9 hk10) t_380 (Or.inl rfl) dX11_days_81 ?_
          refine v_nmM (fun M11 eM11 => ?_)
          replace hf := lt_e hf eM11
          refine v_aload_n G dX11_days_84 2 rfl ?_
          refine v_aload_n G dX11_days_85 0 rfl ?_
          refine pf_11_12 G h0 (ktu_11_12 h0 hv8) t_469 (Or.inl rfl) dX11_days_86 ?_
          refine v_nmM (fun M12 eM12 => ?_)
          replace hf := lt_e hf eM12
          refine v_aload_n G dX11_days_89 2 rfl ?_
          refine v_aload_n G dX11_days_90 2 rfl ?_
          refine gf_11_10 G h0 t_467 (Or.inl rfl) dX11_days_91 ?_
          refine v_kt (fun hKT => ?_)
          have hk13 := hKT.1 _ h0
          refine gf_2_7 G hk13 t_380 (Or.inl rfl) dX11_days_94 ?_
          refine v_kt (fun hKT => ?_)
          have hk14 := hKT.2.2.2.1 _ hk13
          refine gf_8_6 G hk14 t_278 (Or.inl rfl) dX11_days_97 ?_
          obtain ⟨v15, hcv15⟩ : ∃ q, f_X11_tell a0 (M12.1 (M12.2.2 (M12.2.2 a0 10) 7) 6) M12 = q := ⟨_, rfl⟩
          replace hf := lt_e hf hcv15.symm
          refine v_callV [.int (M12.1 (M12.2.2 (M12.2.2 a0 10) 7) 6)] G (c_X11_tell h0 hcv15) h0 (by decide) rfl rfl rfl t_521 t_523 t_p0 t_1 t_524 nm_X11_tell (by decide) (by decide) rfl rfl (Nat.le_of_ble_eq_true rfl) dX11_days_100 (kv_ri ?_)
          obtain rfl := Option.some.inj hf
          exact v_iret G dX11_days_103
        · replace hf := (if_pos h17).symm.trans hf
          refine v_aload_n G dX11_days_58 1 rfl ?_
          refine v_bipush (10 : Int32) G dX11_days_59 (by decide) ?_
          obtain ⟨v16, hcv16⟩ : ∃ q, f_X11_refuse a0 (10 : Int32) v5 = q := ⟨_, rfl⟩
          replace hf := lt_e hf hcv16.symm
          refine v_callV [.int (10 : Int32)] G (c_X11_refuse h0 hcv16) h0 (by decide) rfl rfl rfl t_557 t_559 t_p2 t_1 t_560 nm_X11_refuse (by decide) (by decide) rfl rfl (Nat.le_of_ble_eq_true rfl) dX11_days_61 (kv_ri ?_)
          obtain rfl := Option.some.inj hf
          exact v_iret G dX11_days_64
      · replace hf := (if_neg h18).symm.trans hf
        refine v_sub _ [0] rfl ?_
        exact hj19 hf
abbrev cX11_many : ByteArray := prog_1_method_26_code
def yX11_many : MethodName := ⟨RX11, "many", "(I)I"⟩
theorem dX11_many_0 : dc cX11_many 0 (.iload_n 1) 1 1 := ⟨by decide +kernel, rfl⟩
theorem dX11_many_1 : dc cX11_many 1 (.tableswitch 268 0 14 #[75, 87, 99, 111, 126, 141, 153, 165, 177, 189, 208, 220, 232, 244, 256]) 75 76 := ⟨by decide +kernel, rfl⟩
theorem dX11_many_76 : dc cX11_many 76 (.aload_n 0) 1 77 := ⟨by decide +kernel, rfl⟩
theorem dX11_many_77 : dc cX11_many 77 (.aload_n 0) 1 78 := ⟨by decide +kernel, rfl⟩
theorem dX11_many_78 : dc cX11_many 78 (.getfield 72) 3 81 := ⟨by decide +kernel, rfl⟩
theorem dX11_many_81 : dc cX11_many 81 (.getfield 190) 3 84 := ⟨by decide +kernel, rfl⟩
theorem dX11_many_84 : dc cX11_many 84 (.invokevirtual 108) 3 87 := ⟨by decide +kernel, rfl⟩
theorem dX11_many_87 : dc cX11_many 87 (.ireturn) 1 88 := ⟨by decide +kernel, rfl⟩
theorem dX11_many_88 : dc cX11_many 88 (.aload_n 0) 1 89 := ⟨by decide +kernel, rfl⟩
theorem dX11_many_89 : dc cX11_many 89 (.aload_n 0) 1 90 := ⟨by decide +kernel, rfl⟩
theorem dX11_many_90 : dc cX11_many 90 (.getfield 72) 3 93 := ⟨by decide +kernel, rfl⟩
theorem dX11_many_93 : dc cX11_many 93 (.getfield 193) 3 96 := ⟨by decide +kernel, rfl⟩
theorem dX11_many_96 : dc cX11_many 96 (.invokevirtual 108) 3 99 := ⟨by decide +kernel, rfl⟩
theorem dX11_many_99 : dc cX11_many 99 (.ireturn) 1 100 := ⟨by decide +kernel, rfl⟩
theorem dX11_many_100 : dc cX11_many 100 (.aload_n 0) 1 101 := ⟨by decide +kernel, rfl⟩
theorem dX11_many_101 : dc cX11_many 101 (.aload_n 0) 1 102 := ⟨by decide +kernel, rfl⟩
theorem dX11_many_102 : dc cX11_many 102 (.getfield 72) 3 105 := ⟨by decide +kernel, rfl⟩
theorem dX11_many_105 : dc cX11_many 105 (.getfield 174) 3 108 := ⟨by decide +kernel, rfl⟩
theorem dX11_many_108 : dc cX11_many 108 (.invokevirtual 108) 3 111 := ⟨by decide +kernel, rfl⟩
theorem dX11_many_111 : dc cX11_many 111 (.ireturn) 1 112 := ⟨by decide +kernel, rfl⟩
theorem dX11_many_112 : dc cX11_many 112 (.aload_n 0) 1 113 := ⟨by decide +kernel, rfl⟩
theorem dX11_many_113 : dc cX11_many 113 (.aload_n 0) 1 114 := ⟨by decide +kernel, rfl⟩
theorem dX11_many_114 : dc cX11_many 114 (.getfield 72) 3 117 := ⟨by decide +kernel, rfl⟩
theorem dX11_many_117 : dc cX11_many 117 (.getfield 196) 3 120 := ⟨by decide +kernel, rfl⟩
theorem dX11_many_120 : dc cX11_many 120 (.getfield 199) 3 123 := ⟨by decide +kernel, rfl⟩
theorem dX11_many_123 : dc cX11_many 123 (.invokevirtual 108) 3 126 := ⟨by decide +kernel, rfl⟩
theorem dX11_many_126 : dc cX11_many 126 (.ireturn) 1 127 := ⟨by decide +kernel, rfl⟩
theorem dX11_many_127 : dc cX11_many 127 (.aload_n 0) 1 128 := ⟨by decide +kernel, rfl⟩
theorem dX11_many_128 : dc cX11_many 128 (.aload_n 0) 1 129 := ⟨by decide +kernel, rfl⟩
theorem dX11_many_129 : dc cX11_many 129 (.getfield 72) 3 132 := ⟨by decide +kernel, rfl⟩
theorem dX11_many_132 : dc cX11_many 132 (.getfield 196) 3 135 := ⟨by decide +kernel, rfl⟩
theorem dX11_many_135 : dc cX11_many 135 (.getfield 202) 3 138 := ⟨by decide +kernel, rfl⟩
theorem dX11_many_138 : dc cX11_many 138 (.invokevirtual 108) 3 141 := ⟨by decide +kernel, rfl⟩
theorem dX11_many_141 : dc cX11_many 141 (.ireturn) 1 142 := ⟨by decide +kernel, rfl⟩
theorem dX11_many_142 : dc cX11_many 142 (.aload_n 0) 1 143 := ⟨by decide +kernel, rfl⟩
theorem dX11_many_143 : dc cX11_many 143 (.aload_n 0) 1 144 := ⟨by decide +kernel, rfl⟩
theorem dX11_many_144 : dc cX11_many 144 (.getfield 72) 3 147 := ⟨by decide +kernel, rfl⟩
theorem dX11_many_147 : dc cX11_many 147 (.getfield 205) 3 150 := ⟨by decide +kernel, rfl⟩
theorem dX11_many_150 : dc cX11_many 150 (.invokevirtual 108) 3 153 := ⟨by decide +kernel, rfl⟩
theorem dX11_many_153 : dc cX11_many 153 (.ireturn) 1 154 := ⟨by decide +kernel, rfl⟩
theorem dX11_many_154 : dc cX11_many 154 (.aload_n 0) 1 155 := ⟨by decide +kernel, rfl⟩
theorem dX11_many_155 : dc cX11_many 155 (.aload_n 0) 1 156 := ⟨by decide +kernel, rfl⟩
theorem dX11_many_156 : dc cX11_many 156 (.getfield 72) 3 159 := ⟨by decide +kernel, rfl⟩
theorem dX11_many_159 : dc cX11_many 159 (.getfield 208) 3 162 := ⟨by decide +kernel, rfl⟩
theorem dX11_many_162 : dc cX11_many 162 (.invokevirtual 108) 3 165 := ⟨by decide +kernel, rfl⟩
theorem dX11_many_165 : dc cX11_many 165 (.ireturn) 1 166 := ⟨by decide +kernel, rfl⟩
theorem dX11_many_166 : dc cX11_many 166 (.aload_n 0) 1 167 := ⟨by decide +kernel, rfl⟩
theorem dX11_many_167 : dc cX11_many 167 (.aload_n 0) 1 168 := ⟨by decide +kernel, rfl⟩
theorem dX11_many_168 : dc cX11_many 168 (.getfield 72) 3 171 := ⟨by decide +kernel, rfl⟩
theorem dX11_many_171 : dc cX11_many 171 (.getfield 211) 3 174 := ⟨by decide +kernel, rfl⟩
theorem dX11_many_174 : dc cX11_many 174 (.invokevirtual 108) 3 177 := ⟨by decide +kernel, rfl⟩
theorem dX11_many_177 : dc cX11_many 177 (.ireturn) 1 178 := ⟨by decide +kernel, rfl⟩
theorem dX11_many_178 : dc cX11_many 178 (.aload_n 0) 1 179 := ⟨by decide +kernel, rfl⟩
theorem dX11_many_179 : dc cX11_many 179 (.aload_n 0) 1 180 := ⟨by decide +kernel, rfl⟩
theorem dX11_many_180 : dc cX11_many 180 (.getfield 72) 3 183 := ⟨by decide +kernel, rfl⟩
theorem dX11_many_183 : dc cX11_many 183 (.getfield 214) 3 186 := ⟨by decide +kernel, rfl⟩
theorem dX11_many_186 : dc cX11_many 186 (.invokevirtual 108) 3 189 := ⟨by decide +kernel, rfl⟩
theorem dX11_many_189 : dc cX11_many 189 (.ireturn) 1 190 := ⟨by decide +kernel, rfl⟩
theorem dX11_many_190 : dc cX11_many 190 (.aload_n 0) 1 191 := ⟨by decide +kernel, rfl⟩
theorem dX11_many_191 : dc cX11_many 191 (.aload_n 0) 1 192 := ⟨by decide +kernel, rfl⟩
theorem dX11_many_192 : dc cX11_many 192 (.getfield 72) 3 195 := ⟨by decide +kernel, rfl⟩
theorem dX11_many_195 : dc cX11_many 195 (.aload_n 0) 1 196 := ⟨by decide +kernel, rfl⟩
theorem dX11_many_196 : dc cX11_many 196 (.getfield 72) 3 199 := ⟨by decide +kernel, rfl⟩
theorem dX11_many_199 : dc cX11_many 199 (.getfield 205) 3 202 := ⟨by decide +kernel, rfl⟩
theorem dX11_many_202 : dc cX11_many 202 (.invokevirtual 217) 3 205 := ⟨by decide +kernel, rfl⟩
theorem dX11_many_205 : dc cX11_many 205 (.invokevirtual 220) 3 208 := ⟨by decide +kernel, rfl⟩
theorem dX11_many_208 : dc cX11_many 208 (.ireturn) 1 209 := ⟨by decide +kernel, rfl⟩
theorem dX11_many_209 : dc cX11_many 209 (.aload_n 0) 1 210 := ⟨by decide +kernel, rfl⟩
theorem dX11_many_210 : dc cX11_many 210 (.aload_n 0) 1 211 := ⟨by decide +kernel, rfl⟩
theorem dX11_many_211 : dc cX11_many 211 (.getfield 72) 3 214 := ⟨by decide +kernel, rfl⟩
theorem dX11_many_214 : dc cX11_many 214 (.getfield 224) 3 217 := ⟨by decide +kernel, rfl⟩
theorem dX11_many_217 : dc cX11_many 217 (.invokevirtual 220) 3 220 := ⟨by decide +kernel, rfl⟩
theorem dX11_many_220 : dc cX11_many 220 (.ireturn) 1 221 := ⟨by decide +kernel, rfl⟩
theorem dX11_many_221 : dc cX11_many 221 (.aload_n 0) 1 222 := ⟨by decide +kernel, rfl⟩
theorem dX11_many_222 : dc cX11_many 222 (.aload_n 0) 1 223 := ⟨by decide +kernel, rfl⟩
theorem dX11_many_223 : dc cX11_many 223 (.getfield 72) 3 226 := ⟨by decide +kernel, rfl⟩
theorem dX11_many_226 : dc cX11_many 226 (.invokevirtual 228) 3 229 := ⟨by decide +kernel, rfl⟩
theorem dX11_many_229 : dc cX11_many 229 (.invokevirtual 108) 3 232 := ⟨by decide +kernel, rfl⟩
theorem dX11_many_232 : dc cX11_many 232 (.ireturn) 1 233 := ⟨by decide +kernel, rfl⟩
theorem dX11_many_233 : dc cX11_many 233 (.aload_n 0) 1 234 := ⟨by decide +kernel, rfl⟩
theorem dX11_many_234 : dc cX11_many 234 (.aload_n 0) 1 235 := ⟨by decide +kernel, rfl⟩
theorem dX11_many_235 : dc cX11_many 235 (.getfield 72) 3 238 := ⟨by decide +kernel, rfl⟩
theorem dX11_many_238 : dc cX11_many 238 (.invokevirtual 232) 3 241 := ⟨by decide +kernel, rfl⟩
theorem dX11_many_241 : dc cX11_many 241 (.invokevirtual 108) 3 244 := ⟨by decide +kernel, rfl⟩
theorem dX11_many_244 : dc cX11_many 244 (.ireturn) 1 245 := ⟨by decide +kernel, rfl⟩
theorem dX11_many_245 : dc cX11_many 245 (.aload_n 0) 1 246 := ⟨by decide +kernel, rfl⟩
theorem dX11_many_246 : dc cX11_many 246 (.aload_n 0) 1 247 := ⟨by decide +kernel, rfl⟩
theorem dX11_many_247 : dc cX11_many 247 (.getfield 72) 3 250 := ⟨by decide +kernel, rfl⟩
theorem dX11_many_250 : dc cX11_many 250 (.invokevirtual 235) 3 253 := ⟨by decide +kernel, rfl⟩
theorem dX11_many_253 : dc cX11_many 253 (.invokevirtual 108) 3 256 := ⟨by decide +kernel, rfl⟩
theorem dX11_many_256 : dc cX11_many 256 (.ireturn) 1 257 := ⟨by decide +kernel, rfl⟩
theorem dX11_many_257 : dc cX11_many 257 (.aload_n 0) 1 258 := ⟨by decide +kernel, rfl⟩
theorem dX11_many_258 : dc cX11_many 258 (.aload_n 0) 1 259 := ⟨by decide +kernel, rfl⟩
theorem dX11_many_259 : dc cX11_many 259 (.getfield 72) 3 262 := ⟨by decide +kernel, rfl⟩
theorem dX11_many_262 : dc cX11_many 262 (.invokevirtual 238) 3 265 := ⟨by decide +kernel, rfl⟩
theorem dX11_many_265 : dc cX11_many 265 (.invokevirtual 108) 3 268 := ⟨by decide +kernel, rfl⟩
theorem dX11_many_268 : dc cX11_many 268 (.ireturn) 1 269 := ⟨by decide +kernel, rfl⟩
theorem dX11_many_269 : dc cX11_many 269 (.aload_n 0) 1 270 := ⟨by decide +kernel, rfl⟩
theorem dX11_many_270 : dc cX11_many 270 (.iconst 5) 1 271 := ⟨by decide +kernel, rfl⟩
theorem dX11_many_271 : dc cX11_many 271 (.invokevirtual 104) 3 274 := ⟨by decide +kernel, rfl⟩
theorem dX11_many_274 : dc cX11_many 274 (.ireturn) 1 275 := ⟨by decide +kernel, rfl⟩
theorem nm_X11_many : (yX11_many).cls ≠ "java/lang/invoke/MethodHandle" ∧ (yX11_many).cls ≠ "java/lang/invoke/VarHandle" ∧ (parseMethodDescriptor (yX11_many).desc).map (fun d => d.parameters.length) = some 1 := ⟨by decide +kernel, by decide +kernel, by decide +kernel⟩
set_option maxRecDepth 100000 in
set_option maxHeartbeats 4000000 in
theorem c_X11_many {l : Launch} {ad : Nat → Nat} {cy : Nat → ClassId} {D : va_G} {z : Nat} (n : Nat) {a0 : Nat} {p1 : Int32} {M : KM} {y : (Int32 × KM)} (h0 : kty a0 = 11) (hf : f_X11_many n a0 p1 M = some y) : KC l ad cy D z yX11_many cX11_many 2 (some .int) 3 [.ref (ad a0), .int p1] M (some (.int y.1), y.2) := by
  refine kv_enter (by decide +kernel) (Nat.le_of_ble_eq_true rfl) ?_
  intro x hl hD hz G
  subst hl hD hz
  unfold f_X11_many at hf
  have G : KG ad cy x cX11_many "NoonGuides" 2 (some (some .int)) 3 := G
  show KV ad cy x (some (.int y.1), y.2) 0 [(0, .ref (ad a0)), (1, .int p1)] [] M
  refine v_iload_n G dX11_many_0 1 rfl ?_
  by_cases h3 : p1 = (0 : Int32)
  · replace hf := (if_pos h3).symm.trans hf
    refine v_tabIn (off := 75) 76 G dX11_many_1 (by rw [h3]; decide) (by rw [h3]; decide) (by rw [h3]; rfl) (by decide) ?_
    refine v_aload_n G dX11_many_76 0 rfl ?_
    refine v_aload_n G dX11_many_77 0 rfl ?_
    refine gf_11_10 G h0 t_467 (Or.inl rfl) dX11_many_78 ?_
    refine v_kt (fun hKT => ?_)
    have hk1 := hKT.1 _ h0
    refine gf_2_8 G hk1 t_384 (Or.inl rfl) dX11_many_81 ?_
    obtain ⟨v2, hcv2⟩ : ∃ q, f_X11_tell a0 (M.1 (M.2.2 a0 10) 8) M = q := ⟨_, rfl⟩
    replace hf := lt_e hf hcv2.symm
    refine v_callV [.int (M.1 (M.2.2 a0 10) 8)] G (c_X11_tell h0 hcv2) h0 (by decide) rfl rfl rfl t_521 t_523 t_p0 t_1 t_524 nm_X11_tell (by decide) (by decide) rfl rfl (Nat.le_of_ble_eq_true rfl) dX11_many_84 (kv_ri ?_)
    obtain rfl := Option.some.inj hf
    exact v_iret G dX11_many_87
  replace hf := (if_neg h3).symm.trans hf
  by_cases h6 : p1 = (1 : Int32)
  · replace hf := (if_pos h6).symm.trans hf
    refine v_tabIn (off := 87) 88 G dX11_many_1 (by rw [h6]; decide) (by rw [h6]; decide) (by rw [h6]; rfl) (by decide) ?_
    refine v_aload_n G dX11_many_88 0 rfl ?_
    refine v_aload_n G dX11_many_89 0 rfl ?_
    refine gf_11_10 G h0 t_467 (Or.inl rfl) dX11_many_90 ?_
    refine v_kt (fun hKT => ?_)
    have hk4 := hKT.1 _ h0
    refine gf_2_9 G hk4 t_388 (Or.inl rfl) dX11_many_93 ?_
    obtain ⟨v5, hcv5⟩ : ∃ q, f_X11_tell a0 (M.1 (M.2.2 a0 10) 9) M = q := ⟨_, rfl⟩
    replace hf := lt_e hf hcv5.symm
    refine v_callV [.int (M.1 (M.2.2 a0 10) 9)] G (c_X11_tell h0 hcv5) h0 (by decide) rfl rfl rfl t_521 t_523 t_p0 t_1 t_524 nm_X11_tell (by decide) (by decide) rfl rfl (Nat.le_of_ble_eq_true rfl) dX11_many_96 (kv_ri ?_)
    obtain rfl := Option.some.inj hf
    exact v_iret G dX11_many_99
  replace hf := (if_neg h6).symm.trans hf
  by_cases h9 : p1 = (2 : Int32)
  · replace hf := (if_pos h9).symm.trans hf
    refine v_tabIn (off := 99) 100 G dX11_many_1 (by rw [h9]; decide) (by rw [h9]; decide) (by rw [h9]; rfl) (by decide) ?_
    refine v_aload_n G dX11_many_100 0 rfl ?_
    refine v_aload_n G dX11_many_101 0 rfl ?_
    refine gf_11_10 G h0 t_467 (Or.inl rfl) dX11_many_102 ?_
    refine v_kt (fun hKT => ?_)
    have hk7 := hKT.1 _ h0
    refine gf_2_10 G hk7 t_392 (Or.inl rfl) dX11_many_105 ?_
    obtain ⟨v8, hcv8⟩ : ∃ q, f_X11_tell a0 (M.1 (M.2.2 a0 10) 10) M = q := ⟨_, rfl⟩
    replace hf := lt_e hf hcv8.symm
    refine v_callV [.int (M.1 (M.2.2 a0 10) 10)] G (c_X11_tell h0 hcv8) h0 (by decide) rfl rfl rfl t_521 t_523 t_p0 t_1 t_524 nm_X11_tell (by decide) (by decide) rfl rfl (Nat.le_of_ble_eq_true rfl) dX11_many_108 (kv_ri ?_)
    obtain rfl := Option.some.inj hf
    exact v_iret G dX11_many_111
  replace hf := (if_neg h9).symm.trans hf
  by_cases h12 : p1 = (3 : Int32)
  · replace hf := (if_pos h12).symm.trans hf
    refine v_tabIn (off := 111) 112 G dX11_many_1 (by rw [h12]; decide) (by rw [h12]; decide) (by rw [h12]; rfl) (by decide) ?_
    refine v_aload_n G dX11_many_112 0 rfl ?_
    refine v_aload_n G dX11_many_113 0 rfl ?_
    refine gf_11_10 G h0 t_467 (Or.inl rfl) dX11_many_114 ?_
    refine v_kt (fun hKT => ?_)
    have hk10 := hKT.1 _ h0
    refine gf_2_6 G hk10 t_378 (Or.inl rfl) dX11_many_117 ?_
    refine gf_1_0 G (kf_2_7 hk10) t_242 (Or.inl rfl) dX11_many_120 ?_
    obtain ⟨v11, hcv11⟩ : ∃ q, f_X11_tell a0 (M.1 ((M.2.2 a0 10) + 7) 0) M = q := ⟨_, rfl⟩
    replace hf := lt_e hf hcv11.symm
    refine v_callV [.int (M.1 ((M.2.2 a0 10) + 7) 0)] G (c_X11_tell h0 hcv11) h0 (by decide) rfl rfl rfl t_521 t_523 t_p0 t_1 t_524 nm_X11_tell (by decide) (by decide) rfl rfl (Nat.le_of_ble_eq_true rfl) dX11_many_123 (kv_ri ?_)
    obtain rfl := Option.some.inj hf
    exact v_iret G dX11_many_126
  replace hf := (if_neg h12).symm.trans hf
  by_cases h15 : p1 = (4 : Int32)
  · replace hf := (if_pos h15).symm.trans hf
    refine v_tabIn (off := 126) 127 G dX11_many_1 (by rw [h15]; decide) (by rw [h15]; decide) (by rw [h15]; rfl) (by decide) ?_
    refine v_aload_n G dX11_many_127 0 rfl ?_
    refine v_aload_n G dX11_many_128 0 rfl ?_
    refine gf_11_10 G h0 t_467 (Or.inl rfl) dX11_many_129 ?_
    refine v_kt (fun hKT => ?_)
    have hk13 := hKT.1 _ h0
    refine gf_2_6 G hk13 t_378 (Or.inl rfl) dX11_many_132 ?_
    refine gf_1_1 G (kf_2_7 hk13) t_245 (Or.inl rfl) dX11_many_135 ?_
    obtain ⟨v14, hcv14⟩ : ∃ q, f_X11_tell a0 (M.1 ((M.2.2 a0 10) + 7) 1) M = q := ⟨_, rfl⟩
    replace hf := lt_e hf hcv14.symm
    refine v_callV [.int (M.1 ((M.2.2 a0 10) + 7) 1)] G (c_X11_tell h0 hcv14) h0 (by decide) rfl rfl rfl t_521 t_523 t_p0 t_1 t_524 nm_X11_tell (by decide) (by decide) rfl rfl (Nat.le_of_ble_eq_true rfl) dX11_many_138 (kv_ri ?_)
    obtain rfl := Option.some.inj hf
    exact v_iret G dX11_many_141
  replace hf := (if_neg h15).symm.trans hf
  by_cases h18 : p1 = (5 : Int32)
  · replace hf := (if_pos h18).symm.trans hf
    refine v_tabIn (off := 141) 142 G dX11_many_1 (by rw [h18]; decide) (by rw [h18]; decide) (by rw [h18]; rfl) (by decide) ?_
    refine v_aload_n G dX11_many_142 0 rfl ?_
    refine v_aload_n G dX11_many_143 0 rfl ?_
    refine gf_11_10 G h0 t_467 (Or.inl rfl) dX11_many_144 ?_
    refine v_kt (fun hKT => ?_)
    have hk16 := hKT.1 _ h0
    refine gf_2_11 G hk16 t_396 (Or.inl rfl) dX11_many_147 ?_
    obtain ⟨v17, hcv17⟩ : ∃ q, f_X11_tell a0 (M.1 (M.2.2 a0 10) 11) M = q := ⟨_, rfl⟩
    replace hf := lt_e hf hcv17.symm
    refine v_callV [.int (M.1 (M.2.2 a0 10) 11)] G (c_X11_tell h0 hcv17) h0 (by decide) rfl rfl rfl t_521 t_523 t_p0 t_1 t_524 nm_X11_tell (by decide) (by decide) rfl rfl (Nat.le_of_ble_eq_true rfl) dX11_many_150 (kv_ri ?_)
    obtain rfl := Option.some.inj hf
    exact v_iret G dX11_many_153
  replace hf := (if_neg h18).symm.trans hf
  by_cases h21 : p1 = (6 : Int32)
  · replace hf := (if_pos h21).symm.trans hf
    refine v_tabIn (off := 153) 154 G dX11_many_1 (by rw [h21]; decide) (by rw [h21]; decide) (by rw [h21]; rfl) (by decide) ?_
    refine v_aload_n G dX11_many_154 0 rfl ?_
    refine v_aload_n G dX11_many_155 0 rfl ?_
    refine gf_11_10 G h0 t_467 (Or.inl rfl) dX11_many_156 ?_
    refine v_kt (fun hKT => ?_)
    have hk19 := hKT.1 _ h0
    refine gf_2_12 G hk19 t_399 (Or.inl rfl) dX11_many_159 ?_
    obtain ⟨v20, hcv20⟩ : ∃ q, f_X11_tell a0 (M.1 (M.2.2 a0 10) 12) M = q := ⟨_, rfl⟩
    replace hf := lt_e hf hcv20.symm
    refine v_callV [.int (M.1 (M.2.2 a0 10) 12)] G (c_X11_tell h0 hcv20) h0 (by decide) rfl rfl rfl t_521 t_523 t_p0 t_1 t_524 nm_X11_tell (by decide) (by decide) rfl rfl (Nat.le_of_ble_eq_true rfl) dX11_many_162 (kv_ri ?_)
    obtain rfl := Option.some.inj hf
    exact v_iret G dX11_many_165
  replace hf := (if_neg h21).symm.trans hf
  by_cases h24 : p1 = (7 : Int32)
  · replace hf := (if_pos h24).symm.trans hf
    refine v_tabIn (off := 165) 166 G dX11_many_1 (by rw [h24]; decide) (by rw [h24]; decide) (by rw [h24]; rfl) (by decide) ?_
    refine v_aload_n G dX11_many_166 0 rfl ?_
    refine v_aload_n G dX11_many_167 0 rfl ?_
    refine gf_11_10 G h0 t_467 (Or.inl rfl) dX11_many_168 ?_
    refine v_kt (fun hKT => ?_)
    have hk22 := hKT.1 _ h0
    refine gf_2_13 G hk22 t_402 (Or.inl rfl) dX11_many_171 ?_
    obtain ⟨v23, hcv23⟩ : ∃ q, f_X11_tell a0 (M.1 (M.2.2 a0 10) 13) M = q := ⟨_, rfl⟩
    replace hf := lt_e hf hcv23.symm
    refine v_callV [.int (M.1 (M.2.2 a0 10) 13)] G (c_X11_tell h0 hcv23) h0 (by decide) rfl rfl rfl t_521 t_523 t_p0 t_1 t_524 nm_X11_tell (by decide) (by decide) rfl rfl (Nat.le_of_ble_eq_true rfl) dX11_many_174 (kv_ri ?_)
    obtain rfl := Option.some.inj hf
    exact v_iret G dX11_many_177
  replace hf := (if_neg h24).symm.trans hf
  by_cases h27 : p1 = (8 : Int32)
  · replace hf := (if_pos h27).symm.trans hf
    refine v_tabIn (off := 177) 178 G dX11_many_1 (by rw [h27]; decide) (by rw [h27]; decide) (by rw [h27]; rfl) (by decide) ?_
    refine v_aload_n G dX11_many_178 0 rfl ?_
    refine v_aload_n G dX11_many_179 0 rfl ?_
    refine gf_11_10 G h0 t_467 (Or.inl rfl) dX11_many_180 ?_
    refine v_kt (fun hKT => ?_)
    have hk25 := hKT.1 _ h0
    refine gf_2_14 G hk25 t_405 (Or.inl rfl) dX11_many_183 ?_
    obtain ⟨v26, hcv26⟩ : ∃ q, f_X11_tell a0 (M.1 (M.2.2 a0 10) 14) M = q := ⟨_, rfl⟩
    replace hf := lt_e hf hcv26.symm
    refine v_callV [.int (M.1 (M.2.2 a0 10) 14)] G (c_X11_tell h0 hcv26) h0 (by decide) rfl rfl rfl t_521 t_523 t_p0 t_1 t_524 nm_X11_tell (by decide) (by decide) rfl rfl (Nat.le_of_ble_eq_true rfl) dX11_many_186 (kv_ri ?_)
    obtain rfl := Option.some.inj hf
    exact v_iret G dX11_many_189
  replace hf := (if_neg h27).symm.trans hf
  by_cases h32 : p1 = (9 : Int32)
  · replace hf := (if_pos h32).symm.trans hf
    refine v_tabIn (off := 189) 190 G dX11_many_1 (by rw [h32]; decide) (by rw [h32]; decide) (by rw [h32]; rfl) (by decide) ?_
    refine v_aload_n G dX11_many_190 0 rfl ?_
    refine v_aload_n G dX11_many_191 0 rfl ?_
    refine gf_11_10 G h0 t_467 (Or.inl rfl) dX11_many_192 ?_
    refine v_kt (fun hKT => ?_)
    have hk28 := hKT.1 _ h0
    refine v_aload_n G dX11_many_195 0 rfl ?_
    refine gf_11_10 G h0 t_467 (Or.inl rfl) dX11_many_196 ?_
    refine v_kt (fun hKT => ?_)
    have hk29 := hKT.1 _ h0
    refine gf_2_11 G hk29 t_396 (Or.inl rfl) dX11_many_199 ?_
    obtain ⟨v30, hcv30, hf⟩ := bd_e hf
    refine v_callV [.int (M.1 (M.2.2 a0 10) 11)] G (c_X2_isGlaring n hk28 hcv30) hk28 (by decide) rfl rfl rfl t_525 t_526 t_527 t_13 t_528 nm_X2_isGlaring (by decide) (by decide) rfl rfl (Nat.le_of_ble_eq_true rfl) dX11_many_202 (kv_ri ?_)
    obtain ⟨v31, hcv31⟩ : ∃ q, f_X11_tellIf a0 v30 M = q := ⟨_, rfl⟩
    replace hf := lt_e hf hcv31.symm
    refine v_callV [.int v30] G (c_X11_tellIf h0 hcv31) h0 (by decide) rfl rfl rfl t_533 t_535 t_p1 t_1 t_536 nm_X11_tellIf (by decide) (by decide) rfl rfl (Nat.le_of_ble_eq_true rfl) dX11_many_205 (kv_ri ?_)
    obtain rfl := Option.some.inj hf
    exact v_iret G dX11_many_208
  replace hf := (if_neg h32).symm.trans hf
  by_cases h35 : p1 = (10 : Int32)
  · replace hf := (if_pos h35).symm.trans hf
    refine v_tabIn (off := 208) 209 G dX11_many_1 (by rw [h35]; decide) (by rw [h35]; decide) (by rw [h35]; rfl) (by decide) ?_
    refine v_aload_n G dX11_many_209 0 rfl ?_
    refine v_aload_n G dX11_many_210 0 rfl ?_
    refine gf_11_10 G h0 t_467 (Or.inl rfl) dX11_many_211 ?_
    refine v_kt (fun hKT => ?_)
    have hk33 := hKT.1 _ h0
    refine gf_2_15 G hk33 t_407 (Or.inl rfl) dX11_many_214 ?_
    obtain ⟨v34, hcv34⟩ : ∃ q, f_X11_tellIf a0 (M.1 (M.2.2 a0 10) 15) M = q := ⟨_, rfl⟩
    replace hf := lt_e hf hcv34.symm
    refine v_callV [.int (M.1 (M.2.2 a0 10) 15)] G (c_X11_tellIf h0 hcv34) h0 (by decide) rfl rfl rfl t_533 t_535 t_p1 t_1 t_536 nm_X11_tellIf (by decide) (by decide) rfl rfl (Nat.le_of_ble_eq_true rfl) dX11_many_217 (kv_ri ?_)
    obtain rfl := Option.some.inj hf
    exact v_iret G dX11_many_220
  replace hf := (if_neg h35).symm.trans hf
  by_cases h39 : p1 = (11 : Int32)
  · replace hf := (if_pos h39).symm.trans hf
    refine v_tabIn (off := 220) 221 G dX11_many_1 (by rw [h39]; decide) (by rw [h39]; decide) (by rw [h39]; rfl) (by decide) ?_
    refine v_aload_n G dX11_many_221 0 rfl ?_
    refine v_aload_n G dX11_many_222 0 rfl ?_
    refine gf_11_10 G h0 t_467 (Or.inl rfl) dX11_many_223 ?_
    refine v_kt (fun hKT => ?_)
    have hk36 := hKT.1 _ h0
    obtain ⟨v37, hcv37, hf⟩ := bd_e hf
    refine v_callV [] G (c_X2_blindSet n hk36 hcv37) hk36 (by decide) rfl rfl rfl t_537 t_538 t_539 t_13 t_540 nm_X2_blindSet (by decide) (by decide) rfl rfl (Nat.le_of_ble_eq_true rfl) dX11_many_226 (kv_ri ?_)
    obtain ⟨v38, hcv38⟩ : ∃ q, f_X11_tell a0 v37 M = q := ⟨_, rfl⟩
    replace hf := lt_e hf hcv38.symm
    refine v_callV [.int v37] G (c_X11_tell h0 hcv38) h0 (by decide) rfl rfl rfl t_521 t_523 t_p0 t_1 t_524 nm_X11_tell (by decide) (by decide) rfl rfl (Nat.le_of_ble_eq_true rfl) dX11_many_229 (kv_ri ?_)
    obtain rfl := Option.some.inj hf
    exact v_iret G dX11_many_232
  replace hf := (if_neg h39).symm.trans hf
  by_cases h43 : p1 = (12 : Int32)
  · replace hf := (if_pos h43).symm.trans hf
    refine v_tabIn (off := 232) 233 G dX11_many_1 (by rw [h43]; decide) (by rw [h43]; decide) (by rw [h43]; rfl) (by decide) ?_
    refine v_aload_n G dX11_many_233 0 rfl ?_
    refine v_aload_n G dX11_many_234 0 rfl ?_
    refine gf_11_10 G h0 t_467 (Or.inl rfl) dX11_many_235 ?_
    refine v_kt (fun hKT => ?_)
    have hk40 := hKT.1 _ h0
    obtain ⟨v41, hcv41, hf⟩ := bd_e hf
    refine v_callV [] G (c_X2_walkingSet n hk40 hcv41) hk40 (by decide) rfl rfl rfl t_541 t_542 t_543 t_13 t_544 nm_X2_walkingSet (by decide) (by decide) rfl rfl (Nat.le_of_ble_eq_true rfl) dX11_many_238 (kv_ri ?_)
    obtain ⟨v42, hcv42⟩ : ∃ q, f_X11_tell a0 v41 M = q := ⟨_, rfl⟩
    replace hf := lt_e hf hcv42.symm
    refine v_callV [.int v41] G (c_X11_tell h0 hcv42) h0 (by decide) rfl rfl rfl t_521 t_523 t_p0 t_1 t_524 nm_X11_tell (by decide) (by decide) rfl rfl (Nat.le_of_ble_eq_true rfl) dX11_many_241 (kv_ri ?_)
    obtain rfl := Option.some.inj hf
    exact v_iret G dX11_many_244
  replace hf := (if_neg h43).symm.trans hf
  by_cases h47 : p1 = (13 : Int32)
  · replace hf := (if_pos h47).symm.trans hf
    refine v_tabIn (off := 244) 245 G dX11_many_1 (by rw [h47]; decide) (by rw [h47]; decide) (by rw [h47]; rfl) (by decide) ?_
    refine v_aload_n G dX11_many_245 0 rfl ?_
    refine v_aload_n G dX11_many_246 0 rfl ?_
    refine gf_11_10 G h0 t_467 (Or.inl rfl) dX11_many_247 ?_
    refine v_kt (fun hKT => ?_)
    have hk44 := hKT.1 _ h0
    obtain ⟨v45, hcv45, hf⟩ := bd_e hf
    refine v_callV [] G (c_X2_ledSet n hk44 hcv45) hk44 (by decide) rfl rfl rfl t_549 t_550 t_551 t_13 t_552 nm_X2_ledSet (by decide) (by decide) rfl rfl (Nat.le_of_ble_eq_true rfl) dX11_many_250 (kv_ri ?_)
    obtain ⟨v46, hcv46⟩ : ∃ q, f_X11_tell a0 v45 M = q := ⟨_, rfl⟩
    replace hf := lt_e hf hcv46.symm
    refine v_callV [.int v45] G (c_X11_tell h0 hcv46) h0 (by decide) rfl rfl rfl t_521 t_523 t_p0 t_1 t_524 nm_X11_tell (by decide) (by decide) rfl rfl (Nat.le_of_ble_eq_true rfl) dX11_many_253 (kv_ri ?_)
    obtain rfl := Option.some.inj hf
    exact v_iret G dX11_many_256
  replace hf := (if_neg h47).symm.trans hf
  by_cases h51 : p1 = (14 : Int32)
  · replace hf := (if_pos h51).symm.trans hf
    refine v_tabIn (off := 256) 257 G dX11_many_1 (by rw [h51]; decide) (by rw [h51]; decide) (by rw [h51]; rfl) (by decide) ?_
    refine v_aload_n G dX11_many_257 0 rfl ?_
    refine v_aload_n G dX11_many_258 0 rfl ?_
    refine gf_11_10 G h0 t_467 (Or.inl rfl) dX11_many_259 ?_
    refine v_kt (fun hKT => ?_)
    have hk48 := hKT.1 _ h0
    obtain ⟨v49, hcv49, hf⟩ := bd_e hf
    refine v_callV [] G (c_X2_lostOfAll n hk48 hcv49) hk48 (by decide) rfl rfl rfl t_553 t_554 t_555 t_13 t_556 nm_X2_lostOfAll (by decide) (by decide) rfl rfl (Nat.le_of_ble_eq_true rfl) dX11_many_262 (kv_ri ?_)
    obtain ⟨v50, hcv50⟩ : ∃ q, f_X11_tell a0 v49 M = q := ⟨_, rfl⟩
    replace hf := lt_e hf hcv50.symm
    refine v_callV [.int v49] G (c_X11_tell h0 hcv50) h0 (by decide) rfl rfl rfl t_521 t_523 t_p0 t_1 t_524 nm_X11_tell (by decide) (by decide) rfl rfl (Nat.le_of_ble_eq_true rfl) dX11_many_265 (kv_ri ?_)
    obtain rfl := Option.some.inj hf
    exact v_iret G dX11_many_268
  replace hf := (if_neg h51).symm.trans hf
  refine v_tabOut 269 G dX11_many_1 (sw_out 0 14 (by decide) (sw_s h3 (sw_s h6 (sw_s h9 (sw_s h12 (sw_s h15 (sw_s h18 (sw_s h21 (sw_s h24 (sw_s h27 (sw_s h32 (sw_s h35 (sw_s h39 (sw_s h43 (sw_s h47 (sw_s h51 sw_e)))))))))))))))) (by decide) ?_
  refine v_aload_n G dX11_many_269 0 rfl ?_
  refine v_iconst (5 : Int32) G dX11_many_270 (by decide) ?_
  obtain ⟨v52, hcv52⟩ : ∃ q, f_X11_refuse a0 (5 : Int32) M = q := ⟨_, rfl⟩
  replace hf := lt_e hf hcv52.symm
  refine v_callV [.int (5 : Int32)] G (c_X11_refuse h0 hcv52) h0 (by decide) rfl rfl rfl t_557 t_559 t_p2 t_1 t_560 nm_X11_refuse (by decide) (by decide) rfl rfl (Nat.le_of_ble_eq_true rfl) dX11_many_271 (kv_ri ?_)
  obtain rfl := Option.some.inj hf
  exact v_iret G dX11_many_274
abbrev cX11_roadOf : ByteArray := prog_1_method_28_code
def yX11_roadOf : MethodName := ⟨RX11, "roadOf", "(II)I"⟩
theorem dX11_roadOf_0 : dc cX11_roadOf 0 (.aload_n 0) 1 1 := ⟨by decide +kernel, rfl⟩
theorem dX11_roadOf_1 : dc cX11_roadOf 1 (.getfield 72) 3 4 := ⟨by decide +kernel, rfl⟩
theorem dX11_roadOf_4 : dc cX11_roadOf 4 (.iload_n 1) 1 5 := ⟨by decide +kernel, rfl⟩
theorem dX11_roadOf_5 : dc cX11_roadOf 5 (.invokevirtual 257) 3 8 := ⟨by decide +kernel, rfl⟩
theorem dX11_roadOf_8 : dc cX11_roadOf 8 (.ifCond .eq 14) 3 11 := ⟨by decide +kernel, rfl⟩
theorem dX11_roadOf_11 : dc cX11_roadOf 11 (.aload_n 0) 1 12 := ⟨by decide +kernel, rfl⟩
theorem dX11_roadOf_12 : dc cX11_roadOf 12 (.getfield 72) 3 15 := ⟨by decide +kernel, rfl⟩
theorem dX11_roadOf_15 : dc cX11_roadOf 15 (.iload_n 2) 1 16 := ⟨by decide +kernel, rfl⟩
theorem dX11_roadOf_16 : dc cX11_roadOf 16 (.invokevirtual 257) 3 19 := ⟨by decide +kernel, rfl⟩
theorem dX11_roadOf_19 : dc cX11_roadOf 19 (.ifCond .ne 9) 3 22 := ⟨by decide +kernel, rfl⟩
theorem dX11_roadOf_22 : dc cX11_roadOf 22 (.aload_n 0) 1 23 := ⟨by decide +kernel, rfl⟩
theorem dX11_roadOf_23 : dc cX11_roadOf 23 (.iconst 2) 1 24 := ⟨by decide +kernel, rfl⟩
theorem dX11_roadOf_24 : dc cX11_roadOf 24 (.invokevirtual 104) 3 27 := ⟨by decide +kernel, rfl⟩
theorem dX11_roadOf_27 : dc cX11_roadOf 27 (.ireturn) 1 28 := ⟨by decide +kernel, rfl⟩
theorem dX11_roadOf_28 : dc cX11_roadOf 28 (.aload_n 0) 1 29 := ⟨by decide +kernel, rfl⟩
theorem dX11_roadOf_29 : dc cX11_roadOf 29 (.aload_n 0) 1 30 := ⟨by decide +kernel, rfl⟩
theorem dX11_roadOf_30 : dc cX11_roadOf 30 (.getfield 72) 3 33 := ⟨by decide +kernel, rfl⟩
theorem dX11_roadOf_33 : dc cX11_roadOf 33 (.iload_n 1) 1 34 := ⟨by decide +kernel, rfl⟩
theorem dX11_roadOf_34 : dc cX11_roadOf 34 (.iload_n 2) 1 35 := ⟨by decide +kernel, rfl⟩
theorem dX11_roadOf_35 : dc cX11_roadOf 35 (.invokevirtual 260) 3 38 := ⟨by decide +kernel, rfl⟩
theorem dX11_roadOf_38 : dc cX11_roadOf 38 (.invokevirtual 263) 3 41 := ⟨by decide +kernel, rfl⟩
theorem dX11_roadOf_41 : dc cX11_roadOf 41 (.ireturn) 1 42 := ⟨by decide +kernel, rfl⟩
theorem nm_X11_roadOf : (yX11_roadOf).cls ≠ "java/lang/invoke/MethodHandle" ∧ (yX11_roadOf).cls ≠ "java/lang/invoke/VarHandle" ∧ (parseMethodDescriptor (yX11_roadOf).desc).map (fun d => d.parameters.length) = some 2 := ⟨by decide +kernel, by decide +kernel, by decide +kernel⟩
set_option maxRecDepth 100000 in
set_option maxHeartbeats 4000000 in
theorem c_X11_roadOf {l : Launch} {ad : Nat → Nat} {cy : Nat → ClassId} {D : va_G} {z : Nat} (n : Nat) {a0 : Nat} {p1 : Int32} {p2 : Int32} {M : KM} {y : (Int32 × KM)} (h0 : kty a0 = 11) (hf : f_X11_roadOf n a0 p1 p2 M = some y) : KC l ad cy D z yX11_roadOf cX11_roadOf 3 (some .int) 3 [.ref (ad a0), .int p1, .int p2] M (some (.int y.1), y.2) := by
  refine kv_enter (by decide +kernel) (Nat.le_of_ble_eq_true rfl) ?_
  intro x hl hD hz G
  subst hl hD hz
  unfold f_X11_roadOf at hf
  have G : KG ad cy x cX11_roadOf "NoonGuides" 3 (some (some .int)) 3 := G
  show KV ad cy x (some (.int y.1), y.2) 0 [(0, .ref (ad a0)), (1, .int p1), (2, .int p2)] [] M
  refine v_aload_n G dX11_roadOf_0 0 rfl ?_
  refine gf_11_10 G h0 t_467 (Or.inl rfl) dX11_roadOf_1 ?_
  refine v_kt (fun hKT => ?_)
  have hk1 := hKT.1 _ h0
  refine v_iload_n G dX11_roadOf_4 1 rfl ?_
  obtain ⟨v2, hcv2⟩ : ∃ q, f_X2_hasPlace (M.2.2 a0 10) p1 M = q := ⟨_, rfl⟩
  replace hf := lt_e hf hcv2.symm
  refine v_callV [.int p1] G (c_X2_hasPlace hk1 hcv2) hk1 (by decide) rfl rfl rfl t_565 t_566 t_567 t_13 t_568 nm_X2_hasPlace (by decide) (by decide) rfl rfl (Nat.le_of_ble_eq_true rfl) dX11_roadOf_5 (kv_ri ?_)
  obtain ⟨j22, ej22, hf⟩ := lt_j hf
  have hj22 : j22 = some y → KV ad cy x (some (.int y.1), y.2) 22 [(0, .ref (ad a0))] [] M := by
    intro hf
    rw [ej22] at hf
    refine v_aload_n G dX11_roadOf_22 0 rfl ?_
    refine v_iconst (2 : Int32) G dX11_roadOf_23 (by decide) ?_
    obtain ⟨v3, hcv3⟩ : ∃ q, f_X11_refuse a0 (2 : Int32) M = q := ⟨_, rfl⟩
    replace hf := lt_e hf hcv3.symm
    refine v_callV [.int (2 : Int32)] G (c_X11_refuse h0 hcv3) h0 (by decide) rfl rfl rfl t_557 t_559 t_p2 t_1 t_560 nm_X11_refuse (by decide) (by decide) rfl rfl (Nat.le_of_ble_eq_true rfl) dX11_roadOf_24 (kv_ri ?_)
    obtain rfl := Option.some.inj hf
    exact v_iret G dX11_roadOf_27
  refine v_if_eq 22 G dX11_roadOf_8 (by decide) (fun h10 => ?_) (fun h10 => ?_)
  · replace hf := (if_pos h10).symm.trans hf
    refine v_sub _ [0] rfl ?_
    exact hj22 hf
  · replace hf := (if_neg h10).symm.trans hf
    refine v_aload_n G dX11_roadOf_11 0 rfl ?_
    refine gf_11_10 G h0 t_467 (Or.inl rfl) dX11_roadOf_12 ?_
    refine v_kt (fun hKT => ?_)
    have hk4 := hKT.1 _ h0
    refine v_iload_n G dX11_roadOf_15 2 rfl ?_
    obtain ⟨v5, hcv5⟩ : ∃ q, f_X2_hasPlace (M.2.2 a0 10) p2 M = q := ⟨_, rfl⟩
    replace hf := lt_e hf hcv5.symm
    refine v_callV [.int p2] G (c_X2_hasPlace hk4 hcv5) hk4 (by decide) rfl rfl rfl t_565 t_566 t_567 t_13 t_568 nm_X2_hasPlace (by decide) (by decide) rfl rfl (Nat.le_of_ble_eq_true rfl) dX11_roadOf_16 (kv_ri ?_)
    refine v_if_ne 28 G dX11_roadOf_19 (by decide) (fun h9 => ?_) (fun h9 => ?_)
    · replace hf := (if_neg h9).symm.trans hf
      refine v_aload_n G dX11_roadOf_28 0 rfl ?_
      refine v_aload_n G dX11_roadOf_29 0 rfl ?_
      refine gf_11_10 G h0 t_467 (Or.inl rfl) dX11_roadOf_30 ?_
      refine v_kt (fun hKT => ?_)
      have hk6 := hKT.1 _ h0
      refine v_iload_n G dX11_roadOf_33 1 rfl ?_
      refine v_iload_n G dX11_roadOf_34 2 rfl ?_
      obtain ⟨v7, hcv7, hf⟩ := bd_e hf
      refine v_callV [.int p1, .int p2] G (c_X2_roadBetween n hk6 hcv7) hk6 (by decide) rfl rfl rfl t_569 t_570 t_571 t_13 t_572 nm_X2_roadBetween (by decide) (by decide) rfl rfl (Nat.le_of_ble_eq_true rfl) dX11_roadOf_35 (kv_ri ?_)
      obtain ⟨v8, hcv8⟩ : ∃ q, f_X11_tellOrNone a0 v7 M = q := ⟨_, rfl⟩
      replace hf := lt_e hf hcv8.symm
      refine v_callV [.int v7] G (c_X11_tellOrNone h0 hcv8) h0 (by decide) rfl rfl rfl t_577 t_579 t_p3 t_1 t_580 nm_X11_tellOrNone (by decide) (by decide) rfl rfl (Nat.le_of_ble_eq_true rfl) dX11_roadOf_38 (kv_ri ?_)
      obtain rfl := Option.some.inj hf
      exact v_iret G dX11_roadOf_41
    · replace hf := (if_pos h9).symm.trans hf
      refine v_sub _ [0] rfl ?_
      exact hj22 hf
abbrev cX11_person : ByteArray := prog_1_method_29_code
def yX11_person : MethodName := ⟨RX11, "person", "(II)I"⟩
theorem dX11_person_0 : dc cX11_person 0 (.aload_n 0) 1 1 := ⟨by decide +kernel, rfl⟩
theorem dX11_person_1 : dc cX11_person 1 (.getfield 72) 3 4 := ⟨by decide +kernel, rfl⟩
theorem dX11_person_4 : dc cX11_person 4 (.iload_n 1) 1 5 := ⟨by decide +kernel, rfl⟩
theorem dX11_person_5 : dc cX11_person 5 (.invokevirtual 266) 3 8 := ⟨by decide +kernel, rfl⟩
theorem dX11_person_8 : dc cX11_person 8 (.ifCond .ne 9) 3 11 := ⟨by decide +kernel, rfl⟩
theorem dX11_person_11 : dc cX11_person 11 (.aload_n 0) 1 12 := ⟨by decide +kernel, rfl⟩
theorem dX11_person_12 : dc cX11_person 12 (.iconst 2) 1 13 := ⟨by decide +kernel, rfl⟩
theorem dX11_person_13 : dc cX11_person 13 (.invokevirtual 104) 3 16 := ⟨by decide +kernel, rfl⟩
theorem dX11_person_16 : dc cX11_person 16 (.ireturn) 1 17 := ⟨by decide +kernel, rfl⟩
theorem dX11_person_17 : dc cX11_person 17 (.aload_n 0) 1 18 := ⟨by decide +kernel, rfl⟩
theorem dX11_person_18 : dc cX11_person 18 (.getfield 72) 3 21 := ⟨by decide +kernel, rfl⟩
theorem dX11_person_21 : dc cX11_person 21 (.getfield 269) 3 24 := ⟨by decide +kernel, rfl⟩
theorem dX11_person_24 : dc cX11_person 24 (.iload_n 1) 1 25 := ⟨by decide +kernel, rfl⟩
theorem dX11_person_25 : dc cX11_person 25 (.aaload) 1 26 := ⟨by decide +kernel, rfl⟩
theorem dX11_person_26 : dc cX11_person 26 (.astore_n 3) 1 27 := ⟨by decide +kernel, rfl⟩
theorem dX11_person_27 : dc cX11_person 27 (.iload_n 2) 1 28 := ⟨by decide +kernel, rfl⟩
theorem dX11_person_28 : dc cX11_person 28 (.tableswitch 98 0 5 #[40, 49, 58, 71, 80, 89]) 40 68 := ⟨by decide +kernel, rfl⟩
theorem dX11_person_68 : dc cX11_person 68 (.aload_n 0) 1 69 := ⟨by decide +kernel, rfl⟩
theorem dX11_person_69 : dc cX11_person 69 (.aload_n 3) 1 70 := ⟨by decide +kernel, rfl⟩
theorem dX11_person_70 : dc cX11_person 70 (.getfield 273) 3 73 := ⟨by decide +kernel, rfl⟩
theorem dX11_person_73 : dc cX11_person 73 (.invokevirtual 263) 3 76 := ⟨by decide +kernel, rfl⟩
theorem dX11_person_76 : dc cX11_person 76 (.ireturn) 1 77 := ⟨by decide +kernel, rfl⟩
theorem dX11_person_77 : dc cX11_person 77 (.aload_n 0) 1 78 := ⟨by decide +kernel, rfl⟩
theorem dX11_person_78 : dc cX11_person 78 (.aload_n 3) 1 79 := ⟨by decide +kernel, rfl⟩
theorem dX11_person_79 : dc cX11_person 79 (.getfield 278) 3 82 := ⟨by decide +kernel, rfl⟩
theorem dX11_person_82 : dc cX11_person 82 (.invokevirtual 263) 3 85 := ⟨by decide +kernel, rfl⟩
theorem dX11_person_85 : dc cX11_person 85 (.ireturn) 1 86 := ⟨by decide +kernel, rfl⟩
theorem dX11_person_86 : dc cX11_person 86 (.aload_n 0) 1 87 := ⟨by decide +kernel, rfl⟩
theorem dX11_person_87 : dc cX11_person 87 (.aload_n 0) 1 88 := ⟨by decide +kernel, rfl⟩
theorem dX11_person_88 : dc cX11_person 88 (.getfield 72) 3 91 := ⟨by decide +kernel, rfl⟩
theorem dX11_person_91 : dc cX11_person 91 (.iload_n 1) 1 92 := ⟨by decide +kernel, rfl⟩
theorem dX11_person_92 : dc cX11_person 92 (.invokevirtual 281) 3 95 := ⟨by decide +kernel, rfl⟩
theorem dX11_person_95 : dc cX11_person 95 (.invokevirtual 108) 3 98 := ⟨by decide +kernel, rfl⟩
theorem dX11_person_98 : dc cX11_person 98 (.ireturn) 1 99 := ⟨by decide +kernel, rfl⟩
theorem dX11_person_99 : dc cX11_person 99 (.aload_n 0) 1 100 := ⟨by decide +kernel, rfl⟩
theorem dX11_person_100 : dc cX11_person 100 (.aload_n 3) 1 101 := ⟨by decide +kernel, rfl⟩
theorem dX11_person_101 : dc cX11_person 101 (.getfield 284) 3 104 := ⟨by decide +kernel, rfl⟩
theorem dX11_person_104 : dc cX11_person 104 (.invokevirtual 263) 3 107 := ⟨by decide +kernel, rfl⟩
theorem dX11_person_107 : dc cX11_person 107 (.ireturn) 1 108 := ⟨by decide +kernel, rfl⟩
theorem dX11_person_108 : dc cX11_person 108 (.aload_n 0) 1 109 := ⟨by decide +kernel, rfl⟩
theorem dX11_person_109 : dc cX11_person 109 (.aload_n 3) 1 110 := ⟨by decide +kernel, rfl⟩
theorem dX11_person_110 : dc cX11_person 110 (.getfield 287) 3 113 := ⟨by decide +kernel, rfl⟩
theorem dX11_person_113 : dc cX11_person 113 (.invokevirtual 108) 3 116 := ⟨by decide +kernel, rfl⟩
theorem dX11_person_116 : dc cX11_person 116 (.ireturn) 1 117 := ⟨by decide +kernel, rfl⟩
theorem dX11_person_117 : dc cX11_person 117 (.aload_n 0) 1 118 := ⟨by decide +kernel, rfl⟩
theorem dX11_person_118 : dc cX11_person 118 (.aload_n 3) 1 119 := ⟨by decide +kernel, rfl⟩
theorem dX11_person_119 : dc cX11_person 119 (.getfield 290) 3 122 := ⟨by decide +kernel, rfl⟩
theorem dX11_person_122 : dc cX11_person 122 (.invokevirtual 220) 3 125 := ⟨by decide +kernel, rfl⟩
theorem dX11_person_125 : dc cX11_person 125 (.ireturn) 1 126 := ⟨by decide +kernel, rfl⟩
theorem dX11_person_126 : dc cX11_person 126 (.aload_n 0) 1 127 := ⟨by decide +kernel, rfl⟩
theorem dX11_person_127 : dc cX11_person 127 (.iconst 5) 1 128 := ⟨by decide +kernel, rfl⟩
theorem dX11_person_128 : dc cX11_person 128 (.invokevirtual 104) 3 131 := ⟨by decide +kernel, rfl⟩
theorem dX11_person_131 : dc cX11_person 131 (.ireturn) 1 132 := ⟨by decide +kernel, rfl⟩
theorem nm_X11_person : (yX11_person).cls ≠ "java/lang/invoke/MethodHandle" ∧ (yX11_person).cls ≠ "java/lang/invoke/VarHandle" ∧ (parseMethodDescriptor (yX11_person).desc).map (fun d => d.parameters.length) = some 2 := ⟨by decide +kernel, by decide +kernel, by decide +kernel⟩
set_option maxRecDepth 100000 in
set_option maxHeartbeats 4000000 in
theorem c_X11_person {l : Launch} {ad : Nat → Nat} {cy : Nat → ClassId} {D : va_G} {z : Nat} (n : Nat) {a0 : Nat} {p1 : Int32} {p2 : Int32} {M : KM} {y : (Int32 × KM)} (h0 : kty a0 = 11) (hf : f_X11_person n a0 p1 p2 M = some y) : KC l ad cy D z yX11_person cX11_person 4 (some .int) 3 [.ref (ad a0), .int p1, .int p2] M (some (.int y.1), y.2) := by
  refine kv_enter (by decide +kernel) (Nat.le_of_ble_eq_true rfl) ?_
  intro x hl hD hz G
  subst hl hD hz
  unfold f_X11_person at hf
  have G : KG ad cy x cX11_person "NoonGuides" 4 (some (some .int)) 3 := G
  show KV ad cy x (some (.int y.1), y.2) 0 [(0, .ref (ad a0)), (1, .int p1), (2, .int p2)] [] M
  refine v_aload_n G dX11_person_0 0 rfl ?_
  refine gf_11_10 G h0 t_467 (Or.inl rfl) dX11_person_1 ?_
  refine v_kt (fun hKT => ?_)
  have hk1 := hKT.1 _ h0
  refine v_iload_n G dX11_person_4 1 rfl ?_
  obtain ⟨v2, hcv2⟩ : ∃ q, f_X2_hasPerson (M.2.2 a0 10) p1 M = q := ⟨_, rfl⟩
  replace hf := lt_e hf hcv2.symm
  refine v_callV [.int p1] G (c_X2_hasPerson hk1 hcv2) hk1 (by decide) rfl rfl rfl t_585 t_586 t_587 t_13 t_588 nm_X2_hasPerson (by decide) (by decide) rfl rfl (Nat.le_of_ble_eq_true rfl) dX11_person_5 (kv_ri ?_)
  refine v_if_ne 17 G dX11_person_8 (by decide) (fun h22 => ?_) (fun h22 => ?_)
  · replace hf := (if_neg h22).symm.trans hf
    refine v_aload_n G dX11_person_17 0 rfl ?_
    refine gf_11_10 G h0 t_467 (Or.inl rfl) dX11_person_18 ?_
    refine v_kt (fun hKT => ?_)
    have hk3 := hKT.1 _ h0
    refine gf_2_5 G hk3 t_375 (Or.inl rfl) dX11_person_21 ?_
    refine v_iload_n G dX11_person_24 1 rfl ?_
    obtain ⟨g4, hf⟩ := gd_e hf
    refine al_Person G (kf_2_6 hk3) g4 dX11_person_25 ?_
    refine v_nma (fun v5 ev5 => ?_)
    have hv5 : kty v5 = 8 := by rw [ev5]; exact (ke_Person (kf_2_6 hk3) (ix_lt g4))
    replace hf := lt_e hf ev5
    refine v_astore_n [(3, .ref (ad v5)), (0, .ref (ad a0)), (1, .int p1), (2, .int p2)] G dX11_person_26 (by decide) rfl ?_
    refine v_iload_n G dX11_person_27 3 rfl ?_
    by_cases h7 : p2 = (0 : Int32)
    · replace hf := (if_pos h7).symm.trans hf
      refine v_tabIn (off := 40) 68 G dX11_person_28 (by rw [h7]; decide) (by rw [h7]; decide) (by rw [h7]; rfl) (by decide) ?_
      refine v_aload_n G dX11_person_68 1 rfl ?_
      refine v_aload_n G dX11_person_69 0 rfl ?_
      refine gf_7_5 G hv5 t_323 (Or.inl rfl) dX11_person_70 ?_
      obtain ⟨v6, hcv6⟩ : ∃ q, f_X11_tellOrNone a0 (M.1 v5 5) M = q := ⟨_, rfl⟩
      replace hf := lt_e hf hcv6.symm
      refine v_callV [.int (M.1 v5 5)] G (c_X11_tellOrNone h0 hcv6) h0 (by decide) rfl rfl rfl t_577 t_579 t_p3 t_1 t_580 nm_X11_tellOrNone (by decide) (by decide) rfl rfl (Nat.le_of_ble_eq_true rfl) dX11_person_73 (kv_ri ?_)
      obtain rfl := Option.some.inj hf
      exact v_iret G dX11_person_76
    replace hf := (if_neg h7).symm.trans hf
    by_cases h9 : p2 = (1 : Int32)
    · replace hf := (if_pos h9).symm.trans hf
      refine v_tabIn (off := 49) 77 G dX11_person_28 (by rw [h9]; decide) (by rw [h9]; decide) (by rw [h9]; rfl) (by decide) ?_
      refine v_aload_n G dX11_person_77 1 rfl ?_
      refine v_aload_n G dX11_person_78 0 rfl ?_
      refine gf_7_8 G hv5 t_328 (Or.inl rfl) dX11_person_79 ?_
      obtain ⟨v8, hcv8⟩ : ∃ q, f_X11_tellOrNone a0 (M.1 v5 8) M = q := ⟨_, rfl⟩
      replace hf := lt_e hf hcv8.symm
      refine v_callV [.int (M.1 v5 8)] G (c_X11_tellOrNone h0 hcv8) h0 (by decide) rfl rfl rfl t_577 t_579 t_p3 t_1 t_580 nm_X11_tellOrNone (by decide) (by decide) rfl rfl (Nat.le_of_ble_eq_true rfl) dX11_person_82 (kv_ri ?_)
      obtain rfl := Option.some.inj hf
      exact v_iret G dX11_person_85
    replace hf := (if_neg h9).symm.trans hf
    by_cases h13 : p2 = (2 : Int32)
    · replace hf := (if_pos h13).symm.trans hf
      refine v_tabIn (off := 58) 86 G dX11_person_28 (by rw [h13]; decide) (by rw [h13]; decide) (by rw [h13]; rfl) (by decide) ?_
      refine v_aload_n G dX11_person_86 1 rfl ?_
      refine v_aload_n G dX11_person_87 1 rfl ?_
      refine gf_11_10 G h0 t_467 (Or.inl rfl) dX11_person_88 ?_
      refine v_kt (fun hKT => ?_)
      have hk10 := hKT.1 _ h0
      refine v_iload_n G dX11_person_91 2 rfl ?_
      obtain ⟨v11, hcv11, hf⟩ := bd_e hf
      refine v_callV [.int p1] G (c_X2_leftOf n hk10 hcv11) hk10 (by decide) rfl rfl rfl t_589 t_590 t_591 t_13 t_592 nm_X2_leftOf (by decide) (by decide) rfl rfl (Nat.le_of_ble_eq_true rfl) dX11_person_92 (kv_ri ?_)
      obtain ⟨v12, hcv12⟩ : ∃ q, f_X11_tell a0 v11 M = q := ⟨_, rfl⟩
      replace hf := lt_e hf hcv12.symm
      refine v_callV [.int v11] G (c_X11_tell h0 hcv12) h0 (by decide) rfl rfl rfl t_521 t_523 t_p0 t_1 t_524 nm_X11_tell (by decide) (by decide) rfl rfl (Nat.le_of_ble_eq_true rfl) dX11_person_95 (kv_ri ?_)
      obtain rfl := Option.some.inj hf
      exact v_iret G dX11_person_98
    replace hf := (if_neg h13).symm.trans hf
    by_cases h15 : p2 = (3 : Int32)
    · replace hf := (if_pos h15).symm.trans hf
      refine v_tabIn (off := 71) 99 G dX11_person_28 (by rw [h15]; decide) (by rw [h15]; decide) (by rw [h15]; rfl) (by decide) ?_
      refine v_aload_n G dX11_person_99 1 rfl ?_
      refine v_aload_n G dX11_person_100 0 rfl ?_
      refine gf_7_9 G hv5 t_332 (Or.inl rfl) dX11_person_101 ?_
      obtain ⟨v14, hcv14⟩ : ∃ q, f_X11_tellOrNone a0 (M.1 v5 9) M = q := ⟨_, rfl⟩
      replace hf := lt_e hf hcv14.symm
      refine v_callV [.int (M.1 v5 9)] G (c_X11_tellOrNone h0 hcv14) h0 (by decide) rfl rfl rfl t_577 t_579 t_p3 t_1 t_580 nm_X11_tellOrNone (by decide) (by decide) rfl rfl (Nat.le_of_ble_eq_true rfl) dX11_person_104 (kv_ri ?_)
      obtain rfl := Option.some.inj hf
      exact v_iret G dX11_person_107
    replace hf := (if_neg h15).symm.trans hf
    by_cases h17 : p2 = (4 : Int32)
    · replace hf := (if_pos h17).symm.trans hf
      refine v_tabIn (off := 80) 108 G dX11_person_28 (by rw [h17]; decide) (by rw [h17]; decide) (by rw [h17]; rfl) (by decide) ?_
      refine v_aload_n G dX11_person_108 1 rfl ?_
      refine v_aload_n G dX11_person_109 0 rfl ?_
      refine gf_7_11 G hv5 t_337 (Or.inl rfl) dX11_person_110 ?_
      obtain ⟨v16, hcv16⟩ : ∃ q, f_X11_tell a0 (M.1 v5 11) M = q := ⟨_, rfl⟩
      replace hf := lt_e hf hcv16.symm
      refine v_callV [.int (M.1 v5 11)] G (c_X11_tell h0 hcv16) h0 (by decide) rfl rfl rfl t_521 t_523 t_p0 t_1 t_524 nm_X11_tell (by decide) (by decide) rfl rfl (Nat.le_of_ble_eq_true rfl) dX11_person_113 (kv_ri ?_)
      obtain rfl := Option.some.inj hf
      exact v_iret G dX11_person_116
    replace hf := (if_neg h17).symm.trans hf
    by_cases h19 : p2 = (5 : Int32)
    · replace hf := (if_pos h19).symm.trans hf
      refine v_tabIn (off := 89) 117 G dX11_person_28 (by rw [h19]; decide) (by rw [h19]; decide) (by rw [h19]; rfl) (by decide) ?_
      refine v_aload_n G dX11_person_117 1 rfl ?_
      refine v_aload_n G dX11_person_118 0 rfl ?_
      refine gf_7_4 G hv5 t_319 (Or.inl rfl) dX11_person_119 ?_
      obtain ⟨v18, hcv18⟩ : ∃ q, f_X11_tellIf a0 (M.1 v5 4) M = q := ⟨_, rfl⟩
      replace hf := lt_e hf hcv18.symm
      refine v_callV [.int (M.1 v5 4)] G (c_X11_tellIf h0 hcv18) h0 (by decide) rfl rfl rfl t_533 t_535 t_p1 t_1 t_536 nm_X11_tellIf (by decide) (by decide) rfl rfl (Nat.le_of_ble_eq_true rfl) dX11_person_122 (kv_ri ?_)
      obtain rfl := Option.some.inj hf
      exact v_iret G dX11_person_125
    replace hf := (if_neg h19).symm.trans hf
    refine v_tabOut 126 G dX11_person_28 (sw_out 0 5 (by decide) (sw_s h7 (sw_s h9 (sw_s h13 (sw_s h15 (sw_s h17 (sw_s h19 sw_e))))))) (by decide) ?_
    refine v_aload_n G dX11_person_126 1 rfl ?_
    refine v_iconst (5 : Int32) G dX11_person_127 (by decide) ?_
    obtain ⟨v20, hcv20⟩ : ∃ q, f_X11_refuse a0 (5 : Int32) M = q := ⟨_, rfl⟩
    replace hf := lt_e hf hcv20.symm
    refine v_callV [.int (5 : Int32)] G (c_X11_refuse h0 hcv20) h0 (by decide) rfl rfl rfl t_557 t_559 t_p2 t_1 t_560 nm_X11_refuse (by decide) (by decide) rfl rfl (Nat.le_of_ble_eq_true rfl) dX11_person_128 (kv_ri ?_)
    obtain rfl := Option.some.inj hf
    exact v_iret G dX11_person_131
  · replace hf := (if_pos h22).symm.trans hf
    refine v_aload_n G dX11_person_11 0 rfl ?_
    refine v_iconst (2 : Int32) G dX11_person_12 (by decide) ?_
    obtain ⟨v21, hcv21⟩ : ∃ q, f_X11_refuse a0 (2 : Int32) M = q := ⟨_, rfl⟩
    replace hf := lt_e hf hcv21.symm
    refine v_callV [.int (2 : Int32)] G (c_X11_refuse h0 hcv21) h0 (by decide) rfl rfl rfl t_557 t_559 t_p2 t_1 t_560 nm_X11_refuse (by decide) (by decide) rfl rfl (Nat.le_of_ble_eq_true rfl) dX11_person_13 (kv_ri ?_)
    obtain rfl := Option.some.inj hf
    exact v_iret G dX11_person_16
abbrev cX11_whyNoTwo : ByteArray := prog_1_method_34_code
def yX11_whyNoTwo : MethodName := ⟨RX11, "whyNoTwo", "(II)I"⟩
theorem dX11_whyNoTwo_0 : dc cX11_whyNoTwo 0 (.aload_n 0) 1 1 := ⟨by decide +kernel, rfl⟩
theorem dX11_whyNoTwo_1 : dc cX11_whyNoTwo 1 (.getfield 72) 3 4 := ⟨by decide +kernel, rfl⟩
theorem dX11_whyNoTwo_4 : dc cX11_whyNoTwo 4 (.iload_n 1) 1 5 := ⟨by decide +kernel, rfl⟩
theorem dX11_whyNoTwo_5 : dc cX11_whyNoTwo 5 (.invokevirtual 266) 3 8 := ⟨by decide +kernel, rfl⟩
theorem dX11_whyNoTwo_8 : dc cX11_whyNoTwo 8 (.ifCond .eq 14) 3 11 := ⟨by decide +kernel, rfl⟩
theorem dX11_whyNoTwo_11 : dc cX11_whyNoTwo 11 (.aload_n 0) 1 12 := ⟨by decide +kernel, rfl⟩
theorem dX11_whyNoTwo_12 : dc cX11_whyNoTwo 12 (.getfield 72) 3 15 := ⟨by decide +kernel, rfl⟩
theorem dX11_whyNoTwo_15 : dc cX11_whyNoTwo 15 (.iload_n 2) 1 16 := ⟨by decide +kernel, rfl⟩
theorem dX11_whyNoTwo_16 : dc cX11_whyNoTwo 16 (.invokevirtual 266) 3 19 := ⟨by decide +kernel, rfl⟩
theorem dX11_whyNoTwo_19 : dc cX11_whyNoTwo 19 (.ifCond .ne 5) 3 22 := ⟨by decide +kernel, rfl⟩
theorem dX11_whyNoTwo_22 : dc cX11_whyNoTwo 22 (.iconst 2) 1 23 := ⟨by decide +kernel, rfl⟩
theorem dX11_whyNoTwo_23 : dc cX11_whyNoTwo 23 (.ireturn) 1 24 := ⟨by decide +kernel, rfl⟩
theorem dX11_whyNoTwo_24 : dc cX11_whyNoTwo 24 (.iload_n 1) 1 25 := ⟨by decide +kernel, rfl⟩
theorem dX11_whyNoTwo_25 : dc cX11_whyNoTwo 25 (.iload_n 2) 1 26 := ⟨by decide +kernel, rfl⟩
theorem dX11_whyNoTwo_26 : dc cX11_whyNoTwo 26 (.if_icmp .ne 8) 3 29 := ⟨by decide +kernel, rfl⟩
theorem dX11_whyNoTwo_29 : dc cX11_whyNoTwo 29 (.bipush 9) 2 31 := ⟨by decide +kernel, rfl⟩
theorem dX11_whyNoTwo_31 : dc cX11_whyNoTwo 31 (.goto 4) 3 34 := ⟨by decide +kernel, rfl⟩
theorem dX11_whyNoTwo_34 : dc cX11_whyNoTwo 34 (.iconst 0) 1 35 := ⟨by decide +kernel, rfl⟩
theorem dX11_whyNoTwo_35 : dc cX11_whyNoTwo 35 (.ireturn) 1 36 := ⟨by decide +kernel, rfl⟩
theorem nm_X11_whyNoTwo : (yX11_whyNoTwo).cls ≠ "java/lang/invoke/MethodHandle" ∧ (yX11_whyNoTwo).cls ≠ "java/lang/invoke/VarHandle" ∧ (parseMethodDescriptor (yX11_whyNoTwo).desc).map (fun d => d.parameters.length) = some 2 := ⟨by decide +kernel, by decide +kernel, by decide +kernel⟩
set_option maxRecDepth 100000 in
set_option maxHeartbeats 4000000 in
theorem c_X11_whyNoTwo {l : Launch} {ad : Nat → Nat} {cy : Nat → ClassId} {D : va_G} {z : Nat} {a0 : Nat} {p1 : Int32} {p2 : Int32} {M : KM} {y : Int32} (h0 : kty a0 = 11) (hf : f_X11_whyNoTwo a0 p1 p2 M = y) : KC l ad cy D z yX11_whyNoTwo cX11_whyNoTwo 3 (some .int) 2 [.ref (ad a0), .int p1, .int p2] M (some (.int y), M) := by
  refine kv_enter (by decide +kernel) (Nat.le_of_ble_eq_true rfl) ?_
  intro x hl hD hz G
  subst hl hD hz
  unfold f_X11_whyNoTwo at hf
  have G : KG ad cy x cX11_whyNoTwo "NoonGuides" 3 (some (some .int)) 2 := G
  show KV ad cy x (some (.int y), M) 0 [(0, .ref (ad a0)), (1, .int p1), (2, .int p2)] [] M
  refine v_aload_n G dX11_whyNoTwo_0 0 rfl ?_
  refine gf_11_10 G h0 t_467 (Or.inl rfl) dX11_whyNoTwo_1 ?_
  refine v_kt (fun hKT => ?_)
  have hk1 := hKT.1 _ h0
  refine v_iload_n G dX11_whyNoTwo_4 1 rfl ?_
  obtain ⟨v2, hcv2⟩ : ∃ q, f_X2_hasPerson (M.2.2 a0 10) p1 M = q := ⟨_, rfl⟩
  replace hf := lt_e hf hcv2.symm
  refine v_callV [.int p1] G (c_X2_hasPerson hk1 hcv2) hk1 (by decide) rfl rfl rfl t_585 t_586 t_587 t_13 t_588 nm_X2_hasPerson (by decide) (by decide) rfl rfl (Nat.le_of_ble_eq_true rfl) dX11_whyNoTwo_5 (kv_ri ?_)
  refine v_if_eq 22 G dX11_whyNoTwo_8 (by decide) (fun h7 => ?_) (fun h7 => ?_)
  · replace hf := (if_pos h7).symm.trans hf
    refine v_iconst (2 : Int32) G dX11_whyNoTwo_22 (by decide) ?_
    obtain rfl := hf
    exact v_iret G dX11_whyNoTwo_23
  · replace hf := (if_neg h7).symm.trans hf
    refine v_aload_n G dX11_whyNoTwo_11 0 rfl ?_
    refine gf_11_10 G h0 t_467 (Or.inl rfl) dX11_whyNoTwo_12 ?_
    refine v_kt (fun hKT => ?_)
    have hk3 := hKT.1 _ h0
    refine v_iload_n G dX11_whyNoTwo_15 2 rfl ?_
    obtain ⟨v4, hcv4⟩ : ∃ q, f_X2_hasPerson (M.2.2 a0 10) p2 M = q := ⟨_, rfl⟩
    replace hf := lt_e hf hcv4.symm
    refine v_callV [.int p2] G (c_X2_hasPerson hk3 hcv4) hk3 (by decide) rfl rfl rfl t_585 t_586 t_587 t_13 t_588 nm_X2_hasPerson (by decide) (by decide) rfl rfl (Nat.le_of_ble_eq_true rfl) dX11_whyNoTwo_16 (kv_ri ?_)
    refine v_if_ne 24 G dX11_whyNoTwo_19 (by decide) (fun h6 => ?_) (fun h6 => ?_)
    · replace hf := (if_neg h6).symm.trans hf
      refine v_iload_n G dX11_whyNoTwo_24 1 rfl ?_
      refine v_iload_n G dX11_whyNoTwo_25 2 rfl ?_
      refine v_icmp_ne 34 G dX11_whyNoTwo_26 (by decide) (fun h5 => ?_) (fun h5 => ?_)
      · replace hf := (if_neg h5).symm.trans hf
        refine v_iconst (0 : Int32) G dX11_whyNoTwo_34 (by decide) ?_
        obtain rfl := hf
        exact v_iret G dX11_whyNoTwo_35
      · replace hf := (if_pos h5).symm.trans hf
        refine v_bipush (9 : Int32) G dX11_whyNoTwo_29 (by decide) ?_
        refine v_goto 35 G dX11_whyNoTwo_31 (by decide) ?_
        obtain rfl := hf
        exact v_iret G dX11_whyNoTwo_35
    · replace hf := (if_pos h6).symm.trans hf
      refine v_iconst (2 : Int32) G dX11_whyNoTwo_22 (by decide) ?_
      obtain rfl := hf
      exact v_iret G dX11_whyNoTwo_23
abbrev cX11_owes : ByteArray := prog_1_method_31_code
def yX11_owes : MethodName := ⟨RX11, "owes", "(II)I"⟩
theorem dX11_owes_0 : dc cX11_owes 0 (.aload_n 0) 1 1 := ⟨by decide +kernel, rfl⟩
theorem dX11_owes_1 : dc cX11_owes 1 (.iload_n 1) 1 2 := ⟨by decide +kernel, rfl⟩
theorem dX11_owes_2 : dc cX11_owes 2 (.iload_n 2) 1 3 := ⟨by decide +kernel, rfl⟩
theorem dX11_owes_3 : dc cX11_owes 3 (.invokevirtual 296) 3 6 := ⟨by decide +kernel, rfl⟩
theorem dX11_owes_6 : dc cX11_owes 6 (.istore_n 3) 1 7 := ⟨by decide +kernel, rfl⟩
theorem dX11_owes_7 : dc cX11_owes 7 (.iload_n 3) 1 8 := ⟨by decide +kernel, rfl⟩
theorem dX11_owes_8 : dc cX11_owes 8 (.ifCond .eq 11) 3 11 := ⟨by decide +kernel, rfl⟩
theorem dX11_owes_11 : dc cX11_owes 11 (.aload_n 0) 1 12 := ⟨by decide +kernel, rfl⟩
theorem dX11_owes_12 : dc cX11_owes 12 (.iload_n 3) 1 13 := ⟨by decide +kernel, rfl⟩
theorem dX11_owes_13 : dc cX11_owes 13 (.invokevirtual 104) 3 16 := ⟨by decide +kernel, rfl⟩
theorem dX11_owes_16 : dc cX11_owes 16 (.goto 21) 3 19 := ⟨by decide +kernel, rfl⟩
theorem dX11_owes_19 : dc cX11_owes 19 (.aload_n 0) 1 20 := ⟨by decide +kernel, rfl⟩
theorem dX11_owes_20 : dc cX11_owes 20 (.aload_n 0) 1 21 := ⟨by decide +kernel, rfl⟩
theorem dX11_owes_21 : dc cX11_owes 21 (.getfield 72) 3 24 := ⟨by decide +kernel, rfl⟩
theorem dX11_owes_24 : dc cX11_owes 24 (.getfield 269) 3 27 := ⟨by decide +kernel, rfl⟩
theorem dX11_owes_27 : dc cX11_owes 27 (.iload_n 1) 1 28 := ⟨by decide +kernel, rfl⟩
theorem dX11_owes_28 : dc cX11_owes 28 (.aaload) 1 29 := ⟨by decide +kernel, rfl⟩
theorem dX11_owes_29 : dc cX11_owes 29 (.getfield 299) 3 32 := ⟨by decide +kernel, rfl⟩
theorem dX11_owes_32 : dc cX11_owes 32 (.iload_n 2) 1 33 := ⟨by decide +kernel, rfl⟩
theorem dX11_owes_33 : dc cX11_owes 33 (.iaload) 1 34 := ⟨by decide +kernel, rfl⟩
theorem dX11_owes_34 : dc cX11_owes 34 (.invokevirtual 108) 3 37 := ⟨by decide +kernel, rfl⟩
theorem dX11_owes_37 : dc cX11_owes 37 (.ireturn) 1 38 := ⟨by decide +kernel, rfl⟩
theorem nm_X11_owes : (yX11_owes).cls ≠ "java/lang/invoke/MethodHandle" ∧ (yX11_owes).cls ≠ "java/lang/invoke/VarHandle" ∧ (parseMethodDescriptor (yX11_owes).desc).map (fun d => d.parameters.length) = some 2 := ⟨by decide +kernel, by decide +kernel, by decide +kernel⟩
set_option maxRecDepth 100000 in
set_option maxHeartbeats 4000000 in
theorem c_X11_owes {l : Launch} {ad : Nat → Nat} {cy : Nat → ClassId} {D : va_G} {z : Nat} (n : Nat) {a0 : Nat} {p1 : Int32} {p2 : Int32} {M : KM} {y : (Int32 × KM)} (h0 : kty a0 = 11) (hf : f_X11_owes n a0 p1 p2 M = some y) : KC l ad cy D z yX11_owes cX11_owes 4 (some .int) 3 [.ref (ad a0), .int p1, .int p2] M (some (.int y.1), y.2) := by
  refine kv_enter (by decide +kernel) (Nat.le_of_ble_eq_true rfl) ?_
  intro x hl hD hz G
  subst hl hD hz
  unfold f_X11_owes at hf
  have G : KG ad cy x cX11_owes "NoonGuides" 4 (some (some .int)) 3 := G
  show KV ad cy x (some (.int y.1), y.2) 0 [(0, .ref (ad a0)), (1, .int p1), (2, .int p2)] [] M
  refine v_aload_n G dX11_owes_0 0 rfl ?_
  refine v_iload_n G dX11_owes_1 1 rfl ?_
  refine v_iload_n G dX11_owes_2 2 rfl ?_
  obtain ⟨v1, hcv1⟩ : ∃ q, f_X11_whyNoTwo a0 p1 p2 M = q := ⟨_, rfl⟩
  replace hf := lt_e hf hcv1.symm
  refine v_callV [.int p1, .int p2] G (c_X11_whyNoTwo h0 hcv1) h0 (by decide) rfl rfl rfl t_598 t_600 t_p4 t_1 t_601 nm_X11_whyNoTwo (by decide) (by decide) rfl rfl (Nat.le_of_ble_eq_true rfl) dX11_owes_3 (kv_ri ?_)
  refine v_istore_n [(3, .int v1), (0, .ref (ad a0)), (1, .int p1), (2, .int p2)] G dX11_owes_6 (by decide) rfl ?_
  refine v_iload_n G dX11_owes_7 0 rfl ?_
  refine v_if_eq 19 G dX11_owes_8 (by decide) (fun h7 => ?_) (fun h7 => ?_)
  · replace hf := (if_pos h7).symm.trans hf
    refine v_aload_n G dX11_owes_19 1 rfl ?_
    refine v_aload_n G dX11_owes_20 1 rfl ?_
    refine gf_11_10 G h0 t_467 (Or.inl rfl) dX11_owes_21 ?_
    refine v_kt (fun hKT => ?_)
    have hk2 := hKT.1 _ h0
    refine gf_2_5 G hk2 t_375 (Or.inl rfl) dX11_owes_24 ?_
    refine v_iload_n G dX11_owes_27 2 rfl ?_
    obtain ⟨g3, hf⟩ := gd_e hf
    refine al_Person G (kf_2_6 hk2) g3 dX11_owes_28 ?_
    refine gf_7_1 G (ke_Person (kf_2_6 hk2) (ix_lt g3)) t_310 (Or.inl rfl) dX11_owes_29 ?_
    refine v_iload_n G dX11_owes_32 3 rfl ?_
    obtain ⟨g4, hf⟩ := gd_e hf
    refine al_28 G (kf_7_2 (ke_Person (kf_2_6 hk2) (ix_lt g3))) g4 dX11_owes_33 ?_
    obtain ⟨v5, hcv5⟩ : ∃ q, f_X11_tell a0 (M.1 ((((M.2.2 a0 10) + 6) + 8 + 3 * (p1).toNatClampNeg) + 2) (p2).toNatClampNeg) M = q := ⟨_, rfl⟩
    replace hf := lt_e hf hcv5.symm
    refine v_callV [.int (M.1 ((((M.2.2 a0 10) + 6) + 8 + 3 * (p1).toNatClampNeg) + 2) (p2).toNatClampNeg)] G (c_X11_tell h0 hcv5) h0 (by decide) rfl rfl rfl t_521 t_523 t_p0 t_1 t_524 nm_X11_tell (by decide) (by decide) rfl rfl (Nat.le_of_ble_eq_true rfl) dX11_owes_34 (kv_ri ?_)
    obtain rfl := Option.some.inj hf
    exact v_iret G dX11_owes_37
  · replace hf := (if_neg h7).symm.trans hf
    refine v_aload_n G dX11_owes_11 1 rfl ?_
    refine v_iload_n G dX11_owes_12 0 rfl ?_
    obtain ⟨v6, hcv6⟩ : ∃ q, f_X11_refuse a0 v1 M = q := ⟨_, rfl⟩
    replace hf := lt_e hf hcv6.symm
    refine v_callV [.int v1] G (c_X11_refuse h0 hcv6) h0 (by decide) rfl rfl rfl t_557 t_559 t_p2 t_1 t_560 nm_X11_refuse (by decide) (by decide) rfl rfl (Nat.le_of_ble_eq_true rfl) dX11_owes_13 (kv_ri ?_)
    refine v_goto 37 G dX11_owes_16 (by decide) ?_
    obtain rfl := Option.some.inj hf
    exact v_iret G dX11_owes_37
abbrev cX11_net : ByteArray := prog_1_method_32_code
def yX11_net : MethodName := ⟨RX11, "net", "(I)I"⟩
theorem dX11_net_0 : dc cX11_net 0 (.aload_n 0) 1 1 := ⟨by decide +kernel, rfl⟩
theorem dX11_net_1 : dc cX11_net 1 (.getfield 72) 3 4 := ⟨by decide +kernel, rfl⟩
theorem dX11_net_4 : dc cX11_net 4 (.iload_n 1) 1 5 := ⟨by decide +kernel, rfl⟩
theorem dX11_net_5 : dc cX11_net 5 (.invokevirtual 266) 3 8 := ⟨by decide +kernel, rfl⟩
theorem dX11_net_8 : dc cX11_net 8 (.ifCond .ne 9) 3 11 := ⟨by decide +kernel, rfl⟩
theorem dX11_net_11 : dc cX11_net 11 (.aload_n 0) 1 12 := ⟨by decide +kernel, rfl⟩
theorem dX11_net_12 : dc cX11_net 12 (.iconst 2) 1 13 := ⟨by decide +kernel, rfl⟩
theorem dX11_net_13 : dc cX11_net 13 (.invokevirtual 104) 3 16 := ⟨by decide +kernel, rfl⟩
theorem dX11_net_16 : dc cX11_net 16 (.ireturn) 1 17 := ⟨by decide +kernel, rfl⟩
theorem dX11_net_17 : dc cX11_net 17 (.aload_n 0) 1 18 := ⟨by decide +kernel, rfl⟩
theorem dX11_net_18 : dc cX11_net 18 (.aload_n 0) 1 19 := ⟨by decide +kernel, rfl⟩
theorem dX11_net_19 : dc cX11_net 19 (.getfield 72) 3 22 := ⟨by decide +kernel, rfl⟩
theorem dX11_net_22 : dc cX11_net 22 (.iload_n 1) 1 23 := ⟨by decide +kernel, rfl⟩
theorem dX11_net_23 : dc cX11_net 23 (.invokevirtual 302) 3 26 := ⟨by decide +kernel, rfl⟩
theorem dX11_net_26 : dc cX11_net 26 (.invokevirtual 108) 3 29 := ⟨by decide +kernel, rfl⟩
theorem dX11_net_29 : dc cX11_net 29 (.ireturn) 1 30 := ⟨by decide +kernel, rfl⟩
theorem nm_X11_net : (yX11_net).cls ≠ "java/lang/invoke/MethodHandle" ∧ (yX11_net).cls ≠ "java/lang/invoke/VarHandle" ∧ (parseMethodDescriptor (yX11_net).desc).map (fun d => d.parameters.length) = some 1 := ⟨by decide +kernel, by decide +kernel, by decide +kernel⟩
set_option maxRecDepth 100000 in
set_option maxHeartbeats 4000000 in
theorem c_X11_net {l : Launch} {ad : Nat → Nat} {cy : Nat → ClassId} {D : va_G} {z : Nat} (n : Nat) {a0 : Nat} {p1 : Int32} {M : KM} {y : (Int32 × KM)} (h0 : kty a0 = 11) (hf : f_X11_net n a0 p1 M = some y) : KC l ad cy D z yX11_net cX11_net 2 (some .int) 2 [.ref (ad a0), .int p1] M (some (.int y.1), y.2) := by
  refine kv_enter (by decide +kernel) (Nat.le_of_ble_eq_true rfl) ?_
  intro x hl hD hz G
  subst hl hD hz
  unfold f_X11_net at hf
  have G : KG ad cy x cX11_net "NoonGuides" 2 (some (some .int)) 2 := G
  show KV ad cy x (some (.int y.1), y.2) 0 [(0, .ref (ad a0)), (1, .int p1)] [] M
  refine v_aload_n G dX11_net_0 0 rfl ?_
  refine gf_11_10 G h0 t_467 (Or.inl rfl) dX11_net_1 ?_
  refine v_kt (fun hKT => ?_)
  have hk1 := hKT.1 _ h0
  refine v_iload_n G dX11_net_4 1 rfl ?_
  obtain ⟨v2, hcv2⟩ : ∃ q, f_X2_hasPerson (M.2.2 a0 10) p1 M = q := ⟨_, rfl⟩
  replace hf := lt_e hf hcv2.symm
  refine v_callV [.int p1] G (c_X2_hasPerson hk1 hcv2) hk1 (by decide) rfl rfl rfl t_585 t_586 t_587 t_13 t_588 nm_X2_hasPerson (by decide) (by decide) rfl rfl (Nat.le_of_ble_eq_true rfl) dX11_net_5 (kv_ri ?_)
  refine v_if_ne 17 G dX11_net_8 (by decide) (fun h7 => ?_) (fun h7 => ?_)
  · replace hf := (if_neg h7).symm.trans hf
    refine v_aload_n G dX11_net_17 0 rfl ?_
    refine v_aload_n G dX11_net_18 0 rfl ?_
    refine gf_11_10 G h0 t_467 (Or.inl rfl) dX11_net_19 ?_
    refine v_kt (fun hKT => ?_)
    have hk3 := hKT.1 _ h0
    refine v_iload_n G dX11_net_22 1 rfl ?_
    obtain ⟨v4, hcv4, hf⟩ := bd_e hf
    refine v_callV [.int p1] G (c_X2_owedTo n hk3 hcv4) hk3 (by decide) rfl rfl rfl t_606 t_607 t_608 t_13 t_609 nm_X2_owedTo (by decide) (by decide) rfl rfl (Nat.le_of_ble_eq_true rfl) dX11_net_23 (kv_ri ?_)
    obtain ⟨v5, hcv5⟩ : ∃ q, f_X11_tell a0 v4 M = q := ⟨_, rfl⟩
    replace hf := lt_e hf hcv5.symm
    refine v_callV [.int v4] G (c_X11_tell h0 hcv5) h0 (by decide) rfl rfl rfl t_521 t_523 t_p0 t_1 t_524 nm_X11_tell (by decide) (by decide) rfl rfl (Nat.le_of_ble_eq_true rfl) dX11_net_26 (kv_ri ?_)
    obtain rfl := Option.some.inj hf
    exact v_iret G dX11_net_29
  · replace hf := (if_pos h7).symm.trans hf
    refine v_aload_n G dX11_net_11 0 rfl ?_
    refine v_iconst (2 : Int32) G dX11_net_12 (by decide) ?_
    obtain ⟨v6, hcv6⟩ : ∃ q, f_X11_refuse a0 (2 : Int32) M = q := ⟨_, rfl⟩
    replace hf := lt_e hf hcv6.symm
    refine v_callV [.int (2 : Int32)] G (c_X11_refuse h0 hcv6) h0 (by decide) rfl rfl rfl t_557 t_559 t_p2 t_1 t_560 nm_X11_refuse (by decide) (by decide) rfl rfl (Nat.le_of_ble_eq_true rfl) dX11_net_13 (kv_ri ?_)
    obtain rfl := Option.some.inj hf
    exact v_iret G dX11_net_16
abbrev cX11_passes : ByteArray := prog_1_method_35_code
def yX11_passes : MethodName := ⟨RX11, "passes", "(I)I"⟩
theorem dX11_passes_0 : dc cX11_passes 0 (.iload_n 1) 1 1 := ⟨by decide +kernel, rfl⟩
theorem dX11_passes_1 : dc cX11_passes 1 (.iconst 1) 1 2 := ⟨by decide +kernel, rfl⟩
theorem dX11_passes_2 : dc cX11_passes 2 (.if_icmp .lt 10) 3 5 := ⟨by decide +kernel, rfl⟩
theorem dX11_passes_5 : dc cX11_passes 5 (.iload_n 1) 1 6 := ⟨by decide +kernel, rfl⟩
theorem dX11_passes_6 : dc cX11_passes 6 (.sipush 999) 3 9 := ⟨by decide +kernel, rfl⟩
theorem dX11_passes_9 : dc cX11_passes 9 (.if_icmp .le 9) 3 12 := ⟨by decide +kernel, rfl⟩
theorem dX11_passes_12 : dc cX11_passes 12 (.aload_n 0) 1 13 := ⟨by decide +kernel, rfl⟩
theorem dX11_passes_13 : dc cX11_passes 13 (.iconst 5) 1 14 := ⟨by decide +kernel, rfl⟩
theorem dX11_passes_14 : dc cX11_passes 14 (.invokevirtual 104) 3 17 := ⟨by decide +kernel, rfl⟩
theorem dX11_passes_17 : dc cX11_passes 17 (.ireturn) 1 18 := ⟨by decide +kernel, rfl⟩
theorem dX11_passes_18 : dc cX11_passes 18 (.aload_n 0) 1 19 := ⟨by decide +kernel, rfl⟩
theorem dX11_passes_19 : dc cX11_passes 19 (.getfield 72) 3 22 := ⟨by decide +kernel, rfl⟩
theorem dX11_passes_22 : dc cX11_passes 22 (.iload_n 1) 1 23 := ⟨by decide +kernel, rfl⟩
theorem dX11_passes_23 : dc cX11_passes 23 (.invokevirtual 308) 3 26 := ⟨by decide +kernel, rfl⟩
theorem dX11_passes_26 : dc cX11_passes 26 (.istore_n 2) 1 27 := ⟨by decide +kernel, rfl⟩
theorem dX11_passes_27 : dc cX11_passes 27 (.iload_n 2) 1 28 := ⟨by decide +kernel, rfl⟩
theorem dX11_passes_28 : dc cX11_passes 28 (.iconst (-1)) 1 29 := ⟨by decide +kernel, rfl⟩
theorem dX11_passes_29 : dc cX11_passes 29 (.if_icmp .ne 12) 3 32 := ⟨by decide +kernel, rfl⟩
theorem dX11_passes_32 : dc cX11_passes 32 (.aload_n 0) 1 33 := ⟨by decide +kernel, rfl⟩
theorem dX11_passes_33 : dc cX11_passes 33 (.bipush 7) 2 35 := ⟨by decide +kernel, rfl⟩
theorem dX11_passes_35 : dc cX11_passes 35 (.invokevirtual 104) 3 38 := ⟨by decide +kernel, rfl⟩
theorem dX11_passes_38 : dc cX11_passes 38 (.goto 8) 3 41 := ⟨by decide +kernel, rfl⟩
theorem dX11_passes_41 : dc cX11_passes 41 (.aload_n 0) 1 42 := ⟨by decide +kernel, rfl⟩
theorem dX11_passes_42 : dc cX11_passes 42 (.iload_n 2) 1 43 := ⟨by decide +kernel, rfl⟩
theorem dX11_passes_43 : dc cX11_passes 43 (.invokevirtual 108) 3 46 := ⟨by decide +kernel, rfl⟩
theorem dX11_passes_46 : dc cX11_passes 46 (.ireturn) 1 47 := ⟨by decide +kernel, rfl⟩
theorem nm_X11_passes : (yX11_passes).cls ≠ "java/lang/invoke/MethodHandle" ∧ (yX11_passes).cls ≠ "java/lang/invoke/VarHandle" ∧ (parseMethodDescriptor (yX11_passes).desc).map (fun d => d.parameters.length) = some 1 := ⟨by decide +kernel, by decide +kernel, by decide +kernel⟩
set_option maxRecDepth 100000 in
set_option maxHeartbeats 4000000 in
theorem c_X11_passes {l : Launch} {ad : Nat → Nat} {cy : Nat → ClassId} {D : va_G} {z : Nat} (n : Nat) {a0 : Nat} {p1 : Int32} {M : KM} {y : (Int32 × KM)} (h0 : kty a0 = 11) (hf : f_X11_passes n a0 p1 M = some y) : KC l ad cy D z yX11_passes cX11_passes 3 (some .int) 6 [.ref (ad a0), .int p1] M (some (.int y.1), y.2) := by
  refine kv_enter (by decide +kernel) (Nat.le_of_ble_eq_true rfl) ?_
  intro x hl hD hz G
  subst hl hD hz
  unfold f_X11_passes at hf
  have G : KG ad cy x cX11_passes "NoonGuides" 3 (some (some .int)) 6 := G
  show KV ad cy x (some (.int y.1), y.2) 0 [(0, .ref (ad a0)), (1, .int p1)] [] M
  refine v_iload_n G dX11_passes_0 1 rfl ?_
  refine v_iconst (1 : Int32) G dX11_passes_1 (by decide) ?_
  obtain ⟨j12, ej12, hf⟩ := lt_j hf
  have hj12 : j12 = some y → KV ad cy x (some (.int y.1), y.2) 12 [(0, .ref (ad a0))] [] M := by
    intro hf
    rw [ej12] at hf
    refine v_aload_n G dX11_passes_12 0 rfl ?_
    refine v_iconst (5 : Int32) G dX11_passes_13 (by decide) ?_
    obtain ⟨v1, hcv1⟩ : ∃ q, f_X11_refuse a0 (5 : Int32) M = q := ⟨_, rfl⟩
    replace hf := lt_e hf hcv1.symm
    refine v_callV [.int (5 : Int32)] G (c_X11_refuse h0 hcv1) h0 (by decide) rfl rfl rfl t_557 t_559 t_p2 t_1 t_560 nm_X11_refuse (by decide) (by decide) rfl rfl (Nat.le_of_ble_eq_true rfl) dX11_passes_14 (kv_ri ?_)
    obtain rfl := Option.some.inj hf
    exact v_iret G dX11_passes_17
  refine v_icmp_lt 12 G dX11_passes_2 (by decide) (fun h8 => ?_) (fun h8 => ?_)
  · replace hf := (if_pos h8).symm.trans hf
    refine v_sub _ [0] rfl ?_
    exact hj12 hf
  · replace hf := (if_neg h8).symm.trans hf
    refine v_iload_n G dX11_passes_5 1 rfl ?_
    refine v_sipush (999 : Int32) G dX11_passes_6 (by decide) ?_
    refine v_icmp_le 18 G dX11_passes_9 (by decide) (fun h7 => ?_) (fun h7 => ?_)
    · replace hf := (if_pos h7).symm.trans hf
      refine v_aload_n G dX11_passes_18 0 rfl ?_
      refine gf_11_10 G h0 t_467 (Or.inl rfl) dX11_passes_19 ?_
      refine v_kt (fun hKT => ?_)
      have hk2 := hKT.1 _ h0
      refine v_iload_n G dX11_passes_22 1 rfl ?_
      obtain ⟨v3, hcv3, hf⟩ := bd_e hf
      refine v_callV [.int p1] G (c_X2_passMinutes n hk2 hcv3) hk2 (by decide) rfl rfl rfl t_614 t_615 t_616 t_13 t_617 nm_X2_passMinutes (by decide) (by decide) rfl rfl (Nat.le_of_ble_eq_true rfl) dX11_passes_23 (kv_ri ?_)
      refine v_istore_n [(2, .int v3.1), (0, .ref (ad a0)), (1, .int p1)] G dX11_passes_26 (by decide) rfl ?_
      refine v_iload_n G dX11_passes_27 0 rfl ?_
      refine v_iconst (-1 : Int32) G dX11_passes_28 (by decide) ?_
      refine v_icmp_ne 41 G dX11_passes_29 (by decide) (fun h6 => ?_) (fun h6 => ?_)
      · replace hf := (if_neg h6).symm.trans hf
        refine v_aload_n G dX11_passes_41 1 rfl ?_
        refine v_iload_n G dX11_passes_42 0 rfl ?_
        obtain ⟨v4, hcv4⟩ : ∃ q, f_X11_tell a0 v3.1 v3.2 = q := ⟨_, rfl⟩
        replace hf := lt_e hf hcv4.symm
        refine v_callV [.int v3.1] G (c_X11_tell h0 hcv4) h0 (by decide) rfl rfl rfl t_521 t_523 t_p0 t_1 t_524 nm_X11_tell (by decide) (by decide) rfl rfl (Nat.le_of_ble_eq_true rfl) dX11_passes_43 (kv_ri ?_)
        obtain rfl := Option.some.inj hf
        exact v_iret G dX11_passes_46
      · replace hf := (if_pos h6).symm.trans hf
        refine v_aload_n G dX11_passes_32 1 rfl ?_
        refine v_bipush (7 : Int32) G dX11_passes_33 (by decide) ?_
        obtain ⟨v5, hcv5⟩ : ∃ q, f_X11_refuse a0 (7 : Int32) v3.2 = q := ⟨_, rfl⟩
        replace hf := lt_e hf hcv5.symm
        refine v_callV [.int (7 : Int32)] G (c_X11_refuse h0 hcv5) h0 (by decide) rfl rfl rfl t_557 t_559 t_p2 t_1 t_560 nm_X11_refuse (by decide) (by decide) rfl rfl (Nat.le_of_ble_eq_true rfl) dX11_passes_35 (kv_ri ?_)
        refine v_goto 46 G dX11_passes_38 (by decide) ?_
        obtain rfl := Option.some.inj hf
        exact v_iret G dX11_passes_46
    · replace hf := (if_neg h7).symm.trans hf
      refine v_sub _ [0] rfl ?_
      exact hj12 hf
abbrev cX11_go : ByteArray := prog_1_method_36_code
def yX11_go : MethodName := ⟨RX11, "go", "(II)I"⟩
theorem dX11_go_0 : dc cX11_go 0 (.aload_n 0) 1 1 := ⟨by decide +kernel, rfl⟩
theorem dX11_go_1 : dc cX11_go 1 (.getfield 72) 3 4 := ⟨by decide +kernel, rfl⟩
theorem dX11_go_4 : dc cX11_go 4 (.iload_n 1) 1 5 := ⟨by decide +kernel, rfl⟩
theorem dX11_go_5 : dc cX11_go 5 (.invokevirtual 266) 3 8 := ⟨by decide +kernel, rfl⟩
theorem dX11_go_8 : dc cX11_go 8 (.ifCond .eq 14) 3 11 := ⟨by decide +kernel, rfl⟩
theorem dX11_go_11 : dc cX11_go 11 (.aload_n 0) 1 12 := ⟨by decide +kernel, rfl⟩
theorem dX11_go_12 : dc cX11_go 12 (.getfield 72) 3 15 := ⟨by decide +kernel, rfl⟩
theorem dX11_go_15 : dc cX11_go 15 (.iload_n 2) 1 16 := ⟨by decide +kernel, rfl⟩
theorem dX11_go_16 : dc cX11_go 16 (.invokevirtual 257) 3 19 := ⟨by decide +kernel, rfl⟩
theorem dX11_go_19 : dc cX11_go 19 (.ifCond .ne 9) 3 22 := ⟨by decide +kernel, rfl⟩
theorem dX11_go_22 : dc cX11_go 22 (.aload_n 0) 1 23 := ⟨by decide +kernel, rfl⟩
theorem dX11_go_23 : dc cX11_go 23 (.iconst 2) 1 24 := ⟨by decide +kernel, rfl⟩
theorem dX11_go_24 : dc cX11_go 24 (.invokevirtual 104) 3 27 := ⟨by decide +kernel, rfl⟩
theorem dX11_go_27 : dc cX11_go 27 (.ireturn) 1 28 := ⟨by decide +kernel, rfl⟩
theorem dX11_go_28 : dc cX11_go 28 (.aload_n 0) 1 29 := ⟨by decide +kernel, rfl⟩
theorem dX11_go_29 : dc cX11_go 29 (.getfield 72) 3 32 := ⟨by decide +kernel, rfl⟩
theorem dX11_go_32 : dc cX11_go 32 (.iload_n 1) 1 33 := ⟨by decide +kernel, rfl⟩
theorem dX11_go_33 : dc cX11_go 33 (.iconst 0) 1 34 := ⟨by decide +kernel, rfl⟩
theorem dX11_go_34 : dc cX11_go 34 (.iload_n 2) 1 35 := ⟨by decide +kernel, rfl⟩
theorem dX11_go_35 : dc cX11_go 35 (.invokevirtual 311) 3 38 := ⟨by decide +kernel, rfl⟩
theorem dX11_go_38 : dc cX11_go 38 (.istore_n 3) 1 39 := ⟨by decide +kernel, rfl⟩
theorem dX11_go_39 : dc cX11_go 39 (.iload_n 3) 1 40 := ⟨by decide +kernel, rfl⟩
theorem dX11_go_40 : dc cX11_go 40 (.iconst (-1)) 1 41 := ⟨by decide +kernel, rfl⟩
theorem dX11_go_41 : dc cX11_go 41 (.if_icmp .ne 12) 3 44 := ⟨by decide +kernel, rfl⟩
theorem dX11_go_44 : dc cX11_go 44 (.aload_n 0) 1 45 := ⟨by decide +kernel, rfl⟩
theorem dX11_go_45 : dc cX11_go 45 (.bipush 9) 2 47 := ⟨by decide +kernel, rfl⟩
theorem dX11_go_47 : dc cX11_go 47 (.invokevirtual 104) 3 50 := ⟨by decide +kernel, rfl⟩
theorem dX11_go_50 : dc cX11_go 50 (.goto 8) 3 53 := ⟨by decide +kernel, rfl⟩
theorem dX11_go_53 : dc cX11_go 53 (.aload_n 0) 1 54 := ⟨by decide +kernel, rfl⟩
theorem dX11_go_54 : dc cX11_go 54 (.iload_n 3) 1 55 := ⟨by decide +kernel, rfl⟩
theorem dX11_go_55 : dc cX11_go 55 (.invokevirtual 108) 3 58 := ⟨by decide +kernel, rfl⟩
theorem dX11_go_58 : dc cX11_go 58 (.ireturn) 1 59 := ⟨by decide +kernel, rfl⟩
theorem nm_X11_go : (yX11_go).cls ≠ "java/lang/invoke/MethodHandle" ∧ (yX11_go).cls ≠ "java/lang/invoke/VarHandle" ∧ (parseMethodDescriptor (yX11_go).desc).map (fun d => d.parameters.length) = some 2 := ⟨by decide +kernel, by decide +kernel, by decide +kernel⟩
set_option maxRecDepth 100000 in
set_option maxHeartbeats 4000000 in
theorem c_X11_go {l : Launch} {ad : Nat → Nat} {cy : Nat → ClassId} {D : va_G} {z : Nat} (n : Nat) {a0 : Nat} {p1 : Int32} {p2 : Int32} {M : KM} {y : (Int32 × KM)} (h0 : kty a0 = 11) (hf : f_X11_go n a0 p1 p2 M = some y) : KC l ad cy D z yX11_go cX11_go 4 (some .int) 4 [.ref (ad a0), .int p1, .int p2] M (some (.int y.1), y.2) := by
  refine kv_enter (by decide +kernel) (Nat.le_of_ble_eq_true rfl) ?_
  intro x hl hD hz G
  subst hl hD hz
  unfold f_X11_go at hf
  have G : KG ad cy x cX11_go "NoonGuides" 4 (some (some .int)) 4 := G
  show KV ad cy x (some (.int y.1), y.2) 0 [(0, .ref (ad a0)), (1, .int p1), (2, .int p2)] [] M
  refine v_aload_n G dX11_go_0 0 rfl ?_
  refine gf_11_10 G h0 t_467 (Or.inl rfl) dX11_go_1 ?_
  refine v_kt (fun hKT => ?_)
  have hk1 := hKT.1 _ h0
  refine v_iload_n G dX11_go_4 1 rfl ?_
  obtain ⟨v2, hcv2⟩ : ∃ q, f_X2_hasPerson (M.2.2 a0 10) p1 M = q := ⟨_, rfl⟩
  replace hf := lt_e hf hcv2.symm
  refine v_callV [.int p1] G (c_X2_hasPerson hk1 hcv2) hk1 (by decide) rfl rfl rfl t_585 t_586 t_587 t_13 t_588 nm_X2_hasPerson (by decide) (by decide) rfl rfl (Nat.le_of_ble_eq_true rfl) dX11_go_5 (kv_ri ?_)
  obtain ⟨j22, ej22, hf⟩ := lt_j hf
  have hj22 : j22 = some y → KV ad cy x (some (.int y.1), y.2) 22 [(0, .ref (ad a0))] [] M := by
    intro hf
    rw [ej22] at hf
    refine v_aload_n G dX11_go_22 0 rfl ?_
    refine v_iconst (2 : Int32) G dX11_go_23 (by decide) ?_
    obtain ⟨v3, hcv3⟩ : ∃ q, f_X11_refuse a0 (2 : Int32) M = q := ⟨_, rfl⟩
    replace hf := lt_e hf hcv3.symm
    refine v_callV [.int (2 : Int32)] G (c_X11_refuse h0 hcv3) h0 (by decide) rfl rfl rfl t_557 t_559 t_p2 t_1 t_560 nm_X11_refuse (by decide) (by decide) rfl rfl (Nat.le_of_ble_eq_true rfl) dX11_go_24 (kv_ri ?_)
    obtain rfl := Option.some.inj hf
    exact v_iret G dX11_go_27
  refine v_if_eq 22 G dX11_go_8 (by decide) (fun h12 => ?_) (fun h12 => ?_)
  · replace hf := (if_pos h12).symm.trans hf
    refine v_sub _ [0] rfl ?_
    exact hj22 hf
  · replace hf := (if_neg h12).symm.trans hf
    refine v_aload_n G dX11_go_11 0 rfl ?_
    refine gf_11_10 G h0 t_467 (Or.inl rfl) dX11_go_12 ?_
    refine v_kt (fun hKT => ?_)
    have hk4 := hKT.1 _ h0
    refine v_iload_n G dX11_go_15 2 rfl ?_
    obtain ⟨v5, hcv5⟩ : ∃ q, f_X2_hasPlace (M.2.2 a0 10) p2 M = q := ⟨_, rfl⟩
    replace hf := lt_e hf hcv5.symm
    refine v_callV [.int p2] G (c_X2_hasPlace hk4 hcv5) hk4 (by decide) rfl rfl rfl t_565 t_566 t_567 t_13 t_568 nm_X2_hasPlace (by decide) (by decide) rfl rfl (Nat.le_of_ble_eq_true rfl) dX11_go_16 (kv_ri ?_)
    refine v_if_ne 28 G dX11_go_19 (by decide) (fun h11 => ?_) (fun h11 => ?_)
    · replace hf := (if_neg h11).symm.trans hf
      refine v_aload_n G dX11_go_28 0 rfl ?_
      refine gf_11_10 G h0 t_467 (Or.inl rfl) dX11_go_29 ?_
      refine v_kt (fun hKT => ?_)
      have hk6 := hKT.1 _ h0
      refine v_iload_n G dX11_go_32 1 rfl ?_
      refine v_iconst (0 : Int32) G dX11_go_33 (by decide) ?_
      refine v_iload_n G dX11_go_34 2 rfl ?_
      obtain ⟨v7, hcv7, hf⟩ := bd_e hf
      refine v_callV [.int p1, .int (0 : Int32), .int p2] G (c_X2_setOut n hk6 hcv7) hk6 (by decide) rfl rfl rfl t_680 t_681 t_682 t_13 t_683 nm_X2_setOut (by decide) (by decide) rfl rfl (Nat.le_of_ble_eq_true rfl) dX11_go_35 (kv_ri ?_)
      refine v_istore_n [(3, .int v7.1), (0, .ref (ad a0)), (1, .int p1), (2, .int p2)] G dX11_go_38 (by decide) rfl ?_
      refine v_iload_n G dX11_go_39 0 rfl ?_
      refine v_iconst (-1 : Int32) G dX11_go_40 (by decide) ?_
      refine v_icmp_ne 53 G dX11_go_41 (by decide) (fun h10 => ?_) (fun h10 => ?_)
      · replace hf := (if_neg h10).symm.trans hf
        refine v_aload_n G dX11_go_53 1 rfl ?_
        refine v_iload_n G dX11_go_54 0 rfl ?_
        obtain ⟨v8, hcv8⟩ : ∃ q, f_X11_tell a0 v7.1 v7.2 = q := ⟨_, rfl⟩
        replace hf := lt_e hf hcv8.symm
        refine v_callV [.int v7.1] G (c_X11_tell h0 hcv8) h0 (by decide) rfl rfl rfl t_521 t_523 t_p0 t_1 t_524 nm_X11_tell (by decide) (by decide) rfl rfl (Nat.le_of_ble_eq_true rfl) dX11_go_55 (kv_ri ?_)
        obtain rfl := Option.some.inj hf
        exact v_iret G dX11_go_58
      · replace hf := (if_pos h10).symm.trans hf
        refine v_aload_n G dX11_go_44 1 rfl ?_
        refine v_bipush (9 : Int32) G dX11_go_45 (by decide) ?_
        obtain ⟨v9, hcv9⟩ : ∃ q, f_X11_refuse a0 (9 : Int32) v7.2 = q := ⟨_, rfl⟩
        replace hf := lt_e hf hcv9.symm
        refine v_callV [.int (9 : Int32)] G (c_X11_refuse h0 hcv9) h0 (by decide) rfl rfl rfl t_557 t_559 t_p2 t_1 t_560 nm_X11_refuse (by decide) (by decide) rfl rfl (Nat.le_of_ble_eq_true rfl) dX11_go_47 (kv_ri ?_)
        refine v_goto 58 G dX11_go_50 (by decide) ?_
        obtain rfl := Option.some.inj hf
        exact v_iret G dX11_go_58
    · replace hf := (if_pos h11).symm.trans hf
      refine v_sub _ [0] rfl ?_
      exact hj22 hf
abbrev cX11_lead : ByteArray := prog_1_method_37_code
def yX11_lead : MethodName := ⟨RX11, "lead", "(III)I"⟩
theorem dX11_lead_0 : dc cX11_lead 0 (.aload_n 0) 1 1 := ⟨by decide +kernel, rfl⟩
theorem dX11_lead_1 : dc cX11_lead 1 (.getfield 72) 3 4 := ⟨by decide +kernel, rfl⟩
theorem dX11_lead_4 : dc cX11_lead 4 (.iload_n 1) 1 5 := ⟨by decide +kernel, rfl⟩
theorem dX11_lead_5 : dc cX11_lead 5 (.invokevirtual 266) 3 8 := ⟨by decide +kernel, rfl⟩
theorem dX11_lead_8 : dc cX11_lead 8 (.ifCond .eq 14) 3 11 := ⟨by decide +kernel, rfl⟩
theorem dX11_lead_11 : dc cX11_lead 11 (.aload_n 0) 1 12 := ⟨by decide +kernel, rfl⟩
theorem dX11_lead_12 : dc cX11_lead 12 (.getfield 72) 3 15 := ⟨by decide +kernel, rfl⟩
theorem dX11_lead_15 : dc cX11_lead 15 (.iload_n 3) 1 16 := ⟨by decide +kernel, rfl⟩
theorem dX11_lead_16 : dc cX11_lead 16 (.invokevirtual 257) 3 19 := ⟨by decide +kernel, rfl⟩
theorem dX11_lead_19 : dc cX11_lead 19 (.ifCond .ne 9) 3 22 := ⟨by decide +kernel, rfl⟩
theorem dX11_lead_22 : dc cX11_lead 22 (.aload_n 0) 1 23 := ⟨by decide +kernel, rfl⟩
theorem dX11_lead_23 : dc cX11_lead 23 (.iconst 2) 1 24 := ⟨by decide +kernel, rfl⟩
theorem dX11_lead_24 : dc cX11_lead 24 (.invokevirtual 104) 3 27 := ⟨by decide +kernel, rfl⟩
theorem dX11_lead_27 : dc cX11_lead 27 (.ireturn) 1 28 := ⟨by decide +kernel, rfl⟩
theorem dX11_lead_28 : dc cX11_lead 28 (.aload_n 0) 1 29 := ⟨by decide +kernel, rfl⟩
theorem dX11_lead_29 : dc cX11_lead 29 (.getfield 72) 3 32 := ⟨by decide +kernel, rfl⟩
theorem dX11_lead_32 : dc cX11_lead 32 (.iload_n 1) 1 33 := ⟨by decide +kernel, rfl⟩
theorem dX11_lead_33 : dc cX11_lead 33 (.iload_n 2) 1 34 := ⟨by decide +kernel, rfl⟩
theorem dX11_lead_34 : dc cX11_lead 34 (.invokevirtual 315) 3 37 := ⟨by decide +kernel, rfl⟩
theorem dX11_lead_37 : dc cX11_lead 37 (.ifCond .ne 9) 3 40 := ⟨by decide +kernel, rfl⟩
theorem dX11_lead_40 : dc cX11_lead 40 (.aload_n 0) 1 41 := ⟨by decide +kernel, rfl⟩
theorem dX11_lead_41 : dc cX11_lead 41 (.iconst 5) 1 42 := ⟨by decide +kernel, rfl⟩
theorem dX11_lead_42 : dc cX11_lead 42 (.invokevirtual 104) 3 45 := ⟨by decide +kernel, rfl⟩
theorem dX11_lead_45 : dc cX11_lead 45 (.ireturn) 1 46 := ⟨by decide +kernel, rfl⟩
theorem dX11_lead_46 : dc cX11_lead 46 (.aload_n 0) 1 47 := ⟨by decide +kernel, rfl⟩
theorem dX11_lead_47 : dc cX11_lead 47 (.getfield 72) 3 50 := ⟨by decide +kernel, rfl⟩
theorem dX11_lead_50 : dc cX11_lead 50 (.iload_n 1) 1 51 := ⟨by decide +kernel, rfl⟩
theorem dX11_lead_51 : dc cX11_lead 51 (.iload_n 2) 1 52 := ⟨by decide +kernel, rfl⟩
theorem dX11_lead_52 : dc cX11_lead 52 (.iload_n 3) 1 53 := ⟨by decide +kernel, rfl⟩
theorem dX11_lead_53 : dc cX11_lead 53 (.invokevirtual 311) 3 56 := ⟨by decide +kernel, rfl⟩
theorem dX11_lead_56 : dc cX11_lead 56 (.istore 4) 2 58 := ⟨by decide +kernel, rfl⟩
theorem dX11_lead_58 : dc cX11_lead 58 (.iload 4) 2 60 := ⟨by decide +kernel, rfl⟩
theorem dX11_lead_60 : dc cX11_lead 60 (.iconst (-1)) 1 61 := ⟨by decide +kernel, rfl⟩
theorem dX11_lead_61 : dc cX11_lead 61 (.if_icmp .ne 12) 3 64 := ⟨by decide +kernel, rfl⟩
theorem dX11_lead_64 : dc cX11_lead 64 (.aload_n 0) 1 65 := ⟨by decide +kernel, rfl⟩
theorem dX11_lead_65 : dc cX11_lead 65 (.bipush 9) 2 67 := ⟨by decide +kernel, rfl⟩
theorem dX11_lead_67 : dc cX11_lead 67 (.invokevirtual 104) 3 70 := ⟨by decide +kernel, rfl⟩
theorem dX11_lead_70 : dc cX11_lead 70 (.goto 9) 3 73 := ⟨by decide +kernel, rfl⟩
theorem dX11_lead_73 : dc cX11_lead 73 (.aload_n 0) 1 74 := ⟨by decide +kernel, rfl⟩
theorem dX11_lead_74 : dc cX11_lead 74 (.iload 4) 2 76 := ⟨by decide +kernel, rfl⟩
theorem dX11_lead_76 : dc cX11_lead 76 (.invokevirtual 108) 3 79 := ⟨by decide +kernel, rfl⟩
theorem dX11_lead_79 : dc cX11_lead 79 (.ireturn) 1 80 := ⟨by decide +kernel, rfl⟩
theorem nm_X11_lead : (yX11_lead).cls ≠ "java/lang/invoke/MethodHandle" ∧ (yX11_lead).cls ≠ "java/lang/invoke/VarHandle" ∧ (parseMethodDescriptor (yX11_lead).desc).map (fun d => d.parameters.length) = some 3 := ⟨by decide +kernel, by decide +kernel, by decide +kernel⟩
set_option maxRecDepth 100000 in
set_option maxHeartbeats 4000000 in
theorem c_X11_lead {l : Launch} {ad : Nat → Nat} {cy : Nat → ClassId} {D : va_G} {z : Nat} (n : Nat) {a0 : Nat} {p1 : Int32} {p2 : Int32} {p3 : Int32} {M : KM} {y : (Int32 × KM)} (h0 : kty a0 = 11) (hf : f_X11_lead n a0 p1 p2 p3 M = some y) : KC l ad cy D z yX11_lead cX11_lead 5 (some .int) 4 [.ref (ad a0), .int p1, .int p2, .int p3] M (some (.int y.1), y.2) := by
  refine kv_enter (by decide +kernel) (Nat.le_of_ble_eq_true rfl) ?_
  intro x hl hD hz G
  subst hl hD hz
  unfold f_X11_lead at hf
  have G : KG ad cy x cX11_lead "NoonGuides" 5 (some (some .int)) 4 := G
  show KV ad cy x (some (.int y.1), y.2) 0 [(0, .ref (ad a0)), (1, .int p1), (2, .int p2), (3, .int p3)] [] M
  refine v_aload_n G dX11_lead_0 0 rfl ?_
  refine gf_11_10 G h0 t_467 (Or.inl rfl) dX11_lead_1 ?_
  refine v_kt (fun hKT => ?_)
  have hk1 := hKT.1 _ h0
  refine v_iload_n G dX11_lead_4 1 rfl ?_
  obtain ⟨v2, hcv2⟩ : ∃ q, f_X2_hasPerson (M.2.2 a0 10) p1 M = q := ⟨_, rfl⟩
  replace hf := lt_e hf hcv2.symm
  refine v_callV [.int p1] G (c_X2_hasPerson hk1 hcv2) hk1 (by decide) rfl rfl rfl t_585 t_586 t_587 t_13 t_588 nm_X2_hasPerson (by decide) (by decide) rfl rfl (Nat.le_of_ble_eq_true rfl) dX11_lead_5 (kv_ri ?_)
  obtain ⟨j22, ej22, hf⟩ := lt_j hf
  have hj22 : j22 = some y → KV ad cy x (some (.int y.1), y.2) 22 [(0, .ref (ad a0))] [] M := by
    intro hf
    rw [ej22] at hf
    refine v_aload_n G dX11_lead_22 0 rfl ?_
    refine v_iconst (2 : Int32) G dX11_lead_23 (by decide) ?_
    obtain ⟨v3, hcv3⟩ : ∃ q, f_X11_refuse a0 (2 : Int32) M = q := ⟨_, rfl⟩
    replace hf := lt_e hf hcv3.symm
    refine v_callV [.int (2 : Int32)] G (c_X11_refuse h0 hcv3) h0 (by decide) rfl rfl rfl t_557 t_559 t_p2 t_1 t_560 nm_X11_refuse (by decide) (by decide) rfl rfl (Nat.le_of_ble_eq_true rfl) dX11_lead_24 (kv_ri ?_)
    obtain rfl := Option.some.inj hf
    exact v_iret G dX11_lead_27
  refine v_if_eq 22 G dX11_lead_8 (by decide) (fun h16 => ?_) (fun h16 => ?_)
  · replace hf := (if_pos h16).symm.trans hf
    refine v_sub _ [0] rfl ?_
    exact hj22 hf
  · replace hf := (if_neg h16).symm.trans hf
    refine v_aload_n G dX11_lead_11 0 rfl ?_
    refine gf_11_10 G h0 t_467 (Or.inl rfl) dX11_lead_12 ?_
    refine v_kt (fun hKT => ?_)
    have hk4 := hKT.1 _ h0
    refine v_iload_n G dX11_lead_15 3 rfl ?_
    obtain ⟨v5, hcv5⟩ : ∃ q, f_X2_hasPlace (M.2.2 a0 10) p3 M = q := ⟨_, rfl⟩
    replace hf := lt_e hf hcv5.symm
    refine v_callV [.int p3] G (c_X2_hasPlace hk4 hcv5) hk4 (by decide) rfl rfl rfl t_565 t_566 t_567 t_13 t_568 nm_X2_hasPlace (by decide) (by decide) rfl rfl (Nat.le_of_ble_eq_true rfl) dX11_lead_16 (kv_ri ?_)
    refine v_if_ne 28 G dX11_lead_19 (by decide) (fun h15 => ?_) (fun h15 => ?_)
    · replace hf := (if_neg h15).symm.trans hf
      refine v_aload_n G dX11_lead_28 0 rfl ?_
      refine gf_11_10 G h0 t_467 (Or.inl rfl) dX11_lead_29 ?_
      refine v_kt (fun hKT => ?_)
      have hk6 := hKT.1 _ h0
      refine v_iload_n G dX11_lead_32 1 rfl ?_
      refine v_iload_n G dX11_lead_33 2 rfl ?_
      obtain ⟨v7, hcv7⟩ : ∃ q, f_X2_isTeam (M.2.2 a0 10) p1 p2 M = q := ⟨_, rfl⟩
      replace hf := lt_e hf hcv7.symm
      refine v_callV [.int p1, .int p2] G (c_X2_isTeam hk6 hcv7) hk6 (by decide) rfl rfl rfl t_706 t_707 t_708 t_13 t_709 nm_X2_isTeam (by decide) (by decide) rfl rfl (Nat.le_of_ble_eq_true rfl) dX11_lead_34 (kv_ri ?_)
      refine v_if_ne 46 G dX11_lead_37 (by decide) (fun h14 => ?_) (fun h14 => ?_)
      · replace hf := (if_neg h14).symm.trans hf
        refine v_aload_n G dX11_lead_46 0 rfl ?_
        refine gf_11_10 G h0 t_467 (Or.inl rfl) dX11_lead_47 ?_
        refine v_kt (fun hKT => ?_)
        have hk8 := hKT.1 _ h0
        refine v_iload_n G dX11_lead_50 1 rfl ?_
        refine v_iload_n G dX11_lead_51 2 rfl ?_
        refine v_iload_n G dX11_lead_52 3 rfl ?_
        obtain ⟨v9, hcv9, hf⟩ := bd_e hf
        refine v_callV [.int p1, .int p2, .int p3] G (c_X2_setOut n hk8 hcv9) hk8 (by decide) rfl rfl rfl t_680 t_681 t_682 t_13 t_683 nm_X2_setOut (by decide) (by decide) rfl rfl (Nat.le_of_ble_eq_true rfl) dX11_lead_53 (kv_ri ?_)
        refine v_istore [(4, .int v9.1), (0, .ref (ad a0)), (1, .int p1), (2, .int p2), (3, .int p3)] G dX11_lead_56 (by decide) rfl ?_
        refine v_iload G dX11_lead_58 0 rfl ?_
        refine v_iconst (-1 : Int32) G dX11_lead_60 (by decide) ?_
        refine v_icmp_ne 73 G dX11_lead_61 (by decide) (fun h12 => ?_) (fun h12 => ?_)
        · replace hf := (if_neg h12).symm.trans hf
          refine v_aload_n G dX11_lead_73 1 rfl ?_
          refine v_iload G dX11_lead_74 0 rfl ?_
          obtain ⟨v10, hcv10⟩ : ∃ q, f_X11_tell a0 v9.1 v9.2 = q := ⟨_, rfl⟩
          replace hf := lt_e hf hcv10.symm
          refine v_callV [.int v9.1] G (c_X11_tell h0 hcv10) h0 (by decide) rfl rfl rfl t_521 t_523 t_p0 t_1 t_524 nm_X11_tell (by decide) (by decide) rfl rfl (Nat.le_of_ble_eq_true rfl) dX11_lead_76 (kv_ri ?_)
          obtain rfl := Option.some.inj hf
          exact v_iret G dX11_lead_79
        · replace hf := (if_pos h12).symm.trans hf
          refine v_aload_n G dX11_lead_64 1 rfl ?_
          refine v_bipush (9 : Int32) G dX11_lead_65 (by decide) ?_
          obtain ⟨v11, hcv11⟩ : ∃ q, f_X11_refuse a0 (9 : Int32) v9.2 = q := ⟨_, rfl⟩
          replace hf := lt_e hf hcv11.symm
          refine v_callV [.int (9 : Int32)] G (c_X11_refuse h0 hcv11) h0 (by decide) rfl rfl rfl t_557 t_559 t_p2 t_1 t_560 nm_X11_refuse (by decide) (by decide) rfl rfl (Nat.le_of_ble_eq_true rfl) dX11_lead_67 (kv_ri ?_)
          refine v_goto 79 G dX11_lead_70 (by decide) ?_
          obtain rfl := Option.some.inj hf
          exact v_iret G dX11_lead_79
      · replace hf := (if_pos h14).symm.trans hf
        refine v_aload_n G dX11_lead_40 0 rfl ?_
        refine v_iconst (5 : Int32) G dX11_lead_41 (by decide) ?_
        obtain ⟨v13, hcv13⟩ : ∃ q, f_X11_refuse a0 (5 : Int32) M = q := ⟨_, rfl⟩
        replace hf := lt_e hf hcv13.symm
        refine v_callV [.int (5 : Int32)] G (c_X11_refuse h0 hcv13) h0 (by decide) rfl rfl rfl t_557 t_559 t_p2 t_1 t_560 nm_X11_refuse (by decide) (by decide) rfl rfl (Nat.le_of_ble_eq_true rfl) dX11_lead_42 (kv_ri ?_)
        obtain rfl := Option.some.inj hf
        exact v_iret G dX11_lead_45
    · replace hf := (if_pos h15).symm.trans hf
      refine v_sub _ [0] rfl ?_
      exact hj22 hf
abbrev cX11_cloud : ByteArray := prog_1_method_39_code
def yX11_cloud : MethodName := ⟨RX11, "cloud", "(Z)Z"⟩
theorem dX11_cloud_0 : dc cX11_cloud 0 (.aload_n 0) 1 1 := ⟨by decide +kernel, rfl⟩
theorem dX11_cloud_1 : dc cX11_cloud 1 (.getfield 72) 3 4 := ⟨by decide +kernel, rfl⟩
theorem dX11_cloud_4 : dc cX11_cloud 4 (.getfield 224) 3 7 := ⟨by decide +kernel, rfl⟩
theorem dX11_cloud_7 : dc cX11_cloud 7 (.iload_n 1) 1 8 := ⟨by decide +kernel, rfl⟩
theorem dX11_cloud_8 : dc cX11_cloud 8 (.if_icmp .ne 10) 3 11 := ⟨by decide +kernel, rfl⟩
theorem dX11_cloud_11 : dc cX11_cloud 11 (.aload_n 0) 1 12 := ⟨by decide +kernel, rfl⟩
theorem dX11_cloud_12 : dc cX11_cloud 12 (.bipush 9) 2 14 := ⟨by decide +kernel, rfl⟩
theorem dX11_cloud_14 : dc cX11_cloud 14 (.invokevirtual 120) 3 17 := ⟨by decide +kernel, rfl⟩
theorem dX11_cloud_17 : dc cX11_cloud 17 (.ireturn) 1 18 := ⟨by decide +kernel, rfl⟩
theorem dX11_cloud_18 : dc cX11_cloud 18 (.aload_n 0) 1 19 := ⟨by decide +kernel, rfl⟩
theorem dX11_cloud_19 : dc cX11_cloud 19 (.getfield 72) 3 22 := ⟨by decide +kernel, rfl⟩
theorem dX11_cloud_22 : dc cX11_cloud 22 (.iload_n 1) 1 23 := ⟨by decide +kernel, rfl⟩
theorem dX11_cloud_23 : dc cX11_cloud 23 (.putfield 224) 3 26 := ⟨by decide +kernel, rfl⟩
theorem dX11_cloud_26 : dc cX11_cloud 26 (.aload_n 0) 1 27 := ⟨by decide +kernel, rfl⟩
theorem dX11_cloud_27 : dc cX11_cloud 27 (.invokevirtual 127) 3 30 := ⟨by decide +kernel, rfl⟩
theorem dX11_cloud_30 : dc cX11_cloud 30 (.ireturn) 1 31 := ⟨by decide +kernel, rfl⟩
theorem nm_X11_cloud : (yX11_cloud).cls ≠ "java/lang/invoke/MethodHandle" ∧ (yX11_cloud).cls ≠ "java/lang/invoke/VarHandle" ∧ (parseMethodDescriptor (yX11_cloud).desc).map (fun d => d.parameters.length) = some 1 := ⟨by decide +kernel, by decide +kernel, by decide +kernel⟩
set_option maxRecDepth 100000 in
theorem z_X11_cloud (n : Nat) {a0 : Nat} {p1 : Int32} {M : KM} {y : (Int32 × KM)} (hf : f_X11_cloud n a0 p1 M = some y) : (y.1 = 0 ∨ y.1 = 1) := by
  unfold f_X11_cloud at hf
  by_cases h7 : (M.1 (M.2.2 a0 10) 15) = p1
  · replace hf := (if_pos h7).symm.trans hf
    obtain ⟨v6, hcv6⟩ : ∃ q, f_X11_deny a0 (9 : Int32) M = q := ⟨_, rfl⟩
    replace hf := lt_e hf hcv6.symm
    obtain rfl := Option.some.inj hf
    exact (z_X11_deny hcv6)
  · replace hf := (if_neg h7).symm.trans hf
    obtain ⟨g3, hf⟩ := gd_e hf
    obtain ⟨M4, eM4⟩ : ∃ q : KM, q = (uI M (M.2.2 a0 10) 15 p1) := ⟨_, rfl⟩
    replace hf := lt_e hf eM4
    obtain ⟨v5, hcv5⟩ : ∃ q, f_X11_succeed a0 M4 = q := ⟨_, rfl⟩
    replace hf := lt_e hf hcv5.symm
    obtain rfl := Option.some.inj hf
    exact (z_X11_succeed hcv5)
set_option maxRecDepth 100000 in
set_option maxHeartbeats 4000000 in
theorem c_X11_cloud {l : Launch} {ad : Nat → Nat} {cy : Nat → ClassId} {D : va_G} {z : Nat} (n : Nat) {a0 : Nat} {p1 : Int32} {M : KM} {y : (Int32 × KM)} (h0 : kty a0 = 11) (hf : f_X11_cloud n a0 p1 M = some y) : KC l ad cy D z yX11_cloud cX11_cloud 2 (some .boolean) 2 [.ref (ad a0), .int p1] M (some (.int y.1), y.2) := by
  refine kv_enter (by decide +kernel) (Nat.le_of_ble_eq_true rfl) ?_
  intro x hl hD hz G
  subst hl hD hz
  unfold f_X11_cloud at hf
  have G : KG ad cy x cX11_cloud "NoonGuides" 2 (some (some .boolean)) 2 := G
  show KV ad cy x (some (.int y.1), y.2) 0 [(0, .ref (ad a0)), (1, .int p1)] [] M
  refine v_aload_n G dX11_cloud_0 0 rfl ?_
  refine gf_11_10 G h0 t_467 (Or.inl rfl) dX11_cloud_1 ?_
  refine v_kt (fun hKT => ?_)
  have hk1 := hKT.1 _ h0
  refine gf_2_15 G hk1 t_407 (Or.inl rfl) dX11_cloud_4 ?_
  refine v_iload_n G dX11_cloud_7 1 rfl ?_
  refine v_icmp_ne 18 G dX11_cloud_8 (by decide) (fun h7 => ?_) (fun h7 => ?_)
  · replace hf := (if_neg h7).symm.trans hf
    refine v_aload_n G dX11_cloud_18 0 rfl ?_
    refine gf_11_10 G h0 t_467 (Or.inl rfl) dX11_cloud_19 ?_
    refine v_kt (fun hKT => ?_)
    have hk2 := hKT.1 _ h0
    refine v_iload_n G dX11_cloud_22 1 rfl ?_
    obtain ⟨g3, hf⟩ := gd_e hf
    refine pf_2_15 G hk2 g3 t_407 (Or.inl rfl) dX11_cloud_23 ?_
    refine v_nmM (fun M4 eM4 => ?_)
    replace hf := lt_e hf eM4
    refine v_aload_n G dX11_cloud_26 0 rfl ?_
    obtain ⟨v5, hcv5⟩ : ∃ q, f_X11_succeed a0 M4 = q := ⟨_, rfl⟩
    replace hf := lt_e hf hcv5.symm
    refine v_callV [] G (c_X11_succeed h0 hcv5) h0 (by decide) rfl rfl rfl t_724 t_726 t_p13 t_1 t_727 nm_X11_succeed (by decide) (by decide) rfl rfl (Nat.le_of_ble_eq_true rfl) dX11_cloud_27 (kv_ri ?_)
    obtain rfl := Option.some.inj hf
    exact v_zret G (z_X11_succeed hcv5) dX11_cloud_30
  · replace hf := (if_pos h7).symm.trans hf
    refine v_aload_n G dX11_cloud_11 0 rfl ?_
    refine v_bipush (9 : Int32) G dX11_cloud_12 (by decide) ?_
    obtain ⟨v6, hcv6⟩ : ∃ q, f_X11_deny a0 (9 : Int32) M = q := ⟨_, rfl⟩
    replace hf := lt_e hf hcv6.symm
    refine v_callV [.int (9 : Int32)] G (c_X11_deny h0 hcv6) h0 (by decide) rfl rfl rfl t_720 t_722 t_p12 t_1 t_723 nm_X11_deny (by decide) (by decide) rfl rfl (Nat.le_of_ble_eq_true rfl) dX11_cloud_14 (kv_ri ?_)
    obtain rfl := Option.some.inj hf
    exact v_zret G (z_X11_deny hcv6) dX11_cloud_17
abbrev cX11_plant : ByteArray := prog_1_method_40_code
def yX11_plant : MethodName := ⟨RX11, "plant", "(IZ)Z"⟩
theorem dX11_plant_0 : dc cX11_plant 0 (.aload_n 0) 1 1 := ⟨by decide +kernel, rfl⟩
theorem dX11_plant_1 : dc cX11_plant 1 (.getfield 72) 3 4 := ⟨by decide +kernel, rfl⟩
theorem dX11_plant_4 : dc cX11_plant 4 (.iload_n 1) 1 5 := ⟨by decide +kernel, rfl⟩
theorem dX11_plant_5 : dc cX11_plant 5 (.invokevirtual 241) 3 8 := ⟨by decide +kernel, rfl⟩
theorem dX11_plant_8 : dc cX11_plant 8 (.ifCond .ne 9) 3 11 := ⟨by decide +kernel, rfl⟩
theorem dX11_plant_11 : dc cX11_plant 11 (.aload_n 0) 1 12 := ⟨by decide +kernel, rfl⟩
theorem dX11_plant_12 : dc cX11_plant 12 (.iconst 2) 1 13 := ⟨by decide +kernel, rfl⟩
theorem dX11_plant_13 : dc cX11_plant 13 (.invokevirtual 120) 3 16 := ⟨by decide +kernel, rfl⟩
theorem dX11_plant_16 : dc cX11_plant 16 (.ireturn) 1 17 := ⟨by decide +kernel, rfl⟩
theorem dX11_plant_17 : dc cX11_plant 17 (.aload_n 0) 1 18 := ⟨by decide +kernel, rfl⟩
theorem dX11_plant_18 : dc cX11_plant 18 (.getfield 72) 3 21 := ⟨by decide +kernel, rfl⟩
theorem dX11_plant_21 : dc cX11_plant 21 (.getfield 253) 3 24 := ⟨by decide +kernel, rfl⟩
theorem dX11_plant_24 : dc cX11_plant 24 (.iload_n 1) 1 25 := ⟨by decide +kernel, rfl⟩
theorem dX11_plant_25 : dc cX11_plant 25 (.baload) 1 26 := ⟨by decide +kernel, rfl⟩
theorem dX11_plant_26 : dc cX11_plant 26 (.iload_n 2) 1 27 := ⟨by decide +kernel, rfl⟩
theorem dX11_plant_27 : dc cX11_plant 27 (.if_icmp .ne 10) 3 30 := ⟨by decide +kernel, rfl⟩
theorem dX11_plant_30 : dc cX11_plant 30 (.aload_n 0) 1 31 := ⟨by decide +kernel, rfl⟩
theorem dX11_plant_31 : dc cX11_plant 31 (.bipush 9) 2 33 := ⟨by decide +kernel, rfl⟩
theorem dX11_plant_33 : dc cX11_plant 33 (.invokevirtual 120) 3 36 := ⟨by decide +kernel, rfl⟩
theorem dX11_plant_36 : dc cX11_plant 36 (.ireturn) 1 37 := ⟨by decide +kernel, rfl⟩
theorem dX11_plant_37 : dc cX11_plant 37 (.aload_n 0) 1 38 := ⟨by decide +kernel, rfl⟩
theorem dX11_plant_38 : dc cX11_plant 38 (.getfield 72) 3 41 := ⟨by decide +kernel, rfl⟩
theorem dX11_plant_41 : dc cX11_plant 41 (.getfield 253) 3 44 := ⟨by decide +kernel, rfl⟩
theorem dX11_plant_44 : dc cX11_plant 44 (.iload_n 1) 1 45 := ⟨by decide +kernel, rfl⟩
theorem dX11_plant_45 : dc cX11_plant 45 (.iload_n 2) 1 46 := ⟨by decide +kernel, rfl⟩
theorem dX11_plant_46 : dc cX11_plant 46 (.bastore) 1 47 := ⟨by decide +kernel, rfl⟩
theorem dX11_plant_47 : dc cX11_plant 47 (.aload_n 0) 1 48 := ⟨by decide +kernel, rfl⟩
theorem dX11_plant_48 : dc cX11_plant 48 (.invokevirtual 127) 3 51 := ⟨by decide +kernel, rfl⟩
theorem dX11_plant_51 : dc cX11_plant 51 (.ireturn) 1 52 := ⟨by decide +kernel, rfl⟩
theorem nm_X11_plant : (yX11_plant).cls ≠ "java/lang/invoke/MethodHandle" ∧ (yX11_plant).cls ≠ "java/lang/invoke/VarHandle" ∧ (parseMethodDescriptor (yX11_plant).desc).map (fun d => d.parameters.length) = some 2 := ⟨by decide +kernel, by decide +kernel, by decide +kernel⟩
set_option maxRecDepth 100000 in
theorem z_X11_plant (n : Nat) {a0 : Nat} {p1 : Int32} {p2 : Int32} {M : KM} {y : (Int32 × KM)} (hf : f_X11_plant n a0 p1 p2 M = some y) : (y.1 = 0 ∨ y.1 = 1) := by
  unfold f_X11_plant at hf
  obtain ⟨v2, hcv2⟩ : ∃ q, f_X2_hasRoad (M.2.2 a0 10) p1 M = q := ⟨_, rfl⟩
  replace hf := lt_e hf hcv2.symm
  by_cases h12 : v2 = 0
  · replace hf := (if_pos h12).symm.trans hf
    obtain ⟨v11, hcv11⟩ : ∃ q, f_X11_deny a0 (2 : Int32) M = q := ⟨_, rfl⟩
    replace hf := lt_e hf hcv11.symm
    obtain rfl := Option.some.inj hf
    exact (z_X11_deny hcv11)
  · replace hf := (if_neg h12).symm.trans hf
    obtain ⟨g4, hf⟩ := gd_e hf
    by_cases h10 : (M.1 ((M.2.2 a0 10) + 5) (p1).toNatClampNeg) = p2
    · replace hf := (if_pos h10).symm.trans hf
      obtain ⟨v9, hcv9⟩ : ∃ q, f_X11_deny a0 (9 : Int32) M = q := ⟨_, rfl⟩
      replace hf := lt_e hf hcv9.symm
      obtain rfl := Option.some.inj hf
      exact (z_X11_deny hcv9)
    · replace hf := (if_neg h10).symm.trans hf
      obtain ⟨g6, hf⟩ := gd_e hf
      obtain ⟨M7, eM7⟩ : ∃ q : KM, q = (uI M ((M.2.2 a0 10) + 5) (p1).toNatClampNeg (vp_nar .boolean p2)) := ⟨_, rfl⟩
      replace hf := lt_e hf eM7
      obtain ⟨v8, hcv8⟩ : ∃ q, f_X11_succeed a0 M7 = q := ⟨_, rfl⟩
      replace hf := lt_e hf hcv8.symm
      obtain rfl := Option.some.inj hf
      exact (z_X11_succeed hcv8)
set_option maxRecDepth 100000 in
set_option maxHeartbeats 4000000 in
theorem c_X11_plant {l : Launch} {ad : Nat → Nat} {cy : Nat → ClassId} {D : va_G} {z : Nat} (n : Nat) {a0 : Nat} {p1 : Int32} {p2 : Int32} {M : KM} {y : (Int32 × KM)} (h0 : kty a0 = 11) (hf : f_X11_plant n a0 p1 p2 M = some y) : KC l ad cy D z yX11_plant cX11_plant 3 (some .boolean) 2 [.ref (ad a0), .int p1, .int p2] M (some (.int y.1), y.2) := by
  refine kv_enter (by decide +kernel) (Nat.le_of_ble_eq_true rfl) ?_
  intro x hl hD hz G
  subst hl hD hz
  unfold f_X11_plant at hf
  have G : KG ad cy x cX11_plant "NoonGuides" 3 (some (some .boolean)) 2 := G
  show KV ad cy x (some (.int y.1), y.2) 0 [(0, .ref (ad a0)), (1, .int p1), (2, .int p2)] [] M
  refine v_aload_n G dX11_plant_0 0 rfl ?_
  refine gf_11_10 G h0 t_467 (Or.inl rfl) dX11_plant_1 ?_
  refine v_kt (fun hKT => ?_)
  have hk1 := hKT.1 _ h0
  refine v_iload_n G dX11_plant_4 1 rfl ?_
  obtain ⟨v2, hcv2⟩ : ∃ q, f_X2_hasRoad (M.2.2 a0 10) p1 M = q := ⟨_, rfl⟩
  replace hf := lt_e hf hcv2.symm
  refine v_callV [.int p1] G (c_X2_hasRoad hk1 hcv2) hk1 (by decide) rfl rfl rfl t_732 t_632 t_633 t_13 t_634 nm_X2_hasRoad (by decide) (by decide) rfl rfl (Nat.le_of_ble_eq_true rfl) dX11_plant_5 (kv_ri ?_)
  refine v_if_ne 17 G dX11_plant_8 (by decide) (fun h12 => ?_) (fun h12 => ?_)
  · replace hf := (if_neg h12).symm.trans hf
    refine v_aload_n G dX11_plant_17 0 rfl ?_
    refine gf_11_10 G h0 t_467 (Or.inl rfl) dX11_plant_18 ?_
    refine v_kt (fun hKT => ?_)
    have hk3 := hKT.1 _ h0
    refine gf_2_4 G hk3 t_370 (Or.inl rfl) dX11_plant_21 ?_
    refine v_iload_n G dX11_plant_24 1 rfl ?_
    obtain ⟨g4, hf⟩ := gd_e hf
    refine al_31 G (kf_2_5 hk3) g4 dX11_plant_25 ?_
    refine v_iload_n G dX11_plant_26 2 rfl ?_
    refine v_icmp_ne 37 G dX11_plant_27 (by decide) (fun h10 => ?_) (fun h10 => ?_)
    · replace hf := (if_neg h10).symm.trans hf
      refine v_aload_n G dX11_plant_37 0 rfl ?_
      refine gf_11_10 G h0 t_467 (Or.inl rfl) dX11_plant_38 ?_
      refine v_kt (fun hKT => ?_)
      have hk5 := hKT.1 _ h0
      refine gf_2_4 G hk5 t_370 (Or.inl rfl) dX11_plant_41 ?_
      refine v_iload_n G dX11_plant_44 1 rfl ?_
      refine v_iload_n G dX11_plant_45 2 rfl ?_
      obtain ⟨g6, hf⟩ := gd_e hf
      refine as_31 G (kf_2_5 hk5) g6 dX11_plant_46 ?_
      refine v_nmM (fun M7 eM7 => ?_)
      replace hf := lt_e hf eM7
      refine v_aload_n G dX11_plant_47 0 rfl ?_
      obtain ⟨v8, hcv8⟩ : ∃ q, f_X11_succeed a0 M7 = q := ⟨_, rfl⟩
      replace hf := lt_e hf hcv8.symm
      refine v_callV [] G (c_X11_succeed h0 hcv8) h0 (by decide) rfl rfl rfl t_724 t_726 t_p13 t_1 t_727 nm_X11_succeed (by decide) (by decide) rfl rfl (Nat.le_of_ble_eq_true rfl) dX11_plant_48 (kv_ri ?_)
      obtain rfl := Option.some.inj hf
      exact v_zret G (z_X11_succeed hcv8) dX11_plant_51
    · replace hf := (if_pos h10).symm.trans hf
      refine v_aload_n G dX11_plant_30 0 rfl ?_
      refine v_bipush (9 : Int32) G dX11_plant_31 (by decide) ?_
      obtain ⟨v9, hcv9⟩ : ∃ q, f_X11_deny a0 (9 : Int32) M = q := ⟨_, rfl⟩
      replace hf := lt_e hf hcv9.symm
      refine v_callV [.int (9 : Int32)] G (c_X11_deny h0 hcv9) h0 (by decide) rfl rfl rfl t_720 t_722 t_p12 t_1 t_723 nm_X11_deny (by decide) (by decide) rfl rfl (Nat.le_of_ble_eq_true rfl) dX11_plant_33 (kv_ri ?_)
      obtain rfl := Option.some.inj hf
      exact v_zret G (z_X11_deny hcv9) dX11_plant_36
  · replace hf := (if_pos h12).symm.trans hf
    refine v_aload_n G dX11_plant_11 0 rfl ?_
    refine v_iconst (2 : Int32) G dX11_plant_12 (by decide) ?_
    obtain ⟨v11, hcv11⟩ : ∃ q, f_X11_deny a0 (2 : Int32) M = q := ⟨_, rfl⟩
    replace hf := lt_e hf hcv11.symm
    refine v_callV [.int (2 : Int32)] G (c_X11_deny h0 hcv11) h0 (by decide) rfl rfl rfl t_720 t_722 t_p12 t_1 t_723 nm_X11_deny (by decide) (by decide) rfl rfl (Nat.le_of_ble_eq_true rfl) dX11_plant_13 (kv_ri ?_)
    obtain rfl := Option.some.inj hf
    exact v_zret G (z_X11_deny hcv11) dX11_plant_16
abbrev cX11_can : ByteArray := prog_1_method_46_code
def yX11_can : MethodName := ⟨RX11, "can", "(II)I"⟩
theorem dX11_can_0 : dc cX11_can 0 (.aload_n 0) 1 1 := ⟨by decide +kernel, rfl⟩
theorem dX11_can_1 : dc cX11_can 1 (.getfield 72) 3 4 := ⟨by decide +kernel, rfl⟩
theorem dX11_can_4 : dc cX11_can 4 (.iload_n 1) 1 5 := ⟨by decide +kernel, rfl⟩
theorem dX11_can_5 : dc cX11_can 5 (.invokevirtual 266) 3 8 := ⟨by decide +kernel, rfl⟩
theorem dX11_can_8 : dc cX11_can 8 (.ifCond .eq 14) 3 11 := ⟨by decide +kernel, rfl⟩
theorem dX11_can_11 : dc cX11_can 11 (.aload_n 0) 1 12 := ⟨by decide +kernel, rfl⟩
theorem dX11_can_12 : dc cX11_can 12 (.getfield 72) 3 15 := ⟨by decide +kernel, rfl⟩
theorem dX11_can_15 : dc cX11_can 15 (.iload_n 2) 1 16 := ⟨by decide +kernel, rfl⟩
theorem dX11_can_16 : dc cX11_can 16 (.invokevirtual 241) 3 19 := ⟨by decide +kernel, rfl⟩
theorem dX11_can_19 : dc cX11_can 19 (.ifCond .ne 9) 3 22 := ⟨by decide +kernel, rfl⟩
theorem dX11_can_22 : dc cX11_can 22 (.aload_n 0) 1 23 := ⟨by decide +kernel, rfl⟩
theorem dX11_can_23 : dc cX11_can 23 (.iconst 2) 1 24 := ⟨by decide +kernel, rfl⟩
theorem dX11_can_24 : dc cX11_can 24 (.invokevirtual 104) 3 27 := ⟨by decide +kernel, rfl⟩
theorem dX11_can_27 : dc cX11_can 27 (.ireturn) 1 28 := ⟨by decide +kernel, rfl⟩
theorem dX11_can_28 : dc cX11_can 28 (.aload_n 0) 1 29 := ⟨by decide +kernel, rfl⟩
theorem dX11_can_29 : dc cX11_can 29 (.aload_n 0) 1 30 := ⟨by decide +kernel, rfl⟩
theorem dX11_can_30 : dc cX11_can 30 (.getfield 72) 3 33 := ⟨by decide +kernel, rfl⟩
theorem dX11_can_33 : dc cX11_can 33 (.iload_n 1) 1 34 := ⟨by decide +kernel, rfl⟩
theorem dX11_can_34 : dc cX11_can 34 (.iload_n 2) 1 35 := ⟨by decide +kernel, rfl⟩
theorem dX11_can_35 : dc cX11_can 35 (.invokevirtual 334) 3 38 := ⟨by decide +kernel, rfl⟩
theorem dX11_can_38 : dc cX11_can 38 (.invokevirtual 220) 3 41 := ⟨by decide +kernel, rfl⟩
theorem dX11_can_41 : dc cX11_can 41 (.ireturn) 1 42 := ⟨by decide +kernel, rfl⟩
theorem nm_X11_can : (yX11_can).cls ≠ "java/lang/invoke/MethodHandle" ∧ (yX11_can).cls ≠ "java/lang/invoke/VarHandle" ∧ (parseMethodDescriptor (yX11_can).desc).map (fun d => d.parameters.length) = some 2 := ⟨by decide +kernel, by decide +kernel, by decide +kernel⟩
set_option maxRecDepth 100000 in
set_option maxHeartbeats 4000000 in
theorem c_X11_can {l : Launch} {ad : Nat → Nat} {cy : Nat → ClassId} {D : va_G} {z : Nat} (n : Nat) {a0 : Nat} {p1 : Int32} {p2 : Int32} {M : KM} {y : (Int32 × KM)} (h0 : kty a0 = 11) (hf : f_X11_can n a0 p1 p2 M = some y) : KC l ad cy D z yX11_can cX11_can 3 (some .int) 3 [.ref (ad a0), .int p1, .int p2] M (some (.int y.1), y.2) := by
  refine kv_enter (by decide +kernel) (Nat.le_of_ble_eq_true rfl) ?_
  intro x hl hD hz G
  subst hl hD hz
  unfold f_X11_can at hf
  have G : KG ad cy x cX11_can "NoonGuides" 3 (some (some .int)) 3 := G
  show KV ad cy x (some (.int y.1), y.2) 0 [(0, .ref (ad a0)), (1, .int p1), (2, .int p2)] [] M
  refine v_aload_n G dX11_can_0 0 rfl ?_
  refine gf_11_10 G h0 t_467 (Or.inl rfl) dX11_can_1 ?_
  refine v_kt (fun hKT => ?_)
  have hk1 := hKT.1 _ h0
  refine v_iload_n G dX11_can_4 1 rfl ?_
  obtain ⟨v2, hcv2⟩ : ∃ q, f_X2_hasPerson (M.2.2 a0 10) p1 M = q := ⟨_, rfl⟩
  replace hf := lt_e hf hcv2.symm
  refine v_callV [.int p1] G (c_X2_hasPerson hk1 hcv2) hk1 (by decide) rfl rfl rfl t_585 t_586 t_587 t_13 t_588 nm_X2_hasPerson (by decide) (by decide) rfl rfl (Nat.le_of_ble_eq_true rfl) dX11_can_5 (kv_ri ?_)
  obtain ⟨j22, ej22, hf⟩ := lt_j hf
  have hj22 : j22 = some y → KV ad cy x (some (.int y.1), y.2) 22 [(0, .ref (ad a0))] [] M := by
    intro hf
    rw [ej22] at hf
    refine v_aload_n G dX11_can_22 0 rfl ?_
    refine v_iconst (2 : Int32) G dX11_can_23 (by decide) ?_
    obtain ⟨v3, hcv3⟩ : ∃ q, f_X11_refuse a0 (2 : Int32) M = q := ⟨_, rfl⟩
    replace hf := lt_e hf hcv3.symm
    refine v_callV [.int (2 : Int32)] G (c_X11_refuse h0 hcv3) h0 (by decide) rfl rfl rfl t_557 t_559 t_p2 t_1 t_560 nm_X11_refuse (by decide) (by decide) rfl rfl (Nat.le_of_ble_eq_true rfl) dX11_can_24 (kv_ri ?_)
    obtain rfl := Option.some.inj hf
    exact v_iret G dX11_can_27
  refine v_if_eq 22 G dX11_can_8 (by decide) (fun h10 => ?_) (fun h10 => ?_)
  · replace hf := (if_pos h10).symm.trans hf
    refine v_sub _ [0] rfl ?_
    exact hj22 hf
  · replace hf := (if_neg h10).symm.trans hf
    refine v_aload_n G dX11_can_11 0 rfl ?_
    refine gf_11_10 G h0 t_467 (Or.inl rfl) dX11_can_12 ?_
    refine v_kt (fun hKT => ?_)
    have hk4 := hKT.1 _ h0
    refine v_iload_n G dX11_can_15 2 rfl ?_
    obtain ⟨v5, hcv5⟩ : ∃ q, f_X2_hasRoad (M.2.2 a0 10) p2 M = q := ⟨_, rfl⟩
    replace hf := lt_e hf hcv5.symm
    refine v_callV [.int p2] G (c_X2_hasRoad hk4 hcv5) hk4 (by decide) rfl rfl rfl t_732 t_632 t_633 t_13 t_634 nm_X2_hasRoad (by decide) (by decide) rfl rfl (Nat.le_of_ble_eq_true rfl) dX11_can_16 (kv_ri ?_)
    refine v_if_ne 28 G dX11_can_19 (by decide) (fun h9 => ?_) (fun h9 => ?_)
    · replace hf := (if_neg h9).symm.trans hf
      refine v_aload_n G dX11_can_28 0 rfl ?_
      refine v_aload_n G dX11_can_29 0 rfl ?_
      refine gf_11_10 G h0 t_467 (Or.inl rfl) dX11_can_30 ?_
      refine v_kt (fun hKT => ?_)
      have hk6 := hKT.1 _ h0
      refine v_iload_n G dX11_can_33 1 rfl ?_
      refine v_iload_n G dX11_can_34 2 rfl ?_
      obtain ⟨v7, hcv7, hf⟩ := bd_e hf
      refine v_callV [.int p1, .int p2] G (c_X2_isAble n hk6 hcv7) hk6 (by decide) rfl rfl rfl t_737 t_691 t_692 t_13 t_693 nm_X2_isAble (by decide) (by decide) rfl rfl (Nat.le_of_ble_eq_true rfl) dX11_can_35 (kv_ri ?_)
      obtain ⟨v8, hcv8⟩ : ∃ q, f_X11_tellIf a0 v7 M = q := ⟨_, rfl⟩
      replace hf := lt_e hf hcv8.symm
      refine v_callV [.int v7] G (c_X11_tellIf h0 hcv8) h0 (by decide) rfl rfl rfl t_533 t_535 t_p1 t_1 t_536 nm_X11_tellIf (by decide) (by decide) rfl rfl (Nat.le_of_ble_eq_true rfl) dX11_can_38 (kv_ri ?_)
      obtain rfl := Option.some.inj hf
      exact v_iret G dX11_can_41
    · replace hf := (if_pos h9).symm.trans hf
      refine v_sub _ [0] rfl ?_
      exact hj22 hf
abbrev cX11_stuck : ByteArray := prog_1_method_48_code
def yX11_stuck : MethodName := ⟨RX11, "stuck", "()I"⟩
theorem dX11_stuck_0 : dc cX11_stuck 0 (.aload_n 0) 1 1 := ⟨by decide +kernel, rfl⟩
theorem dX11_stuck_1 : dc cX11_stuck 1 (.aload_n 0) 1 2 := ⟨by decide +kernel, rfl⟩
theorem dX11_stuck_2 : dc cX11_stuck 2 (.getfield 72) 3 5 := ⟨by decide +kernel, rfl⟩
theorem dX11_stuck_5 : dc cX11_stuck 5 (.invokevirtual 340) 3 8 := ⟨by decide +kernel, rfl⟩
theorem dX11_stuck_8 : dc cX11_stuck 8 (.invokevirtual 108) 3 11 := ⟨by decide +kernel, rfl⟩
theorem dX11_stuck_11 : dc cX11_stuck 11 (.ireturn) 1 12 := ⟨by decide +kernel, rfl⟩
theorem nm_X11_stuck : (yX11_stuck).cls ≠ "java/lang/invoke/MethodHandle" ∧ (yX11_stuck).cls ≠ "java/lang/invoke/VarHandle" ∧ (parseMethodDescriptor (yX11_stuck).desc).map (fun d => d.parameters.length) = some 0 := ⟨by decide +kernel, by decide +kernel, by decide +kernel⟩
set_option maxRecDepth 100000 in
set_option maxHeartbeats 4000000 in
theorem c_X11_stuck {l : Launch} {ad : Nat → Nat} {cy : Nat → ClassId} {D : va_G} {z : Nat} (n : Nat) {a0 : Nat} {M : KM} {y : (Int32 × KM)} (h0 : kty a0 = 11) (hf : f_X11_stuck n a0 M = some y) : KC l ad cy D z yX11_stuck cX11_stuck 1 (some .int) 5 [.ref (ad a0)] M (some (.int y.1), y.2) := by
  refine kv_enter (by decide +kernel) (Nat.le_of_ble_eq_true rfl) ?_
  intro x hl hD hz G
  subst hl hD hz
  unfold f_X11_stuck at hf
  have G : KG ad cy x cX11_stuck "NoonGuides" 1 (some (some .int)) 5 := G
  show KV ad cy x (some (.int y.1), y.2) 0 [(0, .ref (ad a0))] [] M
  refine v_aload_n G dX11_stuck_0 0 rfl ?_
  refine v_aload_n G dX11_stuck_1 0 rfl ?_
  refine gf_11_10 G h0 t_467 (Or.inl rfl) dX11_stuck_2 ?_
  refine v_kt (fun hKT => ?_)
  have hk1 := hKT.1 _ h0
  obtain ⟨v2, hcv2, hf⟩ := bd_e hf
  refine v_callV [] G (c_X2_stuckSet n hk1 hcv2) hk1 (by decide) rfl rfl rfl t_742 t_743 t_744 t_13 t_745 nm_X2_stuckSet (by decide) (by decide) rfl rfl (Nat.le_of_ble_eq_true rfl) dX11_stuck_5 (kv_ri ?_)
  obtain ⟨v3, hcv3⟩ : ∃ q, f_X11_tell a0 v2 M = q := ⟨_, rfl⟩
  replace hf := lt_e hf hcv3.symm
  refine v_callV [.int v2] G (c_X11_tell h0 hcv3) h0 (by decide) rfl rfl rfl t_521 t_523 t_p0 t_1 t_524 nm_X11_tell (by decide) (by decide) rfl rfl (Nat.le_of_ble_eq_true rfl) dX11_stuck_8 (kv_ri ?_)
  obtain rfl := Option.some.inj hf
  exact v_iret G dX11_stuck_11
abbrev cX11_whyNotAtPlace : ByteArray := prog_1_method_51_code
def yX11_whyNotAtPlace : MethodName := ⟨RX11, "whyNotAtPlace", "(I)I"⟩
theorem dX11_whyNotAtPlace_0 : dc cX11_whyNotAtPlace 0 (.aload_n 0) 1 1 := ⟨by decide +kernel, rfl⟩
theorem dX11_whyNotAtPlace_1 : dc cX11_whyNotAtPlace 1 (.getfield 72) 3 4 := ⟨by decide +kernel, rfl⟩
theorem dX11_whyNotAtPlace_4 : dc cX11_whyNotAtPlace 4 (.iload_n 1) 1 5 := ⟨by decide +kernel, rfl⟩
theorem dX11_whyNotAtPlace_5 : dc cX11_whyNotAtPlace 5 (.invokevirtual 266) 3 8 := ⟨by decide +kernel, rfl⟩
theorem dX11_whyNotAtPlace_8 : dc cX11_whyNotAtPlace 8 (.ifCond .ne 5) 3 11 := ⟨by decide +kernel, rfl⟩
theorem dX11_whyNotAtPlace_11 : dc cX11_whyNotAtPlace 11 (.iconst 2) 1 12 := ⟨by decide +kernel, rfl⟩
theorem dX11_whyNotAtPlace_12 : dc cX11_whyNotAtPlace 12 (.ireturn) 1 13 := ⟨by decide +kernel, rfl⟩
theorem dX11_whyNotAtPlace_13 : dc cX11_whyNotAtPlace 13 (.aload_n 0) 1 14 := ⟨by decide +kernel, rfl⟩
theorem dX11_whyNotAtPlace_14 : dc cX11_whyNotAtPlace 14 (.getfield 72) 3 17 := ⟨by decide +kernel, rfl⟩
theorem dX11_whyNotAtPlace_17 : dc cX11_whyNotAtPlace 17 (.getfield 269) 3 20 := ⟨by decide +kernel, rfl⟩
theorem dX11_whyNotAtPlace_20 : dc cX11_whyNotAtPlace 20 (.iload_n 1) 1 21 := ⟨by decide +kernel, rfl⟩
theorem dX11_whyNotAtPlace_21 : dc cX11_whyNotAtPlace 21 (.aaload) 1 22 := ⟨by decide +kernel, rfl⟩
theorem dX11_whyNotAtPlace_22 : dc cX11_whyNotAtPlace 22 (.invokevirtual 349) 3 25 := ⟨by decide +kernel, rfl⟩
theorem dX11_whyNotAtPlace_25 : dc cX11_whyNotAtPlace 25 (.ifCond .eq 7) 3 28 := ⟨by decide +kernel, rfl⟩
theorem dX11_whyNotAtPlace_28 : dc cX11_whyNotAtPlace 28 (.iconst 0) 1 29 := ⟨by decide +kernel, rfl⟩
theorem dX11_whyNotAtPlace_29 : dc cX11_whyNotAtPlace 29 (.goto 5) 3 32 := ⟨by decide +kernel, rfl⟩
theorem dX11_whyNotAtPlace_32 : dc cX11_whyNotAtPlace 32 (.bipush 9) 2 34 := ⟨by decide +kernel, rfl⟩
theorem dX11_whyNotAtPlace_34 : dc cX11_whyNotAtPlace 34 (.ireturn) 1 35 := ⟨by decide +kernel, rfl⟩
theorem nm_X11_whyNotAtPlace : (yX11_whyNotAtPlace).cls ≠ "java/lang/invoke/MethodHandle" ∧ (yX11_whyNotAtPlace).cls ≠ "java/lang/invoke/VarHandle" ∧ (parseMethodDescriptor (yX11_whyNotAtPlace).desc).map (fun d => d.parameters.length) = some 1 := ⟨by decide +kernel, by decide +kernel, by decide +kernel⟩
set_option maxRecDepth 100000 in
set_option maxHeartbeats 4000000 in
theorem c_X11_whyNotAtPlace {l : Launch} {ad : Nat → Nat} {cy : Nat → ClassId} {D : va_G} {z : Nat} (n : Nat) {a0 : Nat} {p1 : Int32} {M : KM} {y : Int32} (h0 : kty a0 = 11) (hf : f_X11_whyNotAtPlace n a0 p1 M = some y) : KC l ad cy D z yX11_whyNotAtPlace cX11_whyNotAtPlace 2 (some .int) 2 [.ref (ad a0), .int p1] M (some (.int y), M) := by
  refine kv_enter (by decide +kernel) (Nat.le_of_ble_eq_true rfl) ?_
  intro x hl hD hz G
  subst hl hD hz
  unfold f_X11_whyNotAtPlace at hf
  have G : KG ad cy x cX11_whyNotAtPlace "NoonGuides" 2 (some (some .int)) 2 := G
  show KV ad cy x (some (.int y), M) 0 [(0, .ref (ad a0)), (1, .int p1)] [] M
  refine v_aload_n G dX11_whyNotAtPlace_0 0 rfl ?_
  refine gf_11_10 G h0 t_467 (Or.inl rfl) dX11_whyNotAtPlace_1 ?_
  refine v_kt (fun hKT => ?_)
  have hk1 := hKT.1 _ h0
  refine v_iload_n G dX11_whyNotAtPlace_4 1 rfl ?_
  obtain ⟨v2, hcv2⟩ : ∃ q, f_X2_hasPerson (M.2.2 a0 10) p1 M = q := ⟨_, rfl⟩
  replace hf := lt_e hf hcv2.symm
  refine v_callV [.int p1] G (c_X2_hasPerson hk1 hcv2) hk1 (by decide) rfl rfl rfl t_585 t_586 t_587 t_13 t_588 nm_X2_hasPerson (by decide) (by decide) rfl rfl (Nat.le_of_ble_eq_true rfl) dX11_whyNotAtPlace_5 (kv_ri ?_)
  refine v_if_ne 13 G dX11_whyNotAtPlace_8 (by decide) (fun h7 => ?_) (fun h7 => ?_)
  · replace hf := (if_neg h7).symm.trans hf
    refine v_aload_n G dX11_whyNotAtPlace_13 0 rfl ?_
    refine gf_11_10 G h0 t_467 (Or.inl rfl) dX11_whyNotAtPlace_14 ?_
    refine v_kt (fun hKT => ?_)
    have hk3 := hKT.1 _ h0
    refine gf_2_5 G hk3 t_375 (Or.inl rfl) dX11_whyNotAtPlace_17 ?_
    refine v_iload_n G dX11_whyNotAtPlace_20 1 rfl ?_
    obtain ⟨g4, hf⟩ := gd_e hf
    refine al_Person G (kf_2_6 hk3) g4 dX11_whyNotAtPlace_21 ?_
    obtain ⟨v5, hcv5⟩ : ∃ q, f_X7_isAtPlace (((M.2.2 a0 10) + 6) + 8 + 3 * (p1).toNatClampNeg) M = q := ⟨_, rfl⟩
    replace hf := lt_e hf hcv5.symm
    refine v_callV [] G (c_X7_isAtPlace (ke_Person (kf_2_6 hk3) (ix_lt g4)) hcv5) (ke_Person (kf_2_6 hk3) (ix_lt g4)) (by decide) rfl rfl rfl t_758 t_546 t_547 t_15 t_548 nm_X7_isAtPlace (by decide) (by decide) rfl rfl (Nat.le_of_ble_eq_true rfl) dX11_whyNotAtPlace_22 (kv_ri ?_)
    refine v_if_eq 32 G dX11_whyNotAtPlace_25 (by decide) (fun h6 => ?_) (fun h6 => ?_)
    · replace hf := (if_pos h6).symm.trans hf
      refine v_bipush (9 : Int32) G dX11_whyNotAtPlace_32 (by decide) ?_
      obtain rfl := Option.some.inj hf
      exact v_iret G dX11_whyNotAtPlace_34
    · replace hf := (if_neg h6).symm.trans hf
      refine v_iconst (0 : Int32) G dX11_whyNotAtPlace_28 (by decide) ?_
      refine v_goto 34 G dX11_whyNotAtPlace_29 (by decide) ?_
      obtain rfl := Option.some.inj hf
      exact v_iret G dX11_whyNotAtPlace_34
  · replace hf := (if_pos h7).symm.trans hf
    refine v_iconst (2 : Int32) G dX11_whyNotAtPlace_11 (by decide) ?_
    obtain rfl := Option.some.inj hf
    exact v_iret G dX11_whyNotAtPlace_12
abbrev cX11_reach : ByteArray := prog_1_method_49_code
def yX11_reach : MethodName := ⟨RX11, "reach", "(I)I"⟩
theorem dX11_reach_0 : dc cX11_reach 0 (.aload_n 0) 1 1 := ⟨by decide +kernel, rfl⟩
theorem dX11_reach_1 : dc cX11_reach 1 (.iload_n 1) 1 2 := ⟨by decide +kernel, rfl⟩
theorem dX11_reach_2 : dc cX11_reach 2 (.invokevirtual 343) 3 5 := ⟨by decide +kernel, rfl⟩
theorem dX11_reach_5 : dc cX11_reach 5 (.istore_n 2) 1 6 := ⟨by decide +kernel, rfl⟩
theorem dX11_reach_6 : dc cX11_reach 6 (.iload_n 2) 1 7 := ⟨by decide +kernel, rfl⟩
theorem dX11_reach_7 : dc cX11_reach 7 (.ifCond .eq 11) 3 10 := ⟨by decide +kernel, rfl⟩
theorem dX11_reach_10 : dc cX11_reach 10 (.aload_n 0) 1 11 := ⟨by decide +kernel, rfl⟩
theorem dX11_reach_11 : dc cX11_reach 11 (.iload_n 2) 1 12 := ⟨by decide +kernel, rfl⟩
theorem dX11_reach_12 : dc cX11_reach 12 (.invokevirtual 104) 3 15 := ⟨by decide +kernel, rfl⟩
theorem dX11_reach_15 : dc cX11_reach 15 (.goto 15) 3 18 := ⟨by decide +kernel, rfl⟩
theorem dX11_reach_18 : dc cX11_reach 18 (.aload_n 0) 1 19 := ⟨by decide +kernel, rfl⟩
theorem dX11_reach_19 : dc cX11_reach 19 (.aload_n 0) 1 20 := ⟨by decide +kernel, rfl⟩
theorem dX11_reach_20 : dc cX11_reach 20 (.getfield 72) 3 23 := ⟨by decide +kernel, rfl⟩
theorem dX11_reach_23 : dc cX11_reach 23 (.iload_n 1) 1 24 := ⟨by decide +kernel, rfl⟩
theorem dX11_reach_24 : dc cX11_reach 24 (.invokevirtual 346) 3 27 := ⟨by decide +kernel, rfl⟩
theorem dX11_reach_27 : dc cX11_reach 27 (.invokevirtual 108) 3 30 := ⟨by decide +kernel, rfl⟩
theorem dX11_reach_30 : dc cX11_reach 30 (.ireturn) 1 31 := ⟨by decide +kernel, rfl⟩
theorem nm_X11_reach : (yX11_reach).cls ≠ "java/lang/invoke/MethodHandle" ∧ (yX11_reach).cls ≠ "java/lang/invoke/VarHandle" ∧ (parseMethodDescriptor (yX11_reach).desc).map (fun d => d.parameters.length) = some 1 := ⟨by decide +kernel, by decide +kernel, by decide +kernel⟩
set_option maxRecDepth 100000 in
set_option maxHeartbeats 4000000 in
theorem c_X11_reach {l : Launch} {ad : Nat → Nat} {cy : Nat → ClassId} {D : va_G} {z : Nat} (n : Nat) {a0 : Nat} {p1 : Int32} {M : KM} {y : (Int32 × KM)} (h0 : kty a0 = 11) (hf : f_X11_reach n a0 p1 M = some y) : KC l ad cy D z yX11_reach cX11_reach 3 (some .int) 4 [.ref (ad a0), .int p1] M (some (.int y.1), y.2) := by
  refine kv_enter (by decide +kernel) (Nat.le_of_ble_eq_true rfl) ?_
  intro x hl hD hz G
  subst hl hD hz
  unfold f_X11_reach at hf
  have G : KG ad cy x cX11_reach "NoonGuides" 3 (some (some .int)) 4 := G
  show KV ad cy x (some (.int y.1), y.2) 0 [(0, .ref (ad a0)), (1, .int p1)] [] M
  refine v_aload_n G dX11_reach_0 0 rfl ?_
  refine v_iload_n G dX11_reach_1 1 rfl ?_
  obtain ⟨v1, hcv1, hf⟩ := bd_e hf
  refine v_callV [.int p1] G (c_X11_whyNotAtPlace n h0 hcv1) h0 (by decide) rfl rfl rfl t_754 t_756 t_p15 t_1 t_757 nm_X11_whyNotAtPlace (by decide) (by decide) rfl rfl (Nat.le_of_ble_eq_true rfl) dX11_reach_2 (kv_ri ?_)
  refine v_istore_n [(2, .int v1), (0, .ref (ad a0)), (1, .int p1)] G dX11_reach_5 (by decide) rfl ?_
  refine v_iload_n G dX11_reach_6 0 rfl ?_
  refine v_if_eq 18 G dX11_reach_7 (by decide) (fun h6 => ?_) (fun h6 => ?_)
  · replace hf := (if_pos h6).symm.trans hf
    refine v_aload_n G dX11_reach_18 1 rfl ?_
    refine v_aload_n G dX11_reach_19 1 rfl ?_
    refine gf_11_10 G h0 t_467 (Or.inl rfl) dX11_reach_20 ?_
    refine v_kt (fun hKT => ?_)
    have hk2 := hKT.1 _ h0
    refine v_iload_n G dX11_reach_23 2 rfl ?_
    obtain ⟨v3, hcv3, hf⟩ := bd_e hf
    refine v_callV [.int p1] G (c_X2_reachSet n hk2 hcv3) hk2 (by decide) rfl rfl rfl t_759 t_760 t_761 t_13 t_762 nm_X2_reachSet (by decide) (by decide) rfl rfl (Nat.le_of_ble_eq_true rfl) dX11_reach_24 (kv_ri ?_)
    obtain ⟨v4, hcv4⟩ : ∃ q, f_X11_tell a0 v3 M = q := ⟨_, rfl⟩
    replace hf := lt_e hf hcv4.symm
    refine v_callV [.int v3] G (c_X11_tell h0 hcv4) h0 (by decide) rfl rfl rfl t_521 t_523 t_p0 t_1 t_524 nm_X11_tell (by decide) (by decide) rfl rfl (Nat.le_of_ble_eq_true rfl) dX11_reach_27 (kv_ri ?_)
    obtain rfl := Option.some.inj hf
    exact v_iret G dX11_reach_30
  · replace hf := (if_neg h6).symm.trans hf
    refine v_aload_n G dX11_reach_10 1 rfl ?_
    refine v_iload_n G dX11_reach_11 0 rfl ?_
    obtain ⟨v5, hcv5⟩ : ∃ q, f_X11_refuse a0 v1 M = q := ⟨_, rfl⟩
    replace hf := lt_e hf hcv5.symm
    refine v_callV [.int v1] G (c_X11_refuse h0 hcv5) h0 (by decide) rfl rfl rfl t_557 t_559 t_p2 t_1 t_560 nm_X11_refuse (by decide) (by decide) rfl rfl (Nat.le_of_ble_eq_true rfl) dX11_reach_12 (kv_ri ?_)
    refine v_goto 30 G dX11_reach_15 (by decide) ?_
    obtain rfl := Option.some.inj hf
    exact v_iret G dX11_reach_30
abbrev cX11_whyNoWay : ByteArray := prog_1_method_60_code
def yX11_whyNoWay : MethodName := ⟨RX11, "whyNoWay", "(II)I"⟩
theorem dX11_whyNoWay_0 : dc cX11_whyNoWay 0 (.aload_n 0) 1 1 := ⟨by decide +kernel, rfl⟩
theorem dX11_whyNoWay_1 : dc cX11_whyNoWay 1 (.getfield 72) 3 4 := ⟨by decide +kernel, rfl⟩
theorem dX11_whyNoWay_4 : dc cX11_whyNoWay 4 (.iload_n 2) 1 5 := ⟨by decide +kernel, rfl⟩
theorem dX11_whyNoWay_5 : dc cX11_whyNoWay 5 (.invokevirtual 257) 3 8 := ⟨by decide +kernel, rfl⟩
theorem dX11_whyNoWay_8 : dc cX11_whyNoWay 8 (.ifCond .eq 11) 3 11 := ⟨by decide +kernel, rfl⟩
theorem dX11_whyNoWay_11 : dc cX11_whyNoWay 11 (.aload_n 0) 1 12 := ⟨by decide +kernel, rfl⟩
theorem dX11_whyNoWay_12 : dc cX11_whyNoWay 12 (.iload_n 1) 1 13 := ⟨by decide +kernel, rfl⟩
theorem dX11_whyNoWay_13 : dc cX11_whyNoWay 13 (.invokevirtual 343) 3 16 := ⟨by decide +kernel, rfl⟩
theorem dX11_whyNoWay_16 : dc cX11_whyNoWay 16 (.goto 4) 3 19 := ⟨by decide +kernel, rfl⟩
theorem dX11_whyNoWay_19 : dc cX11_whyNoWay 19 (.iconst 2) 1 20 := ⟨by decide +kernel, rfl⟩
theorem dX11_whyNoWay_20 : dc cX11_whyNoWay 20 (.ireturn) 1 21 := ⟨by decide +kernel, rfl⟩
theorem nm_X11_whyNoWay : (yX11_whyNoWay).cls ≠ "java/lang/invoke/MethodHandle" ∧ (yX11_whyNoWay).cls ≠ "java/lang/invoke/VarHandle" ∧ (parseMethodDescriptor (yX11_whyNoWay).desc).map (fun d => d.parameters.length) = some 2 := ⟨by decide +kernel, by decide +kernel, by decide +kernel⟩
set_option maxRecDepth 100000 in
set_option maxHeartbeats 4000000 in
theorem c_X11_whyNoWay {l : Launch} {ad : Nat → Nat} {cy : Nat → ClassId} {D : va_G} {z : Nat} (n : Nat) {a0 : Nat} {p1 : Int32} {p2 : Int32} {M : KM} {y : Int32} (h0 : kty a0 = 11) (hf : f_X11_whyNoWay n a0 p1 p2 M = some y) : KC l ad cy D z yX11_whyNoWay cX11_whyNoWay 3 (some .int) 3 [.ref (ad a0), .int p1, .int p2] M (some (.int y), M) := by
  refine kv_enter (by decide +kernel) (Nat.le_of_ble_eq_true rfl) ?_
  intro x hl hD hz G
  subst hl hD hz
  unfold f_X11_whyNoWay at hf
  have G : KG ad cy x cX11_whyNoWay "NoonGuides" 3 (some (some .int)) 3 := G
  show KV ad cy x (some (.int y), M) 0 [(0, .ref (ad a0)), (1, .int p1), (2, .int p2)] [] M
  refine v_aload_n G dX11_whyNoWay_0 0 rfl ?_
  refine gf_11_10 G h0 t_467 (Or.inl rfl) dX11_whyNoWay_1 ?_
  refine v_kt (fun hKT => ?_)
  have hk1 := hKT.1 _ h0
  refine v_iload_n G dX11_whyNoWay_4 2 rfl ?_
  obtain ⟨v2, hcv2⟩ : ∃ q, f_X2_hasPlace (M.2.2 a0 10) p2 M = q := ⟨_, rfl⟩
  replace hf := lt_e hf hcv2.symm
  refine v_callV [.int p2] G (c_X2_hasPlace hk1 hcv2) hk1 (by decide) rfl rfl rfl t_565 t_566 t_567 t_13 t_568 nm_X2_hasPlace (by decide) (by decide) rfl rfl (Nat.le_of_ble_eq_true rfl) dX11_whyNoWay_5 (kv_ri ?_)
  refine v_if_eq 19 G dX11_whyNoWay_8 (by decide) (fun h4 => ?_) (fun h4 => ?_)
  · replace hf := (if_pos h4).symm.trans hf
    refine v_iconst (2 : Int32) G dX11_whyNoWay_19 (by decide) ?_
    obtain rfl := Option.some.inj hf
    exact v_iret G dX11_whyNoWay_20
  · replace hf := (if_neg h4).symm.trans hf
    refine v_aload_n G dX11_whyNoWay_11 0 rfl ?_
    refine v_iload_n G dX11_whyNoWay_12 1 rfl ?_
    obtain ⟨v3, hcv3, hf⟩ := bd_e hf
    refine v_callV [.int p1] G (c_X11_whyNotAtPlace n h0 hcv3) h0 (by decide) rfl rfl rfl t_754 t_756 t_p15 t_1 t_757 nm_X11_whyNotAtPlace (by decide) (by decide) rfl rfl (Nat.le_of_ble_eq_true rfl) dX11_whyNoWay_13 (kv_ri ?_)
    refine v_goto 20 G dX11_whyNoWay_16 (by decide) ?_
    obtain rfl := Option.some.inj hf
    exact v_iret G dX11_whyNoWay_20
abbrev cX11_soonest : ByteArray := prog_1_method_52_code
def yX11_soonest : MethodName := ⟨RX11, "soonest", "(II)I"⟩
theorem dX11_soonest_0 : dc cX11_soonest 0 (.aload_n 0) 1 1 := ⟨by decide +kernel, rfl⟩
theorem dX11_soonest_1 : dc cX11_soonest 1 (.iload_n 1) 1 2 := ⟨by decide +kernel, rfl⟩
theorem dX11_soonest_2 : dc cX11_soonest 2 (.iload_n 2) 1 3 := ⟨by decide +kernel, rfl⟩
theorem dX11_soonest_3 : dc cX11_soonest 3 (.invokevirtual 352) 3 6 := ⟨by decide +kernel, rfl⟩
theorem dX11_soonest_6 : dc cX11_soonest 6 (.istore_n 3) 1 7 := ⟨by decide +kernel, rfl⟩
theorem dX11_soonest_7 : dc cX11_soonest 7 (.iload_n 3) 1 8 := ⟨by decide +kernel, rfl⟩
theorem dX11_soonest_8 : dc cX11_soonest 8 (.ifCond .eq 11) 3 11 := ⟨by decide +kernel, rfl⟩
theorem dX11_soonest_11 : dc cX11_soonest 11 (.aload_n 0) 1 12 := ⟨by decide +kernel, rfl⟩
theorem dX11_soonest_12 : dc cX11_soonest 12 (.iload_n 3) 1 13 := ⟨by decide +kernel, rfl⟩
theorem dX11_soonest_13 : dc cX11_soonest 13 (.invokevirtual 104) 3 16 := ⟨by decide +kernel, rfl⟩
theorem dX11_soonest_16 : dc cX11_soonest 16 (.goto 21) 3 19 := ⟨by decide +kernel, rfl⟩
theorem dX11_soonest_19 : dc cX11_soonest 19 (.aload_n 0) 1 20 := ⟨by decide +kernel, rfl⟩
theorem dX11_soonest_20 : dc cX11_soonest 20 (.aload_n 0) 1 21 := ⟨by decide +kernel, rfl⟩
theorem dX11_soonest_21 : dc cX11_soonest 21 (.getfield 53) 3 24 := ⟨by decide +kernel, rfl⟩
theorem dX11_soonest_24 : dc cX11_soonest 24 (.aload_n 0) 1 25 := ⟨by decide +kernel, rfl⟩
theorem dX11_soonest_25 : dc cX11_soonest 25 (.getfield 72) 3 28 := ⟨by decide +kernel, rfl⟩
theorem dX11_soonest_28 : dc cX11_soonest 28 (.iload_n 1) 1 29 := ⟨by decide +kernel, rfl⟩
theorem dX11_soonest_29 : dc cX11_soonest 29 (.iconst (-1)) 1 30 := ⟨by decide +kernel, rfl⟩
theorem dX11_soonest_30 : dc cX11_soonest 30 (.iload_n 2) 1 31 := ⟨by decide +kernel, rfl⟩
theorem dX11_soonest_31 : dc cX11_soonest 31 (.invokevirtual 355) 3 34 := ⟨by decide +kernel, rfl⟩
theorem dX11_soonest_34 : dc cX11_soonest 34 (.invokevirtual 359) 3 37 := ⟨by decide +kernel, rfl⟩
theorem dX11_soonest_37 : dc cX11_soonest 37 (.ireturn) 1 38 := ⟨by decide +kernel, rfl⟩
theorem nm_X11_soonest : (yX11_soonest).cls ≠ "java/lang/invoke/MethodHandle" ∧ (yX11_soonest).cls ≠ "java/lang/invoke/VarHandle" ∧ (parseMethodDescriptor (yX11_soonest).desc).map (fun d => d.parameters.length) = some 2 := ⟨by decide +kernel, by decide +kernel, by decide +kernel⟩
set_option maxRecDepth 100000 in
set_option maxHeartbeats 4000000 in
theorem c_X11_soonest {l : Launch} {ad : Nat → Nat} {cy : Nat → ClassId} {D : va_G} {z : Nat} (n : Nat) {a0 : Nat} {p1 : Int32} {p2 : Int32} {M : KM} {y : (Int32 × KM)} (h0 : kty a0 = 11) (hf : f_X11_soonest n a0 p1 p2 M = some y) : KC l ad cy D z yX11_soonest cX11_soonest 4 (some .int) 7 [.ref (ad a0), .int p1, .int p2] M (some (.int y.1), y.2) := by
  refine kv_enter (by decide +kernel) (Nat.le_of_ble_eq_true rfl) ?_
  intro x hl hD hz G
  subst hl hD hz
  unfold f_X11_soonest at hf
  have G : KG ad cy x cX11_soonest "NoonGuides" 4 (some (some .int)) 7 := G
  show KV ad cy x (some (.int y.1), y.2) 0 [(0, .ref (ad a0)), (1, .int p1), (2, .int p2)] [] M
  refine v_aload_n G dX11_soonest_0 0 rfl ?_
  refine v_iload_n G dX11_soonest_1 1 rfl ?_
  refine v_iload_n G dX11_soonest_2 2 rfl ?_
  obtain ⟨v1, hcv1, hf⟩ := bd_e hf
  refine v_callV [.int p1, .int p2] G (c_X11_whyNoWay n h0 hcv1) h0 (by decide) rfl rfl rfl t_767 t_769 t_p16 t_1 t_770 nm_X11_whyNoWay (by decide) (by decide) rfl rfl (Nat.le_of_ble_eq_true rfl) dX11_soonest_3 (kv_ri ?_)
  refine v_istore_n [(3, .int v1), (0, .ref (ad a0)), (1, .int p1), (2, .int p2)] G dX11_soonest_6 (by decide) rfl ?_
  refine v_iload_n G dX11_soonest_7 0 rfl ?_
  refine v_if_eq 19 G dX11_soonest_8 (by decide) (fun h6 => ?_) (fun h6 => ?_)
  · replace hf := (if_pos h6).symm.trans hf
    refine v_aload_n G dX11_soonest_19 1 rfl ?_
    refine v_aload_n G dX11_soonest_20 1 rfl ?_
    refine gf_11_7 G h0 t_464 (Or.inl rfl) dX11_soonest_21 ?_
    refine v_aload_n G dX11_soonest_24 1 rfl ?_
    refine gf_11_10 G h0 t_467 (Or.inl rfl) dX11_soonest_25 ?_
    refine v_kt (fun hKT => ?_)
    have hk2 := hKT.1 _ h0
    refine v_iload_n G dX11_soonest_28 2 rfl ?_
    refine v_iconst (-1 : Int32) G dX11_soonest_29 (by decide) ?_
    refine v_iload_n G dX11_soonest_30 3 rfl ?_
    obtain ⟨v3, hcv3, hf⟩ := bd_e hf
    refine v_callV [.ref (ad (M.2.2 a0 10)), .int p1, .int (-1 : Int32), .int p2] G (c_X6_minutesTo n (kf_11_14 h0) hk2 hcv3) (kf_11_14 h0) (by decide) rfl rfl rfl t_771 t_772 t_773 t_10 t_774 nm_X6_minutesTo (by decide) (by decide) rfl rfl (Nat.le_of_ble_eq_true rfl) dX11_soonest_31 (kv_ri ?_)
    obtain ⟨v4, hcv4⟩ : ∃ q, f_X11_tellSooner a0 v3.1 v3.2 = q := ⟨_, rfl⟩
    replace hf := lt_e hf hcv4.symm
    refine v_callV [.int v3.1] G (c_X11_tellSooner h0 hcv4) h0 (by decide) rfl rfl rfl t_796 t_798 t_p19 t_1 t_799 nm_X11_tellSooner (by decide) (by decide) rfl rfl (Nat.le_of_ble_eq_true rfl) dX11_soonest_34 (kv_ri ?_)
    obtain rfl := Option.some.inj hf
    exact v_iret G dX11_soonest_37
  · replace hf := (if_neg h6).symm.trans hf
    refine v_aload_n G dX11_soonest_11 1 rfl ?_
    refine v_iload_n G dX11_soonest_12 0 rfl ?_
    obtain ⟨v5, hcv5⟩ : ∃ q, f_X11_refuse a0 v1 M = q := ⟨_, rfl⟩
    replace hf := lt_e hf hcv5.symm
    refine v_callV [.int v1] G (c_X11_refuse h0 hcv5) h0 (by decide) rfl rfl rfl t_557 t_559 t_p2 t_1 t_560 nm_X11_refuse (by decide) (by decide) rfl rfl (Nat.le_of_ble_eq_true rfl) dX11_soonest_13 (kv_ri ?_)
    refine v_goto 37 G dX11_soonest_16 (by decide) ?_
    obtain rfl := Option.some.inj hf
    exact v_iret G dX11_soonest_37
abbrev cX11_soonestFirst : ByteArray := prog_1_method_53_code
def yX11_soonestFirst : MethodName := ⟨RX11, "soonestFirst", "(II)I"⟩
theorem dX11_soonestFirst_0 : dc cX11_soonestFirst 0 (.aload_n 0) 1 1 := ⟨by decide +kernel, rfl⟩
theorem dX11_soonestFirst_1 : dc cX11_soonestFirst 1 (.iload_n 1) 1 2 := ⟨by decide +kernel, rfl⟩
theorem dX11_soonestFirst_2 : dc cX11_soonestFirst 2 (.iload_n 2) 1 3 := ⟨by decide +kernel, rfl⟩
theorem dX11_soonestFirst_3 : dc cX11_soonestFirst 3 (.invokevirtual 352) 3 6 := ⟨by decide +kernel, rfl⟩
theorem dX11_soonestFirst_6 : dc cX11_soonestFirst 6 (.istore_n 3) 1 7 := ⟨by decide +kernel, rfl⟩
theorem dX11_soonestFirst_7 : dc cX11_soonestFirst 7 (.iload_n 3) 1 8 := ⟨by decide +kernel, rfl⟩
theorem dX11_soonestFirst_8 : dc cX11_soonestFirst 8 (.ifCond .eq 9) 3 11 := ⟨by decide +kernel, rfl⟩
theorem dX11_soonestFirst_11 : dc cX11_soonestFirst 11 (.aload_n 0) 1 12 := ⟨by decide +kernel, rfl⟩
theorem dX11_soonestFirst_12 : dc cX11_soonestFirst 12 (.iload_n 3) 1 13 := ⟨by decide +kernel, rfl⟩
theorem dX11_soonestFirst_13 : dc cX11_soonestFirst 13 (.invokevirtual 104) 3 16 := ⟨by decide +kernel, rfl⟩
theorem dX11_soonestFirst_16 : dc cX11_soonestFirst 16 (.ireturn) 1 17 := ⟨by decide +kernel, rfl⟩
theorem dX11_soonestFirst_17 : dc cX11_soonestFirst 17 (.aload_n 0) 1 18 := ⟨by decide +kernel, rfl⟩
theorem dX11_soonestFirst_18 : dc cX11_soonestFirst 18 (.getfield 72) 3 21 := ⟨by decide +kernel, rfl⟩
theorem dX11_soonestFirst_21 : dc cX11_soonestFirst 21 (.getfield 269) 3 24 := ⟨by decide +kernel, rfl⟩
theorem dX11_soonestFirst_24 : dc cX11_soonestFirst 24 (.iload_n 1) 1 25 := ⟨by decide +kernel, rfl⟩
theorem dX11_soonestFirst_25 : dc cX11_soonestFirst 25 (.aaload) 1 26 := ⟨by decide +kernel, rfl⟩
theorem dX11_soonestFirst_26 : dc cX11_soonestFirst 26 (.getfield 273) 3 29 := ⟨by decide +kernel, rfl⟩
theorem dX11_soonestFirst_29 : dc cX11_soonestFirst 29 (.iload_n 2) 1 30 := ⟨by decide +kernel, rfl⟩
theorem dX11_soonestFirst_30 : dc cX11_soonestFirst 30 (.if_icmp .ne 10) 3 33 := ⟨by decide +kernel, rfl⟩
theorem dX11_soonestFirst_33 : dc cX11_soonestFirst 33 (.aload_n 0) 1 34 := ⟨by decide +kernel, rfl⟩
theorem dX11_soonestFirst_34 : dc cX11_soonestFirst 34 (.bipush 9) 2 36 := ⟨by decide +kernel, rfl⟩
theorem dX11_soonestFirst_36 : dc cX11_soonestFirst 36 (.invokevirtual 104) 3 39 := ⟨by decide +kernel, rfl⟩
theorem dX11_soonestFirst_39 : dc cX11_soonestFirst 39 (.ireturn) 1 40 := ⟨by decide +kernel, rfl⟩
theorem dX11_soonestFirst_40 : dc cX11_soonestFirst 40 (.aload_n 0) 1 41 := ⟨by decide +kernel, rfl⟩
theorem dX11_soonestFirst_41 : dc cX11_soonestFirst 41 (.aload_n 0) 1 42 := ⟨by decide +kernel, rfl⟩
theorem dX11_soonestFirst_42 : dc cX11_soonestFirst 42 (.getfield 53) 3 45 := ⟨by decide +kernel, rfl⟩
theorem dX11_soonestFirst_45 : dc cX11_soonestFirst 45 (.aload_n 0) 1 46 := ⟨by decide +kernel, rfl⟩
theorem dX11_soonestFirst_46 : dc cX11_soonestFirst 46 (.getfield 72) 3 49 := ⟨by decide +kernel, rfl⟩
theorem dX11_soonestFirst_49 : dc cX11_soonestFirst 49 (.iload_n 1) 1 50 := ⟨by decide +kernel, rfl⟩
theorem dX11_soonestFirst_50 : dc cX11_soonestFirst 50 (.iload_n 2) 1 51 := ⟨by decide +kernel, rfl⟩
theorem dX11_soonestFirst_51 : dc cX11_soonestFirst 51 (.invokevirtual 362) 3 54 := ⟨by decide +kernel, rfl⟩
theorem dX11_soonestFirst_54 : dc cX11_soonestFirst 54 (.invokevirtual 263) 3 57 := ⟨by decide +kernel, rfl⟩
theorem dX11_soonestFirst_57 : dc cX11_soonestFirst 57 (.ireturn) 1 58 := ⟨by decide +kernel, rfl⟩
theorem nm_X11_soonestFirst : (yX11_soonestFirst).cls ≠ "java/lang/invoke/MethodHandle" ∧ (yX11_soonestFirst).cls ≠ "java/lang/invoke/VarHandle" ∧ (parseMethodDescriptor (yX11_soonestFirst).desc).map (fun d => d.parameters.length) = some 2 := ⟨by decide +kernel, by decide +kernel, by decide +kernel⟩
set_option maxRecDepth 100000 in
set_option maxHeartbeats 4000000 in
theorem c_X11_soonestFirst {l : Launch} {ad : Nat → Nat} {cy : Nat → ClassId} {D : va_G} {z : Nat} (n : Nat) {a0 : Nat} {p1 : Int32} {p2 : Int32} {M : KM} {y : (Int32 × KM)} (h0 : kty a0 = 11) (hf : f_X11_soonestFirst n a0 p1 p2 M = some y) : KC l ad cy D z yX11_soonestFirst cX11_soonestFirst 4 (some .int) 8 [.ref (ad a0), .int p1, .int p2] M (some (.int y.1), y.2) := by
  refine kv_enter (by decide +kernel) (Nat.le_of_ble_eq_true rfl) ?_
  intro x hl hD hz G
  subst hl hD hz
  unfold f_X11_soonestFirst at hf
  have G : KG ad cy x cX11_soonestFirst "NoonGuides" 4 (some (some .int)) 8 := G
  show KV ad cy x (some (.int y.1), y.2) 0 [(0, .ref (ad a0)), (1, .int p1), (2, .int p2)] [] M
  refine v_aload_n G dX11_soonestFirst_0 0 rfl ?_
  refine v_iload_n G dX11_soonestFirst_1 1 rfl ?_
  refine v_iload_n G dX11_soonestFirst_2 2 rfl ?_
  obtain ⟨v1, hcv1, hf⟩ := bd_e hf
  refine v_callV [.int p1, .int p2] G (c_X11_whyNoWay n h0 hcv1) h0 (by decide) rfl rfl rfl t_767 t_769 t_p16 t_1 t_770 nm_X11_whyNoWay (by decide) (by decide) rfl rfl (Nat.le_of_ble_eq_true rfl) dX11_soonestFirst_3 (kv_ri ?_)
  refine v_istore_n [(3, .int v1), (0, .ref (ad a0)), (1, .int p1), (2, .int p2)] G dX11_soonestFirst_6 (by decide) rfl ?_
  refine v_iload_n G dX11_soonestFirst_7 0 rfl ?_
  refine v_if_eq 17 G dX11_soonestFirst_8 (by decide) (fun h10 => ?_) (fun h10 => ?_)
  · replace hf := (if_pos h10).symm.trans hf
    refine v_aload_n G dX11_soonestFirst_17 1 rfl ?_
    refine gf_11_10 G h0 t_467 (Or.inl rfl) dX11_soonestFirst_18 ?_
    refine v_kt (fun hKT => ?_)
    have hk2 := hKT.1 _ h0
    refine gf_2_5 G hk2 t_375 (Or.inl rfl) dX11_soonestFirst_21 ?_
    refine v_iload_n G dX11_soonestFirst_24 2 rfl ?_
    obtain ⟨g3, hf⟩ := gd_e hf
    refine al_Person G (kf_2_6 hk2) g3 dX11_soonestFirst_25 ?_
    refine gf_7_5 G (ke_Person (kf_2_6 hk2) (ix_lt g3)) t_323 (Or.inl rfl) dX11_soonestFirst_26 ?_
    refine v_iload_n G dX11_soonestFirst_29 3 rfl ?_
    refine v_icmp_ne 40 G dX11_soonestFirst_30 (by decide) (fun h8 => ?_) (fun h8 => ?_)
    · replace hf := (if_neg h8).symm.trans hf
      refine v_aload_n G dX11_soonestFirst_40 1 rfl ?_
      refine v_aload_n G dX11_soonestFirst_41 1 rfl ?_
      refine gf_11_7 G h0 t_464 (Or.inl rfl) dX11_soonestFirst_42 ?_
      refine v_aload_n G dX11_soonestFirst_45 1 rfl ?_
      refine gf_11_10 G h0 t_467 (Or.inl rfl) dX11_soonestFirst_46 ?_
      refine v_kt (fun hKT => ?_)
      have hk4 := hKT.1 _ h0
      refine v_iload_n G dX11_soonestFirst_49 2 rfl ?_
      refine v_iload_n G dX11_soonestFirst_50 3 rfl ?_
      obtain ⟨v5, hcv5, hf⟩ := bd_e hf
      refine v_callV [.ref (ad (M.2.2 a0 10)), .int p1, .int p2] G (c_X6_firstPlaceTo n (kf_11_14 h0) hk4 hcv5) (kf_11_14 h0) (by decide) rfl rfl rfl t_805 t_806 t_807 t_10 t_808 nm_X6_firstPlaceTo (by decide) (by decide) rfl rfl (Nat.le_of_ble_eq_true rfl) dX11_soonestFirst_51 (kv_ri ?_)
      obtain ⟨v6, hcv6⟩ : ∃ q, f_X11_tellOrNone a0 v5.1 v5.2 = q := ⟨_, rfl⟩
      replace hf := lt_e hf hcv6.symm
      refine v_callV [.int v5.1] G (c_X11_tellOrNone h0 hcv6) h0 (by decide) rfl rfl rfl t_577 t_579 t_p3 t_1 t_580 nm_X11_tellOrNone (by decide) (by decide) rfl rfl (Nat.le_of_ble_eq_true rfl) dX11_soonestFirst_54 (kv_ri ?_)
      obtain rfl := Option.some.inj hf
      exact v_iret G dX11_soonestFirst_57
    · replace hf := (if_pos h8).symm.trans hf
      refine v_aload_n G dX11_soonestFirst_33 1 rfl ?_
      refine v_bipush (9 : Int32) G dX11_soonestFirst_34 (by decide) ?_
      obtain ⟨v7, hcv7⟩ : ∃ q, f_X11_refuse a0 (9 : Int32) M = q := ⟨_, rfl⟩
      replace hf := lt_e hf hcv7.symm
      refine v_callV [.int (9 : Int32)] G (c_X11_refuse h0 hcv7) h0 (by decide) rfl rfl rfl t_557 t_559 t_p2 t_1 t_560 nm_X11_refuse (by decide) (by decide) rfl rfl (Nat.le_of_ble_eq_true rfl) dX11_soonestFirst_36 (kv_ri ?_)
      obtain rfl := Option.some.inj hf
      exact v_iret G dX11_soonestFirst_39
  · replace hf := (if_neg h10).symm.trans hf
    refine v_aload_n G dX11_soonestFirst_11 1 rfl ?_
    refine v_iload_n G dX11_soonestFirst_12 0 rfl ?_
    obtain ⟨v9, hcv9⟩ : ∃ q, f_X11_refuse a0 v1 M = q := ⟨_, rfl⟩
    replace hf := lt_e hf hcv9.symm
    refine v_callV [.int v1] G (c_X11_refuse h0 hcv9) h0 (by decide) rfl rfl rfl t_557 t_559 t_p2 t_1 t_560 nm_X11_refuse (by decide) (by decide) rfl rfl (Nat.le_of_ble_eq_true rfl) dX11_soonestFirst_13 (kv_ri ?_)
    obtain rfl := Option.some.inj hf
    exact v_iret G dX11_soonestFirst_16
abbrev cX11_whyNoTwoAtPlaces : ByteArray := prog_1_method_61_code
def yX11_whyNoTwoAtPlaces : MethodName := ⟨RX11, "whyNoTwoAtPlaces", "(II)I"⟩
theorem dX11_whyNoTwoAtPlaces_0 : dc cX11_whyNoTwoAtPlaces 0 (.aload_n 0) 1 1 := ⟨by decide +kernel, rfl⟩
theorem dX11_whyNoTwoAtPlaces_1 : dc cX11_whyNoTwoAtPlaces 1 (.iload_n 1) 1 2 := ⟨by decide +kernel, rfl⟩
theorem dX11_whyNoTwoAtPlaces_2 : dc cX11_whyNoTwoAtPlaces 2 (.iload_n 2) 1 3 := ⟨by decide +kernel, rfl⟩
theorem dX11_whyNoTwoAtPlaces_3 : dc cX11_whyNoTwoAtPlaces 3 (.invokevirtual 296) 3 6 := ⟨by decide +kernel, rfl⟩
theorem dX11_whyNoTwoAtPlaces_6 : dc cX11_whyNoTwoAtPlaces 6 (.istore_n 3) 1 7 := ⟨by decide +kernel, rfl⟩
theorem dX11_whyNoTwoAtPlaces_7 : dc cX11_whyNoTwoAtPlaces 7 (.iload_n 3) 1 8 := ⟨by decide +kernel, rfl⟩
theorem dX11_whyNoTwoAtPlaces_8 : dc cX11_whyNoTwoAtPlaces 8 (.ifCond .eq 5) 3 11 := ⟨by decide +kernel, rfl⟩
theorem dX11_whyNoTwoAtPlaces_11 : dc cX11_whyNoTwoAtPlaces 11 (.iload_n 3) 1 12 := ⟨by decide +kernel, rfl⟩
theorem dX11_whyNoTwoAtPlaces_12 : dc cX11_whyNoTwoAtPlaces 12 (.ireturn) 1 13 := ⟨by decide +kernel, rfl⟩
theorem dX11_whyNoTwoAtPlaces_13 : dc cX11_whyNoTwoAtPlaces 13 (.aload_n 0) 1 14 := ⟨by decide +kernel, rfl⟩
theorem dX11_whyNoTwoAtPlaces_14 : dc cX11_whyNoTwoAtPlaces 14 (.iload_n 1) 1 15 := ⟨by decide +kernel, rfl⟩
theorem dX11_whyNoTwoAtPlaces_15 : dc cX11_whyNoTwoAtPlaces 15 (.invokevirtual 343) 3 18 := ⟨by decide +kernel, rfl⟩
theorem dX11_whyNoTwoAtPlaces_18 : dc cX11_whyNoTwoAtPlaces 18 (.aload_n 0) 1 19 := ⟨by decide +kernel, rfl⟩
theorem dX11_whyNoTwoAtPlaces_19 : dc cX11_whyNoTwoAtPlaces 19 (.iload_n 2) 1 20 := ⟨by decide +kernel, rfl⟩
theorem dX11_whyNoTwoAtPlaces_20 : dc cX11_whyNoTwoAtPlaces 20 (.invokevirtual 343) 3 23 := ⟨by decide +kernel, rfl⟩
theorem dX11_whyNoTwoAtPlaces_23 : dc cX11_whyNoTwoAtPlaces 23 (.invokestatic 389) 3 26 := ⟨by decide +kernel, rfl⟩
theorem dX11_whyNoTwoAtPlaces_26 : dc cX11_whyNoTwoAtPlaces 26 (.ireturn) 1 27 := ⟨by decide +kernel, rfl⟩
theorem nm_X11_whyNoTwoAtPlaces : (yX11_whyNoTwoAtPlaces).cls ≠ "java/lang/invoke/MethodHandle" ∧ (yX11_whyNoTwoAtPlaces).cls ≠ "java/lang/invoke/VarHandle" ∧ (parseMethodDescriptor (yX11_whyNoTwoAtPlaces).desc).map (fun d => d.parameters.length) = some 2 := ⟨by decide +kernel, by decide +kernel, by decide +kernel⟩
set_option maxRecDepth 100000 in
set_option maxHeartbeats 4000000 in
theorem c_X11_whyNoTwoAtPlaces {l : Launch} {ad : Nat → Nat} {cy : Nat → ClassId} {D : va_G} {z : Nat} (n : Nat) {a0 : Nat} {p1 : Int32} {p2 : Int32} {M : KM} {y : Int32} (h0 : kty a0 = 11) (hf : f_X11_whyNoTwoAtPlaces n a0 p1 p2 M = some y) : KC l ad cy D z yX11_whyNoTwoAtPlaces cX11_whyNoTwoAtPlaces 4 (some .int) 3 [.ref (ad a0), .int p1, .int p2] M (some (.int y), M) := by
  refine kv_enter (by decide +kernel) (Nat.le_of_ble_eq_true rfl) ?_
  intro x hl hD hz G
  subst hl hD hz
  unfold f_X11_whyNoTwoAtPlaces at hf
  have G : KG ad cy x cX11_whyNoTwoAtPlaces "NoonGuides" 4 (some (some .int)) 3 := G
  show KV ad cy x (some (.int y), M) 0 [(0, .ref (ad a0)), (1, .int p1), (2, .int p2)] [] M
  refine v_aload_n G dX11_whyNoTwoAtPlaces_0 0 rfl ?_
  refine v_iload_n G dX11_whyNoTwoAtPlaces_1 1 rfl ?_
  refine v_iload_n G dX11_whyNoTwoAtPlaces_2 2 rfl ?_
  obtain ⟨v1, hcv1⟩ : ∃ q, f_X11_whyNoTwo a0 p1 p2 M = q := ⟨_, rfl⟩
  replace hf := lt_e hf hcv1.symm
  refine v_callV [.int p1, .int p2] G (c_X11_whyNoTwo h0 hcv1) h0 (by decide) rfl rfl rfl t_598 t_600 t_p4 t_1 t_601 nm_X11_whyNoTwo (by decide) (by decide) rfl rfl (Nat.le_of_ble_eq_true rfl) dX11_whyNoTwoAtPlaces_3 (kv_ri ?_)
  refine v_istore_n [(3, .int v1), (0, .ref (ad a0)), (1, .int p1), (2, .int p2)] G dX11_whyNoTwoAtPlaces_6 (by decide) rfl ?_
  refine v_iload_n G dX11_whyNoTwoAtPlaces_7 0 rfl ?_
  refine v_if_eq 13 G dX11_whyNoTwoAtPlaces_8 (by decide) (fun h5 => ?_) (fun h5 => ?_)
  · replace hf := (if_pos h5).symm.trans hf
    refine v_aload_n G dX11_whyNoTwoAtPlaces_13 1 rfl ?_
    refine v_iload_n G dX11_whyNoTwoAtPlaces_14 2 rfl ?_
    obtain ⟨v2, hcv2, hf⟩ := bd_e hf
    refine v_callV [.int p1] G (c_X11_whyNotAtPlace n h0 hcv2) h0 (by decide) rfl rfl rfl t_754 t_756 t_p15 t_1 t_757 nm_X11_whyNotAtPlace (by decide) (by decide) rfl rfl (Nat.le_of_ble_eq_true rfl) dX11_whyNoTwoAtPlaces_15 (kv_ri ?_)
    refine v_aload_n G dX11_whyNoTwoAtPlaces_18 1 rfl ?_
    refine v_iload_n G dX11_whyNoTwoAtPlaces_19 3 rfl ?_
    obtain ⟨v3, hcv3, hf⟩ := bd_e hf
    refine v_callV [.int p2] G (c_X11_whyNotAtPlace n h0 hcv3) h0 (by decide) rfl rfl rfl t_754 t_756 t_p15 t_1 t_757 nm_X11_whyNotAtPlace (by decide) (by decide) rfl rfl (Nat.le_of_ble_eq_true rfl) dX11_whyNoTwoAtPlaces_20 (kv_ri ?_)
    refine v_mmax G (by decide) t_819 t_820 t_17 t_821 (Nat.le_of_ble_eq_true rfl) dX11_whyNoTwoAtPlaces_23 ?_
    refine v_nmi (fun v4 ev4 => ?_)
    replace hf := lt_e hf ev4
    obtain rfl := Option.some.inj hf
    exact v_iret G dX11_whyNoTwoAtPlaces_26
  · replace hf := (if_neg h5).symm.trans hf
    refine v_iload_n G dX11_whyNoTwoAtPlaces_11 0 rfl ?_
    obtain rfl := Option.some.inj hf
    exact v_iret G dX11_whyNoTwoAtPlaces_12
abbrev cX11_soonestTwo : ByteArray := prog_1_method_54_code
def yX11_soonestTwo : MethodName := ⟨RX11, "soonestTwo", "(III)I"⟩
theorem dX11_soonestTwo_0 : dc cX11_soonestTwo 0 (.aload_n 0) 1 1 := ⟨by decide +kernel, rfl⟩
theorem dX11_soonestTwo_1 : dc cX11_soonestTwo 1 (.getfield 72) 3 4 := ⟨by decide +kernel, rfl⟩
theorem dX11_soonestTwo_4 : dc cX11_soonestTwo 4 (.iload_n 3) 1 5 := ⟨by decide +kernel, rfl⟩
theorem dX11_soonestTwo_5 : dc cX11_soonestTwo 5 (.invokevirtual 257) 3 8 := ⟨by decide +kernel, rfl⟩
theorem dX11_soonestTwo_8 : dc cX11_soonestTwo 8 (.ifCond .ne 9) 3 11 := ⟨by decide +kernel, rfl⟩
theorem dX11_soonestTwo_11 : dc cX11_soonestTwo 11 (.aload_n 0) 1 12 := ⟨by decide +kernel, rfl⟩
theorem dX11_soonestTwo_12 : dc cX11_soonestTwo 12 (.iconst 2) 1 13 := ⟨by decide +kernel, rfl⟩
theorem dX11_soonestTwo_13 : dc cX11_soonestTwo 13 (.invokevirtual 104) 3 16 := ⟨by decide +kernel, rfl⟩
theorem dX11_soonestTwo_16 : dc cX11_soonestTwo 16 (.ireturn) 1 17 := ⟨by decide +kernel, rfl⟩
theorem dX11_soonestTwo_17 : dc cX11_soonestTwo 17 (.aload_n 0) 1 18 := ⟨by decide +kernel, rfl⟩
theorem dX11_soonestTwo_18 : dc cX11_soonestTwo 18 (.iload_n 1) 1 19 := ⟨by decide +kernel, rfl⟩
theorem dX11_soonestTwo_19 : dc cX11_soonestTwo 19 (.iload_n 2) 1 20 := ⟨by decide +kernel, rfl⟩
theorem dX11_soonestTwo_20 : dc cX11_soonestTwo 20 (.invokevirtual 366) 3 23 := ⟨by decide +kernel, rfl⟩
theorem dX11_soonestTwo_23 : dc cX11_soonestTwo 23 (.istore 4) 2 25 := ⟨by decide +kernel, rfl⟩
theorem dX11_soonestTwo_25 : dc cX11_soonestTwo 25 (.iload 4) 2 27 := ⟨by decide +kernel, rfl⟩
theorem dX11_soonestTwo_27 : dc cX11_soonestTwo 27 (.ifCond .eq 10) 3 30 := ⟨by decide +kernel, rfl⟩
theorem dX11_soonestTwo_30 : dc cX11_soonestTwo 30 (.aload_n 0) 1 31 := ⟨by decide +kernel, rfl⟩
theorem dX11_soonestTwo_31 : dc cX11_soonestTwo 31 (.iload 4) 2 33 := ⟨by decide +kernel, rfl⟩
theorem dX11_soonestTwo_33 : dc cX11_soonestTwo 33 (.invokevirtual 104) 3 36 := ⟨by decide +kernel, rfl⟩
theorem dX11_soonestTwo_36 : dc cX11_soonestTwo 36 (.ireturn) 1 37 := ⟨by decide +kernel, rfl⟩
theorem dX11_soonestTwo_37 : dc cX11_soonestTwo 37 (.aload_n 0) 1 38 := ⟨by decide +kernel, rfl⟩
theorem dX11_soonestTwo_38 : dc cX11_soonestTwo 38 (.getfield 72) 3 41 := ⟨by decide +kernel, rfl⟩
theorem dX11_soonestTwo_41 : dc cX11_soonestTwo 41 (.getfield 269) 3 44 := ⟨by decide +kernel, rfl⟩
theorem dX11_soonestTwo_44 : dc cX11_soonestTwo 44 (.iload_n 1) 1 45 := ⟨by decide +kernel, rfl⟩
theorem dX11_soonestTwo_45 : dc cX11_soonestTwo 45 (.aaload) 1 46 := ⟨by decide +kernel, rfl⟩
theorem dX11_soonestTwo_46 : dc cX11_soonestTwo 46 (.getfield 273) 3 49 := ⟨by decide +kernel, rfl⟩
theorem dX11_soonestTwo_49 : dc cX11_soonestTwo 49 (.aload_n 0) 1 50 := ⟨by decide +kernel, rfl⟩
theorem dX11_soonestTwo_50 : dc cX11_soonestTwo 50 (.getfield 72) 3 53 := ⟨by decide +kernel, rfl⟩
theorem dX11_soonestTwo_53 : dc cX11_soonestTwo 53 (.getfield 269) 3 56 := ⟨by decide +kernel, rfl⟩
theorem dX11_soonestTwo_56 : dc cX11_soonestTwo 56 (.iload_n 2) 1 57 := ⟨by decide +kernel, rfl⟩
theorem dX11_soonestTwo_57 : dc cX11_soonestTwo 57 (.aaload) 1 58 := ⟨by decide +kernel, rfl⟩
theorem dX11_soonestTwo_58 : dc cX11_soonestTwo 58 (.getfield 273) 3 61 := ⟨by decide +kernel, rfl⟩
theorem dX11_soonestTwo_61 : dc cX11_soonestTwo 61 (.if_icmp .eq 10) 3 64 := ⟨by decide +kernel, rfl⟩
theorem dX11_soonestTwo_64 : dc cX11_soonestTwo 64 (.aload_n 0) 1 65 := ⟨by decide +kernel, rfl⟩
theorem dX11_soonestTwo_65 : dc cX11_soonestTwo 65 (.bipush 9) 2 67 := ⟨by decide +kernel, rfl⟩
theorem dX11_soonestTwo_67 : dc cX11_soonestTwo 67 (.invokevirtual 104) 3 70 := ⟨by decide +kernel, rfl⟩
theorem dX11_soonestTwo_70 : dc cX11_soonestTwo 70 (.ireturn) 1 71 := ⟨by decide +kernel, rfl⟩
theorem dX11_soonestTwo_71 : dc cX11_soonestTwo 71 (.aload_n 0) 1 72 := ⟨by decide +kernel, rfl⟩
theorem dX11_soonestTwo_72 : dc cX11_soonestTwo 72 (.aload_n 0) 1 73 := ⟨by decide +kernel, rfl⟩
theorem dX11_soonestTwo_73 : dc cX11_soonestTwo 73 (.getfield 53) 3 76 := ⟨by decide +kernel, rfl⟩
theorem dX11_soonestTwo_76 : dc cX11_soonestTwo 76 (.aload_n 0) 1 77 := ⟨by decide +kernel, rfl⟩
theorem dX11_soonestTwo_77 : dc cX11_soonestTwo 77 (.getfield 72) 3 80 := ⟨by decide +kernel, rfl⟩
theorem dX11_soonestTwo_80 : dc cX11_soonestTwo 80 (.iload_n 1) 1 81 := ⟨by decide +kernel, rfl⟩
theorem dX11_soonestTwo_81 : dc cX11_soonestTwo 81 (.iload_n 2) 1 82 := ⟨by decide +kernel, rfl⟩
theorem dX11_soonestTwo_82 : dc cX11_soonestTwo 82 (.iload_n 3) 1 83 := ⟨by decide +kernel, rfl⟩
theorem dX11_soonestTwo_83 : dc cX11_soonestTwo 83 (.invokevirtual 355) 3 86 := ⟨by decide +kernel, rfl⟩
theorem dX11_soonestTwo_86 : dc cX11_soonestTwo 86 (.invokevirtual 359) 3 89 := ⟨by decide +kernel, rfl⟩
theorem dX11_soonestTwo_89 : dc cX11_soonestTwo 89 (.ireturn) 1 90 := ⟨by decide +kernel, rfl⟩
theorem nm_X11_soonestTwo : (yX11_soonestTwo).cls ≠ "java/lang/invoke/MethodHandle" ∧ (yX11_soonestTwo).cls ≠ "java/lang/invoke/VarHandle" ∧ (parseMethodDescriptor (yX11_soonestTwo).desc).map (fun d => d.parameters.length) = some 3 := ⟨by decide +kernel, by decide +kernel, by decide +kernel⟩
set_option maxRecDepth 100000 in
set_option maxHeartbeats 4000000 in
theorem c_X11_soonestTwo {l : Launch} {ad : Nat → Nat} {cy : Nat → ClassId} {D : va_G} {z : Nat} (n : Nat) {a0 : Nat} {p1 : Int32} {p2 : Int32} {p3 : Int32} {M : KM} {y : (Int32 × KM)} (h0 : kty a0 = 11) (hf : f_X11_soonestTwo n a0 p1 p2 p3 M = some y) : KC l ad cy D z yX11_soonestTwo cX11_soonestTwo 5 (some .int) 7 [.ref (ad a0), .int p1, .int p2, .int p3] M (some (.int y.1), y.2) := by
  refine kv_enter (by decide +kernel) (Nat.le_of_ble_eq_true rfl) ?_
  intro x hl hD hz G
  subst hl hD hz
  unfold f_X11_soonestTwo at hf
  have G : KG ad cy x cX11_soonestTwo "NoonGuides" 5 (some (some .int)) 7 := G
  show KV ad cy x (some (.int y.1), y.2) 0 [(0, .ref (ad a0)), (1, .int p1), (2, .int p2), (3, .int p3)] [] M
  refine v_aload_n G dX11_soonestTwo_0 0 rfl ?_
  refine gf_11_10 G h0 t_467 (Or.inl rfl) dX11_soonestTwo_1 ?_
  refine v_kt (fun hKT => ?_)
  have hk1 := hKT.1 _ h0
  refine v_iload_n G dX11_soonestTwo_4 3 rfl ?_
  obtain ⟨v2, hcv2⟩ : ∃ q, f_X2_hasPlace (M.2.2 a0 10) p3 M = q := ⟨_, rfl⟩
  replace hf := lt_e hf hcv2.symm
  refine v_callV [.int p3] G (c_X2_hasPlace hk1 hcv2) hk1 (by decide) rfl rfl rfl t_565 t_566 t_567 t_13 t_568 nm_X2_hasPlace (by decide) (by decide) rfl rfl (Nat.le_of_ble_eq_true rfl) dX11_soonestTwo_5 (kv_ri ?_)
  refine v_if_ne 17 G dX11_soonestTwo_8 (by decide) (fun h16 => ?_) (fun h16 => ?_)
  · replace hf := (if_neg h16).symm.trans hf
    refine v_aload_n G dX11_soonestTwo_17 0 rfl ?_
    refine v_iload_n G dX11_soonestTwo_18 1 rfl ?_
    refine v_iload_n G dX11_soonestTwo_19 2 rfl ?_
    obtain ⟨v3, hcv3, hf⟩ := bd_e hf
    refine v_callV [.int p1, .int p2] G (c_X11_whyNoTwoAtPlaces n h0 hcv3) h0 (by decide) rfl rfl rfl t_815 t_817 t_p20 t_1 t_818 nm_X11_whyNoTwoAtPlaces (by decide) (by decide) rfl rfl (Nat.le_of_ble_eq_true rfl) dX11_soonestTwo_20 (kv_ri ?_)
    refine v_istore [(4, .int v3), (0, .ref (ad a0)), (1, .int p1), (2, .int p2), (3, .int p3)] G dX11_soonestTwo_23 (by decide) rfl ?_
    refine v_iload G dX11_soonestTwo_25 0 rfl ?_
    refine v_if_eq 37 G dX11_soonestTwo_27 (by decide) (fun h14 => ?_) (fun h14 => ?_)
    · replace hf := (if_pos h14).symm.trans hf
      refine v_aload_n G dX11_soonestTwo_37 1 rfl ?_
      refine gf_11_10 G h0 t_467 (Or.inl rfl) dX11_soonestTwo_38 ?_
      refine v_kt (fun hKT => ?_)
      have hk4 := hKT.1 _ h0
      refine gf_2_5 G hk4 t_375 (Or.inl rfl) dX11_soonestTwo_41 ?_
      refine v_iload_n G dX11_soonestTwo_44 2 rfl ?_
      obtain ⟨g5, hf⟩ := gd_e hf
      refine al_Person G (kf_2_6 hk4) g5 dX11_soonestTwo_45 ?_
      refine gf_7_5 G (ke_Person (kf_2_6 hk4) (ix_lt g5)) t_323 (Or.inl rfl) dX11_soonestTwo_46 ?_
      refine v_aload_n G dX11_soonestTwo_49 1 rfl ?_
      refine gf_11_10 G h0 t_467 (Or.inl rfl) dX11_soonestTwo_50 ?_
      refine v_kt (fun hKT => ?_)
      have hk6 := hKT.1 _ h0
      refine gf_2_5 G hk6 t_375 (Or.inl rfl) dX11_soonestTwo_53 ?_
      refine v_iload_n G dX11_soonestTwo_56 3 rfl ?_
      obtain ⟨g7, hf⟩ := gd_e hf
      refine al_Person G (kf_2_6 hk6) g7 dX11_soonestTwo_57 ?_
      refine gf_7_5 G (ke_Person (kf_2_6 hk6) (ix_lt g7)) t_323 (Or.inl rfl) dX11_soonestTwo_58 ?_
      refine v_icmp_eq 71 G dX11_soonestTwo_61 (by decide) (fun h12 => ?_) (fun h12 => ?_)
      · replace hf := (if_pos h12).symm.trans hf
        refine v_aload_n G dX11_soonestTwo_71 1 rfl ?_
        refine v_aload_n G dX11_soonestTwo_72 1 rfl ?_
        refine gf_11_7 G h0 t_464 (Or.inl rfl) dX11_soonestTwo_73 ?_
        refine v_aload_n G dX11_soonestTwo_76 1 rfl ?_
        refine gf_11_10 G h0 t_467 (Or.inl rfl) dX11_soonestTwo_77 ?_
        refine v_kt (fun hKT => ?_)
        have hk8 := hKT.1 _ h0
        refine v_iload_n G dX11_soonestTwo_80 2 rfl ?_
        refine v_iload_n G dX11_soonestTwo_81 3 rfl ?_
        refine v_iload_n G dX11_soonestTwo_82 4 rfl ?_
        obtain ⟨v9, hcv9, hf⟩ := bd_e hf
        refine v_callV [.ref (ad (M.2.2 a0 10)), .int p1, .int p2, .int p3] G (c_X6_minutesTo n (kf_11_14 h0) hk8 hcv9) (kf_11_14 h0) (by decide) rfl rfl rfl t_771 t_772 t_773 t_10 t_774 nm_X6_minutesTo (by decide) (by decide) rfl rfl (Nat.le_of_ble_eq_true rfl) dX11_soonestTwo_83 (kv_ri ?_)
        obtain ⟨v10, hcv10⟩ : ∃ q, f_X11_tellSooner a0 v9.1 v9.2 = q := ⟨_, rfl⟩
        replace hf := lt_e hf hcv10.symm
        refine v_callV [.int v9.1] G (c_X11_tellSooner h0 hcv10) h0 (by decide) rfl rfl rfl t_796 t_798 t_p19 t_1 t_799 nm_X11_tellSooner (by decide) (by decide) rfl rfl (Nat.le_of_ble_eq_true rfl) dX11_soonestTwo_86 (kv_ri ?_)
        obtain rfl := Option.some.inj hf
        exact v_iret G dX11_soonestTwo_89
      · replace hf := (if_neg h12).symm.trans hf
        refine v_aload_n G dX11_soonestTwo_64 1 rfl ?_
        refine v_bipush (9 : Int32) G dX11_soonestTwo_65 (by decide) ?_
        obtain ⟨v11, hcv11⟩ : ∃ q, f_X11_refuse a0 (9 : Int32) M = q := ⟨_, rfl⟩
        replace hf := lt_e hf hcv11.symm
        refine v_callV [.int (9 : Int32)] G (c_X11_refuse h0 hcv11) h0 (by decide) rfl rfl rfl t_557 t_559 t_p2 t_1 t_560 nm_X11_refuse (by decide) (by decide) rfl rfl (Nat.le_of_ble_eq_true rfl) dX11_soonestTwo_67 (kv_ri ?_)
        obtain rfl := Option.some.inj hf
        exact v_iret G dX11_soonestTwo_70
    · replace hf := (if_neg h14).symm.trans hf
      refine v_aload_n G dX11_soonestTwo_30 1 rfl ?_
      refine v_iload G dX11_soonestTwo_31 0 rfl ?_
      obtain ⟨v13, hcv13⟩ : ∃ q, f_X11_refuse a0 v3 M = q := ⟨_, rfl⟩
      replace hf := lt_e hf hcv13.symm
      refine v_callV [.int v3] G (c_X11_refuse h0 hcv13) h0 (by decide) rfl rfl rfl t_557 t_559 t_p2 t_1 t_560 nm_X11_refuse (by decide) (by decide) rfl rfl (Nat.le_of_ble_eq_true rfl) dX11_soonestTwo_33 (kv_ri ?_)
      obtain rfl := Option.some.inj hf
      exact v_iret G dX11_soonestTwo_36
  · replace hf := (if_pos h16).symm.trans hf
    refine v_aload_n G dX11_soonestTwo_11 0 rfl ?_
    refine v_iconst (2 : Int32) G dX11_soonestTwo_12 (by decide) ?_
    obtain ⟨v15, hcv15⟩ : ∃ q, f_X11_refuse a0 (2 : Int32) M = q := ⟨_, rfl⟩
    replace hf := lt_e hf hcv15.symm
    refine v_callV [.int (2 : Int32)] G (c_X11_refuse h0 hcv15) h0 (by decide) rfl rfl rfl t_557 t_559 t_p2 t_1 t_560 nm_X11_refuse (by decide) (by decide) rfl rfl (Nat.le_of_ble_eq_true rfl) dX11_soonestTwo_13 (kv_ri ?_)
    obtain rfl := Option.some.inj hf
    exact v_iret G dX11_soonestTwo_16
abbrev cX11_meet : ByteArray := prog_1_method_55_code
def yX11_meet : MethodName := ⟨RX11, "meet", "(II)I"⟩
theorem dX11_meet_0 : dc cX11_meet 0 (.aload_n 0) 1 1 := ⟨by decide +kernel, rfl⟩
theorem dX11_meet_1 : dc cX11_meet 1 (.iload_n 1) 1 2 := ⟨by decide +kernel, rfl⟩
theorem dX11_meet_2 : dc cX11_meet 2 (.iload_n 2) 1 3 := ⟨by decide +kernel, rfl⟩
theorem dX11_meet_3 : dc cX11_meet 3 (.invokevirtual 366) 3 6 := ⟨by decide +kernel, rfl⟩
theorem dX11_meet_6 : dc cX11_meet 6 (.istore_n 3) 1 7 := ⟨by decide +kernel, rfl⟩
theorem dX11_meet_7 : dc cX11_meet 7 (.iload_n 3) 1 8 := ⟨by decide +kernel, rfl⟩
theorem dX11_meet_8 : dc cX11_meet 8 (.ifCond .eq 9) 3 11 := ⟨by decide +kernel, rfl⟩
theorem dX11_meet_11 : dc cX11_meet 11 (.aload_n 0) 1 12 := ⟨by decide +kernel, rfl⟩
theorem dX11_meet_12 : dc cX11_meet 12 (.iload_n 3) 1 13 := ⟨by decide +kernel, rfl⟩
theorem dX11_meet_13 : dc cX11_meet 13 (.invokevirtual 104) 3 16 := ⟨by decide +kernel, rfl⟩
theorem dX11_meet_16 : dc cX11_meet 16 (.ireturn) 1 17 := ⟨by decide +kernel, rfl⟩
theorem dX11_meet_17 : dc cX11_meet 17 (.aload_n 0) 1 18 := ⟨by decide +kernel, rfl⟩
theorem dX11_meet_18 : dc cX11_meet 18 (.getfield 53) 3 21 := ⟨by decide +kernel, rfl⟩
theorem dX11_meet_21 : dc cX11_meet 21 (.aload_n 0) 1 22 := ⟨by decide +kernel, rfl⟩
theorem dX11_meet_22 : dc cX11_meet 22 (.getfield 72) 3 25 := ⟨by decide +kernel, rfl⟩
theorem dX11_meet_25 : dc cX11_meet 25 (.iload_n 1) 1 26 := ⟨by decide +kernel, rfl⟩
theorem dX11_meet_26 : dc cX11_meet 26 (.iload_n 2) 1 27 := ⟨by decide +kernel, rfl⟩
theorem dX11_meet_27 : dc cX11_meet 27 (.invokevirtual 369) 3 30 := ⟨by decide +kernel, rfl⟩
theorem dX11_meet_30 : dc cX11_meet 30 (.aload_n 0) 1 31 := ⟨by decide +kernel, rfl⟩
theorem dX11_meet_31 : dc cX11_meet 31 (.aload_n 0) 1 32 := ⟨by decide +kernel, rfl⟩
theorem dX11_meet_32 : dc cX11_meet 32 (.getfield 53) 3 35 := ⟨by decide +kernel, rfl⟩
theorem dX11_meet_35 : dc cX11_meet 35 (.getfield 373) 3 38 := ⟨by decide +kernel, rfl⟩
theorem dX11_meet_38 : dc cX11_meet 38 (.invokevirtual 263) 3 41 := ⟨by decide +kernel, rfl⟩
theorem dX11_meet_41 : dc cX11_meet 41 (.ireturn) 1 42 := ⟨by decide +kernel, rfl⟩
theorem nm_X11_meet : (yX11_meet).cls ≠ "java/lang/invoke/MethodHandle" ∧ (yX11_meet).cls ≠ "java/lang/invoke/VarHandle" ∧ (parseMethodDescriptor (yX11_meet).desc).map (fun d => d.parameters.length) = some 2 := ⟨by decide +kernel, by decide +kernel, by decide +kernel⟩
set_option maxRecDepth 100000 in
set_option maxHeartbeats 4000000 in
theorem c_X11_meet {l : Launch} {ad : Nat → Nat} {cy : Nat → ClassId} {D : va_G} {z : Nat} (n : Nat) {a0 : Nat} {p1 : Int32} {p2 : Int32} {M : KM} {y : (Int32 × KM)} (h0 : kty a0 = 11) (hf : f_X11_meet n a0 p1 p2 M = some y) : KC l ad cy D z yX11_meet cX11_meet 4 (some .int) 7 [.ref (ad a0), .int p1, .int p2] M (some (.int y.1), y.2) := by
  refine kv_enter (by decide +kernel) (Nat.le_of_ble_eq_true rfl) ?_
  intro x hl hD hz G
  subst hl hD hz
  unfold f_X11_meet at hf
  have G : KG ad cy x cX11_meet "NoonGuides" 4 (some (some .int)) 7 := G
  show KV ad cy x (some (.int y.1), y.2) 0 [(0, .ref (ad a0)), (1, .int p1), (2, .int p2)] [] M
  refine v_aload_n G dX11_meet_0 0 rfl ?_
  refine v_iload_n G dX11_meet_1 1 rfl ?_
  refine v_iload_n G dX11_meet_2 2 rfl ?_
  obtain ⟨v1, hcv1, hf⟩ := bd_e hf
  refine v_callV [.int p1, .int p2] G (c_X11_whyNoTwoAtPlaces n h0 hcv1) h0 (by decide) rfl rfl rfl t_815 t_817 t_p20 t_1 t_818 nm_X11_whyNoTwoAtPlaces (by decide) (by decide) rfl rfl (Nat.le_of_ble_eq_true rfl) dX11_meet_3 (kv_ri ?_)
  refine v_istore_n [(3, .int v1), (0, .ref (ad a0)), (1, .int p1), (2, .int p2)] G dX11_meet_6 (by decide) rfl ?_
  refine v_iload_n G dX11_meet_7 0 rfl ?_
  refine v_if_eq 17 G dX11_meet_8 (by decide) (fun h6 => ?_) (fun h6 => ?_)
  · replace hf := (if_pos h6).symm.trans hf
    refine v_aload_n G dX11_meet_17 1 rfl ?_
    refine gf_11_7 G h0 t_464 (Or.inl rfl) dX11_meet_18 ?_
    refine v_aload_n G dX11_meet_21 1 rfl ?_
    refine gf_11_10 G h0 t_467 (Or.inl rfl) dX11_meet_22 ?_
    refine v_kt (fun hKT => ?_)
    have hk2 := hKT.1 _ h0
    refine v_iload_n G dX11_meet_25 2 rfl ?_
    refine v_iload_n G dX11_meet_26 3 rfl ?_
    obtain ⟨v3, hcv3, hf⟩ := bd_e hf
    refine v_callV [.ref (ad (M.2.2 a0 10)), .int p1, .int p2] G (c_X6_findMeeting n (kf_11_14 h0) hk2 hcv3) (kf_11_14 h0) (by decide) rfl rfl rfl t_826 t_827 t_828 t_10 t_829 nm_X6_findMeeting (by decide) (by decide) rfl rfl (Nat.le_of_ble_eq_true rfl) dX11_meet_27 (kv_rv ?_)
    refine v_aload_n G dX11_meet_30 1 rfl ?_
    refine v_aload_n G dX11_meet_31 1 rfl ?_
    refine gf_11_7 G h0 t_464 (Or.inl rfl) dX11_meet_32 ?_
    refine gf_6_4 G (kf_11_14 h0) t_204 (Or.inl rfl) dX11_meet_35 ?_
    obtain ⟨v4, hcv4⟩ : ∃ q, f_X11_tellOrNone a0 (v3.1 (a0 + 14) 4) v3 = q := ⟨_, rfl⟩
    replace hf := lt_e hf hcv4.symm
    refine v_callV [.int (v3.1 (a0 + 14) 4)] G (c_X11_tellOrNone h0 hcv4) h0 (by decide) rfl rfl rfl t_577 t_579 t_p3 t_1 t_580 nm_X11_tellOrNone (by decide) (by decide) rfl rfl (Nat.le_of_ble_eq_true rfl) dX11_meet_38 (kv_ri ?_)
    obtain rfl := Option.some.inj hf
    exact v_iret G dX11_meet_41
  · replace hf := (if_neg h6).symm.trans hf
    refine v_aload_n G dX11_meet_11 1 rfl ?_
    refine v_iload_n G dX11_meet_12 0 rfl ?_
    obtain ⟨v5, hcv5⟩ : ∃ q, f_X11_refuse a0 v1 M = q := ⟨_, rfl⟩
    replace hf := lt_e hf hcv5.symm
    refine v_callV [.int v1] G (c_X11_refuse h0 hcv5) h0 (by decide) rfl rfl rfl t_557 t_559 t_p2 t_1 t_560 nm_X11_refuse (by decide) (by decide) rfl rfl (Nat.le_of_ble_eq_true rfl) dX11_meet_13 (kv_ri ?_)
    obtain rfl := Option.some.inj hf
    exact v_iret G dX11_meet_16
abbrev cX11_meetIn : ByteArray := prog_1_method_56_code
def yX11_meetIn : MethodName := ⟨RX11, "meetIn", "(II)I"⟩
theorem dX11_meetIn_0 : dc cX11_meetIn 0 (.aload_n 0) 1 1 := ⟨by decide +kernel, rfl⟩
theorem dX11_meetIn_1 : dc cX11_meetIn 1 (.iload_n 1) 1 2 := ⟨by decide +kernel, rfl⟩
theorem dX11_meetIn_2 : dc cX11_meetIn 2 (.iload_n 2) 1 3 := ⟨by decide +kernel, rfl⟩
theorem dX11_meetIn_3 : dc cX11_meetIn 3 (.invokevirtual 366) 3 6 := ⟨by decide +kernel, rfl⟩
theorem dX11_meetIn_6 : dc cX11_meetIn 6 (.istore_n 3) 1 7 := ⟨by decide +kernel, rfl⟩
theorem dX11_meetIn_7 : dc cX11_meetIn 7 (.iload_n 3) 1 8 := ⟨by decide +kernel, rfl⟩
theorem dX11_meetIn_8 : dc cX11_meetIn 8 (.ifCond .eq 9) 3 11 := ⟨by decide +kernel, rfl⟩
theorem dX11_meetIn_11 : dc cX11_meetIn 11 (.aload_n 0) 1 12 := ⟨by decide +kernel, rfl⟩
theorem dX11_meetIn_12 : dc cX11_meetIn 12 (.iload_n 3) 1 13 := ⟨by decide +kernel, rfl⟩
theorem dX11_meetIn_13 : dc cX11_meetIn 13 (.invokevirtual 104) 3 16 := ⟨by decide +kernel, rfl⟩
theorem dX11_meetIn_16 : dc cX11_meetIn 16 (.ireturn) 1 17 := ⟨by decide +kernel, rfl⟩
theorem dX11_meetIn_17 : dc cX11_meetIn 17 (.aload_n 0) 1 18 := ⟨by decide +kernel, rfl⟩
theorem dX11_meetIn_18 : dc cX11_meetIn 18 (.getfield 53) 3 21 := ⟨by decide +kernel, rfl⟩
theorem dX11_meetIn_21 : dc cX11_meetIn 21 (.aload_n 0) 1 22 := ⟨by decide +kernel, rfl⟩
theorem dX11_meetIn_22 : dc cX11_meetIn 22 (.getfield 72) 3 25 := ⟨by decide +kernel, rfl⟩
theorem dX11_meetIn_25 : dc cX11_meetIn 25 (.iload_n 1) 1 26 := ⟨by decide +kernel, rfl⟩
theorem dX11_meetIn_26 : dc cX11_meetIn 26 (.iload_n 2) 1 27 := ⟨by decide +kernel, rfl⟩
theorem dX11_meetIn_27 : dc cX11_meetIn 27 (.invokevirtual 369) 3 30 := ⟨by decide +kernel, rfl⟩
theorem dX11_meetIn_30 : dc cX11_meetIn 30 (.aload_n 0) 1 31 := ⟨by decide +kernel, rfl⟩
theorem dX11_meetIn_31 : dc cX11_meetIn 31 (.aload_n 0) 1 32 := ⟨by decide +kernel, rfl⟩
theorem dX11_meetIn_32 : dc cX11_meetIn 32 (.getfield 53) 3 35 := ⟨by decide +kernel, rfl⟩
theorem dX11_meetIn_35 : dc cX11_meetIn 35 (.getfield 376) 3 38 := ⟨by decide +kernel, rfl⟩
theorem dX11_meetIn_38 : dc cX11_meetIn 38 (.invokevirtual 359) 3 41 := ⟨by decide +kernel, rfl⟩
theorem dX11_meetIn_41 : dc cX11_meetIn 41 (.ireturn) 1 42 := ⟨by decide +kernel, rfl⟩
theorem nm_X11_meetIn : (yX11_meetIn).cls ≠ "java/lang/invoke/MethodHandle" ∧ (yX11_meetIn).cls ≠ "java/lang/invoke/VarHandle" ∧ (parseMethodDescriptor (yX11_meetIn).desc).map (fun d => d.parameters.length) = some 2 := ⟨by decide +kernel, by decide +kernel, by decide +kernel⟩
set_option maxRecDepth 100000 in
set_option maxHeartbeats 4000000 in
theorem c_X11_meetIn {l : Launch} {ad : Nat → Nat} {cy : Nat → ClassId} {D : va_G} {z : Nat} (n : Nat) {a0 : Nat} {p1 : Int32} {p2 : Int32} {M : KM} {y : (Int32 × KM)} (h0 : kty a0 = 11) (hf : f_X11_meetIn n a0 p1 p2 M = some y) : KC l ad cy D z yX11_meetIn cX11_meetIn 4 (some .int) 7 [.ref (ad a0), .int p1, .int p2] M (some (.int y.1), y.2) := by
  refine kv_enter (by decide +kernel) (Nat.le_of_ble_eq_true rfl) ?_
  intro x hl hD hz G
  subst hl hD hz
  unfold f_X11_meetIn at hf
  have G : KG ad cy x cX11_meetIn "NoonGuides" 4 (some (some .int)) 7 := G
  show KV ad cy x (some (.int y.1), y.2) 0 [(0, .ref (ad a0)), (1, .int p1), (2, .int p2)] [] M
  refine v_aload_n G dX11_meetIn_0 0 rfl ?_
  refine v_iload_n G dX11_meetIn_1 1 rfl ?_
  refine v_iload_n G dX11_meetIn_2 2 rfl ?_
  obtain ⟨v1, hcv1, hf⟩ := bd_e hf
  refine v_callV [.int p1, .int p2] G (c_X11_whyNoTwoAtPlaces n h0 hcv1) h0 (by decide) rfl rfl rfl t_815 t_817 t_p20 t_1 t_818 nm_X11_whyNoTwoAtPlaces (by decide) (by decide) rfl rfl (Nat.le_of_ble_eq_true rfl) dX11_meetIn_3 (kv_ri ?_)
  refine v_istore_n [(3, .int v1), (0, .ref (ad a0)), (1, .int p1), (2, .int p2)] G dX11_meetIn_6 (by decide) rfl ?_
  refine v_iload_n G dX11_meetIn_7 0 rfl ?_
  refine v_if_eq 17 G dX11_meetIn_8 (by decide) (fun h6 => ?_) (fun h6 => ?_)
  · replace hf := (if_pos h6).symm.trans hf
    refine v_aload_n G dX11_meetIn_17 1 rfl ?_
    refine gf_11_7 G h0 t_464 (Or.inl rfl) dX11_meetIn_18 ?_
    refine v_aload_n G dX11_meetIn_21 1 rfl ?_
    refine gf_11_10 G h0 t_467 (Or.inl rfl) dX11_meetIn_22 ?_
    refine v_kt (fun hKT => ?_)
    have hk2 := hKT.1 _ h0
    refine v_iload_n G dX11_meetIn_25 2 rfl ?_
    refine v_iload_n G dX11_meetIn_26 3 rfl ?_
    obtain ⟨v3, hcv3, hf⟩ := bd_e hf
    refine v_callV [.ref (ad (M.2.2 a0 10)), .int p1, .int p2] G (c_X6_findMeeting n (kf_11_14 h0) hk2 hcv3) (kf_11_14 h0) (by decide) rfl rfl rfl t_826 t_827 t_828 t_10 t_829 nm_X6_findMeeting (by decide) (by decide) rfl rfl (Nat.le_of_ble_eq_true rfl) dX11_meetIn_27 (kv_rv ?_)
    refine v_aload_n G dX11_meetIn_30 1 rfl ?_
    refine v_aload_n G dX11_meetIn_31 1 rfl ?_
    refine gf_11_7 G h0 t_464 (Or.inl rfl) dX11_meetIn_32 ?_
    refine gf_6_5 G (kf_11_14 h0) t_206 (Or.inl rfl) dX11_meetIn_35 ?_
    obtain ⟨v4, hcv4⟩ : ∃ q, f_X11_tellSooner a0 (v3.1 (a0 + 14) 5) v3 = q := ⟨_, rfl⟩
    replace hf := lt_e hf hcv4.symm
    refine v_callV [.int (v3.1 (a0 + 14) 5)] G (c_X11_tellSooner h0 hcv4) h0 (by decide) rfl rfl rfl t_796 t_798 t_p19 t_1 t_799 nm_X11_tellSooner (by decide) (by decide) rfl rfl (Nat.le_of_ble_eq_true rfl) dX11_meetIn_38 (kv_ri ?_)
    obtain rfl := Option.some.inj hf
    exact v_iret G dX11_meetIn_41
  · replace hf := (if_neg h6).symm.trans hf
    refine v_aload_n G dX11_meetIn_11 1 rfl ?_
    refine v_iload_n G dX11_meetIn_12 0 rfl ?_
    obtain ⟨v5, hcv5⟩ : ∃ q, f_X11_refuse a0 v1 M = q := ⟨_, rfl⟩
    replace hf := lt_e hf hcv5.symm
    refine v_callV [.int v1] G (c_X11_refuse h0 hcv5) h0 (by decide) rfl rfl rfl t_557 t_559 t_p2 t_1 t_560 nm_X11_refuse (by decide) (by decide) rfl rfl (Nat.le_of_ble_eq_true rfl) dX11_meetIn_13 (kv_ri ?_)
    obtain rfl := Option.some.inj hf
    exact v_iret G dX11_meetIn_16
abbrev cX11_whyNoPlanting : ByteArray := prog_1_method_62_code
def yX11_whyNoPlanting : MethodName := ⟨RX11, "whyNoPlanting", "(II)I"⟩
theorem dX11_whyNoPlanting_0 : dc cX11_whyNoPlanting 0 (.aload_n 0) 1 1 := ⟨by decide +kernel, rfl⟩
theorem dX11_whyNoPlanting_1 : dc cX11_whyNoPlanting 1 (.iload_n 1) 1 2 := ⟨by decide +kernel, rfl⟩
theorem dX11_whyNoPlanting_2 : dc cX11_whyNoPlanting 2 (.iload_n 2) 1 3 := ⟨by decide +kernel, rfl⟩
theorem dX11_whyNoPlanting_3 : dc cX11_whyNoPlanting 3 (.invokevirtual 352) 3 6 := ⟨by decide +kernel, rfl⟩
theorem dX11_whyNoPlanting_6 : dc cX11_whyNoPlanting 6 (.istore_n 3) 1 7 := ⟨by decide +kernel, rfl⟩
theorem dX11_whyNoPlanting_7 : dc cX11_whyNoPlanting 7 (.iload_n 3) 1 8 := ⟨by decide +kernel, rfl⟩
theorem dX11_whyNoPlanting_8 : dc cX11_whyNoPlanting 8 (.ifCond .eq 5) 3 11 := ⟨by decide +kernel, rfl⟩
theorem dX11_whyNoPlanting_11 : dc cX11_whyNoPlanting 11 (.iload_n 3) 1 12 := ⟨by decide +kernel, rfl⟩
theorem dX11_whyNoPlanting_12 : dc cX11_whyNoPlanting 12 (.ireturn) 1 13 := ⟨by decide +kernel, rfl⟩
theorem dX11_whyNoPlanting_13 : dc cX11_whyNoPlanting 13 (.aload_n 0) 1 14 := ⟨by decide +kernel, rfl⟩
theorem dX11_whyNoPlanting_14 : dc cX11_whyNoPlanting 14 (.getfield 72) 3 17 := ⟨by decide +kernel, rfl⟩
theorem dX11_whyNoPlanting_17 : dc cX11_whyNoPlanting 17 (.getfield 269) 3 20 := ⟨by decide +kernel, rfl⟩
theorem dX11_whyNoPlanting_20 : dc cX11_whyNoPlanting 20 (.iload_n 1) 1 21 := ⟨by decide +kernel, rfl⟩
theorem dX11_whyNoPlanting_21 : dc cX11_whyNoPlanting 21 (.aaload) 1 22 := ⟨by decide +kernel, rfl⟩
theorem dX11_whyNoPlanting_22 : dc cX11_whyNoPlanting 22 (.getfield 324) 3 25 := ⟨by decide +kernel, rfl⟩
theorem dX11_whyNoPlanting_25 : dc cX11_whyNoPlanting 25 (.ifCond .eq 8) 3 28 := ⟨by decide +kernel, rfl⟩
theorem dX11_whyNoPlanting_28 : dc cX11_whyNoPlanting 28 (.bipush 9) 2 30 := ⟨by decide +kernel, rfl⟩
theorem dX11_whyNoPlanting_30 : dc cX11_whyNoPlanting 30 (.goto 4) 3 33 := ⟨by decide +kernel, rfl⟩
theorem dX11_whyNoPlanting_33 : dc cX11_whyNoPlanting 33 (.iconst 0) 1 34 := ⟨by decide +kernel, rfl⟩
theorem dX11_whyNoPlanting_34 : dc cX11_whyNoPlanting 34 (.ireturn) 1 35 := ⟨by decide +kernel, rfl⟩
theorem nm_X11_whyNoPlanting : (yX11_whyNoPlanting).cls ≠ "java/lang/invoke/MethodHandle" ∧ (yX11_whyNoPlanting).cls ≠ "java/lang/invoke/VarHandle" ∧ (parseMethodDescriptor (yX11_whyNoPlanting).desc).map (fun d => d.parameters.length) = some 2 := ⟨by decide +kernel, by decide +kernel, by decide +kernel⟩
set_option maxRecDepth 100000 in
set_option maxHeartbeats 4000000 in
theorem c_X11_whyNoPlanting {l : Launch} {ad : Nat → Nat} {cy : Nat → ClassId} {D : va_G} {z : Nat} (n : Nat) {a0 : Nat} {p1 : Int32} {p2 : Int32} {M : KM} {y : Int32} (h0 : kty a0 = 11) (hf : f_X11_whyNoPlanting n a0 p1 p2 M = some y) : KC l ad cy D z yX11_whyNoPlanting cX11_whyNoPlanting 4 (some .int) 4 [.ref (ad a0), .int p1, .int p2] M (some (.int y), M) := by
  refine kv_enter (by decide +kernel) (Nat.le_of_ble_eq_true rfl) ?_
  intro x hl hD hz G
  subst hl hD hz
  unfold f_X11_whyNoPlanting at hf
  have G : KG ad cy x cX11_whyNoPlanting "NoonGuides" 4 (some (some .int)) 4 := G
  show KV ad cy x (some (.int y), M) 0 [(0, .ref (ad a0)), (1, .int p1), (2, .int p2)] [] M
  refine v_aload_n G dX11_whyNoPlanting_0 0 rfl ?_
  refine v_iload_n G dX11_whyNoPlanting_1 1 rfl ?_
  refine v_iload_n G dX11_whyNoPlanting_2 2 rfl ?_
  obtain ⟨v1, hcv1, hf⟩ := bd_e hf
  refine v_callV [.int p1, .int p2] G (c_X11_whyNoWay n h0 hcv1) h0 (by decide) rfl rfl rfl t_767 t_769 t_p16 t_1 t_770 nm_X11_whyNoWay (by decide) (by decide) rfl rfl (Nat.le_of_ble_eq_true rfl) dX11_whyNoPlanting_3 (kv_ri ?_)
  refine v_istore_n [(3, .int v1), (0, .ref (ad a0)), (1, .int p1), (2, .int p2)] G dX11_whyNoPlanting_6 (by decide) rfl ?_
  refine v_iload_n G dX11_whyNoPlanting_7 0 rfl ?_
  refine v_if_eq 13 G dX11_whyNoPlanting_8 (by decide) (fun h5 => ?_) (fun h5 => ?_)
  · replace hf := (if_pos h5).symm.trans hf
    refine v_aload_n G dX11_whyNoPlanting_13 1 rfl ?_
    refine gf_11_10 G h0 t_467 (Or.inl rfl) dX11_whyNoPlanting_14 ?_
    refine v_kt (fun hKT => ?_)
    have hk2 := hKT.1 _ h0
    refine gf_2_5 G hk2 t_375 (Or.inl rfl) dX11_whyNoPlanting_17 ?_
    refine v_iload_n G dX11_whyNoPlanting_20 2 rfl ?_
    obtain ⟨g3, hf⟩ := gd_e hf
    refine al_Person G (kf_2_6 hk2) g3 dX11_whyNoPlanting_21 ?_
    refine gf_7_3 G (ke_Person (kf_2_6 hk2) (ix_lt g3)) t_316 (Or.inl rfl) dX11_whyNoPlanting_22 ?_
    refine v_if_eq 33 G dX11_whyNoPlanting_25 (by decide) (fun h4 => ?_) (fun h4 => ?_)
    · replace hf := (if_pos h4).symm.trans hf
      refine v_iconst (0 : Int32) G dX11_whyNoPlanting_33 (by decide) ?_
      obtain rfl := Option.some.inj hf
      exact v_iret G dX11_whyNoPlanting_34
    · replace hf := (if_neg h4).symm.trans hf
      refine v_bipush (9 : Int32) G dX11_whyNoPlanting_28 (by decide) ?_
      refine v_goto 34 G dX11_whyNoPlanting_30 (by decide) ?_
      obtain rfl := Option.some.inj hf
      exact v_iret G dX11_whyNoPlanting_34
  · replace hf := (if_neg h5).symm.trans hf
    refine v_iload_n G dX11_whyNoPlanting_11 0 rfl ?_
    obtain rfl := Option.some.inj hf
    exact v_iret G dX11_whyNoPlanting_12
abbrev cX11_plantSet : ByteArray := prog_1_method_58_code
def yX11_plantSet : MethodName := ⟨RX11, "plantSet", "(II)I"⟩
theorem dX11_plantSet_0 : dc cX11_plantSet 0 (.aload_n 0) 1 1 := ⟨by decide +kernel, rfl⟩
theorem dX11_plantSet_1 : dc cX11_plantSet 1 (.iload_n 1) 1 2 := ⟨by decide +kernel, rfl⟩
theorem dX11_plantSet_2 : dc cX11_plantSet 2 (.iload_n 2) 1 3 := ⟨by decide +kernel, rfl⟩
theorem dX11_plantSet_3 : dc cX11_plantSet 3 (.invokevirtual 379) 3 6 := ⟨by decide +kernel, rfl⟩
theorem dX11_plantSet_6 : dc cX11_plantSet 6 (.istore_n 3) 1 7 := ⟨by decide +kernel, rfl⟩
theorem dX11_plantSet_7 : dc cX11_plantSet 7 (.iload_n 3) 1 8 := ⟨by decide +kernel, rfl⟩
theorem dX11_plantSet_8 : dc cX11_plantSet 8 (.ifCond .eq 9) 3 11 := ⟨by decide +kernel, rfl⟩
theorem dX11_plantSet_11 : dc cX11_plantSet 11 (.aload_n 0) 1 12 := ⟨by decide +kernel, rfl⟩
theorem dX11_plantSet_12 : dc cX11_plantSet 12 (.iload_n 3) 1 13 := ⟨by decide +kernel, rfl⟩
theorem dX11_plantSet_13 : dc cX11_plantSet 13 (.invokevirtual 104) 3 16 := ⟨by decide +kernel, rfl⟩
theorem dX11_plantSet_16 : dc cX11_plantSet 16 (.ireturn) 1 17 := ⟨by decide +kernel, rfl⟩
theorem dX11_plantSet_17 : dc cX11_plantSet 17 (.aload_n 0) 1 18 := ⟨by decide +kernel, rfl⟩
theorem dX11_plantSet_18 : dc cX11_plantSet 18 (.getfield 53) 3 21 := ⟨by decide +kernel, rfl⟩
theorem dX11_plantSet_21 : dc cX11_plantSet 21 (.aload_n 0) 1 22 := ⟨by decide +kernel, rfl⟩
theorem dX11_plantSet_22 : dc cX11_plantSet 22 (.getfield 72) 3 25 := ⟨by decide +kernel, rfl⟩
theorem dX11_plantSet_25 : dc cX11_plantSet 25 (.iload_n 1) 1 26 := ⟨by decide +kernel, rfl⟩
theorem dX11_plantSet_26 : dc cX11_plantSet 26 (.iload_n 2) 1 27 := ⟨by decide +kernel, rfl⟩
theorem dX11_plantSet_27 : dc cX11_plantSet 27 (.invokevirtual 382) 3 30 := ⟨by decide +kernel, rfl⟩
theorem dX11_plantSet_30 : dc cX11_plantSet 30 (.istore 4) 2 32 := ⟨by decide +kernel, rfl⟩
theorem dX11_plantSet_32 : dc cX11_plantSet 32 (.iload 4) 2 34 := ⟨by decide +kernel, rfl⟩
theorem dX11_plantSet_34 : dc cX11_plantSet 34 (.ldc 111) 2 36 := ⟨by decide +kernel, rfl⟩
theorem dX11_plantSet_36 : dc cX11_plantSet 36 (.if_icmp .lt 12) 3 39 := ⟨by decide +kernel, rfl⟩
theorem dX11_plantSet_39 : dc cX11_plantSet 39 (.aload_n 0) 1 40 := ⟨by decide +kernel, rfl⟩
theorem dX11_plantSet_40 : dc cX11_plantSet 40 (.bipush 8) 2 42 := ⟨by decide +kernel, rfl⟩
theorem dX11_plantSet_42 : dc cX11_plantSet 42 (.invokevirtual 104) 3 45 := ⟨by decide +kernel, rfl⟩
theorem dX11_plantSet_45 : dc cX11_plantSet 45 (.goto 13) 3 48 := ⟨by decide +kernel, rfl⟩
theorem dX11_plantSet_48 : dc cX11_plantSet 48 (.aload_n 0) 1 49 := ⟨by decide +kernel, rfl⟩
theorem dX11_plantSet_49 : dc cX11_plantSet 49 (.iload 4) 2 51 := ⟨by decide +kernel, rfl⟩
theorem dX11_plantSet_51 : dc cX11_plantSet 51 (.sipush 4096) 3 54 := ⟨by decide +kernel, rfl⟩
theorem dX11_plantSet_54 : dc cX11_plantSet 54 (.irem) 1 55 := ⟨by decide +kernel, rfl⟩
theorem dX11_plantSet_55 : dc cX11_plantSet 55 (.invokevirtual 108) 3 58 := ⟨by decide +kernel, rfl⟩
theorem dX11_plantSet_58 : dc cX11_plantSet 58 (.ireturn) 1 59 := ⟨by decide +kernel, rfl⟩
theorem nm_X11_plantSet : (yX11_plantSet).cls ≠ "java/lang/invoke/MethodHandle" ∧ (yX11_plantSet).cls ≠ "java/lang/invoke/VarHandle" ∧ (parseMethodDescriptor (yX11_plantSet).desc).map (fun d => d.parameters.length) = some 2 := ⟨by decide +kernel, by decide +kernel, by decide +kernel⟩
set_option maxRecDepth 100000 in
set_option maxHeartbeats 4000000 in
theorem c_X11_plantSet {l : Launch} {ad : Nat → Nat} {cy : Nat → ClassId} {D : va_G} {z : Nat} (n : Nat) {a0 : Nat} {p1 : Int32} {p2 : Int32} {M : KM} {y : (Int32 × KM)} (h0 : kty a0 = 11) (hf : f_X11_plantSet n a0 p1 p2 M = some y) : KC l ad cy D z yX11_plantSet cX11_plantSet 5 (some .int) 5 [.ref (ad a0), .int p1, .int p2] M (some (.int y.1), y.2) := by
  refine kv_enter (by decide +kernel) (Nat.le_of_ble_eq_true rfl) ?_
  intro x hl hD hz G
  subst hl hD hz
  unfold f_X11_plantSet at hf
  have G : KG ad cy x cX11_plantSet "NoonGuides" 5 (some (some .int)) 5 := G
  show KV ad cy x (some (.int y.1), y.2) 0 [(0, .ref (ad a0)), (1, .int p1), (2, .int p2)] [] M
  refine v_aload_n G dX11_plantSet_0 0 rfl ?_
  refine v_iload_n G dX11_plantSet_1 1 rfl ?_
  refine v_iload_n G dX11_plantSet_2 2 rfl ?_
  obtain ⟨v1, hcv1, hf⟩ := bd_e hf
  refine v_callV [.int p1, .int p2] G (c_X11_whyNoPlanting n h0 hcv1) h0 (by decide) rfl rfl rfl t_842 t_844 t_p21 t_1 t_845 nm_X11_whyNoPlanting (by decide) (by decide) rfl rfl (Nat.le_of_ble_eq_true rfl) dX11_plantSet_3 (kv_ri ?_)
  refine v_istore_n [(3, .int v1), (0, .ref (ad a0)), (1, .int p1), (2, .int p2)] G dX11_plantSet_6 (by decide) rfl ?_
  refine v_iload_n G dX11_plantSet_7 0 rfl ?_
  refine v_if_eq 17 G dX11_plantSet_8 (by decide) (fun h8 => ?_) (fun h8 => ?_)
  · replace hf := (if_pos h8).symm.trans hf
    refine v_aload_n G dX11_plantSet_17 1 rfl ?_
    refine gf_11_7 G h0 t_464 (Or.inl rfl) dX11_plantSet_18 ?_
    refine v_aload_n G dX11_plantSet_21 1 rfl ?_
    refine gf_11_10 G h0 t_467 (Or.inl rfl) dX11_plantSet_22 ?_
    refine v_kt (fun hKT => ?_)
    have hk2 := hKT.1 _ h0
    refine v_iload_n G dX11_plantSet_25 2 rfl ?_
    refine v_iload_n G dX11_plantSet_26 3 rfl ?_
    obtain ⟨v3, hcv3, hf⟩ := bd_e hf
    refine v_callV [.ref (ad (M.2.2 a0 10)), .int p1, .int p2] G (c_X6_plantingCost n (kf_11_14 h0) hk2 hcv3) (kf_11_14 h0) (by decide) rfl rfl rfl t_846 t_847 t_848 t_10 t_849 nm_X6_plantingCost (by decide) (by decide) rfl rfl (Nat.le_of_ble_eq_true rfl) dX11_plantSet_27 (kv_ri ?_)
    refine v_istore [(4, .int v3.1), (3, .int v1), (0, .ref (ad a0)), (1, .int p1), (2, .int p2)] G dX11_plantSet_30 (by decide) rfl ?_
    refine v_iload G dX11_plantSet_32 0 rfl ?_
    refine v_ldc G dX11_plantSet_34 t_800 ?_
    refine v_icmp_lt 48 G dX11_plantSet_36 (by decide) (fun h6 => ?_) (fun h6 => ?_)
    · replace hf := (if_pos h6).symm.trans hf
      refine v_aload_n G dX11_plantSet_48 2 rfl ?_
      refine v_iload G dX11_plantSet_49 0 rfl ?_
      refine v_sipush (4096 : Int32) G dX11_plantSet_51 (by decide) ?_
      refine v_irem G dX11_plantSet_54 (by decide) ?_
      obtain ⟨v4, hcv4⟩ : ∃ q, f_X11_tell a0 (v3.1 - v3.1 / (4096 : Int32) * (4096 : Int32)) v3.2 = q := ⟨_, rfl⟩
      replace hf := lt_e hf hcv4.symm
      refine v_callV [.int (v3.1 - v3.1 / (4096 : Int32) * (4096 : Int32))] G (c_X11_tell h0 hcv4) h0 (by decide) rfl rfl rfl t_521 t_523 t_p0 t_1 t_524 nm_X11_tell (by decide) (by decide) rfl rfl (Nat.le_of_ble_eq_true rfl) dX11_plantSet_55 (kv_ri ?_)
      obtain rfl := Option.some.inj hf
      exact v_iret G dX11_plantSet_58
    · replace hf := (if_neg h6).symm.trans hf
      refine v_aload_n G dX11_plantSet_39 2 rfl ?_
      refine v_bipush (8 : Int32) G dX11_plantSet_40 (by decide) ?_
      obtain ⟨v5, hcv5⟩ : ∃ q, f_X11_refuse a0 (8 : Int32) v3.2 = q := ⟨_, rfl⟩
      replace hf := lt_e hf hcv5.symm
      refine v_callV [.int (8 : Int32)] G (c_X11_refuse h0 hcv5) h0 (by decide) rfl rfl rfl t_557 t_559 t_p2 t_1 t_560 nm_X11_refuse (by decide) (by decide) rfl rfl (Nat.le_of_ble_eq_true rfl) dX11_plantSet_42 (kv_ri ?_)
      refine v_goto 58 G dX11_plantSet_45 (by decide) ?_
      obtain rfl := Option.some.inj hf
      exact v_iret G dX11_plantSet_58
  · replace hf := (if_neg h8).symm.trans hf
    refine v_aload_n G dX11_plantSet_11 1 rfl ?_
    refine v_iload_n G dX11_plantSet_12 0 rfl ?_
    obtain ⟨v7, hcv7⟩ : ∃ q, f_X11_refuse a0 v1 M = q := ⟨_, rfl⟩
    replace hf := lt_e hf hcv7.symm
    refine v_callV [.int v1] G (c_X11_refuse h0 hcv7) h0 (by decide) rfl rfl rfl t_557 t_559 t_p2 t_1 t_560 nm_X11_refuse (by decide) (by decide) rfl rfl (Nat.le_of_ble_eq_true rfl) dX11_plantSet_13 (kv_ri ?_)
    obtain rfl := Option.some.inj hf
    exact v_iret G dX11_plantSet_16
abbrev cX11_pair : ByteArray := prog_1_method_63_code
def yX11_pair : MethodName := ⟨RX11, "pair", "(I)I"⟩
theorem dX11_pair_0 : dc cX11_pair 0 (.aload_n 0) 1 1 := ⟨by decide +kernel, rfl⟩
theorem dX11_pair_1 : dc cX11_pair 1 (.getfield 72) 3 4 := ⟨by decide +kernel, rfl⟩
theorem dX11_pair_4 : dc cX11_pair 4 (.iload_n 1) 1 5 := ⟨by decide +kernel, rfl⟩
theorem dX11_pair_5 : dc cX11_pair 5 (.invokevirtual 266) 3 8 := ⟨by decide +kernel, rfl⟩
theorem dX11_pair_8 : dc cX11_pair 8 (.ifCond .ne 9) 3 11 := ⟨by decide +kernel, rfl⟩
theorem dX11_pair_11 : dc cX11_pair 11 (.aload_n 0) 1 12 := ⟨by decide +kernel, rfl⟩
theorem dX11_pair_12 : dc cX11_pair 12 (.iconst 2) 1 13 := ⟨by decide +kernel, rfl⟩
theorem dX11_pair_13 : dc cX11_pair 13 (.invokevirtual 104) 3 16 := ⟨by decide +kernel, rfl⟩
theorem dX11_pair_16 : dc cX11_pair 16 (.ireturn) 1 17 := ⟨by decide +kernel, rfl⟩
theorem dX11_pair_17 : dc cX11_pair 17 (.aload_n 0) 1 18 := ⟨by decide +kernel, rfl⟩
theorem dX11_pair_18 : dc cX11_pair 18 (.getfield 60) 3 21 := ⟨by decide +kernel, rfl⟩
theorem dX11_pair_21 : dc cX11_pair 21 (.aload_n 0) 1 22 := ⟨by decide +kernel, rfl⟩
theorem dX11_pair_22 : dc cX11_pair 22 (.getfield 72) 3 25 := ⟨by decide +kernel, rfl⟩
theorem dX11_pair_25 : dc cX11_pair 25 (.invokevirtual 394) 3 28 := ⟨by decide +kernel, rfl⟩
theorem dX11_pair_28 : dc cX11_pair 28 (.aload_n 0) 1 29 := ⟨by decide +kernel, rfl⟩
theorem dX11_pair_29 : dc cX11_pair 29 (.aload_n 0) 1 30 := ⟨by decide +kernel, rfl⟩
theorem dX11_pair_30 : dc cX11_pair 30 (.getfield 60) 3 33 := ⟨by decide +kernel, rfl⟩
theorem dX11_pair_33 : dc cX11_pair 33 (.getfield 398) 3 36 := ⟨by decide +kernel, rfl⟩
theorem dX11_pair_36 : dc cX11_pair 36 (.iload_n 1) 1 37 := ⟨by decide +kernel, rfl⟩
theorem dX11_pair_37 : dc cX11_pair 37 (.iaload) 1 38 := ⟨by decide +kernel, rfl⟩
theorem dX11_pair_38 : dc cX11_pair 38 (.invokevirtual 263) 3 41 := ⟨by decide +kernel, rfl⟩
theorem dX11_pair_41 : dc cX11_pair 41 (.ireturn) 1 42 := ⟨by decide +kernel, rfl⟩
theorem nm_X11_pair : (yX11_pair).cls ≠ "java/lang/invoke/MethodHandle" ∧ (yX11_pair).cls ≠ "java/lang/invoke/VarHandle" ∧ (parseMethodDescriptor (yX11_pair).desc).map (fun d => d.parameters.length) = some 1 := ⟨by decide +kernel, by decide +kernel, by decide +kernel⟩
set_option maxRecDepth 100000 in
set_option maxHeartbeats 4000000 in
theorem c_X11_pair {l : Launch} {ad : Nat → Nat} {cy : Nat → ClassId} {D : va_G} {z : Nat} (n : Nat) {a0 : Nat} {p1 : Int32} {M : KM} {y : (Int32 × KM)} (h0 : kty a0 = 11) (hf : f_X11_pair n a0 p1 M = some y) : KC l ad cy D z yX11_pair cX11_pair 2 (some .int) 4 [.ref (ad a0), .int p1] M (some (.int y.1), y.2) := by
  refine kv_enter (by decide +kernel) (Nat.le_of_ble_eq_true rfl) ?_
  intro x hl hD hz G
  subst hl hD hz
  unfold f_X11_pair at hf
  have G : KG ad cy x cX11_pair "NoonGuides" 2 (some (some .int)) 4 := G
  show KV ad cy x (some (.int y.1), y.2) 0 [(0, .ref (ad a0)), (1, .int p1)] [] M
  refine v_aload_n G dX11_pair_0 0 rfl ?_
  refine gf_11_10 G h0 t_467 (Or.inl rfl) dX11_pair_1 ?_
  refine v_kt (fun hKT => ?_)
  have hk1 := hKT.1 _ h0
  refine v_iload_n G dX11_pair_4 1 rfl ?_
  obtain ⟨v2, hcv2⟩ : ∃ q, f_X2_hasPerson (M.2.2 a0 10) p1 M = q := ⟨_, rfl⟩
  replace hf := lt_e hf hcv2.symm
  refine v_callV [.int p1] G (c_X2_hasPerson hk1 hcv2) hk1 (by decide) rfl rfl rfl t_585 t_586 t_587 t_13 t_588 nm_X2_hasPerson (by decide) (by decide) rfl rfl (Nat.le_of_ble_eq_true rfl) dX11_pair_5 (kv_ri ?_)
  refine v_if_ne 17 G dX11_pair_8 (by decide) (fun h8 => ?_) (fun h8 => ?_)
  · replace hf := (if_neg h8).symm.trans hf
    refine v_aload_n G dX11_pair_17 0 rfl ?_
    refine gf_11_8 G h0 t_465 (Or.inl rfl) dX11_pair_18 ?_
    refine v_aload_n G dX11_pair_21 0 rfl ?_
    refine gf_11_10 G h0 t_467 (Or.inl rfl) dX11_pair_22 ?_
    refine v_kt (fun hKT => ?_)
    have hk3 := hKT.1 _ h0
    obtain ⟨v4, hcv4, hf⟩ := bd_e hf
    refine v_callV [.ref (ad (M.2.2 a0 10))] G (c_X5_findPairs n (kf_11_19 h0) hk3 hcv4) (kf_11_19 h0) (by decide) rfl rfl rfl t_855 t_856 t_857 t_11 t_858 nm_X5_findPairs (by decide) (by decide) rfl rfl (Nat.le_of_ble_eq_true rfl) dX11_pair_25 (kv_rv ?_)
    refine v_aload_n G dX11_pair_28 0 rfl ?_
    refine v_aload_n G dX11_pair_29 0 rfl ?_
    refine gf_11_8 G h0 t_465 (Or.inl rfl) dX11_pair_30 ?_
    refine gf_5_0 G (kf_11_19 h0) t_227 (Or.inl rfl) dX11_pair_33 ?_
    refine v_iload_n G dX11_pair_36 1 rfl ?_
    obtain ⟨g5, hf⟩ := gd_e hf
    refine al_28 G (kf_5_1 (kf_11_19 h0)) g5 dX11_pair_37 ?_
    obtain ⟨v6, hcv6⟩ : ∃ q, f_X11_tellOrNone a0 (v4.1 ((a0 + 19) + 1) (p1).toNatClampNeg) v4 = q := ⟨_, rfl⟩
    replace hf := lt_e hf hcv6.symm
    refine v_callV [.int (v4.1 ((a0 + 19) + 1) (p1).toNatClampNeg)] G (c_X11_tellOrNone h0 hcv6) h0 (by decide) rfl rfl rfl t_577 t_579 t_p3 t_1 t_580 nm_X11_tellOrNone (by decide) (by decide) rfl rfl (Nat.le_of_ble_eq_true rfl) dX11_pair_38 (kv_ri ?_)
    obtain rfl := Option.some.inj hf
    exact v_iret G dX11_pair_41
  · replace hf := (if_pos h8).symm.trans hf
    refine v_aload_n G dX11_pair_11 0 rfl ?_
    refine v_iconst (2 : Int32) G dX11_pair_12 (by decide) ?_
    obtain ⟨v7, hcv7⟩ : ∃ q, f_X11_refuse a0 (2 : Int32) M = q := ⟨_, rfl⟩
    replace hf := lt_e hf hcv7.symm
    refine v_callV [.int (2 : Int32)] G (c_X11_refuse h0 hcv7) h0 (by decide) rfl rfl rfl t_557 t_559 t_p2 t_1 t_560 nm_X11_refuse (by decide) (by decide) rfl rfl (Nat.le_of_ble_eq_true rfl) dX11_pair_13 (kv_ri ?_)
    obtain rfl := Option.some.inj hf
    exact v_iret G dX11_pair_16
abbrev cX11_pairs : ByteArray := prog_1_method_64_code
def yX11_pairs : MethodName := ⟨RX11, "pairs", "()I"⟩
theorem dX11_pairs_0 : dc cX11_pairs 0 (.aload_n 0) 1 1 := ⟨by decide +kernel, rfl⟩
theorem dX11_pairs_1 : dc cX11_pairs 1 (.getfield 60) 3 4 := ⟨by decide +kernel, rfl⟩
theorem dX11_pairs_4 : dc cX11_pairs 4 (.aload_n 0) 1 5 := ⟨by decide +kernel, rfl⟩
theorem dX11_pairs_5 : dc cX11_pairs 5 (.getfield 72) 3 8 := ⟨by decide +kernel, rfl⟩
theorem dX11_pairs_8 : dc cX11_pairs 8 (.invokevirtual 394) 3 11 := ⟨by decide +kernel, rfl⟩
theorem dX11_pairs_11 : dc cX11_pairs 11 (.aload_n 0) 1 12 := ⟨by decide +kernel, rfl⟩
theorem dX11_pairs_12 : dc cX11_pairs 12 (.aload_n 0) 1 13 := ⟨by decide +kernel, rfl⟩
theorem dX11_pairs_13 : dc cX11_pairs 13 (.getfield 60) 3 16 := ⟨by decide +kernel, rfl⟩
theorem dX11_pairs_16 : dc cX11_pairs 16 (.aload_n 0) 1 17 := ⟨by decide +kernel, rfl⟩
theorem dX11_pairs_17 : dc cX11_pairs 17 (.getfield 72) 3 20 := ⟨by decide +kernel, rfl⟩
theorem dX11_pairs_20 : dc cX11_pairs 20 (.invokevirtual 401) 3 23 := ⟨by decide +kernel, rfl⟩
theorem dX11_pairs_23 : dc cX11_pairs 23 (.invokevirtual 108) 3 26 := ⟨by decide +kernel, rfl⟩
theorem dX11_pairs_26 : dc cX11_pairs 26 (.ireturn) 1 27 := ⟨by decide +kernel, rfl⟩
theorem nm_X11_pairs : (yX11_pairs).cls ≠ "java/lang/invoke/MethodHandle" ∧ (yX11_pairs).cls ≠ "java/lang/invoke/VarHandle" ∧ (parseMethodDescriptor (yX11_pairs).desc).map (fun d => d.parameters.length) = some 0 := ⟨by decide +kernel, by decide +kernel, by decide +kernel⟩
set_option maxRecDepth 100000 in
set_option maxHeartbeats 4000000 in
theorem c_X11_pairs {l : Launch} {ad : Nat → Nat} {cy : Nat → ClassId} {D : va_G} {z : Nat} (n : Nat) {a0 : Nat} {M : KM} {y : (Int32 × KM)} (h0 : kty a0 = 11) (hf : f_X11_pairs n a0 M = some y) : KC l ad cy D z yX11_pairs cX11_pairs 1 (some .int) 4 [.ref (ad a0)] M (some (.int y.1), y.2) := by
  refine kv_enter (by decide +kernel) (Nat.le_of_ble_eq_true rfl) ?_
  intro x hl hD hz G
  subst hl hD hz
  unfold f_X11_pairs at hf
  have G : KG ad cy x cX11_pairs "NoonGuides" 1 (some (some .int)) 4 := G
  show KV ad cy x (some (.int y.1), y.2) 0 [(0, .ref (ad a0))] [] M
  refine v_aload_n G dX11_pairs_0 0 rfl ?_
  refine gf_11_8 G h0 t_465 (Or.inl rfl) dX11_pairs_1 ?_
  refine v_aload_n G dX11_pairs_4 0 rfl ?_
  refine gf_11_10 G h0 t_467 (Or.inl rfl) dX11_pairs_5 ?_
  refine v_kt (fun hKT => ?_)
  have hk1 := hKT.1 _ h0
  obtain ⟨v2, hcv2, hf⟩ := bd_e hf
  refine v_callV [.ref (ad (M.2.2 a0 10))] G (c_X5_findPairs n (kf_11_19 h0) hk1 hcv2) (kf_11_19 h0) (by decide) rfl rfl rfl t_855 t_856 t_857 t_11 t_858 nm_X5_findPairs (by decide) (by decide) rfl rfl (Nat.le_of_ble_eq_true rfl) dX11_pairs_8 (kv_rv ?_)
  refine v_aload_n G dX11_pairs_11 0 rfl ?_
  refine v_aload_n G dX11_pairs_12 0 rfl ?_
  refine gf_11_8 G h0 t_465 (Or.inl rfl) dX11_pairs_13 ?_
  refine v_aload_n G dX11_pairs_16 0 rfl ?_
  refine gf_11_10 G h0 t_467 (Or.inl rfl) dX11_pairs_17 ?_
  refine v_kt (fun hKT => ?_)
  have hk3 := hKT.1 _ h0
  obtain ⟨v4, hcv4, hf⟩ := bd_e hf
  refine v_callV [.ref (ad (v2.2.2 a0 10))] G (c_X5_countPairs n (kf_11_19 h0) hk3 hcv4) (kf_11_19 h0) (by decide) rfl rfl rfl t_870 t_871 t_872 t_11 t_873 nm_X5_countPairs (by decide) (by decide) rfl rfl (Nat.le_of_ble_eq_true rfl) dX11_pairs_20 (kv_ri ?_)
  obtain ⟨v5, hcv5⟩ : ∃ q, f_X11_tell a0 v4 v2 = q := ⟨_, rfl⟩
  replace hf := lt_e hf hcv5.symm
  refine v_callV [.int v4] G (c_X11_tell h0 hcv5) h0 (by decide) rfl rfl rfl t_521 t_523 t_p0 t_1 t_524 nm_X11_tell (by decide) (by decide) rfl rfl (Nat.le_of_ble_eq_true rfl) dX11_pairs_23 (kv_ri ?_)
  obtain rfl := Option.some.inj hf
  exact v_iret G dX11_pairs_26
abbrev cX11_pairsOwe : ByteArray := prog_1_method_65_code
def yX11_pairsOwe : MethodName := ⟨RX11, "pairsOwe", "()I"⟩
theorem dX11_pairsOwe_0 : dc cX11_pairsOwe 0 (.aload_n 0) 1 1 := ⟨by decide +kernel, rfl⟩
theorem dX11_pairsOwe_1 : dc cX11_pairsOwe 1 (.getfield 60) 3 4 := ⟨by decide +kernel, rfl⟩
theorem dX11_pairsOwe_4 : dc cX11_pairsOwe 4 (.aload_n 0) 1 5 := ⟨by decide +kernel, rfl⟩
theorem dX11_pairsOwe_5 : dc cX11_pairsOwe 5 (.getfield 72) 3 8 := ⟨by decide +kernel, rfl⟩
theorem dX11_pairsOwe_8 : dc cX11_pairsOwe 8 (.invokevirtual 394) 3 11 := ⟨by decide +kernel, rfl⟩
theorem dX11_pairsOwe_11 : dc cX11_pairsOwe 11 (.aload_n 0) 1 12 := ⟨by decide +kernel, rfl⟩
theorem dX11_pairsOwe_12 : dc cX11_pairsOwe 12 (.aload_n 0) 1 13 := ⟨by decide +kernel, rfl⟩
theorem dX11_pairsOwe_13 : dc cX11_pairsOwe 13 (.getfield 60) 3 16 := ⟨by decide +kernel, rfl⟩
theorem dX11_pairsOwe_16 : dc cX11_pairsOwe 16 (.aload_n 0) 1 17 := ⟨by decide +kernel, rfl⟩
theorem dX11_pairsOwe_17 : dc cX11_pairsOwe 17 (.getfield 72) 3 20 := ⟨by decide +kernel, rfl⟩
theorem dX11_pairsOwe_20 : dc cX11_pairsOwe 20 (.invokevirtual 405) 3 23 := ⟨by decide +kernel, rfl⟩
theorem dX11_pairsOwe_23 : dc cX11_pairsOwe 23 (.invokevirtual 108) 3 26 := ⟨by decide +kernel, rfl⟩
theorem dX11_pairsOwe_26 : dc cX11_pairsOwe 26 (.ireturn) 1 27 := ⟨by decide +kernel, rfl⟩
theorem nm_X11_pairsOwe : (yX11_pairsOwe).cls ≠ "java/lang/invoke/MethodHandle" ∧ (yX11_pairsOwe).cls ≠ "java/lang/invoke/VarHandle" ∧ (parseMethodDescriptor (yX11_pairsOwe).desc).map (fun d => d.parameters.length) = some 0 := ⟨by decide +kernel, by decide +kernel, by decide +kernel⟩
set_option maxRecDepth 100000 in
set_option maxHeartbeats 4000000 in
theorem c_X11_pairsOwe {l : Launch} {ad : Nat → Nat} {cy : Nat → ClassId} {D : va_G} {z : Nat} (n : Nat) {a0 : Nat} {M : KM} {y : (Int32 × KM)} (h0 : kty a0 = 11) (hf : f_X11_pairsOwe n a0 M = some y) : KC l ad cy D z yX11_pairsOwe cX11_pairsOwe 1 (some .int) 4 [.ref (ad a0)] M (some (.int y.1), y.2) := by
  refine kv_enter (by decide +kernel) (Nat.le_of_ble_eq_true rfl) ?_
  intro x hl hD hz G
  subst hl hD hz
  unfold f_X11_pairsOwe at hf
  have G : KG ad cy x cX11_pairsOwe "NoonGuides" 1 (some (some .int)) 4 := G
  show KV ad cy x (some (.int y.1), y.2) 0 [(0, .ref (ad a0))] [] M
  refine v_aload_n G dX11_pairsOwe_0 0 rfl ?_
  refine gf_11_8 G h0 t_465 (Or.inl rfl) dX11_pairsOwe_1 ?_
  refine v_aload_n G dX11_pairsOwe_4 0 rfl ?_
  refine gf_11_10 G h0 t_467 (Or.inl rfl) dX11_pairsOwe_5 ?_
  refine v_kt (fun hKT => ?_)
  have hk1 := hKT.1 _ h0
  obtain ⟨v2, hcv2, hf⟩ := bd_e hf
  refine v_callV [.ref (ad (M.2.2 a0 10))] G (c_X5_findPairs n (kf_11_19 h0) hk1 hcv2) (kf_11_19 h0) (by decide) rfl rfl rfl t_855 t_856 t_857 t_11 t_858 nm_X5_findPairs (by decide) (by decide) rfl rfl (Nat.le_of_ble_eq_true rfl) dX11_pairsOwe_8 (kv_rv ?_)
  refine v_aload_n G dX11_pairsOwe_11 0 rfl ?_
  refine v_aload_n G dX11_pairsOwe_12 0 rfl ?_
  refine gf_11_8 G h0 t_465 (Or.inl rfl) dX11_pairsOwe_13 ?_
  refine v_aload_n G dX11_pairsOwe_16 0 rfl ?_
  refine gf_11_10 G h0 t_467 (Or.inl rfl) dX11_pairsOwe_17 ?_
  refine v_kt (fun hKT => ?_)
  have hk3 := hKT.1 _ h0
  obtain ⟨v4, hcv4, hf⟩ := bd_e hf
  refine v_callV [.ref (ad (v2.2.2 a0 10))] G (c_X5_sumOwed n (kf_11_19 h0) hk3 hcv4) (kf_11_19 h0) (by decide) rfl rfl rfl t_878 t_879 t_880 t_11 t_881 nm_X5_sumOwed (by decide) (by decide) rfl rfl (Nat.le_of_ble_eq_true rfl) dX11_pairsOwe_20 (kv_ri ?_)
  obtain ⟨v5, hcv5⟩ : ∃ q, f_X11_tell a0 v4 v2 = q := ⟨_, rfl⟩
  replace hf := lt_e hf hcv5.symm
  refine v_callV [.int v4] G (c_X11_tell h0 hcv5) h0 (by decide) rfl rfl rfl t_521 t_523 t_p0 t_1 t_524 nm_X11_tell (by decide) (by decide) rfl rfl (Nat.le_of_ble_eq_true rfl) dX11_pairsOwe_23 (kv_ri ?_)
  obtain rfl := Option.some.inj hf
  exact v_iret G dX11_pairsOwe_26
abbrev cX11_lostIn : ByteArray := prog_1_method_70_code
def yX11_lostIn : MethodName := ⟨RX11, "lostIn", "(I)I"⟩
theorem dX11_lostIn_0 : dc cX11_lostIn 0 (.iload_n 1) 1 1 := ⟨by decide +kernel, rfl⟩
theorem dX11_lostIn_1 : dc cX11_lostIn 1 (.ifCond .lt 10) 3 4 := ⟨by decide +kernel, rfl⟩
theorem dX11_lostIn_4 : dc cX11_lostIn 4 (.iload_n 1) 1 5 := ⟨by decide +kernel, rfl⟩
theorem dX11_lostIn_5 : dc cX11_lostIn 5 (.sipush 999) 3 8 := ⟨by decide +kernel, rfl⟩
theorem dX11_lostIn_8 : dc cX11_lostIn 8 (.if_icmp .le 9) 3 11 := ⟨by decide +kernel, rfl⟩
theorem dX11_lostIn_11 : dc cX11_lostIn 11 (.aload_n 0) 1 12 := ⟨by decide +kernel, rfl⟩
theorem dX11_lostIn_12 : dc cX11_lostIn 12 (.iconst 5) 1 13 := ⟨by decide +kernel, rfl⟩
theorem dX11_lostIn_13 : dc cX11_lostIn 13 (.invokevirtual 104) 3 16 := ⟨by decide +kernel, rfl⟩
theorem dX11_lostIn_16 : dc cX11_lostIn 16 (.ireturn) 1 17 := ⟨by decide +kernel, rfl⟩
theorem dX11_lostIn_17 : dc cX11_lostIn 17 (.aload_n 0) 1 18 := ⟨by decide +kernel, rfl⟩
theorem dX11_lostIn_18 : dc cX11_lostIn 18 (.aload_n 0) 1 19 := ⟨by decide +kernel, rfl⟩
theorem dX11_lostIn_19 : dc cX11_lostIn 19 (.getfield 72) 3 22 := ⟨by decide +kernel, rfl⟩
theorem dX11_lostIn_22 : dc cX11_lostIn 22 (.iload_n 1) 1 23 := ⟨by decide +kernel, rfl⟩
theorem dX11_lostIn_23 : dc cX11_lostIn 23 (.aload_n 0) 1 24 := ⟨by decide +kernel, rfl⟩
theorem dX11_lostIn_24 : dc cX11_lostIn 24 (.getfield 72) 3 27 := ⟨by decide +kernel, rfl⟩
theorem dX11_lostIn_27 : dc cX11_lostIn 27 (.getfield 196) 3 30 := ⟨by decide +kernel, rfl⟩
theorem dX11_lostIn_30 : dc cX11_lostIn 30 (.invokevirtual 422) 3 33 := ⟨by decide +kernel, rfl⟩
theorem dX11_lostIn_33 : dc cX11_lostIn 33 (.invokevirtual 108) 3 36 := ⟨by decide +kernel, rfl⟩
theorem dX11_lostIn_36 : dc cX11_lostIn 36 (.ireturn) 1 37 := ⟨by decide +kernel, rfl⟩
theorem nm_X11_lostIn : (yX11_lostIn).cls ≠ "java/lang/invoke/MethodHandle" ∧ (yX11_lostIn).cls ≠ "java/lang/invoke/VarHandle" ∧ (parseMethodDescriptor (yX11_lostIn).desc).map (fun d => d.parameters.length) = some 1 := ⟨by decide +kernel, by decide +kernel, by decide +kernel⟩
set_option maxRecDepth 100000 in
set_option maxHeartbeats 4000000 in
theorem c_X11_lostIn {l : Launch} {ad : Nat → Nat} {cy : Nat → ClassId} {D : va_G} {z : Nat} (n : Nat) {a0 : Nat} {p1 : Int32} {M : KM} {y : (Int32 × KM)} (h0 : kty a0 = 11) (hf : f_X11_lostIn n a0 p1 M = some y) : KC l ad cy D z yX11_lostIn cX11_lostIn 2 (some .int) 5 [.ref (ad a0), .int p1] M (some (.int y.1), y.2) := by
  refine kv_enter (by decide +kernel) (Nat.le_of_ble_eq_true rfl) ?_
  intro x hl hD hz G
  subst hl hD hz
  unfold f_X11_lostIn at hf
  have G : KG ad cy x cX11_lostIn "NoonGuides" 2 (some (some .int)) 5 := G
  show KV ad cy x (some (.int y.1), y.2) 0 [(0, .ref (ad a0)), (1, .int p1)] [] M
  refine v_iload_n G dX11_lostIn_0 1 rfl ?_
  obtain ⟨j11, ej11, hf⟩ := lt_j hf
  have hj11 : j11 = some y → KV ad cy x (some (.int y.1), y.2) 11 [(0, .ref (ad a0))] [] M := by
    intro hf
    rw [ej11] at hf
    refine v_aload_n G dX11_lostIn_11 0 rfl ?_
    refine v_iconst (5 : Int32) G dX11_lostIn_12 (by decide) ?_
    obtain ⟨v1, hcv1⟩ : ∃ q, f_X11_refuse a0 (5 : Int32) M = q := ⟨_, rfl⟩
    replace hf := lt_e hf hcv1.symm
    refine v_callV [.int (5 : Int32)] G (c_X11_refuse h0 hcv1) h0 (by decide) rfl rfl rfl t_557 t_559 t_p2 t_1 t_560 nm_X11_refuse (by decide) (by decide) rfl rfl (Nat.le_of_ble_eq_true rfl) dX11_lostIn_13 (kv_ri ?_)
    obtain rfl := Option.some.inj hf
    exact v_iret G dX11_lostIn_16
  refine v_if_lt 11 G dX11_lostIn_1 (by decide) (fun h7 => ?_) (fun h7 => ?_)
  · replace hf := (if_pos h7).symm.trans hf
    refine v_sub _ [0] rfl ?_
    exact hj11 hf
  · replace hf := (if_neg h7).symm.trans hf
    refine v_iload_n G dX11_lostIn_4 1 rfl ?_
    refine v_sipush (999 : Int32) G dX11_lostIn_5 (by decide) ?_
    refine v_icmp_le 17 G dX11_lostIn_8 (by decide) (fun h6 => ?_) (fun h6 => ?_)
    · replace hf := (if_pos h6).symm.trans hf
      refine v_aload_n G dX11_lostIn_17 0 rfl ?_
      refine v_aload_n G dX11_lostIn_18 0 rfl ?_
      refine gf_11_10 G h0 t_467 (Or.inl rfl) dX11_lostIn_19 ?_
      refine v_kt (fun hKT => ?_)
      have hk2 := hKT.1 _ h0
      refine v_iload_n G dX11_lostIn_22 1 rfl ?_
      refine v_aload_n G dX11_lostIn_23 0 rfl ?_
      refine gf_11_10 G h0 t_467 (Or.inl rfl) dX11_lostIn_24 ?_
      refine v_kt (fun hKT => ?_)
      have hk3 := hKT.1 _ h0
      refine gf_2_6 G hk3 t_378 (Or.inl rfl) dX11_lostIn_27 ?_
      obtain ⟨v4, hcv4, hf⟩ := bd_e hf
      refine v_callV [.int p1, .ref (ad ((M.2.2 a0 10) + 7))] G (c_X2_lostWithin n hk2 (kf_2_7 hk3) hcv4) hk2 (by decide) rfl rfl rfl t_889 t_890 t_891 t_13 t_892 nm_X2_lostWithin (by decide) (by decide) rfl rfl (Nat.le_of_ble_eq_true rfl) dX11_lostIn_30 (kv_ri ?_)
      obtain ⟨v5, hcv5⟩ : ∃ q, f_X11_tell a0 v4 M = q := ⟨_, rfl⟩
      replace hf := lt_e hf hcv5.symm
      refine v_callV [.int v4] G (c_X11_tell h0 hcv5) h0 (by decide) rfl rfl rfl t_521 t_523 t_p0 t_1 t_524 nm_X11_tell (by decide) (by decide) rfl rfl (Nat.le_of_ble_eq_true rfl) dX11_lostIn_33 (kv_ri ?_)
      obtain rfl := Option.some.inj hf
      exact v_iret G dX11_lostIn_36
    · replace hf := (if_neg h6).symm.trans hf
      refine v_sub _ [0] rfl ?_
      exact hj11 hf
abbrev cX11_lostBy : ByteArray := prog_1_method_71_code
def yX11_lostBy : MethodName := ⟨RX11, "lostBy", "(III)I"⟩
theorem dX11_lostBy_0 : dc cX11_lostBy 0 (.iload_n 1) 1 1 := ⟨by decide +kernel, rfl⟩
theorem dX11_lostBy_1 : dc cX11_lostBy 1 (.ifCond .lt 18) 3 4 := ⟨by decide +kernel, rfl⟩
theorem dX11_lostBy_4 : dc cX11_lostBy 4 (.iload_n 1) 1 5 := ⟨by decide +kernel, rfl⟩
theorem dX11_lostBy_5 : dc cX11_lostBy 5 (.sipush 999) 3 8 := ⟨by decide +kernel, rfl⟩
theorem dX11_lostBy_8 : dc cX11_lostBy 8 (.if_icmp .gt 11) 3 11 := ⟨by decide +kernel, rfl⟩
theorem dX11_lostBy_11 : dc cX11_lostBy 11 (.iload_n 2) 1 12 := ⟨by decide +kernel, rfl⟩
theorem dX11_lostBy_12 : dc cX11_lostBy 12 (.iload_n 3) 1 13 := ⟨by decide +kernel, rfl⟩
theorem dX11_lostBy_13 : dc cX11_lostBy 13 (.invokestatic 327) 3 16 := ⟨by decide +kernel, rfl⟩
theorem dX11_lostBy_16 : dc cX11_lostBy 16 (.ifCond .ne 9) 3 19 := ⟨by decide +kernel, rfl⟩
theorem dX11_lostBy_19 : dc cX11_lostBy 19 (.aload_n 0) 1 20 := ⟨by decide +kernel, rfl⟩
theorem dX11_lostBy_20 : dc cX11_lostBy 20 (.iconst 5) 1 21 := ⟨by decide +kernel, rfl⟩
theorem dX11_lostBy_21 : dc cX11_lostBy 21 (.invokevirtual 104) 3 24 := ⟨by decide +kernel, rfl⟩
theorem dX11_lostBy_24 : dc cX11_lostBy 24 (.ireturn) 1 25 := ⟨by decide +kernel, rfl⟩
theorem dX11_lostBy_25 : dc cX11_lostBy 25 (.aload_n 0) 1 26 := ⟨by decide +kernel, rfl⟩
theorem dX11_lostBy_26 : dc cX11_lostBy 26 (.getfield 67) 3 29 := ⟨by decide +kernel, rfl⟩
theorem dX11_lostBy_29 : dc cX11_lostBy 29 (.iload_n 2) 1 30 := ⟨by decide +kernel, rfl⟩
theorem dX11_lostBy_30 : dc cX11_lostBy 30 (.iload_n 3) 1 31 := ⟨by decide +kernel, rfl⟩
theorem dX11_lostBy_31 : dc cX11_lostBy 31 (.invokevirtual 330) 3 34 := ⟨by decide +kernel, rfl⟩
theorem dX11_lostBy_34 : dc cX11_lostBy 34 (.aload_n 0) 1 35 := ⟨by decide +kernel, rfl⟩
theorem dX11_lostBy_35 : dc cX11_lostBy 35 (.aload_n 0) 1 36 := ⟨by decide +kernel, rfl⟩
theorem dX11_lostBy_36 : dc cX11_lostBy 36 (.getfield 72) 3 39 := ⟨by decide +kernel, rfl⟩
theorem dX11_lostBy_39 : dc cX11_lostBy 39 (.iload_n 1) 1 40 := ⟨by decide +kernel, rfl⟩
theorem dX11_lostBy_40 : dc cX11_lostBy 40 (.aload_n 0) 1 41 := ⟨by decide +kernel, rfl⟩
theorem dX11_lostBy_41 : dc cX11_lostBy 41 (.getfield 67) 3 44 := ⟨by decide +kernel, rfl⟩
theorem dX11_lostBy_44 : dc cX11_lostBy 44 (.invokevirtual 422) 3 47 := ⟨by decide +kernel, rfl⟩
theorem dX11_lostBy_47 : dc cX11_lostBy 47 (.invokevirtual 108) 3 50 := ⟨by decide +kernel, rfl⟩
theorem dX11_lostBy_50 : dc cX11_lostBy 50 (.ireturn) 1 51 := ⟨by decide +kernel, rfl⟩
theorem nm_X11_lostBy : (yX11_lostBy).cls ≠ "java/lang/invoke/MethodHandle" ∧ (yX11_lostBy).cls ≠ "java/lang/invoke/VarHandle" ∧ (parseMethodDescriptor (yX11_lostBy).desc).map (fun d => d.parameters.length) = some 3 := ⟨by decide +kernel, by decide +kernel, by decide +kernel⟩
set_option maxRecDepth 100000 in
set_option maxHeartbeats 4000000 in
theorem c_X11_lostBy {l : Launch} {ad : Nat → Nat} {cy : Nat → ClassId} {D : va_G} {z : Nat} (n : Nat) {a0 : Nat} {p1 : Int32} {p2 : Int32} {p3 : Int32} {M : KM} {y : (Int32 × KM)} (h0 : kty a0 = 11) (hf : f_X11_lostBy n a0 p1 p2 p3 M = some y) : KC l ad cy D z yX11_lostBy cX11_lostBy 4 (some .int) 5 [.ref (ad a0), .int p1, .int p2, .int p3] M (some (.int y.1), y.2) := by
  refine kv_enter (by decide +kernel) (Nat.le_of_ble_eq_true rfl) ?_
  intro x hl hD hz G
  subst hl hD hz
  unfold f_X11_lostBy at hf
  have G : KG ad cy x cX11_lostBy "NoonGuides" 4 (some (some .int)) 5 := G
  show KV ad cy x (some (.int y.1), y.2) 0 [(0, .ref (ad a0)), (1, .int p1), (2, .int p2), (3, .int p3)] [] M
  refine v_iload_n G dX11_lostBy_0 1 rfl ?_
  obtain ⟨j19, ej19, hf⟩ := lt_j hf
  have hj19 : j19 = some y → KV ad cy x (some (.int y.1), y.2) 19 [(0, .ref (ad a0))] [] M := by
    intro hf
    rw [ej19] at hf
    refine v_aload_n G dX11_lostBy_19 0 rfl ?_
    refine v_iconst (5 : Int32) G dX11_lostBy_20 (by decide) ?_
    obtain ⟨v1, hcv1⟩ : ∃ q, f_X11_refuse a0 (5 : Int32) M = q := ⟨_, rfl⟩
    replace hf := lt_e hf hcv1.symm
    refine v_callV [.int (5 : Int32)] G (c_X11_refuse h0 hcv1) h0 (by decide) rfl rfl rfl t_557 t_559 t_p2 t_1 t_560 nm_X11_refuse (by decide) (by decide) rfl rfl (Nat.le_of_ble_eq_true rfl) dX11_lostBy_21 (kv_ri ?_)
    obtain rfl := Option.some.inj hf
    exact v_iret G dX11_lostBy_24
  refine v_if_lt 19 G dX11_lostBy_1 (by decide) (fun h9 => ?_) (fun h9 => ?_)
  · replace hf := (if_pos h9).symm.trans hf
    refine v_sub _ [0] rfl ?_
    exact hj19 hf
  · replace hf := (if_neg h9).symm.trans hf
    refine v_iload_n G dX11_lostBy_4 1 rfl ?_
    refine v_sipush (999 : Int32) G dX11_lostBy_5 (by decide) ?_
    refine v_icmp_gt 19 G dX11_lostBy_8 (by decide) (fun h8 => ?_) (fun h8 => ?_)
    · replace hf := (if_pos h8).symm.trans hf
      refine v_sub _ [0] rfl ?_
      exact hj19 hf
    · replace hf := (if_neg h8).symm.trans hf
      refine v_iload_n G dX11_lostBy_11 2 rfl ?_
      refine v_iload_n G dX11_lostBy_12 3 rfl ?_
      obtain ⟨v2, hcv2⟩ : ∃ q, f_X1_canBe p2 p3 M = q := ⟨_, rfl⟩
      replace hf := lt_e hf hcv2.symm
      refine v_callS [.int p2, .int p3] G (c_X1_canBe hcv2) t_897 t_898 t_12 t_899 nm_X1_canBe (by decide) (by decide) rfl rfl (Nat.le_of_ble_eq_true rfl) dX11_lostBy_13 (kv_ri ?_)
      refine v_if_ne 25 G dX11_lostBy_16 (by decide) (fun h7 => ?_) (fun h7 => ?_)
      · replace hf := (if_neg h7).symm.trans hf
        refine v_aload_n G dX11_lostBy_25 0 rfl ?_
        refine gf_11_9 G h0 t_466 (Or.inl rfl) dX11_lostBy_26 ?_
        refine v_iload_n G dX11_lostBy_29 2 rfl ?_
        refine v_iload_n G dX11_lostBy_30 3 rfl ?_
        obtain ⟨v3, hcv3⟩ : ∃ q, f_X1_set (a0 + 22) p2 p3 M = q := ⟨_, rfl⟩
        replace hf := lt_e hf hcv3.symm
        refine v_callV [.int p2, .int p3] G (c_X1_set (kf_11_22 h0) hcv3) (kf_11_22 h0) (by decide) rfl rfl rfl t_900 t_901 t_902 t_12 t_903 nm_X1_set (by decide) (by decide) rfl rfl (Nat.le_of_ble_eq_true rfl) dX11_lostBy_31 (kv_rv ?_)
        refine v_aload_n G dX11_lostBy_34 0 rfl ?_
        refine v_aload_n G dX11_lostBy_35 0 rfl ?_
        refine gf_11_10 G h0 t_467 (Or.inl rfl) dX11_lostBy_36 ?_
        refine v_kt (fun hKT => ?_)
        have hk4 := hKT.1 _ h0
        refine v_iload_n G dX11_lostBy_39 1 rfl ?_
        refine v_aload_n G dX11_lostBy_40 0 rfl ?_
        refine gf_11_9 G h0 t_466 (Or.inl rfl) dX11_lostBy_41 ?_
        obtain ⟨v5, hcv5, hf⟩ := bd_e hf
        refine v_callV [.int p1, .ref (ad (a0 + 22))] G (c_X2_lostWithin n hk4 (kf_11_22 h0) hcv5) hk4 (by decide) rfl rfl rfl t_889 t_890 t_891 t_13 t_892 nm_X2_lostWithin (by decide) (by decide) rfl rfl (Nat.le_of_ble_eq_true rfl) dX11_lostBy_44 (kv_ri ?_)
        obtain ⟨v6, hcv6⟩ : ∃ q, f_X11_tell a0 v5 v3 = q := ⟨_, rfl⟩
        replace hf := lt_e hf hcv6.symm
        refine v_callV [.int v5] G (c_X11_tell h0 hcv6) h0 (by decide) rfl rfl rfl t_521 t_523 t_p0 t_1 t_524 nm_X11_tell (by decide) (by decide) rfl rfl (Nat.le_of_ble_eq_true rfl) dX11_lostBy_47 (kv_ri ?_)
        obtain rfl := Option.some.inj hf
        exact v_iret G dX11_lostBy_50
      · replace hf := (if_pos h7).symm.trans hf
        refine v_sub _ [0] rfl ?_
        exact hj19 hf
abbrev cX11_bestFrom : ByteArray := prog_1_method_72_code
def yX11_bestFrom : MethodName := ⟨RX11, "bestFrom", "(I)I"⟩
theorem dX11_bestFrom_0 : dc cX11_bestFrom 0 (.iload_n 1) 1 1 := ⟨by decide +kernel, rfl⟩
theorem dX11_bestFrom_1 : dc cX11_bestFrom 1 (.ifCond .lt 10) 3 4 := ⟨by decide +kernel, rfl⟩
theorem dX11_bestFrom_4 : dc cX11_bestFrom 4 (.iload_n 1) 1 5 := ⟨by decide +kernel, rfl⟩
theorem dX11_bestFrom_5 : dc cX11_bestFrom 5 (.sipush 999) 3 8 := ⟨by decide +kernel, rfl⟩
theorem dX11_bestFrom_8 : dc cX11_bestFrom 8 (.if_icmp .le 9) 3 11 := ⟨by decide +kernel, rfl⟩
theorem dX11_bestFrom_11 : dc cX11_bestFrom 11 (.aload_n 0) 1 12 := ⟨by decide +kernel, rfl⟩
theorem dX11_bestFrom_12 : dc cX11_bestFrom 12 (.iconst 5) 1 13 := ⟨by decide +kernel, rfl⟩
theorem dX11_bestFrom_13 : dc cX11_bestFrom 13 (.invokevirtual 104) 3 16 := ⟨by decide +kernel, rfl⟩
theorem dX11_bestFrom_16 : dc cX11_bestFrom 16 (.ireturn) 1 17 := ⟨by decide +kernel, rfl⟩
theorem dX11_bestFrom_17 : dc cX11_bestFrom 17 (.aload_n 0) 1 18 := ⟨by decide +kernel, rfl⟩
theorem dX11_bestFrom_18 : dc cX11_bestFrom 18 (.getfield 72) 3 21 := ⟨by decide +kernel, rfl⟩
theorem dX11_bestFrom_21 : dc cX11_bestFrom 21 (.getfield 196) 3 24 := ⟨by decide +kernel, rfl⟩
theorem dX11_bestFrom_24 : dc cX11_bestFrom 24 (.getfield 202) 3 27 := ⟨by decide +kernel, rfl⟩
theorem dX11_bestFrom_27 : dc cX11_bestFrom 27 (.aload_n 0) 1 28 := ⟨by decide +kernel, rfl⟩
theorem dX11_bestFrom_28 : dc cX11_bestFrom 28 (.getfield 72) 3 31 := ⟨by decide +kernel, rfl⟩
theorem dX11_bestFrom_31 : dc cX11_bestFrom 31 (.getfield 196) 3 34 := ⟨by decide +kernel, rfl⟩
theorem dX11_bestFrom_34 : dc cX11_bestFrom 34 (.getfield 199) 3 37 := ⟨by decide +kernel, rfl⟩
theorem dX11_bestFrom_37 : dc cX11_bestFrom 37 (.isub) 1 38 := ⟨by decide +kernel, rfl⟩
theorem dX11_bestFrom_38 : dc cX11_bestFrom 38 (.istore_n 2) 1 39 := ⟨by decide +kernel, rfl⟩
theorem dX11_bestFrom_39 : dc cX11_bestFrom 39 (.iconst 0) 1 40 := ⟨by decide +kernel, rfl⟩
theorem dX11_bestFrom_40 : dc cX11_bestFrom 40 (.istore_n 3) 1 41 := ⟨by decide +kernel, rfl⟩
theorem dX11_bestFrom_41 : dc cX11_bestFrom 41 (.ldc 111) 2 43 := ⟨by decide +kernel, rfl⟩
theorem dX11_bestFrom_43 : dc cX11_bestFrom 43 (.istore 4) 2 45 := ⟨by decide +kernel, rfl⟩
theorem dX11_bestFrom_45 : dc cX11_bestFrom 45 (.iconst 0) 1 46 := ⟨by decide +kernel, rfl⟩
theorem dX11_bestFrom_46 : dc cX11_bestFrom 46 (.istore 5) 2 48 := ⟨by decide +kernel, rfl⟩
theorem dX11_bestFrom_48 : dc cX11_bestFrom 48 (.iload 5) 2 50 := ⟨by decide +kernel, rfl⟩
theorem dX11_bestFrom_50 : dc cX11_bestFrom 50 (.bipush 23) 2 52 := ⟨by decide +kernel, rfl⟩
theorem dX11_bestFrom_52 : dc cX11_bestFrom 52 (.if_icmp .gt 55) 3 55 := ⟨by decide +kernel, rfl⟩
theorem dX11_bestFrom_55 : dc cX11_bestFrom 55 (.aload_n 0) 1 56 := ⟨by decide +kernel, rfl⟩
theorem dX11_bestFrom_56 : dc cX11_bestFrom 56 (.getfield 67) 3 59 := ⟨by decide +kernel, rfl⟩
theorem dX11_bestFrom_59 : dc cX11_bestFrom 59 (.iload 5) 2 61 := ⟨by decide +kernel, rfl⟩
theorem dX11_bestFrom_61 : dc cX11_bestFrom 61 (.bipush 24) 2 63 := ⟨by decide +kernel, rfl⟩
theorem dX11_bestFrom_63 : dc cX11_bestFrom 63 (.iload 5) 2 65 := ⟨by decide +kernel, rfl⟩
theorem dX11_bestFrom_65 : dc cX11_bestFrom 65 (.iload_n 2) 1 66 := ⟨by decide +kernel, rfl⟩
theorem dX11_bestFrom_66 : dc cX11_bestFrom 66 (.iadd) 1 67 := ⟨by decide +kernel, rfl⟩
theorem dX11_bestFrom_67 : dc cX11_bestFrom 67 (.invokestatic 426) 3 70 := ⟨by decide +kernel, rfl⟩
theorem dX11_bestFrom_70 : dc cX11_bestFrom 70 (.invokevirtual 330) 3 73 := ⟨by decide +kernel, rfl⟩
theorem dX11_bestFrom_73 : dc cX11_bestFrom 73 (.aload_n 0) 1 74 := ⟨by decide +kernel, rfl⟩
theorem dX11_bestFrom_74 : dc cX11_bestFrom 74 (.getfield 72) 3 77 := ⟨by decide +kernel, rfl⟩
theorem dX11_bestFrom_77 : dc cX11_bestFrom 77 (.iload_n 1) 1 78 := ⟨by decide +kernel, rfl⟩
theorem dX11_bestFrom_78 : dc cX11_bestFrom 78 (.aload_n 0) 1 79 := ⟨by decide +kernel, rfl⟩
theorem dX11_bestFrom_79 : dc cX11_bestFrom 79 (.getfield 67) 3 82 := ⟨by decide +kernel, rfl⟩
theorem dX11_bestFrom_82 : dc cX11_bestFrom 82 (.invokevirtual 422) 3 85 := ⟨by decide +kernel, rfl⟩
theorem dX11_bestFrom_85 : dc cX11_bestFrom 85 (.istore 6) 2 87 := ⟨by decide +kernel, rfl⟩
theorem dX11_bestFrom_87 : dc cX11_bestFrom 87 (.iload 6) 2 89 := ⟨by decide +kernel, rfl⟩
theorem dX11_bestFrom_89 : dc cX11_bestFrom 89 (.iload 4) 2 91 := ⟨by decide +kernel, rfl⟩
theorem dX11_bestFrom_91 : dc cX11_bestFrom 91 (.if_icmp .ge 10) 3 94 := ⟨by decide +kernel, rfl⟩
theorem dX11_bestFrom_94 : dc cX11_bestFrom 94 (.iload 6) 2 96 := ⟨by decide +kernel, rfl⟩
theorem dX11_bestFrom_96 : dc cX11_bestFrom 96 (.istore 4) 2 98 := ⟨by decide +kernel, rfl⟩
theorem dX11_bestFrom_98 : dc cX11_bestFrom 98 (.iload 5) 2 100 := ⟨by decide +kernel, rfl⟩
theorem dX11_bestFrom_100 : dc cX11_bestFrom 100 (.istore_n 3) 1 101 := ⟨by decide +kernel, rfl⟩
theorem dX11_bestFrom_101 : dc cX11_bestFrom 101 (.iinc 5 1) 3 104 := ⟨by decide +kernel, rfl⟩
theorem dX11_bestFrom_104 : dc cX11_bestFrom 104 (.goto (-56)) 3 107 := ⟨by decide +kernel, rfl⟩
theorem dX11_bestFrom_107 : dc cX11_bestFrom 107 (.aload_n 0) 1 108 := ⟨by decide +kernel, rfl⟩
theorem dX11_bestFrom_108 : dc cX11_bestFrom 108 (.iload_n 3) 1 109 := ⟨by decide +kernel, rfl⟩
theorem dX11_bestFrom_109 : dc cX11_bestFrom 109 (.invokevirtual 108) 3 112 := ⟨by decide +kernel, rfl⟩
theorem dX11_bestFrom_112 : dc cX11_bestFrom 112 (.ireturn) 1 113 := ⟨by decide +kernel, rfl⟩
theorem nm_X11_bestFrom : (yX11_bestFrom).cls ≠ "java/lang/invoke/MethodHandle" ∧ (yX11_bestFrom).cls ≠ "java/lang/invoke/VarHandle" ∧ (parseMethodDescriptor (yX11_bestFrom).desc).map (fun d => d.parameters.length) = some 1 := ⟨by decide +kernel, by decide +kernel, by decide +kernel⟩
set_option maxRecDepth 100000 in
set_option maxHeartbeats 4000000 in
theorem s_X11_bestFrom_48 {ad : Nat → Nat} {cy : Nat → ClassId} {x : KX} (G : KG ad cy x cX11_bestFrom "NoonGuides" 7 (some (some .int)) 5) {a0 : Nat} {c1 : Int32} {c2 : Int32} (h0 : kty a0 = 11) {k107 : Int32 → KM → Option (Int32 × KM)} {y : (Int32 × KM)} (hk107 : ∀ (u3 : Int32) (M : KM), k107 u3 M = some y → KV ad cy x (some (.int y.1), y.2) 107 [(0, .ref (ad a0)), (3, .int u3)] [] M) : ∀ (n : Nat) (w3 : Int32) (w4 : Int32) (w5 : Int32) (M : KM), lp_X11_bestFrom_48 n a0 c1 c2 w3 w4 w5 M k107 = some y → KV ad cy x (some (.int y.1), y.2) 48 [(0, .ref (ad a0)), (1, .int c1), (2, .int c2), (3, .int w3), (4, .int w4), (5, .int w5)] [] M := by
  intro n
  induction n with
  | zero =>
    intro w3 w4 w5 M hf
    cases hf
  | succ n ih =>
    intro w3 w4 w5 M hf
    rw [lp_X11_bestFrom_48] at hf
    refine v_iload G dX11_bestFrom_48 5 rfl ?_
    refine v_bipush (23 : Int32) G dX11_bestFrom_50 (by decide) ?_
    refine v_icmp_gt 107 G dX11_bestFrom_52 (by decide) (fun h13 => ?_) (fun h13 => ?_)
    · replace hf := (if_pos h13).symm.trans hf
      refine v_sub _ [0, 3] rfl ?_
      exact hk107 w3 M hf
    · replace hf := (if_neg h13).symm.trans hf
      refine v_aload_n G dX11_bestFrom_55 0 rfl ?_
      refine gf_11_9 G h0 t_466 (Or.inl rfl) dX11_bestFrom_56 ?_
      refine v_iload G dX11_bestFrom_59 5 rfl ?_
      refine v_bipush (24 : Int32) G dX11_bestFrom_61 (by decide) ?_
      refine v_iload G dX11_bestFrom_63 5 rfl ?_
      refine v_iload_n G dX11_bestFrom_65 2 rfl ?_
      refine v_iadd G dX11_bestFrom_66 ?_
      refine v_mmin G (by decide) t_908 t_666 t_17 t_667 (Nat.le_of_ble_eq_true rfl) dX11_bestFrom_67 ?_
      refine v_nmi (fun v5 ev5 => ?_)
      replace hf := lt_e hf ev5
      obtain ⟨v6, hcv6⟩ : ∃ q, f_X1_set (a0 + 22) w5 v5 M = q := ⟨_, rfl⟩
      replace hf := lt_e hf hcv6.symm
      refine v_callV [.int w5, .int v5] G (c_X1_set (kf_11_22 h0) hcv6) (kf_11_22 h0) (by decide) rfl rfl rfl t_900 t_901 t_902 t_12 t_903 nm_X1_set (by decide) (by decide) rfl rfl (Nat.le_of_ble_eq_true rfl) dX11_bestFrom_70 (kv_rv ?_)
      refine v_aload_n G dX11_bestFrom_73 0 rfl ?_
      refine gf_11_10 G h0 t_467 (Or.inl rfl) dX11_bestFrom_74 ?_
      refine v_kt (fun hKT => ?_)
      have hk7 := hKT.1 _ h0
      refine v_iload_n G dX11_bestFrom_77 1 rfl ?_
      refine v_aload_n G dX11_bestFrom_78 0 rfl ?_
      refine gf_11_9 G h0 t_466 (Or.inl rfl) dX11_bestFrom_79 ?_
      obtain ⟨v8, hcv8, hf⟩ := bd_e hf
      refine v_callV [.int c1, .ref (ad (a0 + 22))] G (c_X2_lostWithin n hk7 (kf_11_22 h0) hcv8) hk7 (by decide) rfl rfl rfl t_889 t_890 t_891 t_13 t_892 nm_X2_lostWithin (by decide) (by decide) rfl rfl (Nat.le_of_ble_eq_true rfl) dX11_bestFrom_82 (kv_ri ?_)
      refine v_istore [(6, .int v8), (0, .ref (ad a0)), (1, .int c1), (2, .int c2), (3, .int w3), (4, .int w4), (5, .int w5)] G dX11_bestFrom_85 (by decide) rfl ?_
      refine v_iload G dX11_bestFrom_87 0 rfl ?_
      refine v_iload G dX11_bestFrom_89 5 rfl ?_
      obtain ⟨j101, ej101, hf⟩ := lt_j hf
      have hj101 : ∀ (x9 : Int32) (x10 : Int32), j101 x9 x10 = some y → KV ad cy x (some (.int y.1), y.2) 101 [(0, .ref (ad a0)), (1, .int c1), (2, .int c2), (3, .int x9), (4, .int x10), (5, .int w5)] [] v6 := by
        intro x9 x10 hf
        rw [ej101] at hf
        obtain ⟨v11, ev11⟩ : ∃ q : Int32, q = w5 + (1 : Int32) := ⟨_, rfl⟩
        replace hf := lt_e hf ev11
        refine v_iinc v11 [(5, .int v11), (0, .ref (ad a0)), (1, .int c1), (2, .int c2), (3, .int x9), (4, .int x10)] G dX11_bestFrom_101 5 rfl (by rw [ev11]; rfl) (by decide) rfl ?_
        refine v_goto 48 G dX11_bestFrom_104 (by decide) ?_
        refine v_sub _ [1, 2, 3, 4, 5, 0] rfl ?_
        exact ih x9 x10 v11 v6 hf
      refine v_icmp_ge 101 G dX11_bestFrom_91 (by decide) (fun h12 => ?_) (fun h12 => ?_)
      · replace hf := (if_pos h12).symm.trans hf
        refine v_sub _ [1, 2, 3, 4, 5, 6] rfl ?_
        exact hj101 w3 w4 hf
      · replace hf := (if_neg h12).symm.trans hf
        refine v_iload G dX11_bestFrom_94 0 rfl ?_
        refine v_istore [(4, .int v8), (6, .int v8), (0, .ref (ad a0)), (1, .int c1), (2, .int c2), (3, .int w3), (5, .int w5)] G dX11_bestFrom_96 (by decide) rfl ?_
        refine v_iload G dX11_bestFrom_98 6 rfl ?_
        refine v_istore_n [(3, .int w5), (4, .int v8), (6, .int v8), (0, .ref (ad a0)), (1, .int c1), (2, .int c2), (5, .int w5)] G dX11_bestFrom_100 (by decide) rfl ?_
        refine v_sub _ [3, 4, 5, 0, 1, 6] rfl ?_
        exact hj101 w5 v8 hf
set_option maxRecDepth 100000 in
set_option maxHeartbeats 4000000 in
theorem c_X11_bestFrom {l : Launch} {ad : Nat → Nat} {cy : Nat → ClassId} {D : va_G} {z : Nat} (n : Nat) {a0 : Nat} {p1 : Int32} {M : KM} {y : (Int32 × KM)} (h0 : kty a0 = 11) (hf : f_X11_bestFrom n a0 p1 M = some y) : KC l ad cy D z yX11_bestFrom cX11_bestFrom 7 (some .int) 5 [.ref (ad a0), .int p1] M (some (.int y.1), y.2) := by
  refine kv_enter (by decide +kernel) (Nat.le_of_ble_eq_true rfl) ?_
  intro x hl hD hz G
  subst hl hD hz
  unfold f_X11_bestFrom at hf
  have G : KG ad cy x cX11_bestFrom "NoonGuides" 7 (some (some .int)) 5 := G
  show KV ad cy x (some (.int y.1), y.2) 0 [(0, .ref (ad a0)), (1, .int p1)] [] M
  refine v_iload_n G dX11_bestFrom_0 1 rfl ?_
  obtain ⟨j11, ej11, hf⟩ := lt_j hf
  have hj11 : j11 = some y → KV ad cy x (some (.int y.1), y.2) 11 [(0, .ref (ad a0))] [] M := by
    intro hf
    rw [ej11] at hf
    refine v_aload_n G dX11_bestFrom_11 0 rfl ?_
    refine v_iconst (5 : Int32) G dX11_bestFrom_12 (by decide) ?_
    obtain ⟨v1, hcv1⟩ : ∃ q, f_X11_refuse a0 (5 : Int32) M = q := ⟨_, rfl⟩
    replace hf := lt_e hf hcv1.symm
    refine v_callV [.int (5 : Int32)] G (c_X11_refuse h0 hcv1) h0 (by decide) rfl rfl rfl t_557 t_559 t_p2 t_1 t_560 nm_X11_refuse (by decide) (by decide) rfl rfl (Nat.le_of_ble_eq_true rfl) dX11_bestFrom_13 (kv_ri ?_)
    obtain rfl := Option.some.inj hf
    exact v_iret G dX11_bestFrom_16
  refine v_if_lt 11 G dX11_bestFrom_1 (by decide) (fun h18 => ?_) (fun h18 => ?_)
  · replace hf := (if_pos h18).symm.trans hf
    refine v_sub _ [0] rfl ?_
    exact hj11 hf
  · replace hf := (if_neg h18).symm.trans hf
    refine v_iload_n G dX11_bestFrom_4 1 rfl ?_
    refine v_sipush (999 : Int32) G dX11_bestFrom_5 (by decide) ?_
    refine v_icmp_le 17 G dX11_bestFrom_8 (by decide) (fun h17 => ?_) (fun h17 => ?_)
    · replace hf := (if_pos h17).symm.trans hf
      refine v_aload_n G dX11_bestFrom_17 0 rfl ?_
      refine gf_11_10 G h0 t_467 (Or.inl rfl) dX11_bestFrom_18 ?_
      refine v_kt (fun hKT => ?_)
      have hk2 := hKT.1 _ h0
      refine gf_2_6 G hk2 t_378 (Or.inl rfl) dX11_bestFrom_21 ?_
      refine gf_1_1 G (kf_2_7 hk2) t_245 (Or.inl rfl) dX11_bestFrom_24 ?_
      refine v_aload_n G dX11_bestFrom_27 0 rfl ?_
      refine gf_11_10 G h0 t_467 (Or.inl rfl) dX11_bestFrom_28 ?_
      refine v_kt (fun hKT => ?_)
      have hk3 := hKT.1 _ h0
      refine gf_2_6 G hk3 t_378 (Or.inl rfl) dX11_bestFrom_31 ?_
      refine gf_1_0 G (kf_2_7 hk3) t_242 (Or.inl rfl) dX11_bestFrom_34 ?_
      refine v_isub G dX11_bestFrom_37 ?_
      refine v_nmi (fun v4 ev4 => ?_)
      replace hf := lt_e hf ev4
      refine v_istore_n [(2, .int v4), (0, .ref (ad a0)), (1, .int p1)] G dX11_bestFrom_38 (by decide) rfl ?_
      refine v_iconst (0 : Int32) G dX11_bestFrom_39 (by decide) ?_
      refine v_istore_n [(3, .int (0 : Int32)), (2, .int v4), (0, .ref (ad a0)), (1, .int p1)] G dX11_bestFrom_40 (by decide) rfl ?_
      refine v_ldc G dX11_bestFrom_41 t_800 ?_
      refine v_istore [(4, .int (1000000000 : Int32)), (3, .int (0 : Int32)), (2, .int v4), (0, .ref (ad a0)), (1, .int p1)] G dX11_bestFrom_43 (by decide) rfl ?_
      refine v_iconst (0 : Int32) G dX11_bestFrom_45 (by decide) ?_
      refine v_istore [(5, .int (0 : Int32)), (4, .int (1000000000 : Int32)), (3, .int (0 : Int32)), (2, .int v4), (0, .ref (ad a0)), (1, .int p1)] G dX11_bestFrom_46 (by decide) rfl ?_
      refine v_sub _ [4, 5, 3, 2, 1, 0] rfl ?_
      refine s_X11_bestFrom_48 G h0 (fun u14 M15 hf => ?_) n (0 : Int32) (1000000000 : Int32) (0 : Int32) M hf
      · refine v_aload_n G dX11_bestFrom_107 0 rfl ?_
        refine v_iload_n G dX11_bestFrom_108 1 rfl ?_
        obtain ⟨v16, hcv16⟩ : ∃ q, f_X11_tell a0 u14 M15 = q := ⟨_, rfl⟩
        replace hf := lt_e hf hcv16.symm
        refine v_callV [.int u14] G (c_X11_tell h0 hcv16) h0 (by decide) rfl rfl rfl t_521 t_523 t_p0 t_1 t_524 nm_X11_tell (by decide) (by decide) rfl rfl (Nat.le_of_ble_eq_true rfl) dX11_bestFrom_109 (kv_ri ?_)
        obtain rfl := Option.some.inj hf
        exact v_iret G dX11_bestFrom_112
    · replace hf := (if_neg h17).symm.trans hf
      refine v_sub _ [0] rfl ?_
      exact hj11 hf
abbrev cX11_mark : ByteArray := prog_1_method_77_code
def yX11_mark : MethodName := ⟨RX11, "mark", "()I"⟩
theorem dX11_mark_0 : dc cX11_mark 0 (.aload_n 0) 1 1 := ⟨by decide +kernel, rfl⟩
theorem dX11_mark_1 : dc cX11_mark 1 (.getfield 456) 3 4 := ⟨by decide +kernel, rfl⟩
theorem dX11_mark_4 : dc cX11_mark 4 (.iconst 3) 1 5 := ⟨by decide +kernel, rfl⟩
theorem dX11_mark_5 : dc cX11_mark 5 (.if_icmp .lt 10) 3 8 := ⟨by decide +kernel, rfl⟩
theorem dX11_mark_8 : dc cX11_mark 8 (.aload_n 0) 1 9 := ⟨by decide +kernel, rfl⟩
theorem dX11_mark_9 : dc cX11_mark 9 (.bipush 7) 2 11 := ⟨by decide +kernel, rfl⟩
theorem dX11_mark_11 : dc cX11_mark 11 (.invokevirtual 104) 3 14 := ⟨by decide +kernel, rfl⟩
theorem dX11_mark_14 : dc cX11_mark 14 (.ireturn) 1 15 := ⟨by decide +kernel, rfl⟩
theorem dX11_mark_15 : dc cX11_mark 15 (.aload_n 0) 1 16 := ⟨by decide +kernel, rfl⟩
theorem dX11_mark_16 : dc cX11_mark 16 (.getfield 21) 3 19 := ⟨by decide +kernel, rfl⟩
theorem dX11_mark_19 : dc cX11_mark 19 (.aload_n 0) 1 20 := ⟨by decide +kernel, rfl⟩
theorem dX11_mark_20 : dc cX11_mark 20 (.getfield 456) 3 23 := ⟨by decide +kernel, rfl⟩
theorem dX11_mark_23 : dc cX11_mark 23 (.aaload) 1 24 := ⟨by decide +kernel, rfl⟩
theorem dX11_mark_24 : dc cX11_mark 24 (.aload_n 0) 1 25 := ⟨by decide +kernel, rfl⟩
theorem dX11_mark_25 : dc cX11_mark 25 (.getfield 72) 3 28 := ⟨by decide +kernel, rfl⟩
theorem dX11_mark_28 : dc cX11_mark 28 (.invokevirtual 453) 3 31 := ⟨by decide +kernel, rfl⟩
theorem dX11_mark_31 : dc cX11_mark 31 (.aload_n 0) 1 32 := ⟨by decide +kernel, rfl⟩
theorem dX11_mark_32 : dc cX11_mark 32 (.dup) 1 33 := ⟨by decide +kernel, rfl⟩
theorem dX11_mark_33 : dc cX11_mark 33 (.getfield 456) 3 36 := ⟨by decide +kernel, rfl⟩
theorem dX11_mark_36 : dc cX11_mark 36 (.iconst 1) 1 37 := ⟨by decide +kernel, rfl⟩
theorem dX11_mark_37 : dc cX11_mark 37 (.iadd) 1 38 := ⟨by decide +kernel, rfl⟩
theorem dX11_mark_38 : dc cX11_mark 38 (.putfield 456) 3 41 := ⟨by decide +kernel, rfl⟩
theorem dX11_mark_41 : dc cX11_mark 41 (.aload_n 0) 1 42 := ⟨by decide +kernel, rfl⟩
theorem dX11_mark_42 : dc cX11_mark 42 (.aload_n 0) 1 43 := ⟨by decide +kernel, rfl⟩
theorem dX11_mark_43 : dc cX11_mark 43 (.getfield 456) 3 46 := ⟨by decide +kernel, rfl⟩
theorem dX11_mark_46 : dc cX11_mark 46 (.invokevirtual 108) 3 49 := ⟨by decide +kernel, rfl⟩
theorem dX11_mark_49 : dc cX11_mark 49 (.ireturn) 1 50 := ⟨by decide +kernel, rfl⟩
theorem nm_X11_mark : (yX11_mark).cls ≠ "java/lang/invoke/MethodHandle" ∧ (yX11_mark).cls ≠ "java/lang/invoke/VarHandle" ∧ (parseMethodDescriptor (yX11_mark).desc).map (fun d => d.parameters.length) = some 0 := ⟨by decide +kernel, by decide +kernel, by decide +kernel⟩
set_option maxRecDepth 100000 in
set_option maxHeartbeats 4000000 in
theorem c_X11_mark {l : Launch} {ad : Nat → Nat} {cy : Nat → ClassId} {D : va_G} {z : Nat} (n : Nat) {a0 : Nat} {M : KM} {y : (Int32 × KM)} (h0 : kty a0 = 11) (hf : f_X11_mark n a0 M = some y) : KC l ad cy D z yX11_mark cX11_mark 1 (some .int) 3 [.ref (ad a0)] M (some (.int y.1), y.2) := by
  refine kv_enter (by decide +kernel) (Nat.le_of_ble_eq_true rfl) ?_
  intro x hl hD hz G
  subst hl hD hz
  unfold f_X11_mark at hf
  have G : KG ad cy x cX11_mark "NoonGuides" 1 (some (some .int)) 3 := G
  show KV ad cy x (some (.int y.1), y.2) 0 [(0, .ref (ad a0))] [] M
  refine v_aload_n G dX11_mark_0 0 rfl ?_
  refine gf_11_14 G h0 t_471 (Or.inl rfl) dX11_mark_1 ?_
  refine v_iconst (3 : Int32) G dX11_mark_4 (by decide) ?_
  refine v_icmp_lt 15 G dX11_mark_5 (by decide) (fun h7 => ?_) (fun h7 => ?_)
  · replace hf := (if_pos h7).symm.trans hf
    refine v_aload_n G dX11_mark_15 0 rfl ?_
    refine gf_11_2 G h0 t_459 (Or.inl rfl) dX11_mark_16 ?_
    refine v_aload_n G dX11_mark_19 0 rfl ?_
    refine gf_11_14 G h0 t_471 (Or.inl rfl) dX11_mark_20 ?_
    obtain ⟨g1, hf⟩ := gd_e hf
    refine al_Land G (kf_11_3 h0) g1 dX11_mark_23 ?_
    refine v_aload_n G dX11_mark_24 0 rfl ?_
    refine gf_11_10 G h0 t_467 (Or.inl rfl) dX11_mark_25 ?_
    refine v_kt (fun hKT => ?_)
    have hk2 := hKT.1 _ h0
    obtain ⟨v3, hcv3, hf⟩ := bd_e hf
    refine v_callV [.ref (ad (M.2.2 a0 10))] G (c_X2_copyFrom n (ke_Land (kf_11_3 h0) (ix_lt g1)) hk2 hcv3) (ke_Land (kf_11_3 h0) (ix_lt g1)) (by decide) rfl rfl rfl t_913 t_914 t_915 t_13 t_916 nm_X2_copyFrom (by decide) (by decide) rfl rfl (Nat.le_of_ble_eq_true rfl) dX11_mark_28 (kv_rv ?_)
    refine v_aload_n G dX11_mark_31 0 rfl ?_
    refine v_dup G dX11_mark_32 rfl ?_
    refine gf_11_14 G h0 t_471 (Or.inl rfl) dX11_mark_33 ?_
    refine v_iconst (1 : Int32) G dX11_mark_36 (by decide) ?_
    refine v_iadd G dX11_mark_37 ?_
    refine pf_11_14 G h0 t_471 (Or.inl rfl) dX11_mark_38 ?_
    refine v_nmM (fun M4 eM4 => ?_)
    replace hf := lt_e hf eM4
    refine v_aload_n G dX11_mark_41 0 rfl ?_
    refine v_aload_n G dX11_mark_42 0 rfl ?_
    refine gf_11_14 G h0 t_471 (Or.inl rfl) dX11_mark_43 ?_
    obtain ⟨v5, hcv5⟩ : ∃ q, f_X11_tell a0 (M4.1 a0 14) M4 = q := ⟨_, rfl⟩
    replace hf := lt_e hf hcv5.symm
    refine v_callV [.int (M4.1 a0 14)] G (c_X11_tell h0 hcv5) h0 (by decide) rfl rfl rfl t_521 t_523 t_p0 t_1 t_524 nm_X11_tell (by decide) (by decide) rfl rfl (Nat.le_of_ble_eq_true rfl) dX11_mark_46 (kv_ri ?_)
    obtain rfl := Option.some.inj hf
    exact v_iret G dX11_mark_49
  · replace hf := (if_neg h7).symm.trans hf
    refine v_aload_n G dX11_mark_8 0 rfl ?_
    refine v_bipush (7 : Int32) G dX11_mark_9 (by decide) ?_
    obtain ⟨v6, hcv6⟩ : ∃ q, f_X11_refuse a0 (7 : Int32) M = q := ⟨_, rfl⟩
    replace hf := lt_e hf hcv6.symm
    refine v_callV [.int (7 : Int32)] G (c_X11_refuse h0 hcv6) h0 (by decide) rfl rfl rfl t_557 t_559 t_p2 t_1 t_560 nm_X11_refuse (by decide) (by decide) rfl rfl (Nat.le_of_ble_eq_true rfl) dX11_mark_11 (kv_ri ?_)
    obtain rfl := Option.some.inj hf
    exact v_iret G dX11_mark_14
abbrev cX11_back : ByteArray := prog_1_method_78_code
def yX11_back : MethodName := ⟨RX11, "back", "()I"⟩
theorem dX11_back_0 : dc cX11_back 0 (.aload_n 0) 1 1 := ⟨by decide +kernel, rfl⟩
theorem dX11_back_1 : dc cX11_back 1 (.getfield 456) 3 4 := ⟨by decide +kernel, rfl⟩
theorem dX11_back_4 : dc cX11_back 4 (.iconst 1) 1 5 := ⟨by decide +kernel, rfl⟩
theorem dX11_back_5 : dc cX11_back 5 (.if_icmp .ge 10) 3 8 := ⟨by decide +kernel, rfl⟩
theorem dX11_back_8 : dc cX11_back 8 (.aload_n 0) 1 9 := ⟨by decide +kernel, rfl⟩
theorem dX11_back_9 : dc cX11_back 9 (.bipush 8) 2 11 := ⟨by decide +kernel, rfl⟩
theorem dX11_back_11 : dc cX11_back 11 (.invokevirtual 104) 3 14 := ⟨by decide +kernel, rfl⟩
theorem dX11_back_14 : dc cX11_back 14 (.ireturn) 1 15 := ⟨by decide +kernel, rfl⟩
theorem dX11_back_15 : dc cX11_back 15 (.aload_n 0) 1 16 := ⟨by decide +kernel, rfl⟩
theorem dX11_back_16 : dc cX11_back 16 (.dup) 1 17 := ⟨by decide +kernel, rfl⟩
theorem dX11_back_17 : dc cX11_back 17 (.getfield 456) 3 20 := ⟨by decide +kernel, rfl⟩
theorem dX11_back_20 : dc cX11_back 20 (.iconst 1) 1 21 := ⟨by decide +kernel, rfl⟩
theorem dX11_back_21 : dc cX11_back 21 (.isub) 1 22 := ⟨by decide +kernel, rfl⟩
theorem dX11_back_22 : dc cX11_back 22 (.putfield 456) 3 25 := ⟨by decide +kernel, rfl⟩
theorem dX11_back_25 : dc cX11_back 25 (.aload_n 0) 1 26 := ⟨by decide +kernel, rfl⟩
theorem dX11_back_26 : dc cX11_back 26 (.getfield 72) 3 29 := ⟨by decide +kernel, rfl⟩
theorem dX11_back_29 : dc cX11_back 29 (.aload_n 0) 1 30 := ⟨by decide +kernel, rfl⟩
theorem dX11_back_30 : dc cX11_back 30 (.getfield 21) 3 33 := ⟨by decide +kernel, rfl⟩
theorem dX11_back_33 : dc cX11_back 33 (.aload_n 0) 1 34 := ⟨by decide +kernel, rfl⟩
theorem dX11_back_34 : dc cX11_back 34 (.getfield 456) 3 37 := ⟨by decide +kernel, rfl⟩
theorem dX11_back_37 : dc cX11_back 37 (.aaload) 1 38 := ⟨by decide +kernel, rfl⟩
theorem dX11_back_38 : dc cX11_back 38 (.invokevirtual 453) 3 41 := ⟨by decide +kernel, rfl⟩
theorem dX11_back_41 : dc cX11_back 41 (.aload_n 0) 1 42 := ⟨by decide +kernel, rfl⟩
theorem dX11_back_42 : dc cX11_back 42 (.aload_n 0) 1 43 := ⟨by decide +kernel, rfl⟩
theorem dX11_back_43 : dc cX11_back 43 (.getfield 456) 3 46 := ⟨by decide +kernel, rfl⟩
theorem dX11_back_46 : dc cX11_back 46 (.invokevirtual 108) 3 49 := ⟨by decide +kernel, rfl⟩
theorem dX11_back_49 : dc cX11_back 49 (.ireturn) 1 50 := ⟨by decide +kernel, rfl⟩
theorem nm_X11_back : (yX11_back).cls ≠ "java/lang/invoke/MethodHandle" ∧ (yX11_back).cls ≠ "java/lang/invoke/VarHandle" ∧ (parseMethodDescriptor (yX11_back).desc).map (fun d => d.parameters.length) = some 0 := ⟨by decide +kernel, by decide +kernel, by decide +kernel⟩
set_option maxRecDepth 100000 in
set_option maxHeartbeats 4000000 in
theorem c_X11_back {l : Launch} {ad : Nat → Nat} {cy : Nat → ClassId} {D : va_G} {z : Nat} (n : Nat) {a0 : Nat} {M : KM} {y : (Int32 × KM)} (h0 : kty a0 = 11) (hf : f_X11_back n a0 M = some y) : KC l ad cy D z yX11_back cX11_back 1 (some .int) 3 [.ref (ad a0)] M (some (.int y.1), y.2) := by
  refine kv_enter (by decide +kernel) (Nat.le_of_ble_eq_true rfl) ?_
  intro x hl hD hz G
  subst hl hD hz
  unfold f_X11_back at hf
  have G : KG ad cy x cX11_back "NoonGuides" 1 (some (some .int)) 3 := G
  show KV ad cy x (some (.int y.1), y.2) 0 [(0, .ref (ad a0))] [] M
  refine v_aload_n G dX11_back_0 0 rfl ?_
  refine gf_11_14 G h0 t_471 (Or.inl rfl) dX11_back_1 ?_
  refine v_iconst (1 : Int32) G dX11_back_4 (by decide) ?_
  refine v_icmp_ge 15 G dX11_back_5 (by decide) (fun h7 => ?_) (fun h7 => ?_)
  · replace hf := (if_pos h7).symm.trans hf
    refine v_aload_n G dX11_back_15 0 rfl ?_
    refine v_dup G dX11_back_16 rfl ?_
    refine gf_11_14 G h0 t_471 (Or.inl rfl) dX11_back_17 ?_
    refine v_iconst (1 : Int32) G dX11_back_20 (by decide) ?_
    refine v_isub G dX11_back_21 ?_
    refine pf_11_14 G h0 t_471 (Or.inl rfl) dX11_back_22 ?_
    refine v_nmM (fun M1 eM1 => ?_)
    replace hf := lt_e hf eM1
    refine v_aload_n G dX11_back_25 0 rfl ?_
    refine gf_11_10 G h0 t_467 (Or.inl rfl) dX11_back_26 ?_
    refine v_kt (fun hKT => ?_)
    have hk2 := hKT.1 _ h0
    refine v_aload_n G dX11_back_29 0 rfl ?_
    refine gf_11_2 G h0 t_459 (Or.inl rfl) dX11_back_30 ?_
    refine v_aload_n G dX11_back_33 0 rfl ?_
    refine gf_11_14 G h0 t_471 (Or.inl rfl) dX11_back_34 ?_
    obtain ⟨g3, hf⟩ := gd_e hf
    refine al_Land G (kf_11_3 h0) g3 dX11_back_37 ?_
    obtain ⟨v4, hcv4, hf⟩ := bd_e hf
    refine v_callV [.ref (ad ((a0 + 3) + 110 + 38 * ((M1.1 a0 14)).toNatClampNeg))] G (c_X2_copyFrom n hk2 (ke_Land (kf_11_3 h0) (ix_lt g3)) hcv4) hk2 (by decide) rfl rfl rfl t_913 t_914 t_915 t_13 t_916 nm_X2_copyFrom (by decide) (by decide) rfl rfl (Nat.le_of_ble_eq_true rfl) dX11_back_38 (kv_rv ?_)
    refine v_aload_n G dX11_back_41 0 rfl ?_
    refine v_aload_n G dX11_back_42 0 rfl ?_
    refine gf_11_14 G h0 t_471 (Or.inl rfl) dX11_back_43 ?_
    obtain ⟨v5, hcv5⟩ : ∃ q, f_X11_tell a0 (v4.1 a0 14) v4 = q := ⟨_, rfl⟩
    replace hf := lt_e hf hcv5.symm
    refine v_callV [.int (v4.1 a0 14)] G (c_X11_tell h0 hcv5) h0 (by decide) rfl rfl rfl t_521 t_523 t_p0 t_1 t_524 nm_X11_tell (by decide) (by decide) rfl rfl (Nat.le_of_ble_eq_true rfl) dX11_back_46 (kv_ri ?_)
    obtain rfl := Option.some.inj hf
    exact v_iret G dX11_back_49
  · replace hf := (if_neg h7).symm.trans hf
    refine v_aload_n G dX11_back_8 0 rfl ?_
    refine v_bipush (8 : Int32) G dX11_back_9 (by decide) ?_
    obtain ⟨v6, hcv6⟩ : ∃ q, f_X11_refuse a0 (8 : Int32) M = q := ⟨_, rfl⟩
    replace hf := lt_e hf hcv6.symm
    refine v_callV [.int (8 : Int32)] G (c_X11_refuse h0 hcv6) h0 (by decide) rfl rfl rfl t_557 t_559 t_p2 t_1 t_560 nm_X11_refuse (by decide) (by decide) rfl rfl (Nat.le_of_ble_eq_true rfl) dX11_back_11 (kv_ri ?_)
    obtain rfl := Option.some.inj hf
    exact v_iret G dX11_back_14
