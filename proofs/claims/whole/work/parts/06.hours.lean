def RJ6 : String := "java/lang/Integer"
abbrev cJ6_bitCount_0f7a4 : ByteArray := prog_15_method_49_code
def yJ6_bitCount_0f7a4 : MethodName := ⟨RJ6, "bitCount", "(I)I"⟩
theorem dJ6_bitCount_0f7a4_0 : decode cJ6_bitCount_0f7a4 0 = .ok (.iload_n 0, 1) := by decide +kernel
theorem dJ6_bitCount_0f7a4_1 : decode cJ6_bitCount_0f7a4 1 = .ok (.iload_n 0, 1) := by decide +kernel
theorem dJ6_bitCount_0f7a4_2 : decode cJ6_bitCount_0f7a4 2 = .ok (.iconst 1, 1) := by decide +kernel
theorem dJ6_bitCount_0f7a4_3 : decode cJ6_bitCount_0f7a4 3 = .ok (.iushr, 1) := by decide +kernel
theorem dJ6_bitCount_0f7a4_4 : decode cJ6_bitCount_0f7a4 4 = .ok (.ldc_w 265, 3) := by decide +kernel
theorem dJ6_bitCount_0f7a4_7 : decode cJ6_bitCount_0f7a4 7 = .ok (.iand, 1) := by decide +kernel
theorem dJ6_bitCount_0f7a4_8 : decode cJ6_bitCount_0f7a4 8 = .ok (.isub, 1) := by decide +kernel
theorem dJ6_bitCount_0f7a4_9 : decode cJ6_bitCount_0f7a4 9 = .ok (.istore_n 0, 1) := by decide +kernel
theorem dJ6_bitCount_0f7a4_10 : decode cJ6_bitCount_0f7a4 10 = .ok (.iload_n 0, 1) := by decide +kernel
theorem dJ6_bitCount_0f7a4_11 : decode cJ6_bitCount_0f7a4 11 = .ok (.ldc_w 266, 3) := by decide +kernel
theorem dJ6_bitCount_0f7a4_14 : decode cJ6_bitCount_0f7a4 14 = .ok (.iand, 1) := by decide +kernel
theorem dJ6_bitCount_0f7a4_15 : decode cJ6_bitCount_0f7a4 15 = .ok (.iload_n 0, 1) := by decide +kernel
theorem dJ6_bitCount_0f7a4_16 : decode cJ6_bitCount_0f7a4 16 = .ok (.iconst 2, 1) := by decide +kernel
theorem dJ6_bitCount_0f7a4_17 : decode cJ6_bitCount_0f7a4 17 = .ok (.iushr, 1) := by decide +kernel
theorem dJ6_bitCount_0f7a4_18 : decode cJ6_bitCount_0f7a4 18 = .ok (.ldc_w 266, 3) := by decide +kernel
theorem dJ6_bitCount_0f7a4_21 : decode cJ6_bitCount_0f7a4 21 = .ok (.iand, 1) := by decide +kernel
theorem dJ6_bitCount_0f7a4_22 : decode cJ6_bitCount_0f7a4 22 = .ok (.iadd, 1) := by decide +kernel
theorem dJ6_bitCount_0f7a4_23 : decode cJ6_bitCount_0f7a4 23 = .ok (.istore_n 0, 1) := by decide +kernel
theorem dJ6_bitCount_0f7a4_24 : decode cJ6_bitCount_0f7a4 24 = .ok (.iload_n 0, 1) := by decide +kernel
theorem dJ6_bitCount_0f7a4_25 : decode cJ6_bitCount_0f7a4 25 = .ok (.iload_n 0, 1) := by decide +kernel
theorem dJ6_bitCount_0f7a4_26 : decode cJ6_bitCount_0f7a4 26 = .ok (.iconst 4, 1) := by decide +kernel
theorem dJ6_bitCount_0f7a4_27 : decode cJ6_bitCount_0f7a4 27 = .ok (.iushr, 1) := by decide +kernel
theorem dJ6_bitCount_0f7a4_28 : decode cJ6_bitCount_0f7a4 28 = .ok (.iadd, 1) := by decide +kernel
theorem dJ6_bitCount_0f7a4_29 : decode cJ6_bitCount_0f7a4 29 = .ok (.ldc_w 267, 3) := by decide +kernel
theorem dJ6_bitCount_0f7a4_32 : decode cJ6_bitCount_0f7a4 32 = .ok (.iand, 1) := by decide +kernel
theorem dJ6_bitCount_0f7a4_33 : decode cJ6_bitCount_0f7a4 33 = .ok (.istore_n 0, 1) := by decide +kernel
theorem dJ6_bitCount_0f7a4_34 : decode cJ6_bitCount_0f7a4 34 = .ok (.iload_n 0, 1) := by decide +kernel
theorem dJ6_bitCount_0f7a4_35 : decode cJ6_bitCount_0f7a4 35 = .ok (.iload_n 0, 1) := by decide +kernel
theorem dJ6_bitCount_0f7a4_36 : decode cJ6_bitCount_0f7a4 36 = .ok (.bipush 8, 2) := by decide +kernel
theorem dJ6_bitCount_0f7a4_38 : decode cJ6_bitCount_0f7a4 38 = .ok (.iushr, 1) := by decide +kernel
theorem dJ6_bitCount_0f7a4_39 : decode cJ6_bitCount_0f7a4 39 = .ok (.iadd, 1) := by decide +kernel
theorem dJ6_bitCount_0f7a4_40 : decode cJ6_bitCount_0f7a4 40 = .ok (.istore_n 0, 1) := by decide +kernel
theorem dJ6_bitCount_0f7a4_41 : decode cJ6_bitCount_0f7a4 41 = .ok (.iload_n 0, 1) := by decide +kernel
theorem dJ6_bitCount_0f7a4_42 : decode cJ6_bitCount_0f7a4 42 = .ok (.iload_n 0, 1) := by decide +kernel
theorem dJ6_bitCount_0f7a4_43 : decode cJ6_bitCount_0f7a4 43 = .ok (.bipush 16, 2) := by decide +kernel
theorem dJ6_bitCount_0f7a4_45 : decode cJ6_bitCount_0f7a4 45 = .ok (.iushr, 1) := by decide +kernel
theorem dJ6_bitCount_0f7a4_46 : decode cJ6_bitCount_0f7a4 46 = .ok (.iadd, 1) := by decide +kernel
theorem dJ6_bitCount_0f7a4_47 : decode cJ6_bitCount_0f7a4 47 = .ok (.istore_n 0, 1) := by decide +kernel
theorem dJ6_bitCount_0f7a4_48 : decode cJ6_bitCount_0f7a4 48 = .ok (.iload_n 0, 1) := by decide +kernel
theorem dJ6_bitCount_0f7a4_49 : decode cJ6_bitCount_0f7a4 49 = .ok (.bipush 63, 2) := by decide +kernel
theorem dJ6_bitCount_0f7a4_51 : decode cJ6_bitCount_0f7a4 51 = .ok (.iand, 1) := by decide +kernel
theorem dJ6_bitCount_0f7a4_52 : decode cJ6_bitCount_0f7a4 52 = .ok (.ireturn, 1) := by decide +kernel
theorem nm_J6_bitCount_0f7a4 : (yJ6_bitCount_0f7a4).cls ≠ "java/lang/invoke/MethodHandle" ∧ (yJ6_bitCount_0f7a4).cls ≠ "java/lang/invoke/VarHandle" ∧ (parseMethodDescriptor (yJ6_bitCount_0f7a4).desc).map (fun d => d.parameters.length) = some 1 := ⟨by decide +kernel, by decide +kernel, by decide +kernel⟩
def f_J6_bitCount_0f7a4 (p0 : Int32) (M : KM) : Int32 :=
  lt ((p0 - (((p0).toUInt32 >>> (((1 : Int32)).toUInt32 &&& Int32.toUInt32 31)).toInt32 &&& (1431655765 : Int32)))) fun (v1 : Int32) =>
  lt (((v1 &&& (858993459 : Int32)) + (((v1).toUInt32 >>> (((2 : Int32)).toUInt32 &&& Int32.toUInt32 31)).toInt32 &&& (858993459 : Int32)))) fun (v2 : Int32) =>
  lt (((v2 + ((v2).toUInt32 >>> (((4 : Int32)).toUInt32 &&& Int32.toUInt32 31)).toInt32) &&& (252645135 : Int32))) fun (v3 : Int32) =>
  lt ((v3 + ((v3).toUInt32 >>> (((8 : Int32)).toUInt32 &&& Int32.toUInt32 31)).toInt32)) fun (v4 : Int32) =>
  lt ((v4 + ((v4).toUInt32 >>> (((16 : Int32)).toUInt32 &&& Int32.toUInt32 31)).toInt32)) fun (v5 : Int32) =>
  (v5 &&& (63 : Int32))
set_option maxRecDepth 100000 in
set_option maxHeartbeats 4000000 in
theorem c_J6_bitCount_0f7a4 {l : Launch} {ad : Nat → Nat} {cy : Nat → ClassId} {D : va_G} {z : Nat} {p0 : Int32} {M : KM} {y : Int32} (hf : f_J6_bitCount_0f7a4 p0 M = y) : KC l ad cy D z yJ6_bitCount_0f7a4 cJ6_bitCount_0f7a4 1 (some .int) 1 [.int p0] M (some (.int y), M) := by
  refine kv_enter (by decide +kernel) (Nat.le_of_ble_eq_true rfl) ?_
  intro x hl hD hz G
  subst hl hD hz
  unfold f_J6_bitCount_0f7a4 at hf
  have G : KG ad cy x cJ6_bitCount_0f7a4 "java/lang/Integer" 1 (some (some .int)) 1 := G
  show KV ad cy x (some (.int y), M) 0 [(0, .int p0)] [] M
  refine v_iload_n G dJ6_bitCount_0f7a4_0 0 rfl ?_
  refine v_iload_n G dJ6_bitCount_0f7a4_1 0 rfl ?_
  refine v_iconst (1 : Int32) G dJ6_bitCount_0f7a4_2 (by decide) ?_
  refine v_iushr G dJ6_bitCount_0f7a4_3 ?_
  refine v_ldcw G dJ6_bitCount_0f7a4_4 t_1138 ?_
  refine v_iand G dJ6_bitCount_0f7a4_7 ?_
  refine v_isub G dJ6_bitCount_0f7a4_8 ?_
  refine v_nmi (fun v1 ev1 => ?_)
  replace hf := lt_e hf ev1
  refine v_istore_n [(0, .int v1)] G dJ6_bitCount_0f7a4_9 (by decide) rfl ?_
  refine v_iload_n G dJ6_bitCount_0f7a4_10 0 rfl ?_
  refine v_ldcw G dJ6_bitCount_0f7a4_11 t_1139 ?_
  refine v_iand G dJ6_bitCount_0f7a4_14 ?_
  refine v_iload_n G dJ6_bitCount_0f7a4_15 0 rfl ?_
  refine v_iconst (2 : Int32) G dJ6_bitCount_0f7a4_16 (by decide) ?_
  refine v_iushr G dJ6_bitCount_0f7a4_17 ?_
  refine v_ldcw G dJ6_bitCount_0f7a4_18 t_1139 ?_
  refine v_iand G dJ6_bitCount_0f7a4_21 ?_
  refine v_iadd G dJ6_bitCount_0f7a4_22 ?_
  refine v_nmi (fun v2 ev2 => ?_)
  replace hf := lt_e hf ev2
  refine v_istore_n [(0, .int v2)] G dJ6_bitCount_0f7a4_23 (by decide) rfl ?_
  refine v_iload_n G dJ6_bitCount_0f7a4_24 0 rfl ?_
  refine v_iload_n G dJ6_bitCount_0f7a4_25 0 rfl ?_
  refine v_iconst (4 : Int32) G dJ6_bitCount_0f7a4_26 (by decide) ?_
  refine v_iushr G dJ6_bitCount_0f7a4_27 ?_
  refine v_iadd G dJ6_bitCount_0f7a4_28 ?_
  refine v_ldcw G dJ6_bitCount_0f7a4_29 t_1140 ?_
  refine v_iand G dJ6_bitCount_0f7a4_32 ?_
  refine v_nmi (fun v3 ev3 => ?_)
  replace hf := lt_e hf ev3
  refine v_istore_n [(0, .int v3)] G dJ6_bitCount_0f7a4_33 (by decide) rfl ?_
  refine v_iload_n G dJ6_bitCount_0f7a4_34 0 rfl ?_
  refine v_iload_n G dJ6_bitCount_0f7a4_35 0 rfl ?_
  refine v_bipush (8 : Int32) G dJ6_bitCount_0f7a4_36 (by decide) ?_
  refine v_iushr G dJ6_bitCount_0f7a4_38 ?_
  refine v_iadd G dJ6_bitCount_0f7a4_39 ?_
  refine v_nmi (fun v4 ev4 => ?_)
  replace hf := lt_e hf ev4
  refine v_istore_n [(0, .int v4)] G dJ6_bitCount_0f7a4_40 (by decide) rfl ?_
  refine v_iload_n G dJ6_bitCount_0f7a4_41 0 rfl ?_
  refine v_iload_n G dJ6_bitCount_0f7a4_42 0 rfl ?_
  refine v_bipush (16 : Int32) G dJ6_bitCount_0f7a4_43 (by decide) ?_
  refine v_iushr G dJ6_bitCount_0f7a4_45 ?_
  refine v_iadd G dJ6_bitCount_0f7a4_46 ?_
  refine v_nmi (fun v5 ev5 => ?_)
  replace hf := lt_e hf ev5
  refine v_istore_n [(0, .int v5)] G dJ6_bitCount_0f7a4_47 (by decide) rfl ?_
  refine v_iload_n G dJ6_bitCount_0f7a4_48 0 rfl ?_
  refine v_bipush (63 : Int32) G dJ6_bitCount_0f7a4_49 (by decide) ?_
  refine v_iand G dJ6_bitCount_0f7a4_51 ?_
  obtain rfl := hf
  exact v_iret G dJ6_bitCount_0f7a4_52
abbrev cX1_canBe : ByteArray := prog_3_method_2_code
def yX1_canBe : MethodName := ⟨RX1, "canBe", "(II)Z"⟩
theorem dX1_canBe_0 : decode cX1_canBe 0 = .ok (.iload_n 0, 1) := by decide +kernel
theorem dX1_canBe_1 : decode cX1_canBe 1 = .ok (.ifCond .lt 24, 3) := by decide +kernel
theorem dX1_canBe_4 : decode cX1_canBe 4 = .ok (.iload_n 0, 1) := by decide +kernel
theorem dX1_canBe_5 : decode cX1_canBe 5 = .ok (.bipush 23, 2) := by decide +kernel
theorem dX1_canBe_7 : decode cX1_canBe 7 = .ok (.if_icmp .gt 18, 3) := by decide +kernel
theorem dX1_canBe_10 : decode cX1_canBe 10 = .ok (.iload_n 1, 1) := by decide +kernel
theorem dX1_canBe_11 : decode cX1_canBe 11 = .ok (.iload_n 0, 1) := by decide +kernel
theorem dX1_canBe_12 : decode cX1_canBe 12 = .ok (.if_icmp .le 13, 3) := by decide +kernel
theorem dX1_canBe_15 : decode cX1_canBe 15 = .ok (.iload_n 1, 1) := by decide +kernel
theorem dX1_canBe_16 : decode cX1_canBe 16 = .ok (.bipush 24, 2) := by decide +kernel
theorem dX1_canBe_18 : decode cX1_canBe 18 = .ok (.if_icmp .gt 7, 3) := by decide +kernel
theorem dX1_canBe_21 : decode cX1_canBe 21 = .ok (.iconst 1, 1) := by decide +kernel
theorem dX1_canBe_22 : decode cX1_canBe 22 = .ok (.goto 4, 3) := by decide +kernel
theorem dX1_canBe_25 : decode cX1_canBe 25 = .ok (.iconst 0, 1) := by decide +kernel
theorem dX1_canBe_26 : decode cX1_canBe 26 = .ok (.ireturn, 1) := by decide +kernel
theorem nm_X1_canBe : (yX1_canBe).cls ≠ "java/lang/invoke/MethodHandle" ∧ (yX1_canBe).cls ≠ "java/lang/invoke/VarHandle" ∧ (parseMethodDescriptor (yX1_canBe).desc).map (fun d => d.parameters.length) = some 2 := ⟨by decide +kernel, by decide +kernel, by decide +kernel⟩
def f_X1_canBe (p0 : Int32) (p1 : Int32) (M : KM) : Int32 :=
  if p0 < 0 then
    (0 : Int32)
  else
    if (23 : Int32) < p0 then
      (0 : Int32)
    else
      if p1 ≤ p0 then
        (0 : Int32)
      else
        if (24 : Int32) < p1 then
          (0 : Int32)
        else
          (1 : Int32)
set_option maxRecDepth 100000 in
theorem z_X1_canBe {p0 : Int32} {p1 : Int32} {M : KM} {y : Int32} (hf : f_X1_canBe p0 p1 M = y) : (y = 0 ∨ y = 1) := by
  unfold f_X1_canBe at hf
  by_cases h4 : p0 < 0
  · replace hf := (if_pos h4).symm.trans hf
    obtain rfl := hf
    exact (Or.inl rfl)
  · replace hf := (if_neg h4).symm.trans hf
    by_cases h3 : (23 : Int32) < p0
    · replace hf := (if_pos h3).symm.trans hf
      obtain rfl := hf
      exact (Or.inl rfl)
    · replace hf := (if_neg h3).symm.trans hf
      by_cases h2 : p1 ≤ p0
      · replace hf := (if_pos h2).symm.trans hf
        obtain rfl := hf
        exact (Or.inl rfl)
      · replace hf := (if_neg h2).symm.trans hf
        by_cases h1 : (24 : Int32) < p1
        · replace hf := (if_pos h1).symm.trans hf
          obtain rfl := hf
          exact (Or.inl rfl)
        · replace hf := (if_neg h1).symm.trans hf
          obtain rfl := hf
          exact (Or.inr rfl)
set_option maxRecDepth 100000 in
set_option maxHeartbeats 4000000 in
theorem c_X1_canBe {l : Launch} {ad : Nat → Nat} {cy : Nat → ClassId} {D : va_G} {z : Nat} {p0 : Int32} {p1 : Int32} {M : KM} {y : Int32} (hf : f_X1_canBe p0 p1 M = y) : KC l ad cy D z yX1_canBe cX1_canBe 2 (some .boolean) 1 [.int p0, .int p1] M (some (.int y), M) := by
  refine kv_enter (by decide +kernel) (Nat.le_of_ble_eq_true rfl) ?_
  intro x hl hD hz G
  subst hl hD hz
  unfold f_X1_canBe at hf
  have G : KG ad cy x cX1_canBe "NoonGuides$Hours" 2 (some (some .boolean)) 1 := G
  show KV ad cy x (some (.int y), M) 0 [(0, .int p0), (1, .int p1)] [] M
  refine v_iload_n G dX1_canBe_0 0 rfl ?_
  refine v_if_lt 25 G dX1_canBe_1 (by decide) (fun h4 => ?_) (fun h4 => ?_)
  · replace hf := (if_pos h4).symm.trans hf
    refine v_iconst (0 : Int32) G dX1_canBe_25 (by decide) ?_
    obtain rfl := hf
    exact v_zret G (Or.inl rfl) dX1_canBe_26
  · replace hf := (if_neg h4).symm.trans hf
    refine v_iload_n G dX1_canBe_4 0 rfl ?_
    refine v_bipush (23 : Int32) G dX1_canBe_5 (by decide) ?_
    refine v_icmp_gt 25 G dX1_canBe_7 (by decide) (fun h3 => ?_) (fun h3 => ?_)
    · replace hf := (if_pos h3).symm.trans hf
      refine v_iconst (0 : Int32) G dX1_canBe_25 (by decide) ?_
      obtain rfl := hf
      exact v_zret G (Or.inl rfl) dX1_canBe_26
    · replace hf := (if_neg h3).symm.trans hf
      refine v_iload_n G dX1_canBe_10 1 rfl ?_
      refine v_iload_n G dX1_canBe_11 0 rfl ?_
      refine v_icmp_le 25 G dX1_canBe_12 (by decide) (fun h2 => ?_) (fun h2 => ?_)
      · replace hf := (if_pos h2).symm.trans hf
        refine v_iconst (0 : Int32) G dX1_canBe_25 (by decide) ?_
        obtain rfl := hf
        exact v_zret G (Or.inl rfl) dX1_canBe_26
      · replace hf := (if_neg h2).symm.trans hf
        refine v_iload_n G dX1_canBe_15 1 rfl ?_
        refine v_bipush (24 : Int32) G dX1_canBe_16 (by decide) ?_
        refine v_icmp_gt 25 G dX1_canBe_18 (by decide) (fun h1 => ?_) (fun h1 => ?_)
        · replace hf := (if_pos h1).symm.trans hf
          refine v_iconst (0 : Int32) G dX1_canBe_25 (by decide) ?_
          obtain rfl := hf
          exact v_zret G (Or.inl rfl) dX1_canBe_26
        · replace hf := (if_neg h1).symm.trans hf
          refine v_iconst (1 : Int32) G dX1_canBe_21 (by decide) ?_
          refine v_goto 26 G dX1_canBe_22 (by decide) ?_
          obtain rfl := hf
          exact v_zret G (Or.inr rfl) dX1_canBe_26
abbrev cX1_set : ByteArray := prog_3_method_3_code
def yX1_set : MethodName := ⟨RX1, "set", "(II)V"⟩
theorem dX1_set_0 : decode cX1_set 0 = .ok (.aload_n 0, 1) := by decide +kernel
theorem dX1_set_1 : decode cX1_set 1 = .ok (.iload_n 1, 1) := by decide +kernel
theorem dX1_set_2 : decode cX1_set 2 = .ok (.putfield 9, 3) := by decide +kernel
theorem dX1_set_5 : decode cX1_set 5 = .ok (.aload_n 0, 1) := by decide +kernel
theorem dX1_set_6 : decode cX1_set 6 = .ok (.iload_n 2, 1) := by decide +kernel
theorem dX1_set_7 : decode cX1_set 7 = .ok (.putfield 15, 3) := by decide +kernel
theorem dX1_set_10 : decode cX1_set 10 = .ok (.aload_n 0, 1) := by decide +kernel
theorem dX1_set_11 : decode cX1_set 11 = .ok (.aload_n 0, 1) := by decide +kernel
theorem dX1_set_12 : decode cX1_set 12 = .ok (.getfield 15, 3) := by decide +kernel
theorem dX1_set_15 : decode cX1_set 15 = .ok (.aload_n 0, 1) := by decide +kernel
theorem dX1_set_16 : decode cX1_set 16 = .ok (.getfield 9, 3) := by decide +kernel
theorem dX1_set_19 : decode cX1_set 19 = .ok (.isub, 1) := by decide +kernel
theorem dX1_set_20 : decode cX1_set 20 = .ok (.bipush 60, 2) := by decide +kernel
theorem dX1_set_22 : decode cX1_set 22 = .ok (.imul, 1) := by decide +kernel
theorem dX1_set_23 : decode cX1_set 23 = .ok (.putfield 18, 3) := by decide +kernel
theorem dX1_set_26 : decode cX1_set 26 = .ok (.return_, 1) := by decide +kernel
theorem nm_X1_set : (yX1_set).cls ≠ "java/lang/invoke/MethodHandle" ∧ (yX1_set).cls ≠ "java/lang/invoke/VarHandle" ∧ (parseMethodDescriptor (yX1_set).desc).map (fun d => d.parameters.length) = some 2 := ⟨by decide +kernel, by decide +kernel, by decide +kernel⟩
def f_X1_set (a0 : Nat) (p1 : Int32) (p2 : Int32) (M : KM) : KM :=
  lt (uI M a0 0 p1) fun (M1 : KM) =>
  lt (uI M1 a0 1 p2) fun (M2 : KM) =>
  lt (uI M2 a0 2 (((M2.1 a0 1) - (M2.1 a0 0)) * (60 : Int32))) fun (M3 : KM) =>
  M3
set_option maxRecDepth 100000 in
set_option maxHeartbeats 4000000 in
theorem c_X1_set {l : Launch} {ad : Nat → Nat} {cy : Nat → ClassId} {D : va_G} {z : Nat} {a0 : Nat} {p1 : Int32} {p2 : Int32} {M : KM} {y : KM} (h0 : kty a0 = 2) (hf : f_X1_set a0 p1 p2 M = y) : KC l ad cy D z yX1_set cX1_set 3 none 1 [.ref (ad a0), .int p1, .int p2] M (none, y) := by
  refine kv_enter (by decide +kernel) (Nat.le_of_ble_eq_true rfl) ?_
  intro x hl hD hz G
  subst hl hD hz
  unfold f_X1_set at hf
  have G : KG ad cy x cX1_set "NoonGuides$Hours" 3 (some none) 1 := G
  show KV ad cy x (none, y) 0 [(0, .ref (ad a0)), (1, .int p1), (2, .int p2)] [] M
  refine v_aload_n G dX1_set_0 0 rfl ?_
  refine v_iload_n G dX1_set_1 1 rfl ?_
  refine pf_1_0 G h0 t_254 (Or.inl rfl) dX1_set_2 ?_
  refine v_nmM (fun M1 eM1 => ?_)
  replace hf := lt_e hf eM1
  refine v_aload_n G dX1_set_5 0 rfl ?_
  refine v_iload_n G dX1_set_6 2 rfl ?_
  refine pf_1_1 G h0 t_257 (Or.inl rfl) dX1_set_7 ?_
  refine v_nmM (fun M2 eM2 => ?_)
  replace hf := lt_e hf eM2
  refine v_aload_n G dX1_set_10 0 rfl ?_
  refine v_aload_n G dX1_set_11 0 rfl ?_
  refine gf_1_1 G h0 t_257 (Or.inl rfl) dX1_set_12 ?_
  refine v_aload_n G dX1_set_15 0 rfl ?_
  refine gf_1_0 G h0 t_254 (Or.inl rfl) dX1_set_16 ?_
  refine v_isub G dX1_set_19 ?_
  refine v_bipush (60 : Int32) G dX1_set_20 (by decide) ?_
  refine v_imul G dX1_set_22 ?_
  refine pf_1_2 G h0 t_260 (Or.inl rfl) dX1_set_23 ?_
  refine v_nmM (fun M3 eM3 => ?_)
  replace hf := lt_e hf eM3
  obtain rfl := hf
  exact v_vret G dX1_set_26
abbrev cX1_areGlaring : ByteArray := prog_3_method_4_code
def yX1_areGlaring : MethodName := ⟨RX1, "areGlaring", "(I)Z"⟩
theorem dX1_areGlaring_0 : decode cX1_areGlaring 0 = .ok (.iload_n 1, 1) := by decide +kernel
theorem dX1_areGlaring_1 : decode cX1_areGlaring 1 = .ok (.bipush 60, 2) := by decide +kernel
theorem dX1_areGlaring_3 : decode cX1_areGlaring 3 = .ok (.idiv, 1) := by decide +kernel
theorem dX1_areGlaring_4 : decode cX1_areGlaring 4 = .ok (.bipush 24, 2) := by decide +kernel
theorem dX1_areGlaring_6 : decode cX1_areGlaring 6 = .ok (.irem, 1) := by decide +kernel
theorem dX1_areGlaring_7 : decode cX1_areGlaring 7 = .ok (.istore_n 2, 1) := by decide +kernel
theorem dX1_areGlaring_8 : decode cX1_areGlaring 8 = .ok (.aload_n 0, 1) := by decide +kernel
theorem dX1_areGlaring_9 : decode cX1_areGlaring 9 = .ok (.getfield 9, 3) := by decide +kernel
theorem dX1_areGlaring_12 : decode cX1_areGlaring 12 = .ok (.iload_n 2, 1) := by decide +kernel
theorem dX1_areGlaring_13 : decode cX1_areGlaring 13 = .ok (.if_icmp .gt 15, 3) := by decide +kernel
theorem dX1_areGlaring_16 : decode cX1_areGlaring 16 = .ok (.iload_n 2, 1) := by decide +kernel
theorem dX1_areGlaring_17 : decode cX1_areGlaring 17 = .ok (.aload_n 0, 1) := by decide +kernel
theorem dX1_areGlaring_18 : decode cX1_areGlaring 18 = .ok (.getfield 15, 3) := by decide +kernel
theorem dX1_areGlaring_21 : decode cX1_areGlaring 21 = .ok (.if_icmp .ge 7, 3) := by decide +kernel
theorem dX1_areGlaring_24 : decode cX1_areGlaring 24 = .ok (.iconst 1, 1) := by decide +kernel
theorem dX1_areGlaring_25 : decode cX1_areGlaring 25 = .ok (.goto 4, 3) := by decide +kernel
theorem dX1_areGlaring_28 : decode cX1_areGlaring 28 = .ok (.iconst 0, 1) := by decide +kernel
theorem dX1_areGlaring_29 : decode cX1_areGlaring 29 = .ok (.ireturn, 1) := by decide +kernel
theorem nm_X1_areGlaring : (yX1_areGlaring).cls ≠ "java/lang/invoke/MethodHandle" ∧ (yX1_areGlaring).cls ≠ "java/lang/invoke/VarHandle" ∧ (parseMethodDescriptor (yX1_areGlaring).desc).map (fun d => d.parameters.length) = some 1 := ⟨by decide +kernel, by decide +kernel, by decide +kernel⟩
def f_X1_areGlaring (n : Nat) (a0 : Nat) (p1 : Int32) (M : KM) : Option Int32 :=
  lt (((p1 / (60 : Int32)) - (p1 / (60 : Int32)) / (24 : Int32) * (24 : Int32))) fun (v1 : Int32) =>
  if v1 < (M.1 a0 0) then
    some (0 : Int32)
  else
    if (M.1 a0 1) ≤ v1 then
      some (0 : Int32)
    else
      some (1 : Int32)
set_option maxRecDepth 100000 in
theorem z_X1_areGlaring (n : Nat) {a0 : Nat} {p1 : Int32} {M : KM} {y : Int32} (hf : f_X1_areGlaring n a0 p1 M = some y) : (y = 0 ∨ y = 1) := by
  unfold f_X1_areGlaring at hf
  obtain ⟨v1, ev1⟩ : ∃ q, q = (((p1 / (60 : Int32)) - (p1 / (60 : Int32)) / (24 : Int32) * (24 : Int32)) : Int32) := ⟨_, rfl⟩
  replace hf := lt_e hf ev1
  by_cases h3 : v1 < (M.1 a0 0)
  · replace hf := (if_pos h3).symm.trans hf
    obtain rfl := Option.some.inj hf
    exact (Or.inl rfl)
  · replace hf := (if_neg h3).symm.trans hf
    by_cases h2 : (M.1 a0 1) ≤ v1
    · replace hf := (if_pos h2).symm.trans hf
      obtain rfl := Option.some.inj hf
      exact (Or.inl rfl)
    · replace hf := (if_neg h2).symm.trans hf
      obtain rfl := Option.some.inj hf
      exact (Or.inr rfl)
set_option maxRecDepth 100000 in
set_option maxHeartbeats 4000000 in
theorem c_X1_areGlaring {l : Launch} {ad : Nat → Nat} {cy : Nat → ClassId} {D : va_G} {z : Nat} (n : Nat) {a0 : Nat} {p1 : Int32} {M : KM} {y : Int32} (h0 : kty a0 = 2) (hf : f_X1_areGlaring n a0 p1 M = some y) : KC l ad cy D z yX1_areGlaring cX1_areGlaring 3 (some .boolean) 1 [.ref (ad a0), .int p1] M (some (.int y), M) := by
  refine kv_enter (by decide +kernel) (Nat.le_of_ble_eq_true rfl) ?_
  intro x hl hD hz G
  subst hl hD hz
  unfold f_X1_areGlaring at hf
  have G : KG ad cy x cX1_areGlaring "NoonGuides$Hours" 3 (some (some .boolean)) 1 := G
  show KV ad cy x (some (.int y), M) 0 [(0, .ref (ad a0)), (1, .int p1)] [] M
  refine v_iload_n G dX1_areGlaring_0 1 rfl ?_
  refine v_bipush (60 : Int32) G dX1_areGlaring_1 (by decide) ?_
  refine v_idiv G dX1_areGlaring_3 (by decide) ?_
  refine v_bipush (24 : Int32) G dX1_areGlaring_4 (by decide) ?_
  refine v_irem G dX1_areGlaring_6 (by decide) ?_
  refine v_nmi (fun v1 ev1 => ?_)
  replace hf := lt_e hf ev1
  refine v_istore_n [(2, .int v1), (0, .ref (ad a0)), (1, .int p1)] G dX1_areGlaring_7 (by decide) rfl ?_
  refine v_aload_n G dX1_areGlaring_8 1 rfl ?_
  refine gf_1_0 G h0 t_254 (Or.inl rfl) dX1_areGlaring_9 ?_
  refine v_iload_n G dX1_areGlaring_12 0 rfl ?_
  refine v_icmp_gt 28 G dX1_areGlaring_13 (by decide) (fun h3 => ?_) (fun h3 => ?_)
  · replace hf := (if_pos h3).symm.trans hf
    refine v_iconst (0 : Int32) G dX1_areGlaring_28 (by decide) ?_
    obtain rfl := Option.some.inj hf
    exact v_zret G (Or.inl rfl) dX1_areGlaring_29
  · replace hf := (if_neg h3).symm.trans hf
    refine v_iload_n G dX1_areGlaring_16 0 rfl ?_
    refine v_aload_n G dX1_areGlaring_17 1 rfl ?_
    refine gf_1_1 G h0 t_257 (Or.inl rfl) dX1_areGlaring_18 ?_
    refine v_icmp_ge 28 G dX1_areGlaring_21 (by decide) (fun h2 => ?_) (fun h2 => ?_)
    · replace hf := (if_pos h2).symm.trans hf
      refine v_iconst (0 : Int32) G dX1_areGlaring_28 (by decide) ?_
      obtain rfl := Option.some.inj hf
      exact v_zret G (Or.inl rfl) dX1_areGlaring_29
    · replace hf := (if_neg h2).symm.trans hf
      refine v_iconst (1 : Int32) G dX1_areGlaring_24 (by decide) ?_
      refine v_goto 29 G dX1_areGlaring_25 (by decide) ?_
      obtain rfl := Option.some.inj hf
      exact v_zret G (Or.inr rfl) dX1_areGlaring_29
abbrev cX1_glareBefore : ByteArray := prog_3_method_5_code
def yX1_glareBefore : MethodName := ⟨RX1, "glareBefore", "(I)I"⟩
theorem dX1_glareBefore_0 : decode cX1_glareBefore 0 = .ok (.iload_n 1, 1) := by decide +kernel
theorem dX1_glareBefore_1 : decode cX1_glareBefore 1 = .ok (.sipush 1440, 3) := by decide +kernel
theorem dX1_glareBefore_4 : decode cX1_glareBefore 4 = .ok (.irem, 1) := by decide +kernel
theorem dX1_glareBefore_5 : decode cX1_glareBefore 5 = .ok (.aload_n 0, 1) := by decide +kernel
theorem dX1_glareBefore_6 : decode cX1_glareBefore 6 = .ok (.getfield 9, 3) := by decide +kernel
theorem dX1_glareBefore_9 : decode cX1_glareBefore 9 = .ok (.bipush 60, 2) := by decide +kernel
theorem dX1_glareBefore_11 : decode cX1_glareBefore 11 = .ok (.imul, 1) := by decide +kernel
theorem dX1_glareBefore_12 : decode cX1_glareBefore 12 = .ok (.isub, 1) := by decide +kernel
theorem dX1_glareBefore_13 : decode cX1_glareBefore 13 = .ok (.istore_n 2, 1) := by decide +kernel
theorem dX1_glareBefore_14 : decode cX1_glareBefore 14 = .ok (.iload_n 2, 1) := by decide +kernel
theorem dX1_glareBefore_15 : decode cX1_glareBefore 15 = .ok (.ifCond .ge 5, 3) := by decide +kernel
theorem dX1_glareBefore_18 : decode cX1_glareBefore 18 = .ok (.iconst 0, 1) := by decide +kernel
theorem dX1_glareBefore_19 : decode cX1_glareBefore 19 = .ok (.istore_n 2, 1) := by decide +kernel
theorem dX1_glareBefore_20 : decode cX1_glareBefore 20 = .ok (.iload_n 1, 1) := by decide +kernel
theorem dX1_glareBefore_21 : decode cX1_glareBefore 21 = .ok (.sipush 1440, 3) := by decide +kernel
theorem dX1_glareBefore_24 : decode cX1_glareBefore 24 = .ok (.idiv, 1) := by decide +kernel
theorem dX1_glareBefore_25 : decode cX1_glareBefore 25 = .ok (.aload_n 0, 1) := by decide +kernel
theorem dX1_glareBefore_26 : decode cX1_glareBefore 26 = .ok (.getfield 18, 3) := by decide +kernel
theorem dX1_glareBefore_29 : decode cX1_glareBefore 29 = .ok (.imul, 1) := by decide +kernel
theorem dX1_glareBefore_30 : decode cX1_glareBefore 30 = .ok (.iload_n 2, 1) := by decide +kernel
theorem dX1_glareBefore_31 : decode cX1_glareBefore 31 = .ok (.aload_n 0, 1) := by decide +kernel
theorem dX1_glareBefore_32 : decode cX1_glareBefore 32 = .ok (.getfield 18, 3) := by decide +kernel
theorem dX1_glareBefore_35 : decode cX1_glareBefore 35 = .ok (.if_icmp .ge 7, 3) := by decide +kernel
theorem dX1_glareBefore_38 : decode cX1_glareBefore 38 = .ok (.iload_n 2, 1) := by decide +kernel
theorem dX1_glareBefore_39 : decode cX1_glareBefore 39 = .ok (.goto 7, 3) := by decide +kernel
theorem dX1_glareBefore_42 : decode cX1_glareBefore 42 = .ok (.aload_n 0, 1) := by decide +kernel
theorem dX1_glareBefore_43 : decode cX1_glareBefore 43 = .ok (.getfield 18, 3) := by decide +kernel
theorem dX1_glareBefore_46 : decode cX1_glareBefore 46 = .ok (.iadd, 1) := by decide +kernel
theorem dX1_glareBefore_47 : decode cX1_glareBefore 47 = .ok (.ireturn, 1) := by decide +kernel
theorem nm_X1_glareBefore : (yX1_glareBefore).cls ≠ "java/lang/invoke/MethodHandle" ∧ (yX1_glareBefore).cls ≠ "java/lang/invoke/VarHandle" ∧ (parseMethodDescriptor (yX1_glareBefore).desc).map (fun d => d.parameters.length) = some 1 := ⟨by decide +kernel, by decide +kernel, by decide +kernel⟩
def f_X1_glareBefore (n : Nat) (a0 : Nat) (p1 : Int32) (M : KM) : Option Int32 :=
  lt (((p1 - p1 / (1440 : Int32) * (1440 : Int32)) - ((M.1 a0 0) * (60 : Int32)))) fun (v1 : Int32) =>
  lt (fun (x2 : Int32) => (
    if (M.1 a0 2) ≤ x2 then
      some (((p1 / (1440 : Int32)) * (M.1 a0 2)) + (M.1 a0 2))
    else
      some (((p1 / (1440 : Int32)) * (M.1 a0 2)) + x2)
  ) : Int32 → Option Int32) fun j20 =>
  if 0 ≤ v1 then
    j20 v1
  else
    j20 (0 : Int32)
set_option maxRecDepth 100000 in
set_option maxHeartbeats 4000000 in
theorem c_X1_glareBefore {l : Launch} {ad : Nat → Nat} {cy : Nat → ClassId} {D : va_G} {z : Nat} (n : Nat) {a0 : Nat} {p1 : Int32} {M : KM} {y : Int32} (h0 : kty a0 = 2) (hf : f_X1_glareBefore n a0 p1 M = some y) : KC l ad cy D z yX1_glareBefore cX1_glareBefore 3 (some .int) 1 [.ref (ad a0), .int p1] M (some (.int y), M) := by
  refine kv_enter (by decide +kernel) (Nat.le_of_ble_eq_true rfl) ?_
  intro x hl hD hz G
  subst hl hD hz
  unfold f_X1_glareBefore at hf
  have G : KG ad cy x cX1_glareBefore "NoonGuides$Hours" 3 (some (some .int)) 1 := G
  show KV ad cy x (some (.int y), M) 0 [(0, .ref (ad a0)), (1, .int p1)] [] M
  refine v_iload_n G dX1_glareBefore_0 1 rfl ?_
  refine v_sipush (1440 : Int32) G dX1_glareBefore_1 (by decide) ?_
  refine v_irem G dX1_glareBefore_4 (by decide) ?_
  refine v_aload_n G dX1_glareBefore_5 0 rfl ?_
  refine gf_1_0 G h0 t_254 (Or.inl rfl) dX1_glareBefore_6 ?_
  refine v_bipush (60 : Int32) G dX1_glareBefore_9 (by decide) ?_
  refine v_imul G dX1_glareBefore_11 ?_
  refine v_isub G dX1_glareBefore_12 ?_
  refine v_nmi (fun v1 ev1 => ?_)
  replace hf := lt_e hf ev1
  refine v_istore_n [(2, .int v1), (0, .ref (ad a0)), (1, .int p1)] G dX1_glareBefore_13 (by decide) rfl ?_
  refine v_iload_n G dX1_glareBefore_14 0 rfl ?_
  obtain ⟨j20, ej20, hf⟩ := lt_j hf
  have hj20 : ∀ (x2 : Int32), j20 x2 = some y → KV ad cy x (some (.int y), M) 20 [(0, .ref (ad a0)), (1, .int p1), (2, .int x2)] [] M := by
    intro x2 hf
    rw [ej20] at hf
    refine v_iload_n G dX1_glareBefore_20 1 rfl ?_
    refine v_sipush (1440 : Int32) G dX1_glareBefore_21 (by decide) ?_
    refine v_idiv G dX1_glareBefore_24 (by decide) ?_
    refine v_aload_n G dX1_glareBefore_25 0 rfl ?_
    refine gf_1_2 G h0 t_260 (Or.inl rfl) dX1_glareBefore_26 ?_
    refine v_imul G dX1_glareBefore_29 ?_
    refine v_iload_n G dX1_glareBefore_30 2 rfl ?_
    refine v_aload_n G dX1_glareBefore_31 0 rfl ?_
    refine gf_1_2 G h0 t_260 (Or.inl rfl) dX1_glareBefore_32 ?_
    refine v_icmp_ge 42 G dX1_glareBefore_35 (by decide) (fun h3 => ?_) (fun h3 => ?_)
    · replace hf := (if_pos h3).symm.trans hf
      refine v_aload_n G dX1_glareBefore_42 0 rfl ?_
      refine gf_1_2 G h0 t_260 (Or.inl rfl) dX1_glareBefore_43 ?_
      refine v_iadd G dX1_glareBefore_46 ?_
      obtain rfl := Option.some.inj hf
      exact v_iret G dX1_glareBefore_47
    · replace hf := (if_neg h3).symm.trans hf
      refine v_iload_n G dX1_glareBefore_38 2 rfl ?_
      refine v_goto 46 G dX1_glareBefore_39 (by decide) ?_
      refine v_iadd G dX1_glareBefore_46 ?_
      obtain rfl := Option.some.inj hf
      exact v_iret G dX1_glareBefore_47
  refine v_if_ge 20 G dX1_glareBefore_15 (by decide) (fun h4 => ?_) (fun h4 => ?_)
  · replace hf := (if_pos h4).symm.trans hf
    refine v_sub _ [1, 2, 0] rfl ?_
    exact hj20 v1 hf
  · replace hf := (if_neg h4).symm.trans hf
    refine v_iconst (0 : Int32) G dX1_glareBefore_18 (by decide) ?_
    refine v_istore_n [(2, .int (0 : Int32)), (0, .ref (ad a0)), (1, .int p1)] G dX1_glareBefore_19 (by decide) rfl ?_
    refine v_sub _ [1, 2, 0] rfl ?_
    exact hj20 (0 : Int32) hf
abbrev cX1_movedIn : ByteArray := prog_3_method_6_code
def yX1_movedIn : MethodName := ⟨RX1, "movedIn", "(III)I"⟩
theorem dX1_movedIn_0 : decode cX1_movedIn 0 = .ok (.iload_n 1, 1) := by decide +kernel
theorem dX1_movedIn_1 : decode cX1_movedIn 1 = .ok (.iconst 2, 1) := by decide +kernel
theorem dX1_movedIn_2 : decode cX1_movedIn 2 = .ok (.if_icmp .ne 5, 3) := by decide +kernel
theorem dX1_movedIn_5 : decode cX1_movedIn 5 = .ok (.iconst 0, 1) := by decide +kernel
theorem dX1_movedIn_6 : decode cX1_movedIn 6 = .ok (.ireturn, 1) := by decide +kernel
theorem dX1_movedIn_7 : decode cX1_movedIn 7 = .ok (.iload_n 1, 1) := by decide +kernel
theorem dX1_movedIn_8 : decode cX1_movedIn 8 = .ok (.ifCond .ne 5, 3) := by decide +kernel
theorem dX1_movedIn_11 : decode cX1_movedIn 11 = .ok (.iload_n 3, 1) := by decide +kernel
theorem dX1_movedIn_12 : decode cX1_movedIn 12 = .ok (.ireturn, 1) := by decide +kernel
theorem dX1_movedIn_13 : decode cX1_movedIn 13 = .ok (.iload_n 3, 1) := by decide +kernel
theorem dX1_movedIn_14 : decode cX1_movedIn 14 = .ok (.aload_n 0, 1) := by decide +kernel
theorem dX1_movedIn_15 : decode cX1_movedIn 15 = .ok (.iload_n 2, 1) := by decide +kernel
theorem dX1_movedIn_16 : decode cX1_movedIn 16 = .ok (.iload_n 3, 1) := by decide +kernel
theorem dX1_movedIn_17 : decode cX1_movedIn 17 = .ok (.iadd, 1) := by decide +kernel
theorem dX1_movedIn_18 : decode cX1_movedIn 18 = .ok (.invokevirtual 21, 3) := by decide +kernel
theorem dX1_movedIn_21 : decode cX1_movedIn 21 = .ok (.isub, 1) := by decide +kernel
theorem dX1_movedIn_22 : decode cX1_movedIn 22 = .ok (.aload_n 0, 1) := by decide +kernel
theorem dX1_movedIn_23 : decode cX1_movedIn 23 = .ok (.iload_n 2, 1) := by decide +kernel
theorem dX1_movedIn_24 : decode cX1_movedIn 24 = .ok (.invokevirtual 21, 3) := by decide +kernel
theorem dX1_movedIn_27 : decode cX1_movedIn 27 = .ok (.iadd, 1) := by decide +kernel
theorem dX1_movedIn_28 : decode cX1_movedIn 28 = .ok (.ireturn, 1) := by decide +kernel
theorem nm_X1_movedIn : (yX1_movedIn).cls ≠ "java/lang/invoke/MethodHandle" ∧ (yX1_movedIn).cls ≠ "java/lang/invoke/VarHandle" ∧ (parseMethodDescriptor (yX1_movedIn).desc).map (fun d => d.parameters.length) = some 3 := ⟨by decide +kernel, by decide +kernel, by decide +kernel⟩
def f_X1_movedIn (n : Nat) (a0 : Nat) (p1 : Int32) (p2 : Int32) (p3 : Int32) (M : KM) : Option Int32 :=
  if p1 = (2 : Int32) then
    some (0 : Int32)
  else
    if p1 = 0 then
      some p3
    else
      (f_X1_glareBefore n a0 (p2 + p3) M).bind fun (v1 : Int32) =>
      (f_X1_glareBefore n a0 p2 M).bind fun (v2 : Int32) =>
      some ((p3 - v1) + v2)
set_option maxRecDepth 100000 in
set_option maxHeartbeats 4000000 in
theorem c_X1_movedIn {l : Launch} {ad : Nat → Nat} {cy : Nat → ClassId} {D : va_G} {z : Nat} (n : Nat) {a0 : Nat} {p1 : Int32} {p2 : Int32} {p3 : Int32} {M : KM} {y : Int32} (h0 : kty a0 = 2) (hf : f_X1_movedIn n a0 p1 p2 p3 M = some y) : KC l ad cy D z yX1_movedIn cX1_movedIn 4 (some .int) 2 [.ref (ad a0), .int p1, .int p2, .int p3] M (some (.int y), M) := by
  refine kv_enter (by decide +kernel) (Nat.le_of_ble_eq_true rfl) ?_
  intro x hl hD hz G
  subst hl hD hz
  unfold f_X1_movedIn at hf
  have G : KG ad cy x cX1_movedIn "NoonGuides$Hours" 4 (some (some .int)) 2 := G
  show KV ad cy x (some (.int y), M) 0 [(0, .ref (ad a0)), (1, .int p1), (2, .int p2), (3, .int p3)] [] M
  refine v_iload_n G dX1_movedIn_0 1 rfl ?_
  refine v_iconst (2 : Int32) G dX1_movedIn_1 (by decide) ?_
  refine v_icmp_ne 7 G dX1_movedIn_2 (by decide) (fun h4 => ?_) (fun h4 => ?_)
  · replace hf := (if_neg h4).symm.trans hf
    refine v_iload_n G dX1_movedIn_7 1 rfl ?_
    refine v_if_ne 13 G dX1_movedIn_8 (by decide) (fun h3 => ?_) (fun h3 => ?_)
    · replace hf := (if_neg h3).symm.trans hf
      refine v_iload_n G dX1_movedIn_13 3 rfl ?_
      refine v_aload_n G dX1_movedIn_14 0 rfl ?_
      refine v_iload_n G dX1_movedIn_15 2 rfl ?_
      refine v_iload_n G dX1_movedIn_16 3 rfl ?_
      refine v_iadd G dX1_movedIn_17 ?_
      obtain ⟨v1, hcv1, hf⟩ := bd_e hf
      refine v_callV [.int (p2 + p3)] G (c_X1_glareBefore n h0 hcv1) h0 (by decide) rfl rfl rfl t_1074 t_1076 t_p34 t_12 t_1077 nm_X1_glareBefore (by decide) (by decide) rfl rfl (Nat.le_of_ble_eq_true rfl) dX1_movedIn_18 (kv_ri ?_)
      refine v_isub G dX1_movedIn_21 ?_
      refine v_aload_n G dX1_movedIn_22 0 rfl ?_
      refine v_iload_n G dX1_movedIn_23 2 rfl ?_
      obtain ⟨v2, hcv2, hf⟩ := bd_e hf
      refine v_callV [.int p2] G (c_X1_glareBefore n h0 hcv2) h0 (by decide) rfl rfl rfl t_1074 t_1076 t_p34 t_12 t_1077 nm_X1_glareBefore (by decide) (by decide) rfl rfl (Nat.le_of_ble_eq_true rfl) dX1_movedIn_24 (kv_ri ?_)
      refine v_iadd G dX1_movedIn_27 ?_
      obtain rfl := Option.some.inj hf
      exact v_iret G dX1_movedIn_28
    · replace hf := (if_pos h3).symm.trans hf
      refine v_iload_n G dX1_movedIn_11 3 rfl ?_
      obtain rfl := Option.some.inj hf
      exact v_iret G dX1_movedIn_12
  · replace hf := (if_pos h4).symm.trans hf
    refine v_iconst (0 : Int32) G dX1_movedIn_5 (by decide) ?_
    obtain rfl := Option.some.inj hf
    exact v_iret G dX1_movedIn_6
abbrev cX1_doneAt : ByteArray := prog_3_method_7_code
def yX1_doneAt : MethodName := ⟨RX1, "doneAt", "(III)I"⟩
theorem dX1_doneAt_0 : decode cX1_doneAt 0 = .ok (.iload_n 1, 1) := by decide +kernel
theorem dX1_doneAt_1 : decode cX1_doneAt 1 = .ok (.iconst 2, 1) := by decide +kernel
theorem dX1_doneAt_2 : decode cX1_doneAt 2 = .ok (.if_icmp .eq 9, 3) := by decide +kernel
theorem dX1_doneAt_5 : decode cX1_doneAt 5 = .ok (.iload_n 2, 1) := by decide +kernel
theorem dX1_doneAt_6 : decode cX1_doneAt 6 = .ok (.ldc 25, 2) := by decide +kernel
theorem dX1_doneAt_8 : decode cX1_doneAt 8 = .ok (.if_icmp .lt 6, 3) := by decide +kernel
theorem dX1_doneAt_11 : decode cX1_doneAt 11 = .ok (.ldc 25, 2) := by decide +kernel
theorem dX1_doneAt_13 : decode cX1_doneAt 13 = .ok (.ireturn, 1) := by decide +kernel
theorem dX1_doneAt_14 : decode cX1_doneAt 14 = .ok (.iload_n 1, 1) := by decide +kernel
theorem dX1_doneAt_15 : decode cX1_doneAt 15 = .ok (.ifCond .ne 7, 3) := by decide +kernel
theorem dX1_doneAt_18 : decode cX1_doneAt 18 = .ok (.iload_n 2, 1) := by decide +kernel
theorem dX1_doneAt_19 : decode cX1_doneAt 19 = .ok (.iload_n 3, 1) := by decide +kernel
theorem dX1_doneAt_20 : decode cX1_doneAt 20 = .ok (.iadd, 1) := by decide +kernel
theorem dX1_doneAt_21 : decode cX1_doneAt 21 = .ok (.ireturn, 1) := by decide +kernel
theorem dX1_doneAt_22 : decode cX1_doneAt 22 = .ok (.sipush 1440, 3) := by decide +kernel
theorem dX1_doneAt_25 : decode cX1_doneAt 25 = .ok (.aload_n 0, 1) := by decide +kernel
theorem dX1_doneAt_26 : decode cX1_doneAt 26 = .ok (.getfield 18, 3) := by decide +kernel
theorem dX1_doneAt_29 : decode cX1_doneAt 29 = .ok (.isub, 1) := by decide +kernel
theorem dX1_doneAt_30 : decode cX1_doneAt 30 = .ok (.istore 4, 2) := by decide +kernel
theorem dX1_doneAt_32 : decode cX1_doneAt 32 = .ok (.iload 4, 2) := by decide +kernel
theorem dX1_doneAt_34 : decode cX1_doneAt 34 = .ok (.ifCond .gt 6, 3) := by decide +kernel
theorem dX1_doneAt_37 : decode cX1_doneAt 37 = .ok (.ldc 25, 2) := by decide +kernel
theorem dX1_doneAt_39 : decode cX1_doneAt 39 = .ok (.ireturn, 1) := by decide +kernel
theorem dX1_doneAt_40 : decode cX1_doneAt 40 = .ok (.iload_n 2, 1) := by decide +kernel
theorem dX1_doneAt_41 : decode cX1_doneAt 41 = .ok (.aload_n 0, 1) := by decide +kernel
theorem dX1_doneAt_42 : decode cX1_doneAt 42 = .ok (.iload_n 2, 1) := by decide +kernel
theorem dX1_doneAt_43 : decode cX1_doneAt 43 = .ok (.invokevirtual 21, 3) := by decide +kernel
theorem dX1_doneAt_46 : decode cX1_doneAt 46 = .ok (.isub, 1) := by decide +kernel
theorem dX1_doneAt_47 : decode cX1_doneAt 47 = .ok (.iload_n 3, 1) := by decide +kernel
theorem dX1_doneAt_48 : decode cX1_doneAt 48 = .ok (.iadd, 1) := by decide +kernel
theorem dX1_doneAt_49 : decode cX1_doneAt 49 = .ok (.iconst 1, 1) := by decide +kernel
theorem dX1_doneAt_50 : decode cX1_doneAt 50 = .ok (.isub, 1) := by decide +kernel
theorem dX1_doneAt_51 : decode cX1_doneAt 51 = .ok (.istore 5, 2) := by decide +kernel
theorem dX1_doneAt_53 : decode cX1_doneAt 53 = .ok (.iload 5, 2) := by decide +kernel
theorem dX1_doneAt_55 : decode cX1_doneAt 55 = .ok (.iload 4, 2) := by decide +kernel
theorem dX1_doneAt_57 : decode cX1_doneAt 57 = .ok (.irem, 1) := by decide +kernel
theorem dX1_doneAt_58 : decode cX1_doneAt 58 = .ok (.iconst 1, 1) := by decide +kernel
theorem dX1_doneAt_59 : decode cX1_doneAt 59 = .ok (.iadd, 1) := by decide +kernel
theorem dX1_doneAt_60 : decode cX1_doneAt 60 = .ok (.istore 6, 2) := by decide +kernel
theorem dX1_doneAt_62 : decode cX1_doneAt 62 = .ok (.iload 6, 2) := by decide +kernel
theorem dX1_doneAt_64 : decode cX1_doneAt 64 = .ok (.aload_n 0, 1) := by decide +kernel
theorem dX1_doneAt_65 : decode cX1_doneAt 65 = .ok (.getfield 9, 3) := by decide +kernel
theorem dX1_doneAt_68 : decode cX1_doneAt 68 = .ok (.bipush 60, 2) := by decide +kernel
theorem dX1_doneAt_70 : decode cX1_doneAt 70 = .ok (.imul, 1) := by decide +kernel
theorem dX1_doneAt_71 : decode cX1_doneAt 71 = .ok (.if_icmp .gt 7, 3) := by decide +kernel
theorem dX1_doneAt_74 : decode cX1_doneAt 74 = .ok (.iconst 0, 1) := by decide +kernel
theorem dX1_doneAt_75 : decode cX1_doneAt 75 = .ok (.goto 7, 3) := by decide +kernel
theorem dX1_doneAt_78 : decode cX1_doneAt 78 = .ok (.aload_n 0, 1) := by decide +kernel
theorem dX1_doneAt_79 : decode cX1_doneAt 79 = .ok (.getfield 18, 3) := by decide +kernel
theorem dX1_doneAt_82 : decode cX1_doneAt 82 = .ok (.istore 7, 2) := by decide +kernel
theorem dX1_doneAt_84 : decode cX1_doneAt 84 = .ok (.iload 5, 2) := by decide +kernel
theorem dX1_doneAt_86 : decode cX1_doneAt 86 = .ok (.iload 4, 2) := by decide +kernel
theorem dX1_doneAt_88 : decode cX1_doneAt 88 = .ok (.idiv, 1) := by decide +kernel
theorem dX1_doneAt_89 : decode cX1_doneAt 89 = .ok (.sipush 1440, 3) := by decide +kernel
theorem dX1_doneAt_92 : decode cX1_doneAt 92 = .ok (.imul, 1) := by decide +kernel
theorem dX1_doneAt_93 : decode cX1_doneAt 93 = .ok (.iload 6, 2) := by decide +kernel
theorem dX1_doneAt_95 : decode cX1_doneAt 95 = .ok (.iadd, 1) := by decide +kernel
theorem dX1_doneAt_96 : decode cX1_doneAt 96 = .ok (.iload 7, 2) := by decide +kernel
theorem dX1_doneAt_98 : decode cX1_doneAt 98 = .ok (.iadd, 1) := by decide +kernel
theorem dX1_doneAt_99 : decode cX1_doneAt 99 = .ok (.ireturn, 1) := by decide +kernel
theorem nm_X1_doneAt : (yX1_doneAt).cls ≠ "java/lang/invoke/MethodHandle" ∧ (yX1_doneAt).cls ≠ "java/lang/invoke/VarHandle" ∧ (parseMethodDescriptor (yX1_doneAt).desc).map (fun d => d.parameters.length) = some 3 := ⟨by decide +kernel, by decide +kernel, by decide +kernel⟩
def f_X1_doneAt (n : Nat) (a0 : Nat) (p1 : Int32) (p2 : Int32) (p3 : Int32) (M : KM) : Option Int32 :=
  if p1 = (2 : Int32) then
    some (1000000000 : Int32)
  else
    if p2 < (1000000000 : Int32) then
      if p1 = 0 then
        some (p2 + p3)
      else
        lt (((1440 : Int32) - (M.1 a0 2))) fun (v1 : Int32) =>
        if 0 < v1 then
          (f_X1_glareBefore n a0 p2 M).bind fun (v2 : Int32) =>
          lt ((((p2 - v2) + p3) - (1 : Int32))) fun (v3 : Int32) =>
          if ¬ v1 = 0 then
          lt (((v3 - v3 / v1 * v1) + (1 : Int32))) fun (v5 : Int32) =>
          lt (fun (x6 : Int32) => (
            if ¬ v1 = 0 then
            some ((((v3 / v1) * (1440 : Int32)) + v5) + x6)
            else none
          ) : Int32 → Option Int32) fun j82 =>
          if ((M.1 a0 0) * (60 : Int32)) < v5 then
            j82 (M.1 a0 2)
          else
            j82 (0 : Int32)
          else none
        else
          some (1000000000 : Int32)
    else
      some (1000000000 : Int32)
set_option maxRecDepth 100000 in
set_option maxHeartbeats 4000000 in
theorem c_X1_doneAt {l : Launch} {ad : Nat → Nat} {cy : Nat → ClassId} {D : va_G} {z : Nat} (n : Nat) {a0 : Nat} {p1 : Int32} {p2 : Int32} {p3 : Int32} {M : KM} {y : Int32} (h0 : kty a0 = 2) (hf : f_X1_doneAt n a0 p1 p2 p3 M = some y) : KC l ad cy D z yX1_doneAt cX1_doneAt 8 (some .int) 2 [.ref (ad a0), .int p1, .int p2, .int p3] M (some (.int y), M) := by
  refine kv_enter (by decide +kernel) (Nat.le_of_ble_eq_true rfl) ?_
  intro x hl hD hz G
  subst hl hD hz
  unfold f_X1_doneAt at hf
  have G : KG ad cy x cX1_doneAt "NoonGuides$Hours" 8 (some (some .int)) 2 := G
  show KV ad cy x (some (.int y), M) 0 [(0, .ref (ad a0)), (1, .int p1), (2, .int p2), (3, .int p3)] [] M
  refine v_iload_n G dX1_doneAt_0 1 rfl ?_
  refine v_iconst (2 : Int32) G dX1_doneAt_1 (by decide) ?_
  refine v_icmp_eq 11 G dX1_doneAt_2 (by decide) (fun h12 => ?_) (fun h12 => ?_)
  · replace hf := (if_pos h12).symm.trans hf
    refine v_ldc G dX1_doneAt_11 t_1073 ?_
    obtain rfl := Option.some.inj hf
    exact v_iret G dX1_doneAt_13
  · replace hf := (if_neg h12).symm.trans hf
    refine v_iload_n G dX1_doneAt_5 2 rfl ?_
    refine v_ldc G dX1_doneAt_6 t_1073 ?_
    refine v_icmp_lt 14 G dX1_doneAt_8 (by decide) (fun h11 => ?_) (fun h11 => ?_)
    · replace hf := (if_pos h11).symm.trans hf
      refine v_iload_n G dX1_doneAt_14 1 rfl ?_
      refine v_if_ne 22 G dX1_doneAt_15 (by decide) (fun h10 => ?_) (fun h10 => ?_)
      · replace hf := (if_neg h10).symm.trans hf
        refine v_sipush (1440 : Int32) G dX1_doneAt_22 (by decide) ?_
        refine v_aload_n G dX1_doneAt_25 0 rfl ?_
        refine gf_1_2 G h0 t_260 (Or.inl rfl) dX1_doneAt_26 ?_
        refine v_isub G dX1_doneAt_29 ?_
        refine v_nmi (fun v1 ev1 => ?_)
        replace hf := lt_e hf ev1
        refine v_istore [(4, .int v1), (0, .ref (ad a0)), (1, .int p1), (2, .int p2), (3, .int p3)] G dX1_doneAt_30 (by decide) rfl ?_
        refine v_iload G dX1_doneAt_32 0 rfl ?_
        refine v_if_gt 40 G dX1_doneAt_34 (by decide) (fun h9 => ?_) (fun h9 => ?_)
        · replace hf := (if_pos h9).symm.trans hf
          refine v_iload_n G dX1_doneAt_40 3 rfl ?_
          refine v_aload_n G dX1_doneAt_41 1 rfl ?_
          refine v_iload_n G dX1_doneAt_42 3 rfl ?_
          obtain ⟨v2, hcv2, hf⟩ := bd_e hf
          refine v_callV [.int p2] G (c_X1_glareBefore n h0 hcv2) h0 (by decide) rfl rfl rfl t_1074 t_1076 t_p34 t_12 t_1077 nm_X1_glareBefore (by decide) (by decide) rfl rfl (Nat.le_of_ble_eq_true rfl) dX1_doneAt_43 (kv_ri ?_)
          refine v_isub G dX1_doneAt_46 ?_
          refine v_iload_n G dX1_doneAt_47 4 rfl ?_
          refine v_iadd G dX1_doneAt_48 ?_
          refine v_iconst (1 : Int32) G dX1_doneAt_49 (by decide) ?_
          refine v_isub G dX1_doneAt_50 ?_
          refine v_nmi (fun v3 ev3 => ?_)
          replace hf := lt_e hf ev3
          refine v_istore [(5, .int v3), (4, .int v1), (0, .ref (ad a0)), (1, .int p1), (2, .int p2), (3, .int p3)] G dX1_doneAt_51 (by decide) rfl ?_
          refine v_iload G dX1_doneAt_53 0 rfl ?_
          refine v_iload G dX1_doneAt_55 1 rfl ?_
          obtain ⟨g4, hf⟩ := gd_e hf
          refine v_irem G dX1_doneAt_57 g4 ?_
          refine v_iconst (1 : Int32) G dX1_doneAt_58 (by decide) ?_
          refine v_iadd G dX1_doneAt_59 ?_
          refine v_nmi (fun v5 ev5 => ?_)
          replace hf := lt_e hf ev5
          refine v_istore [(6, .int v5), (5, .int v3), (4, .int v1), (0, .ref (ad a0)), (1, .int p1), (2, .int p2), (3, .int p3)] G dX1_doneAt_60 (by decide) rfl ?_
          refine v_iload G dX1_doneAt_62 0 rfl ?_
          refine v_aload_n G dX1_doneAt_64 3 rfl ?_
          refine gf_1_0 G h0 t_254 (Or.inl rfl) dX1_doneAt_65 ?_
          refine v_bipush (60 : Int32) G dX1_doneAt_68 (by decide) ?_
          refine v_imul G dX1_doneAt_70 ?_
          obtain ⟨j82, ej82, hf⟩ := lt_j hf
          have hj82 : ∀ (x6 : Int32), j82 x6 = some y → KV ad cy x (some (.int y), M) 82 [(4, .int v1), (5, .int v3), (6, .int v5)] [.int x6] M := by
            intro x6 hf
            rw [ej82] at hf
            refine v_istore [(7, .int x6), (4, .int v1), (5, .int v3), (6, .int v5)] G dX1_doneAt_82 (by decide) rfl ?_
            refine v_iload G dX1_doneAt_84 2 rfl ?_
            refine v_iload G dX1_doneAt_86 1 rfl ?_
            obtain ⟨g7, hf⟩ := gd_e hf
            refine v_idiv G dX1_doneAt_88 g7 ?_
            refine v_sipush (1440 : Int32) G dX1_doneAt_89 (by decide) ?_
            refine v_imul G dX1_doneAt_92 ?_
            refine v_iload G dX1_doneAt_93 3 rfl ?_
            refine v_iadd G dX1_doneAt_95 ?_
            refine v_iload G dX1_doneAt_96 0 rfl ?_
            refine v_iadd G dX1_doneAt_98 ?_
            obtain rfl := Option.some.inj hf
            exact v_iret G dX1_doneAt_99
          refine v_icmp_gt 78 G dX1_doneAt_71 (by decide) (fun h8 => ?_) (fun h8 => ?_)
          · replace hf := (if_pos h8).symm.trans hf
            refine v_aload_n G dX1_doneAt_78 3 rfl ?_
            refine gf_1_2 G h0 t_260 (Or.inl rfl) dX1_doneAt_79 ?_
            refine v_sub _ [2, 1, 0] rfl ?_
            exact hj82 (M.1 a0 2) hf
          · replace hf := (if_neg h8).symm.trans hf
            refine v_iconst (0 : Int32) G dX1_doneAt_74 (by decide) ?_
            refine v_goto 82 G dX1_doneAt_75 (by decide) ?_
            refine v_sub _ [2, 1, 0] rfl ?_
            exact hj82 (0 : Int32) hf
        · replace hf := (if_neg h9).symm.trans hf
          refine v_ldc G dX1_doneAt_37 t_1073 ?_
          obtain rfl := Option.some.inj hf
          exact v_iret G dX1_doneAt_39
      · replace hf := (if_pos h10).symm.trans hf
        refine v_iload_n G dX1_doneAt_18 2 rfl ?_
        refine v_iload_n G dX1_doneAt_19 3 rfl ?_
        refine v_iadd G dX1_doneAt_20 ?_
        obtain rfl := Option.some.inj hf
        exact v_iret G dX1_doneAt_21
    · replace hf := (if_neg h11).symm.trans hf
      refine v_ldc G dX1_doneAt_11 t_1073 ?_
      obtain rfl := Option.some.inj hf
      exact v_iret G dX1_doneAt_13
