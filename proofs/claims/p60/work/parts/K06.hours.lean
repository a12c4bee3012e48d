def RJ6 : String := "java/lang/Integer"
abbrev cJ6_bitCount_0f7a4 : ByteArray := prog_15_method_49_code
def yJ6_bitCount_0f7a4 : MethodName := ⟨RJ6, "bitCount", "(I)I"⟩
theorem dJ6_bitCount_0f7a4_0 : dc cJ6_bitCount_0f7a4 0 (.iload_n 0) 1 1 := ⟨by decide +kernel, rfl⟩
theorem dJ6_bitCount_0f7a4_1 : dc cJ6_bitCount_0f7a4 1 (.iload_n 0) 1 2 := ⟨by decide +kernel, rfl⟩
theorem dJ6_bitCount_0f7a4_2 : dc cJ6_bitCount_0f7a4 2 (.iconst 1) 1 3 := ⟨by decide +kernel, rfl⟩
theorem dJ6_bitCount_0f7a4_3 : dc cJ6_bitCount_0f7a4 3 (.iushr) 1 4 := ⟨by decide +kernel, rfl⟩
theorem dJ6_bitCount_0f7a4_4 : dc cJ6_bitCount_0f7a4 4 (.ldc_w 265) 3 7 := ⟨by decide +kernel, rfl⟩
theorem dJ6_bitCount_0f7a4_7 : dc cJ6_bitCount_0f7a4 7 (.iand) 1 8 := ⟨by decide +kernel, rfl⟩
theorem dJ6_bitCount_0f7a4_8 : dc cJ6_bitCount_0f7a4 8 (.isub) 1 9 := ⟨by decide +kernel, rfl⟩
theorem dJ6_bitCount_0f7a4_9 : dc cJ6_bitCount_0f7a4 9 (.istore_n 0) 1 10 := ⟨by decide +kernel, rfl⟩
theorem dJ6_bitCount_0f7a4_10 : dc cJ6_bitCount_0f7a4 10 (.iload_n 0) 1 11 := ⟨by decide +kernel, rfl⟩
theorem dJ6_bitCount_0f7a4_11 : dc cJ6_bitCount_0f7a4 11 (.ldc_w 266) 3 14 := ⟨by decide +kernel, rfl⟩
theorem dJ6_bitCount_0f7a4_14 : dc cJ6_bitCount_0f7a4 14 (.iand) 1 15 := ⟨by decide +kernel, rfl⟩
theorem dJ6_bitCount_0f7a4_15 : dc cJ6_bitCount_0f7a4 15 (.iload_n 0) 1 16 := ⟨by decide +kernel, rfl⟩
theorem dJ6_bitCount_0f7a4_16 : dc cJ6_bitCount_0f7a4 16 (.iconst 2) 1 17 := ⟨by decide +kernel, rfl⟩
theorem dJ6_bitCount_0f7a4_17 : dc cJ6_bitCount_0f7a4 17 (.iushr) 1 18 := ⟨by decide +kernel, rfl⟩
theorem dJ6_bitCount_0f7a4_18 : dc cJ6_bitCount_0f7a4 18 (.ldc_w 266) 3 21 := ⟨by decide +kernel, rfl⟩
theorem dJ6_bitCount_0f7a4_21 : dc cJ6_bitCount_0f7a4 21 (.iand) 1 22 := ⟨by decide +kernel, rfl⟩
theorem dJ6_bitCount_0f7a4_22 : dc cJ6_bitCount_0f7a4 22 (.iadd) 1 23 := ⟨by decide +kernel, rfl⟩
theorem dJ6_bitCount_0f7a4_23 : dc cJ6_bitCount_0f7a4 23 (.istore_n 0) 1 24 := ⟨by decide +kernel, rfl⟩
theorem dJ6_bitCount_0f7a4_24 : dc cJ6_bitCount_0f7a4 24 (.iload_n 0) 1 25 := ⟨by decide +kernel, rfl⟩
theorem dJ6_bitCount_0f7a4_25 : dc cJ6_bitCount_0f7a4 25 (.iload_n 0) 1 26 := ⟨by decide +kernel, rfl⟩
theorem dJ6_bitCount_0f7a4_26 : dc cJ6_bitCount_0f7a4 26 (.iconst 4) 1 27 := ⟨by decide +kernel, rfl⟩
theorem dJ6_bitCount_0f7a4_27 : dc cJ6_bitCount_0f7a4 27 (.iushr) 1 28 := ⟨by decide +kernel, rfl⟩
theorem dJ6_bitCount_0f7a4_28 : dc cJ6_bitCount_0f7a4 28 (.iadd) 1 29 := ⟨by decide +kernel, rfl⟩
theorem dJ6_bitCount_0f7a4_29 : dc cJ6_bitCount_0f7a4 29 (.ldc_w 267) 3 32 := ⟨by decide +kernel, rfl⟩
theorem dJ6_bitCount_0f7a4_32 : dc cJ6_bitCount_0f7a4 32 (.iand) 1 33 := ⟨by decide +kernel, rfl⟩
theorem dJ6_bitCount_0f7a4_33 : dc cJ6_bitCount_0f7a4 33 (.istore_n 0) 1 34 := ⟨by decide +kernel, rfl⟩
theorem dJ6_bitCount_0f7a4_34 : dc cJ6_bitCount_0f7a4 34 (.iload_n 0) 1 35 := ⟨by decide +kernel, rfl⟩
theorem dJ6_bitCount_0f7a4_35 : dc cJ6_bitCount_0f7a4 35 (.iload_n 0) 1 36 := ⟨by decide +kernel, rfl⟩
theorem dJ6_bitCount_0f7a4_36 : dc cJ6_bitCount_0f7a4 36 (.bipush 8) 2 38 := ⟨by decide +kernel, rfl⟩
theorem dJ6_bitCount_0f7a4_38 : dc cJ6_bitCount_0f7a4 38 (.iushr) 1 39 := ⟨by decide +kernel, rfl⟩
theorem dJ6_bitCount_0f7a4_39 : dc cJ6_bitCount_0f7a4 39 (.iadd) 1 40 := ⟨by decide +kernel, rfl⟩
theorem dJ6_bitCount_0f7a4_40 : dc cJ6_bitCount_0f7a4 40 (.istore_n 0) 1 41 := ⟨by decide +kernel, rfl⟩
theorem dJ6_bitCount_0f7a4_41 : dc cJ6_bitCount_0f7a4 41 (.iload_n 0) 1 42 := ⟨by decide +kernel, rfl⟩
theorem dJ6_bitCount_0f7a4_42 : dc cJ6_bitCount_0f7a4 42 (.iload_n 0) 1 43 := ⟨by decide +kernel, rfl⟩
theorem dJ6_bitCount_0f7a4_43 : dc cJ6_bitCount_0f7a4 43 (.bipush 16) 2 45 := ⟨by decide +kernel, rfl⟩
theorem dJ6_bitCount_0f7a4_45 : dc cJ6_bitCount_0f7a4 45 (.iushr) 1 46 := ⟨by decide +kernel, rfl⟩
theorem dJ6_bitCount_0f7a4_46 : dc cJ6_bitCount_0f7a4 46 (.iadd) 1 47 := ⟨by decide +kernel, rfl⟩
theorem dJ6_bitCount_0f7a4_47 : dc cJ6_bitCount_0f7a4 47 (.istore_n 0) 1 48 := ⟨by decide +kernel, rfl⟩
theorem dJ6_bitCount_0f7a4_48 : dc cJ6_bitCount_0f7a4 48 (.iload_n 0) 1 49 := ⟨by decide +kernel, rfl⟩
theorem dJ6_bitCount_0f7a4_49 : dc cJ6_bitCount_0f7a4 49 (.bipush 63) 2 51 := ⟨by decide +kernel, rfl⟩
theorem dJ6_bitCount_0f7a4_51 : dc cJ6_bitCount_0f7a4 51 (.iand) 1 52 := ⟨by decide +kernel, rfl⟩
theorem dJ6_bitCount_0f7a4_52 : dc cJ6_bitCount_0f7a4 52 (.ireturn) 1 53 := ⟨by decide +kernel, rfl⟩
theorem nm_J6_bitCount_0f7a4 : (yJ6_bitCount_0f7a4).cls ≠ "java/lang/invoke/MethodHandle" ∧ (yJ6_bitCount_0f7a4).cls ≠ "java/lang/invoke/VarHandle" ∧ (parseMethodDescriptor (yJ6_bitCount_0f7a4).desc).map (fun d => d.parameters.length) = some 1 := ⟨by decide +kernel, by decide +kernel, by decide +kernel⟩
set_option maxRecDepth 100000 in
set_option maxHeartbeats 4000000 in
theorem c_J6_bitCount_0f7a4 {l : Launch} {ad : Nat → Nat} {cy : Nat → ClassId} {D : va_G} {z : Nat} {p0 : Int32} {M : KM} {y : Int32} (hf : f_J6_bitCount_0f7a4 p0 M = y) : KC l ad cy D z yJ6_bitCount_0f7a4 cJ6_bitCount_0f7a4 1 (some .int) 1 [.int p0] M (some (.int y), M) := by
  refine kv_enter (by decide +kernel) (Nat.le_of_ble_eq_true rfl) ?_
  intro x hl hD hz G
  subst hl hD hz
  unfold f_J6_bitCount_0f7a4 at hf
  have G : KG ad cy x cJ6_bitCount_0f7a4 "java/lang/Integer" 1 (some (some .int)) 1 := G
  show KV ad cy x (some (.int y), M) 0 [(0, .int p0)] [] M
  refine v_iload_n G dJ6_bitCount_0f7a4_0 0 rfl ?_
  refine v_iload_n G dJ6_bitCount_0f7a4_1 0 rfl ?_
  refine v_iconst (1 : Int32) G dJ6_bitCount_0f7a4_2 (by decide) ?_
  refine v_iushr G dJ6_bitCount_0f7a4_3 ?_
  refine v_ldcw G dJ6_bitCount_0f7a4_4 t_713 ?_
  refine v_iand G dJ6_bitCount_0f7a4_7 ?_
  refine v_isub G dJ6_bitCount_0f7a4_8 ?_
  refine v_nmi (fun v1 ev1 => ?_)
  replace hf := lt_e hf ev1
  refine v_istore_n [(0, .int v1)] G dJ6_bitCount_0f7a4_9 (by decide) rfl ?_
  refine v_iload_n G dJ6_bitCount_0f7a4_10 0 rfl ?_
  refine v_ldcw G dJ6_bitCount_0f7a4_11 t_714 ?_
  refine v_iand G dJ6_bitCount_0f7a4_14 ?_
  refine v_iload_n G dJ6_bitCount_0f7a4_15 0 rfl ?_
  refine v_iconst (2 : Int32) G dJ6_bitCount_0f7a4_16 (by decide) ?_
  refine v_iushr G dJ6_bitCount_0f7a4_17 ?_
  refine v_ldcw G dJ6_bitCount_0f7a4_18 t_714 ?_
  refine v_iand G dJ6_bitCount_0f7a4_21 ?_
  refine v_iadd G dJ6_bitCount_0f7a4_22 ?_
  refine v_nmi (fun v2 ev2 => ?_)
  replace hf := lt_e hf ev2
  refine v_istore_n [(0, .int v2)] G dJ6_bitCount_0f7a4_23 (by decide) rfl ?_
  refine v_iload_n G dJ6_bitCount_0f7a4_24 0 rfl ?_
  refine v_iload_n G dJ6_bitCount_0f7a4_25 0 rfl ?_
  refine v_iconst (4 : Int32) G dJ6_bitCount_0f7a4_26 (by decide) ?_
  refine v_iushr G dJ6_bitCount_0f7a4_27 ?_
  refine v_iadd G dJ6_bitCount_0f7a4_28 ?_
  refine v_ldcw G dJ6_bitCount_0f7a4_29 t_715 ?_
  refine v_iand G dJ6_bitCount_0f7a4_32 ?_
  refine v_nmi (fun v3 ev3 => ?_)
  replace hf := lt_e hf ev3
  refine v_istore_n [(0, .int v3)] G dJ6_bitCount_0f7a4_33 (by decide) rfl ?_
  refine v_iload_n G dJ6_bitCount_0f7a4_34 0 rfl ?_
  refine v_iload_n G dJ6_bitCount_0f7a4_35 0 rfl ?_
  refine v_bipush (8 : Int32) G dJ6_bitCount_0f7a4_36 (by decide) ?_
  refine v_iushr G dJ6_bitCount_0f7a4_38 ?_
  refine v_iadd G dJ6_bitCount_0f7a4_39 ?_
  refine v_nmi (fun v4 ev4 => ?_)
  replace hf := lt_e hf ev4
  refine v_istore_n [(0, .int v4)] G dJ6_bitCount_0f7a4_40 (by decide) rfl ?_
  refine v_iload_n G dJ6_bitCount_0f7a4_41 0 rfl ?_
  refine v_iload_n G dJ6_bitCount_0f7a4_42 0 rfl ?_
  refine v_bipush (16 : Int32) G dJ6_bitCount_0f7a4_43 (by decide) ?_
  refine v_iushr G dJ6_bitCount_0f7a4_45 ?_
  refine v_iadd G dJ6_bitCount_0f7a4_46 ?_
  refine v_nmi (fun v5 ev5 => ?_)
  replace hf := lt_e hf ev5
  refine v_istore_n [(0, .int v5)] G dJ6_bitCount_0f7a4_47 (by decide) rfl ?_
  refine v_iload_n G dJ6_bitCount_0f7a4_48 0 rfl ?_
  refine v_bipush (63 : Int32) G dJ6_bitCount_0f7a4_49 (by decide) ?_
  refine v_iand G dJ6_bitCount_0f7a4_51 ?_
  obtain rfl := hf
  exact v_iret G dJ6_bitCount_0f7a4_52
abbrev cX1_canBe : ByteArray := prog_3_method_2_code
def yX1_canBe : MethodName := ⟨RX1, "canBe", "(II)Z"⟩
theorem dX1_canBe_0 : dc cX1_canBe 0 (.iload_n 0) 1 1 := ⟨by decide +kernel, rfl⟩
theorem dX1_canBe_1 : dc cX1_canBe 1 (.ifCond .lt 24) 3 4 := ⟨by decide +kernel, rfl⟩
theorem dX1_canBe_4 : dc cX1_canBe 4 (.iload_n 0) 1 5 := ⟨by decide +kernel, rfl⟩
theorem dX1_canBe_5 : dc cX1_canBe 5 (.bipush 23) 2 7 := ⟨by decide +kernel, rfl⟩
theorem dX1_canBe_7 : dc cX1_canBe 7 (.if_icmp .gt 18) 3 10 := ⟨by decide +kernel, rfl⟩
theorem dX1_canBe_10 : dc cX1_canBe 10 (.iload_n 1) 1 11 := ⟨by decide +kernel, rfl⟩
theorem dX1_canBe_11 : dc cX1_canBe 11 (.iload_n 0) 1 12 := ⟨by decide +kernel, rfl⟩
theorem dX1_canBe_12 : dc cX1_canBe 12 (.if_icmp .le 13) 3 15 := ⟨by decide +kernel, rfl⟩
theorem dX1_canBe_15 : dc cX1_canBe 15 (.iload_n 1) 1 16 := ⟨by decide +kernel, rfl⟩
theorem dX1_canBe_16 : dc cX1_canBe 16 (.bipush 24) 2 18 := ⟨by decide +kernel, rfl⟩
theorem dX1_canBe_18 : dc cX1_canBe 18 (.if_icmp .gt 7) 3 21 := ⟨by decide +kernel, rfl⟩
theorem dX1_canBe_21 : dc cX1_canBe 21 (.iconst 1) 1 22 := ⟨by decide +kernel, rfl⟩
theorem dX1_canBe_22 : dc cX1_canBe 22 (.goto 4) 3 25 := ⟨by decide +kernel, rfl⟩
theorem dX1_canBe_25 : dc cX1_canBe 25 (.iconst 0) 1 26 := ⟨by decide +kernel, rfl⟩
theorem dX1_canBe_26 : dc cX1_canBe 26 (.ireturn) 1 27 := ⟨by decide +kernel, rfl⟩
theorem nm_X1_canBe : (yX1_canBe).cls ≠ "java/lang/invoke/MethodHandle" ∧ (yX1_canBe).cls ≠ "java/lang/invoke/VarHandle" ∧ (parseMethodDescriptor (yX1_canBe).desc).map (fun d => d.parameters.length) = some 2 := ⟨by decide +kernel, by decide +kernel, by decide +kernel⟩
set_option maxRecDepth 100000 in
theorem z_X1_canBe {p0 : Int32} {p1 : Int32} {M : KM} {y : Int32} (hf : f_X1_canBe p0 p1 M = y) : (y = 0 ∨ y = 1) := by
  unfold f_X1_canBe at hf
  by_cases h4 : p0 < 0
  · replace hf := (if_pos h4).symm.trans hf
    obtain rfl := hf
    exact (Or.inl rfl)
  · replace hf := (if_neg h4).symm.trans hf
    by_cases h3 : (23 : Int32) < p0
    · replace hf := (if_pos h3).symm.trans hf
      obtain rfl := hf
      exact (Or.inl rfl)
    · replace hf := (if_neg h3).symm.trans hf
      by_cases h2 : p1 ≤ p0
      · replace hf := (if_pos h2).symm.trans hf
        obtain rfl := hf
        exact (Or.inl rfl)
      · replace hf := (if_neg h2).symm.trans hf
        by_cases h1 : (24 : Int32) < p1
        · replace hf := (if_pos h1).symm.trans hf
          obtain rfl := hf
          exact (Or.inl rfl)
        · replace hf := (if_neg h1).symm.trans hf
          obtain rfl := hf
          exact (Or.inr rfl)
set_option maxRecDepth 100000 in
set_option maxHeartbeats 4000000 in
theorem c_X1_canBe {l : Launch} {ad : Nat → Nat} {cy : Nat → ClassId} {D : va_G} {z : Nat} {p0 : Int32} {p1 : Int32} {M : KM} {y : Int32} (hf : f_X1_canBe p0 p1 M = y) : KC l ad cy D z yX1_canBe cX1_canBe 2 (some .boolean) 1 [.int p0, .int p1] M (some (.int y), M) := by
  refine kv_enter (by decide +kernel) (Nat.le_of_ble_eq_true rfl) ?_
  intro x hl hD hz G
  subst hl hD hz
  unfold f_X1_canBe at hf
  have G : KG ad cy x cX1_canBe "NoonGuides$Hours" 2 (some (some .boolean)) 1 := G
  show KV ad cy x (some (.int y), M) 0 [(0, .int p0), (1, .int p1)] [] M
  refine v_iload_n G dX1_canBe_0 0 rfl ?_
  refine v_if_lt 25 G dX1_canBe_1 (by decide) (fun h4 => ?_) (fun h4 => ?_)
  · replace hf := (if_pos h4).symm.trans hf
    refine v_iconst (0 : Int32) G dX1_canBe_25 (by decide) ?_
    obtain rfl := hf
    exact v_zret G (Or.inl rfl) dX1_canBe_26
  · replace hf := (if_neg h4).symm.trans hf
    refine v_iload_n G dX1_canBe_4 0 rfl ?_
    refine v_bipush (23 : Int32) G dX1_canBe_5 (by decide) ?_
    refine v_icmp_gt 25 G dX1_canBe_7 (by decide) (fun h3 => ?_) (fun h3 => ?_)
    · replace hf := (if_pos h3).symm.trans hf
      refine v_iconst (0 : Int32) G dX1_canBe_25 (by decide) ?_
      obtain rfl := hf
      exact v_zret G (Or.inl rfl) dX1_canBe_26
    · replace hf := (if_neg h3).symm.trans hf
      refine v_iload_n G dX1_canBe_10 1 rfl ?_
      refine v_iload_n G dX1_canBe_11 0 rfl ?_
      refine v_icmp_le 25 G dX1_canBe_12 (by decide) (fun h2 => ?_) (fun h2 => ?_)
      · replace hf := (if_pos h2).symm.trans hf
        refine v_iconst (0 : Int32) G dX1_canBe_25 (by decide) ?_
        obtain rfl := hf
        exact v_zret G (Or.inl rfl) dX1_canBe_26
      · replace hf := (if_neg h2).symm.trans hf
        refine v_iload_n G dX1_canBe_15 1 rfl ?_
        refine v_bipush (24 : Int32) G dX1_canBe_16 (by decide) ?_
        refine v_icmp_gt 25 G dX1_canBe_18 (by decide) (fun h1 => ?_) (fun h1 => ?_)
        · replace hf := (if_pos h1).symm.trans hf
          refine v_iconst (0 : Int32) G dX1_canBe_25 (by decide) ?_
          obtain rfl := hf
          exact v_zret G (Or.inl rfl) dX1_canBe_26
        · replace hf := (if_neg h1).symm.trans hf
          refine v_iconst (1 : Int32) G dX1_canBe_21 (by decide) ?_
          refine v_goto 26 G dX1_canBe_22 (by decide) ?_
          obtain rfl := hf
          exact v_zret G (Or.inr rfl) dX1_canBe_26
abbrev cX1_set : ByteArray := prog_3_method_3_code
def yX1_set : MethodName := ⟨RX1, "set", "(II)V"⟩
theorem dX1_set_0 : dc cX1_set 0 (.aload_n 0) 1 1 := ⟨by decide +kernel, rfl⟩
theorem dX1_set_1 : dc cX1_set 1 (.iload_n 1) 1 2 := ⟨by decide +kernel, rfl⟩
theorem dX1_set_2 : dc cX1_set 2 (.putfield 9) 3 5 := ⟨by decide +kernel, rfl⟩
theorem dX1_set_5 : dc cX1_set 5 (.aload_n 0) 1 6 := ⟨by decide +kernel, rfl⟩
theorem dX1_set_6 : dc cX1_set 6 (.iload_n 2) 1 7 := ⟨by decide +kernel, rfl⟩
theorem dX1_set_7 : dc cX1_set 7 (.putfield 15) 3 10 := ⟨by decide +kernel, rfl⟩
theorem dX1_set_10 : dc cX1_set 10 (.aload_n 0) 1 11 := ⟨by decide +kernel, rfl⟩
theorem dX1_set_11 : dc cX1_set 11 (.aload_n 0) 1 12 := ⟨by decide +kernel, rfl⟩
theorem dX1_set_12 : dc cX1_set 12 (.getfield 15) 3 15 := ⟨by decide +kernel, rfl⟩
theorem dX1_set_15 : dc cX1_set 15 (.aload_n 0) 1 16 := ⟨by decide +kernel, rfl⟩
theorem dX1_set_16 : dc cX1_set 16 (.getfield 9) 3 19 := ⟨by decide +kernel, rfl⟩
theorem dX1_set_19 : dc cX1_set 19 (.isub) 1 20 := ⟨by decide +kernel, rfl⟩
theorem dX1_set_20 : dc cX1_set 20 (.bipush 60) 2 22 := ⟨by decide +kernel, rfl⟩
theorem dX1_set_22 : dc cX1_set 22 (.imul) 1 23 := ⟨by decide +kernel, rfl⟩
theorem dX1_set_23 : dc cX1_set 23 (.putfield 18) 3 26 := ⟨by decide +kernel, rfl⟩
theorem dX1_set_26 : dc cX1_set 26 (.return_) 1 27 := ⟨by decide +kernel, rfl⟩
theorem nm_X1_set : (yX1_set).cls ≠ "java/lang/invoke/MethodHandle" ∧ (yX1_set).cls ≠ "java/lang/invoke/VarHandle" ∧ (parseMethodDescriptor (yX1_set).desc).map (fun d => d.parameters.length) = some 2 := ⟨by decide +kernel, by decide +kernel, by decide +kernel⟩
set_option maxRecDepth 100000 in
set_option maxHeartbeats 4000000 in
theorem c_X1_set {l : Launch} {ad : Nat → Nat} {cy : Nat → ClassId} {D : va_G} {z : Nat} {a0 : Nat} {p1 : Int32} {p2 : Int32} {M : KM} {y : KM} (h0 : kty a0 = 2) (hf : f_X1_set a0 p1 p2 M = y) : KC l ad cy D z yX1_set cX1_set 3 none 1 [.ref (ad a0), .int p1, .int p2] M (none, y) := by
  refine kv_enter (by decide +kernel) (Nat.le_of_ble_eq_true rfl) ?_
  intro x hl hD hz G
  subst hl hD hz
  unfold f_X1_set at hf
  have G : KG ad cy x cX1_set "NoonGuides$Hours" 3 (some none) 1 := G
  show KV ad cy x (none, y) 0 [(0, .ref (ad a0)), (1, .int p1), (2, .int p2)] [] M
  refine v_aload_n G dX1_set_0 0 rfl ?_
  refine v_iload_n G dX1_set_1 1 rfl ?_
  refine pf_1_0 G h0 t_240 (Or.inl rfl) dX1_set_2 ?_
  refine v_nmM (fun M1 eM1 => ?_)
  replace hf := lt_e hf eM1
  refine v_aload_n G dX1_set_5 0 rfl ?_
  refine v_iload_n G dX1_set_6 2 rfl ?_
  refine pf_1_1 G h0 t_243 (Or.inl rfl) dX1_set_7 ?_
  refine v_nmM (fun M2 eM2 => ?_)
  replace hf := lt_e hf eM2
  refine v_aload_n G dX1_set_10 0 rfl ?_
  refine v_aload_n G dX1_set_11 0 rfl ?_
  refine gf_1_1 G h0 t_243 (Or.inl rfl) dX1_set_12 ?_
  refine v_aload_n G dX1_set_15 0 rfl ?_
  refine gf_1_0 G h0 t_240 (Or.inl rfl) dX1_set_16 ?_
  refine v_isub G dX1_set_19 ?_
  refine v_bipush (60 : Int32) G dX1_set_20 (by decide) ?_
  refine v_imul G dX1_set_22 ?_
  refine pf_1_2 G h0 t_246 (Or.inl rfl) dX1_set_23 ?_
  refine v_nmM (fun M3 eM3 => ?_)
  replace hf := lt_e hf eM3
  obtain rfl := hf
  exact v_vret G dX1_set_26
abbrev cX1_areGlaring : ByteArray := prog_3_method_4_code
def yX1_areGlaring : MethodName := ⟨RX1, "areGlaring", "(I)Z"⟩
theorem dX1_areGlaring_0 : dc cX1_areGlaring 0 (.iload_n 1) 1 1 := ⟨by decide +kernel, rfl⟩
theorem dX1_areGlaring_1 : dc cX1_areGlaring 1 (.bipush 60) 2 3 := ⟨by decide +kernel, rfl⟩
theorem dX1_areGlaring_3 : dc cX1_areGlaring 3 (.idiv) 1 4 := ⟨by decide +kernel, rfl⟩
theorem dX1_areGlaring_4 : dc cX1_areGlaring 4 (.bipush 24) 2 6 := ⟨by decide +kernel, rfl⟩
theorem dX1_areGlaring_6 : dc cX1_areGlaring 6 (.irem) 1 7 := ⟨by decide +kernel, rfl⟩
theorem dX1_areGlaring_7 : dc cX1_areGlaring 7 (.istore_n 2) 1 8 := ⟨by decide +kernel, rfl⟩
theorem dX1_areGlaring_8 : dc cX1_areGlaring 8 (.aload_n 0) 1 9 := ⟨by decide +kernel, rfl⟩
theorem dX1_areGlaring_9 : dc cX1_areGlaring 9 (.getfield 9) 3 12 := ⟨by decide +kernel, rfl⟩
theorem dX1_areGlaring_12 : dc cX1_areGlaring 12 (.iload_n 2) 1 13 := ⟨by decide +kernel, rfl⟩
theorem dX1_areGlaring_13 : dc cX1_areGlaring 13 (.if_icmp .gt 15) 3 16 := ⟨by decide +kernel, rfl⟩
theorem dX1_areGlaring_16 : dc cX1_areGlaring 16 (.iload_n 2) 1 17 := ⟨by decide +kernel, rfl⟩
theorem dX1_areGlaring_17 : dc cX1_areGlaring 17 (.aload_n 0) 1 18 := ⟨by decide +kernel, rfl⟩
theorem dX1_areGlaring_18 : dc cX1_areGlaring 18 (.getfield 15) 3 21 := ⟨by decide +kernel, rfl⟩
theorem dX1_areGlaring_21 : dc cX1_areGlaring 21 (.if_icmp .ge 7) 3 24 := ⟨by decide +kernel, rfl⟩
theorem dX1_areGlaring_24 : dc cX1_areGlaring 24 (.iconst 1) 1 25 := ⟨by decide +kernel, rfl⟩
theorem dX1_areGlaring_25 : dc cX1_areGlaring 25 (.goto 4) 3 28 := ⟨by decide +kernel, rfl⟩
theorem dX1_areGlaring_28 : dc cX1_areGlaring 28 (.iconst 0) 1 29 := ⟨by decide +kernel, rfl⟩
theorem dX1_areGlaring_29 : dc cX1_areGlaring 29 (.ireturn) 1 30 := ⟨by decide +kernel, rfl⟩
theorem nm_X1_areGlaring : (yX1_areGlaring).cls ≠ "java/lang/invoke/MethodHandle" ∧ (yX1_areGlaring).cls ≠ "java/lang/invoke/VarHandle" ∧ (parseMethodDescriptor (yX1_areGlaring).desc).map (fun d => d.parameters.length) = some 1 := ⟨by decide +kernel, by decide +kernel, by decide +kernel⟩
set_option maxRecDepth 100000 in
theorem z_X1_areGlaring (n : Nat) {a0 : Nat} {p1 : Int32} {M : KM} {y : Int32} (hf : f_X1_areGlaring n a0 p1 M = some y) : (y = 0 ∨ y = 1) := by
  unfold f_X1_areGlaring at hf
  obtain ⟨v1, ev1⟩ : ∃ q, q = (((p1 / (60 : Int32)) - (p1 / (60 : Int32)) / (24 : Int32) * (24 : Int32)) : Int32) := ⟨_, rfl⟩
  replace hf := lt_e hf ev1
  by_cases h3 : v1 < (M.1 a0 0)
  · replace hf := (if_pos h3).symm.trans hf
    obtain rfl := Option.some.inj hf
    exact (Or.inl rfl)
  · replace hf := (if_neg h3).symm.trans hf
    by_cases h2 : (M.1 a0 1) ≤ v1
    · replace hf := (if_pos h2).symm.trans hf
      obtain rfl := Option.some.inj hf
      exact (Or.inl rfl)
    · replace hf := (if_neg h2).symm.trans hf
      obtain rfl := Option.some.inj hf
      exact (Or.inr rfl)
set_option maxRecDepth 100000 in
set_option maxHeartbeats 4000000 in
theorem c_X1_areGlaring {l : Launch} {ad : Nat → Nat} {cy : Nat → ClassId} {D : va_G} {z : Nat} (n : Nat) {a0 : Nat} {p1 : Int32} {M : KM} {y : Int32} (h0 : kty a0 = 2) (hf : f_X1_areGlaring n a0 p1 M = some y) : KC l ad cy D z yX1_areGlaring cX1_areGlaring 3 (some .boolean) 1 [.ref (ad a0), .int p1] M (some (.int y), M) := by
  refine kv_enter (by decide +kernel) (Nat.le_of_ble_eq_true rfl) ?_
  intro x hl hD hz G
  subst hl hD hz
  unfold f_X1_areGlaring at hf
  have G : KG ad cy x cX1_areGlaring "NoonGuides$Hours" 3 (some (some .boolean)) 1 := G
  show KV ad cy x (some (.int y), M) 0 [(0, .ref (ad a0)), (1, .int p1)] [] M
  refine v_iload_n G dX1_areGlaring_0 1 rfl ?_
  refine v_bipush (60 : Int32) G dX1_areGlaring_1 (by decide) ?_
  refine v_idiv G dX1_areGlaring_3 (by decide) ?_
  refine v_bipush (24 : Int32) G dX1_areGlaring_4 (by decide) ?_
  refine v_irem G dX1_areGlaring_6 (by decide) ?_
  refine v_nmi (fun v1 ev1 => ?_)
  replace hf := lt_e hf ev1
  refine v_istore_n [(2, .int v1), (0, .ref (ad a0)), (1, .int p1)] G dX1_areGlaring_7 (by decide) rfl ?_
  refine v_aload_n G dX1_areGlaring_8 1 rfl ?_
  refine gf_1_0 G h0 t_240 (Or.inl rfl) dX1_areGlaring_9 ?_
  refine v_iload_n G dX1_areGlaring_12 0 rfl ?_
  refine v_icmp_gt 28 G dX1_areGlaring_13 (by decide) (fun h3 => ?_) (fun h3 => ?_)
  · replace hf := (if_pos h3).symm.trans hf
    refine v_iconst (0 : Int32) G dX1_areGlaring_28 (by decide) ?_
    obtain rfl := Option.some.inj hf
    exact v_zret G (Or.inl rfl) dX1_areGlaring_29
  · replace hf := (if_neg h3).symm.trans hf
    refine v_iload_n G dX1_areGlaring_16 0 rfl ?_
    refine v_aload_n G dX1_areGlaring_17 1 rfl ?_
    refine gf_1_1 G h0 t_243 (Or.inl rfl) dX1_areGlaring_18 ?_
    refine v_icmp_ge 28 G dX1_areGlaring_21 (by decide) (fun h2 => ?_) (fun h2 => ?_)
    · replace hf := (if_pos h2).symm.trans hf
      refine v_iconst (0 : Int32) G dX1_areGlaring_28 (by decide) ?_
      obtain rfl := Option.some.inj hf
      exact v_zret G (Or.inl rfl) dX1_areGlaring_29
    · replace hf := (if_neg h2).symm.trans hf
      refine v_iconst (1 : Int32) G dX1_areGlaring_24 (by decide) ?_
      refine v_goto 29 G dX1_areGlaring_25 (by decide) ?_
      obtain rfl := Option.some.inj hf
      exact v_zret G (Or.inr rfl) dX1_areGlaring_29
abbrev cX1_glareBefore : ByteArray := prog_3_method_5_code
def yX1_glareBefore : MethodName := ⟨RX1, "glareBefore", "(I)I"⟩
theorem dX1_glareBefore_0 : dc cX1_glareBefore 0 (.iload_n 1) 1 1 := ⟨by decide +kernel, rfl⟩
theorem dX1_glareBefore_1 : dc cX1_glareBefore 1 (.sipush 1440) 3 4 := ⟨by decide +kernel, rfl⟩
theorem dX1_glareBefore_4 : dc cX1_glareBefore 4 (.irem) 1 5 := ⟨by decide +kernel, rfl⟩
theorem dX1_glareBefore_5 : dc cX1_glareBefore 5 (.aload_n 0) 1 6 := ⟨by decide +kernel, rfl⟩
theorem dX1_glareBefore_6 : dc cX1_glareBefore 6 (.getfield 9) 3 9 := ⟨by decide +kernel, rfl⟩
theorem dX1_glareBefore_9 : dc cX1_glareBefore 9 (.bipush 60) 2 11 := ⟨by decide +kernel, rfl⟩
theorem dX1_glareBefore_11 : dc cX1_glareBefore 11 (.imul) 1 12 := ⟨by decide +kernel, rfl⟩
theorem dX1_glareBefore_12 : dc cX1_glareBefore 12 (.isub) 1 13 := ⟨by decide +kernel, rfl⟩
theorem dX1_glareBefore_13 : dc cX1_glareBefore 13 (.istore_n 2) 1 14 := ⟨by decide +kernel, rfl⟩
theorem dX1_glareBefore_14 : dc cX1_glareBefore 14 (.iload_n 2) 1 15 := ⟨by decide +kernel, rfl⟩
theorem dX1_glareBefore_15 : dc cX1_glareBefore 15 (.ifCond .ge 5) 3 18 := ⟨by decide +kernel, rfl⟩
theorem dX1_glareBefore_18 : dc cX1_glareBefore 18 (.iconst 0) 1 19 := ⟨by decide +kernel, rfl⟩
theorem dX1_glareBefore_19 : dc cX1_glareBefore 19 (.istore_n 2) 1 20 := ⟨by decide +kernel, rfl⟩
theorem dX1_glareBefore_20 : dc cX1_glareBefore 20 (.iload_n 1) 1 21 := ⟨by decide +kernel, rfl⟩
theorem dX1_glareBefore_21 : dc cX1_glareBefore 21 (.sipush 1440) 3 24 := ⟨by decide +kernel, rfl⟩
theorem dX1_glareBefore_24 : dc cX1_glareBefore 24 (.idiv) 1 25 := ⟨by decide +kernel, rfl⟩
theorem dX1_glareBefore_25 : dc cX1_glareBefore 25 (.aload_n 0) 1 26 := ⟨by decide +kernel, rfl⟩
theorem dX1_glareBefore_26 : dc cX1_glareBefore 26 (.getfield 18) 3 29 := ⟨by decide +kernel, rfl⟩
theorem dX1_glareBefore_29 : dc cX1_glareBefore 29 (.imul) 1 30 := ⟨by decide +kernel, rfl⟩
theorem dX1_glareBefore_30 : dc cX1_glareBefore 30 (.iload_n 2) 1 31 := ⟨by decide +kernel, rfl⟩
theorem dX1_glareBefore_31 : dc cX1_glareBefore 31 (.aload_n 0) 1 32 := ⟨by decide +kernel, rfl⟩
theorem dX1_glareBefore_32 : dc cX1_glareBefore 32 (.getfield 18) 3 35 := ⟨by decide +kernel, rfl⟩
theorem dX1_glareBefore_35 : dc cX1_glareBefore 35 (.if_icmp .ge 7) 3 38 := ⟨by decide +kernel, rfl⟩
theorem dX1_glareBefore_38 : dc cX1_glareBefore 38 (.iload_n 2) 1 39 := ⟨by decide +kernel, rfl⟩
theorem dX1_glareBefore_39 : dc cX1_glareBefore 39 (.goto 7) 3 42 := ⟨by decide +kernel, rfl⟩
theorem dX1_glareBefore_42 : dc cX1_glareBefore 42 (.aload_n 0) 1 43 := ⟨by decide +kernel, rfl⟩
theorem dX1_glareBefore_43 : dc cX1_glareBefore 43 (.getfield 18) 3 46 := ⟨by decide +kernel, rfl⟩
theorem dX1_glareBefore_46 : dc cX1_glareBefore 46 (.iadd) 1 47 := ⟨by decide +kernel, rfl⟩
theorem dX1_glareBefore_47 : dc cX1_glareBefore 47 (.ireturn) 1 48 := ⟨by decide +kernel, rfl⟩
theorem nm_X1_glareBefore : (yX1_glareBefore).cls ≠ "java/lang/invoke/MethodHandle" ∧ (yX1_glareBefore).cls ≠ "java/lang/invoke/VarHandle" ∧ (parseMethodDescriptor (yX1_glareBefore).desc).map (fun d => d.parameters.length) = some 1 := ⟨by decide +kernel, by decide +kernel, by decide +kernel⟩
set_option maxRecDepth 100000 in
set_option maxHeartbeats 4000000 in
theorem c_X1_glareBefore {l : Launch} {ad : Nat → Nat} {cy : Nat → ClassId} {D : va_G} {z : Nat} (n : Nat) {a0 : Nat} {p1 : Int32} {M : KM} {y : Int32} (h0 : kty a0 = 2) (hf : f_X1_glareBefore n a0 p1 M = some y) : KC l ad cy D z yX1_glareBefore cX1_glareBefore 3 (some .int) 1 [.ref (ad a0), .int p1] M (some (.int y), M) := by
  refine kv_enter (by decide +kernel) (Nat.le_of_ble_eq_true rfl) ?_
  intro x hl hD hz G
  subst hl hD hz
  unfold f_X1_glareBefore at hf
  have G : KG ad cy x cX1_glareBefore "NoonGuides$Hours" 3 (some (some .int)) 1 := G
  show KV ad cy x (some (.int y), M) 0 [(0, .ref (ad a0)), (1, .int p1)] [] M
  refine v_iload_n G dX1_glareBefore_0 1 rfl ?_
  refine v_sipush (1440 : Int32) G dX1_glareBefore_1 (by decide) ?_
  refine v_irem G dX1_glareBefore_4 (by decide) ?_
  refine v_aload_n G dX1_glareBefore_5 0 rfl ?_
  refine gf_1_0 G h0 t_240 (Or.inl rfl) dX1_glareBefore_6 ?_
  refine v_bipush (60 : Int32) G dX1_glareBefore_9 (by decide) ?_
  refine v_imul G dX1_glareBefore_11 ?_
  refine v_isub G dX1_glareBefore_12 ?_
  refine v_nmi (fun v1 ev1 => ?_)
  replace hf := lt_e hf ev1
  refine v_istore_n [(2, .int v1), (0, .ref (ad a0)), (1, .int p1)] G dX1_glareBefore_13 (by decide) rfl ?_
  refine v_iload_n G dX1_glareBefore_14 0 rfl ?_
  obtain ⟨j20, ej20, hf⟩ := lt_j hf
  have hj20 : ∀ (x2 : Int32), j20 x2 = some y → KV ad cy x (some (.int y), M) 20 [(0, .ref (ad a0)), (1, .int p1), (2, .int x2)] [] M := by
    intro x2 hf
    rw [ej20] at hf
    refine v_iload_n G dX1_glareBefore_20 1 rfl ?_
    refine v_sipush (1440 : Int32) G dX1_glareBefore_21 (by decide) ?_
    refine v_idiv G dX1_glareBefore_24 (by decide) ?_
    refine v_aload_n G dX1_glareBefore_25 0 rfl ?_
    refine gf_1_2 G h0 t_246 (Or.inl rfl) dX1_glareBefore_26 ?_
    refine v_imul G dX1_glareBefore_29 ?_
    refine v_iload_n G dX1_glareBefore_30 2 rfl ?_
    refine v_aload_n G dX1_glareBefore_31 0 rfl ?_
    refine gf_1_2 G h0 t_246 (Or.inl rfl) dX1_glareBefore_32 ?_
    refine v_icmp_ge 42 G dX1_glareBefore_35 (by decide) (fun h3 => ?_) (fun h3 => ?_)
    · replace hf := (if_pos h3).symm.trans hf
      refine v_aload_n G dX1_glareBefore_42 0 rfl ?_
      refine gf_1_2 G h0 t_246 (Or.inl rfl) dX1_glareBefore_43 ?_
      refine v_iadd G dX1_glareBefore_46 ?_
      obtain rfl := Option.some.inj hf
      exact v_iret G dX1_glareBefore_47
    · replace hf := (if_neg h3).symm.trans hf
      refine v_iload_n G dX1_glareBefore_38 2 rfl ?_
      refine v_goto 46 G dX1_glareBefore_39 (by decide) ?_
      refine v_iadd G dX1_glareBefore_46 ?_
      obtain rfl := Option.some.inj hf
      exact v_iret G dX1_glareBefore_47
  refine v_if_ge 20 G dX1_glareBefore_15 (by decide) (fun h4 => ?_) (fun h4 => ?_)
  · replace hf := (if_pos h4).symm.trans hf
    refine v_sub _ [1, 2, 0] rfl ?_
    exact hj20 v1 hf
  · replace hf := (if_neg h4).symm.trans hf
    refine v_iconst (0 : Int32) G dX1_glareBefore_18 (by decide) ?_
    refine v_istore_n [(2, .int (0 : Int32)), (0, .ref (ad a0)), (1, .int p1)] G dX1_glareBefore_19 (by decide) rfl ?_
    refine v_sub _ [1, 2, 0] rfl ?_
    exact hj20 (0 : Int32) hf
abbrev cX1_movedIn : ByteArray := prog_3_method_6_code
def yX1_movedIn : MethodName := ⟨RX1, "movedIn", "(III)I"⟩
theorem dX1_movedIn_0 : dc cX1_movedIn 0 (.iload_n 1) 1 1 := ⟨by decide +kernel, rfl⟩
theorem dX1_movedIn_1 : dc cX1_movedIn 1 (.iconst 2) 1 2 := ⟨by decide +kernel, rfl⟩
theorem dX1_movedIn_2 : dc cX1_movedIn 2 (.if_icmp .ne 5) 3 5 := ⟨by decide +kernel, rfl⟩
theorem dX1_movedIn_5 : dc cX1_movedIn 5 (.iconst 0) 1 6 := ⟨by decide +kernel, rfl⟩
theorem dX1_movedIn_6 : dc cX1_movedIn 6 (.ireturn) 1 7 := ⟨by decide +kernel, rfl⟩
theorem dX1_movedIn_7 : dc cX1_movedIn 7 (.iload_n 1) 1 8 := ⟨by decide +kernel, rfl⟩
theorem dX1_movedIn_8 : dc cX1_movedIn 8 (.ifCond .ne 5) 3 11 := ⟨by decide +kernel, rfl⟩
theorem dX1_movedIn_11 : dc cX1_movedIn 11 (.iload_n 3) 1 12 := ⟨by decide +kernel, rfl⟩
theorem dX1_movedIn_12 : dc cX1_movedIn 12 (.ireturn) 1 13 := ⟨by decide +kernel, rfl⟩
theorem dX1_movedIn_13 : dc cX1_movedIn 13 (.iload_n 3) 1 14 := ⟨by decide +kernel, rfl⟩
theorem dX1_movedIn_14 : dc cX1_movedIn 14 (.aload_n 0) 1 15 := ⟨by decide +kernel, rfl⟩
theorem dX1_movedIn_15 : dc cX1_movedIn 15 (.iload_n 2) 1 16 := ⟨by decide +kernel, rfl⟩
theorem dX1_movedIn_16 : dc cX1_movedIn 16 (.iload_n 3) 1 17 := ⟨by decide +kernel, rfl⟩
theorem dX1_movedIn_17 : dc cX1_movedIn 17 (.iadd) 1 18 := ⟨by decide +kernel, rfl⟩
theorem dX1_movedIn_18 : dc cX1_movedIn 18 (.invokevirtual 21) 3 21 := ⟨by decide +kernel, rfl⟩
theorem dX1_movedIn_21 : dc cX1_movedIn 21 (.isub) 1 22 := ⟨by decide +kernel, rfl⟩
theorem dX1_movedIn_22 : dc cX1_movedIn 22 (.aload_n 0) 1 23 := ⟨by decide +kernel, rfl⟩
theorem dX1_movedIn_23 : dc cX1_movedIn 23 (.iload_n 2) 1 24 := ⟨by decide +kernel, rfl⟩
theorem dX1_movedIn_24 : dc cX1_movedIn 24 (.invokevirtual 21) 3 27 := ⟨by decide +kernel, rfl⟩
theorem dX1_movedIn_27 : dc cX1_movedIn 27 (.iadd) 1 28 := ⟨by decide +kernel, rfl⟩
theorem dX1_movedIn_28 : dc cX1_movedIn 28 (.ireturn) 1 29 := ⟨by decide +kernel, rfl⟩
theorem nm_X1_movedIn : (yX1_movedIn).cls ≠ "java/lang/invoke/MethodHandle" ∧ (yX1_movedIn).cls ≠ "java/lang/invoke/VarHandle" ∧ (parseMethodDescriptor (yX1_movedIn).desc).map (fun d => d.parameters.length) = some 3 := ⟨by decide +kernel, by decide +kernel, by decide +kernel⟩
set_option maxRecDepth 100000 in
set_option maxHeartbeats 4000000 in
theorem c_X1_movedIn {l : Launch} {ad : Nat → Nat} {cy : Nat → ClassId} {D : va_G} {z : Nat} (n : Nat) {a0 : Nat} {p1 : Int32} {p2 : Int32} {p3 : Int32} {M : KM} {y : Int32} (h0 : kty a0 = 2) (hf : f_X1_movedIn n a0 p1 p2 p3 M = some y) : KC l ad cy D z yX1_movedIn cX1_movedIn 4 (some .int) 2 [.ref (ad a0), .int p1, .int p2, .int p3] M (some (.int y), M) := by
  refine kv_enter (by decide +kernel) (Nat.le_of_ble_eq_true rfl) ?_
  intro x hl hD hz G
  subst hl hD hz
  unfold f_X1_movedIn at hf
  have G : KG ad cy x cX1_movedIn "NoonGuides$Hours" 4 (some (some .int)) 2 := G
  show KV ad cy x (some (.int y), M) 0 [(0, .ref (ad a0)), (1, .int p1), (2, .int p2), (3, .int p3)] [] M
  refine v_iload_n G dX1_movedIn_0 1 rfl ?_
  refine v_iconst (2 : Int32) G dX1_movedIn_1 (by decide) ?_
  refine v_icmp_ne 7 G dX1_movedIn_2 (by decide) (fun h4 => ?_) (fun h4 => ?_)
  · replace hf := (if_neg h4).symm.trans hf
    refine v_iload_n G dX1_movedIn_7 1 rfl ?_
    refine v_if_ne 13 G dX1_movedIn_8 (by decide) (fun h3 => ?_) (fun h3 => ?_)
    · replace hf := (if_neg h3).symm.trans hf
      refine v_iload_n G dX1_movedIn_13 3 rfl ?_
      refine v_aload_n G dX1_movedIn_14 0 rfl ?_
      refine v_iload_n G dX1_movedIn_15 2 rfl ?_
      refine v_iload_n G dX1_movedIn_16 3 rfl ?_
      refine v_iadd G dX1_movedIn_17 ?_
      obtain ⟨v1, hcv1, hf⟩ := bd_e hf
      refine v_callV [.int (p2 + p3)] G (c_X1_glareBefore n h0 hcv1) h0 (by decide) rfl rfl rfl t_644 t_646 t_p7 t_12 t_647 nm_X1_glareBefore (by decide) (by decide) rfl rfl (Nat.le_of_ble_eq_true rfl) dX1_movedIn_18 (kv_ri ?_)
      refine v_isub G dX1_movedIn_21 ?_
      refine v_aload_n G dX1_movedIn_22 0 rfl ?_
      refine v_iload_n G dX1_movedIn_23 2 rfl ?_
      obtain ⟨v2, hcv2, hf⟩ := bd_e hf
      refine v_callV [.int p2] G (c_X1_glareBefore n h0 hcv2) h0 (by decide) rfl rfl rfl t_644 t_646 t_p7 t_12 t_647 nm_X1_glareBefore (by decide) (by decide) rfl rfl (Nat.le_of_ble_eq_true rfl) dX1_movedIn_24 (kv_ri ?_)
      refine v_iadd G dX1_movedIn_27 ?_
      obtain rfl := Option.some.inj hf
      exact v_iret G dX1_movedIn_28
    · replace hf := (if_pos h3).symm.trans hf
      refine v_iload_n G dX1_movedIn_11 3 rfl ?_
      obtain rfl := Option.some.inj hf
      exact v_iret G dX1_movedIn_12
  · replace hf := (if_pos h4).symm.trans hf
    refine v_iconst (0 : Int32) G dX1_movedIn_5 (by decide) ?_
    obtain rfl := Option.some.inj hf
    exact v_iret G dX1_movedIn_6
abbrev cX1_doneAt : ByteArray := prog_3_method_7_code
def yX1_doneAt : MethodName := ⟨RX1, "doneAt", "(III)I"⟩
theorem dX1_doneAt_0 : dc cX1_doneAt 0 (.iload_n 1) 1 1 := ⟨by decide +kernel, rfl⟩
theorem dX1_doneAt_1 : dc cX1_doneAt 1 (.iconst 2) 1 2 := ⟨by decide +kernel, rfl⟩
theorem dX1_doneAt_2 : dc cX1_doneAt 2 (.if_icmp .eq 9) 3 5 := ⟨by decide +kernel, rfl⟩
theorem dX1_doneAt_5 : dc cX1_doneAt 5 (.iload_n 2) 1 6 := ⟨by decide +kernel, rfl⟩
theorem dX1_doneAt_6 : dc cX1_doneAt 6 (.ldc 25) 2 8 := ⟨by decide +kernel, rfl⟩
theorem dX1_doneAt_8 : dc cX1_doneAt 8 (.if_icmp .lt 6) 3 11 := ⟨by decide +kernel, rfl⟩
theorem dX1_doneAt_11 : dc cX1_doneAt 11 (.ldc 25) 2 13 := ⟨by decide +kernel, rfl⟩
theorem dX1_doneAt_13 : dc cX1_doneAt 13 (.ireturn) 1 14 := ⟨by decide +kernel, rfl⟩
theorem dX1_doneAt_14 : dc cX1_doneAt 14 (.iload_n 1) 1 15 := ⟨by decide +kernel, rfl⟩
theorem dX1_doneAt_15 : dc cX1_doneAt 15 (.ifCond .ne 7) 3 18 := ⟨by decide +kernel, rfl⟩
theorem dX1_doneAt_18 : dc cX1_doneAt 18 (.iload_n 2) 1 19 := ⟨by decide +kernel, rfl⟩
theorem dX1_doneAt_19 : dc cX1_doneAt 19 (.iload_n 3) 1 20 := ⟨by decide +kernel, rfl⟩
theorem dX1_doneAt_20 : dc cX1_doneAt 20 (.iadd) 1 21 := ⟨by decide +kernel, rfl⟩
theorem dX1_doneAt_21 : dc cX1_doneAt 21 (.ireturn) 1 22 := ⟨by decide +kernel, rfl⟩
theorem dX1_doneAt_22 : dc cX1_doneAt 22 (.sipush 1440) 3 25 := ⟨by decide +kernel, rfl⟩
theorem dX1_doneAt_25 : dc cX1_doneAt 25 (.aload_n 0) 1 26 := ⟨by decide +kernel, rfl⟩
theorem dX1_doneAt_26 : dc cX1_doneAt 26 (.getfield 18) 3 29 := ⟨by decide +kernel, rfl⟩
theorem dX1_doneAt_29 : dc cX1_doneAt 29 (.isub) 1 30 := ⟨by decide +kernel, rfl⟩
theorem dX1_doneAt_30 : dc cX1_doneAt 30 (.istore 4) 2 32 := ⟨by decide +kernel, rfl⟩
theorem dX1_doneAt_32 : dc cX1_doneAt 32 (.iload 4) 2 34 := ⟨by decide +kernel, rfl⟩
theorem dX1_doneAt_34 : dc cX1_doneAt 34 (.ifCond .gt 6) 3 37 := ⟨by decide +kernel, rfl⟩
theorem dX1_doneAt_37 : dc cX1_doneAt 37 (.ldc 25) 2 39 := ⟨by decide +kernel, rfl⟩
theorem dX1_doneAt_39 : dc cX1_doneAt 39 (.ireturn) 1 40 := ⟨by decide +kernel, rfl⟩
theorem dX1_doneAt_40 : dc cX1_doneAt 40 (.iload_n 2) 1 41 := ⟨by decide +kernel, rfl⟩
theorem dX1_doneAt_41 : dc cX1_doneAt 41 (.aload_n 0) 1 42 := ⟨by decide +kernel, rfl⟩
theorem dX1_doneAt_42 : dc cX1_doneAt 42 (.iload_n 2) 1 43 := ⟨by decide +kernel, rfl⟩
theorem dX1_doneAt_43 : dc cX1_doneAt 43 (.invokevirtual 21) 3 46 := ⟨by decide +kernel, rfl⟩
theorem dX1_doneAt_46 : dc cX1_doneAt 46 (.isub) 1 47 := ⟨by decide +kernel, rfl⟩
theorem dX1_doneAt_47 : dc cX1_doneAt 47 (.iload_n 3) 1 48 := ⟨by decide +kernel, rfl⟩
theorem dX1_doneAt_48 : dc cX1_doneAt 48 (.iadd) 1 49 := ⟨by decide +kernel, rfl⟩
theorem dX1_doneAt_49 : dc cX1_doneAt 49 (.iconst 1) 1 50 := ⟨by decide +kernel, rfl⟩
theorem dX1_doneAt_50 : dc cX1_doneAt 50 (.isub) 1 51 := ⟨by decide +kernel, rfl⟩
theorem dX1_doneAt_51 : dc cX1_doneAt 51 (.istore 5) 2 53 := ⟨by decide +kernel, rfl⟩
theorem dX1_doneAt_53 : dc cX1_doneAt 53 (.iload 5) 2 55 := ⟨by decide +kernel, rfl⟩
theorem dX1_doneAt_55 : dc cX1_doneAt 55 (.iload 4) 2 57 := ⟨by decide +kernel, rfl⟩
theorem dX1_doneAt_57 : dc cX1_doneAt 57 (.irem) 1 58 := ⟨by decide +kernel, rfl⟩
theorem dX1_doneAt_58 : dc cX1_doneAt 58 (.iconst 1) 1 59 := ⟨by decide +kernel, rfl⟩
theorem dX1_doneAt_59 : dc cX1_doneAt 59 (.iadd) 1 60 := ⟨by decide +kernel, rfl⟩
theorem dX1_doneAt_60 : dc cX1_doneAt 60 (.istore 6) 2 62 := ⟨by decide +kernel, rfl⟩
theorem dX1_doneAt_62 : dc cX1_doneAt 62 (.iload 6) 2 64 := ⟨by decide +kernel, rfl⟩
theorem dX1_doneAt_64 : dc cX1_doneAt 64 (.aload_n 0) 1 65 := ⟨by decide +kernel, rfl⟩
theorem dX1_doneAt_65 : dc cX1_doneAt 65 (.getfield 9) 3 68 := ⟨by decide +kernel, rfl⟩
theorem dX1_doneAt_68 : dc cX1_doneAt 68 (.bipush 60) 2 70 := ⟨by decide +kernel, rfl⟩
theorem dX1_doneAt_70 : dc cX1_doneAt 70 (.imul) 1 71 := ⟨by decide +kernel, rfl⟩
theorem dX1_doneAt_71 : dc cX1_doneAt 71 (.if_icmp .gt 7) 3 74 := ⟨by decide +kernel, rfl⟩
theorem dX1_doneAt_74 : dc cX1_doneAt 74 (.iconst 0) 1 75 := ⟨by decide +kernel, rfl⟩
theorem dX1_doneAt_75 : dc cX1_doneAt 75 (.goto 7) 3 78 := ⟨by decide +kernel, rfl⟩
theorem dX1_doneAt_78 : dc cX1_doneAt 78 (.aload_n 0) 1 79 := ⟨by decide +kernel, rfl⟩
theorem dX1_doneAt_79 : dc cX1_doneAt 79 (.getfield 18) 3 82 := ⟨by decide +kernel, rfl⟩
theorem dX1_doneAt_82 : dc cX1_doneAt 82 (.istore 7) 2 84 := ⟨by decide +kernel, rfl⟩
theorem dX1_doneAt_84 : dc cX1_doneAt 84 (.iload 5) 2 86 := ⟨by decide +kernel, rfl⟩
theorem dX1_doneAt_86 : dc cX1_doneAt 86 (.iload 4) 2 88 := ⟨by decide +kernel, rfl⟩
theorem dX1_doneAt_88 : dc cX1_doneAt 88 (.idiv) 1 89 := ⟨by decide +kernel, rfl⟩
theorem dX1_doneAt_89 : dc cX1_doneAt 89 (.sipush 1440) 3 92 := ⟨by decide +kernel, rfl⟩
theorem dX1_doneAt_92 : dc cX1_doneAt 92 (.imul) 1 93 := ⟨by decide +kernel, rfl⟩
theorem dX1_doneAt_93 : dc cX1_doneAt 93 (.iload 6) 2 95 := ⟨by decide +kernel, rfl⟩
theorem dX1_doneAt_95 : dc cX1_doneAt 95 (.iadd) 1 96 := ⟨by decide +kernel, rfl⟩
theorem dX1_doneAt_96 : dc cX1_doneAt 96 (.iload 7) 2 98 := ⟨by decide +kernel, rfl⟩
theorem dX1_doneAt_98 : dc cX1_doneAt 98 (.iadd) 1 99 := ⟨by decide +kernel, rfl⟩
theorem dX1_doneAt_99 : dc cX1_doneAt 99 (.ireturn) 1 100 := ⟨by decide +kernel, rfl⟩
theorem nm_X1_doneAt : (yX1_doneAt).cls ≠ "java/lang/invoke/MethodHandle" ∧ (yX1_doneAt).cls ≠ "java/lang/invoke/VarHandle" ∧ (parseMethodDescriptor (yX1_doneAt).desc).map (fun d => d.parameters.length) = some 3 := ⟨by decide +kernel, by decide +kernel, by decide +kernel⟩
set_option maxRecDepth 100000 in
set_option maxHeartbeats 4000000 in
theorem c_X1_doneAt {l : Launch} {ad : Nat → Nat} {cy : Nat → ClassId} {D : va_G} {z : Nat} (n : Nat) {a0 : Nat} {p1 : Int32} {p2 : Int32} {p3 : Int32} {M : KM} {y : Int32} (h0 : kty a0 = 2) (hf : f_X1_doneAt n a0 p1 p2 p3 M = some y) : KC l ad cy D z yX1_doneAt cX1_doneAt 8 (some .int) 2 [.ref (ad a0), .int p1, .int p2, .int p3] M (some (.int y), M) := by
  refine kv_enter (by decide +kernel) (Nat.le_of_ble_eq_true rfl) ?_
  intro x hl hD hz G
  subst hl hD hz
  unfold f_X1_doneAt at hf
  have G : KG ad cy x cX1_doneAt "NoonGuides$Hours" 8 (some (some .int)) 2 := G
  show KV ad cy x (some (.int y), M) 0 [(0, .ref (ad a0)), (1, .int p1), (2, .int p2), (3, .int p3)] [] M
  refine v_iload_n G dX1_doneAt_0 1 rfl ?_
  refine v_iconst (2 : Int32) G dX1_doneAt_1 (by decide) ?_
  refine v_icmp_eq 11 G dX1_doneAt_2 (by decide) (fun h12 => ?_) (fun h12 => ?_)
  · replace hf := (if_pos h12).symm.trans hf
    refine v_ldc G dX1_doneAt_11 t_643 ?_
    obtain rfl := Option.some.inj hf
    exact v_iret G dX1_doneAt_13
  · replace hf := (if_neg h12).symm.trans hf
    refine v_iload_n G dX1_doneAt_5 2 rfl ?_
    refine v_ldc G dX1_doneAt_6 t_643 ?_
    refine v_icmp_lt 14 G dX1_doneAt_8 (by decide) (fun h11 => ?_) (fun h11 => ?_)
    · replace hf := (if_pos h11).symm.trans hf
      refine v_iload_n G dX1_doneAt_14 1 rfl ?_
      refine v_if_ne 22 G dX1_doneAt_15 (by decide) (fun h10 => ?_) (fun h10 => ?_)
      · replace hf := (if_neg h10).symm.trans hf
        refine v_sipush (1440 : Int32) G dX1_doneAt_22 (by decide) ?_
        refine v_aload_n G dX1_doneAt_25 0 rfl ?_
        refine gf_1_2 G h0 t_246 (Or.inl rfl) dX1_doneAt_26 ?_
        refine v_isub G dX1_doneAt_29 ?_
        refine v_nmi (fun v1 ev1 => ?_)
        replace hf := lt_e hf ev1
        refine v_istore [(4, .int v1), (0, .ref (ad a0)), (1, .int p1), (2, .int p2), (3, .int p3)] G dX1_doneAt_30 (by decide) rfl ?_
        refine v_iload G dX1_doneAt_32 0 rfl ?_
        refine v_if_gt 40 G dX1_doneAt_34 (by decide) (fun h9 => ?_) (fun h9 => ?_)
        · replace hf := (if_pos h9).symm.trans hf
          refine v_iload_n G dX1_doneAt_40 3 rfl ?_
          refine v_aload_n G dX1_doneAt_41 1 rfl ?_
          refine v_iload_n G dX1_doneAt_42 3 rfl ?_
          obtain ⟨v2, hcv2, hf⟩ := bd_e hf
          refine v_callV [.int p2] G (c_X1_glareBefore n h0 hcv2) h0 (by decide) rfl rfl rfl t_644 t_646 t_p7 t_12 t_647 nm_X1_glareBefore (by decide) (by decide) rfl rfl (Nat.le_of_ble_eq_true rfl) dX1_doneAt_43 (kv_ri ?_)
          refine v_isub G dX1_doneAt_46 ?_
          refine v_iload_n G dX1_doneAt_47 4 rfl ?_
          refine v_iadd G dX1_doneAt_48 ?_
          refine v_iconst (1 : Int32) G dX1_doneAt_49 (by decide) ?_
          refine v_isub G dX1_doneAt_50 ?_
          refine v_nmi (fun v3 ev3 => ?_)
          replace hf := lt_e hf ev3
          refine v_istore [(5, .int v3), (4, .int v1), (0, .ref (ad a0)), (1, .int p1), (2, .int p2), (3, .int p3)] G dX1_doneAt_51 (by decide) rfl ?_
          refine v_iload G dX1_doneAt_53 0 rfl ?_
          refine v_iload G dX1_doneAt_55 1 rfl ?_
          obtain ⟨g4, hf⟩ := gd_e hf
          refine v_irem G dX1_doneAt_57 g4 ?_
          refine v_iconst (1 : Int32) G dX1_doneAt_58 (by decide) ?_
          refine v_iadd G dX1_doneAt_59 ?_
          refine v_nmi (fun v5 ev5 => ?_)
          replace hf := lt_e hf ev5
          refine v_istore [(6, .int v5), (5, .int v3), (4, .int v1), (0, .ref (ad a0)), (1, .int p1), (2, .int p2), (3, .int p3)] G dX1_doneAt_60 (by decide) rfl ?_
          refine v_iload G dX1_doneAt_62 0 rfl ?_
          refine v_aload_n G dX1_doneAt_64 3 rfl ?_
          refine gf_1_0 G h0 t_240 (Or.inl rfl) dX1_doneAt_65 ?_
          refine v_bipush (60 : Int32) G dX1_doneAt_68 (by decide) ?_
          refine v_imul G dX1_doneAt_70 ?_
          obtain ⟨j82, ej82, hf⟩ := lt_j hf
          have hj82 : ∀ (x6 : Int32), j82 x6 = some y → KV ad cy x (some (.int y), M) 82 [(4, .int v1), (5, .int v3), (6, .int v5)] [.int x6] M := by
            intro x6 hf
            rw [ej82] at hf
            refine v_istore [(7, .int x6), (4, .int v1), (5, .int v3), (6, .int v5)] G dX1_doneAt_82 (by decide) rfl ?_
            refine v_iload G dX1_doneAt_84 2 rfl ?_
            refine v_iload G dX1_doneAt_86 1 rfl ?_
            obtain ⟨g7, hf⟩ := gd_e hf
            refine v_idiv G dX1_doneAt_88 g7 ?_
            refine v_sipush (1440 : Int32) G dX1_doneAt_89 (by decide) ?_
            refine v_imul G dX1_doneAt_92 ?_
            refine v_iload G dX1_doneAt_93 3 rfl ?_
            refine v_iadd G dX1_doneAt_95 ?_
            refine v_iload G dX1_doneAt_96 0 rfl ?_
            refine v_iadd G dX1_doneAt_98 ?_
            obtain rfl := Option.some.inj hf
            exact v_iret G dX1_doneAt_99
          refine v_icmp_gt 78 G dX1_doneAt_71 (by decide) (fun h8 => ?_) (fun h8 => ?_)
          · replace hf := (if_pos h8).symm.trans hf
            refine v_aload_n G dX1_doneAt_78 3 rfl ?_
            refine gf_1_2 G h0 t_246 (Or.inl rfl) dX1_doneAt_79 ?_
            refine v_sub _ [2, 1, 0] rfl ?_
            exact hj82 (M.1 a0 2) hf
          · replace hf := (if_neg h8).symm.trans hf
            refine v_iconst (0 : Int32) G dX1_doneAt_74 (by decide) ?_
            refine v_goto 82 G dX1_doneAt_75 (by decide) ?_
            refine v_sub _ [2, 1, 0] rfl ?_
            exact hj82 (0 : Int32) hf
        · replace hf := (if_neg h9).symm.trans hf
          refine v_ldc G dX1_doneAt_37 t_643 ?_
          obtain rfl := Option.some.inj hf
          exact v_iret G dX1_doneAt_39
      · replace hf := (if_pos h10).symm.trans hf
        refine v_iload_n G dX1_doneAt_18 2 rfl ?_
        refine v_iload_n G dX1_doneAt_19 3 rfl ?_
        refine v_iadd G dX1_doneAt_20 ?_
        obtain rfl := Option.some.inj hf
        exact v_iret G dX1_doneAt_21
    · replace hf := (if_neg h11).symm.trans hf
      refine v_ldc G dX1_doneAt_11 t_643 ?_
      obtain rfl := Option.some.inj hf
      exact v_iret G dX1_doneAt_13
