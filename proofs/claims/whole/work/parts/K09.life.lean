abbrev cX4_rowBehindEnd : ByteArray := prog_6_method_3_code
def yX4_rowBehindEnd : MethodName := ⟨RX4, "rowBehindEnd", "(LNoonGuides$Plan;I)I"⟩
theorem dX4_rowBehindEnd_0 : dc cX4_rowBehindEnd 0 (.aload_n 1) 1 1 := ⟨by decide +kernel, rfl⟩
theorem dX4_rowBehindEnd_1 : dc cX4_rowBehindEnd 1 (.getfield 68) 3 4 := ⟨by decide +kernel, rfl⟩
theorem dX4_rowBehindEnd_4 : dc cX4_rowBehindEnd 4 (.iload_n 2) 1 5 := ⟨by decide +kernel, rfl⟩
theorem dX4_rowBehindEnd_5 : dc cX4_rowBehindEnd 5 (.iaload) 1 6 := ⟨by decide +kernel, rfl⟩
theorem dX4_rowBehindEnd_6 : dc cX4_rowBehindEnd 6 (.istore_n 3) 1 7 := ⟨by decide +kernel, rfl⟩
theorem dX4_rowBehindEnd_7 : dc cX4_rowBehindEnd 7 (.iload_n 3) 1 8 := ⟨by decide +kernel, rfl⟩
theorem dX4_rowBehindEnd_8 : dc cX4_rowBehindEnd 8 (.ifCond .lt 11) 3 11 := ⟨by decide +kernel, rfl⟩
theorem dX4_rowBehindEnd_11 : dc cX4_rowBehindEnd 11 (.iload_n 3) 1 12 := ⟨by decide +kernel, rfl⟩
theorem dX4_rowBehindEnd_12 : dc cX4_rowBehindEnd 12 (.aload_n 1) 1 13 := ⟨by decide +kernel, rfl⟩
theorem dX4_rowBehindEnd_13 : dc cX4_rowBehindEnd 13 (.getfield 48) 3 16 := ⟨by decide +kernel, rfl⟩
theorem dX4_rowBehindEnd_16 : dc cX4_rowBehindEnd 16 (.if_icmp .lt 8) 3 19 := ⟨by decide +kernel, rfl⟩
theorem dX4_rowBehindEnd_19 : dc cX4_rowBehindEnd 19 (.aload_n 1) 1 20 := ⟨by decide +kernel, rfl⟩
theorem dX4_rowBehindEnd_20 : dc cX4_rowBehindEnd 20 (.getfield 48) 3 23 := ⟨by decide +kernel, rfl⟩
theorem dX4_rowBehindEnd_23 : dc cX4_rowBehindEnd 23 (.ireturn) 1 24 := ⟨by decide +kernel, rfl⟩
theorem dX4_rowBehindEnd_24 : dc cX4_rowBehindEnd 24 (.aload_n 1) 1 25 := ⟨by decide +kernel, rfl⟩
theorem dX4_rowBehindEnd_25 : dc cX4_rowBehindEnd 25 (.getfield 51) 3 28 := ⟨by decide +kernel, rfl⟩
theorem dX4_rowBehindEnd_28 : dc cX4_rowBehindEnd 28 (.iload_n 3) 1 29 := ⟨by decide +kernel, rfl⟩
theorem dX4_rowBehindEnd_29 : dc cX4_rowBehindEnd 29 (.iaload) 1 30 := ⟨by decide +kernel, rfl⟩
theorem dX4_rowBehindEnd_30 : dc cX4_rowBehindEnd 30 (.bipush 9) 2 32 := ⟨by decide +kernel, rfl⟩
theorem dX4_rowBehindEnd_32 : dc cX4_rowBehindEnd 32 (.if_icmp .ne 27) 3 35 := ⟨by decide +kernel, rfl⟩
theorem dX4_rowBehindEnd_35 : dc cX4_rowBehindEnd 35 (.aload_n 0) 1 36 := ⟨by decide +kernel, rfl⟩
theorem dX4_rowBehindEnd_36 : dc cX4_rowBehindEnd 36 (.getfield 11) 3 39 := ⟨by decide +kernel, rfl⟩
theorem dX4_rowBehindEnd_39 : dc cX4_rowBehindEnd 39 (.iload_n 3) 1 40 := ⟨by decide +kernel, rfl⟩
theorem dX4_rowBehindEnd_40 : dc cX4_rowBehindEnd 40 (.iaload) 1 41 := ⟨by decide +kernel, rfl⟩
theorem dX4_rowBehindEnd_41 : dc cX4_rowBehindEnd 41 (.iconst 1) 1 42 := ⟨by decide +kernel, rfl⟩
theorem dX4_rowBehindEnd_42 : dc cX4_rowBehindEnd 42 (.if_icmp .le 17) 3 45 := ⟨by decide +kernel, rfl⟩
theorem dX4_rowBehindEnd_45 : dc cX4_rowBehindEnd 45 (.aload_n 0) 1 46 := ⟨by decide +kernel, rfl⟩
theorem dX4_rowBehindEnd_46 : dc cX4_rowBehindEnd 46 (.getfield 11) 3 49 := ⟨by decide +kernel, rfl⟩
theorem dX4_rowBehindEnd_49 : dc cX4_rowBehindEnd 49 (.iload_n 3) 1 50 := ⟨by decide +kernel, rfl⟩
theorem dX4_rowBehindEnd_50 : dc cX4_rowBehindEnd 50 (.dup2) 1 51 := ⟨by decide +kernel, rfl⟩
theorem dX4_rowBehindEnd_51 : dc cX4_rowBehindEnd 51 (.iaload) 1 52 := ⟨by decide +kernel, rfl⟩
theorem dX4_rowBehindEnd_52 : dc cX4_rowBehindEnd 52 (.iconst 1) 1 53 := ⟨by decide +kernel, rfl⟩
theorem dX4_rowBehindEnd_53 : dc cX4_rowBehindEnd 53 (.isub) 1 54 := ⟨by decide +kernel, rfl⟩
theorem dX4_rowBehindEnd_54 : dc cX4_rowBehindEnd 54 (.iastore) 1 55 := ⟨by decide +kernel, rfl⟩
theorem dX4_rowBehindEnd_55 : dc cX4_rowBehindEnd 55 (.iload_n 3) 1 56 := ⟨by decide +kernel, rfl⟩
theorem dX4_rowBehindEnd_56 : dc cX4_rowBehindEnd 56 (.iconst 1) 1 57 := ⟨by decide +kernel, rfl⟩
theorem dX4_rowBehindEnd_57 : dc cX4_rowBehindEnd 57 (.iadd) 1 58 := ⟨by decide +kernel, rfl⟩
theorem dX4_rowBehindEnd_58 : dc cX4_rowBehindEnd 58 (.ireturn) 1 59 := ⟨by decide +kernel, rfl⟩
theorem dX4_rowBehindEnd_59 : dc cX4_rowBehindEnd 59 (.iload_n 2) 1 60 := ⟨by decide +kernel, rfl⟩
theorem dX4_rowBehindEnd_60 : dc cX4_rowBehindEnd 60 (.iconst 1) 1 61 := ⟨by decide +kernel, rfl⟩
theorem dX4_rowBehindEnd_61 : dc cX4_rowBehindEnd 61 (.iadd) 1 62 := ⟨by decide +kernel, rfl⟩
theorem dX4_rowBehindEnd_62 : dc cX4_rowBehindEnd 62 (.ireturn) 1 63 := ⟨by decide +kernel, rfl⟩
theorem nm_X4_rowBehindEnd : (yX4_rowBehindEnd).cls ≠ "java/lang/invoke/MethodHandle" ∧ (yX4_rowBehindEnd).cls ≠ "java/lang/invoke/VarHandle" ∧ (parseMethodDescriptor (yX4_rowBehindEnd).desc).map (fun d => d.parameters.length) = some 2 := ⟨by decide +kernel, by decide +kernel, by decide +kernel⟩
set_option maxRecDepth 100000 in
set_option maxHeartbeats 4000000 in
theorem c_X4_rowBehindEnd {l : Launch} {ad : Nat → Nat} {cy : Nat → ClassId} {D : va_G} {z : Nat} (n : Nat) {a0 : Nat} {a1 : Nat} {p2 : Int32} {M : KM} {y : (Int32 × KM)} (h0 : kty a0 = 5) (h1 : kty a1 = 9) (hf : f_X4_rowBehindEnd n a0 a1 p2 M = some y) : KC l ad cy D z yX4_rowBehindEnd cX4_rowBehindEnd 4 (some .int) 1 [.ref (ad a0), .ref (ad a1), .int p2] M (some (.int y.1), y.2) := by
  refine kv_enter (by decide +kernel) (Nat.le_of_ble_eq_true rfl) ?_
  intro x hl hD hz G
  subst hl hD hz
  unfold f_X4_rowBehindEnd at hf
  have G : KG ad cy x cX4_rowBehindEnd "NoonGuides$Life" 4 (some (some .int)) 1 := G
  show KV ad cy x (some (.int y.1), y.2) 0 [(0, .ref (ad a0)), (1, .ref (ad a1)), (2, .int p2)] [] M
  refine v_aload_n G dX4_rowBehindEnd_0 1 rfl ?_
  refine gf_8_4 G h1 t_292 (Or.inl rfl) dX4_rowBehindEnd_1 ?_
  refine v_iload_n G dX4_rowBehindEnd_4 2 rfl ?_
  obtain ⟨g1, hf⟩ := gd_e hf
  refine al_27 G (kf_8_5 h1) g1 dX4_rowBehindEnd_5 ?_
  refine v_nmi (fun v2 ev2 => ?_)
  replace hf := lt_e hf ev2
  refine v_istore_n [(3, .int v2), (0, .ref (ad a0)), (1, .ref (ad a1)), (2, .int p2)] G dX4_rowBehindEnd_6 (by decide) rfl ?_
  refine v_iload_n G dX4_rowBehindEnd_7 0 rfl ?_
  refine v_if_lt 19 G dX4_rowBehindEnd_8 (by decide) (fun h11 => ?_) (fun h11 => ?_)
  · replace hf := (if_pos h11).symm.trans hf
    refine v_aload_n G dX4_rowBehindEnd_19 2 rfl ?_
    refine gf_8_5 G h1 t_294 (Or.inl rfl) dX4_rowBehindEnd_20 ?_
    obtain rfl := Option.some.inj hf
    exact v_iret G dX4_rowBehindEnd_23
  · replace hf := (if_neg h11).symm.trans hf
    refine v_iload_n G dX4_rowBehindEnd_11 0 rfl ?_
    refine v_aload_n G dX4_rowBehindEnd_12 2 rfl ?_
    refine gf_8_5 G h1 t_294 (Or.inl rfl) dX4_rowBehindEnd_13 ?_
    refine v_icmp_lt 24 G dX4_rowBehindEnd_16 (by decide) (fun h10 => ?_) (fun h10 => ?_)
    · replace hf := (if_pos h10).symm.trans hf
      refine v_aload_n G dX4_rowBehindEnd_24 2 rfl ?_
      refine gf_8_0 G h1 t_284 (Or.inl rfl) dX4_rowBehindEnd_25 ?_
      refine v_iload_n G dX4_rowBehindEnd_28 0 rfl ?_
      obtain ⟨g3, hf⟩ := gd_e hf
      refine al_27 G (kf_8_1 h1) g3 dX4_rowBehindEnd_29 ?_
      refine v_bipush (9 : Int32) G dX4_rowBehindEnd_30 (by decide) ?_
      refine v_icmp_ne 59 G dX4_rowBehindEnd_32 (by decide) (fun h9 => ?_) (fun h9 => ?_)
      · replace hf := (if_neg h9).symm.trans hf
        refine v_iload_n G dX4_rowBehindEnd_59 3 rfl ?_
        refine v_iconst (1 : Int32) G dX4_rowBehindEnd_60 (by decide) ?_
        refine v_iadd G dX4_rowBehindEnd_61 ?_
        obtain rfl := Option.some.inj hf
        exact v_iret G dX4_rowBehindEnd_62
      · replace hf := (if_pos h9).symm.trans hf
        refine v_aload_n G dX4_rowBehindEnd_35 1 rfl ?_
        refine gf_4_0 G h0 t_176 (Or.inl rfl) dX4_rowBehindEnd_36 ?_
        refine v_iload_n G dX4_rowBehindEnd_39 0 rfl ?_
        obtain ⟨g4, hf⟩ := gd_e hf
        refine al_27 G (kf_4_1 h0) g4 dX4_rowBehindEnd_40 ?_
        refine v_iconst (1 : Int32) G dX4_rowBehindEnd_41 (by decide) ?_
        refine v_icmp_le 59 G dX4_rowBehindEnd_42 (by decide) (fun h8 => ?_) (fun h8 => ?_)
        · replace hf := (if_pos h8).symm.trans hf
          refine v_iload_n G dX4_rowBehindEnd_59 3 rfl ?_
          refine v_iconst (1 : Int32) G dX4_rowBehindEnd_60 (by decide) ?_
          refine v_iadd G dX4_rowBehindEnd_61 ?_
          obtain rfl := Option.some.inj hf
          exact v_iret G dX4_rowBehindEnd_62
        · replace hf := (if_neg h8).symm.trans hf
          refine v_aload_n G dX4_rowBehindEnd_45 1 rfl ?_
          refine gf_4_0 G h0 t_176 (Or.inl rfl) dX4_rowBehindEnd_46 ?_
          refine v_iload_n G dX4_rowBehindEnd_49 0 rfl ?_
          refine v_dup2 G dX4_rowBehindEnd_50 rfl rfl ?_
          obtain ⟨g5, hf⟩ := gd_e hf
          refine al_27 G (kf_4_1 h0) g5 dX4_rowBehindEnd_51 ?_
          refine v_iconst (1 : Int32) G dX4_rowBehindEnd_52 (by decide) ?_
          refine v_isub G dX4_rowBehindEnd_53 ?_
          obtain ⟨g6, hf⟩ := gd_e hf
          refine as_27 G (kf_4_1 h0) g6 dX4_rowBehindEnd_54 ?_
          refine v_nmM (fun M7 eM7 => ?_)
          replace hf := lt_e hf eM7
          refine v_iload_n G dX4_rowBehindEnd_55 0 rfl ?_
          refine v_iconst (1 : Int32) G dX4_rowBehindEnd_56 (by decide) ?_
          refine v_iadd G dX4_rowBehindEnd_57 ?_
          obtain rfl := Option.some.inj hf
          exact v_iret G dX4_rowBehindEnd_58
    · replace hf := (if_neg h10).symm.trans hf
      refine v_aload_n G dX4_rowBehindEnd_19 2 rfl ?_
      refine gf_8_5 G h1 t_294 (Or.inl rfl) dX4_rowBehindEnd_20 ?_
      obtain rfl := Option.some.inj hf
      exact v_iret G dX4_rowBehindEnd_23
abbrev cX4_drawBy : ByteArray := prog_6_method_6_code
def yX4_drawBy : MethodName := ⟨RX4, "drawBy", "(I)I"⟩
theorem dX4_drawBy_0 : dc cX4_drawBy 0 (.aload_n 0) 1 1 := ⟨by decide +kernel, rfl⟩
theorem dX4_drawBy_1 : dc cX4_drawBy 1 (.aload_n 0) 1 2 := ⟨by decide +kernel, rfl⟩
theorem dX4_drawBy_2 : dc cX4_drawBy 2 (.getfield 23) 3 5 := ⟨by decide +kernel, rfl⟩
theorem dX4_drawBy_5 : dc cX4_drawBy 5 (.sipush 2971) 3 8 := ⟨by decide +kernel, rfl⟩
theorem dX4_drawBy_8 : dc cX4_drawBy 8 (.imul) 1 9 := ⟨by decide +kernel, rfl⟩
theorem dX4_drawBy_9 : dc cX4_drawBy 9 (.sipush 10733) 3 12 := ⟨by decide +kernel, rfl⟩
theorem dX4_drawBy_12 : dc cX4_drawBy 12 (.iadd) 1 13 := ⟨by decide +kernel, rfl⟩
theorem dX4_drawBy_13 : dc cX4_drawBy 13 (.ldc 124) 2 15 := ⟨by decide +kernel, rfl⟩
theorem dX4_drawBy_15 : dc cX4_drawBy 15 (.irem) 1 16 := ⟨by decide +kernel, rfl⟩
theorem dX4_drawBy_16 : dc cX4_drawBy 16 (.putfield 23) 3 19 := ⟨by decide +kernel, rfl⟩
theorem dX4_drawBy_19 : dc cX4_drawBy 19 (.iload_n 1) 1 20 := ⟨by decide +kernel, rfl⟩
theorem dX4_drawBy_20 : dc cX4_drawBy 20 (.iconst 1) 1 21 := ⟨by decide +kernel, rfl⟩
theorem dX4_drawBy_21 : dc cX4_drawBy 21 (.if_icmp .ge 7) 3 24 := ⟨by decide +kernel, rfl⟩
theorem dX4_drawBy_24 : dc cX4_drawBy 24 (.iconst 0) 1 25 := ⟨by decide +kernel, rfl⟩
theorem dX4_drawBy_25 : dc cX4_drawBy 25 (.goto 12) 3 28 := ⟨by decide +kernel, rfl⟩
theorem dX4_drawBy_28 : dc cX4_drawBy 28 (.aload_n 0) 1 29 := ⟨by decide +kernel, rfl⟩
theorem dX4_drawBy_29 : dc cX4_drawBy 29 (.getfield 23) 3 32 := ⟨by decide +kernel, rfl⟩
theorem dX4_drawBy_32 : dc cX4_drawBy 32 (.bipush 8) 2 34 := ⟨by decide +kernel, rfl⟩
theorem dX4_drawBy_34 : dc cX4_drawBy 34 (.idiv) 1 35 := ⟨by decide +kernel, rfl⟩
theorem dX4_drawBy_35 : dc cX4_drawBy 35 (.iload_n 1) 1 36 := ⟨by decide +kernel, rfl⟩
theorem dX4_drawBy_36 : dc cX4_drawBy 36 (.irem) 1 37 := ⟨by decide +kernel, rfl⟩
theorem dX4_drawBy_37 : dc cX4_drawBy 37 (.ireturn) 1 38 := ⟨by decide +kernel, rfl⟩
theorem nm_X4_drawBy : (yX4_drawBy).cls ≠ "java/lang/invoke/MethodHandle" ∧ (yX4_drawBy).cls ≠ "java/lang/invoke/VarHandle" ∧ (parseMethodDescriptor (yX4_drawBy).desc).map (fun d => d.parameters.length) = some 1 := ⟨by decide +kernel, by decide +kernel, by decide +kernel⟩
set_option maxRecDepth 100000 in
set_option maxHeartbeats 4000000 in
theorem c_X4_drawBy {l : Launch} {ad : Nat → Nat} {cy : Nat → ClassId} {D : va_G} {z : Nat} (n : Nat) {a0 : Nat} {p1 : Int32} {M : KM} {y : (Int32 × KM)} (h0 : kty a0 = 5) (hf : f_X4_drawBy n a0 p1 M = some y) : KC l ad cy D z yX4_drawBy cX4_drawBy 2 (some .int) 1 [.ref (ad a0), .int p1] M (some (.int y.1), y.2) := by
  refine kv_enter (by decide +kernel) (Nat.le_of_ble_eq_true rfl) ?_
  intro x hl hD hz G
  subst hl hD hz
  unfold f_X4_drawBy at hf
  have G : KG ad cy x cX4_drawBy "NoonGuides$Life" 2 (some (some .int)) 1 := G
  show KV ad cy x (some (.int y.1), y.2) 0 [(0, .ref (ad a0)), (1, .int p1)] [] M
  refine v_aload_n G dX4_drawBy_0 0 rfl ?_
  refine v_aload_n G dX4_drawBy_1 0 rfl ?_
  refine gf_4_1 G h0 t_177 (Or.inl rfl) dX4_drawBy_2 ?_
  refine v_sipush (2971 : Int32) G dX4_drawBy_5 (by decide) ?_
  refine v_imul G dX4_drawBy_8 ?_
  refine v_sipush (10733 : Int32) G dX4_drawBy_9 (by decide) ?_
  refine v_iadd G dX4_drawBy_12 ?_
  refine v_ldc G dX4_drawBy_13 t_1436 ?_
  refine v_irem G dX4_drawBy_15 (by decide) ?_
  refine pf_4_1 G h0 t_177 (Or.inl rfl) dX4_drawBy_16 ?_
  refine v_nmM (fun M1 eM1 => ?_)
  replace hf := lt_e hf eM1
  refine v_iload_n G dX4_drawBy_19 1 rfl ?_
  refine v_iconst (1 : Int32) G dX4_drawBy_20 (by decide) ?_
  refine v_icmp_ge 28 G dX4_drawBy_21 (by decide) (fun h3 => ?_) (fun h3 => ?_)
  · replace hf := (if_pos h3).symm.trans hf
    refine v_aload_n G dX4_drawBy_28 0 rfl ?_
    refine gf_4_1 G h0 t_177 (Or.inl rfl) dX4_drawBy_29 ?_
    refine v_bipush (8 : Int32) G dX4_drawBy_32 (by decide) ?_
    refine v_idiv G dX4_drawBy_34 (by decide) ?_
    refine v_iload_n G dX4_drawBy_35 1 rfl ?_
    obtain ⟨g2, hf⟩ := gd_e hf
    refine v_irem G dX4_drawBy_36 g2 ?_
    obtain rfl := Option.some.inj hf
    exact v_iret G dX4_drawBy_37
  · replace hf := (if_neg h3).symm.trans hf
    refine v_iconst (0 : Int32) G dX4_drawBy_24 (by decide) ?_
    refine v_goto 37 G dX4_drawBy_25 (by decide) ?_
    obtain rfl := Option.some.inj hf
    exact v_iret G dX4_drawBy_37
abbrev cX4_sendAny : ByteArray := prog_6_method_5_code
def yX4_sendAny : MethodName := ⟨RX4, "sendAny", "(LNoonGuides$Land;)Z"⟩
theorem dX4_sendAny_0 : dc cX4_sendAny 0 (.aload_n 1) 1 1 := ⟨by decide +kernel, rfl⟩
theorem dX4_sendAny_1 : dc cX4_sendAny 1 (.getfield 115) 3 4 := ⟨by decide +kernel, rfl⟩
theorem dX4_sendAny_4 : dc cX4_sendAny 4 (.iconst 1) 1 5 := ⟨by decide +kernel, rfl⟩
theorem dX4_sendAny_5 : dc cX4_sendAny 5 (.if_icmp .lt 11) 3 8 := ⟨by decide +kernel, rfl⟩
theorem dX4_sendAny_8 : dc cX4_sendAny 8 (.aload_n 1) 1 9 := ⟨by decide +kernel, rfl⟩
theorem dX4_sendAny_9 : dc cX4_sendAny 9 (.getfield 118) 3 12 := ⟨by decide +kernel, rfl⟩
theorem dX4_sendAny_12 : dc cX4_sendAny 12 (.iconst 1) 1 13 := ⟨by decide +kernel, rfl⟩
theorem dX4_sendAny_13 : dc cX4_sendAny 13 (.if_icmp .ge 5) 3 16 := ⟨by decide +kernel, rfl⟩
theorem dX4_sendAny_16 : dc cX4_sendAny 16 (.iconst 0) 1 17 := ⟨by decide +kernel, rfl⟩
theorem dX4_sendAny_17 : dc cX4_sendAny 17 (.ireturn) 1 18 := ⟨by decide +kernel, rfl⟩
theorem dX4_sendAny_18 : dc cX4_sendAny 18 (.aload_n 0) 1 19 := ⟨by decide +kernel, rfl⟩
theorem dX4_sendAny_19 : dc cX4_sendAny 19 (.aload_n 1) 1 20 := ⟨by decide +kernel, rfl⟩
theorem dX4_sendAny_20 : dc cX4_sendAny 20 (.getfield 115) 3 23 := ⟨by decide +kernel, rfl⟩
theorem dX4_sendAny_23 : dc cX4_sendAny 23 (.invokevirtual 121) 3 26 := ⟨by decide +kernel, rfl⟩
theorem dX4_sendAny_26 : dc cX4_sendAny 26 (.istore_n 2) 1 27 := ⟨by decide +kernel, rfl⟩
theorem dX4_sendAny_27 : dc cX4_sendAny 27 (.aload_n 0) 1 28 := ⟨by decide +kernel, rfl⟩
theorem dX4_sendAny_28 : dc cX4_sendAny 28 (.aload_n 1) 1 29 := ⟨by decide +kernel, rfl⟩
theorem dX4_sendAny_29 : dc cX4_sendAny 29 (.getfield 118) 3 32 := ⟨by decide +kernel, rfl⟩
theorem dX4_sendAny_32 : dc cX4_sendAny 32 (.invokevirtual 121) 3 35 := ⟨by decide +kernel, rfl⟩
theorem dX4_sendAny_35 : dc cX4_sendAny 35 (.istore_n 3) 1 36 := ⟨by decide +kernel, rfl⟩
theorem dX4_sendAny_36 : dc cX4_sendAny 36 (.aload_n 1) 1 37 := ⟨by decide +kernel, rfl⟩
theorem dX4_sendAny_37 : dc cX4_sendAny 37 (.iload_n 2) 1 38 := ⟨by decide +kernel, rfl⟩
theorem dX4_sendAny_38 : dc cX4_sendAny 38 (.iconst 0) 1 39 := ⟨by decide +kernel, rfl⟩
theorem dX4_sendAny_39 : dc cX4_sendAny 39 (.iload_n 3) 1 40 := ⟨by decide +kernel, rfl⟩
theorem dX4_sendAny_40 : dc cX4_sendAny 40 (.invokevirtual 84) 3 43 := ⟨by decide +kernel, rfl⟩
theorem dX4_sendAny_43 : dc cX4_sendAny 43 (.iconst (-1)) 1 44 := ⟨by decide +kernel, rfl⟩
theorem dX4_sendAny_44 : dc cX4_sendAny 44 (.if_icmp .eq 7) 3 47 := ⟨by decide +kernel, rfl⟩
theorem dX4_sendAny_47 : dc cX4_sendAny 47 (.iconst 1) 1 48 := ⟨by decide +kernel, rfl⟩
theorem dX4_sendAny_48 : dc cX4_sendAny 48 (.goto 4) 3 51 := ⟨by decide +kernel, rfl⟩
theorem dX4_sendAny_51 : dc cX4_sendAny 51 (.iconst 0) 1 52 := ⟨by decide +kernel, rfl⟩
theorem dX4_sendAny_52 : dc cX4_sendAny 52 (.ireturn) 1 53 := ⟨by decide +kernel, rfl⟩
theorem nm_X4_sendAny : (yX4_sendAny).cls ≠ "java/lang/invoke/MethodHandle" ∧ (yX4_sendAny).cls ≠ "java/lang/invoke/VarHandle" ∧ (parseMethodDescriptor (yX4_sendAny).desc).map (fun d => d.parameters.length) = some 1 := ⟨by decide +kernel, by decide +kernel, by decide +kernel⟩
set_option maxRecDepth 100000 in
theorem z_X4_sendAny (n : Nat) {a0 : Nat} {a1 : Nat} {M : KM} {y : (Int32 × KM)} (hf : f_X4_sendAny n a0 a1 M = some y) : (y.1 = 0 ∨ y.1 = 1) := by
  unfold f_X4_sendAny at hf
  by_cases h6 : (M.1 a1 10) < (1 : Int32)
  · replace hf := (if_pos h6).symm.trans hf
    obtain rfl := Option.some.inj hf
    exact (Or.inl rfl)
  · replace hf := (if_neg h6).symm.trans hf
    by_cases h5 : (1 : Int32) ≤ (M.1 a1 8)
    · replace hf := (if_pos h5).symm.trans hf
      obtain ⟨v1, hcv1, hf⟩ := bd_e hf
      obtain ⟨v2, hcv2, hf⟩ := bd_e hf
      obtain ⟨v3, hcv3, hf⟩ := bd_e hf
      by_cases h4 : v3.1 = (-1 : Int32)
      · replace hf := (if_pos h4).symm.trans hf
        obtain rfl := Option.some.inj hf
        exact (Or.inl rfl)
      · replace hf := (if_neg h4).symm.trans hf
        obtain rfl := Option.some.inj hf
        exact (Or.inr rfl)
    · replace hf := (if_neg h5).symm.trans hf
      obtain rfl := Option.some.inj hf
      exact (Or.inl rfl)
set_option maxRecDepth 100000 in
set_option maxHeartbeats 4000000 in
theorem c_X4_sendAny {l : Launch} {ad : Nat → Nat} {cy : Nat → ClassId} {D : va_G} {z : Nat} (n : Nat) {a0 : Nat} {a1 : Nat} {M : KM} {y : (Int32 × KM)} (h0 : kty a0 = 5) (h1 : kty a1 = 3) (hf : f_X4_sendAny n a0 a1 M = some y) : KC l ad cy D z yX4_sendAny cX4_sendAny 4 (some .boolean) 4 [.ref (ad a0), .ref (ad a1)] M (some (.int y.1), y.2) := by
  refine kv_enter (by decide +kernel) (Nat.le_of_ble_eq_true rfl) ?_
  intro x hl hD hz G
  subst hl hD hz
  unfold f_X4_sendAny at hf
  have G : KG ad cy x cX4_sendAny "NoonGuides$Life" 4 (some (some .boolean)) 4 := G
  show KV ad cy x (some (.int y.1), y.2) 0 [(0, .ref (ad a0)), (1, .ref (ad a1))] [] M
  refine v_aload_n G dX4_sendAny_0 1 rfl ?_
  refine gf_2_10 G h1 t_420 (Or.inl rfl) dX4_sendAny_1 ?_
  refine v_iconst (1 : Int32) G dX4_sendAny_4 (by decide) ?_
  refine v_icmp_lt 16 G dX4_sendAny_5 (by decide) (fun h6 => ?_) (fun h6 => ?_)
  · replace hf := (if_pos h6).symm.trans hf
    refine v_iconst (0 : Int32) G dX4_sendAny_16 (by decide) ?_
    obtain rfl := Option.some.inj hf
    exact v_zret G (Or.inl rfl) dX4_sendAny_17
  · replace hf := (if_neg h6).symm.trans hf
    refine v_aload_n G dX4_sendAny_8 1 rfl ?_
    refine gf_2_8 G h1 t_410 (Or.inl rfl) dX4_sendAny_9 ?_
    refine v_iconst (1 : Int32) G dX4_sendAny_12 (by decide) ?_
    refine v_icmp_ge 18 G dX4_sendAny_13 (by decide) (fun h5 => ?_) (fun h5 => ?_)
    · replace hf := (if_pos h5).symm.trans hf
      refine v_aload_n G dX4_sendAny_18 0 rfl ?_
      refine v_aload_n G dX4_sendAny_19 1 rfl ?_
      refine gf_2_10 G h1 t_420 (Or.inl rfl) dX4_sendAny_20 ?_
      obtain ⟨v1, hcv1, hf⟩ := bd_e hf
      refine v_callV [.int (M.1 a1 10)] G (c_X4_drawBy n h0 hcv1) h0 (by decide) rfl rfl rfl t_1432 t_1434 t_p53 t_9 t_1435 nm_X4_drawBy (by decide) (by decide) rfl rfl (Nat.le_of_ble_eq_true rfl) dX4_sendAny_23 (kv_ri ?_)
      refine v_istore_n [(2, .int v1.1), (0, .ref (ad a0)), (1, .ref (ad a1))] G dX4_sendAny_26 (by decide) rfl ?_
      refine v_aload_n G dX4_sendAny_27 1 rfl ?_
      refine v_aload_n G dX4_sendAny_28 2 rfl ?_
      refine gf_2_8 G h1 t_410 (Or.inl rfl) dX4_sendAny_29 ?_
      obtain ⟨v2, hcv2, hf⟩ := bd_e hf
      refine v_callV [.int (v1.2.1 a1 8)] G (c_X4_drawBy n h0 hcv2) h0 (by decide) rfl rfl rfl t_1432 t_1434 t_p53 t_9 t_1435 nm_X4_drawBy (by decide) (by decide) rfl rfl (Nat.le_of_ble_eq_true rfl) dX4_sendAny_32 (kv_ri ?_)
      refine v_istore_n [(3, .int v2.1), (2, .int v1.1), (0, .ref (ad a0)), (1, .ref (ad a1))] G dX4_sendAny_35 (by decide) rfl ?_
      refine v_aload_n G dX4_sendAny_36 3 rfl ?_
      refine v_iload_n G dX4_sendAny_37 1 rfl ?_
      refine v_iconst (0 : Int32) G dX4_sendAny_38 (by decide) ?_
      refine v_iload_n G dX4_sendAny_39 0 rfl ?_
      obtain ⟨v3, hcv3, hf⟩ := bd_e hf
      refine v_callV [.int v1.1, .int (0 : Int32), .int v2.1] G (c_X2_setOut n h1 hcv3) h1 (by decide) rfl rfl rfl t_1427 t_1106 t_1107 t_13 t_1108 nm_X2_setOut (by decide) (by decide) rfl rfl (Nat.le_of_ble_eq_true rfl) dX4_sendAny_40 (kv_ri ?_)
      refine v_iconst (-1 : Int32) G dX4_sendAny_43 (by decide) ?_
      refine v_icmp_eq 51 G dX4_sendAny_44 (by decide) (fun h4 => ?_) (fun h4 => ?_)
      · replace hf := (if_pos h4).symm.trans hf
        refine v_iconst (0 : Int32) G dX4_sendAny_51 (by decide) ?_
        obtain rfl := Option.some.inj hf
        exact v_zret G (Or.inl rfl) dX4_sendAny_52
      · replace hf := (if_neg h4).symm.trans hf
        refine v_iconst (1 : Int32) G dX4_sendAny_47 (by decide) ?_
        refine v_goto 52 G dX4_sendAny_48 (by decide) ?_
        obtain rfl := Option.some.inj hf
        exact v_zret G (Or.inr rfl) dX4_sendAny_52
    · replace hf := (if_neg h5).symm.trans hf
      refine v_iconst (0 : Int32) G dX4_sendAny_16 (by decide) ?_
      obtain rfl := Option.some.inj hf
      exact v_zret G (Or.inl rfl) dX4_sendAny_17
abbrev cX4_makeCloudy : ByteArray := prog_6_method_7_code
def yX4_makeCloudy : MethodName := ⟨RX4, "makeCloudy", "(LNoonGuides$Land;Z)Z"⟩
theorem dX4_makeCloudy_0 : dc cX4_makeCloudy 0 (.aload_n 0) 1 1 := ⟨by decide +kernel, rfl⟩
theorem dX4_makeCloudy_1 : dc cX4_makeCloudy 1 (.getfield 125) 3 4 := ⟨by decide +kernel, rfl⟩
theorem dX4_makeCloudy_4 : dc cX4_makeCloudy 4 (.iload_n 1) 1 5 := ⟨by decide +kernel, rfl⟩
theorem dX4_makeCloudy_5 : dc cX4_makeCloudy 5 (.if_icmp .ne 5) 3 8 := ⟨by decide +kernel, rfl⟩
theorem dX4_makeCloudy_8 : dc cX4_makeCloudy 8 (.iconst 0) 1 9 := ⟨by decide +kernel, rfl⟩
theorem dX4_makeCloudy_9 : dc cX4_makeCloudy 9 (.ireturn) 1 10 := ⟨by decide +kernel, rfl⟩
theorem dX4_makeCloudy_10 : dc cX4_makeCloudy 10 (.aload_n 0) 1 11 := ⟨by decide +kernel, rfl⟩
theorem dX4_makeCloudy_11 : dc cX4_makeCloudy 11 (.iload_n 1) 1 12 := ⟨by decide +kernel, rfl⟩
theorem dX4_makeCloudy_12 : dc cX4_makeCloudy 12 (.putfield 125) 3 15 := ⟨by decide +kernel, rfl⟩
theorem dX4_makeCloudy_15 : dc cX4_makeCloudy 15 (.iconst 1) 1 16 := ⟨by decide +kernel, rfl⟩
theorem dX4_makeCloudy_16 : dc cX4_makeCloudy 16 (.ireturn) 1 17 := ⟨by decide +kernel, rfl⟩
theorem nm_X4_makeCloudy : (yX4_makeCloudy).cls ≠ "java/lang/invoke/MethodHandle" ∧ (yX4_makeCloudy).cls ≠ "java/lang/invoke/VarHandle" ∧ (parseMethodDescriptor (yX4_makeCloudy).desc).map (fun d => d.parameters.length) = some 2 := ⟨by decide +kernel, by decide +kernel, by decide +kernel⟩
set_option maxRecDepth 100000 in
theorem z_X4_makeCloudy (n : Nat) {a0 : Nat} {p1 : Int32} {M : KM} {y : (Int32 × KM)} (hf : f_X4_makeCloudy n a0 p1 M = some y) : (y.1 = 0 ∨ y.1 = 1) := by
  unfold f_X4_makeCloudy at hf
  by_cases h3 : (M.1 a0 15) = p1
  · replace hf := (if_pos h3).symm.trans hf
    obtain rfl := Option.some.inj hf
    exact (Or.inl rfl)
  · replace hf := (if_neg h3).symm.trans hf
    obtain ⟨g1, hf⟩ := gd_e hf
    obtain ⟨M2, eM2⟩ : ∃ q : KM, q = (uI M a0 15 p1) := ⟨_, rfl⟩
    replace hf := lt_e hf eM2
    obtain rfl := Option.some.inj hf
    exact (Or.inr rfl)
set_option maxRecDepth 100000 in
set_option maxHeartbeats 4000000 in
theorem c_X4_makeCloudy {l : Launch} {ad : Nat → Nat} {cy : Nat → ClassId} {D : va_G} {z : Nat} (n : Nat) {a0 : Nat} {p1 : Int32} {M : KM} {y : (Int32 × KM)} (h0 : kty a0 = 3) (hf : f_X4_makeCloudy n a0 p1 M = some y) : KC l ad cy D z yX4_makeCloudy cX4_makeCloudy 2 (some .boolean) 1 [.ref (ad a0), .int p1] M (some (.int y.1), y.2) := by
  refine kv_enter (by decide +kernel) (Nat.le_of_ble_eq_true rfl) ?_
  intro x hl hD hz G
  subst hl hD hz
  unfold f_X4_makeCloudy at hf
  have G : KG ad cy x cX4_makeCloudy "NoonGuides$Life" 2 (some (some .boolean)) 1 := G
  show KV ad cy x (some (.int y.1), y.2) 0 [(0, .ref (ad a0)), (1, .int p1)] [] M
  refine v_aload_n G dX4_makeCloudy_0 0 rfl ?_
  refine gf_2_15 G h0 t_437 (Or.inl rfl) dX4_makeCloudy_1 ?_
  refine v_iload_n G dX4_makeCloudy_4 1 rfl ?_
  refine v_icmp_ne 10 G dX4_makeCloudy_5 (by decide) (fun h3 => ?_) (fun h3 => ?_)
  · replace hf := (if_neg h3).symm.trans hf
    refine v_aload_n G dX4_makeCloudy_10 0 rfl ?_
    refine v_iload_n G dX4_makeCloudy_11 1 rfl ?_
    obtain ⟨g1, hf⟩ := gd_e hf
    refine pf_2_15 G h0 g1 t_437 (Or.inl rfl) dX4_makeCloudy_12 ?_
    refine v_nmM (fun M2 eM2 => ?_)
    replace hf := lt_e hf eM2
    refine v_iconst (1 : Int32) G dX4_makeCloudy_15 (by decide) ?_
    obtain rfl := Option.some.inj hf
    exact v_zret G (Or.inr rfl) dX4_makeCloudy_16
  · replace hf := (if_pos h3).symm.trans hf
    refine v_iconst (0 : Int32) G dX4_makeCloudy_8 (by decide) ?_
    obtain rfl := Option.some.inj hf
    exact v_zret G (Or.inl rfl) dX4_makeCloudy_9
abbrev cX4_compares : ByteArray := prog_6_method_8_code
def yX4_compares : MethodName := ⟨RX4, "compares", "(III)Z"⟩
theorem dX4_compares_0 : dc cX4_compares 0 (.iload_n 1) 1 1 := ⟨by decide +kernel, rfl⟩
theorem dX4_compares_1 : dc cX4_compares 1 (.bipush 60) 2 3 := ⟨by decide +kernel, rfl⟩
theorem dX4_compares_3 : dc cX4_compares 3 (.if_icmp .ne 14) 3 6 := ⟨by decide +kernel, rfl⟩
theorem dX4_compares_6 : dc cX4_compares 6 (.iload_n 0) 1 7 := ⟨by decide +kernel, rfl⟩
theorem dX4_compares_7 : dc cX4_compares 7 (.iload_n 2) 1 8 := ⟨by decide +kernel, rfl⟩
theorem dX4_compares_8 : dc cX4_compares 8 (.if_icmp .ge 7) 3 11 := ⟨by decide +kernel, rfl⟩
theorem dX4_compares_11 : dc cX4_compares 11 (.iconst 1) 1 12 := ⟨by decide +kernel, rfl⟩
theorem dX4_compares_12 : dc cX4_compares 12 (.goto 4) 3 15 := ⟨by decide +kernel, rfl⟩
theorem dX4_compares_15 : dc cX4_compares 15 (.iconst 0) 1 16 := ⟨by decide +kernel, rfl⟩
theorem dX4_compares_16 : dc cX4_compares 16 (.ireturn) 1 17 := ⟨by decide +kernel, rfl⟩
theorem dX4_compares_17 : dc cX4_compares 17 (.iload_n 1) 1 18 := ⟨by decide +kernel, rfl⟩
theorem dX4_compares_18 : dc cX4_compares 18 (.bipush 62) 2 20 := ⟨by decide +kernel, rfl⟩
theorem dX4_compares_20 : dc cX4_compares 20 (.if_icmp .ne 16) 3 23 := ⟨by decide +kernel, rfl⟩
theorem dX4_compares_23 : dc cX4_compares 23 (.iload_n 0) 1 24 := ⟨by decide +kernel, rfl⟩
theorem dX4_compares_24 : dc cX4_compares 24 (.iload_n 2) 1 25 := ⟨by decide +kernel, rfl⟩
theorem dX4_compares_25 : dc cX4_compares 25 (.if_icmp .le 7) 3 28 := ⟨by decide +kernel, rfl⟩
theorem dX4_compares_28 : dc cX4_compares 28 (.iconst 1) 1 29 := ⟨by decide +kernel, rfl⟩
theorem dX4_compares_29 : dc cX4_compares 29 (.goto 17) 3 32 := ⟨by decide +kernel, rfl⟩
theorem dX4_compares_32 : dc cX4_compares 32 (.iconst 0) 1 33 := ⟨by decide +kernel, rfl⟩
theorem dX4_compares_33 : dc cX4_compares 33 (.goto 13) 3 36 := ⟨by decide +kernel, rfl⟩
theorem dX4_compares_36 : dc cX4_compares 36 (.iload_n 0) 1 37 := ⟨by decide +kernel, rfl⟩
theorem dX4_compares_37 : dc cX4_compares 37 (.iload_n 2) 1 38 := ⟨by decide +kernel, rfl⟩
theorem dX4_compares_38 : dc cX4_compares 38 (.if_icmp .ne 7) 3 41 := ⟨by decide +kernel, rfl⟩
theorem dX4_compares_41 : dc cX4_compares 41 (.iconst 1) 1 42 := ⟨by decide +kernel, rfl⟩
theorem dX4_compares_42 : dc cX4_compares 42 (.goto 4) 3 45 := ⟨by decide +kernel, rfl⟩
theorem dX4_compares_45 : dc cX4_compares 45 (.iconst 0) 1 46 := ⟨by decide +kernel, rfl⟩
theorem dX4_compares_46 : dc cX4_compares 46 (.ireturn) 1 47 := ⟨by decide +kernel, rfl⟩
theorem nm_X4_compares : (yX4_compares).cls ≠ "java/lang/invoke/MethodHandle" ∧ (yX4_compares).cls ≠ "java/lang/invoke/VarHandle" ∧ (parseMethodDescriptor (yX4_compares).desc).map (fun d => d.parameters.length) = some 3 := ⟨by decide +kernel, by decide +kernel, by decide +kernel⟩
set_option maxRecDepth 100000 in
theorem z_X4_compares {p0 : Int32} {p1 : Int32} {p2 : Int32} {M : KM} {y : Int32} (hf : f_X4_compares p0 p1 p2 M = y) : (y = 0 ∨ y = 1) := by
  unfold f_X4_compares at hf
  by_cases h5 : p1 = (60 : Int32)
  · replace hf := (if_pos h5).symm.trans hf
    by_cases h4 : p2 ≤ p0
    · replace hf := (if_pos h4).symm.trans hf
      obtain rfl := hf
      exact (Or.inl rfl)
    · replace hf := (if_neg h4).symm.trans hf
      obtain rfl := hf
      exact (Or.inr rfl)
  · replace hf := (if_neg h5).symm.trans hf
    by_cases h3 : p1 = (62 : Int32)
    · replace hf := (if_pos h3).symm.trans hf
      by_cases h2 : p0 ≤ p2
      · replace hf := (if_pos h2).symm.trans hf
        obtain rfl := hf
        exact (Or.inl rfl)
      · replace hf := (if_neg h2).symm.trans hf
        obtain rfl := hf
        exact (Or.inr rfl)
    · replace hf := (if_neg h3).symm.trans hf
      by_cases h1 : p0 = p2
      · replace hf := (if_pos h1).symm.trans hf
        obtain rfl := hf
        exact (Or.inr rfl)
      · replace hf := (if_neg h1).symm.trans hf
        obtain rfl := hf
        exact (Or.inl rfl)
set_option maxRecDepth 100000 in
set_option maxHeartbeats 4000000 in
theorem c_X4_compares {l : Launch} {ad : Nat → Nat} {cy : Nat → ClassId} {D : va_G} {z : Nat} {p0 : Int32} {p1 : Int32} {p2 : Int32} {M : KM} {y : Int32} (hf : f_X4_compares p0 p1 p2 M = y) : KC l ad cy D z yX4_compares cX4_compares 3 (some .boolean) 1 [.int p0, .int p1, .int p2] M (some (.int y), M) := by
  refine kv_enter (by decide +kernel) (Nat.le_of_ble_eq_true rfl) ?_
  intro x hl hD hz G
  subst hl hD hz
  unfold f_X4_compares at hf
  have G : KG ad cy x cX4_compares "NoonGuides$Life" 3 (some (some .boolean)) 1 := G
  show KV ad cy x (some (.int y), M) 0 [(0, .int p0), (1, .int p1), (2, .int p2)] [] M
  refine v_iload_n G dX4_compares_0 1 rfl ?_
  refine v_bipush (60 : Int32) G dX4_compares_1 (by decide) ?_
  refine v_icmp_ne 17 G dX4_compares_3 (by decide) (fun h5 => ?_) (fun h5 => ?_)
  · replace hf := (if_neg h5).symm.trans hf
    refine v_iload_n G dX4_compares_17 1 rfl ?_
    refine v_bipush (62 : Int32) G dX4_compares_18 (by decide) ?_
    refine v_icmp_ne 36 G dX4_compares_20 (by decide) (fun h3 => ?_) (fun h3 => ?_)
    · replace hf := (if_neg h3).symm.trans hf
      refine v_iload_n G dX4_compares_36 0 rfl ?_
      refine v_iload_n G dX4_compares_37 2 rfl ?_
      refine v_icmp_ne 45 G dX4_compares_38 (by decide) (fun h1 => ?_) (fun h1 => ?_)
      · replace hf := (if_neg h1).symm.trans hf
        refine v_iconst (0 : Int32) G dX4_compares_45 (by decide) ?_
        obtain rfl := hf
        exact v_zret G (Or.inl rfl) dX4_compares_46
      · replace hf := (if_pos h1).symm.trans hf
        refine v_iconst (1 : Int32) G dX4_compares_41 (by decide) ?_
        refine v_goto 46 G dX4_compares_42 (by decide) ?_
        obtain rfl := hf
        exact v_zret G (Or.inr rfl) dX4_compares_46
    · replace hf := (if_pos h3).symm.trans hf
      refine v_iload_n G dX4_compares_23 0 rfl ?_
      refine v_iload_n G dX4_compares_24 2 rfl ?_
      refine v_icmp_le 32 G dX4_compares_25 (by decide) (fun h2 => ?_) (fun h2 => ?_)
      · replace hf := (if_pos h2).symm.trans hf
        refine v_iconst (0 : Int32) G dX4_compares_32 (by decide) ?_
        refine v_goto 46 G dX4_compares_33 (by decide) ?_
        obtain rfl := hf
        exact v_zret G (Or.inl rfl) dX4_compares_46
      · replace hf := (if_neg h2).symm.trans hf
        refine v_iconst (1 : Int32) G dX4_compares_28 (by decide) ?_
        refine v_goto 46 G dX4_compares_29 (by decide) ?_
        obtain rfl := hf
        exact v_zret G (Or.inr rfl) dX4_compares_46
  · replace hf := (if_pos h5).symm.trans hf
    refine v_iload_n G dX4_compares_6 0 rfl ?_
    refine v_iload_n G dX4_compares_7 2 rfl ?_
    refine v_icmp_ge 15 G dX4_compares_8 (by decide) (fun h4 => ?_) (fun h4 => ?_)
    · replace hf := (if_pos h4).symm.trans hf
      refine v_iconst (0 : Int32) G dX4_compares_15 (by decide) ?_
      obtain rfl := hf
      exact v_zret G (Or.inl rfl) dX4_compares_16
    · replace hf := (if_neg h4).symm.trans hf
      refine v_iconst (1 : Int32) G dX4_compares_11 (by decide) ?_
      refine v_goto 16 G dX4_compares_12 (by decide) ?_
      obtain rfl := hf
      exact v_zret G (Or.inr rfl) dX4_compares_16
abbrev cX4_doStep : ByteArray := prog_6_method_4_code
def yX4_doStep : MethodName := ⟨RX4, "doStep", "(LNoonGuides$Land;I)I"⟩
theorem dX4_doStep_0 : dc cX4_doStep 0 (.aload_n 1) 1 1 := ⟨by decide +kernel, rfl⟩
theorem dX4_doStep_1 : dc cX4_doStep 1 (.getfield 17) 3 4 := ⟨by decide +kernel, rfl⟩
theorem dX4_doStep_4 : dc cX4_doStep 4 (.astore_n 3) 1 5 := ⟨by decide +kernel, rfl⟩
theorem dX4_doStep_5 : dc cX4_doStep 5 (.aload_n 3) 1 6 := ⟨by decide +kernel, rfl⟩
theorem dX4_doStep_6 : dc cX4_doStep 6 (.getfield 71) 3 9 := ⟨by decide +kernel, rfl⟩
theorem dX4_doStep_9 : dc cX4_doStep 9 (.iload_n 2) 1 10 := ⟨by decide +kernel, rfl⟩
theorem dX4_doStep_10 : dc cX4_doStep 10 (.iaload) 1 11 := ⟨by decide +kernel, rfl⟩
theorem dX4_doStep_11 : dc cX4_doStep 11 (.istore 4) 2 13 := ⟨by decide +kernel, rfl⟩
theorem dX4_doStep_13 : dc cX4_doStep 13 (.aload_n 3) 1 14 := ⟨by decide +kernel, rfl⟩
theorem dX4_doStep_14 : dc cX4_doStep 14 (.getfield 74) 3 17 := ⟨by decide +kernel, rfl⟩
theorem dX4_doStep_17 : dc cX4_doStep 17 (.iload_n 2) 1 18 := ⟨by decide +kernel, rfl⟩
theorem dX4_doStep_18 : dc cX4_doStep 18 (.iaload) 1 19 := ⟨by decide +kernel, rfl⟩
theorem dX4_doStep_19 : dc cX4_doStep 19 (.istore 5) 2 21 := ⟨by decide +kernel, rfl⟩
theorem dX4_doStep_21 : dc cX4_doStep 21 (.aload_n 3) 1 22 := ⟨by decide +kernel, rfl⟩
theorem dX4_doStep_22 : dc cX4_doStep 22 (.getfield 77) 3 25 := ⟨by decide +kernel, rfl⟩
theorem dX4_doStep_25 : dc cX4_doStep 25 (.iload_n 2) 1 26 := ⟨by decide +kernel, rfl⟩
theorem dX4_doStep_26 : dc cX4_doStep 26 (.iaload) 1 27 := ⟨by decide +kernel, rfl⟩
theorem dX4_doStep_27 : dc cX4_doStep 27 (.istore 6) 2 29 := ⟨by decide +kernel, rfl⟩
theorem dX4_doStep_29 : dc cX4_doStep 29 (.iconst 0) 1 30 := ⟨by decide +kernel, rfl⟩
theorem dX4_doStep_30 : dc cX4_doStep 30 (.istore 7) 2 32 := ⟨by decide +kernel, rfl⟩
theorem dX4_doStep_32 : dc cX4_doStep 32 (.iconst 1) 1 33 := ⟨by decide +kernel, rfl⟩
theorem dX4_doStep_33 : dc cX4_doStep 33 (.istore 8) 2 35 := ⟨by decide +kernel, rfl⟩
theorem dX4_doStep_35 : dc cX4_doStep 35 (.iconst 1) 1 36 := ⟨by decide +kernel, rfl⟩
theorem dX4_doStep_36 : dc cX4_doStep 36 (.istore 9) 2 38 := ⟨by decide +kernel, rfl⟩
theorem dX4_doStep_38 : dc cX4_doStep 38 (.aload_n 3) 1 39 := ⟨by decide +kernel, rfl⟩
theorem dX4_doStep_39 : dc cX4_doStep 39 (.getfield 51) 3 42 := ⟨by decide +kernel, rfl⟩
theorem dX4_doStep_42 : dc cX4_doStep 42 (.iload_n 2) 1 43 := ⟨by decide +kernel, rfl⟩
theorem dX4_doStep_43 : dc cX4_doStep 43 (.iaload) 1 44 := ⟨by decide +kernel, rfl⟩
theorem dX4_doStep_44 : dc cX4_doStep 44 (.tableswitch 209 0 9 #[56, 67, 90, 116, 126, 136, 146, 167, 180, 198]) 56 100 := ⟨by decide +kernel, rfl⟩
theorem dX4_doStep_100 : dc cX4_doStep 100 (.aload_n 1) 1 101 := ⟨by decide +kernel, rfl⟩
theorem dX4_doStep_101 : dc cX4_doStep 101 (.iload 4) 2 103 := ⟨by decide +kernel, rfl⟩
theorem dX4_doStep_103 : dc cX4_doStep 103 (.invokevirtual 80) 3 106 := ⟨by decide +kernel, rfl⟩
theorem dX4_doStep_106 : dc cX4_doStep 106 (.istore 7) 2 108 := ⟨by decide +kernel, rfl⟩
theorem dX4_doStep_108 : dc cX4_doStep 108 (.goto 150) 3 111 := ⟨by decide +kernel, rfl⟩
theorem dX4_doStep_111 : dc cX4_doStep 111 (.aload_n 1) 1 112 := ⟨by decide +kernel, rfl⟩
theorem dX4_doStep_112 : dc cX4_doStep 112 (.iload 4) 2 114 := ⟨by decide +kernel, rfl⟩
theorem dX4_doStep_114 : dc cX4_doStep 114 (.iconst 0) 1 115 := ⟨by decide +kernel, rfl⟩
theorem dX4_doStep_115 : dc cX4_doStep 115 (.iload 5) 2 117 := ⟨by decide +kernel, rfl⟩
theorem dX4_doStep_117 : dc cX4_doStep 117 (.invokevirtual 84) 3 120 := ⟨by decide +kernel, rfl⟩
theorem dX4_doStep_120 : dc cX4_doStep 120 (.iconst (-1)) 1 121 := ⟨by decide +kernel, rfl⟩
theorem dX4_doStep_121 : dc cX4_doStep 121 (.if_icmp .eq 7) 3 124 := ⟨by decide +kernel, rfl⟩
theorem dX4_doStep_124 : dc cX4_doStep 124 (.iconst 1) 1 125 := ⟨by decide +kernel, rfl⟩
theorem dX4_doStep_125 : dc cX4_doStep 125 (.goto 4) 3 128 := ⟨by decide +kernel, rfl⟩
theorem dX4_doStep_128 : dc cX4_doStep 128 (.iconst 0) 1 129 := ⟨by decide +kernel, rfl⟩
theorem dX4_doStep_129 : dc cX4_doStep 129 (.istore 8) 2 131 := ⟨by decide +kernel, rfl⟩
theorem dX4_doStep_131 : dc cX4_doStep 131 (.goto 127) 3 134 := ⟨by decide +kernel, rfl⟩
theorem dX4_doStep_134 : dc cX4_doStep 134 (.aload_n 1) 1 135 := ⟨by decide +kernel, rfl⟩
theorem dX4_doStep_135 : dc cX4_doStep 135 (.iload 4) 2 137 := ⟨by decide +kernel, rfl⟩
theorem dX4_doStep_137 : dc cX4_doStep 137 (.iconst 1) 1 138 := ⟨by decide +kernel, rfl⟩
theorem dX4_doStep_138 : dc cX4_doStep 138 (.iload 5) 2 140 := ⟨by decide +kernel, rfl⟩
theorem dX4_doStep_140 : dc cX4_doStep 140 (.ishl) 1 141 := ⟨by decide +kernel, rfl⟩
theorem dX4_doStep_141 : dc cX4_doStep 141 (.iload 6) 2 143 := ⟨by decide +kernel, rfl⟩
theorem dX4_doStep_143 : dc cX4_doStep 143 (.invokevirtual 84) 3 146 := ⟨by decide +kernel, rfl⟩
theorem dX4_doStep_146 : dc cX4_doStep 146 (.iconst (-1)) 1 147 := ⟨by decide +kernel, rfl⟩
theorem dX4_doStep_147 : dc cX4_doStep 147 (.if_icmp .eq 7) 3 150 := ⟨by decide +kernel, rfl⟩
theorem dX4_doStep_150 : dc cX4_doStep 150 (.iconst 1) 1 151 := ⟨by decide +kernel, rfl⟩
theorem dX4_doStep_151 : dc cX4_doStep 151 (.goto 4) 3 154 := ⟨by decide +kernel, rfl⟩
theorem dX4_doStep_154 : dc cX4_doStep 154 (.iconst 0) 1 155 := ⟨by decide +kernel, rfl⟩
theorem dX4_doStep_155 : dc cX4_doStep 155 (.istore 8) 2 157 := ⟨by decide +kernel, rfl⟩
theorem dX4_doStep_157 : dc cX4_doStep 157 (.goto 101) 3 160 := ⟨by decide +kernel, rfl⟩
theorem dX4_doStep_160 : dc cX4_doStep 160 (.aload_n 0) 1 161 := ⟨by decide +kernel, rfl⟩
theorem dX4_doStep_161 : dc cX4_doStep 161 (.aload_n 1) 1 162 := ⟨by decide +kernel, rfl⟩
theorem dX4_doStep_162 : dc cX4_doStep 162 (.invokevirtual 88) 3 165 := ⟨by decide +kernel, rfl⟩
theorem dX4_doStep_165 : dc cX4_doStep 165 (.istore 8) 2 167 := ⟨by decide +kernel, rfl⟩
theorem dX4_doStep_167 : dc cX4_doStep 167 (.goto 91) 3 170 := ⟨by decide +kernel, rfl⟩
theorem dX4_doStep_170 : dc cX4_doStep 170 (.aload_n 1) 1 171 := ⟨by decide +kernel, rfl⟩
theorem dX4_doStep_171 : dc cX4_doStep 171 (.iconst 1) 1 172 := ⟨by decide +kernel, rfl⟩
theorem dX4_doStep_172 : dc cX4_doStep 172 (.invokestatic 92) 3 175 := ⟨by decide +kernel, rfl⟩
theorem dX4_doStep_175 : dc cX4_doStep 175 (.istore 8) 2 177 := ⟨by decide +kernel, rfl⟩
theorem dX4_doStep_177 : dc cX4_doStep 177 (.goto 81) 3 180 := ⟨by decide +kernel, rfl⟩
theorem dX4_doStep_180 : dc cX4_doStep 180 (.aload_n 1) 1 181 := ⟨by decide +kernel, rfl⟩
theorem dX4_doStep_181 : dc cX4_doStep 181 (.iconst 0) 1 182 := ⟨by decide +kernel, rfl⟩
theorem dX4_doStep_182 : dc cX4_doStep 182 (.invokestatic 92) 3 185 := ⟨by decide +kernel, rfl⟩
theorem dX4_doStep_185 : dc cX4_doStep 185 (.istore 8) 2 187 := ⟨by decide +kernel, rfl⟩
theorem dX4_doStep_187 : dc cX4_doStep 187 (.goto 71) 3 190 := ⟨by decide +kernel, rfl⟩
theorem dX4_doStep_190 : dc cX4_doStep 190 (.aload_n 1) 1 191 := ⟨by decide +kernel, rfl⟩
theorem dX4_doStep_191 : dc cX4_doStep 191 (.iload 4) 2 193 := ⟨by decide +kernel, rfl⟩
theorem dX4_doStep_193 : dc cX4_doStep 193 (.invokevirtual 96) 3 196 := ⟨by decide +kernel, rfl⟩
theorem dX4_doStep_196 : dc cX4_doStep 196 (.iload 5) 2 198 := ⟨by decide +kernel, rfl⟩
theorem dX4_doStep_198 : dc cX4_doStep 198 (.if_icmp .ne 7) 3 201 := ⟨by decide +kernel, rfl⟩
theorem dX4_doStep_201 : dc cX4_doStep 201 (.iconst 1) 1 202 := ⟨by decide +kernel, rfl⟩
theorem dX4_doStep_202 : dc cX4_doStep 202 (.goto 4) 3 205 := ⟨by decide +kernel, rfl⟩
theorem dX4_doStep_205 : dc cX4_doStep 205 (.iconst 0) 1 206 := ⟨by decide +kernel, rfl⟩
theorem dX4_doStep_206 : dc cX4_doStep 206 (.istore 9) 2 208 := ⟨by decide +kernel, rfl⟩
theorem dX4_doStep_208 : dc cX4_doStep 208 (.goto 50) 3 211 := ⟨by decide +kernel, rfl⟩
theorem dX4_doStep_211 : dc cX4_doStep 211 (.aload_n 1) 1 212 := ⟨by decide +kernel, rfl⟩
theorem dX4_doStep_212 : dc cX4_doStep 212 (.aload_n 1) 1 213 := ⟨by decide +kernel, rfl⟩
theorem dX4_doStep_213 : dc cX4_doStep 213 (.getfield 40) 3 216 := ⟨by decide +kernel, rfl⟩
theorem dX4_doStep_216 : dc cX4_doStep 216 (.invokevirtual 99) 3 219 := ⟨by decide +kernel, rfl⟩
theorem dX4_doStep_219 : dc cX4_doStep 219 (.istore 9) 2 221 := ⟨by decide +kernel, rfl⟩
theorem dX4_doStep_221 : dc cX4_doStep 221 (.goto 37) 3 224 := ⟨by decide +kernel, rfl⟩
theorem dX4_doStep_224 : dc cX4_doStep 224 (.aload_n 1) 1 225 := ⟨by decide +kernel, rfl⟩
theorem dX4_doStep_225 : dc cX4_doStep 225 (.iload 4) 2 227 := ⟨by decide +kernel, rfl⟩
theorem dX4_doStep_227 : dc cX4_doStep 227 (.invokevirtual 103) 3 230 := ⟨by decide +kernel, rfl⟩
theorem dX4_doStep_230 : dc cX4_doStep 230 (.iload 5) 2 232 := ⟨by decide +kernel, rfl⟩
theorem dX4_doStep_232 : dc cX4_doStep 232 (.iload 6) 2 234 := ⟨by decide +kernel, rfl⟩
theorem dX4_doStep_234 : dc cX4_doStep 234 (.invokestatic 106) 3 237 := ⟨by decide +kernel, rfl⟩
theorem dX4_doStep_237 : dc cX4_doStep 237 (.istore 9) 2 239 := ⟨by decide +kernel, rfl⟩
theorem dX4_doStep_239 : dc cX4_doStep 239 (.goto 19) 3 242 := ⟨by decide +kernel, rfl⟩
theorem dX4_doStep_242 : dc cX4_doStep 242 (.aload_n 0) 1 243 := ⟨by decide +kernel, rfl⟩
theorem dX4_doStep_243 : dc cX4_doStep 243 (.getfield 11) 3 246 := ⟨by decide +kernel, rfl⟩
theorem dX4_doStep_246 : dc cX4_doStep 246 (.iload_n 2) 1 247 := ⟨by decide +kernel, rfl⟩
theorem dX4_doStep_247 : dc cX4_doStep 247 (.iload 4) 2 249 := ⟨by decide +kernel, rfl⟩
theorem dX4_doStep_249 : dc cX4_doStep 249 (.iastore) 1 250 := ⟨by decide +kernel, rfl⟩
theorem dX4_doStep_250 : dc cX4_doStep 250 (.goto 8) 3 253 := ⟨by decide +kernel, rfl⟩
theorem dX4_doStep_253 : dc cX4_doStep 253 (.aload_n 3) 1 254 := ⟨by decide +kernel, rfl⟩
theorem dX4_doStep_254 : dc cX4_doStep 254 (.getfield 48) 3 257 := ⟨by decide +kernel, rfl⟩
theorem dX4_doStep_257 : dc cX4_doStep 257 (.ireturn) 1 258 := ⟨by decide +kernel, rfl⟩
theorem dX4_doStep_258 : dc cX4_doStep 258 (.aload_n 0) 1 259 := ⟨by decide +kernel, rfl⟩
theorem dX4_doStep_259 : dc cX4_doStep 259 (.dup) 1 260 := ⟨by decide +kernel, rfl⟩
theorem dX4_doStep_260 : dc cX4_doStep 260 (.getfield 33) 3 263 := ⟨by decide +kernel, rfl⟩
theorem dX4_doStep_263 : dc cX4_doStep 263 (.iload 7) 2 265 := ⟨by decide +kernel, rfl⟩
theorem dX4_doStep_265 : dc cX4_doStep 265 (.iconst (-1)) 1 266 := ⟨by decide +kernel, rfl⟩
theorem dX4_doStep_266 : dc cX4_doStep 266 (.if_icmp .ne 7) 3 269 := ⟨by decide +kernel, rfl⟩
theorem dX4_doStep_269 : dc cX4_doStep 269 (.iconst 0) 1 270 := ⟨by decide +kernel, rfl⟩
theorem dX4_doStep_270 : dc cX4_doStep 270 (.goto 8) 3 273 := ⟨by decide +kernel, rfl⟩
theorem dX4_doStep_273 : dc cX4_doStep 273 (.iload 7) 2 275 := ⟨by decide +kernel, rfl⟩
theorem dX4_doStep_275 : dc cX4_doStep 275 (.invokestatic 110) 3 278 := ⟨by decide +kernel, rfl⟩
theorem dX4_doStep_278 : dc cX4_doStep 278 (.iadd) 1 279 := ⟨by decide +kernel, rfl⟩
theorem dX4_doStep_279 : dc cX4_doStep 279 (.putfield 33) 3 282 := ⟨by decide +kernel, rfl⟩
theorem dX4_doStep_282 : dc cX4_doStep 282 (.aload_n 0) 1 283 := ⟨by decide +kernel, rfl⟩
theorem dX4_doStep_283 : dc cX4_doStep 283 (.dup) 1 284 := ⟨by decide +kernel, rfl⟩
theorem dX4_doStep_284 : dc cX4_doStep 284 (.getfield 30) 3 287 := ⟨by decide +kernel, rfl⟩
theorem dX4_doStep_287 : dc cX4_doStep 287 (.iload 8) 2 289 := ⟨by decide +kernel, rfl⟩
theorem dX4_doStep_289 : dc cX4_doStep 289 (.ifCond .eq 13) 3 292 := ⟨by decide +kernel, rfl⟩
theorem dX4_doStep_292 : dc cX4_doStep 292 (.iload 7) 2 294 := ⟨by decide +kernel, rfl⟩
theorem dX4_doStep_294 : dc cX4_doStep 294 (.iconst (-1)) 1 295 := ⟨by decide +kernel, rfl⟩
theorem dX4_doStep_295 : dc cX4_doStep 295 (.if_icmp .eq 7) 3 298 := ⟨by decide +kernel, rfl⟩
theorem dX4_doStep_298 : dc cX4_doStep 298 (.iconst 0) 1 299 := ⟨by decide +kernel, rfl⟩
theorem dX4_doStep_299 : dc cX4_doStep 299 (.goto 4) 3 302 := ⟨by decide +kernel, rfl⟩
theorem dX4_doStep_302 : dc cX4_doStep 302 (.iconst 1) 1 303 := ⟨by decide +kernel, rfl⟩
theorem dX4_doStep_303 : dc cX4_doStep 303 (.iadd) 1 304 := ⟨by decide +kernel, rfl⟩
theorem dX4_doStep_304 : dc cX4_doStep 304 (.putfield 30) 3 307 := ⟨by decide +kernel, rfl⟩
theorem dX4_doStep_307 : dc cX4_doStep 307 (.iload 9) 2 309 := ⟨by decide +kernel, rfl⟩
theorem dX4_doStep_309 : dc cX4_doStep 309 (.ifCond .eq 9) 3 312 := ⟨by decide +kernel, rfl⟩
theorem dX4_doStep_312 : dc cX4_doStep 312 (.iload_n 2) 1 313 := ⟨by decide +kernel, rfl⟩
theorem dX4_doStep_313 : dc cX4_doStep 313 (.iconst 1) 1 314 := ⟨by decide +kernel, rfl⟩
theorem dX4_doStep_314 : dc cX4_doStep 314 (.iadd) 1 315 := ⟨by decide +kernel, rfl⟩
theorem dX4_doStep_315 : dc cX4_doStep 315 (.goto 11) 3 318 := ⟨by decide +kernel, rfl⟩
theorem dX4_doStep_318 : dc cX4_doStep 318 (.aload_n 3) 1 319 := ⟨by decide +kernel, rfl⟩
theorem dX4_doStep_319 : dc cX4_doStep 319 (.getfield 68) 3 322 := ⟨by decide +kernel, rfl⟩
theorem dX4_doStep_322 : dc cX4_doStep 322 (.iload_n 2) 1 323 := ⟨by decide +kernel, rfl⟩
theorem dX4_doStep_323 : dc cX4_doStep 323 (.iaload) 1 324 := ⟨by decide +kernel, rfl⟩
theorem dX4_doStep_324 : dc cX4_doStep 324 (.iconst 1) 1 325 := ⟨by decide +kernel, rfl⟩
theorem dX4_doStep_325 : dc cX4_doStep 325 (.iadd) 1 326 := ⟨by decide +kernel, rfl⟩
theorem dX4_doStep_326 : dc cX4_doStep 326 (.ireturn) 1 327 := ⟨by decide +kernel, rfl⟩
theorem nm_X4_doStep : (yX4_doStep).cls ≠ "java/lang/invoke/MethodHandle" ∧ (yX4_doStep).cls ≠ "java/lang/invoke/VarHandle" ∧ (parseMethodDescriptor (yX4_doStep).desc).map (fun d => d.parameters.length) = some 2 := ⟨by decide +kernel, by decide +kernel, by decide +kernel⟩
set_option maxRecDepth 100000 in
set_option maxHeartbeats 4000000 in
theorem c_X4_doStep {l : Launch} {ad : Nat → Nat} {cy : Nat → ClassId} {D : va_G} {z : Nat} (n : Nat) {a0 : Nat} {a1 : Nat} {p2 : Int32} {M : KM} {y : (Int32 × KM)} (h0 : kty a0 = 5) (h1 : kty a1 = 3) (hf : f_X4_doStep n a0 a1 p2 M = some y) : KC l ad cy D z yX4_doStep cX4_doStep 10 (some .int) 6 [.ref (ad a0), .ref (ad a1), .int p2] M (some (.int y.1), y.2) := by
  refine kv_enter (by decide +kernel) (Nat.le_of_ble_eq_true rfl) ?_
  intro x hl hD hz G
  subst hl hD hz
  unfold f_X4_doStep at hf
  have G : KG ad cy x cX4_doStep "NoonGuides$Life" 10 (some (some .int)) 6 := G
  show KV ad cy x (some (.int y.1), y.2) 0 [(0, .ref (ad a0)), (1, .ref (ad a1)), (2, .int p2)] [] M
  refine v_aload_n G dX4_doStep_0 1 rfl ?_
  refine gf_2_7 G h1 t_406 (Or.inl rfl) dX4_doStep_1 ?_
  refine v_kt (fun hKT => ?_)
  have hk1 := hKT.2.2.2.1 _ h1
  refine v_nma (fun v2 ev2 => ?_)
  have hv2 : kty v2 = 9 := by rw [ev2]; exact hk1
  replace hf := lt_e hf ev2
  refine v_astore_n [(3, .ref (ad v2)), (0, .ref (ad a0)), (1, .ref (ad a1)), (2, .int p2)] G dX4_doStep_4 (by decide) rfl ?_
  refine v_aload_n G dX4_doStep_5 0 rfl ?_
  refine gf_8_1 G hv2 t_286 (Or.inl rfl) dX4_doStep_6 ?_
  refine v_iload_n G dX4_doStep_9 3 rfl ?_
  obtain ⟨g3, hf⟩ := gd_e hf
  refine al_27 G (kf_8_2 hv2) g3 dX4_doStep_10 ?_
  refine v_nmi (fun v4 ev4 => ?_)
  replace hf := lt_e hf ev4
  refine v_istore [(4, .int v4), (3, .ref (ad v2)), (0, .ref (ad a0)), (1, .ref (ad a1)), (2, .int p2)] G dX4_doStep_11 (by decide) rfl ?_
  refine v_aload_n G dX4_doStep_13 1 rfl ?_
  refine gf_8_2 G hv2 t_288 (Or.inl rfl) dX4_doStep_14 ?_
  refine v_iload_n G dX4_doStep_17 4 rfl ?_
  obtain ⟨g5, hf⟩ := gd_e hf
  refine al_27 G (kf_8_3 hv2) g5 dX4_doStep_18 ?_
  refine v_nmi (fun v6 ev6 => ?_)
  replace hf := lt_e hf ev6
  refine v_istore [(5, .int v6), (4, .int v4), (3, .ref (ad v2)), (0, .ref (ad a0)), (1, .ref (ad a1)), (2, .int p2)] G dX4_doStep_19 (by decide) rfl ?_
  refine v_aload_n G dX4_doStep_21 2 rfl ?_
  refine gf_8_3 G hv2 t_290 (Or.inl rfl) dX4_doStep_22 ?_
  refine v_iload_n G dX4_doStep_25 5 rfl ?_
  obtain ⟨g7, hf⟩ := gd_e hf
  refine al_27 G (kf_8_4 hv2) g7 dX4_doStep_26 ?_
  refine v_nmi (fun v8 ev8 => ?_)
  replace hf := lt_e hf ev8
  refine v_istore [(6, .int v8), (5, .int v6), (4, .int v4), (3, .ref (ad v2)), (0, .ref (ad a0)), (1, .ref (ad a1)), (2, .int p2)] G dX4_doStep_27 (by decide) rfl ?_
  refine v_iconst (0 : Int32) G dX4_doStep_29 (by decide) ?_
  refine v_istore [(7, .int (0 : Int32)), (6, .int v8), (5, .int v6), (4, .int v4), (3, .ref (ad v2)), (0, .ref (ad a0)), (1, .ref (ad a1)), (2, .int p2)] G dX4_doStep_30 (by decide) rfl ?_
  refine v_iconst (1 : Int32) G dX4_doStep_32 (by decide) ?_
  refine v_istore [(8, .int (1 : Int32)), (7, .int (0 : Int32)), (6, .int v8), (5, .int v6), (4, .int v4), (3, .ref (ad v2)), (0, .ref (ad a0)), (1, .ref (ad a1)), (2, .int p2)] G dX4_doStep_33 (by decide) rfl ?_
  refine v_iconst (1 : Int32) G dX4_doStep_35 (by decide) ?_
  refine v_istore [(9, .int (1 : Int32)), (8, .int (1 : Int32)), (7, .int (0 : Int32)), (6, .int v8), (5, .int v6), (4, .int v4), (3, .ref (ad v2)), (0, .ref (ad a0)), (1, .ref (ad a1)), (2, .int p2)] G dX4_doStep_36 (by decide) rfl ?_
  refine v_aload_n G dX4_doStep_38 6 rfl ?_
  refine gf_8_0 G hv2 t_284 (Or.inl rfl) dX4_doStep_39 ?_
  refine v_iload_n G dX4_doStep_42 9 rfl ?_
  obtain ⟨g9, hf⟩ := gd_e hf
  refine al_27 G (kf_8_1 hv2) g9 dX4_doStep_43 ?_
  refine v_nmi (fun v10 ev10 => ?_)
  replace hf := lt_e hf ev10
  obtain ⟨j258, ej258, hf⟩ := lt_j hf
  have hj258 : ∀ (x11 : Int32) (x12 : Int32) (x13 : Int32) (M14 : KM), j258 x11 x12 x13 M14 = some y → KV ad cy x (some (.int y.1), y.2) 258 [(0, .ref (ad a0)), (2, .int p2), (3, .ref (ad v2)), (7, .int x11), (8, .int x12), (9, .int x13)] [] M14 := by
    intro x11 x12 x13 M14 hf
    rw [ej258] at hf
    refine v_aload_n G dX4_doStep_258 0 rfl ?_
    refine v_dup G dX4_doStep_259 rfl ?_
    refine gf_4_5 G h0 t_184 (Or.inl rfl) dX4_doStep_260 ?_
    refine v_iload G dX4_doStep_263 3 rfl ?_
    refine v_iconst (-1 : Int32) G dX4_doStep_265 (by decide) ?_
    obtain ⟨j278, ej278, hf⟩ := lt_j hf
    have hj278 : ∀ (x15 : Int32), j278 x15 = some y → KV ad cy x (some (.int y.1), y.2) 278 [(0, .ref (ad a0)), (2, .int p2), (3, .ref (ad v2)), (7, .int x11), (8, .int x12), (9, .int x13)] [.int x15, .int (M14.1 a0 5), .ref (ad a0)] M14 := by
      intro x15 hf
      rw [ej278] at hf
      refine v_iadd G dX4_doStep_278 ?_
      refine pf_4_5 G h0 t_184 (Or.inl rfl) dX4_doStep_279 ?_
      refine v_nmM (fun M16 eM16 => ?_)
      replace hf := lt_e hf eM16
      refine v_aload_n G dX4_doStep_282 0 rfl ?_
      refine v_dup G dX4_doStep_283 rfl ?_
      refine gf_4_3 G h0 t_180 (Or.inl rfl) dX4_doStep_284 ?_
      refine v_iload G dX4_doStep_287 4 rfl ?_
      obtain ⟨j303, ej303, hf⟩ := lt_j hf
      have hj303 : ∀ (x17 : Int32), j303 x17 = some y → KV ad cy x (some (.int y.1), y.2) 303 [(2, .int p2), (3, .ref (ad v2)), (9, .int x13)] [.int x17, .int (M16.1 a0 3), .ref (ad a0)] M16 := by
        intro x17 hf
        rw [ej303] at hf
        refine v_iadd G dX4_doStep_303 ?_
        refine pf_4_3 G h0 t_180 (Or.inl rfl) dX4_doStep_304 ?_
        refine v_nmM (fun M18 eM18 => ?_)
        replace hf := lt_e hf eM18
        refine v_iload G dX4_doStep_307 2 rfl ?_
        refine v_if_eq 318 G dX4_doStep_309 (by decide) (fun h20 => ?_) (fun h20 => ?_)
        · replace hf := (if_pos h20).symm.trans hf
          refine v_aload_n G dX4_doStep_318 1 rfl ?_
          refine gf_8_4 G hv2 t_292 (Or.inl rfl) dX4_doStep_319 ?_
          refine v_iload_n G dX4_doStep_322 0 rfl ?_
          obtain ⟨g19, hf⟩ := gd_e hf
          refine al_27 G (kf_8_5 hv2) g19 dX4_doStep_323 ?_
          refine v_iconst (1 : Int32) G dX4_doStep_324 (by decide) ?_
          refine v_iadd G dX4_doStep_325 ?_
          obtain rfl := Option.some.inj hf
          exact v_iret G dX4_doStep_326
        · replace hf := (if_neg h20).symm.trans hf
          refine v_iload_n G dX4_doStep_312 0 rfl ?_
          refine v_iconst (1 : Int32) G dX4_doStep_313 (by decide) ?_
          refine v_iadd G dX4_doStep_314 ?_
          refine v_goto 326 G dX4_doStep_315 (by decide) ?_
          obtain rfl := Option.some.inj hf
          exact v_iret G dX4_doStep_326
      obtain ⟨j302, ej302, hf⟩ := lt_j hf
      have hj302 : j302 = some y → KV ad cy x (some (.int y.1), y.2) 302 [(2, .int p2), (3, .ref (ad v2)), (9, .int x13)] [.int (M16.1 a0 3), .ref (ad a0)] M16 := by
        intro hf
        rw [ej302] at hf
        refine v_iconst (1 : Int32) G dX4_doStep_302 (by decide) ?_
        refine v_sub _ [0, 1, 2] rfl ?_
        exact hj303 (1 : Int32) hf
      refine v_if_eq 302 G dX4_doStep_289 (by decide) (fun h22 => ?_) (fun h22 => ?_)
      · replace hf := (if_pos h22).symm.trans hf
        refine v_sub _ [1, 2, 5] rfl ?_
        exact hj302 hf
      · replace hf := (if_neg h22).symm.trans hf
        refine v_iload G dX4_doStep_292 3 rfl ?_
        refine v_iconst (-1 : Int32) G dX4_doStep_294 (by decide) ?_
        refine v_icmp_eq 302 G dX4_doStep_295 (by decide) (fun h21 => ?_) (fun h21 => ?_)
        · replace hf := (if_pos h21).symm.trans hf
          refine v_sub _ [1, 2, 5] rfl ?_
          exact hj302 hf
        · replace hf := (if_neg h21).symm.trans hf
          refine v_iconst (0 : Int32) G dX4_doStep_298 (by decide) ?_
          refine v_goto 303 G dX4_doStep_299 (by decide) ?_
          refine v_sub _ [1, 2, 5] rfl ?_
          exact hj303 (0 : Int32) hf
    refine v_icmp_ne 273 G dX4_doStep_266 (by decide) (fun h24 => ?_) (fun h24 => ?_)
    · replace hf := (if_neg h24).symm.trans hf
      refine v_iload G dX4_doStep_273 3 rfl ?_
      obtain ⟨v23, hcv23⟩ : ∃ q, f_J6_bitCount_0f7a4 x11 M14 = q := ⟨_, rfl⟩
      replace hf := lt_e hf hcv23.symm
      refine v_callS [.int x11] G (c_J6_bitCount_0f7a4 hcv23) t_1449 t_1136 t_20 t_1137 nm_J6_bitCount_0f7a4 (by decide) (by decide) rfl rfl (Nat.le_of_ble_eq_true rfl) dX4_doStep_275 (kv_ri ?_)
      refine v_sub _ [0, 1, 2, 3, 4, 5] rfl ?_
      exact hj278 v23 hf
    · replace hf := (if_pos h24).symm.trans hf
      refine v_iconst (0 : Int32) G dX4_doStep_269 (by decide) ?_
      refine v_goto 278 G dX4_doStep_270 (by decide) ?_
      refine v_sub _ [0, 1, 2, 3, 4, 5] rfl ?_
      exact hj278 (0 : Int32) hf
  by_cases h26 : v10 = (0 : Int32)
  · replace hf := (if_pos h26).symm.trans hf
    refine v_tabIn (off := 56) 100 G dX4_doStep_44 (by rw [h26]; decide) (by rw [h26]; decide) (by rw [h26]; rfl) (by decide) ?_
    refine v_aload_n G dX4_doStep_100 8 rfl ?_
    refine v_iload G dX4_doStep_101 5 rfl ?_
    obtain ⟨v25, hcv25, hf⟩ := bd_e hf
    refine v_callV [.int v4] G (c_X2_passMinutes n h1 hcv25) h1 (by decide) rfl rfl rfl t_1426 t_1048 t_1049 t_13 t_1050 nm_X2_passMinutes (by decide) (by decide) rfl rfl (Nat.le_of_ble_eq_true rfl) dX4_doStep_103 (kv_ri ?_)
    refine v_istore [(7, .int v25.1), (9, .int (1 : Int32)), (8, .int (1 : Int32)), (6, .int v8), (5, .int v6), (4, .int v4), (3, .ref (ad v2)), (0, .ref (ad a0)), (1, .ref (ad a1)), (2, .int p2)] G dX4_doStep_106 (by decide) rfl ?_
    refine v_goto 258 G dX4_doStep_108 (by decide) ?_
    refine v_sub _ [7, 9, 6, 0, 2, 1] rfl ?_
    exact hj258 v25.1 (1 : Int32) (1 : Int32) v25.2 hf
  replace hf := (if_neg h26).symm.trans hf
  by_cases h30 : v10 = (1 : Int32)
  · replace hf := (if_pos h30).symm.trans hf
    refine v_tabIn (off := 67) 111 G dX4_doStep_44 (by rw [h30]; decide) (by rw [h30]; decide) (by rw [h30]; rfl) (by decide) ?_
    refine v_aload_n G dX4_doStep_111 8 rfl ?_
    refine v_iload G dX4_doStep_112 5 rfl ?_
    refine v_iconst (0 : Int32) G dX4_doStep_114 (by decide) ?_
    refine v_iload G dX4_doStep_115 4 rfl ?_
    obtain ⟨v27, hcv27, hf⟩ := bd_e hf
    refine v_callV [.int v4, .int (0 : Int32), .int v6] G (c_X2_setOut n h1 hcv27) h1 (by decide) rfl rfl rfl t_1427 t_1106 t_1107 t_13 t_1108 nm_X2_setOut (by decide) (by decide) rfl rfl (Nat.le_of_ble_eq_true rfl) dX4_doStep_117 (kv_ri ?_)
    refine v_iconst (-1 : Int32) G dX4_doStep_120 (by decide) ?_
    obtain ⟨j129, ej129, hf⟩ := lt_j hf
    have hj129 : ∀ (x28 : Int32), j129 x28 = some y → KV ad cy x (some (.int y.1), y.2) 129 [(0, .ref (ad a0)), (2, .int p2), (3, .ref (ad v2)), (7, .int (0 : Int32)), (9, .int (1 : Int32))] [.int x28] v27.2 := by
      intro x28 hf
      rw [ej129] at hf
      refine v_istore [(8, .int x28), (0, .ref (ad a0)), (2, .int p2), (3, .ref (ad v2)), (7, .int (0 : Int32)), (9, .int (1 : Int32))] G dX4_doStep_129 (by decide) rfl ?_
      refine v_goto 258 G dX4_doStep_131 (by decide) ?_
      refine v_sub _ [1, 2, 3, 4, 0, 5] rfl ?_
      exact hj258 (0 : Int32) x28 (1 : Int32) v27.2 hf
    refine v_icmp_eq 128 G dX4_doStep_121 (by decide) (fun h29 => ?_) (fun h29 => ?_)
    · replace hf := (if_pos h29).symm.trans hf
      refine v_iconst (0 : Int32) G dX4_doStep_128 (by decide) ?_
      refine v_sub _ [7, 9, 6, 2, 0] rfl ?_
      exact hj129 (0 : Int32) hf
    · replace hf := (if_neg h29).symm.trans hf
      refine v_iconst (1 : Int32) G dX4_doStep_124 (by decide) ?_
      refine v_goto 129 G dX4_doStep_125 (by decide) ?_
      refine v_sub _ [7, 9, 6, 2, 0] rfl ?_
      exact hj129 (1 : Int32) hf
  replace hf := (if_neg h30).symm.trans hf
  by_cases h34 : v10 = (2 : Int32)
  · replace hf := (if_pos h34).symm.trans hf
    refine v_tabIn (off := 90) 134 G dX4_doStep_44 (by rw [h34]; decide) (by rw [h34]; decide) (by rw [h34]; rfl) (by decide) ?_
    refine v_aload_n G dX4_doStep_134 8 rfl ?_
    refine v_iload G dX4_doStep_135 5 rfl ?_
    refine v_iconst (1 : Int32) G dX4_doStep_137 (by decide) ?_
    refine v_iload G dX4_doStep_138 4 rfl ?_
    refine v_ishl G dX4_doStep_140 ?_
    refine v_iload G dX4_doStep_141 3 rfl ?_
    obtain ⟨v31, hcv31, hf⟩ := bd_e hf
    refine v_callV [.int v4, .int ((1 : Int32) <<< (v6 &&& 31)), .int v8] G (c_X2_setOut n h1 hcv31) h1 (by decide) rfl rfl rfl t_1427 t_1106 t_1107 t_13 t_1108 nm_X2_setOut (by decide) (by decide) rfl rfl (Nat.le_of_ble_eq_true rfl) dX4_doStep_143 (kv_ri ?_)
    refine v_iconst (-1 : Int32) G dX4_doStep_146 (by decide) ?_
    obtain ⟨j155, ej155, hf⟩ := lt_j hf
    have hj155 : ∀ (x32 : Int32), j155 x32 = some y → KV ad cy x (some (.int y.1), y.2) 155 [(0, .ref (ad a0)), (2, .int p2), (3, .ref (ad v2)), (7, .int (0 : Int32)), (9, .int (1 : Int32))] [.int x32] v31.2 := by
      intro x32 hf
      rw [ej155] at hf
      refine v_istore [(8, .int x32), (0, .ref (ad a0)), (2, .int p2), (3, .ref (ad v2)), (7, .int (0 : Int32)), (9, .int (1 : Int32))] G dX4_doStep_155 (by decide) rfl ?_
      refine v_goto 258 G dX4_doStep_157 (by decide) ?_
      refine v_sub _ [1, 2, 3, 4, 0, 5] rfl ?_
      exact hj258 (0 : Int32) x32 (1 : Int32) v31.2 hf
    refine v_icmp_eq 154 G dX4_doStep_147 (by decide) (fun h33 => ?_) (fun h33 => ?_)
    · replace hf := (if_pos h33).symm.trans hf
      refine v_iconst (0 : Int32) G dX4_doStep_154 (by decide) ?_
      refine v_sub _ [7, 9, 6, 2, 0] rfl ?_
      exact hj155 (0 : Int32) hf
    · replace hf := (if_neg h33).symm.trans hf
      refine v_iconst (1 : Int32) G dX4_doStep_150 (by decide) ?_
      refine v_goto 155 G dX4_doStep_151 (by decide) ?_
      refine v_sub _ [7, 9, 6, 2, 0] rfl ?_
      exact hj155 (1 : Int32) hf
  replace hf := (if_neg h34).symm.trans hf
  by_cases h36 : v10 = (3 : Int32)
  · replace hf := (if_pos h36).symm.trans hf
    refine v_tabIn (off := 116) 160 G dX4_doStep_44 (by rw [h36]; decide) (by rw [h36]; decide) (by rw [h36]; rfl) (by decide) ?_
    refine v_aload_n G dX4_doStep_160 7 rfl ?_
    refine v_aload_n G dX4_doStep_161 8 rfl ?_
    obtain ⟨v35, hcv35, hf⟩ := bd_e hf
    refine v_callV [.ref (ad a1)] G (c_X4_sendAny n h0 h1 hcv35) h0 (by decide) rfl rfl rfl t_1428 t_1430 t_p52 t_9 t_1431 nm_X4_sendAny (by decide) (by decide) rfl rfl (Nat.le_of_ble_eq_true rfl) dX4_doStep_162 (kv_ri ?_)
    refine v_istore [(8, .int v35.1), (9, .int (1 : Int32)), (7, .int (0 : Int32)), (6, .int v8), (5, .int v6), (4, .int v4), (3, .ref (ad v2)), (0, .ref (ad a0)), (1, .ref (ad a1)), (2, .int p2)] G dX4_doStep_165 (by decide) rfl ?_
    refine v_goto 258 G dX4_doStep_167 (by decide) ?_
    refine v_sub _ [7, 9, 6, 2, 0, 1] rfl ?_
    exact hj258 (0 : Int32) v35.1 (1 : Int32) v35.2 hf
  replace hf := (if_neg h36).symm.trans hf
  by_cases h38 : v10 = (4 : Int32)
  · replace hf := (if_pos h38).symm.trans hf
    refine v_tabIn (off := 126) 170 G dX4_doStep_44 (by rw [h38]; decide) (by rw [h38]; decide) (by rw [h38]; rfl) (by decide) ?_
    refine v_aload_n G dX4_doStep_170 8 rfl ?_
    refine v_iconst (1 : Int32) G dX4_doStep_171 (by decide) ?_
    obtain ⟨v37, hcv37, hf⟩ := bd_e hf
    refine v_callS [.ref (ad a1), .int (1 : Int32)] G (c_X4_makeCloudy n h1 hcv37) t_1437 t_1438 t_9 t_1439 nm_X4_makeCloudy (by decide) (by decide) rfl rfl (Nat.le_of_ble_eq_true rfl) dX4_doStep_172 (kv_ri ?_)
    refine v_istore [(8, .int v37.1), (9, .int (1 : Int32)), (7, .int (0 : Int32)), (6, .int v8), (5, .int v6), (4, .int v4), (3, .ref (ad v2)), (0, .ref (ad a0)), (1, .ref (ad a1)), (2, .int p2)] G dX4_doStep_175 (by decide) rfl ?_
    refine v_goto 258 G dX4_doStep_177 (by decide) ?_
    refine v_sub _ [7, 9, 6, 2, 0, 1] rfl ?_
    exact hj258 (0 : Int32) v37.1 (1 : Int32) v37.2 hf
  replace hf := (if_neg h38).symm.trans hf
  by_cases h40 : v10 = (5 : Int32)
  · replace hf := (if_pos h40).symm.trans hf
    refine v_tabIn (off := 136) 180 G dX4_doStep_44 (by rw [h40]; decide) (by rw [h40]; decide) (by rw [h40]; rfl) (by decide) ?_
    refine v_aload_n G dX4_doStep_180 8 rfl ?_
    refine v_iconst (0 : Int32) G dX4_doStep_181 (by decide) ?_
    obtain ⟨v39, hcv39, hf⟩ := bd_e hf
    refine v_callS [.ref (ad a1), .int (0 : Int32)] G (c_X4_makeCloudy n h1 hcv39) t_1437 t_1438 t_9 t_1439 nm_X4_makeCloudy (by decide) (by decide) rfl rfl (Nat.le_of_ble_eq_true rfl) dX4_doStep_182 (kv_ri ?_)
    refine v_istore [(8, .int v39.1), (9, .int (1 : Int32)), (7, .int (0 : Int32)), (6, .int v8), (5, .int v6), (4, .int v4), (3, .ref (ad v2)), (0, .ref (ad a0)), (1, .ref (ad a1)), (2, .int p2)] G dX4_doStep_185 (by decide) rfl ?_
    refine v_goto 258 G dX4_doStep_187 (by decide) ?_
    refine v_sub _ [7, 9, 6, 2, 0, 1] rfl ?_
    exact hj258 (0 : Int32) v39.1 (1 : Int32) v39.2 hf
  replace hf := (if_neg h40).symm.trans hf
  by_cases h44 : v10 = (6 : Int32)
  · replace hf := (if_pos h44).symm.trans hf
    refine v_tabIn (off := 146) 190 G dX4_doStep_44 (by rw [h44]; decide) (by rw [h44]; decide) (by rw [h44]; rfl) (by decide) ?_
    refine v_aload_n G dX4_doStep_190 8 rfl ?_
    refine v_iload G dX4_doStep_191 5 rfl ?_
    obtain ⟨v41, hcv41, hf⟩ := bd_e hf
    refine v_callV [.int v4] G (c_X2_placeOf n h1 hcv41) h1 (by decide) rfl rfl rfl t_1440 t_1110 t_1111 t_13 t_1112 nm_X2_placeOf (by decide) (by decide) rfl rfl (Nat.le_of_ble_eq_true rfl) dX4_doStep_193 (kv_ri ?_)
    refine v_iload G dX4_doStep_196 4 rfl ?_
    obtain ⟨j206, ej206, hf⟩ := lt_j hf
    have hj206 : ∀ (x42 : Int32), j206 x42 = some y → KV ad cy x (some (.int y.1), y.2) 206 [(0, .ref (ad a0)), (2, .int p2), (3, .ref (ad v2)), (7, .int (0 : Int32)), (8, .int (1 : Int32))] [.int x42] M := by
      intro x42 hf
      rw [ej206] at hf
      refine v_istore [(9, .int x42), (0, .ref (ad a0)), (2, .int p2), (3, .ref (ad v2)), (7, .int (0 : Int32)), (8, .int (1 : Int32))] G dX4_doStep_206 (by decide) rfl ?_
      refine v_goto 258 G dX4_doStep_208 (by decide) ?_
      refine v_sub _ [1, 2, 3, 4, 5, 0] rfl ?_
      exact hj258 (0 : Int32) (1 : Int32) x42 M hf
    refine v_icmp_ne 205 G dX4_doStep_198 (by decide) (fun h43 => ?_) (fun h43 => ?_)
    · replace hf := (if_neg h43).symm.trans hf
      refine v_iconst (0 : Int32) G dX4_doStep_205 (by decide) ?_
      refine v_sub _ [7, 9, 6, 2, 1] rfl ?_
      exact hj206 (0 : Int32) hf
    · replace hf := (if_pos h43).symm.trans hf
      refine v_iconst (1 : Int32) G dX4_doStep_201 (by decide) ?_
      refine v_goto 206 G dX4_doStep_202 (by decide) ?_
      refine v_sub _ [7, 9, 6, 2, 1] rfl ?_
      exact hj206 (1 : Int32) hf
  replace hf := (if_neg h44).symm.trans hf
  by_cases h46 : v10 = (7 : Int32)
  · replace hf := (if_pos h46).symm.trans hf
    refine v_tabIn (off := 167) 211 G dX4_doStep_44 (by rw [h46]; decide) (by rw [h46]; decide) (by rw [h46]; rfl) (by decide) ?_
    refine v_aload_n G dX4_doStep_211 8 rfl ?_
    refine v_aload_n G dX4_doStep_212 8 rfl ?_
    refine gf_2_11 G h1 t_424 (Or.inl rfl) dX4_doStep_213 ?_
    obtain ⟨v45, hcv45, hf⟩ := bd_e hf
    refine v_callV [.int (M.1 a1 11)] G (c_X2_isGlaring n h1 hcv45) h1 (by decide) rfl rfl rfl t_1441 t_954 t_955 t_13 t_956 nm_X2_isGlaring (by decide) (by decide) rfl rfl (Nat.le_of_ble_eq_true rfl) dX4_doStep_216 (kv_ri ?_)
    refine v_istore [(9, .int v45), (8, .int (1 : Int32)), (7, .int (0 : Int32)), (6, .int v8), (5, .int v6), (4, .int v4), (3, .ref (ad v2)), (0, .ref (ad a0)), (1, .ref (ad a1)), (2, .int p2)] G dX4_doStep_219 (by decide) rfl ?_
    refine v_goto 258 G dX4_doStep_221 (by decide) ?_
    refine v_sub _ [7, 9, 6, 2, 1, 0] rfl ?_
    exact hj258 (0 : Int32) (1 : Int32) v45 M hf
  replace hf := (if_neg h46).symm.trans hf
  by_cases h49 : v10 = (8 : Int32)
  · replace hf := (if_pos h49).symm.trans hf
    refine v_tabIn (off := 180) 224 G dX4_doStep_44 (by rw [h49]; decide) (by rw [h49]; decide) (by rw [h49]; rfl) (by decide) ?_
    refine v_aload_n G dX4_doStep_224 8 rfl ?_
    refine v_iload G dX4_doStep_225 5 rfl ?_
    obtain ⟨v47, hcv47, hf⟩ := bd_e hf
    refine v_callV [.int v4] G (c_X2_minutesLost n h1 hcv47) h1 (by decide) rfl rfl rfl t_1442 t_1443 t_1444 t_13 t_1445 nm_X2_minutesLost (by decide) (by decide) rfl rfl (Nat.le_of_ble_eq_true rfl) dX4_doStep_227 (kv_ri ?_)
    refine v_iload G dX4_doStep_230 4 rfl ?_
    refine v_iload G dX4_doStep_232 3 rfl ?_
    obtain ⟨v48, hcv48⟩ : ∃ q, f_X4_compares v47 v6 v8 M = q := ⟨_, rfl⟩
    replace hf := lt_e hf hcv48.symm
    refine v_callS [.int v47, .int v6, .int v8] G (c_X4_compares hcv48) t_1446 t_1447 t_9 t_1448 nm_X4_compares (by decide) (by decide) rfl rfl (Nat.le_of_ble_eq_true rfl) dX4_doStep_234 (kv_ri ?_)
    refine v_istore [(9, .int v48), (8, .int (1 : Int32)), (7, .int (0 : Int32)), (6, .int v8), (5, .int v6), (4, .int v4), (3, .ref (ad v2)), (0, .ref (ad a0)), (1, .ref (ad a1)), (2, .int p2)] G dX4_doStep_237 (by decide) rfl ?_
    refine v_goto 258 G dX4_doStep_239 (by decide) ?_
    refine v_sub _ [7, 9, 6, 2, 1, 0] rfl ?_
    exact hj258 (0 : Int32) (1 : Int32) v48 M hf
  replace hf := (if_neg h49).symm.trans hf
  by_cases h52 : v10 = (9 : Int32)
  · replace hf := (if_pos h52).symm.trans hf
    refine v_tabIn (off := 198) 242 G dX4_doStep_44 (by rw [h52]; decide) (by rw [h52]; decide) (by rw [h52]; rfl) (by decide) ?_
    refine v_aload_n G dX4_doStep_242 7 rfl ?_
    refine gf_4_0 G h0 t_176 (Or.inl rfl) dX4_doStep_243 ?_
    refine v_iload_n G dX4_doStep_246 9 rfl ?_
    refine v_iload G dX4_doStep_247 5 rfl ?_
    obtain ⟨g50, hf⟩ := gd_e hf
    refine as_27 G (kf_4_1 h0) g50 dX4_doStep_249 ?_
    refine v_nmM (fun M51 eM51 => ?_)
    replace hf := lt_e hf eM51
    refine v_goto 258 G dX4_doStep_250 (by decide) ?_
    refine v_sub _ [7, 9, 6, 2, 1, 0] rfl ?_
    exact hj258 (0 : Int32) (1 : Int32) (1 : Int32) M51 hf
  replace hf := (if_neg h52).symm.trans hf
  refine v_tabOut 253 G dX4_doStep_44 (sw_out 0 9 (by decide) (sw_s h26 (sw_s h30 (sw_s h34 (sw_s h36 (sw_s h38 (sw_s h40 (sw_s h44 (sw_s h46 (sw_s h49 (sw_s h52 sw_e))))))))))) (by decide) ?_
  refine v_aload_n G dX4_doStep_253 6 rfl ?_
  refine gf_8_5 G hv2 t_294 (Or.inl rfl) dX4_doStep_254 ?_
  obtain rfl := Option.some.inj hf
  exact v_iret G dX4_doStep_257
abbrev cX4_run : ByteArray := prog_6_method_2_code
def yX4_run : MethodName := ⟨RX4, "run", "(LNoonGuides$Land;I)V"⟩
theorem dX4_run_0 : dc cX4_run 0 (.aload_n 1) 1 1 := ⟨by decide +kernel, rfl⟩
theorem dX4_run_1 : dc cX4_run 1 (.getfield 17) 3 4 := ⟨by decide +kernel, rfl⟩
theorem dX4_run_4 : dc cX4_run 4 (.astore_n 3) 1 5 := ⟨by decide +kernel, rfl⟩
theorem dX4_run_5 : dc cX4_run 5 (.aload_n 0) 1 6 := ⟨by decide +kernel, rfl⟩
theorem dX4_run_6 : dc cX4_run 6 (.iload_n 2) 1 7 := ⟨by decide +kernel, rfl⟩
theorem dX4_run_7 : dc cX4_run 7 (.putfield 23) 3 10 := ⟨by decide +kernel, rfl⟩
theorem dX4_run_10 : dc cX4_run 10 (.aload_n 0) 1 11 := ⟨by decide +kernel, rfl⟩
theorem dX4_run_11 : dc cX4_run 11 (.iconst 0) 1 12 := ⟨by decide +kernel, rfl⟩
theorem dX4_run_12 : dc cX4_run 12 (.putfield 27) 3 15 := ⟨by decide +kernel, rfl⟩
theorem dX4_run_15 : dc cX4_run 15 (.aload_n 0) 1 16 := ⟨by decide +kernel, rfl⟩
theorem dX4_run_16 : dc cX4_run 16 (.iconst 0) 1 17 := ⟨by decide +kernel, rfl⟩
theorem dX4_run_17 : dc cX4_run 17 (.putfield 30) 3 20 := ⟨by decide +kernel, rfl⟩
theorem dX4_run_20 : dc cX4_run 20 (.aload_n 0) 1 21 := ⟨by decide +kernel, rfl⟩
theorem dX4_run_21 : dc cX4_run 21 (.iconst 0) 1 22 := ⟨by decide +kernel, rfl⟩
theorem dX4_run_22 : dc cX4_run 22 (.putfield 33) 3 25 := ⟨by decide +kernel, rfl⟩
theorem dX4_run_25 : dc cX4_run 25 (.aload_n 0) 1 26 := ⟨by decide +kernel, rfl⟩
theorem dX4_run_26 : dc cX4_run 26 (.iconst 0) 1 27 := ⟨by decide +kernel, rfl⟩
theorem dX4_run_27 : dc cX4_run 27 (.putfield 36) 3 30 := ⟨by decide +kernel, rfl⟩
theorem dX4_run_30 : dc cX4_run 30 (.aload_n 1) 1 31 := ⟨by decide +kernel, rfl⟩
theorem dX4_run_31 : dc cX4_run 31 (.getfield 40) 3 34 := ⟨by decide +kernel, rfl⟩
theorem dX4_run_34 : dc cX4_run 34 (.istore 4) 2 36 := ⟨by decide +kernel, rfl⟩
theorem dX4_run_36 : dc cX4_run 36 (.aload_n 1) 1 37 := ⟨by decide +kernel, rfl⟩
theorem dX4_run_37 : dc cX4_run 37 (.invokevirtual 43) 3 40 := ⟨by decide +kernel, rfl⟩
theorem dX4_run_40 : dc cX4_run 40 (.istore 5) 2 42 := ⟨by decide +kernel, rfl⟩
theorem dX4_run_42 : dc cX4_run 42 (.iconst 0) 1 43 := ⟨by decide +kernel, rfl⟩
theorem dX4_run_43 : dc cX4_run 43 (.istore 6) 2 45 := ⟨by decide +kernel, rfl⟩
theorem dX4_run_45 : dc cX4_run 45 (.iconst 0) 1 46 := ⟨by decide +kernel, rfl⟩
theorem dX4_run_46 : dc cX4_run 46 (.istore 7) 2 48 := ⟨by decide +kernel, rfl⟩
theorem dX4_run_48 : dc cX4_run 48 (.iload 7) 2 50 := ⟨by decide +kernel, rfl⟩
theorem dX4_run_50 : dc cX4_run 50 (.ldc 47) 2 52 := ⟨by decide +kernel, rfl⟩
theorem dX4_run_52 : dc cX4_run 52 (.if_icmp .ge 90) 3 55 := ⟨by decide +kernel, rfl⟩
theorem dX4_run_55 : dc cX4_run 55 (.iload 6) 2 57 := ⟨by decide +kernel, rfl⟩
theorem dX4_run_57 : dc cX4_run 57 (.ifCond .lt 85) 3 60 := ⟨by decide +kernel, rfl⟩
theorem dX4_run_60 : dc cX4_run 60 (.iload 6) 2 62 := ⟨by decide +kernel, rfl⟩
theorem dX4_run_62 : dc cX4_run 62 (.aload_n 3) 1 63 := ⟨by decide +kernel, rfl⟩
theorem dX4_run_63 : dc cX4_run 63 (.getfield 48) 3 66 := ⟨by decide +kernel, rfl⟩
theorem dX4_run_66 : dc cX4_run 66 (.if_icmp .ge 76) 3 69 := ⟨by decide +kernel, rfl⟩
theorem dX4_run_69 : dc cX4_run 69 (.aload_n 3) 1 70 := ⟨by decide +kernel, rfl⟩
theorem dX4_run_70 : dc cX4_run 70 (.getfield 51) 3 73 := ⟨by decide +kernel, rfl⟩
theorem dX4_run_73 : dc cX4_run 73 (.iload 6) 2 75 := ⟨by decide +kernel, rfl⟩
theorem dX4_run_75 : dc cX4_run 75 (.iaload) 1 76 := ⟨by decide +kernel, rfl⟩
theorem dX4_run_76 : dc cX4_run 76 (.bipush 10) 2 78 := ⟨by decide +kernel, rfl⟩
theorem dX4_run_78 : dc cX4_run 78 (.if_icmp .ne 15) 3 81 := ⟨by decide +kernel, rfl⟩
theorem dX4_run_81 : dc cX4_run 81 (.aload_n 0) 1 82 := ⟨by decide +kernel, rfl⟩
theorem dX4_run_82 : dc cX4_run 82 (.aload_n 3) 1 83 := ⟨by decide +kernel, rfl⟩
theorem dX4_run_83 : dc cX4_run 83 (.iload 6) 2 85 := ⟨by decide +kernel, rfl⟩
theorem dX4_run_85 : dc cX4_run 85 (.invokevirtual 54) 3 88 := ⟨by decide +kernel, rfl⟩
theorem dX4_run_88 : dc cX4_run 88 (.istore 6) 2 90 := ⟨by decide +kernel, rfl⟩
theorem dX4_run_90 : dc cX4_run 90 (.goto 46) 3 93 := ⟨by decide +kernel, rfl⟩
theorem dX4_run_93 : dc cX4_run 93 (.aload_n 0) 1 94 := ⟨by decide +kernel, rfl⟩
theorem dX4_run_94 : dc cX4_run 94 (.getfield 27) 3 97 := ⟨by decide +kernel, rfl⟩
theorem dX4_run_97 : dc cX4_run 97 (.sipush 300) 3 100 := ⟨by decide +kernel, rfl⟩
theorem dX4_run_100 : dc cX4_run 100 (.if_icmp .lt 17) 3 103 := ⟨by decide +kernel, rfl⟩
theorem dX4_run_103 : dc cX4_run 103 (.aload_n 0) 1 104 := ⟨by decide +kernel, rfl⟩
theorem dX4_run_104 : dc cX4_run 104 (.iconst 1) 1 105 := ⟨by decide +kernel, rfl⟩
theorem dX4_run_105 : dc cX4_run 105 (.putfield 36) 3 108 := ⟨by decide +kernel, rfl⟩
theorem dX4_run_108 : dc cX4_run 108 (.aload_n 3) 1 109 := ⟨by decide +kernel, rfl⟩
theorem dX4_run_109 : dc cX4_run 109 (.getfield 48) 3 112 := ⟨by decide +kernel, rfl⟩
theorem dX4_run_112 : dc cX4_run 112 (.istore 6) 2 114 := ⟨by decide +kernel, rfl⟩
theorem dX4_run_114 : dc cX4_run 114 (.goto 22) 3 117 := ⟨by decide +kernel, rfl⟩
theorem dX4_run_117 : dc cX4_run 117 (.aload_n 0) 1 118 := ⟨by decide +kernel, rfl⟩
theorem dX4_run_118 : dc cX4_run 118 (.dup) 1 119 := ⟨by decide +kernel, rfl⟩
theorem dX4_run_119 : dc cX4_run 119 (.getfield 27) 3 122 := ⟨by decide +kernel, rfl⟩
theorem dX4_run_122 : dc cX4_run 122 (.iconst 1) 1 123 := ⟨by decide +kernel, rfl⟩
theorem dX4_run_123 : dc cX4_run 123 (.iadd) 1 124 := ⟨by decide +kernel, rfl⟩
theorem dX4_run_124 : dc cX4_run 124 (.putfield 27) 3 127 := ⟨by decide +kernel, rfl⟩
theorem dX4_run_127 : dc cX4_run 127 (.aload_n 0) 1 128 := ⟨by decide +kernel, rfl⟩
theorem dX4_run_128 : dc cX4_run 128 (.aload_n 1) 1 129 := ⟨by decide +kernel, rfl⟩
theorem dX4_run_129 : dc cX4_run 129 (.iload 6) 2 131 := ⟨by decide +kernel, rfl⟩
theorem dX4_run_131 : dc cX4_run 131 (.invokevirtual 58) 3 134 := ⟨by decide +kernel, rfl⟩
theorem dX4_run_134 : dc cX4_run 134 (.istore 6) 2 136 := ⟨by decide +kernel, rfl⟩
theorem dX4_run_136 : dc cX4_run 136 (.iinc 7 1) 3 139 := ⟨by decide +kernel, rfl⟩
theorem dX4_run_139 : dc cX4_run 139 (.goto (-91)) 3 142 := ⟨by decide +kernel, rfl⟩
theorem dX4_run_142 : dc cX4_run 142 (.aload_n 0) 1 143 := ⟨by decide +kernel, rfl⟩
theorem dX4_run_143 : dc cX4_run 143 (.aload_n 1) 1 144 := ⟨by decide +kernel, rfl⟩
theorem dX4_run_144 : dc cX4_run 144 (.getfield 40) 3 147 := ⟨by decide +kernel, rfl⟩
theorem dX4_run_147 : dc cX4_run 147 (.iload 4) 2 149 := ⟨by decide +kernel, rfl⟩
theorem dX4_run_149 : dc cX4_run 149 (.isub) 1 150 := ⟨by decide +kernel, rfl⟩
theorem dX4_run_150 : dc cX4_run 150 (.putfield 62) 3 153 := ⟨by decide +kernel, rfl⟩
theorem dX4_run_153 : dc cX4_run 153 (.aload_n 0) 1 154 := ⟨by decide +kernel, rfl⟩
theorem dX4_run_154 : dc cX4_run 154 (.aload_n 1) 1 155 := ⟨by decide +kernel, rfl⟩
theorem dX4_run_155 : dc cX4_run 155 (.invokevirtual 43) 3 158 := ⟨by decide +kernel, rfl⟩
theorem dX4_run_158 : dc cX4_run 158 (.iload 5) 2 160 := ⟨by decide +kernel, rfl⟩
theorem dX4_run_160 : dc cX4_run 160 (.isub) 1 161 := ⟨by decide +kernel, rfl⟩
theorem dX4_run_161 : dc cX4_run 161 (.putfield 65) 3 164 := ⟨by decide +kernel, rfl⟩
theorem dX4_run_164 : dc cX4_run 164 (.return_) 1 165 := ⟨by decide +kernel, rfl⟩
theorem nm_X4_run : (yX4_run).cls ≠ "java/lang/invoke/MethodHandle" ∧ (yX4_run).cls ≠ "java/lang/invoke/VarHandle" ∧ (parseMethodDescriptor (yX4_run).desc).map (fun d => d.parameters.length) = some 2 := ⟨by decide +kernel, by decide +kernel, by decide +kernel⟩
set_option maxRecDepth 100000 in
set_option maxHeartbeats 4000000 in
theorem s_X4_run_48 {ad : Nat → Nat} {cy : Nat → ClassId} {x : KX} (G : KG ad cy x cX4_run "NoonGuides$Life" 8 (some none) 7) {a0 : Nat} {a1 : Nat} {a3 : Nat} {c4 : Int32} {c5 : Int32} (h0 : kty a0 = 5) (h1 : kty a1 = 3) (h3 : kty a3 = 9) {k142 : KM → Option KM} {y : KM} (hk142 : ∀ (M : KM), k142 M = some y → KV ad cy x (none, y) 142 [(0, .ref (ad a0)), (1, .ref (ad a1)), (4, .int c4), (5, .int c5)] [] M) : ∀ (n : Nat) (w6 : Int32) (w7 : Int32) (M : KM), lp_X4_run_48 n a0 a1 a3 c4 c5 w6 w7 M k142 = some y → KV ad cy x (none, y) 48 [(0, .ref (ad a0)), (1, .ref (ad a1)), (3, .ref (ad a3)), (4, .int c4), (5, .int c5), (6, .int w6), (7, .int w7)] [] M := by
  intro n
  induction n with
  | zero =>
    intro w6 w7 M hf
    cases hf
  | succ n ih =>
    intro w6 w7 M hf
    rw [lp_X4_run_48] at hf
    refine v_iload G dX4_run_48 6 rfl ?_
    refine v_ldc G dX4_run_50 t_1417 ?_
    refine v_icmp_ge 142 G dX4_run_52 (by decide) (fun h23 => ?_) (fun h23 => ?_)
    · replace hf := (if_pos h23).symm.trans hf
      refine v_sub _ [0, 1, 3, 4] rfl ?_
      exact hk142 M hf
    · replace hf := (if_neg h23).symm.trans hf
      refine v_iload G dX4_run_55 5 rfl ?_
      refine v_if_lt 142 G dX4_run_57 (by decide) (fun h22 => ?_) (fun h22 => ?_)
      · replace hf := (if_pos h22).symm.trans hf
        refine v_sub _ [0, 1, 3, 4] rfl ?_
        exact hk142 M hf
      · replace hf := (if_neg h22).symm.trans hf
        refine v_iload G dX4_run_60 5 rfl ?_
        refine v_aload_n G dX4_run_62 2 rfl ?_
        refine gf_8_5 G h3 t_294 (Or.inl rfl) dX4_run_63 ?_
        refine v_icmp_ge 142 G dX4_run_66 (by decide) (fun h21 => ?_) (fun h21 => ?_)
        · replace hf := (if_pos h21).symm.trans hf
          refine v_sub _ [0, 1, 3, 4] rfl ?_
          exact hk142 M hf
        · replace hf := (if_neg h21).symm.trans hf
          refine v_aload_n G dX4_run_69 2 rfl ?_
          refine gf_8_0 G h3 t_284 (Or.inl rfl) dX4_run_70 ?_
          refine v_iload G dX4_run_73 5 rfl ?_
          obtain ⟨g10, hf⟩ := gd_e hf
          refine al_27 G (kf_8_1 h3) g10 dX4_run_75 ?_
          refine v_bipush (10 : Int32) G dX4_run_76 (by decide) ?_
          obtain ⟨j136, ej136, hf⟩ := lt_j hf
          have hj136 : ∀ (x11 : Int32) (M12 : KM), j136 x11 M12 = some y → KV ad cy x (none, y) 136 [(0, .ref (ad a0)), (1, .ref (ad a1)), (3, .ref (ad a3)), (4, .int c4), (5, .int c5), (6, .int x11), (7, .int w7)] [] M12 := by
            intro x11 M12 hf
            rw [ej136] at hf
            obtain ⟨v13, ev13⟩ : ∃ q : Int32, q = w7 + (1 : Int32) := ⟨_, rfl⟩
            replace hf := lt_e hf ev13
            refine v_iinc v13 [(7, .int v13), (0, .ref (ad a0)), (1, .ref (ad a1)), (3, .ref (ad a3)), (4, .int c4), (5, .int c5), (6, .int x11)] G dX4_run_136 6 rfl (by rw [ev13]; rfl) (by decide) rfl ?_
            refine v_goto 48 G dX4_run_139 (by decide) ?_
            refine v_sub _ [1, 2, 3, 4, 5, 6, 0] rfl ?_
            exact ih x11 v13 M12 hf
          refine v_icmp_ne 93 G dX4_run_78 (by decide) (fun h20 => ?_) (fun h20 => ?_)
          · replace hf := (if_neg h20).symm.trans hf
            refine v_aload_n G dX4_run_93 0 rfl ?_
            refine gf_4_2 G h0 t_178 (Or.inl rfl) dX4_run_94 ?_
            refine v_sipush (300 : Int32) G dX4_run_97 (by decide) ?_
            refine v_icmp_lt 117 G dX4_run_100 (by decide) (fun h18 => ?_) (fun h18 => ?_)
            · replace hf := (if_pos h18).symm.trans hf
              refine v_aload_n G dX4_run_117 0 rfl ?_
              refine v_dup G dX4_run_118 rfl ?_
              refine gf_4_2 G h0 t_178 (Or.inl rfl) dX4_run_119 ?_
              refine v_iconst (1 : Int32) G dX4_run_122 (by decide) ?_
              refine v_iadd G dX4_run_123 ?_
              refine pf_4_2 G h0 t_178 (Or.inl rfl) dX4_run_124 ?_
              refine v_nmM (fun M14 eM14 => ?_)
              replace hf := lt_e hf eM14
              refine v_aload_n G dX4_run_127 0 rfl ?_
              refine v_aload_n G dX4_run_128 1 rfl ?_
              refine v_iload G dX4_run_129 5 rfl ?_
              obtain ⟨v15, hcv15, hf⟩ := bd_e hf
              refine v_callV [.ref (ad a1), .int w6] G (c_X4_doStep n h0 h1 hcv15) h0 (by decide) rfl rfl rfl t_1422 t_1424 t_p51 t_9 t_1425 nm_X4_doStep (by decide) (by decide) rfl rfl (Nat.le_of_ble_eq_true rfl) dX4_run_131 (kv_ri ?_)
              refine v_istore [(6, .int v15.1), (0, .ref (ad a0)), (1, .ref (ad a1)), (3, .ref (ad a3)), (4, .int c4), (5, .int c5), (7, .int w7)] G dX4_run_134 (by decide) rfl ?_
              refine v_sub _ [1, 2, 3, 4, 5, 0, 6] rfl ?_
              exact hj136 v15.1 v15.2 hf
            · replace hf := (if_neg h18).symm.trans hf
              refine v_aload_n G dX4_run_103 0 rfl ?_
              refine v_iconst (1 : Int32) G dX4_run_104 (by decide) ?_
              refine pf_4_7 G h0 (Or.inr rfl) t_188 (Or.inl rfl) dX4_run_105 ?_
              refine v_nmM (fun M16 eM16 => ?_)
              replace hf := lt_e hf eM16
              refine v_aload_n G dX4_run_108 2 rfl ?_
              refine gf_8_5 G h3 t_294 (Or.inl rfl) dX4_run_109 ?_
              refine v_nmi (fun v17 ev17 => ?_)
              replace hf := lt_e hf ev17
              refine v_istore [(6, .int v17), (0, .ref (ad a0)), (1, .ref (ad a1)), (3, .ref (ad a3)), (4, .int c4), (5, .int c5), (7, .int w7)] G dX4_run_112 (by decide) rfl ?_
              refine v_goto 136 G dX4_run_114 (by decide) ?_
              refine v_sub _ [1, 2, 3, 4, 5, 0, 6] rfl ?_
              exact hj136 v17 M16 hf
          · replace hf := (if_pos h20).symm.trans hf
            refine v_aload_n G dX4_run_81 0 rfl ?_
            refine v_aload_n G dX4_run_82 2 rfl ?_
            refine v_iload G dX4_run_83 5 rfl ?_
            obtain ⟨v19, hcv19, hf⟩ := bd_e hf
            refine v_callV [.ref (ad a3), .int w6] G (c_X4_rowBehindEnd n h0 h3 hcv19) h0 (by decide) rfl rfl rfl t_1418 t_1420 t_p50 t_9 t_1421 nm_X4_rowBehindEnd (by decide) (by decide) rfl rfl (Nat.le_of_ble_eq_true rfl) dX4_run_85 (kv_ri ?_)
            refine v_istore [(6, .int v19.1), (0, .ref (ad a0)), (1, .ref (ad a1)), (3, .ref (ad a3)), (4, .int c4), (5, .int c5), (7, .int w7)] G dX4_run_88 (by decide) rfl ?_
            refine v_goto 136 G dX4_run_90 (by decide) ?_
            refine v_sub _ [1, 2, 3, 4, 5, 0, 6] rfl ?_
            exact hj136 v19.1 v19.2 hf
set_option maxRecDepth 100000 in
set_option maxHeartbeats 4000000 in
theorem c_X4_run {l : Launch} {ad : Nat → Nat} {cy : Nat → ClassId} {D : va_G} {z : Nat} (n : Nat) {a0 : Nat} {a1 : Nat} {p2 : Int32} {M : KM} {y : KM} (h0 : kty a0 = 5) (h1 : kty a1 = 3) (hf : f_X4_run n a0 a1 p2 M = some y) : KC l ad cy D z yX4_run cX4_run 8 none 7 [.ref (ad a0), .ref (ad a1), .int p2] M (none, y) := by
  refine kv_enter (by decide +kernel) (Nat.le_of_ble_eq_true rfl) ?_
  intro x hl hD hz G
  subst hl hD hz
  unfold f_X4_run at hf
  have G : KG ad cy x cX4_run "NoonGuides$Life" 8 (some none) 7 := G
  show KV ad cy x (none, y) 0 [(0, .ref (ad a0)), (1, .ref (ad a1)), (2, .int p2)] [] M
  refine v_aload_n G dX4_run_0 1 rfl ?_
  refine gf_2_7 G h1 t_406 (Or.inl rfl) dX4_run_1 ?_
  refine v_kt (fun hKT => ?_)
  have hk1 := hKT.2.2.2.1 _ h1
  refine v_nma (fun v2 ev2 => ?_)
  have hv2 : kty v2 = 9 := by rw [ev2]; exact hk1
  replace hf := lt_e hf ev2
  refine v_astore_n [(3, .ref (ad v2)), (0, .ref (ad a0)), (1, .ref (ad a1)), (2, .int p2)] G dX4_run_4 (by decide) rfl ?_
  refine v_aload_n G dX4_run_5 1 rfl ?_
  refine v_iload_n G dX4_run_6 3 rfl ?_
  refine pf_4_1 G h0 t_177 (Or.inl rfl) dX4_run_7 ?_
  refine v_nmM (fun M3 eM3 => ?_)
  replace hf := lt_e hf eM3
  refine v_aload_n G dX4_run_10 1 rfl ?_
  refine v_iconst (0 : Int32) G dX4_run_11 (by decide) ?_
  refine pf_4_2 G h0 t_178 (Or.inl rfl) dX4_run_12 ?_
  refine v_nmM (fun M4 eM4 => ?_)
  replace hf := lt_e hf eM4
  refine v_aload_n G dX4_run_15 1 rfl ?_
  refine v_iconst (0 : Int32) G dX4_run_16 (by decide) ?_
  refine pf_4_3 G h0 t_180 (Or.inl rfl) dX4_run_17 ?_
  refine v_nmM (fun M5 eM5 => ?_)
  replace hf := lt_e hf eM5
  refine v_aload_n G dX4_run_20 1 rfl ?_
  refine v_iconst (0 : Int32) G dX4_run_21 (by decide) ?_
  refine pf_4_5 G h0 t_184 (Or.inl rfl) dX4_run_22 ?_
  refine v_nmM (fun M6 eM6 => ?_)
  replace hf := lt_e hf eM6
  refine v_aload_n G dX4_run_25 1 rfl ?_
  refine v_iconst (0 : Int32) G dX4_run_26 (by decide) ?_
  refine pf_4_7 G h0 (Or.inl rfl) t_188 (Or.inl rfl) dX4_run_27 ?_
  refine v_nmM (fun M7 eM7 => ?_)
  replace hf := lt_e hf eM7
  refine v_aload_n G dX4_run_30 2 rfl ?_
  refine gf_2_11 G h1 t_424 (Or.inl rfl) dX4_run_31 ?_
  refine v_nmi (fun v8 ev8 => ?_)
  replace hf := lt_e hf ev8
  refine v_istore [(4, .int v8), (3, .ref (ad v2)), (0, .ref (ad a0)), (1, .ref (ad a1)), (2, .int p2)] G dX4_run_34 (by decide) rfl ?_
  refine v_aload_n G dX4_run_36 3 rfl ?_
  obtain ⟨v9, hcv9, hf⟩ := bd_e hf
  refine v_callV [] G (c_X2_lostOfAll n h1 hcv9) h1 (by decide) rfl rfl rfl t_1416 t_982 t_983 t_13 t_984 nm_X2_lostOfAll (by decide) (by decide) rfl rfl (Nat.le_of_ble_eq_true rfl) dX4_run_37 (kv_ri ?_)
  refine v_istore [(5, .int v9), (4, .int v8), (3, .ref (ad v2)), (0, .ref (ad a0)), (1, .ref (ad a1)), (2, .int p2)] G dX4_run_40 (by decide) rfl ?_
  refine v_iconst (0 : Int32) G dX4_run_42 (by decide) ?_
  refine v_istore [(6, .int (0 : Int32)), (5, .int v9), (4, .int v8), (3, .ref (ad v2)), (0, .ref (ad a0)), (1, .ref (ad a1)), (2, .int p2)] G dX4_run_43 (by decide) rfl ?_
  refine v_iconst (0 : Int32) G dX4_run_45 (by decide) ?_
  refine v_istore [(7, .int (0 : Int32)), (6, .int (0 : Int32)), (5, .int v9), (4, .int v8), (3, .ref (ad v2)), (0, .ref (ad a0)), (1, .ref (ad a1)), (2, .int p2)] G dX4_run_46 (by decide) rfl ?_
  refine v_sub _ [5, 6, 4, 3, 2, 1, 0] rfl ?_
  refine s_X4_run_48 G h0 h1 hv2 (fun M24 hf => ?_) n (0 : Int32) (0 : Int32) M7 hf
  · refine v_aload_n G dX4_run_142 0 rfl ?_
    refine v_aload_n G dX4_run_143 1 rfl ?_
    refine gf_2_11 G h1 t_424 (Or.inl rfl) dX4_run_144 ?_
    refine v_iload G dX4_run_147 2 rfl ?_
    refine v_isub G dX4_run_149 ?_
    refine pf_4_4 G h0 t_182 (Or.inl rfl) dX4_run_150 ?_
    refine v_nmM (fun M25 eM25 => ?_)
    replace hf := lt_e hf eM25
    refine v_aload_n G dX4_run_153 0 rfl ?_
    refine v_aload_n G dX4_run_154 1 rfl ?_
    obtain ⟨v26, hcv26, hf⟩ := bd_e hf
    refine v_callV [] G (c_X2_lostOfAll n h1 hcv26) h1 (by decide) rfl rfl rfl t_1416 t_982 t_983 t_13 t_984 nm_X2_lostOfAll (by decide) (by decide) rfl rfl (Nat.le_of_ble_eq_true rfl) dX4_run_155 (kv_ri ?_)
    refine v_iload G dX4_run_158 3 rfl ?_
    refine v_isub G dX4_run_160 ?_
    refine pf_4_6 G h0 t_186 (Or.inl rfl) dX4_run_161 ?_
    refine v_nmM (fun M27 eM27 => ?_)
    replace hf := lt_e hf eM27
    obtain rfl := Option.some.inj hf
    exact v_vret G dX4_run_164
abbrev cX6_startAt : ByteArray := prog_8_method_4_code
def yX6_startAt : MethodName := ⟨RX6, "startAt", "(LNoonGuides$Land;II)V"⟩
theorem dX6_startAt_0 : dc cX6_startAt 0 (.iconst 0) 1 1 := ⟨by decide +kernel, rfl⟩
theorem dX6_startAt_1 : dc cX6_startAt 1 (.istore 4) 2 3 := ⟨by decide +kernel, rfl⟩
theorem dX6_startAt_3 : dc cX6_startAt 3 (.iload 4) 2 5 := ⟨by decide +kernel, rfl⟩
theorem dX6_startAt_5 : dc cX6_startAt 5 (.bipush 8) 2 7 := ⟨by decide +kernel, rfl⟩
theorem dX6_startAt_7 : dc cX6_startAt 7 (.if_icmp .ge 18) 3 10 := ⟨by decide +kernel, rfl⟩
theorem dX6_startAt_10 : dc cX6_startAt 10 (.aload_n 0) 1 11 := ⟨by decide +kernel, rfl⟩
theorem dX6_startAt_11 : dc cX6_startAt 11 (.getfield 9) 3 14 := ⟨by decide +kernel, rfl⟩
theorem dX6_startAt_14 : dc cX6_startAt 14 (.iload 4) 2 16 := ⟨by decide +kernel, rfl⟩
theorem dX6_startAt_16 : dc cX6_startAt 16 (.ldc 48) 2 18 := ⟨by decide +kernel, rfl⟩
theorem dX6_startAt_18 : dc cX6_startAt 18 (.iastore) 1 19 := ⟨by decide +kernel, rfl⟩
theorem dX6_startAt_19 : dc cX6_startAt 19 (.iinc 4 1) 3 22 := ⟨by decide +kernel, rfl⟩
theorem dX6_startAt_22 : dc cX6_startAt 22 (.goto (-19)) 3 25 := ⟨by decide +kernel, rfl⟩
theorem dX6_startAt_25 : dc cX6_startAt 25 (.aload_n 1) 1 26 := ⟨by decide +kernel, rfl⟩
theorem dX6_startAt_26 : dc cX6_startAt 26 (.iload_n 2) 1 27 := ⟨by decide +kernel, rfl⟩
theorem dX6_startAt_27 : dc cX6_startAt 27 (.invokevirtual 49) 3 30 := ⟨by decide +kernel, rfl⟩
theorem dX6_startAt_30 : dc cX6_startAt 30 (.ifCond .eq 10) 3 33 := ⟨by decide +kernel, rfl⟩
theorem dX6_startAt_33 : dc cX6_startAt 33 (.aload_n 0) 1 34 := ⟨by decide +kernel, rfl⟩
theorem dX6_startAt_34 : dc cX6_startAt 34 (.getfield 9) 3 37 := ⟨by decide +kernel, rfl⟩
theorem dX6_startAt_37 : dc cX6_startAt 37 (.iload_n 2) 1 38 := ⟨by decide +kernel, rfl⟩
theorem dX6_startAt_38 : dc cX6_startAt 38 (.iload_n 3) 1 39 := ⟨by decide +kernel, rfl⟩
theorem dX6_startAt_39 : dc cX6_startAt 39 (.iastore) 1 40 := ⟨by decide +kernel, rfl⟩
theorem dX6_startAt_40 : dc cX6_startAt 40 (.return_) 1 41 := ⟨by decide +kernel, rfl⟩
theorem nm_X6_startAt : (yX6_startAt).cls ≠ "java/lang/invoke/MethodHandle" ∧ (yX6_startAt).cls ≠ "java/lang/invoke/VarHandle" ∧ (parseMethodDescriptor (yX6_startAt).desc).map (fun d => d.parameters.length) = some 3 := ⟨by decide +kernel, by decide +kernel, by decide +kernel⟩
set_option maxRecDepth 100000 in
set_option maxHeartbeats 4000000 in
theorem s_X6_startAt_3 {ad : Nat → Nat} {cy : Nat → ClassId} {x : KX} (G : KG ad cy x cX6_startAt "NoonGuides$Paths" 5 (some none) 2) {a0 : Nat} {a1 : Nat} {c2 : Int32} {c3 : Int32} (h0 : kty a0 = 7) (h1 : kty a1 = 3) {k25 : KM → Option KM} {y : KM} (hk25 : ∀ (M : KM), k25 M = some y → KV ad cy x (none, y) 25 [(0, .ref (ad a0)), (1, .ref (ad a1)), (2, .int c2), (3, .int c3)] [] M) : ∀ (n : Nat) (w4 : Int32) (M : KM), lp_X6_startAt_3 n a0 a1 c2 c3 w4 M k25 = some y → KV ad cy x (none, y) 3 [(0, .ref (ad a0)), (1, .ref (ad a1)), (2, .int c2), (3, .int c3), (4, .int w4)] [] M := by
  intro n
  induction n with
  | zero =>
    intro w4 M hf
    cases hf
  | succ n ih =>
    intro w4 M hf
    rw [lp_X6_startAt_3] at hf
    refine v_iload G dX6_startAt_3 4 rfl ?_
    refine v_bipush (8 : Int32) G dX6_startAt_5 (by decide) ?_
    refine v_icmp_ge 25 G dX6_startAt_7 (by decide) (fun h4 => ?_) (fun h4 => ?_)
    · replace hf := (if_pos h4).symm.trans hf
      refine v_sub _ [0, 1, 2, 3] rfl ?_
      exact hk25 M hf
    · replace hf := (if_neg h4).symm.trans hf
      refine v_aload_n G dX6_startAt_10 0 rfl ?_
      refine gf_6_0 G h0 t_213 (Or.inl rfl) dX6_startAt_11 ?_
      refine v_iload G dX6_startAt_14 4 rfl ?_
      refine v_ldc G dX6_startAt_16 t_1245 ?_
      obtain ⟨g1, hf⟩ := gd_e hf
      refine as_28 G (kf_6_1 h0) g1 dX6_startAt_18 ?_
      refine v_nmM (fun M2 eM2 => ?_)
      replace hf := lt_e hf eM2
      obtain ⟨v3, ev3⟩ : ∃ q : Int32, q = w4 + (1 : Int32) := ⟨_, rfl⟩
      replace hf := lt_e hf ev3
      refine v_iinc v3 [(4, .int v3), (0, .ref (ad a0)), (1, .ref (ad a1)), (2, .int c2), (3, .int c3)] G dX6_startAt_19 4 rfl (by rw [ev3]; rfl) (by decide) rfl ?_
      refine v_goto 3 G dX6_startAt_22 (by decide) ?_
      refine v_sub _ [1, 2, 3, 4, 0] rfl ?_
      exact ih v3 M2 hf
set_option maxRecDepth 100000 in
set_option maxHeartbeats 4000000 in
theorem c_X6_startAt {l : Launch} {ad : Nat → Nat} {cy : Nat → ClassId} {D : va_G} {z : Nat} (n : Nat) {a0 : Nat} {a1 : Nat} {p2 : Int32} {p3 : Int32} {M : KM} {y : KM} (h0 : kty a0 = 7) (h1 : kty a1 = 3) (hf : f_X6_startAt n a0 a1 p2 p3 M = some y) : KC l ad cy D z yX6_startAt cX6_startAt 5 none 2 [.ref (ad a0), .ref (ad a1), .int p2, .int p3] M (none, y) := by
  refine kv_enter (by decide +kernel) (Nat.le_of_ble_eq_true rfl) ?_
  intro x hl hD hz G
  subst hl hD hz
  unfold f_X6_startAt at hf
  have G : KG ad cy x cX6_startAt "NoonGuides$Paths" 5 (some none) 2 := G
  show KV ad cy x (none, y) 0 [(0, .ref (ad a0)), (1, .ref (ad a1)), (2, .int p2), (3, .int p3)] [] M
  refine v_iconst (0 : Int32) G dX6_startAt_0 (by decide) ?_
  refine v_istore [(4, .int (0 : Int32)), (0, .ref (ad a0)), (1, .ref (ad a1)), (2, .int p2), (3, .int p3)] G dX6_startAt_1 (by decide) rfl ?_
  refine v_sub _ [1, 2, 3, 4, 0] rfl ?_
  refine s_X6_startAt_3 G h0 h1 (fun M5 hf => ?_) n (0 : Int32) M hf
  · refine v_aload_n G dX6_startAt_25 1 rfl ?_
    refine v_iload_n G dX6_startAt_26 2 rfl ?_
    obtain ⟨v6, hcv6⟩ : ∃ q, f_X2_hasPlace a1 p2 M5 = q := ⟨_, rfl⟩
    replace hf := lt_e hf hcv6.symm
    refine v_callV [.int p2] G (c_X2_hasPlace h1 hcv6) h1 (by decide) rfl rfl rfl t_1246 t_998 t_999 t_13 t_1000 nm_X2_hasPlace (by decide) (by decide) rfl rfl (Nat.le_of_ble_eq_true rfl) dX6_startAt_27 (kv_ri ?_)
    refine v_if_eq 40 G dX6_startAt_30 (by decide) (fun h9 => ?_) (fun h9 => ?_)
    · replace hf := (if_pos h9).symm.trans hf
      obtain rfl := Option.some.inj hf
      exact v_vret G dX6_startAt_40
    · replace hf := (if_neg h9).symm.trans hf
      refine v_aload_n G dX6_startAt_33 0 rfl ?_
      refine gf_6_0 G h0 t_213 (Or.inl rfl) dX6_startAt_34 ?_
      refine v_iload_n G dX6_startAt_37 2 rfl ?_
      refine v_iload_n G dX6_startAt_38 3 rfl ?_
      obtain ⟨g7, hf⟩ := gd_e hf
      refine as_28 G (kf_6_1 h0) g7 dX6_startAt_39 ?_
      refine v_nmM (fun M8 eM8 => ?_)
      replace hf := lt_e hf eM8
      obtain rfl := Option.some.inj hf
      exact v_vret G dX6_startAt_40
abbrev cX6_arrival : ByteArray := prog_8_method_6_code
def yX6_arrival : MethodName := ⟨RX6, "arrival", "(LNoonGuides$Land;IIII)I"⟩
theorem dX6_arrival_0 : dc cX6_arrival 0 (.aload_n 0) 1 1 := ⟨by decide +kernel, rfl⟩
theorem dX6_arrival_1 : dc cX6_arrival 1 (.iload_n 1) 1 2 := ⟨by decide +kernel, rfl⟩
theorem dX6_arrival_2 : dc cX6_arrival 2 (.iload_n 3) 1 3 := ⟨by decide +kernel, rfl⟩
theorem dX6_arrival_3 : dc cX6_arrival 3 (.iload 4) 2 5 := ⟨by decide +kernel, rfl⟩
theorem dX6_arrival_5 : dc cX6_arrival 5 (.invokevirtual 78) 3 8 := ⟨by decide +kernel, rfl⟩
theorem dX6_arrival_8 : dc cX6_arrival 8 (.istore 5) 2 10 := ⟨by decide +kernel, rfl⟩
theorem dX6_arrival_10 : dc cX6_arrival 10 (.iload_n 2) 1 11 := ⟨by decide +kernel, rfl⟩
theorem dX6_arrival_11 : dc cX6_arrival 11 (.iconst (-1)) 1 12 := ⟨by decide +kernel, rfl⟩
theorem dX6_arrival_12 : dc cX6_arrival 12 (.if_icmp .ne 8) 3 15 := ⟨by decide +kernel, rfl⟩
theorem dX6_arrival_15 : dc cX6_arrival 15 (.iload 5) 2 17 := ⟨by decide +kernel, rfl⟩
theorem dX6_arrival_17 : dc cX6_arrival 17 (.goto 16) 3 20 := ⟨by decide +kernel, rfl⟩
theorem dX6_arrival_20 : dc cX6_arrival 20 (.iload 5) 2 22 := ⟨by decide +kernel, rfl⟩
theorem dX6_arrival_22 : dc cX6_arrival 22 (.aload_n 0) 1 23 := ⟨by decide +kernel, rfl⟩
theorem dX6_arrival_23 : dc cX6_arrival 23 (.iload_n 2) 1 24 := ⟨by decide +kernel, rfl⟩
theorem dX6_arrival_24 : dc cX6_arrival 24 (.iload_n 3) 1 25 := ⟨by decide +kernel, rfl⟩
theorem dX6_arrival_25 : dc cX6_arrival 25 (.iload 4) 2 27 := ⟨by decide +kernel, rfl⟩
theorem dX6_arrival_27 : dc cX6_arrival 27 (.invokevirtual 78) 3 30 := ⟨by decide +kernel, rfl⟩
theorem dX6_arrival_30 : dc cX6_arrival 30 (.invokestatic 73) 3 33 := ⟨by decide +kernel, rfl⟩
theorem dX6_arrival_33 : dc cX6_arrival 33 (.ireturn) 1 34 := ⟨by decide +kernel, rfl⟩
theorem nm_X6_arrival : (yX6_arrival).cls ≠ "java/lang/invoke/MethodHandle" ∧ (yX6_arrival).cls ≠ "java/lang/invoke/VarHandle" ∧ (parseMethodDescriptor (yX6_arrival).desc).map (fun d => d.parameters.length) = some 5 := ⟨by decide +kernel, by decide +kernel, by decide +kernel⟩
set_option maxRecDepth 100000 in
set_option maxHeartbeats 4000000 in
theorem c_X6_arrival {l : Launch} {ad : Nat → Nat} {cy : Nat → ClassId} {D : va_G} {z : Nat} (n : Nat) {a0 : Nat} {p1 : Int32} {p2 : Int32} {p3 : Int32} {p4 : Int32} {M : KM} {y : Int32} (h0 : kty a0 = 3) (hf : f_X6_arrival n a0 p1 p2 p3 p4 M = some y) : KC l ad cy D z yX6_arrival cX6_arrival 6 (some .int) 4 [.ref (ad a0), .int p1, .int p2, .int p3, .int p4] M (some (.int y), M) := by
  refine kv_enter (by decide +kernel) (Nat.le_of_ble_eq_true rfl) ?_
  intro x hl hD hz G
  subst hl hD hz
  unfold f_X6_arrival at hf
  have G : KG ad cy x cX6_arrival "NoonGuides$Paths" 6 (some (some .int)) 4 := G
  show KV ad cy x (some (.int y), M) 0 [(0, .ref (ad a0)), (1, .int p1), (2, .int p2), (3, .int p3), (4, .int p4)] [] M
  refine v_aload_n G dX6_arrival_0 0 rfl ?_
  refine v_iload_n G dX6_arrival_1 1 rfl ?_
  refine v_iload_n G dX6_arrival_2 3 rfl ?_
  refine v_iload G dX6_arrival_3 4 rfl ?_
  obtain ⟨v1, hcv1, hf⟩ := bd_e hf
  refine v_callV [.int p1, .int p3, .int p4] G (c_X2_arrivalBy n h0 hcv1) h0 (by decide) rfl rfl rfl t_1250 t_1251 t_1252 t_13 t_1253 nm_X2_arrivalBy (by decide) (by decide) rfl rfl (Nat.le_of_ble_eq_true rfl) dX6_arrival_5 (kv_ri ?_)
  refine v_istore [(5, .int v1), (0, .ref (ad a0)), (1, .int p1), (2, .int p2), (3, .int p3), (4, .int p4)] G dX6_arrival_8 (by decide) rfl ?_
  refine v_iload_n G dX6_arrival_10 3 rfl ?_
  refine v_iconst (-1 : Int32) G dX6_arrival_11 (by decide) ?_
  refine v_icmp_ne 20 G dX6_arrival_12 (by decide) (fun h4 => ?_) (fun h4 => ?_)
  · replace hf := (if_neg h4).symm.trans hf
    refine v_iload G dX6_arrival_20 0 rfl ?_
    refine v_aload_n G dX6_arrival_22 1 rfl ?_
    refine v_iload_n G dX6_arrival_23 3 rfl ?_
    refine v_iload_n G dX6_arrival_24 4 rfl ?_
    refine v_iload G dX6_arrival_25 5 rfl ?_
    obtain ⟨v2, hcv2, hf⟩ := bd_e hf
    refine v_callV [.int p2, .int p3, .int p4] G (c_X2_arrivalBy n h0 hcv2) h0 (by decide) rfl rfl rfl t_1250 t_1251 t_1252 t_13 t_1253 nm_X2_arrivalBy (by decide) (by decide) rfl rfl (Nat.le_of_ble_eq_true rfl) dX6_arrival_27 (kv_ri ?_)
    refine v_mmin G (by decide) t_1254 t_658 t_19 t_659 (Nat.le_of_ble_eq_true rfl) dX6_arrival_30 ?_
    refine v_nmi (fun v3 ev3 => ?_)
    replace hf := lt_e hf ev3
    obtain rfl := Option.some.inj hf
    exact v_iret G dX6_arrival_33
  · replace hf := (if_pos h4).symm.trans hf
    refine v_iload G dX6_arrival_15 0 rfl ?_
    refine v_goto 33 G dX6_arrival_17 (by decide) ?_
    obtain rfl := Option.some.inj hf
    exact v_iret G dX6_arrival_33
abbrev cX6_findTimes : ByteArray := prog_8_method_5_code
def yX6_findTimes : MethodName := ⟨RX6, "findTimes", "(LNoonGuides$Land;IIII)V"⟩
theorem dX6_findTimes_0 : dc cX6_findTimes 0 (.aload_n 0) 1 1 := ⟨by decide +kernel, rfl⟩
theorem dX6_findTimes_1 : dc cX6_findTimes 1 (.aload_n 1) 1 2 := ⟨by decide +kernel, rfl⟩
theorem dX6_findTimes_2 : dc cX6_findTimes 2 (.iload 4) 2 4 := ⟨by decide +kernel, rfl⟩
theorem dX6_findTimes_4 : dc cX6_findTimes 4 (.iload 5) 2 6 := ⟨by decide +kernel, rfl⟩
theorem dX6_findTimes_6 : dc cX6_findTimes 6 (.invokevirtual 53) 3 9 := ⟨by decide +kernel, rfl⟩
theorem dX6_findTimes_9 : dc cX6_findTimes 9 (.iconst 1) 1 10 := ⟨by decide +kernel, rfl⟩
theorem dX6_findTimes_10 : dc cX6_findTimes 10 (.istore 6) 2 12 := ⟨by decide +kernel, rfl⟩
theorem dX6_findTimes_12 : dc cX6_findTimes 12 (.iload 6) 2 14 := ⟨by decide +kernel, rfl⟩
theorem dX6_findTimes_14 : dc cX6_findTimes 14 (.aload_n 1) 1 15 := ⟨by decide +kernel, rfl⟩
theorem dX6_findTimes_15 : dc cX6_findTimes 15 (.getfield 57) 3 18 := ⟨by decide +kernel, rfl⟩
theorem dX6_findTimes_18 : dc cX6_findTimes 18 (.if_icmp .ge 109) 3 21 := ⟨by decide +kernel, rfl⟩
theorem dX6_findTimes_21 : dc cX6_findTimes 21 (.iconst 0) 1 22 := ⟨by decide +kernel, rfl⟩
theorem dX6_findTimes_22 : dc cX6_findTimes 22 (.istore 7) 2 24 := ⟨by decide +kernel, rfl⟩
theorem dX6_findTimes_24 : dc cX6_findTimes 24 (.iload 7) 2 26 := ⟨by decide +kernel, rfl⟩
theorem dX6_findTimes_26 : dc cX6_findTimes 26 (.aload_n 1) 1 27 := ⟨by decide +kernel, rfl⟩
theorem dX6_findTimes_27 : dc cX6_findTimes 27 (.getfield 60) 3 30 := ⟨by decide +kernel, rfl⟩
theorem dX6_findTimes_30 : dc cX6_findTimes 30 (.if_icmp .ge 91) 3 33 := ⟨by decide +kernel, rfl⟩
theorem dX6_findTimes_33 : dc cX6_findTimes 33 (.aload_n 1) 1 34 := ⟨by decide +kernel, rfl⟩
theorem dX6_findTimes_34 : dc cX6_findTimes 34 (.getfield 63) 3 37 := ⟨by decide +kernel, rfl⟩
theorem dX6_findTimes_37 : dc cX6_findTimes 37 (.iload 7) 2 39 := ⟨by decide +kernel, rfl⟩
theorem dX6_findTimes_39 : dc cX6_findTimes 39 (.iaload) 1 40 := ⟨by decide +kernel, rfl⟩
theorem dX6_findTimes_40 : dc cX6_findTimes 40 (.istore 8) 2 42 := ⟨by decide +kernel, rfl⟩
theorem dX6_findTimes_42 : dc cX6_findTimes 42 (.aload_n 1) 1 43 := ⟨by decide +kernel, rfl⟩
theorem dX6_findTimes_43 : dc cX6_findTimes 43 (.getfield 66) 3 46 := ⟨by decide +kernel, rfl⟩
theorem dX6_findTimes_46 : dc cX6_findTimes 46 (.iload 7) 2 48 := ⟨by decide +kernel, rfl⟩
theorem dX6_findTimes_48 : dc cX6_findTimes 48 (.iaload) 1 49 := ⟨by decide +kernel, rfl⟩
theorem dX6_findTimes_49 : dc cX6_findTimes 49 (.istore 9) 2 51 := ⟨by decide +kernel, rfl⟩
theorem dX6_findTimes_51 : dc cX6_findTimes 51 (.aload_n 0) 1 52 := ⟨by decide +kernel, rfl⟩
theorem dX6_findTimes_52 : dc cX6_findTimes 52 (.getfield 9) 3 55 := ⟨by decide +kernel, rfl⟩
theorem dX6_findTimes_55 : dc cX6_findTimes 55 (.iload 9) 2 57 := ⟨by decide +kernel, rfl⟩
theorem dX6_findTimes_57 : dc cX6_findTimes 57 (.aload_n 0) 1 58 := ⟨by decide +kernel, rfl⟩
theorem dX6_findTimes_58 : dc cX6_findTimes 58 (.getfield 9) 3 61 := ⟨by decide +kernel, rfl⟩
theorem dX6_findTimes_61 : dc cX6_findTimes 61 (.iload 9) 2 63 := ⟨by decide +kernel, rfl⟩
theorem dX6_findTimes_63 : dc cX6_findTimes 63 (.iaload) 1 64 := ⟨by decide +kernel, rfl⟩
theorem dX6_findTimes_64 : dc cX6_findTimes 64 (.aload_n 1) 1 65 := ⟨by decide +kernel, rfl⟩
theorem dX6_findTimes_65 : dc cX6_findTimes 65 (.iload_n 2) 1 66 := ⟨by decide +kernel, rfl⟩
theorem dX6_findTimes_66 : dc cX6_findTimes 66 (.iload_n 3) 1 67 := ⟨by decide +kernel, rfl⟩
theorem dX6_findTimes_67 : dc cX6_findTimes 67 (.iload 7) 2 69 := ⟨by decide +kernel, rfl⟩
theorem dX6_findTimes_69 : dc cX6_findTimes 69 (.aload_n 0) 1 70 := ⟨by decide +kernel, rfl⟩
theorem dX6_findTimes_70 : dc cX6_findTimes 70 (.getfield 9) 3 73 := ⟨by decide +kernel, rfl⟩
theorem dX6_findTimes_73 : dc cX6_findTimes 73 (.iload 8) 2 75 := ⟨by decide +kernel, rfl⟩
theorem dX6_findTimes_75 : dc cX6_findTimes 75 (.iaload) 1 76 := ⟨by decide +kernel, rfl⟩
theorem dX6_findTimes_76 : dc cX6_findTimes 76 (.invokestatic 69) 3 79 := ⟨by decide +kernel, rfl⟩
theorem dX6_findTimes_79 : dc cX6_findTimes 79 (.invokestatic 73) 3 82 := ⟨by decide +kernel, rfl⟩
theorem dX6_findTimes_82 : dc cX6_findTimes 82 (.iastore) 1 83 := ⟨by decide +kernel, rfl⟩
theorem dX6_findTimes_83 : dc cX6_findTimes 83 (.aload_n 0) 1 84 := ⟨by decide +kernel, rfl⟩
theorem dX6_findTimes_84 : dc cX6_findTimes 84 (.getfield 9) 3 87 := ⟨by decide +kernel, rfl⟩
theorem dX6_findTimes_87 : dc cX6_findTimes 87 (.iload 8) 2 89 := ⟨by decide +kernel, rfl⟩
theorem dX6_findTimes_89 : dc cX6_findTimes 89 (.aload_n 0) 1 90 := ⟨by decide +kernel, rfl⟩
theorem dX6_findTimes_90 : dc cX6_findTimes 90 (.getfield 9) 3 93 := ⟨by decide +kernel, rfl⟩
theorem dX6_findTimes_93 : dc cX6_findTimes 93 (.iload 8) 2 95 := ⟨by decide +kernel, rfl⟩
theorem dX6_findTimes_95 : dc cX6_findTimes 95 (.iaload) 1 96 := ⟨by decide +kernel, rfl⟩
theorem dX6_findTimes_96 : dc cX6_findTimes 96 (.aload_n 1) 1 97 := ⟨by decide +kernel, rfl⟩
theorem dX6_findTimes_97 : dc cX6_findTimes 97 (.iload_n 2) 1 98 := ⟨by decide +kernel, rfl⟩
theorem dX6_findTimes_98 : dc cX6_findTimes 98 (.iload_n 3) 1 99 := ⟨by decide +kernel, rfl⟩
theorem dX6_findTimes_99 : dc cX6_findTimes 99 (.iload 7) 2 101 := ⟨by decide +kernel, rfl⟩
theorem dX6_findTimes_101 : dc cX6_findTimes 101 (.aload_n 0) 1 102 := ⟨by decide +kernel, rfl⟩
theorem dX6_findTimes_102 : dc cX6_findTimes 102 (.getfield 9) 3 105 := ⟨by decide +kernel, rfl⟩
theorem dX6_findTimes_105 : dc cX6_findTimes 105 (.iload 9) 2 107 := ⟨by decide +kernel, rfl⟩
theorem dX6_findTimes_107 : dc cX6_findTimes 107 (.iaload) 1 108 := ⟨by decide +kernel, rfl⟩
theorem dX6_findTimes_108 : dc cX6_findTimes 108 (.invokestatic 69) 3 111 := ⟨by decide +kernel, rfl⟩
theorem dX6_findTimes_111 : dc cX6_findTimes 111 (.invokestatic 73) 3 114 := ⟨by decide +kernel, rfl⟩
theorem dX6_findTimes_114 : dc cX6_findTimes 114 (.iastore) 1 115 := ⟨by decide +kernel, rfl⟩
theorem dX6_findTimes_115 : dc cX6_findTimes 115 (.iinc 7 1) 3 118 := ⟨by decide +kernel, rfl⟩
theorem dX6_findTimes_118 : dc cX6_findTimes 118 (.goto (-94)) 3 121 := ⟨by decide +kernel, rfl⟩
theorem dX6_findTimes_121 : dc cX6_findTimes 121 (.iinc 6 1) 3 124 := ⟨by decide +kernel, rfl⟩
theorem dX6_findTimes_124 : dc cX6_findTimes 124 (.goto (-112)) 3 127 := ⟨by decide +kernel, rfl⟩
theorem dX6_findTimes_127 : dc cX6_findTimes 127 (.return_) 1 128 := ⟨by decide +kernel, rfl⟩
theorem nm_X6_findTimes : (yX6_findTimes).cls ≠ "java/lang/invoke/MethodHandle" ∧ (yX6_findTimes).cls ≠ "java/lang/invoke/VarHandle" ∧ (parseMethodDescriptor (yX6_findTimes).desc).map (fun d => d.parameters.length) = some 5 := ⟨by decide +kernel, by decide +kernel, by decide +kernel⟩
set_option maxRecDepth 100000 in
set_option maxHeartbeats 4000000 in
theorem s_X6_findTimes_24 {ad : Nat → Nat} {cy : Nat → ClassId} {x : KX} (G : KG ad cy x cX6_findTimes "NoonGuides$Paths" 10 (some none) 5) {a0 : Nat} {a1 : Nat} {c2 : Int32} {c3 : Int32} {c6 : Int32} (h0 : kty a0 = 7) (h1 : kty a1 = 3) {k121 : KM → Option KM} {y : KM} (hk121 : ∀ (M : KM), k121 M = some y → KV ad cy x (none, y) 121 [(0, .ref (ad a0)), (1, .ref (ad a1)), (2, .int c2), (3, .int c3), (6, .int c6)] [] M) : ∀ (n : Nat) (w7 : Int32) (M : KM), lp_X6_findTimes_24 n a0 a1 c2 c3 c6 w7 M k121 = some y → KV ad cy x (none, y) 24 [(0, .ref (ad a0)), (1, .ref (ad a1)), (2, .int c2), (3, .int c3), (6, .int c6), (7, .int w7)] [] M := by
  intro n
  induction n with
  | zero =>
    intro w7 M hf
    cases hf
  | succ n ih =>
    intro w7 M hf
    rw [lp_X6_findTimes_24] at hf
    refine v_iload G dX6_findTimes_24 5 rfl ?_
    refine v_aload_n G dX6_findTimes_26 1 rfl ?_
    refine gf_2_9 G h1 t_415 (Or.inl rfl) dX6_findTimes_27 ?_
    refine v_icmp_ge 121 G dX6_findTimes_30 (by decide) (fun h19 => ?_) (fun h19 => ?_)
    · replace hf := (if_pos h19).symm.trans hf
      refine v_sub _ [0, 1, 2, 3, 4] rfl ?_
      exact hk121 M hf
    · replace hf := (if_neg h19).symm.trans hf
      refine v_aload_n G dX6_findTimes_33 1 rfl ?_
      refine gf_2_1 G h1 t_388 (Or.inl rfl) dX6_findTimes_34 ?_
      refine v_iload G dX6_findTimes_37 5 rfl ?_
      obtain ⟨g2, hf⟩ := gd_e hf
      refine al_30 G (kf_2_2 h1) g2 dX6_findTimes_39 ?_
      refine v_nmi (fun v3 ev3 => ?_)
      replace hf := lt_e hf ev3
      refine v_istore [(8, .int v3), (0, .ref (ad a0)), (1, .ref (ad a1)), (2, .int c2), (3, .int c3), (6, .int c6), (7, .int w7)] G dX6_findTimes_40 (by decide) rfl ?_
      refine v_aload_n G dX6_findTimes_42 2 rfl ?_
      refine gf_2_2 G h1 t_391 (Or.inl rfl) dX6_findTimes_43 ?_
      refine v_iload G dX6_findTimes_46 6 rfl ?_
      obtain ⟨g4, hf⟩ := gd_e hf
      refine al_30 G (kf_2_3 h1) g4 dX6_findTimes_48 ?_
      refine v_nmi (fun v5 ev5 => ?_)
      replace hf := lt_e hf ev5
      refine v_istore [(9, .int v5), (8, .int v3), (0, .ref (ad a0)), (1, .ref (ad a1)), (2, .int c2), (3, .int c3), (6, .int c6), (7, .int w7)] G dX6_findTimes_49 (by decide) rfl ?_
      refine v_aload_n G dX6_findTimes_51 2 rfl ?_
      refine gf_6_0 G h0 t_213 (Or.inl rfl) dX6_findTimes_52 ?_
      refine v_iload G dX6_findTimes_55 0 rfl ?_
      refine v_aload_n G dX6_findTimes_57 2 rfl ?_
      refine gf_6_0 G h0 t_213 (Or.inl rfl) dX6_findTimes_58 ?_
      refine v_iload G dX6_findTimes_61 0 rfl ?_
      obtain ⟨g6, hf⟩ := gd_e hf
      refine al_28 G (kf_6_1 h0) g6 dX6_findTimes_63 ?_
      refine v_aload_n G dX6_findTimes_64 3 rfl ?_
      refine v_iload_n G dX6_findTimes_65 4 rfl ?_
      refine v_iload_n G dX6_findTimes_66 5 rfl ?_
      refine v_iload G dX6_findTimes_67 7 rfl ?_
      refine v_aload_n G dX6_findTimes_69 2 rfl ?_
      refine gf_6_0 G h0 t_213 (Or.inl rfl) dX6_findTimes_70 ?_
      refine v_iload G dX6_findTimes_73 1 rfl ?_
      obtain ⟨g7, hf⟩ := gd_e hf
      refine al_28 G (kf_6_1 h0) g7 dX6_findTimes_75 ?_
      obtain ⟨v8, hcv8, hf⟩ := bd_e hf
      refine v_callS [.ref (ad a1), .int c2, .int c3, .int w7, .int (M.1 (a0 + 1) (v3).toNatClampNeg)] G (c_X6_arrival n h1 hcv8) t_1247 t_1248 t_10 t_1249 nm_X6_arrival (by decide) (by decide) rfl rfl (Nat.le_of_ble_eq_true rfl) dX6_findTimes_76 (kv_ri ?_)
      refine v_mmin G (by decide) t_1254 t_658 t_19 t_659 (Nat.le_of_ble_eq_true rfl) dX6_findTimes_79 ?_
      refine v_nmi (fun v9 ev9 => ?_)
      replace hf := lt_e hf ev9
      obtain ⟨g10, hf⟩ := gd_e hf
      refine as_28 G (kf_6_1 h0) g10 dX6_findTimes_82 ?_
      refine v_nmM (fun M11 eM11 => ?_)
      replace hf := lt_e hf eM11
      refine v_aload_n G dX6_findTimes_83 2 rfl ?_
      refine gf_6_0 G h0 t_213 (Or.inl rfl) dX6_findTimes_84 ?_
      refine v_iload G dX6_findTimes_87 1 rfl ?_
      refine v_aload_n G dX6_findTimes_89 2 rfl ?_
      refine gf_6_0 G h0 t_213 (Or.inl rfl) dX6_findTimes_90 ?_
      refine v_iload G dX6_findTimes_93 1 rfl ?_
      obtain ⟨g12, hf⟩ := gd_e hf
      refine al_28 G (kf_6_1 h0) g12 dX6_findTimes_95 ?_
      refine v_aload_n G dX6_findTimes_96 3 rfl ?_
      refine v_iload_n G dX6_findTimes_97 4 rfl ?_
      refine v_iload_n G dX6_findTimes_98 5 rfl ?_
      refine v_iload G dX6_findTimes_99 7 rfl ?_
      refine v_aload_n G dX6_findTimes_101 2 rfl ?_
      refine gf_6_0 G h0 t_213 (Or.inl rfl) dX6_findTimes_102 ?_
      refine v_iload G dX6_findTimes_105 0 rfl ?_
      obtain ⟨g13, hf⟩ := gd_e hf
      refine al_28 G (kf_6_1 h0) g13 dX6_findTimes_107 ?_
      obtain ⟨v14, hcv14, hf⟩ := bd_e hf
      refine v_callS [.ref (ad a1), .int c2, .int c3, .int w7, .int (M11.1 (a0 + 1) (v5).toNatClampNeg)] G (c_X6_arrival n h1 hcv14) t_1247 t_1248 t_10 t_1249 nm_X6_arrival (by decide) (by decide) rfl rfl (Nat.le_of_ble_eq_true rfl) dX6_findTimes_108 (kv_ri ?_)
      refine v_mmin G (by decide) t_1254 t_658 t_19 t_659 (Nat.le_of_ble_eq_true rfl) dX6_findTimes_111 ?_
      refine v_nmi (fun v15 ev15 => ?_)
      replace hf := lt_e hf ev15
      obtain ⟨g16, hf⟩ := gd_e hf
      refine as_28 G (kf_6_1 h0) g16 dX6_findTimes_114 ?_
      refine v_nmM (fun M17 eM17 => ?_)
      replace hf := lt_e hf eM17
      obtain ⟨v18, ev18⟩ : ∃ q : Int32, q = w7 + (1 : Int32) := ⟨_, rfl⟩
      replace hf := lt_e hf ev18
      refine v_iinc v18 [(7, .int v18), (9, .int v5), (8, .int v3), (0, .ref (ad a0)), (1, .ref (ad a1)), (2, .int c2), (3, .int c3), (6, .int c6)] G dX6_findTimes_115 7 rfl (by rw [ev18]; rfl) (by decide) rfl ?_
      refine v_goto 24 G dX6_findTimes_118 (by decide) ?_
      refine v_sub _ [3, 4, 5, 6, 7, 0] rfl ?_
      exact ih v18 M17 hf
set_option maxRecDepth 100000 in
set_option maxHeartbeats 4000000 in
theorem s_X6_findTimes_12 {ad : Nat → Nat} {cy : Nat → ClassId} {x : KX} (G : KG ad cy x cX6_findTimes "NoonGuides$Paths" 10 (some none) 5) {a0 : Nat} {a1 : Nat} {c2 : Int32} {c3 : Int32} (h0 : kty a0 = 7) (h1 : kty a1 = 3) {y : KM} : ∀ (n : Nat) (w6 : Int32) (M : KM), lp_X6_findTimes_12 n a0 a1 c2 c3 w6 M = some y → KV ad cy x (none, y) 12 [(0, .ref (ad a0)), (1, .ref (ad a1)), (2, .int c2), (3, .int c3), (6, .int w6)] [] M := by
  intro n
  induction n with
  | zero =>
    intro w6 M hf
    cases hf
  | succ n ih =>
    intro w6 M hf
    rw [lp_X6_findTimes_12] at hf
    refine v_iload G dX6_findTimes_12 4 rfl ?_
    refine v_aload_n G dX6_findTimes_14 1 rfl ?_
    refine gf_2_8 G h1 t_411 (Or.inl rfl) dX6_findTimes_15 ?_
    refine v_icmp_ge 127 G dX6_findTimes_18 (by decide) (fun h22 => ?_) (fun h22 => ?_)
    · replace hf := (if_pos h22).symm.trans hf
      obtain rfl := Option.some.inj hf
      exact v_vret G dX6_findTimes_127
    · replace hf := (if_neg h22).symm.trans hf
      refine v_iconst (0 : Int32) G dX6_findTimes_21 (by decide) ?_
      refine v_istore [(7, .int (0 : Int32)), (0, .ref (ad a0)), (1, .ref (ad a1)), (2, .int c2), (3, .int c3), (6, .int w6)] G dX6_findTimes_22 (by decide) rfl ?_
      refine v_sub _ [1, 2, 3, 4, 5, 0] rfl ?_
      refine s_X6_findTimes_24 G h0 h1 (fun M20 hf => ?_) n (0 : Int32) M hf
      · obtain ⟨v21, ev21⟩ : ∃ q : Int32, q = w6 + (1 : Int32) := ⟨_, rfl⟩
        replace hf := lt_e hf ev21
        refine v_iinc v21 [(6, .int v21), (0, .ref (ad a0)), (1, .ref (ad a1)), (2, .int c2), (3, .int c3)] G dX6_findTimes_121 4 rfl (by rw [ev21]; rfl) (by decide) rfl ?_
        refine v_goto 12 G dX6_findTimes_124 (by decide) ?_
        refine v_sub _ [1, 2, 3, 4, 0] rfl ?_
        exact ih v21 M20 hf
set_option maxRecDepth 100000 in
set_option maxHeartbeats 4000000 in
theorem c_X6_findTimes {l : Launch} {ad : Nat → Nat} {cy : Nat → ClassId} {D : va_G} {z : Nat} (n : Nat) {a0 : Nat} {a1 : Nat} {p2 : Int32} {p3 : Int32} {p4 : Int32} {p5 : Int32} {M : KM} {y : KM} (h0 : kty a0 = 7) (h1 : kty a1 = 3) (hf : f_X6_findTimes n a0 a1 p2 p3 p4 p5 M = some y) : KC l ad cy D z yX6_findTimes cX6_findTimes 10 none 5 [.ref (ad a0), .ref (ad a1), .int p2, .int p3, .int p4, .int p5] M (none, y) := by
  refine kv_enter (by decide +kernel) (Nat.le_of_ble_eq_true rfl) ?_
  intro x hl hD hz G
  subst hl hD hz
  unfold f_X6_findTimes at hf
  have G : KG ad cy x cX6_findTimes "NoonGuides$Paths" 10 (some none) 5 := G
  show KV ad cy x (none, y) 0 [(0, .ref (ad a0)), (1, .ref (ad a1)), (2, .int p2), (3, .int p3), (4, .int p4), (5, .int p5)] [] M
  refine v_aload_n G dX6_findTimes_0 0 rfl ?_
  refine v_aload_n G dX6_findTimes_1 1 rfl ?_
  refine v_iload G dX6_findTimes_2 4 rfl ?_
  refine v_iload G dX6_findTimes_4 5 rfl ?_
  obtain ⟨v1, hcv1, hf⟩ := bd_e hf
  refine v_callV [.ref (ad a1), .int p4, .int p5] G (c_X6_startAt n h0 h1 hcv1) h0 (by decide) rfl rfl rfl t_1241 t_1243 t_p43 t_10 t_1244 nm_X6_startAt (by decide) (by decide) rfl rfl (Nat.le_of_ble_eq_true rfl) dX6_findTimes_6 (kv_rv ?_)
  refine v_iconst (1 : Int32) G dX6_findTimes_9 (by decide) ?_
  refine v_istore [(6, .int (1 : Int32)), (0, .ref (ad a0)), (1, .ref (ad a1)), (2, .int p2), (3, .int p3), (4, .int p4), (5, .int p5)] G dX6_findTimes_10 (by decide) rfl ?_
  refine v_sub _ [1, 2, 3, 4, 0] rfl ?_
  refine s_X6_findTimes_12 G h0 h1 n (1 : Int32) v1 hf
abbrev cX6_minutesFrom : ByteArray := prog_8_method_3_code
def yX6_minutesFrom : MethodName := ⟨RX6, "minutesFrom", "(II)I"⟩
theorem dX6_minutesFrom_0 : dc cX6_minutesFrom 0 (.iload_n 0) 1 1 := ⟨by decide +kernel, rfl⟩
theorem dX6_minutesFrom_1 : dc cX6_minutesFrom 1 (.ldc 48) 2 3 := ⟨by decide +kernel, rfl⟩
theorem dX6_minutesFrom_3 : dc cX6_minutesFrom 3 (.if_icmp .lt 8) 3 6 := ⟨by decide +kernel, rfl⟩
theorem dX6_minutesFrom_6 : dc cX6_minutesFrom 6 (.ldc 48) 2 8 := ⟨by decide +kernel, rfl⟩
theorem dX6_minutesFrom_8 : dc cX6_minutesFrom 8 (.goto 6) 3 11 := ⟨by decide +kernel, rfl⟩
theorem dX6_minutesFrom_11 : dc cX6_minutesFrom 11 (.iload_n 0) 1 12 := ⟨by decide +kernel, rfl⟩
theorem dX6_minutesFrom_12 : dc cX6_minutesFrom 12 (.iload_n 1) 1 13 := ⟨by decide +kernel, rfl⟩
theorem dX6_minutesFrom_13 : dc cX6_minutesFrom 13 (.isub) 1 14 := ⟨by decide +kernel, rfl⟩
theorem dX6_minutesFrom_14 : dc cX6_minutesFrom 14 (.ireturn) 1 15 := ⟨by decide +kernel, rfl⟩
theorem nm_X6_minutesFrom : (yX6_minutesFrom).cls ≠ "java/lang/invoke/MethodHandle" ∧ (yX6_minutesFrom).cls ≠ "java/lang/invoke/VarHandle" ∧ (parseMethodDescriptor (yX6_minutesFrom).desc).map (fun d => d.parameters.length) = some 2 := ⟨by decide +kernel, by decide +kernel, by decide +kernel⟩
set_option maxRecDepth 100000 in
set_option maxHeartbeats 4000000 in
theorem c_X6_minutesFrom {l : Launch} {ad : Nat → Nat} {cy : Nat → ClassId} {D : va_G} {z : Nat} {p0 : Int32} {p1 : Int32} {M : KM} {y : Int32} (hf : f_X6_minutesFrom p0 p1 M = y) : KC l ad cy D z yX6_minutesFrom cX6_minutesFrom 2 (some .int) 1 [.int p0, .int p1] M (some (.int y), M) := by
  refine kv_enter (by decide +kernel) (Nat.le_of_ble_eq_true rfl) ?_
  intro x hl hD hz G
  subst hl hD hz
  unfold f_X6_minutesFrom at hf
  have G : KG ad cy x cX6_minutesFrom "NoonGuides$Paths" 2 (some (some .int)) 1 := G
  show KV ad cy x (some (.int y), M) 0 [(0, .int p0), (1, .int p1)] [] M
  refine v_iload_n G dX6_minutesFrom_0 0 rfl ?_
  refine v_ldc G dX6_minutesFrom_1 t_1245 ?_
  refine v_icmp_lt 11 G dX6_minutesFrom_3 (by decide) (fun h1 => ?_) (fun h1 => ?_)
  · replace hf := (if_pos h1).symm.trans hf
    refine v_iload_n G dX6_minutesFrom_11 0 rfl ?_
    refine v_iload_n G dX6_minutesFrom_12 1 rfl ?_
    refine v_isub G dX6_minutesFrom_13 ?_
    obtain rfl := hf
    exact v_iret G dX6_minutesFrom_14
  · replace hf := (if_neg h1).symm.trans hf
    refine v_ldc G dX6_minutesFrom_6 t_1245 ?_
    refine v_goto 14 G dX6_minutesFrom_8 (by decide) ?_
    obtain rfl := hf
    exact v_iret G dX6_minutesFrom_14
abbrev cX6_minutesTo : ByteArray := prog_8_method_2_code
def yX6_minutesTo : MethodName := ⟨RX6, "minutesTo", "(LNoonGuides$Land;III)I"⟩
theorem dX6_minutesTo_0 : dc cX6_minutesTo 0 (.aload_n 1) 1 1 := ⟨by decide +kernel, rfl⟩
theorem dX6_minutesTo_1 : dc cX6_minutesTo 1 (.getfield 25) 3 4 := ⟨by decide +kernel, rfl⟩
theorem dX6_minutesTo_4 : dc cX6_minutesTo 4 (.iload_n 2) 1 5 := ⟨by decide +kernel, rfl⟩
theorem dX6_minutesTo_5 : dc cX6_minutesTo 5 (.aaload) 1 6 := ⟨by decide +kernel, rfl⟩
theorem dX6_minutesTo_6 : dc cX6_minutesTo 6 (.getfield 31) 3 9 := ⟨by decide +kernel, rfl⟩
theorem dX6_minutesTo_9 : dc cX6_minutesTo 9 (.istore 5) 2 11 := ⟨by decide +kernel, rfl⟩
theorem dX6_minutesTo_11 : dc cX6_minutesTo 11 (.aload_n 0) 1 12 := ⟨by decide +kernel, rfl⟩
theorem dX6_minutesTo_12 : dc cX6_minutesTo 12 (.aload_n 1) 1 13 := ⟨by decide +kernel, rfl⟩
theorem dX6_minutesTo_13 : dc cX6_minutesTo 13 (.iload_n 2) 1 14 := ⟨by decide +kernel, rfl⟩
theorem dX6_minutesTo_14 : dc cX6_minutesTo 14 (.iload_n 3) 1 15 := ⟨by decide +kernel, rfl⟩
theorem dX6_minutesTo_15 : dc cX6_minutesTo 15 (.iload 5) 2 17 := ⟨by decide +kernel, rfl⟩
theorem dX6_minutesTo_17 : dc cX6_minutesTo 17 (.aload_n 1) 1 18 := ⟨by decide +kernel, rfl⟩
theorem dX6_minutesTo_18 : dc cX6_minutesTo 18 (.getfield 37) 3 21 := ⟨by decide +kernel, rfl⟩
theorem dX6_minutesTo_21 : dc cX6_minutesTo 21 (.invokevirtual 40) 3 24 := ⟨by decide +kernel, rfl⟩
theorem dX6_minutesTo_24 : dc cX6_minutesTo 24 (.aload_n 0) 1 25 := ⟨by decide +kernel, rfl⟩
theorem dX6_minutesTo_25 : dc cX6_minutesTo 25 (.getfield 9) 3 28 := ⟨by decide +kernel, rfl⟩
theorem dX6_minutesTo_28 : dc cX6_minutesTo 28 (.iload 4) 2 30 := ⟨by decide +kernel, rfl⟩
theorem dX6_minutesTo_30 : dc cX6_minutesTo 30 (.iaload) 1 31 := ⟨by decide +kernel, rfl⟩
theorem dX6_minutesTo_31 : dc cX6_minutesTo 31 (.aload_n 1) 1 32 := ⟨by decide +kernel, rfl⟩
theorem dX6_minutesTo_32 : dc cX6_minutesTo 32 (.getfield 37) 3 35 := ⟨by decide +kernel, rfl⟩
theorem dX6_minutesTo_35 : dc cX6_minutesTo 35 (.invokestatic 44) 3 38 := ⟨by decide +kernel, rfl⟩
theorem dX6_minutesTo_38 : dc cX6_minutesTo 38 (.ireturn) 1 39 := ⟨by decide +kernel, rfl⟩
theorem nm_X6_minutesTo : (yX6_minutesTo).cls ≠ "java/lang/invoke/MethodHandle" ∧ (yX6_minutesTo).cls ≠ "java/lang/invoke/VarHandle" ∧ (parseMethodDescriptor (yX6_minutesTo).desc).map (fun d => d.parameters.length) = some 4 := ⟨by decide +kernel, by decide +kernel, by decide +kernel⟩
set_option maxRecDepth 100000 in
set_option maxHeartbeats 4000000 in
theorem c_X6_minutesTo {l : Launch} {ad : Nat → Nat} {cy : Nat → ClassId} {D : va_G} {z : Nat} (n : Nat) {a0 : Nat} {a1 : Nat} {p2 : Int32} {p3 : Int32} {p4 : Int32} {M : KM} {y : (Int32 × KM)} (h0 : kty a0 = 7) (h1 : kty a1 = 3) (hf : f_X6_minutesTo n a0 a1 p2 p3 p4 M = some y) : KC l ad cy D z yX6_minutesTo cX6_minutesTo 6 (some .int) 6 [.ref (ad a0), .ref (ad a1), .int p2, .int p3, .int p4] M (some (.int y.1), y.2) := by
  refine kv_enter (by decide +kernel) (Nat.le_of_ble_eq_true rfl) ?_
  intro x hl hD hz G
  subst hl hD hz
  unfold f_X6_minutesTo at hf
  have G : KG ad cy x cX6_minutesTo "NoonGuides$Paths" 6 (some (some .int)) 6 := G
  show KV ad cy x (some (.int y.1), y.2) 0 [(0, .ref (ad a0)), (1, .ref (ad a1)), (2, .int p2), (3, .int p3), (4, .int p4)] [] M
  refine v_aload_n G dX6_minutesTo_0 1 rfl ?_
  refine gf_2_5 G h1 t_398 (Or.inl rfl) dX6_minutesTo_1 ?_
  refine v_iload_n G dX6_minutesTo_4 2 rfl ?_
  obtain ⟨g1, hf⟩ := gd_e hf
  refine al_Person G (kf_2_6 h1) g1 dX6_minutesTo_5 ?_
  refine gf_7_5 G (ke_Person (kf_2_6 h1) (ix_lt g1)) t_343 (Or.inl rfl) dX6_minutesTo_6 ?_
  refine v_nmi (fun v2 ev2 => ?_)
  replace hf := lt_e hf ev2
  refine v_istore [(5, .int v2), (0, .ref (ad a0)), (1, .ref (ad a1)), (2, .int p2), (3, .int p3), (4, .int p4)] G dX6_minutesTo_9 (by decide) rfl ?_
  refine v_aload_n G dX6_minutesTo_11 1 rfl ?_
  refine v_aload_n G dX6_minutesTo_12 2 rfl ?_
  refine v_iload_n G dX6_minutesTo_13 3 rfl ?_
  refine v_iload_n G dX6_minutesTo_14 4 rfl ?_
  refine v_iload G dX6_minutesTo_15 0 rfl ?_
  refine v_aload_n G dX6_minutesTo_17 2 rfl ?_
  refine gf_2_11 G h1 t_423 (Or.inl rfl) dX6_minutesTo_18 ?_
  obtain ⟨v3, hcv3, hf⟩ := bd_e hf
  refine v_callV [.ref (ad a1), .int p2, .int p3, .int v2, .int (M.1 a1 11)] G (c_X6_findTimes n h0 h1 hcv3) h0 (by decide) rfl rfl rfl t_1237 t_1239 t_p42 t_10 t_1240 nm_X6_findTimes (by decide) (by decide) rfl rfl (Nat.le_of_ble_eq_true rfl) dX6_minutesTo_21 (kv_rv ?_)
  refine v_aload_n G dX6_minutesTo_24 1 rfl ?_
  refine gf_6_0 G h0 t_213 (Or.inl rfl) dX6_minutesTo_25 ?_
  refine v_iload G dX6_minutesTo_28 5 rfl ?_
  obtain ⟨g4, hf⟩ := gd_e hf
  refine al_28 G (kf_6_1 h0) g4 dX6_minutesTo_30 ?_
  refine v_aload_n G dX6_minutesTo_31 2 rfl ?_
  refine gf_2_11 G h1 t_423 (Or.inl rfl) dX6_minutesTo_32 ?_
  obtain ⟨v5, hcv5⟩ : ∃ q, f_X6_minutesFrom (v3.1 (a0 + 1) (p4).toNatClampNeg) (v3.1 a1 11) v3 = q := ⟨_, rfl⟩
  replace hf := lt_e hf hcv5.symm
  refine v_callS [.int (v3.1 (a0 + 1) (p4).toNatClampNeg), .int (v3.1 a1 11)] G (c_X6_minutesFrom hcv5) t_1255 t_1256 t_10 t_1257 nm_X6_minutesFrom (by decide) (by decide) rfl rfl (Nat.le_of_ble_eq_true rfl) dX6_minutesTo_35 (kv_ri ?_)
  obtain rfl := Option.some.inj hf
  exact v_iret G dX6_minutesTo_38
abbrev cX6_firstPlaceTo : ByteArray := prog_8_method_7_code
def yX6_firstPlaceTo : MethodName := ⟨RX6, "firstPlaceTo", "(LNoonGuides$Land;II)I"⟩
theorem dX6_firstPlaceTo_0 : dc cX6_firstPlaceTo 0 (.aload_n 1) 1 1 := ⟨by decide +kernel, rfl⟩
theorem dX6_firstPlaceTo_1 : dc cX6_firstPlaceTo 1 (.getfield 25) 3 4 := ⟨by decide +kernel, rfl⟩
theorem dX6_firstPlaceTo_4 : dc cX6_firstPlaceTo 4 (.iload_n 2) 1 5 := ⟨by decide +kernel, rfl⟩
theorem dX6_firstPlaceTo_5 : dc cX6_firstPlaceTo 5 (.aaload) 1 6 := ⟨by decide +kernel, rfl⟩
theorem dX6_firstPlaceTo_6 : dc cX6_firstPlaceTo 6 (.getfield 31) 3 9 := ⟨by decide +kernel, rfl⟩
theorem dX6_firstPlaceTo_9 : dc cX6_firstPlaceTo 9 (.istore 4) 2 11 := ⟨by decide +kernel, rfl⟩
theorem dX6_firstPlaceTo_11 : dc cX6_firstPlaceTo 11 (.aload_n 0) 1 12 := ⟨by decide +kernel, rfl⟩
theorem dX6_firstPlaceTo_12 : dc cX6_firstPlaceTo 12 (.aload_n 1) 1 13 := ⟨by decide +kernel, rfl⟩
theorem dX6_firstPlaceTo_13 : dc cX6_firstPlaceTo 13 (.iload_n 2) 1 14 := ⟨by decide +kernel, rfl⟩
theorem dX6_firstPlaceTo_14 : dc cX6_firstPlaceTo 14 (.iconst (-1)) 1 15 := ⟨by decide +kernel, rfl⟩
theorem dX6_firstPlaceTo_15 : dc cX6_firstPlaceTo 15 (.iload_n 3) 1 16 := ⟨by decide +kernel, rfl⟩
theorem dX6_firstPlaceTo_16 : dc cX6_firstPlaceTo 16 (.invokevirtual 82) 3 19 := ⟨by decide +kernel, rfl⟩
theorem dX6_firstPlaceTo_19 : dc cX6_firstPlaceTo 19 (.istore 5) 2 21 := ⟨by decide +kernel, rfl⟩
theorem dX6_firstPlaceTo_21 : dc cX6_firstPlaceTo 21 (.iconst 0) 1 22 := ⟨by decide +kernel, rfl⟩
theorem dX6_firstPlaceTo_22 : dc cX6_firstPlaceTo 22 (.istore 6) 2 24 := ⟨by decide +kernel, rfl⟩
theorem dX6_firstPlaceTo_24 : dc cX6_firstPlaceTo 24 (.iload 6) 2 26 := ⟨by decide +kernel, rfl⟩
theorem dX6_firstPlaceTo_26 : dc cX6_firstPlaceTo 26 (.aload_n 1) 1 27 := ⟨by decide +kernel, rfl⟩
theorem dX6_firstPlaceTo_27 : dc cX6_firstPlaceTo 27 (.getfield 57) 3 30 := ⟨by decide +kernel, rfl⟩
theorem dX6_firstPlaceTo_30 : dc cX6_firstPlaceTo 30 (.if_icmp .ge 73) 3 33 := ⟨by decide +kernel, rfl⟩
theorem dX6_firstPlaceTo_33 : dc cX6_firstPlaceTo 33 (.iload 5) 2 35 := ⟨by decide +kernel, rfl⟩
theorem dX6_firstPlaceTo_35 : dc cX6_firstPlaceTo 35 (.ldc 48) 2 37 := ⟨by decide +kernel, rfl⟩
theorem dX6_firstPlaceTo_37 : dc cX6_firstPlaceTo 37 (.if_icmp .ge 66) 3 40 := ⟨by decide +kernel, rfl⟩
theorem dX6_firstPlaceTo_40 : dc cX6_firstPlaceTo 40 (.aload_n 1) 1 41 := ⟨by decide +kernel, rfl⟩
theorem dX6_firstPlaceTo_41 : dc cX6_firstPlaceTo 41 (.iload 4) 2 43 := ⟨by decide +kernel, rfl⟩
theorem dX6_firstPlaceTo_43 : dc cX6_firstPlaceTo 43 (.iload 6) 2 45 := ⟨by decide +kernel, rfl⟩
theorem dX6_firstPlaceTo_45 : dc cX6_firstPlaceTo 45 (.invokevirtual 86) 3 48 := ⟨by decide +kernel, rfl⟩
theorem dX6_firstPlaceTo_48 : dc cX6_firstPlaceTo 48 (.istore 7) 2 50 := ⟨by decide +kernel, rfl⟩
theorem dX6_firstPlaceTo_50 : dc cX6_firstPlaceTo 50 (.iload 7) 2 52 := ⟨by decide +kernel, rfl⟩
theorem dX6_firstPlaceTo_52 : dc cX6_firstPlaceTo 52 (.iconst (-1)) 1 53 := ⟨by decide +kernel, rfl⟩
theorem dX6_firstPlaceTo_53 : dc cX6_firstPlaceTo 53 (.if_icmp .eq 44) 3 56 := ⟨by decide +kernel, rfl⟩
theorem dX6_firstPlaceTo_56 : dc cX6_firstPlaceTo 56 (.aload_n 0) 1 57 := ⟨by decide +kernel, rfl⟩
theorem dX6_firstPlaceTo_57 : dc cX6_firstPlaceTo 57 (.aload_n 1) 1 58 := ⟨by decide +kernel, rfl⟩
theorem dX6_firstPlaceTo_58 : dc cX6_firstPlaceTo 58 (.iload_n 2) 1 59 := ⟨by decide +kernel, rfl⟩
theorem dX6_firstPlaceTo_59 : dc cX6_firstPlaceTo 59 (.iconst (-1)) 1 60 := ⟨by decide +kernel, rfl⟩
theorem dX6_firstPlaceTo_60 : dc cX6_firstPlaceTo 60 (.iload 6) 2 62 := ⟨by decide +kernel, rfl⟩
theorem dX6_firstPlaceTo_62 : dc cX6_firstPlaceTo 62 (.aload_n 1) 1 63 := ⟨by decide +kernel, rfl⟩
theorem dX6_firstPlaceTo_63 : dc cX6_firstPlaceTo 63 (.iload_n 2) 1 64 := ⟨by decide +kernel, rfl⟩
theorem dX6_firstPlaceTo_64 : dc cX6_firstPlaceTo 64 (.iload 7) 2 66 := ⟨by decide +kernel, rfl⟩
theorem dX6_firstPlaceTo_66 : dc cX6_firstPlaceTo 66 (.aload_n 1) 1 67 := ⟨by decide +kernel, rfl⟩
theorem dX6_firstPlaceTo_67 : dc cX6_firstPlaceTo 67 (.getfield 37) 3 70 := ⟨by decide +kernel, rfl⟩
theorem dX6_firstPlaceTo_70 : dc cX6_firstPlaceTo 70 (.invokevirtual 78) 3 73 := ⟨by decide +kernel, rfl⟩
theorem dX6_firstPlaceTo_73 : dc cX6_firstPlaceTo 73 (.invokevirtual 40) 3 76 := ⟨by decide +kernel, rfl⟩
theorem dX6_firstPlaceTo_76 : dc cX6_firstPlaceTo 76 (.aload_n 0) 1 77 := ⟨by decide +kernel, rfl⟩
theorem dX6_firstPlaceTo_77 : dc cX6_firstPlaceTo 77 (.getfield 9) 3 80 := ⟨by decide +kernel, rfl⟩
theorem dX6_firstPlaceTo_80 : dc cX6_firstPlaceTo 80 (.iload_n 3) 1 81 := ⟨by decide +kernel, rfl⟩
theorem dX6_firstPlaceTo_81 : dc cX6_firstPlaceTo 81 (.iaload) 1 82 := ⟨by decide +kernel, rfl⟩
theorem dX6_firstPlaceTo_82 : dc cX6_firstPlaceTo 82 (.aload_n 1) 1 83 := ⟨by decide +kernel, rfl⟩
theorem dX6_firstPlaceTo_83 : dc cX6_firstPlaceTo 83 (.getfield 37) 3 86 := ⟨by decide +kernel, rfl⟩
theorem dX6_firstPlaceTo_86 : dc cX6_firstPlaceTo 86 (.invokestatic 44) 3 89 := ⟨by decide +kernel, rfl⟩
theorem dX6_firstPlaceTo_89 : dc cX6_firstPlaceTo 89 (.iload 5) 2 91 := ⟨by decide +kernel, rfl⟩
theorem dX6_firstPlaceTo_91 : dc cX6_firstPlaceTo 91 (.if_icmp .ne 6) 3 94 := ⟨by decide +kernel, rfl⟩
theorem dX6_firstPlaceTo_94 : dc cX6_firstPlaceTo 94 (.iload 6) 2 96 := ⟨by decide +kernel, rfl⟩
theorem dX6_firstPlaceTo_96 : dc cX6_firstPlaceTo 96 (.ireturn) 1 97 := ⟨by decide +kernel, rfl⟩
theorem dX6_firstPlaceTo_97 : dc cX6_firstPlaceTo 97 (.iinc 6 1) 3 100 := ⟨by decide +kernel, rfl⟩
theorem dX6_firstPlaceTo_100 : dc cX6_firstPlaceTo 100 (.goto (-76)) 3 103 := ⟨by decide +kernel, rfl⟩
theorem dX6_firstPlaceTo_103 : dc cX6_firstPlaceTo 103 (.iconst (-1)) 1 104 := ⟨by decide +kernel, rfl⟩
theorem dX6_firstPlaceTo_104 : dc cX6_firstPlaceTo 104 (.ireturn) 1 105 := ⟨by decide +kernel, rfl⟩
theorem nm_X6_firstPlaceTo : (yX6_firstPlaceTo).cls ≠ "java/lang/invoke/MethodHandle" ∧ (yX6_firstPlaceTo).cls ≠ "java/lang/invoke/VarHandle" ∧ (parseMethodDescriptor (yX6_firstPlaceTo).desc).map (fun d => d.parameters.length) = some 3 := ⟨by decide +kernel, by decide +kernel, by decide +kernel⟩
set_option maxRecDepth 100000 in
set_option maxHeartbeats 4000000 in
theorem s_X6_firstPlaceTo_24 {ad : Nat → Nat} {cy : Nat → ClassId} {x : KX} (G : KG ad cy x cX6_firstPlaceTo "NoonGuides$Paths" 8 (some (some .int)) 7) {a0 : Nat} {a1 : Nat} {c2 : Int32} {c3 : Int32} {c4 : Int32} {c5 : Int32} (h0 : kty a0 = 7) (h1 : kty a1 = 3) {y : (Int32 × KM)} : ∀ (n : Nat) (w6 : Int32) (M : KM), lp_X6_firstPlaceTo_24 n a0 a1 c2 c3 c4 c5 w6 M = some y → KV ad cy x (some (.int y.1), y.2) 24 [(0, .ref (ad a0)), (1, .ref (ad a1)), (2, .int c2), (3, .int c3), (4, .int c4), (5, .int c5), (6, .int w6)] [] M := by
  intro n
  induction n with
  | zero =>
    intro w6 M hf
    cases hf
  | succ n ih =>
    intro w6 M hf
    rw [lp_X6_firstPlaceTo_24] at hf
    refine v_iload G dX6_firstPlaceTo_24 6 rfl ?_
    refine v_aload_n G dX6_firstPlaceTo_26 1 rfl ?_
    refine gf_2_8 G h1 t_411 (Or.inl rfl) dX6_firstPlaceTo_27 ?_
    refine v_icmp_ge 103 G dX6_firstPlaceTo_30 (by decide) (fun h14 => ?_) (fun h14 => ?_)
    · replace hf := (if_pos h14).symm.trans hf
      refine v_iconst (-1 : Int32) G dX6_firstPlaceTo_103 (by decide) ?_
      obtain rfl := Option.some.inj hf
      exact v_iret G dX6_firstPlaceTo_104
    · replace hf := (if_neg h14).symm.trans hf
      refine v_iload G dX6_firstPlaceTo_33 5 rfl ?_
      refine v_ldc G dX6_firstPlaceTo_35 t_1245 ?_
      refine v_icmp_ge 103 G dX6_firstPlaceTo_37 (by decide) (fun h13 => ?_) (fun h13 => ?_)
      · replace hf := (if_pos h13).symm.trans hf
        refine v_iconst (-1 : Int32) G dX6_firstPlaceTo_103 (by decide) ?_
        obtain rfl := Option.some.inj hf
        exact v_iret G dX6_firstPlaceTo_104
      · replace hf := (if_neg h13).symm.trans hf
        refine v_aload_n G dX6_firstPlaceTo_40 1 rfl ?_
        refine v_iload G dX6_firstPlaceTo_41 4 rfl ?_
        refine v_iload G dX6_firstPlaceTo_43 6 rfl ?_
        obtain ⟨v4, hcv4, hf⟩ := bd_e hf
        refine v_callV [.int c4, .int w6] G (c_X2_roadBetween n h1 hcv4) h1 (by decide) rfl rfl rfl t_1272 t_791 t_792 t_13 t_793 nm_X2_roadBetween (by decide) (by decide) rfl rfl (Nat.le_of_ble_eq_true rfl) dX6_firstPlaceTo_45 (kv_ri ?_)
        refine v_istore [(7, .int v4), (0, .ref (ad a0)), (1, .ref (ad a1)), (2, .int c2), (3, .int c3), (4, .int c4), (5, .int c5), (6, .int w6)] G dX6_firstPlaceTo_48 (by decide) rfl ?_
        refine v_iload G dX6_firstPlaceTo_50 0 rfl ?_
        refine v_iconst (-1 : Int32) G dX6_firstPlaceTo_52 (by decide) ?_
        obtain ⟨j97, ej97, hf⟩ := lt_j hf
        have hj97 : ∀ (M5 : KM), j97 M5 = some y → KV ad cy x (some (.int y.1), y.2) 97 [(0, .ref (ad a0)), (1, .ref (ad a1)), (2, .int c2), (3, .int c3), (4, .int c4), (5, .int c5), (6, .int w6)] [] M5 := by
          intro M5 hf
          rw [ej97] at hf
          obtain ⟨v6, ev6⟩ : ∃ q : Int32, q = w6 + (1 : Int32) := ⟨_, rfl⟩
          replace hf := lt_e hf ev6
          refine v_iinc v6 [(6, .int v6), (0, .ref (ad a0)), (1, .ref (ad a1)), (2, .int c2), (3, .int c3), (4, .int c4), (5, .int c5)] G dX6_firstPlaceTo_97 6 rfl (by rw [ev6]; rfl) (by decide) rfl ?_
          refine v_goto 24 G dX6_firstPlaceTo_100 (by decide) ?_
          refine v_sub _ [1, 2, 3, 4, 5, 6, 0] rfl ?_
          exact ih v6 M5 hf
        refine v_icmp_eq 97 G dX6_firstPlaceTo_53 (by decide) (fun h12 => ?_) (fun h12 => ?_)
        · replace hf := (if_pos h12).symm.trans hf
          refine v_sub _ [1, 2, 3, 4, 5, 6, 7] rfl ?_
          exact hj97 M hf
        · replace hf := (if_neg h12).symm.trans hf
          refine v_aload_n G dX6_firstPlaceTo_56 1 rfl ?_
          refine v_aload_n G dX6_firstPlaceTo_57 2 rfl ?_
          refine v_iload_n G dX6_firstPlaceTo_58 3 rfl ?_
          refine v_iconst (-1 : Int32) G dX6_firstPlaceTo_59 (by decide) ?_
          refine v_iload G dX6_firstPlaceTo_60 7 rfl ?_
          refine v_aload_n G dX6_firstPlaceTo_62 2 rfl ?_
          refine v_iload_n G dX6_firstPlaceTo_63 3 rfl ?_
          refine v_iload G dX6_firstPlaceTo_64 0 rfl ?_
          refine v_aload_n G dX6_firstPlaceTo_66 2 rfl ?_
          refine gf_2_11 G h1 t_423 (Or.inl rfl) dX6_firstPlaceTo_67 ?_
          obtain ⟨v7, hcv7, hf⟩ := bd_e hf
          refine v_callV [.int c2, .int v4, .int (M.1 a1 11)] G (c_X2_arrivalBy n h1 hcv7) h1 (by decide) rfl rfl rfl t_1250 t_1251 t_1252 t_13 t_1253 nm_X2_arrivalBy (by decide) (by decide) rfl rfl (Nat.le_of_ble_eq_true rfl) dX6_firstPlaceTo_70 (kv_ri ?_)
          obtain ⟨v8, hcv8, hf⟩ := bd_e hf
          refine v_callV [.ref (ad a1), .int c2, .int (-1 : Int32), .int w6, .int v7] G (c_X6_findTimes n h0 h1 hcv8) h0 (by decide) rfl rfl rfl t_1237 t_1239 t_p42 t_10 t_1240 nm_X6_findTimes (by decide) (by decide) rfl rfl (Nat.le_of_ble_eq_true rfl) dX6_firstPlaceTo_73 (kv_rv ?_)
          refine v_aload_n G dX6_firstPlaceTo_76 1 rfl ?_
          refine gf_6_0 G h0 t_213 (Or.inl rfl) dX6_firstPlaceTo_77 ?_
          refine v_iload_n G dX6_firstPlaceTo_80 4 rfl ?_
          obtain ⟨g9, hf⟩ := gd_e hf
          refine al_28 G (kf_6_1 h0) g9 dX6_firstPlaceTo_81 ?_
          refine v_aload_n G dX6_firstPlaceTo_82 2 rfl ?_
          refine gf_2_11 G h1 t_423 (Or.inl rfl) dX6_firstPlaceTo_83 ?_
          obtain ⟨v10, hcv10⟩ : ∃ q, f_X6_minutesFrom (v8.1 (a0 + 1) (c3).toNatClampNeg) (v8.1 a1 11) v8 = q := ⟨_, rfl⟩
          replace hf := lt_e hf hcv10.symm
          refine v_callS [.int (v8.1 (a0 + 1) (c3).toNatClampNeg), .int (v8.1 a1 11)] G (c_X6_minutesFrom hcv10) t_1255 t_1256 t_10 t_1257 nm_X6_minutesFrom (by decide) (by decide) rfl rfl (Nat.le_of_ble_eq_true rfl) dX6_firstPlaceTo_86 (kv_ri ?_)
          refine v_iload G dX6_firstPlaceTo_89 6 rfl ?_
          refine v_icmp_ne 97 G dX6_firstPlaceTo_91 (by decide) (fun h11 => ?_) (fun h11 => ?_)
          · replace hf := (if_neg h11).symm.trans hf
            refine v_sub _ [1, 2, 3, 4, 5, 6, 7] rfl ?_
            exact hj97 v8 hf
          · replace hf := (if_pos h11).symm.trans hf
            refine v_iload G dX6_firstPlaceTo_94 7 rfl ?_
            obtain rfl := Option.some.inj hf
            exact v_iret G dX6_firstPlaceTo_96
set_option maxRecDepth 100000 in
set_option maxHeartbeats 4000000 in
theorem c_X6_firstPlaceTo {l : Launch} {ad : Nat → Nat} {cy : Nat → ClassId} {D : va_G} {z : Nat} (n : Nat) {a0 : Nat} {a1 : Nat} {p2 : Int32} {p3 : Int32} {M : KM} {y : (Int32 × KM)} (h0 : kty a0 = 7) (h1 : kty a1 = 3) (hf : f_X6_firstPlaceTo n a0 a1 p2 p3 M = some y) : KC l ad cy D z yX6_firstPlaceTo cX6_firstPlaceTo 8 (some .int) 7 [.ref (ad a0), .ref (ad a1), .int p2, .int p3] M (some (.int y.1), y.2) := by
  refine kv_enter (by decide +kernel) (Nat.le_of_ble_eq_true rfl) ?_
  intro x hl hD hz G
  subst hl hD hz
  unfold f_X6_firstPlaceTo at hf
  have G : KG ad cy x cX6_firstPlaceTo "NoonGuides$Paths" 8 (some (some .int)) 7 := G
  show KV ad cy x (some (.int y.1), y.2) 0 [(0, .ref (ad a0)), (1, .ref (ad a1)), (2, .int p2), (3, .int p3)] [] M
  refine v_aload_n G dX6_firstPlaceTo_0 1 rfl ?_
  refine gf_2_5 G h1 t_398 (Or.inl rfl) dX6_firstPlaceTo_1 ?_
  refine v_iload_n G dX6_firstPlaceTo_4 2 rfl ?_
  obtain ⟨g1, hf⟩ := gd_e hf
  refine al_Person G (kf_2_6 h1) g1 dX6_firstPlaceTo_5 ?_
  refine gf_7_5 G (ke_Person (kf_2_6 h1) (ix_lt g1)) t_343 (Or.inl rfl) dX6_firstPlaceTo_6 ?_
  refine v_nmi (fun v2 ev2 => ?_)
  replace hf := lt_e hf ev2
  refine v_istore [(4, .int v2), (0, .ref (ad a0)), (1, .ref (ad a1)), (2, .int p2), (3, .int p3)] G dX6_firstPlaceTo_9 (by decide) rfl ?_
  refine v_aload_n G dX6_firstPlaceTo_11 1 rfl ?_
  refine v_aload_n G dX6_firstPlaceTo_12 2 rfl ?_
  refine v_iload_n G dX6_firstPlaceTo_13 3 rfl ?_
  refine v_iconst (-1 : Int32) G dX6_firstPlaceTo_14 (by decide) ?_
  refine v_iload_n G dX6_firstPlaceTo_15 4 rfl ?_
  obtain ⟨v3, hcv3, hf⟩ := bd_e hf
  refine v_callV [.ref (ad a1), .int p2, .int (-1 : Int32), .int p3] G (c_X6_minutesTo n h0 h1 hcv3) h0 (by decide) rfl rfl rfl t_1271 t_1234 t_1235 t_10 t_1236 nm_X6_minutesTo (by decide) (by decide) rfl rfl (Nat.le_of_ble_eq_true rfl) dX6_firstPlaceTo_16 (kv_ri ?_)
  refine v_istore [(5, .int v3.1), (4, .int v2), (0, .ref (ad a0)), (1, .ref (ad a1)), (2, .int p2), (3, .int p3)] G dX6_firstPlaceTo_19 (by decide) rfl ?_
  refine v_iconst (0 : Int32) G dX6_firstPlaceTo_21 (by decide) ?_
  refine v_istore [(6, .int (0 : Int32)), (5, .int v3.1), (4, .int v2), (0, .ref (ad a0)), (1, .ref (ad a1)), (2, .int p2), (3, .int p3)] G dX6_firstPlaceTo_22 (by decide) rfl ?_
  refine v_sub _ [3, 4, 5, 6, 2, 1, 0] rfl ?_
  refine s_X6_firstPlaceTo_24 G h0 h1 n (0 : Int32) v3.2 hf
abbrev cX6_findMeeting : ByteArray := prog_8_method_8_code
def yX6_findMeeting : MethodName := ⟨RX6, "findMeeting", "(LNoonGuides$Land;II)V"⟩
theorem dX6_findMeeting_0 : dc cX6_findMeeting 0 (.aload_n 0) 1 1 := ⟨by decide +kernel, rfl⟩
theorem dX6_findMeeting_1 : dc cX6_findMeeting 1 (.aload_n 1) 1 2 := ⟨by decide +kernel, rfl⟩
theorem dX6_findMeeting_2 : dc cX6_findMeeting 2 (.iload_n 3) 1 3 := ⟨by decide +kernel, rfl⟩
theorem dX6_findMeeting_3 : dc cX6_findMeeting 3 (.iconst (-1)) 1 4 := ⟨by decide +kernel, rfl⟩
theorem dX6_findMeeting_4 : dc cX6_findMeeting 4 (.aload_n 1) 1 5 := ⟨by decide +kernel, rfl⟩
theorem dX6_findMeeting_5 : dc cX6_findMeeting 5 (.getfield 25) 3 8 := ⟨by decide +kernel, rfl⟩
theorem dX6_findMeeting_8 : dc cX6_findMeeting 8 (.iload_n 3) 1 9 := ⟨by decide +kernel, rfl⟩
theorem dX6_findMeeting_9 : dc cX6_findMeeting 9 (.aaload) 1 10 := ⟨by decide +kernel, rfl⟩
theorem dX6_findMeeting_10 : dc cX6_findMeeting 10 (.getfield 31) 3 13 := ⟨by decide +kernel, rfl⟩
theorem dX6_findMeeting_13 : dc cX6_findMeeting 13 (.aload_n 1) 1 14 := ⟨by decide +kernel, rfl⟩
theorem dX6_findMeeting_14 : dc cX6_findMeeting 14 (.getfield 37) 3 17 := ⟨by decide +kernel, rfl⟩
theorem dX6_findMeeting_17 : dc cX6_findMeeting 17 (.invokevirtual 40) 3 20 := ⟨by decide +kernel, rfl⟩
theorem dX6_findMeeting_20 : dc cX6_findMeeting 20 (.aload_n 0) 1 21 := ⟨by decide +kernel, rfl⟩
theorem dX6_findMeeting_21 : dc cX6_findMeeting 21 (.getfield 9) 3 24 := ⟨by decide +kernel, rfl⟩
theorem dX6_findMeeting_24 : dc cX6_findMeeting 24 (.iconst 0) 1 25 := ⟨by decide +kernel, rfl⟩
theorem dX6_findMeeting_25 : dc cX6_findMeeting 25 (.aload_n 0) 1 26 := ⟨by decide +kernel, rfl⟩
theorem dX6_findMeeting_26 : dc cX6_findMeeting 26 (.getfield 15) 3 29 := ⟨by decide +kernel, rfl⟩
theorem dX6_findMeeting_29 : dc cX6_findMeeting 29 (.iconst 0) 1 30 := ⟨by decide +kernel, rfl⟩
theorem dX6_findMeeting_30 : dc cX6_findMeeting 30 (.bipush 8) 2 32 := ⟨by decide +kernel, rfl⟩
theorem dX6_findMeeting_32 : dc cX6_findMeeting 32 (.invokestatic 89) 3 35 := ⟨by decide +kernel, rfl⟩
theorem dX6_findMeeting_35 : dc cX6_findMeeting 35 (.aload_n 0) 1 36 := ⟨by decide +kernel, rfl⟩
theorem dX6_findMeeting_36 : dc cX6_findMeeting 36 (.aload_n 1) 1 37 := ⟨by decide +kernel, rfl⟩
theorem dX6_findMeeting_37 : dc cX6_findMeeting 37 (.iload_n 2) 1 38 := ⟨by decide +kernel, rfl⟩
theorem dX6_findMeeting_38 : dc cX6_findMeeting 38 (.iconst (-1)) 1 39 := ⟨by decide +kernel, rfl⟩
theorem dX6_findMeeting_39 : dc cX6_findMeeting 39 (.aload_n 1) 1 40 := ⟨by decide +kernel, rfl⟩
theorem dX6_findMeeting_40 : dc cX6_findMeeting 40 (.getfield 25) 3 43 := ⟨by decide +kernel, rfl⟩
theorem dX6_findMeeting_43 : dc cX6_findMeeting 43 (.iload_n 2) 1 44 := ⟨by decide +kernel, rfl⟩
theorem dX6_findMeeting_44 : dc cX6_findMeeting 44 (.aaload) 1 45 := ⟨by decide +kernel, rfl⟩
theorem dX6_findMeeting_45 : dc cX6_findMeeting 45 (.getfield 31) 3 48 := ⟨by decide +kernel, rfl⟩
theorem dX6_findMeeting_48 : dc cX6_findMeeting 48 (.aload_n 1) 1 49 := ⟨by decide +kernel, rfl⟩
theorem dX6_findMeeting_49 : dc cX6_findMeeting 49 (.getfield 37) 3 52 := ⟨by decide +kernel, rfl⟩
theorem dX6_findMeeting_52 : dc cX6_findMeeting 52 (.invokevirtual 40) 3 55 := ⟨by decide +kernel, rfl⟩
theorem dX6_findMeeting_55 : dc cX6_findMeeting 55 (.aload_n 0) 1 56 := ⟨by decide +kernel, rfl⟩
theorem dX6_findMeeting_56 : dc cX6_findMeeting 56 (.iconst (-1)) 1 57 := ⟨by decide +kernel, rfl⟩
theorem dX6_findMeeting_57 : dc cX6_findMeeting 57 (.putfield 95) 3 60 := ⟨by decide +kernel, rfl⟩
theorem dX6_findMeeting_60 : dc cX6_findMeeting 60 (.aload_n 0) 1 61 := ⟨by decide +kernel, rfl⟩
theorem dX6_findMeeting_61 : dc cX6_findMeeting 61 (.ldc 48) 2 63 := ⟨by decide +kernel, rfl⟩
theorem dX6_findMeeting_63 : dc cX6_findMeeting 63 (.putfield 98) 3 66 := ⟨by decide +kernel, rfl⟩
theorem dX6_findMeeting_66 : dc cX6_findMeeting 66 (.iconst 0) 1 67 := ⟨by decide +kernel, rfl⟩
theorem dX6_findMeeting_67 : dc cX6_findMeeting 67 (.istore 4) 2 69 := ⟨by decide +kernel, rfl⟩
theorem dX6_findMeeting_69 : dc cX6_findMeeting 69 (.iload 4) 2 71 := ⟨by decide +kernel, rfl⟩
theorem dX6_findMeeting_71 : dc cX6_findMeeting 71 (.aload_n 1) 1 72 := ⟨by decide +kernel, rfl⟩
theorem dX6_findMeeting_72 : dc cX6_findMeeting 72 (.getfield 57) 3 75 := ⟨by decide +kernel, rfl⟩
theorem dX6_findMeeting_75 : dc cX6_findMeeting 75 (.if_icmp .ge 56) 3 78 := ⟨by decide +kernel, rfl⟩
theorem dX6_findMeeting_78 : dc cX6_findMeeting 78 (.aload_n 0) 1 79 := ⟨by decide +kernel, rfl⟩
theorem dX6_findMeeting_79 : dc cX6_findMeeting 79 (.getfield 9) 3 82 := ⟨by decide +kernel, rfl⟩
theorem dX6_findMeeting_82 : dc cX6_findMeeting 82 (.iload 4) 2 84 := ⟨by decide +kernel, rfl⟩
theorem dX6_findMeeting_84 : dc cX6_findMeeting 84 (.iaload) 1 85 := ⟨by decide +kernel, rfl⟩
theorem dX6_findMeeting_85 : dc cX6_findMeeting 85 (.aload_n 0) 1 86 := ⟨by decide +kernel, rfl⟩
theorem dX6_findMeeting_86 : dc cX6_findMeeting 86 (.getfield 15) 3 89 := ⟨by decide +kernel, rfl⟩
theorem dX6_findMeeting_89 : dc cX6_findMeeting 89 (.iload 4) 2 91 := ⟨by decide +kernel, rfl⟩
theorem dX6_findMeeting_91 : dc cX6_findMeeting 91 (.iaload) 1 92 := ⟨by decide +kernel, rfl⟩
theorem dX6_findMeeting_92 : dc cX6_findMeeting 92 (.invokestatic 101) 3 95 := ⟨by decide +kernel, rfl⟩
theorem dX6_findMeeting_95 : dc cX6_findMeeting 95 (.aload_n 1) 1 96 := ⟨by decide +kernel, rfl⟩
theorem dX6_findMeeting_96 : dc cX6_findMeeting 96 (.getfield 37) 3 99 := ⟨by decide +kernel, rfl⟩
theorem dX6_findMeeting_99 : dc cX6_findMeeting 99 (.invokestatic 44) 3 102 := ⟨by decide +kernel, rfl⟩
theorem dX6_findMeeting_102 : dc cX6_findMeeting 102 (.istore 5) 2 104 := ⟨by decide +kernel, rfl⟩
theorem dX6_findMeeting_104 : dc cX6_findMeeting 104 (.iload 5) 2 106 := ⟨by decide +kernel, rfl⟩
theorem dX6_findMeeting_106 : dc cX6_findMeeting 106 (.aload_n 0) 1 107 := ⟨by decide +kernel, rfl⟩
theorem dX6_findMeeting_107 : dc cX6_findMeeting 107 (.getfield 98) 3 110 := ⟨by decide +kernel, rfl⟩
theorem dX6_findMeeting_110 : dc cX6_findMeeting 110 (.if_icmp .ge 15) 3 113 := ⟨by decide +kernel, rfl⟩
theorem dX6_findMeeting_113 : dc cX6_findMeeting 113 (.aload_n 0) 1 114 := ⟨by decide +kernel, rfl⟩
theorem dX6_findMeeting_114 : dc cX6_findMeeting 114 (.iload 5) 2 116 := ⟨by decide +kernel, rfl⟩
theorem dX6_findMeeting_116 : dc cX6_findMeeting 116 (.putfield 98) 3 119 := ⟨by decide +kernel, rfl⟩
theorem dX6_findMeeting_119 : dc cX6_findMeeting 119 (.aload_n 0) 1 120 := ⟨by decide +kernel, rfl⟩
theorem dX6_findMeeting_120 : dc cX6_findMeeting 120 (.iload 4) 2 122 := ⟨by decide +kernel, rfl⟩
theorem dX6_findMeeting_122 : dc cX6_findMeeting 122 (.putfield 95) 3 125 := ⟨by decide +kernel, rfl⟩
theorem dX6_findMeeting_125 : dc cX6_findMeeting 125 (.iinc 4 1) 3 128 := ⟨by decide +kernel, rfl⟩
theorem dX6_findMeeting_128 : dc cX6_findMeeting 128 (.goto (-59)) 3 131 := ⟨by decide +kernel, rfl⟩
theorem dX6_findMeeting_131 : dc cX6_findMeeting 131 (.return_) 1 132 := ⟨by decide +kernel, rfl⟩
theorem nm_X6_findMeeting : (yX6_findMeeting).cls ≠ "java/lang/invoke/MethodHandle" ∧ (yX6_findMeeting).cls ≠ "java/lang/invoke/VarHandle" ∧ (parseMethodDescriptor (yX6_findMeeting).desc).map (fun d => d.parameters.length) = some 3 := ⟨by decide +kernel, by decide +kernel, by decide +kernel⟩
set_option maxRecDepth 100000 in
set_option maxHeartbeats 4000000 in
theorem s_X6_findMeeting_69 {ad : Nat → Nat} {cy : Nat → ClassId} {x : KX} (G : KG ad cy x cX6_findMeeting "NoonGuides$Paths" 6 (some none) 6) {a0 : Nat} {a1 : Nat} (h0 : kty a0 = 7) (h1 : kty a1 = 3) {y : KM} : ∀ (n : Nat) (w4 : Int32) (M : KM), lp_X6_findMeeting_69 n a0 a1 w4 M = some y → KV ad cy x (none, y) 69 [(0, .ref (ad a0)), (1, .ref (ad a1)), (4, .int w4)] [] M := by
  intro n
  induction n with
  | zero =>
    intro w4 M hf
    cases hf
  | succ n ih =>
    intro w4 M hf
    rw [lp_X6_findMeeting_69] at hf
    refine v_iload G dX6_findMeeting_69 2 rfl ?_
    refine v_aload_n G dX6_findMeeting_71 1 rfl ?_
    refine gf_2_8 G h1 t_411 (Or.inl rfl) dX6_findMeeting_72 ?_
    refine v_icmp_ge 131 G dX6_findMeeting_75 (by decide) (fun h18 => ?_) (fun h18 => ?_)
    · replace hf := (if_pos h18).symm.trans hf
      obtain rfl := Option.some.inj hf
      exact v_vret G dX6_findMeeting_131
    · replace hf := (if_neg h18).symm.trans hf
      refine v_aload_n G dX6_findMeeting_78 0 rfl ?_
      refine gf_6_0 G h0 t_213 (Or.inl rfl) dX6_findMeeting_79 ?_
      refine v_iload G dX6_findMeeting_82 2 rfl ?_
      obtain ⟨g9, hf⟩ := gd_e hf
      refine al_28 G (kf_6_1 h0) g9 dX6_findMeeting_84 ?_
      refine v_aload_n G dX6_findMeeting_85 0 rfl ?_
      refine gf_6_1 G h0 t_214 (Or.inl rfl) dX6_findMeeting_86 ?_
      refine v_iload G dX6_findMeeting_89 2 rfl ?_
      obtain ⟨g10, hf⟩ := gd_e hf
      refine al_28 G (kf_6_2 h0) g10 dX6_findMeeting_91 ?_
      refine v_mmax G (by decide) t_1293 t_1282 t_19 t_1283 (Nat.le_of_ble_eq_true rfl) dX6_findMeeting_92 ?_
      refine v_nmi (fun v11 ev11 => ?_)
      replace hf := lt_e hf ev11
      refine v_aload_n G dX6_findMeeting_95 1 rfl ?_
      refine gf_2_11 G h1 t_423 (Or.inl rfl) dX6_findMeeting_96 ?_
      obtain ⟨v12, hcv12⟩ : ∃ q, f_X6_minutesFrom v11 (M.1 a1 11) M = q := ⟨_, rfl⟩
      replace hf := lt_e hf hcv12.symm
      refine v_callS [.int v11, .int (M.1 a1 11)] G (c_X6_minutesFrom hcv12) t_1255 t_1256 t_10 t_1257 nm_X6_minutesFrom (by decide) (by decide) rfl rfl (Nat.le_of_ble_eq_true rfl) dX6_findMeeting_99 (kv_ri ?_)
      refine v_istore [(5, .int v12), (0, .ref (ad a0)), (1, .ref (ad a1)), (4, .int w4)] G dX6_findMeeting_102 (by decide) rfl ?_
      refine v_iload G dX6_findMeeting_104 0 rfl ?_
      refine v_aload_n G dX6_findMeeting_106 1 rfl ?_
      refine gf_6_5 G h0 t_219 (Or.inl rfl) dX6_findMeeting_107 ?_
      obtain ⟨j125, ej125, hf⟩ := lt_j hf
      have hj125 : ∀ (M13 : KM), j125 M13 = some y → KV ad cy x (none, y) 125 [(0, .ref (ad a0)), (1, .ref (ad a1)), (4, .int w4)] [] M13 := by
        intro M13 hf
        rw [ej125] at hf
        obtain ⟨v14, ev14⟩ : ∃ q : Int32, q = w4 + (1 : Int32) := ⟨_, rfl⟩
        replace hf := lt_e hf ev14
        refine v_iinc v14 [(4, .int v14), (0, .ref (ad a0)), (1, .ref (ad a1))] G dX6_findMeeting_125 2 rfl (by rw [ev14]; rfl) (by decide) rfl ?_
        refine v_goto 69 G dX6_findMeeting_128 (by decide) ?_
        refine v_sub _ [1, 2, 0] rfl ?_
        exact ih v14 M13 hf
      refine v_icmp_ge 125 G dX6_findMeeting_110 (by decide) (fun h17 => ?_) (fun h17 => ?_)
      · replace hf := (if_pos h17).symm.trans hf
        refine v_sub _ [1, 2, 3] rfl ?_
        exact hj125 M hf
      · replace hf := (if_neg h17).symm.trans hf
        refine v_aload_n G dX6_findMeeting_113 1 rfl ?_
        refine v_iload G dX6_findMeeting_114 0 rfl ?_
        refine pf_6_5 G h0 t_219 (Or.inl rfl) dX6_findMeeting_116 ?_
        refine v_nmM (fun M15 eM15 => ?_)
        replace hf := lt_e hf eM15
        refine v_aload_n G dX6_findMeeting_119 1 rfl ?_
        refine v_iload G dX6_findMeeting_120 3 rfl ?_
        refine pf_6_4 G h0 t_217 (Or.inl rfl) dX6_findMeeting_122 ?_
        refine v_nmM (fun M16 eM16 => ?_)
        replace hf := lt_e hf eM16
        refine v_sub _ [1, 2, 3] rfl ?_
        exact hj125 M16 hf
set_option maxRecDepth 100000 in
set_option maxHeartbeats 4000000 in
theorem c_X6_findMeeting {l : Launch} {ad : Nat → Nat} {cy : Nat → ClassId} {D : va_G} {z : Nat} (n : Nat) {a0 : Nat} {a1 : Nat} {p2 : Int32} {p3 : Int32} {M : KM} {y : KM} (h0 : kty a0 = 7) (h1 : kty a1 = 3) (hf : f_X6_findMeeting n a0 a1 p2 p3 M = some y) : KC l ad cy D z yX6_findMeeting cX6_findMeeting 6 none 6 [.ref (ad a0), .ref (ad a1), .int p2, .int p3] M (none, y) := by
  refine kv_enter (by decide +kernel) (Nat.le_of_ble_eq_true rfl) ?_
  intro x hl hD hz G
  subst hl hD hz
  unfold f_X6_findMeeting at hf
  have G : KG ad cy x cX6_findMeeting "NoonGuides$Paths" 6 (some none) 6 := G
  show KV ad cy x (none, y) 0 [(0, .ref (ad a0)), (1, .ref (ad a1)), (2, .int p2), (3, .int p3)] [] M
  refine v_aload_n G dX6_findMeeting_0 0 rfl ?_
  refine v_aload_n G dX6_findMeeting_1 1 rfl ?_
  refine v_iload_n G dX6_findMeeting_2 3 rfl ?_
  refine v_iconst (-1 : Int32) G dX6_findMeeting_3 (by decide) ?_
  refine v_aload_n G dX6_findMeeting_4 1 rfl ?_
  refine gf_2_5 G h1 t_398 (Or.inl rfl) dX6_findMeeting_5 ?_
  refine v_iload_n G dX6_findMeeting_8 3 rfl ?_
  obtain ⟨g1, hf⟩ := gd_e hf
  refine al_Person G (kf_2_6 h1) g1 dX6_findMeeting_9 ?_
  refine gf_7_5 G (ke_Person (kf_2_6 h1) (ix_lt g1)) t_343 (Or.inl rfl) dX6_findMeeting_10 ?_
  refine v_aload_n G dX6_findMeeting_13 1 rfl ?_
  refine gf_2_11 G h1 t_423 (Or.inl rfl) dX6_findMeeting_14 ?_
  obtain ⟨v2, hcv2, hf⟩ := bd_e hf
  refine v_callV [.ref (ad a1), .int p3, .int (-1 : Int32), .int (M.1 ((a1 + 6) + 8 + 3 * (p3).toNatClampNeg) 5), .int (M.1 a1 11)] G (c_X6_findTimes n h0 h1 hcv2) h0 (by decide) rfl rfl rfl t_1237 t_1239 t_p42 t_10 t_1240 nm_X6_findTimes (by decide) (by decide) rfl rfl (Nat.le_of_ble_eq_true rfl) dX6_findMeeting_17 (kv_rv ?_)
  refine v_aload_n G dX6_findMeeting_20 0 rfl ?_
  refine gf_6_0 G h0 t_213 (Or.inl rfl) dX6_findMeeting_21 ?_
  refine v_iconst (0 : Int32) G dX6_findMeeting_24 (by decide) ?_
  refine v_aload_n G dX6_findMeeting_25 0 rfl ?_
  refine gf_6_1 G h0 t_214 (Or.inl rfl) dX6_findMeeting_26 ?_
  refine v_iconst (0 : Int32) G dX6_findMeeting_29 (by decide) ?_
  refine v_bipush (8 : Int32) G dX6_findMeeting_30 (by decide) ?_
  obtain ⟨g3, hf⟩ := gd_e hf
  refine v_copyI G (by decide) (kf_6_1 h0) (kf_6_2 h0) (by decide) (by decide) rfl (fun _ => rfl) t_1292 t_622 t_621 t_18 g3 (Nat.le_of_ble_eq_true rfl) dX6_findMeeting_32 ?_
  refine v_nmM (fun M4 eM4 => ?_)
  replace hf := lt_e hf eM4
  refine v_aload_n G dX6_findMeeting_35 0 rfl ?_
  refine v_aload_n G dX6_findMeeting_36 1 rfl ?_
  refine v_iload_n G dX6_findMeeting_37 2 rfl ?_
  refine v_iconst (-1 : Int32) G dX6_findMeeting_38 (by decide) ?_
  refine v_aload_n G dX6_findMeeting_39 1 rfl ?_
  refine gf_2_5 G h1 t_398 (Or.inl rfl) dX6_findMeeting_40 ?_
  refine v_iload_n G dX6_findMeeting_43 2 rfl ?_
  obtain ⟨g5, hf⟩ := gd_e hf
  refine al_Person G (kf_2_6 h1) g5 dX6_findMeeting_44 ?_
  refine gf_7_5 G (ke_Person (kf_2_6 h1) (ix_lt g5)) t_343 (Or.inl rfl) dX6_findMeeting_45 ?_
  refine v_aload_n G dX6_findMeeting_48 1 rfl ?_
  refine gf_2_11 G h1 t_423 (Or.inl rfl) dX6_findMeeting_49 ?_
  obtain ⟨v6, hcv6, hf⟩ := bd_e hf
  refine v_callV [.ref (ad a1), .int p2, .int (-1 : Int32), .int (M4.1 ((a1 + 6) + 8 + 3 * (p2).toNatClampNeg) 5), .int (M4.1 a1 11)] G (c_X6_findTimes n h0 h1 hcv6) h0 (by decide) rfl rfl rfl t_1237 t_1239 t_p42 t_10 t_1240 nm_X6_findTimes (by decide) (by decide) rfl rfl (Nat.le_of_ble_eq_true rfl) dX6_findMeeting_52 (kv_rv ?_)
  refine v_aload_n G dX6_findMeeting_55 0 rfl ?_
  refine v_iconst (-1 : Int32) G dX6_findMeeting_56 (by decide) ?_
  refine pf_6_4 G h0 t_217 (Or.inl rfl) dX6_findMeeting_57 ?_
  refine v_nmM (fun M7 eM7 => ?_)
  replace hf := lt_e hf eM7
  refine v_aload_n G dX6_findMeeting_60 0 rfl ?_
  refine v_ldc G dX6_findMeeting_61 t_1245 ?_
  refine pf_6_5 G h0 t_219 (Or.inl rfl) dX6_findMeeting_63 ?_
  refine v_nmM (fun M8 eM8 => ?_)
  replace hf := lt_e hf eM8
  refine v_iconst (0 : Int32) G dX6_findMeeting_66 (by decide) ?_
  refine v_istore [(4, .int (0 : Int32)), (0, .ref (ad a0)), (1, .ref (ad a1)), (2, .int p2), (3, .int p3)] G dX6_findMeeting_67 (by decide) rfl ?_
  refine v_sub _ [1, 2, 0] rfl ?_
  refine s_X6_findMeeting_69 G h0 h1 n (0 : Int32) M8 hf
abbrev cX6_plantingCost : ByteArray := prog_8_method_9_code
def yX6_plantingCost : MethodName := ⟨RX6, "plantingCost", "(LNoonGuides$Land;II)I"⟩
theorem dX6_plantingCost_0 : dc cX6_plantingCost 0 (.aload_n 0) 1 1 := ⟨by decide +kernel, rfl⟩
theorem dX6_plantingCost_1 : dc cX6_plantingCost 1 (.aload_n 1) 1 2 := ⟨by decide +kernel, rfl⟩
theorem dX6_plantingCost_2 : dc cX6_plantingCost 2 (.aload_n 1) 1 3 := ⟨by decide +kernel, rfl⟩
theorem dX6_plantingCost_3 : dc cX6_plantingCost 3 (.getfield 25) 3 6 := ⟨by decide +kernel, rfl⟩
theorem dX6_plantingCost_6 : dc cX6_plantingCost 6 (.iload_n 2) 1 7 := ⟨by decide +kernel, rfl⟩
theorem dX6_plantingCost_7 : dc cX6_plantingCost 7 (.aaload) 1 8 := ⟨by decide +kernel, rfl⟩
theorem dX6_plantingCost_8 : dc cX6_plantingCost 8 (.getfield 31) 3 11 := ⟨by decide +kernel, rfl⟩
theorem dX6_plantingCost_11 : dc cX6_plantingCost 11 (.iconst 0) 1 12 := ⟨by decide +kernel, rfl⟩
theorem dX6_plantingCost_12 : dc cX6_plantingCost 12 (.invokevirtual 53) 3 15 := ⟨by decide +kernel, rfl⟩
theorem dX6_plantingCost_15 : dc cX6_plantingCost 15 (.iconst 1) 1 16 := ⟨by decide +kernel, rfl⟩
theorem dX6_plantingCost_16 : dc cX6_plantingCost 16 (.istore 4) 2 18 := ⟨by decide +kernel, rfl⟩
theorem dX6_plantingCost_18 : dc cX6_plantingCost 18 (.iload 4) 2 20 := ⟨by decide +kernel, rfl⟩
theorem dX6_plantingCost_20 : dc cX6_plantingCost 20 (.aload_n 1) 1 21 := ⟨by decide +kernel, rfl⟩
theorem dX6_plantingCost_21 : dc cX6_plantingCost 21 (.getfield 57) 3 24 := ⟨by decide +kernel, rfl⟩
theorem dX6_plantingCost_24 : dc cX6_plantingCost 24 (.if_icmp .ge 136) 3 27 := ⟨by decide +kernel, rfl⟩
theorem dX6_plantingCost_27 : dc cX6_plantingCost 27 (.iconst 0) 1 28 := ⟨by decide +kernel, rfl⟩
theorem dX6_plantingCost_28 : dc cX6_plantingCost 28 (.istore 5) 2 30 := ⟨by decide +kernel, rfl⟩
theorem dX6_plantingCost_30 : dc cX6_plantingCost 30 (.iload 5) 2 32 := ⟨by decide +kernel, rfl⟩
theorem dX6_plantingCost_32 : dc cX6_plantingCost 32 (.aload_n 1) 1 33 := ⟨by decide +kernel, rfl⟩
theorem dX6_plantingCost_33 : dc cX6_plantingCost 33 (.getfield 60) 3 36 := ⟨by decide +kernel, rfl⟩
theorem dX6_plantingCost_36 : dc cX6_plantingCost 36 (.if_icmp .ge 118) 3 39 := ⟨by decide +kernel, rfl⟩
theorem dX6_plantingCost_39 : dc cX6_plantingCost 39 (.aload_n 1) 1 40 := ⟨by decide +kernel, rfl⟩
theorem dX6_plantingCost_40 : dc cX6_plantingCost 40 (.iload_n 2) 1 41 := ⟨by decide +kernel, rfl⟩
theorem dX6_plantingCost_41 : dc cX6_plantingCost 41 (.iload 5) 2 43 := ⟨by decide +kernel, rfl⟩
theorem dX6_plantingCost_43 : dc cX6_plantingCost 43 (.invokevirtual 104) 3 46 := ⟨by decide +kernel, rfl⟩
theorem dX6_plantingCost_46 : dc cX6_plantingCost 46 (.iconst 2) 1 47 := ⟨by decide +kernel, rfl⟩
theorem dX6_plantingCost_47 : dc cX6_plantingCost 47 (.if_icmp .eq 7) 3 50 := ⟨by decide +kernel, rfl⟩
theorem dX6_plantingCost_50 : dc cX6_plantingCost 50 (.iconst 1) 1 51 := ⟨by decide +kernel, rfl⟩
theorem dX6_plantingCost_51 : dc cX6_plantingCost 51 (.goto 4) 3 54 := ⟨by decide +kernel, rfl⟩
theorem dX6_plantingCost_54 : dc cX6_plantingCost 54 (.iconst 0) 1 55 := ⟨by decide +kernel, rfl⟩
theorem dX6_plantingCost_55 : dc cX6_plantingCost 55 (.istore 6) 2 57 := ⟨by decide +kernel, rfl⟩
theorem dX6_plantingCost_57 : dc cX6_plantingCost 57 (.iload 6) 2 59 := ⟨by decide +kernel, rfl⟩
theorem dX6_plantingCost_59 : dc cX6_plantingCost 59 (.ifCond .eq 7) 3 62 := ⟨by decide +kernel, rfl⟩
theorem dX6_plantingCost_62 : dc cX6_plantingCost 62 (.iconst 0) 1 63 := ⟨by decide +kernel, rfl⟩
theorem dX6_plantingCost_63 : dc cX6_plantingCost 63 (.goto 11) 3 66 := ⟨by decide +kernel, rfl⟩
theorem dX6_plantingCost_66 : dc cX6_plantingCost 66 (.sipush 4096) 3 69 := ⟨by decide +kernel, rfl⟩
theorem dX6_plantingCost_69 : dc cX6_plantingCost 69 (.iconst 1) 1 70 := ⟨by decide +kernel, rfl⟩
theorem dX6_plantingCost_70 : dc cX6_plantingCost 70 (.iload 5) 2 72 := ⟨by decide +kernel, rfl⟩
theorem dX6_plantingCost_72 : dc cX6_plantingCost 72 (.ishl) 1 73 := ⟨by decide +kernel, rfl⟩
theorem dX6_plantingCost_73 : dc cX6_plantingCost 73 (.iadd) 1 74 := ⟨by decide +kernel, rfl⟩
theorem dX6_plantingCost_74 : dc cX6_plantingCost 74 (.istore 7) 2 76 := ⟨by decide +kernel, rfl⟩
theorem dX6_plantingCost_76 : dc cX6_plantingCost 76 (.aload_n 1) 1 77 := ⟨by decide +kernel, rfl⟩
theorem dX6_plantingCost_77 : dc cX6_plantingCost 77 (.getfield 63) 3 80 := ⟨by decide +kernel, rfl⟩
theorem dX6_plantingCost_80 : dc cX6_plantingCost 80 (.iload 5) 2 82 := ⟨by decide +kernel, rfl⟩
theorem dX6_plantingCost_82 : dc cX6_plantingCost 82 (.iaload) 1 83 := ⟨by decide +kernel, rfl⟩
theorem dX6_plantingCost_83 : dc cX6_plantingCost 83 (.istore 8) 2 85 := ⟨by decide +kernel, rfl⟩
theorem dX6_plantingCost_85 : dc cX6_plantingCost 85 (.aload_n 1) 1 86 := ⟨by decide +kernel, rfl⟩
theorem dX6_plantingCost_86 : dc cX6_plantingCost 86 (.getfield 66) 3 89 := ⟨by decide +kernel, rfl⟩
theorem dX6_plantingCost_89 : dc cX6_plantingCost 89 (.iload 5) 2 91 := ⟨by decide +kernel, rfl⟩
theorem dX6_plantingCost_91 : dc cX6_plantingCost 91 (.iaload) 1 92 := ⟨by decide +kernel, rfl⟩
theorem dX6_plantingCost_92 : dc cX6_plantingCost 92 (.istore 9) 2 94 := ⟨by decide +kernel, rfl⟩
theorem dX6_plantingCost_94 : dc cX6_plantingCost 94 (.aload_n 0) 1 95 := ⟨by decide +kernel, rfl⟩
theorem dX6_plantingCost_95 : dc cX6_plantingCost 95 (.getfield 9) 3 98 := ⟨by decide +kernel, rfl⟩
theorem dX6_plantingCost_98 : dc cX6_plantingCost 98 (.iload 9) 2 100 := ⟨by decide +kernel, rfl⟩
theorem dX6_plantingCost_100 : dc cX6_plantingCost 100 (.aload_n 0) 1 101 := ⟨by decide +kernel, rfl⟩
theorem dX6_plantingCost_101 : dc cX6_plantingCost 101 (.getfield 9) 3 104 := ⟨by decide +kernel, rfl⟩
theorem dX6_plantingCost_104 : dc cX6_plantingCost 104 (.iload 9) 2 106 := ⟨by decide +kernel, rfl⟩
theorem dX6_plantingCost_106 : dc cX6_plantingCost 106 (.iaload) 1 107 := ⟨by decide +kernel, rfl⟩
theorem dX6_plantingCost_107 : dc cX6_plantingCost 107 (.aload_n 0) 1 108 := ⟨by decide +kernel, rfl⟩
theorem dX6_plantingCost_108 : dc cX6_plantingCost 108 (.getfield 9) 3 111 := ⟨by decide +kernel, rfl⟩
theorem dX6_plantingCost_111 : dc cX6_plantingCost 111 (.iload 8) 2 113 := ⟨by decide +kernel, rfl⟩
theorem dX6_plantingCost_113 : dc cX6_plantingCost 113 (.iaload) 1 114 := ⟨by decide +kernel, rfl⟩
theorem dX6_plantingCost_114 : dc cX6_plantingCost 114 (.iload 7) 2 116 := ⟨by decide +kernel, rfl⟩
theorem dX6_plantingCost_116 : dc cX6_plantingCost 116 (.iadd) 1 117 := ⟨by decide +kernel, rfl⟩
theorem dX6_plantingCost_117 : dc cX6_plantingCost 117 (.invokestatic 73) 3 120 := ⟨by decide +kernel, rfl⟩
theorem dX6_plantingCost_120 : dc cX6_plantingCost 120 (.iastore) 1 121 := ⟨by decide +kernel, rfl⟩
theorem dX6_plantingCost_121 : dc cX6_plantingCost 121 (.aload_n 0) 1 122 := ⟨by decide +kernel, rfl⟩
theorem dX6_plantingCost_122 : dc cX6_plantingCost 122 (.getfield 9) 3 125 := ⟨by decide +kernel, rfl⟩
theorem dX6_plantingCost_125 : dc cX6_plantingCost 125 (.iload 8) 2 127 := ⟨by decide +kernel, rfl⟩
theorem dX6_plantingCost_127 : dc cX6_plantingCost 127 (.aload_n 0) 1 128 := ⟨by decide +kernel, rfl⟩
theorem dX6_plantingCost_128 : dc cX6_plantingCost 128 (.getfield 9) 3 131 := ⟨by decide +kernel, rfl⟩
theorem dX6_plantingCost_131 : dc cX6_plantingCost 131 (.iload 8) 2 133 := ⟨by decide +kernel, rfl⟩
theorem dX6_plantingCost_133 : dc cX6_plantingCost 133 (.iaload) 1 134 := ⟨by decide +kernel, rfl⟩
theorem dX6_plantingCost_134 : dc cX6_plantingCost 134 (.aload_n 0) 1 135 := ⟨by decide +kernel, rfl⟩
theorem dX6_plantingCost_135 : dc cX6_plantingCost 135 (.getfield 9) 3 138 := ⟨by decide +kernel, rfl⟩
theorem dX6_plantingCost_138 : dc cX6_plantingCost 138 (.iload 9) 2 140 := ⟨by decide +kernel, rfl⟩
theorem dX6_plantingCost_140 : dc cX6_plantingCost 140 (.iaload) 1 141 := ⟨by decide +kernel, rfl⟩
theorem dX6_plantingCost_141 : dc cX6_plantingCost 141 (.iload 7) 2 143 := ⟨by decide +kernel, rfl⟩
theorem dX6_plantingCost_143 : dc cX6_plantingCost 143 (.iadd) 1 144 := ⟨by decide +kernel, rfl⟩
theorem dX6_plantingCost_144 : dc cX6_plantingCost 144 (.invokestatic 73) 3 147 := ⟨by decide +kernel, rfl⟩
theorem dX6_plantingCost_147 : dc cX6_plantingCost 147 (.iastore) 1 148 := ⟨by decide +kernel, rfl⟩
theorem dX6_plantingCost_148 : dc cX6_plantingCost 148 (.iinc 5 1) 3 151 := ⟨by decide +kernel, rfl⟩
theorem dX6_plantingCost_151 : dc cX6_plantingCost 151 (.goto (-121)) 3 154 := ⟨by decide +kernel, rfl⟩
theorem dX6_plantingCost_154 : dc cX6_plantingCost 154 (.iinc 4 1) 3 157 := ⟨by decide +kernel, rfl⟩
theorem dX6_plantingCost_157 : dc cX6_plantingCost 157 (.goto (-139)) 3 160 := ⟨by decide +kernel, rfl⟩
theorem dX6_plantingCost_160 : dc cX6_plantingCost 160 (.aload_n 0) 1 161 := ⟨by decide +kernel, rfl⟩
theorem dX6_plantingCost_161 : dc cX6_plantingCost 161 (.getfield 9) 3 164 := ⟨by decide +kernel, rfl⟩
theorem dX6_plantingCost_164 : dc cX6_plantingCost 164 (.iload_n 3) 1 165 := ⟨by decide +kernel, rfl⟩
theorem dX6_plantingCost_165 : dc cX6_plantingCost 165 (.iaload) 1 166 := ⟨by decide +kernel, rfl⟩
theorem dX6_plantingCost_166 : dc cX6_plantingCost 166 (.ldc 48) 2 168 := ⟨by decide +kernel, rfl⟩
theorem dX6_plantingCost_168 : dc cX6_plantingCost 168 (.invokestatic 73) 3 171 := ⟨by decide +kernel, rfl⟩
theorem dX6_plantingCost_171 : dc cX6_plantingCost 171 (.ireturn) 1 172 := ⟨by decide +kernel, rfl⟩
theorem nm_X6_plantingCost : (yX6_plantingCost).cls ≠ "java/lang/invoke/MethodHandle" ∧ (yX6_plantingCost).cls ≠ "java/lang/invoke/VarHandle" ∧ (parseMethodDescriptor (yX6_plantingCost).desc).map (fun d => d.parameters.length) = some 3 := ⟨by decide +kernel, by decide +kernel, by decide +kernel⟩
set_option maxRecDepth 100000 in
set_option maxHeartbeats 4000000 in
theorem s_X6_plantingCost_30 {ad : Nat → Nat} {cy : Nat → ClassId} {x : KX} (G : KG ad cy x cX6_plantingCost "NoonGuides$Paths" 10 (some (some .int)) 3) {a0 : Nat} {a1 : Nat} {c2 : Int32} {c3 : Int32} {c4 : Int32} (h0 : kty a0 = 7) (h1 : kty a1 = 3) {k154 : KM → Option (Int32 × KM)} {y : (Int32 × KM)} (hk154 : ∀ (M : KM), k154 M = some y → KV ad cy x (some (.int y.1), y.2) 154 [(0, .ref (ad a0)), (1, .ref (ad a1)), (2, .int c2), (3, .int c3), (4, .int c4)] [] M) : ∀ (n : Nat) (w5 : Int32) (M : KM), lp_X6_plantingCost_30 n a0 a1 c2 c3 c4 w5 M k154 = some y → KV ad cy x (some (.int y.1), y.2) 30 [(0, .ref (ad a0)), (1, .ref (ad a1)), (2, .int c2), (3, .int c3), (4, .int c4), (5, .int w5)] [] M := by
  intro n
  induction n with
  | zero =>
    intro w5 M hf
    cases hf
  | succ n ih =>
    intro w5 M hf
    rw [lp_X6_plantingCost_30] at hf
    refine v_iload G dX6_plantingCost_30 5 rfl ?_
    refine v_aload_n G dX6_plantingCost_32 1 rfl ?_
    refine gf_2_9 G h1 t_415 (Or.inl rfl) dX6_plantingCost_33 ?_
    refine v_icmp_ge 154 G dX6_plantingCost_36 (by decide) (fun h23 => ?_) (fun h23 => ?_)
    · replace hf := (if_pos h23).symm.trans hf
      refine v_sub _ [0, 1, 2, 3, 4] rfl ?_
      exact hk154 M hf
    · replace hf := (if_neg h23).symm.trans hf
      refine v_aload_n G dX6_plantingCost_39 1 rfl ?_
      refine v_iload_n G dX6_plantingCost_40 2 rfl ?_
      refine v_iload G dX6_plantingCost_41 5 rfl ?_
      obtain ⟨v3, hcv3, hf⟩ := bd_e hf
      refine v_callV [.int c2, .int w5] G (c_X2_paceOf n h1 hcv3) h1 (by decide) rfl rfl rfl t_1310 t_1066 t_1067 t_13 t_1068 nm_X2_paceOf (by decide) (by decide) rfl rfl (Nat.le_of_ble_eq_true rfl) dX6_plantingCost_43 (kv_ri ?_)
      refine v_iconst (2 : Int32) G dX6_plantingCost_46 (by decide) ?_
      obtain ⟨j55, ej55, hf⟩ := lt_j hf
      have hj55 : ∀ (x4 : Int32), j55 x4 = some y → KV ad cy x (some (.int y.1), y.2) 55 [(0, .ref (ad a0)), (1, .ref (ad a1)), (2, .int c2), (3, .int c3), (4, .int c4), (5, .int w5)] [.int x4] M := by
        intro x4 hf
        rw [ej55] at hf
        refine v_istore [(6, .int x4), (0, .ref (ad a0)), (1, .ref (ad a1)), (2, .int c2), (3, .int c3), (4, .int c4), (5, .int w5)] G dX6_plantingCost_55 (by decide) rfl ?_
        refine v_iload G dX6_plantingCost_57 0 rfl ?_
        obtain ⟨j74, ej74, hf⟩ := lt_j hf
        have hj74 : ∀ (x5 : Int32), j74 x5 = some y → KV ad cy x (some (.int y.1), y.2) 74 [(0, .ref (ad a0)), (1, .ref (ad a1)), (2, .int c2), (3, .int c3), (4, .int c4), (5, .int w5)] [.int x5] M := by
          intro x5 hf
          rw [ej74] at hf
          refine v_istore [(7, .int x5), (0, .ref (ad a0)), (1, .ref (ad a1)), (2, .int c2), (3, .int c3), (4, .int c4), (5, .int w5)] G dX6_plantingCost_74 (by decide) rfl ?_
          refine v_aload_n G dX6_plantingCost_76 2 rfl ?_
          refine gf_2_1 G h1 t_388 (Or.inl rfl) dX6_plantingCost_77 ?_
          refine v_iload G dX6_plantingCost_80 6 rfl ?_
          obtain ⟨g6, hf⟩ := gd_e hf
          refine al_30 G (kf_2_2 h1) g6 dX6_plantingCost_82 ?_
          refine v_nmi (fun v7 ev7 => ?_)
          replace hf := lt_e hf ev7
          refine v_istore [(8, .int v7), (7, .int x5), (0, .ref (ad a0)), (1, .ref (ad a1)), (2, .int c2), (3, .int c3), (4, .int c4), (5, .int w5)] G dX6_plantingCost_83 (by decide) rfl ?_
          refine v_aload_n G dX6_plantingCost_85 3 rfl ?_
          refine gf_2_2 G h1 t_391 (Or.inl rfl) dX6_plantingCost_86 ?_
          refine v_iload G dX6_plantingCost_89 7 rfl ?_
          obtain ⟨g8, hf⟩ := gd_e hf
          refine al_30 G (kf_2_3 h1) g8 dX6_plantingCost_91 ?_
          refine v_nmi (fun v9 ev9 => ?_)
          replace hf := lt_e hf ev9
          refine v_istore [(9, .int v9), (8, .int v7), (7, .int x5), (0, .ref (ad a0)), (1, .ref (ad a1)), (2, .int c2), (3, .int c3), (4, .int c4), (5, .int w5)] G dX6_plantingCost_92 (by decide) rfl ?_
          refine v_aload_n G dX6_plantingCost_94 3 rfl ?_
          refine gf_6_0 G h0 t_213 (Or.inl rfl) dX6_plantingCost_95 ?_
          refine v_iload G dX6_plantingCost_98 0 rfl ?_
          refine v_aload_n G dX6_plantingCost_100 3 rfl ?_
          refine gf_6_0 G h0 t_213 (Or.inl rfl) dX6_plantingCost_101 ?_
          refine v_iload G dX6_plantingCost_104 0 rfl ?_
          obtain ⟨g10, hf⟩ := gd_e hf
          refine al_28 G (kf_6_1 h0) g10 dX6_plantingCost_106 ?_
          refine v_aload_n G dX6_plantingCost_107 3 rfl ?_
          refine gf_6_0 G h0 t_213 (Or.inl rfl) dX6_plantingCost_108 ?_
          refine v_iload G dX6_plantingCost_111 1 rfl ?_
          obtain ⟨g11, hf⟩ := gd_e hf
          refine al_28 G (kf_6_1 h0) g11 dX6_plantingCost_113 ?_
          refine v_iload G dX6_plantingCost_114 2 rfl ?_
          refine v_iadd G dX6_plantingCost_116 ?_
          refine v_mmin G (by decide) t_1254 t_658 t_19 t_659 (Nat.le_of_ble_eq_true rfl) dX6_plantingCost_117 ?_
          refine v_nmi (fun v12 ev12 => ?_)
          replace hf := lt_e hf ev12
          obtain ⟨g13, hf⟩ := gd_e hf
          refine as_28 G (kf_6_1 h0) g13 dX6_plantingCost_120 ?_
          refine v_nmM (fun M14 eM14 => ?_)
          replace hf := lt_e hf eM14
          refine v_aload_n G dX6_plantingCost_121 3 rfl ?_
          refine gf_6_0 G h0 t_213 (Or.inl rfl) dX6_plantingCost_122 ?_
          refine v_iload G dX6_plantingCost_125 1 rfl ?_
          refine v_aload_n G dX6_plantingCost_127 3 rfl ?_
          refine gf_6_0 G h0 t_213 (Or.inl rfl) dX6_plantingCost_128 ?_
          refine v_iload G dX6_plantingCost_131 1 rfl ?_
          obtain ⟨g15, hf⟩ := gd_e hf
          refine al_28 G (kf_6_1 h0) g15 dX6_plantingCost_133 ?_
          refine v_aload_n G dX6_plantingCost_134 3 rfl ?_
          refine gf_6_0 G h0 t_213 (Or.inl rfl) dX6_plantingCost_135 ?_
          refine v_iload G dX6_plantingCost_138 0 rfl ?_
          obtain ⟨g16, hf⟩ := gd_e hf
          refine al_28 G (kf_6_1 h0) g16 dX6_plantingCost_140 ?_
          refine v_iload G dX6_plantingCost_141 2 rfl ?_
          refine v_iadd G dX6_plantingCost_143 ?_
          refine v_mmin G (by decide) t_1254 t_658 t_19 t_659 (Nat.le_of_ble_eq_true rfl) dX6_plantingCost_144 ?_
          refine v_nmi (fun v17 ev17 => ?_)
          replace hf := lt_e hf ev17
          obtain ⟨g18, hf⟩ := gd_e hf
          refine as_28 G (kf_6_1 h0) g18 dX6_plantingCost_147 ?_
          refine v_nmM (fun M19 eM19 => ?_)
          replace hf := lt_e hf eM19
          obtain ⟨v20, ev20⟩ : ∃ q : Int32, q = w5 + (1 : Int32) := ⟨_, rfl⟩
          replace hf := lt_e hf ev20
          refine v_iinc v20 [(5, .int v20), (9, .int v9), (8, .int v7), (7, .int x5), (0, .ref (ad a0)), (1, .ref (ad a1)), (2, .int c2), (3, .int c3), (4, .int c4)] G dX6_plantingCost_148 8 rfl (by rw [ev20]; rfl) (by decide) rfl ?_
          refine v_goto 30 G dX6_plantingCost_151 (by decide) ?_
          refine v_sub _ [4, 5, 6, 7, 8, 0] rfl ?_
          exact ih v20 M19 hf
        refine v_if_eq 66 G dX6_plantingCost_59 (by decide) (fun h21 => ?_) (fun h21 => ?_)
        · replace hf := (if_pos h21).symm.trans hf
          refine v_sipush (4096 : Int32) G dX6_plantingCost_66 (by decide) ?_
          refine v_iconst (1 : Int32) G dX6_plantingCost_69 (by decide) ?_
          refine v_iload G dX6_plantingCost_70 6 rfl ?_
          refine v_ishl G dX6_plantingCost_72 ?_
          refine v_iadd G dX6_plantingCost_73 ?_
          refine v_sub _ [1, 2, 3, 4, 5, 6] rfl ?_
          exact hj74 ((4096 : Int32) + ((1 : Int32) <<< (w5 &&& 31))) hf
        · replace hf := (if_neg h21).symm.trans hf
          refine v_iconst (0 : Int32) G dX6_plantingCost_62 (by decide) ?_
          refine v_goto 74 G dX6_plantingCost_63 (by decide) ?_
          refine v_sub _ [1, 2, 3, 4, 5, 6] rfl ?_
          exact hj74 (0 : Int32) hf
      refine v_icmp_eq 54 G dX6_plantingCost_47 (by decide) (fun h22 => ?_) (fun h22 => ?_)
      · replace hf := (if_pos h22).symm.trans hf
        refine v_iconst (0 : Int32) G dX6_plantingCost_54 (by decide) ?_
        refine v_sub _ [0, 1, 2, 3, 4, 5] rfl ?_
        exact hj55 (0 : Int32) hf
      · replace hf := (if_neg h22).symm.trans hf
        refine v_iconst (1 : Int32) G dX6_plantingCost_50 (by decide) ?_
        refine v_goto 55 G dX6_plantingCost_51 (by decide) ?_
        refine v_sub _ [0, 1, 2, 3, 4, 5] rfl ?_
        exact hj55 (1 : Int32) hf
set_option maxRecDepth 100000 in
set_option maxHeartbeats 4000000 in
theorem s_X6_plantingCost_18 {ad : Nat → Nat} {cy : Nat → ClassId} {x : KX} (G : KG ad cy x cX6_plantingCost "NoonGuides$Paths" 10 (some (some .int)) 3) {a0 : Nat} {a1 : Nat} {c2 : Int32} {c3 : Int32} (h0 : kty a0 = 7) (h1 : kty a1 = 3) {k160 : KM → Option (Int32 × KM)} {y : (Int32 × KM)} (hk160 : ∀ (M : KM), k160 M = some y → KV ad cy x (some (.int y.1), y.2) 160 [(0, .ref (ad a0)), (3, .int c3)] [] M) : ∀ (n : Nat) (w4 : Int32) (M : KM), lp_X6_plantingCost_18 n a0 a1 c2 c3 w4 M k160 = some y → KV ad cy x (some (.int y.1), y.2) 18 [(0, .ref (ad a0)), (1, .ref (ad a1)), (2, .int c2), (3, .int c3), (4, .int w4)] [] M := by
  intro n
  induction n with
  | zero =>
    intro w4 M hf
    cases hf
  | succ n ih =>
    intro w4 M hf
    rw [lp_X6_plantingCost_18] at hf
    refine v_iload G dX6_plantingCost_18 4 rfl ?_
    refine v_aload_n G dX6_plantingCost_20 1 rfl ?_
    refine gf_2_8 G h1 t_411 (Or.inl rfl) dX6_plantingCost_21 ?_
    refine v_icmp_ge 160 G dX6_plantingCost_24 (by decide) (fun h26 => ?_) (fun h26 => ?_)
    · replace hf := (if_pos h26).symm.trans hf
      refine v_sub _ [0, 3] rfl ?_
      exact hk160 M hf
    · replace hf := (if_neg h26).symm.trans hf
      refine v_iconst (0 : Int32) G dX6_plantingCost_27 (by decide) ?_
      refine v_istore [(5, .int (0 : Int32)), (0, .ref (ad a0)), (1, .ref (ad a1)), (2, .int c2), (3, .int c3), (4, .int w4)] G dX6_plantingCost_28 (by decide) rfl ?_
      refine v_sub _ [1, 2, 3, 4, 5, 0] rfl ?_
      refine s_X6_plantingCost_30 G h0 h1 (fun M24 hf => ?_) n (0 : Int32) M hf
      · obtain ⟨v25, ev25⟩ : ∃ q : Int32, q = w4 + (1 : Int32) := ⟨_, rfl⟩
        replace hf := lt_e hf ev25
        refine v_iinc v25 [(4, .int v25), (0, .ref (ad a0)), (1, .ref (ad a1)), (2, .int c2), (3, .int c3)] G dX6_plantingCost_154 4 rfl (by rw [ev25]; rfl) (by decide) rfl ?_
        refine v_goto 18 G dX6_plantingCost_157 (by decide) ?_
        refine v_sub _ [1, 2, 3, 4, 0] rfl ?_
        exact ih v25 M24 hf
set_option maxRecDepth 100000 in
set_option maxHeartbeats 4000000 in
theorem c_X6_plantingCost {l : Launch} {ad : Nat → Nat} {cy : Nat → ClassId} {D : va_G} {z : Nat} (n : Nat) {a0 : Nat} {a1 : Nat} {p2 : Int32} {p3 : Int32} {M : KM} {y : (Int32 × KM)} (h0 : kty a0 = 7) (h1 : kty a1 = 3) (hf : f_X6_plantingCost n a0 a1 p2 p3 M = some y) : KC l ad cy D z yX6_plantingCost cX6_plantingCost 10 (some .int) 3 [.ref (ad a0), .ref (ad a1), .int p2, .int p3] M (some (.int y.1), y.2) := by
  refine kv_enter (by decide +kernel) (Nat.le_of_ble_eq_true rfl) ?_
  intro x hl hD hz G
  subst hl hD hz
  unfold f_X6_plantingCost at hf
  have G : KG ad cy x cX6_plantingCost "NoonGuides$Paths" 10 (some (some .int)) 3 := G
  show KV ad cy x (some (.int y.1), y.2) 0 [(0, .ref (ad a0)), (1, .ref (ad a1)), (2, .int p2), (3, .int p3)] [] M
  refine v_aload_n G dX6_plantingCost_0 0 rfl ?_
  refine v_aload_n G dX6_plantingCost_1 1 rfl ?_
  refine v_aload_n G dX6_plantingCost_2 1 rfl ?_
  refine gf_2_5 G h1 t_398 (Or.inl rfl) dX6_plantingCost_3 ?_
  refine v_iload_n G dX6_plantingCost_6 2 rfl ?_
  obtain ⟨g1, hf⟩ := gd_e hf
  refine al_Person G (kf_2_6 h1) g1 dX6_plantingCost_7 ?_
  refine gf_7_5 G (ke_Person (kf_2_6 h1) (ix_lt g1)) t_343 (Or.inl rfl) dX6_plantingCost_8 ?_
  refine v_iconst (0 : Int32) G dX6_plantingCost_11 (by decide) ?_
  obtain ⟨v2, hcv2, hf⟩ := bd_e hf
  refine v_callV [.ref (ad a1), .int (M.1 ((a1 + 6) + 8 + 3 * (p2).toNatClampNeg) 5), .int (0 : Int32)] G (c_X6_startAt n h0 h1 hcv2) h0 (by decide) rfl rfl rfl t_1241 t_1243 t_p43 t_10 t_1244 nm_X6_startAt (by decide) (by decide) rfl rfl (Nat.le_of_ble_eq_true rfl) dX6_plantingCost_12 (kv_rv ?_)
  refine v_iconst (1 : Int32) G dX6_plantingCost_15 (by decide) ?_
  refine v_istore [(4, .int (1 : Int32)), (0, .ref (ad a0)), (1, .ref (ad a1)), (2, .int p2), (3, .int p3)] G dX6_plantingCost_16 (by decide) rfl ?_
  refine v_sub _ [1, 2, 3, 4, 0] rfl ?_
  refine s_X6_plantingCost_18 G h0 h1 (fun M27 hf => ?_) n (1 : Int32) v2 hf
  · refine v_aload_n G dX6_plantingCost_160 0 rfl ?_
    refine gf_6_0 G h0 t_213 (Or.inl rfl) dX6_plantingCost_161 ?_
    refine v_iload_n G dX6_plantingCost_164 1 rfl ?_
    obtain ⟨g28, hf⟩ := gd_e hf
    refine al_28 G (kf_6_1 h0) g28 dX6_plantingCost_165 ?_
    refine v_ldc G dX6_plantingCost_166 t_1245 ?_
    refine v_mmin G (by decide) t_1254 t_658 t_19 t_659 (Nat.le_of_ble_eq_true rfl) dX6_plantingCost_168 ?_
    refine v_nmi (fun v29 ev29 => ?_)
    replace hf := lt_e hf ev29
    obtain rfl := Option.some.inj hf
    exact v_iret G dX6_plantingCost_171
abbrev cX6_goOneRoad : ByteArray := prog_8_method_11_code
def yX6_goOneRoad : MethodName := ⟨RX6, "goOneRoad", "(LNoonGuides$Land;I)V"⟩
theorem dX6_goOneRoad_0 : dc cX6_goOneRoad 0 (.iconst 0) 1 1 := ⟨by decide +kernel, rfl⟩
theorem dX6_goOneRoad_1 : dc cX6_goOneRoad 1 (.istore_n 3) 1 2 := ⟨by decide +kernel, rfl⟩
theorem dX6_goOneRoad_2 : dc cX6_goOneRoad 2 (.iload_n 3) 1 3 := ⟨by decide +kernel, rfl⟩
theorem dX6_goOneRoad_3 : dc cX6_goOneRoad 3 (.bipush 8) 2 5 := ⟨by decide +kernel, rfl⟩
theorem dX6_goOneRoad_5 : dc cX6_goOneRoad 5 (.if_icmp .ge 16) 3 8 := ⟨by decide +kernel, rfl⟩
theorem dX6_goOneRoad_8 : dc cX6_goOneRoad 8 (.aload_n 0) 1 9 := ⟨by decide +kernel, rfl⟩
theorem dX6_goOneRoad_9 : dc cX6_goOneRoad 9 (.getfield 22) 3 12 := ⟨by decide +kernel, rfl⟩
theorem dX6_goOneRoad_12 : dc cX6_goOneRoad 12 (.iload_n 3) 1 13 := ⟨by decide +kernel, rfl⟩
theorem dX6_goOneRoad_13 : dc cX6_goOneRoad 13 (.lconst 0) 1 14 := ⟨by decide +kernel, rfl⟩
theorem dX6_goOneRoad_14 : dc cX6_goOneRoad 14 (.lastore) 1 15 := ⟨by decide +kernel, rfl⟩
theorem dX6_goOneRoad_15 : dc cX6_goOneRoad 15 (.iinc 3 1) 3 18 := ⟨by decide +kernel, rfl⟩
theorem dX6_goOneRoad_18 : dc cX6_goOneRoad 18 (.goto (-16)) 3 21 := ⟨by decide +kernel, rfl⟩
theorem dX6_goOneRoad_21 : dc cX6_goOneRoad 21 (.iconst 0) 1 22 := ⟨by decide +kernel, rfl⟩
theorem dX6_goOneRoad_22 : dc cX6_goOneRoad 22 (.istore_n 3) 1 23 := ⟨by decide +kernel, rfl⟩
theorem dX6_goOneRoad_23 : dc cX6_goOneRoad 23 (.iload_n 3) 1 24 := ⟨by decide +kernel, rfl⟩
theorem dX6_goOneRoad_24 : dc cX6_goOneRoad 24 (.aload_n 1) 1 25 := ⟨by decide +kernel, rfl⟩
theorem dX6_goOneRoad_25 : dc cX6_goOneRoad 25 (.getfield 60) 3 28 := ⟨by decide +kernel, rfl⟩
theorem dX6_goOneRoad_28 : dc cX6_goOneRoad 28 (.if_icmp .ge 69) 3 31 := ⟨by decide +kernel, rfl⟩
theorem dX6_goOneRoad_31 : dc cX6_goOneRoad 31 (.aload_n 1) 1 32 := ⟨by decide +kernel, rfl⟩
theorem dX6_goOneRoad_32 : dc cX6_goOneRoad 32 (.iload_n 2) 1 33 := ⟨by decide +kernel, rfl⟩
theorem dX6_goOneRoad_33 : dc cX6_goOneRoad 33 (.iload_n 3) 1 34 := ⟨by decide +kernel, rfl⟩
theorem dX6_goOneRoad_34 : dc cX6_goOneRoad 34 (.invokevirtual 104) 3 37 := ⟨by decide +kernel, rfl⟩
theorem dX6_goOneRoad_37 : dc cX6_goOneRoad 37 (.iconst 2) 1 38 := ⟨by decide +kernel, rfl⟩
theorem dX6_goOneRoad_38 : dc cX6_goOneRoad 38 (.if_icmp .eq 53) 3 41 := ⟨by decide +kernel, rfl⟩
theorem dX6_goOneRoad_41 : dc cX6_goOneRoad 41 (.aload_n 0) 1 42 := ⟨by decide +kernel, rfl⟩
theorem dX6_goOneRoad_42 : dc cX6_goOneRoad 42 (.getfield 22) 3 45 := ⟨by decide +kernel, rfl⟩
theorem dX6_goOneRoad_45 : dc cX6_goOneRoad 45 (.aload_n 1) 1 46 := ⟨by decide +kernel, rfl⟩
theorem dX6_goOneRoad_46 : dc cX6_goOneRoad 46 (.getfield 66) 3 49 := ⟨by decide +kernel, rfl⟩
theorem dX6_goOneRoad_49 : dc cX6_goOneRoad 49 (.iload_n 3) 1 50 := ⟨by decide +kernel, rfl⟩
theorem dX6_goOneRoad_50 : dc cX6_goOneRoad 50 (.iaload) 1 51 := ⟨by decide +kernel, rfl⟩
theorem dX6_goOneRoad_51 : dc cX6_goOneRoad 51 (.dup2) 1 52 := ⟨by decide +kernel, rfl⟩
theorem dX6_goOneRoad_52 : dc cX6_goOneRoad 52 (.laload) 1 53 := ⟨by decide +kernel, rfl⟩
theorem dX6_goOneRoad_53 : dc cX6_goOneRoad 53 (.aload_n 0) 1 54 := ⟨by decide +kernel, rfl⟩
theorem dX6_goOneRoad_54 : dc cX6_goOneRoad 54 (.getfield 18) 3 57 := ⟨by decide +kernel, rfl⟩
theorem dX6_goOneRoad_57 : dc cX6_goOneRoad 57 (.aload_n 1) 1 58 := ⟨by decide +kernel, rfl⟩
theorem dX6_goOneRoad_58 : dc cX6_goOneRoad 58 (.getfield 63) 3 61 := ⟨by decide +kernel, rfl⟩
theorem dX6_goOneRoad_61 : dc cX6_goOneRoad 61 (.iload_n 3) 1 62 := ⟨by decide +kernel, rfl⟩
theorem dX6_goOneRoad_62 : dc cX6_goOneRoad 62 (.iaload) 1 63 := ⟨by decide +kernel, rfl⟩
theorem dX6_goOneRoad_63 : dc cX6_goOneRoad 63 (.laload) 1 64 := ⟨by decide +kernel, rfl⟩
theorem dX6_goOneRoad_64 : dc cX6_goOneRoad 64 (.ladd) 1 65 := ⟨by decide +kernel, rfl⟩
theorem dX6_goOneRoad_65 : dc cX6_goOneRoad 65 (.lastore) 1 66 := ⟨by decide +kernel, rfl⟩
theorem dX6_goOneRoad_66 : dc cX6_goOneRoad 66 (.aload_n 0) 1 67 := ⟨by decide +kernel, rfl⟩
theorem dX6_goOneRoad_67 : dc cX6_goOneRoad 67 (.getfield 22) 3 70 := ⟨by decide +kernel, rfl⟩
theorem dX6_goOneRoad_70 : dc cX6_goOneRoad 70 (.aload_n 1) 1 71 := ⟨by decide +kernel, rfl⟩
theorem dX6_goOneRoad_71 : dc cX6_goOneRoad 71 (.getfield 63) 3 74 := ⟨by decide +kernel, rfl⟩
theorem dX6_goOneRoad_74 : dc cX6_goOneRoad 74 (.iload_n 3) 1 75 := ⟨by decide +kernel, rfl⟩
theorem dX6_goOneRoad_75 : dc cX6_goOneRoad 75 (.iaload) 1 76 := ⟨by decide +kernel, rfl⟩
theorem dX6_goOneRoad_76 : dc cX6_goOneRoad 76 (.dup2) 1 77 := ⟨by decide +kernel, rfl⟩
theorem dX6_goOneRoad_77 : dc cX6_goOneRoad 77 (.laload) 1 78 := ⟨by decide +kernel, rfl⟩
theorem dX6_goOneRoad_78 : dc cX6_goOneRoad 78 (.aload_n 0) 1 79 := ⟨by decide +kernel, rfl⟩
theorem dX6_goOneRoad_79 : dc cX6_goOneRoad 79 (.getfield 18) 3 82 := ⟨by decide +kernel, rfl⟩
theorem dX6_goOneRoad_82 : dc cX6_goOneRoad 82 (.aload_n 1) 1 83 := ⟨by decide +kernel, rfl⟩
theorem dX6_goOneRoad_83 : dc cX6_goOneRoad 83 (.getfield 66) 3 86 := ⟨by decide +kernel, rfl⟩
theorem dX6_goOneRoad_86 : dc cX6_goOneRoad 86 (.iload_n 3) 1 87 := ⟨by decide +kernel, rfl⟩
theorem dX6_goOneRoad_87 : dc cX6_goOneRoad 87 (.iaload) 1 88 := ⟨by decide +kernel, rfl⟩
theorem dX6_goOneRoad_88 : dc cX6_goOneRoad 88 (.laload) 1 89 := ⟨by decide +kernel, rfl⟩
theorem dX6_goOneRoad_89 : dc cX6_goOneRoad 89 (.ladd) 1 90 := ⟨by decide +kernel, rfl⟩
theorem dX6_goOneRoad_90 : dc cX6_goOneRoad 90 (.lastore) 1 91 := ⟨by decide +kernel, rfl⟩
theorem dX6_goOneRoad_91 : dc cX6_goOneRoad 91 (.iinc 3 1) 3 94 := ⟨by decide +kernel, rfl⟩
theorem dX6_goOneRoad_94 : dc cX6_goOneRoad 94 (.goto (-71)) 3 97 := ⟨by decide +kernel, rfl⟩
theorem dX6_goOneRoad_97 : dc cX6_goOneRoad 97 (.aload_n 0) 1 98 := ⟨by decide +kernel, rfl⟩
theorem dX6_goOneRoad_98 : dc cX6_goOneRoad 98 (.getfield 18) 3 101 := ⟨by decide +kernel, rfl⟩
theorem dX6_goOneRoad_101 : dc cX6_goOneRoad 101 (.astore_n 3) 1 102 := ⟨by decide +kernel, rfl⟩
theorem dX6_goOneRoad_102 : dc cX6_goOneRoad 102 (.aload_n 0) 1 103 := ⟨by decide +kernel, rfl⟩
theorem dX6_goOneRoad_103 : dc cX6_goOneRoad 103 (.aload_n 0) 1 104 := ⟨by decide +kernel, rfl⟩
theorem dX6_goOneRoad_104 : dc cX6_goOneRoad 104 (.getfield 22) 3 107 := ⟨by decide +kernel, rfl⟩
theorem dX6_goOneRoad_107 : dc cX6_goOneRoad 107 (.putfield 18) 3 110 := ⟨by decide +kernel, rfl⟩
theorem dX6_goOneRoad_110 : dc cX6_goOneRoad 110 (.aload_n 0) 1 111 := ⟨by decide +kernel, rfl⟩
theorem dX6_goOneRoad_111 : dc cX6_goOneRoad 111 (.aload_n 3) 1 112 := ⟨by decide +kernel, rfl⟩
theorem dX6_goOneRoad_112 : dc cX6_goOneRoad 112 (.putfield 22) 3 115 := ⟨by decide +kernel, rfl⟩
theorem dX6_goOneRoad_115 : dc cX6_goOneRoad 115 (.return_) 1 116 := ⟨by decide +kernel, rfl⟩
theorem nm_X6_goOneRoad : (yX6_goOneRoad).cls ≠ "java/lang/invoke/MethodHandle" ∧ (yX6_goOneRoad).cls ≠ "java/lang/invoke/VarHandle" ∧ (parseMethodDescriptor (yX6_goOneRoad).desc).map (fun d => d.parameters.length) = some 2 := ⟨by decide +kernel, by decide +kernel, by decide +kernel⟩
set_option maxRecDepth 100000 in
set_option maxHeartbeats 4000000 in
theorem s_X6_goOneRoad_2 {ad : Nat → Nat} {cy : Nat → ClassId} {x : KX} (G : KG ad cy x cX6_goOneRoad "NoonGuides$Paths" 4 (some none) 2) {a0 : Nat} {a1 : Nat} {c2 : Int32} (h0 : kty a0 = 7) (h1 : kty a1 = 3) {k21 : KM → Option KM} {y : KM} (hk21 : ∀ (M : KM), k21 M = some y → KV ad cy x (none, y) 21 [(0, .ref (ad a0)), (1, .ref (ad a1)), (2, .int c2)] [] M) : ∀ (n : Nat) (w3 : Int32) (M : KM), lp_X6_goOneRoad_2 n a0 a1 c2 w3 M k21 = some y → KV ad cy x (none, y) 2 [(0, .ref (ad a0)), (1, .ref (ad a1)), (2, .int c2), (3, .int w3)] [] M := by
  intro n
  induction n with
  | zero =>
    intro w3 M hf
    cases hf
  | succ n ih =>
    intro w3 M hf
    rw [lp_X6_goOneRoad_2] at hf
    refine v_iload_n G dX6_goOneRoad_2 3 rfl ?_
    refine v_bipush (8 : Int32) G dX6_goOneRoad_3 (by decide) ?_
    refine v_icmp_ge 21 G dX6_goOneRoad_5 (by decide) (fun h5 => ?_) (fun h5 => ?_)
    · replace hf := (if_pos h5).symm.trans hf
      refine v_sub _ [0, 1, 2] rfl ?_
      exact hk21 M hf
    · replace hf := (if_neg h5).symm.trans hf
      refine v_aload_n G dX6_goOneRoad_8 0 rfl ?_
      refine gf_6_3 G h0 t_216 (Or.inl rfl) dX6_goOneRoad_9 ?_
      refine v_kt (fun hKT => ?_)
      have hk1 := hKT.2.2.2.2.2.2.2 _ h0
      refine v_iload_n G dX6_goOneRoad_12 3 rfl ?_
      refine v_lconst (0 : Int64) G dX6_goOneRoad_13 (by decide) ?_
      obtain ⟨g2, hf⟩ := gd_e hf
      refine as_29 G hk1 g2 dX6_goOneRoad_14 ?_
      refine v_nmM (fun M3 eM3 => ?_)
      replace hf := lt_e hf eM3
      obtain ⟨v4, ev4⟩ : ∃ q : Int32, q = w3 + (1 : Int32) := ⟨_, rfl⟩
      replace hf := lt_e hf ev4
      refine v_iinc v4 [(3, .int v4), (0, .ref (ad a0)), (1, .ref (ad a1)), (2, .int c2)] G dX6_goOneRoad_15 3 rfl (by rw [ev4]; rfl) (by decide) rfl ?_
      refine v_goto 2 G dX6_goOneRoad_18 (by decide) ?_
      refine v_sub _ [1, 2, 3, 0] rfl ?_
      exact ih v4 M3 hf
set_option maxRecDepth 100000 in
set_option maxHeartbeats 4000000 in
theorem s_X6_goOneRoad_23 {ad : Nat → Nat} {cy : Nat → ClassId} {x : KX} (G : KG ad cy x cX6_goOneRoad "NoonGuides$Paths" 4 (some none) 2) {a0 : Nat} {a1 : Nat} {c2 : Int32} (h0 : kty a0 = 7) (h1 : kty a1 = 3) {k97 : KM → Option KM} {y : KM} (hk97 : ∀ (M : KM), k97 M = some y → KV ad cy x (none, y) 97 [(0, .ref (ad a0))] [] M) : ∀ (n : Nat) (w3 : Int32) (M : KM), lp_X6_goOneRoad_23 n a0 a1 c2 w3 M k97 = some y → KV ad cy x (none, y) 23 [(0, .ref (ad a0)), (1, .ref (ad a1)), (2, .int c2), (3, .int w3)] [] M := by
  intro n
  induction n with
  | zero =>
    intro w3 M hf
    cases hf
  | succ n ih =>
    intro w3 M hf
    rw [lp_X6_goOneRoad_23] at hf
    refine v_iload_n G dX6_goOneRoad_23 3 rfl ?_
    refine v_aload_n G dX6_goOneRoad_24 1 rfl ?_
    refine gf_2_9 G h1 t_415 (Or.inl rfl) dX6_goOneRoad_25 ?_
    refine v_icmp_ge 97 G dX6_goOneRoad_28 (by decide) (fun h29 => ?_) (fun h29 => ?_)
    · replace hf := (if_pos h29).symm.trans hf
      refine v_sub _ [0] rfl ?_
      exact hk97 M hf
    · replace hf := (if_neg h29).symm.trans hf
      refine v_aload_n G dX6_goOneRoad_31 1 rfl ?_
      refine v_iload_n G dX6_goOneRoad_32 2 rfl ?_
      refine v_iload_n G dX6_goOneRoad_33 3 rfl ?_
      obtain ⟨v7, hcv7, hf⟩ := bd_e hf
      refine v_callV [.int c2, .int w3] G (c_X2_paceOf n h1 hcv7) h1 (by decide) rfl rfl rfl t_1310 t_1066 t_1067 t_13 t_1068 nm_X2_paceOf (by decide) (by decide) rfl rfl (Nat.le_of_ble_eq_true rfl) dX6_goOneRoad_34 (kv_ri ?_)
      refine v_iconst (2 : Int32) G dX6_goOneRoad_37 (by decide) ?_
      obtain ⟨j91, ej91, hf⟩ := lt_j hf
      have hj91 : ∀ (M8 : KM), j91 M8 = some y → KV ad cy x (none, y) 91 [(0, .ref (ad a0)), (1, .ref (ad a1)), (2, .int c2), (3, .int w3)] [] M8 := by
        intro M8 hf
        rw [ej91] at hf
        obtain ⟨v9, ev9⟩ : ∃ q : Int32, q = w3 + (1 : Int32) := ⟨_, rfl⟩
        replace hf := lt_e hf ev9
        refine v_iinc v9 [(3, .int v9), (0, .ref (ad a0)), (1, .ref (ad a1)), (2, .int c2)] G dX6_goOneRoad_91 3 rfl (by rw [ev9]; rfl) (by decide) rfl ?_
        refine v_goto 23 G dX6_goOneRoad_94 (by decide) ?_
        refine v_sub _ [1, 2, 3, 0] rfl ?_
        exact ih v9 M8 hf
      refine v_icmp_eq 91 G dX6_goOneRoad_38 (by decide) (fun h28 => ?_) (fun h28 => ?_)
      · replace hf := (if_pos h28).symm.trans hf
        refine v_sub _ [0, 1, 2, 3] rfl ?_
        exact hj91 M hf
      · replace hf := (if_neg h28).symm.trans hf
        refine v_aload_n G dX6_goOneRoad_41 0 rfl ?_
        refine gf_6_3 G h0 t_216 (Or.inl rfl) dX6_goOneRoad_42 ?_
        refine v_kt (fun hKT => ?_)
        have hk10 := hKT.2.2.2.2.2.2.2 _ h0
        refine v_aload_n G dX6_goOneRoad_45 1 rfl ?_
        refine gf_2_2 G h1 t_391 (Or.inl rfl) dX6_goOneRoad_46 ?_
        refine v_iload_n G dX6_goOneRoad_49 3 rfl ?_
        obtain ⟨g11, hf⟩ := gd_e hf
        refine al_30 G (kf_2_3 h1) g11 dX6_goOneRoad_50 ?_
        refine v_nmi (fun v12 ev12 => ?_)
        replace hf := lt_e hf ev12
        refine v_dup2 G dX6_goOneRoad_51 rfl rfl ?_
        obtain ⟨g13, hf⟩ := gd_e hf
        refine al_29 G hk10 g13 dX6_goOneRoad_52 ?_
        refine v_aload_n G dX6_goOneRoad_53 0 rfl ?_
        refine gf_6_2 G h0 t_215 (Or.inl rfl) dX6_goOneRoad_54 ?_
        refine v_kt (fun hKT => ?_)
        have hk14 := hKT.2.2.2.2.2.2.1 _ h0
        refine v_aload_n G dX6_goOneRoad_57 1 rfl ?_
        refine gf_2_1 G h1 t_388 (Or.inl rfl) dX6_goOneRoad_58 ?_
        refine v_iload_n G dX6_goOneRoad_61 3 rfl ?_
        obtain ⟨g15, hf⟩ := gd_e hf
        refine al_30 G (kf_2_2 h1) g15 dX6_goOneRoad_62 ?_
        obtain ⟨g16, hf⟩ := gd_e hf
        refine al_29 G hk14 g16 dX6_goOneRoad_63 ?_
        refine v_ladd G dX6_goOneRoad_64 ?_
        obtain ⟨g17, hf⟩ := gd_e hf
        refine as_29 G hk10 g17 dX6_goOneRoad_65 ?_
        refine v_nmM (fun M18 eM18 => ?_)
        replace hf := lt_e hf eM18
        refine v_aload_n G dX6_goOneRoad_66 0 rfl ?_
        refine gf_6_3 G h0 t_216 (Or.inl rfl) dX6_goOneRoad_67 ?_
        refine v_kt (fun hKT => ?_)
        have hk19 := hKT.2.2.2.2.2.2.2 _ h0
        refine v_aload_n G dX6_goOneRoad_70 1 rfl ?_
        refine gf_2_1 G h1 t_388 (Or.inl rfl) dX6_goOneRoad_71 ?_
        refine v_iload_n G dX6_goOneRoad_74 3 rfl ?_
        obtain ⟨g20, hf⟩ := gd_e hf
        refine al_30 G (kf_2_2 h1) g20 dX6_goOneRoad_75 ?_
        refine v_nmi (fun v21 ev21 => ?_)
        replace hf := lt_e hf ev21
        refine v_dup2 G dX6_goOneRoad_76 rfl rfl ?_
        obtain ⟨g22, hf⟩ := gd_e hf
        refine al_29 G hk19 g22 dX6_goOneRoad_77 ?_
        refine v_aload_n G dX6_goOneRoad_78 0 rfl ?_
        refine gf_6_2 G h0 t_215 (Or.inl rfl) dX6_goOneRoad_79 ?_
        refine v_kt (fun hKT => ?_)
        have hk23 := hKT.2.2.2.2.2.2.1 _ h0
        refine v_aload_n G dX6_goOneRoad_82 1 rfl ?_
        refine gf_2_2 G h1 t_391 (Or.inl rfl) dX6_goOneRoad_83 ?_
        refine v_iload_n G dX6_goOneRoad_86 3 rfl ?_
        obtain ⟨g24, hf⟩ := gd_e hf
        refine al_30 G (kf_2_3 h1) g24 dX6_goOneRoad_87 ?_
        obtain ⟨g25, hf⟩ := gd_e hf
        refine al_29 G hk23 g25 dX6_goOneRoad_88 ?_
        refine v_ladd G dX6_goOneRoad_89 ?_
        obtain ⟨g26, hf⟩ := gd_e hf
        refine as_29 G hk19 g26 dX6_goOneRoad_90 ?_
        refine v_nmM (fun M27 eM27 => ?_)
        replace hf := lt_e hf eM27
        refine v_sub _ [0, 1, 2, 3] rfl ?_
        exact hj91 M27 hf
set_option maxRecDepth 100000 in
set_option maxHeartbeats 4000000 in
theorem c_X6_goOneRoad {l : Launch} {ad : Nat → Nat} {cy : Nat → ClassId} {D : va_G} {z : Nat} (n : Nat) {a0 : Nat} {a1 : Nat} {p2 : Int32} {M : KM} {y : KM} (h0 : kty a0 = 7) (h1 : kty a1 = 3) (hf : f_X6_goOneRoad n a0 a1 p2 M = some y) : KC l ad cy D z yX6_goOneRoad cX6_goOneRoad 4 none 2 [.ref (ad a0), .ref (ad a1), .int p2] M (none, y) := by
  refine kv_enter (by decide +kernel) (Nat.le_of_ble_eq_true rfl) ?_
  intro x hl hD hz G
  subst hl hD hz
  unfold f_X6_goOneRoad at hf
  have G : KG ad cy x cX6_goOneRoad "NoonGuides$Paths" 4 (some none) 2 := G
  show KV ad cy x (none, y) 0 [(0, .ref (ad a0)), (1, .ref (ad a1)), (2, .int p2)] [] M
  refine v_iconst (0 : Int32) G dX6_goOneRoad_0 (by decide) ?_
  refine v_istore_n [(3, .int (0 : Int32)), (0, .ref (ad a0)), (1, .ref (ad a1)), (2, .int p2)] G dX6_goOneRoad_1 (by decide) rfl ?_
  refine v_sub _ [1, 2, 3, 0] rfl ?_
  refine s_X6_goOneRoad_2 G h0 h1 (fun M6 hf => ?_) n (0 : Int32) M hf
  · refine v_iconst (0 : Int32) G dX6_goOneRoad_21 (by decide) ?_
    refine v_istore_n [(3, .int (0 : Int32)), (0, .ref (ad a0)), (1, .ref (ad a1)), (2, .int p2)] G dX6_goOneRoad_22 (by decide) rfl ?_
    refine v_sub _ [1, 2, 3, 0] rfl ?_
    refine s_X6_goOneRoad_23 G h0 h1 (fun M30 hf => ?_) n (0 : Int32) M6 hf
    · refine v_aload_n G dX6_goOneRoad_97 0 rfl ?_
      refine gf_6_2 G h0 t_215 (Or.inl rfl) dX6_goOneRoad_98 ?_
      refine v_kt (fun hKT => ?_)
      have hk31 := hKT.2.2.2.2.2.2.1 _ h0
      refine v_nma (fun v32 ev32 => ?_)
      have hv32 : kty v32 = 29 := by rw [ev32]; exact hk31
      replace hf := lt_e hf ev32
      refine v_astore_n [(3, .ref (ad v32)), (0, .ref (ad a0))] G dX6_goOneRoad_101 (by decide) rfl ?_
      refine v_aload_n G dX6_goOneRoad_102 1 rfl ?_
      refine v_aload_n G dX6_goOneRoad_103 1 rfl ?_
      refine gf_6_3 G h0 t_216 (Or.inl rfl) dX6_goOneRoad_104 ?_
      refine v_kt (fun hKT => ?_)
      have hk33 := hKT.2.2.2.2.2.2.2 _ h0
      refine pf_6_2 G h0 (ktu_6_2 h0 hk33) t_215 (Or.inl rfl) dX6_goOneRoad_107 ?_
      refine v_nmM (fun M34 eM34 => ?_)
      replace hf := lt_e hf eM34
      refine v_aload_n G dX6_goOneRoad_110 1 rfl ?_
      refine v_aload_n G dX6_goOneRoad_111 0 rfl ?_
      refine pf_6_3 G h0 (ktu_6_3 h0 hv32) t_216 (Or.inl rfl) dX6_goOneRoad_112 ?_
      refine v_nmM (fun M35 eM35 => ?_)
      replace hf := lt_e hf eM35
      obtain rfl := Option.some.inj hf
      exact v_vret G dX6_goOneRoad_115
abbrev cX6_countWays : ByteArray := prog_8_method_10_code
def yX6_countWays : MethodName := ⟨RX6, "countWays", "(LNoonGuides$Land;IIII)J"⟩
theorem dX6_countWays_0 : dc cX6_countWays 0 (.iconst 0) 1 1 := ⟨by decide +kernel, rfl⟩
theorem dX6_countWays_1 : dc cX6_countWays 1 (.istore 6) 2 3 := ⟨by decide +kernel, rfl⟩
theorem dX6_countWays_3 : dc cX6_countWays 3 (.iload 6) 2 5 := ⟨by decide +kernel, rfl⟩
theorem dX6_countWays_5 : dc cX6_countWays 5 (.bipush 8) 2 7 := ⟨by decide +kernel, rfl⟩
theorem dX6_countWays_7 : dc cX6_countWays 7 (.if_icmp .ge 27) 3 10 := ⟨by decide +kernel, rfl⟩
theorem dX6_countWays_10 : dc cX6_countWays 10 (.aload_n 0) 1 11 := ⟨by decide +kernel, rfl⟩
theorem dX6_countWays_11 : dc cX6_countWays 11 (.getfield 18) 3 14 := ⟨by decide +kernel, rfl⟩
theorem dX6_countWays_14 : dc cX6_countWays 14 (.iload 6) 2 16 := ⟨by decide +kernel, rfl⟩
theorem dX6_countWays_16 : dc cX6_countWays 16 (.iload 6) 2 18 := ⟨by decide +kernel, rfl⟩
theorem dX6_countWays_18 : dc cX6_countWays 18 (.iload_n 3) 1 19 := ⟨by decide +kernel, rfl⟩
theorem dX6_countWays_19 : dc cX6_countWays 19 (.if_icmp .ne 7) 3 22 := ⟨by decide +kernel, rfl⟩
theorem dX6_countWays_22 : dc cX6_countWays 22 (.lconst 1) 1 23 := ⟨by decide +kernel, rfl⟩
theorem dX6_countWays_23 : dc cX6_countWays 23 (.goto 4) 3 26 := ⟨by decide +kernel, rfl⟩
theorem dX6_countWays_26 : dc cX6_countWays 26 (.lconst 0) 1 27 := ⟨by decide +kernel, rfl⟩
theorem dX6_countWays_27 : dc cX6_countWays 27 (.lastore) 1 28 := ⟨by decide +kernel, rfl⟩
theorem dX6_countWays_28 : dc cX6_countWays 28 (.iinc 6 1) 3 31 := ⟨by decide +kernel, rfl⟩
theorem dX6_countWays_31 : dc cX6_countWays 31 (.goto (-28)) 3 34 := ⟨by decide +kernel, rfl⟩
theorem dX6_countWays_34 : dc cX6_countWays 34 (.iconst 0) 1 35 := ⟨by decide +kernel, rfl⟩
theorem dX6_countWays_35 : dc cX6_countWays 35 (.istore 6) 2 37 := ⟨by decide +kernel, rfl⟩
theorem dX6_countWays_37 : dc cX6_countWays 37 (.iload 6) 2 39 := ⟨by decide +kernel, rfl⟩
theorem dX6_countWays_39 : dc cX6_countWays 39 (.iload 5) 2 41 := ⟨by decide +kernel, rfl⟩
theorem dX6_countWays_41 : dc cX6_countWays 41 (.if_icmp .ge 15) 3 44 := ⟨by decide +kernel, rfl⟩
theorem dX6_countWays_44 : dc cX6_countWays 44 (.aload_n 0) 1 45 := ⟨by decide +kernel, rfl⟩
theorem dX6_countWays_45 : dc cX6_countWays 45 (.aload_n 1) 1 46 := ⟨by decide +kernel, rfl⟩
theorem dX6_countWays_46 : dc cX6_countWays 46 (.iload_n 2) 1 47 := ⟨by decide +kernel, rfl⟩
theorem dX6_countWays_47 : dc cX6_countWays 47 (.invokevirtual 109) 3 50 := ⟨by decide +kernel, rfl⟩
theorem dX6_countWays_50 : dc cX6_countWays 50 (.iinc 6 1) 3 53 := ⟨by decide +kernel, rfl⟩
theorem dX6_countWays_53 : dc cX6_countWays 53 (.goto (-16)) 3 56 := ⟨by decide +kernel, rfl⟩
theorem dX6_countWays_56 : dc cX6_countWays 56 (.aload_n 0) 1 57 := ⟨by decide +kernel, rfl⟩
theorem dX6_countWays_57 : dc cX6_countWays 57 (.getfield 18) 3 60 := ⟨by decide +kernel, rfl⟩
theorem dX6_countWays_60 : dc cX6_countWays 60 (.iload 4) 2 62 := ⟨by decide +kernel, rfl⟩
theorem dX6_countWays_62 : dc cX6_countWays 62 (.laload) 1 63 := ⟨by decide +kernel, rfl⟩
theorem dX6_countWays_63 : dc cX6_countWays 63 (.lreturn) 1 64 := ⟨by decide +kernel, rfl⟩
theorem nm_X6_countWays : (yX6_countWays).cls ≠ "java/lang/invoke/MethodHandle" ∧ (yX6_countWays).cls ≠ "java/lang/invoke/VarHandle" ∧ (parseMethodDescriptor (yX6_countWays).desc).map (fun d => d.parameters.length) = some 5 := ⟨by decide +kernel, by decide +kernel, by decide +kernel⟩
set_option maxRecDepth 100000 in
set_option maxHeartbeats 4000000 in
theorem s_X6_countWays_3 {ad : Nat → Nat} {cy : Nat → ClassId} {x : KX} (G : KG ad cy x cX6_countWays "NoonGuides$Paths" 7 (some (some .long)) 3) {a0 : Nat} {a1 : Nat} {c2 : Int32} {c3 : Int32} {c4 : Int32} {c5 : Int32} (h0 : kty a0 = 7) (h1 : kty a1 = 3) {k34 : KM → Option (Int64 × KM)} {y : (Int64 × KM)} (hk34 : ∀ (M : KM), k34 M = some y → KV ad cy x (some (.long y.1), y.2) 34 [(0, .ref (ad a0)), (1, .ref (ad a1)), (2, .int c2), (4, .int c4), (5, .int c5)] [] M) : ∀ (n : Nat) (w6 : Int32) (M : KM), lp_X6_countWays_3 n a0 a1 c2 c3 c4 c5 w6 M k34 = some y → KV ad cy x (some (.long y.1), y.2) 3 [(0, .ref (ad a0)), (1, .ref (ad a1)), (2, .int c2), (3, .int c3), (4, .int c4), (5, .int c5), (6, .int w6)] [] M := by
  intro n
  induction n with
  | zero =>
    intro w6 M hf
    cases hf
  | succ n ih =>
    intro w6 M hf
    rw [lp_X6_countWays_3] at hf
    refine v_iload G dX6_countWays_3 6 rfl ?_
    refine v_bipush (8 : Int32) G dX6_countWays_5 (by decide) ?_
    refine v_icmp_ge 34 G dX6_countWays_7 (by decide) (fun h7 => ?_) (fun h7 => ?_)
    · replace hf := (if_pos h7).symm.trans hf
      refine v_sub _ [0, 1, 2, 4, 5] rfl ?_
      exact hk34 M hf
    · replace hf := (if_neg h7).symm.trans hf
      refine v_aload_n G dX6_countWays_10 0 rfl ?_
      refine gf_6_2 G h0 t_215 (Or.inl rfl) dX6_countWays_11 ?_
      refine v_kt (fun hKT => ?_)
      have hk1 := hKT.2.2.2.2.2.2.1 _ h0
      refine v_iload G dX6_countWays_14 6 rfl ?_
      refine v_iload G dX6_countWays_16 6 rfl ?_
      refine v_iload_n G dX6_countWays_18 3 rfl ?_
      obtain ⟨j27, ej27, hf⟩ := lt_j hf
      have hj27 : ∀ (x2 : Int64), j27 x2 = some y → KV ad cy x (some (.long y.1), y.2) 27 [(0, .ref (ad a0)), (1, .ref (ad a1)), (2, .int c2), (3, .int c3), (4, .int c4), (5, .int c5), (6, .int w6)] [.long x2, .int w6, .ref (ad (M.2.2 a0 2))] M := by
        intro x2 hf
        rw [ej27] at hf
        obtain ⟨g3, hf⟩ := gd_e hf
        refine as_29 G hk1 g3 dX6_countWays_27 ?_
        refine v_nmM (fun M4 eM4 => ?_)
        replace hf := lt_e hf eM4
        obtain ⟨v5, ev5⟩ : ∃ q : Int32, q = w6 + (1 : Int32) := ⟨_, rfl⟩
        replace hf := lt_e hf ev5
        refine v_iinc v5 [(6, .int v5), (0, .ref (ad a0)), (1, .ref (ad a1)), (2, .int c2), (3, .int c3), (4, .int c4), (5, .int c5)] G dX6_countWays_28 6 rfl (by rw [ev5]; rfl) (by decide) rfl ?_
        refine v_goto 3 G dX6_countWays_31 (by decide) ?_
        refine v_sub _ [1, 2, 3, 4, 5, 6, 0] rfl ?_
        exact ih v5 M4 hf
      refine v_icmp_ne 26 G dX6_countWays_19 (by decide) (fun h6 => ?_) (fun h6 => ?_)
      · replace hf := (if_neg h6).symm.trans hf
        refine v_lconst (0 : Int64) G dX6_countWays_26 (by decide) ?_
        refine v_sub _ [0, 1, 2, 3, 4, 5, 6] rfl ?_
        exact hj27 (0 : Int64) hf
      · replace hf := (if_pos h6).symm.trans hf
        refine v_lconst (1 : Int64) G dX6_countWays_22 (by decide) ?_
        refine v_goto 27 G dX6_countWays_23 (by decide) ?_
        refine v_sub _ [0, 1, 2, 3, 4, 5, 6] rfl ?_
        exact hj27 (1 : Int64) hf
set_option maxRecDepth 100000 in
set_option maxHeartbeats 4000000 in
theorem s_X6_countWays_37 {ad : Nat → Nat} {cy : Nat → ClassId} {x : KX} (G : KG ad cy x cX6_countWays "NoonGuides$Paths" 7 (some (some .long)) 3) {a0 : Nat} {a1 : Nat} {c2 : Int32} {c4 : Int32} {c5 : Int32} (h0 : kty a0 = 7) (h1 : kty a1 = 3) {y : (Int64 × KM)} : ∀ (n : Nat) (w6 : Int32) (M : KM), lp_X6_countWays_37 n a0 a1 c2 c4 c5 w6 M = some y → KV ad cy x (some (.long y.1), y.2) 37 [(0, .ref (ad a0)), (1, .ref (ad a1)), (2, .int c2), (4, .int c4), (5, .int c5), (6, .int w6)] [] M := by
  intro n
  induction n with
  | zero =>
    intro w6 M hf
    cases hf
  | succ n ih =>
    intro w6 M hf
    rw [lp_X6_countWays_37] at hf
    refine v_iload G dX6_countWays_37 5 rfl ?_
    refine v_iload G dX6_countWays_39 4 rfl ?_
    refine v_icmp_ge 56 G dX6_countWays_41 (by decide) (fun h13 => ?_) (fun h13 => ?_)
    · replace hf := (if_pos h13).symm.trans hf
      refine v_aload_n G dX6_countWays_56 0 rfl ?_
      refine gf_6_2 G h0 t_215 (Or.inl rfl) dX6_countWays_57 ?_
      refine v_kt (fun hKT => ?_)
      have hk9 := hKT.2.2.2.2.2.2.1 _ h0
      refine v_iload G dX6_countWays_60 3 rfl ?_
      obtain ⟨g10, hf⟩ := gd_e hf
      refine al_29 G hk9 g10 dX6_countWays_62 ?_
      obtain rfl := Option.some.inj hf
      exact v_lret G dX6_countWays_63
    · replace hf := (if_neg h13).symm.trans hf
      refine v_aload_n G dX6_countWays_44 0 rfl ?_
      refine v_aload_n G dX6_countWays_45 1 rfl ?_
      refine v_iload_n G dX6_countWays_46 2 rfl ?_
      obtain ⟨v11, hcv11, hf⟩ := bd_e hf
      refine v_callV [.ref (ad a1), .int c2] G (c_X6_goOneRoad n h0 h1 hcv11) h0 (by decide) rfl rfl rfl t_1323 t_1325 t_p47 t_10 t_1326 nm_X6_goOneRoad (by decide) (by decide) rfl rfl (Nat.le_of_ble_eq_true rfl) dX6_countWays_47 (kv_rv ?_)
      obtain ⟨v12, ev12⟩ : ∃ q : Int32, q = w6 + (1 : Int32) := ⟨_, rfl⟩
      replace hf := lt_e hf ev12
      refine v_iinc v12 [(6, .int v12), (0, .ref (ad a0)), (1, .ref (ad a1)), (2, .int c2), (4, .int c4), (5, .int c5)] G dX6_countWays_50 5 rfl (by rw [ev12]; rfl) (by decide) rfl ?_
      refine v_goto 37 G dX6_countWays_53 (by decide) ?_
      refine v_sub _ [1, 2, 3, 4, 5, 0] rfl ?_
      exact ih v12 v11 hf
set_option maxRecDepth 100000 in
set_option maxHeartbeats 4000000 in
theorem c_X6_countWays {l : Launch} {ad : Nat → Nat} {cy : Nat → ClassId} {D : va_G} {z : Nat} (n : Nat) {a0 : Nat} {a1 : Nat} {p2 : Int32} {p3 : Int32} {p4 : Int32} {p5 : Int32} {M : KM} {y : (Int64 × KM)} (h0 : kty a0 = 7) (h1 : kty a1 = 3) (hf : f_X6_countWays n a0 a1 p2 p3 p4 p5 M = some y) : KC l ad cy D z yX6_countWays cX6_countWays 7 (some .long) 3 [.ref (ad a0), .ref (ad a1), .int p2, .int p3, .int p4, .int p5] M (some (.long y.1), y.2) := by
  refine kv_enter (by decide +kernel) (Nat.le_of_ble_eq_true rfl) ?_
  intro x hl hD hz G
  subst hl hD hz
  unfold f_X6_countWays at hf
  have G : KG ad cy x cX6_countWays "NoonGuides$Paths" 7 (some (some .long)) 3 := G
  show KV ad cy x (some (.long y.1), y.2) 0 [(0, .ref (ad a0)), (1, .ref (ad a1)), (2, .int p2), (3, .int p3), (4, .int p4), (5, .int p5)] [] M
  refine v_iconst (0 : Int32) G dX6_countWays_0 (by decide) ?_
  refine v_istore [(6, .int (0 : Int32)), (0, .ref (ad a0)), (1, .ref (ad a1)), (2, .int p2), (3, .int p3), (4, .int p4), (5, .int p5)] G dX6_countWays_1 (by decide) rfl ?_
  refine v_sub _ [1, 2, 3, 4, 5, 6, 0] rfl ?_
  refine s_X6_countWays_3 G h0 h1 (fun M8 hf => ?_) n (0 : Int32) M hf
  · refine v_iconst (0 : Int32) G dX6_countWays_34 (by decide) ?_
    refine v_istore [(6, .int (0 : Int32)), (0, .ref (ad a0)), (1, .ref (ad a1)), (2, .int p2), (4, .int p4), (5, .int p5)] G dX6_countWays_35 (by decide) rfl ?_
    refine v_sub _ [1, 2, 3, 4, 5, 0] rfl ?_
    refine s_X6_countWays_37 G h0 h1 n (0 : Int32) M8 hf
abbrev cX5_likes : ByteArray := prog_7_method_4_code
def yX5_likes : MethodName := ⟨RX5, "likes", "(LNoonGuides$Land;III)Z"⟩
theorem dX5_likes_0 : dc cX5_likes 0 (.iload_n 3) 1 1 := ⟨by decide +kernel, rfl⟩
theorem dX5_likes_1 : dc cX5_likes 1 (.iconst (-1)) 1 2 := ⟨by decide +kernel, rfl⟩
theorem dX5_likes_2 : dc cX5_likes 2 (.if_icmp .ne 5) 3 5 := ⟨by decide +kernel, rfl⟩
theorem dX5_likes_5 : dc cX5_likes 5 (.iconst 1) 1 6 := ⟨by decide +kernel, rfl⟩
theorem dX5_likes_6 : dc cX5_likes 6 (.ireturn) 1 7 := ⟨by decide +kernel, rfl⟩
theorem dX5_likes_7 : dc cX5_likes 7 (.aload_n 0) 1 8 := ⟨by decide +kernel, rfl⟩
theorem dX5_likes_8 : dc cX5_likes 8 (.getfield 24) 3 11 := ⟨by decide +kernel, rfl⟩
theorem dX5_likes_11 : dc cX5_likes 11 (.iload_n 2) 1 12 := ⟨by decide +kernel, rfl⟩
theorem dX5_likes_12 : dc cX5_likes 12 (.aaload) 1 13 := ⟨by decide +kernel, rfl⟩
theorem dX5_likes_13 : dc cX5_likes 13 (.getfield 42) 3 16 := ⟨by decide +kernel, rfl⟩
theorem dX5_likes_16 : dc cX5_likes 16 (.iload_n 1) 1 17 := ⟨by decide +kernel, rfl⟩
theorem dX5_likes_17 : dc cX5_likes 17 (.iaload) 1 18 := ⟨by decide +kernel, rfl⟩
theorem dX5_likes_18 : dc cX5_likes 18 (.istore 4) 2 20 := ⟨by decide +kernel, rfl⟩
theorem dX5_likes_20 : dc cX5_likes 20 (.aload_n 0) 1 21 := ⟨by decide +kernel, rfl⟩
theorem dX5_likes_21 : dc cX5_likes 21 (.getfield 24) 3 24 := ⟨by decide +kernel, rfl⟩
theorem dX5_likes_24 : dc cX5_likes 24 (.iload_n 3) 1 25 := ⟨by decide +kernel, rfl⟩
theorem dX5_likes_25 : dc cX5_likes 25 (.aaload) 1 26 := ⟨by decide +kernel, rfl⟩
theorem dX5_likes_26 : dc cX5_likes 26 (.getfield 42) 3 29 := ⟨by decide +kernel, rfl⟩
theorem dX5_likes_29 : dc cX5_likes 29 (.iload_n 1) 1 30 := ⟨by decide +kernel, rfl⟩
theorem dX5_likes_30 : dc cX5_likes 30 (.iaload) 1 31 := ⟨by decide +kernel, rfl⟩
theorem dX5_likes_31 : dc cX5_likes 31 (.istore 5) 2 33 := ⟨by decide +kernel, rfl⟩
theorem dX5_likes_33 : dc cX5_likes 33 (.iload 4) 2 35 := ⟨by decide +kernel, rfl⟩
theorem dX5_likes_35 : dc cX5_likes 35 (.iload 5) 2 37 := ⟨by decide +kernel, rfl⟩
theorem dX5_likes_37 : dc cX5_likes 37 (.if_icmp .gt 15) 3 40 := ⟨by decide +kernel, rfl⟩
theorem dX5_likes_40 : dc cX5_likes 40 (.iload 4) 2 42 := ⟨by decide +kernel, rfl⟩
theorem dX5_likes_42 : dc cX5_likes 42 (.iload 5) 2 44 := ⟨by decide +kernel, rfl⟩
theorem dX5_likes_44 : dc cX5_likes 44 (.if_icmp .ne 12) 3 47 := ⟨by decide +kernel, rfl⟩
theorem dX5_likes_47 : dc cX5_likes 47 (.iload_n 2) 1 48 := ⟨by decide +kernel, rfl⟩
theorem dX5_likes_48 : dc cX5_likes 48 (.iload_n 3) 1 49 := ⟨by decide +kernel, rfl⟩
theorem dX5_likes_49 : dc cX5_likes 49 (.if_icmp .ge 7) 3 52 := ⟨by decide +kernel, rfl⟩
theorem dX5_likes_52 : dc cX5_likes 52 (.iconst 1) 1 53 := ⟨by decide +kernel, rfl⟩
theorem dX5_likes_53 : dc cX5_likes 53 (.goto 4) 3 56 := ⟨by decide +kernel, rfl⟩
theorem dX5_likes_56 : dc cX5_likes 56 (.iconst 0) 1 57 := ⟨by decide +kernel, rfl⟩
theorem dX5_likes_57 : dc cX5_likes 57 (.ireturn) 1 58 := ⟨by decide +kernel, rfl⟩
theorem nm_X5_likes : (yX5_likes).cls ≠ "java/lang/invoke/MethodHandle" ∧ (yX5_likes).cls ≠ "java/lang/invoke/VarHandle" ∧ (parseMethodDescriptor (yX5_likes).desc).map (fun d => d.parameters.length) = some 4 := ⟨by decide +kernel, by decide +kernel, by decide +kernel⟩
set_option maxRecDepth 100000 in
theorem z_X5_likes (n : Nat) {a0 : Nat} {p1 : Int32} {p2 : Int32} {p3 : Int32} {M : KM} {y : Int32} (hf : f_X5_likes n a0 p1 p2 p3 M = some y) : (y = 0 ∨ y = 1) := by
  unfold f_X5_likes at hf
  by_cases h10 : p3 = (-1 : Int32)
  · replace hf := (if_pos h10).symm.trans hf
    obtain rfl := Option.some.inj hf
    exact (Or.inr rfl)
  · replace hf := (if_neg h10).symm.trans hf
    obtain ⟨g1, hf⟩ := gd_e hf
    obtain ⟨g2, hf⟩ := gd_e hf
    obtain ⟨v3, ev3⟩ : ∃ q, q = ((M.1 (((a0 + 6) + 8 + 3 * (p2).toNatClampNeg) + 2) (p1).toNatClampNeg) : Int32) := ⟨_, rfl⟩
    replace hf := lt_e hf ev3
    obtain ⟨g4, hf⟩ := gd_e hf
    obtain ⟨g5, hf⟩ := gd_e hf
    obtain ⟨v6, ev6⟩ : ∃ q, q = ((M.1 (((a0 + 6) + 8 + 3 * (p3).toNatClampNeg) + 2) (p1).toNatClampNeg) : Int32) := ⟨_, rfl⟩
    replace hf := lt_e hf ev6
    obtain ⟨j52, ej52, hf⟩ := lt_j hf
    have hj52 : j52 = some y → (y = 0 ∨ y = 1) := by
      intro hf
      rw [ej52] at hf
      obtain rfl := Option.some.inj hf
      exact (Or.inr rfl)
    by_cases h9 : v6 < v3
    · replace hf := (if_pos h9).symm.trans hf
      exact hj52 hf
    · replace hf := (if_neg h9).symm.trans hf
      by_cases h8 : v3 = v6
      · replace hf := (if_pos h8).symm.trans hf
        by_cases h7 : p3 ≤ p2
        · replace hf := (if_pos h7).symm.trans hf
          obtain rfl := Option.some.inj hf
          exact (Or.inl rfl)
        · replace hf := (if_neg h7).symm.trans hf
          exact hj52 hf
      · replace hf := (if_neg h8).symm.trans hf
        obtain rfl := Option.some.inj hf
        exact (Or.inl rfl)
set_option maxRecDepth 100000 in
set_option maxHeartbeats 4000000 in
theorem c_X5_likes {l : Launch} {ad : Nat → Nat} {cy : Nat → ClassId} {D : va_G} {z : Nat} (n : Nat) {a0 : Nat} {p1 : Int32} {p2 : Int32} {p3 : Int32} {M : KM} {y : Int32} (h0 : kty a0 = 3) (hf : f_X5_likes n a0 p1 p2 p3 M = some y) : KC l ad cy D z yX5_likes cX5_likes 6 (some .boolean) 1 [.ref (ad a0), .int p1, .int p2, .int p3] M (some (.int y), M) := by
  refine kv_enter (by decide +kernel) (Nat.le_of_ble_eq_true rfl) ?_
  intro x hl hD hz G
  subst hl hD hz
  unfold f_X5_likes at hf
  have G : KG ad cy x cX5_likes "NoonGuides$Pairing" 6 (some (some .boolean)) 1 := G
  show KV ad cy x (some (.int y), M) 0 [(0, .ref (ad a0)), (1, .int p1), (2, .int p2), (3, .int p3)] [] M
  refine v_iload_n G dX5_likes_0 3 rfl ?_
  refine v_iconst (-1 : Int32) G dX5_likes_1 (by decide) ?_
  refine v_icmp_ne 7 G dX5_likes_2 (by decide) (fun h10 => ?_) (fun h10 => ?_)
  · replace hf := (if_neg h10).symm.trans hf
    refine v_aload_n G dX5_likes_7 0 rfl ?_
    refine gf_2_5 G h0 t_399 (Or.inl rfl) dX5_likes_8 ?_
    refine v_iload_n G dX5_likes_11 2 rfl ?_
    obtain ⟨g1, hf⟩ := gd_e hf
    refine al_Person G (kf_2_6 h0) g1 dX5_likes_12 ?_
    refine gf_7_1 G (ke_Person (kf_2_6 h0) (ix_lt g1)) t_330 (Or.inl rfl) dX5_likes_13 ?_
    refine v_iload_n G dX5_likes_16 1 rfl ?_
    obtain ⟨g2, hf⟩ := gd_e hf
    refine al_28 G (kf_7_2 (ke_Person (kf_2_6 h0) (ix_lt g1))) g2 dX5_likes_17 ?_
    refine v_nmi (fun v3 ev3 => ?_)
    replace hf := lt_e hf ev3
    refine v_istore [(4, .int v3), (0, .ref (ad a0)), (1, .int p1), (2, .int p2), (3, .int p3)] G dX5_likes_18 (by decide) rfl ?_
    refine v_aload_n G dX5_likes_20 1 rfl ?_
    refine gf_2_5 G h0 t_399 (Or.inl rfl) dX5_likes_21 ?_
    refine v_iload_n G dX5_likes_24 4 rfl ?_
    obtain ⟨g4, hf⟩ := gd_e hf
    refine al_Person G (kf_2_6 h0) g4 dX5_likes_25 ?_
    refine gf_7_1 G (ke_Person (kf_2_6 h0) (ix_lt g4)) t_330 (Or.inl rfl) dX5_likes_26 ?_
    refine v_iload_n G dX5_likes_29 2 rfl ?_
    obtain ⟨g5, hf⟩ := gd_e hf
    refine al_28 G (kf_7_2 (ke_Person (kf_2_6 h0) (ix_lt g4))) g5 dX5_likes_30 ?_
    refine v_nmi (fun v6 ev6 => ?_)
    replace hf := lt_e hf ev6
    refine v_istore [(5, .int v6), (4, .int v3), (0, .ref (ad a0)), (1, .int p1), (2, .int p2), (3, .int p3)] G dX5_likes_31 (by decide) rfl ?_
    refine v_iload G dX5_likes_33 1 rfl ?_
    refine v_iload G dX5_likes_35 0 rfl ?_
    obtain ⟨j52, ej52, hf⟩ := lt_j hf
    have hj52 : j52 = some y → KV ad cy x (some (.int y), M) 52 [] [] M := by
      intro hf
      rw [ej52] at hf
      refine v_iconst (1 : Int32) G dX5_likes_52 (by decide) ?_
      refine v_goto 57 G dX5_likes_53 (by decide) ?_
      obtain rfl := Option.some.inj hf
      exact v_zret G (Or.inr rfl) dX5_likes_57
    refine v_icmp_gt 52 G dX5_likes_37 (by decide) (fun h9 => ?_) (fun h9 => ?_)
    · replace hf := (if_pos h9).symm.trans hf
      refine v_sub _ [] rfl ?_
      exact hj52 hf
    · replace hf := (if_neg h9).symm.trans hf
      refine v_iload G dX5_likes_40 1 rfl ?_
      refine v_iload G dX5_likes_42 0 rfl ?_
      refine v_icmp_ne 56 G dX5_likes_44 (by decide) (fun h8 => ?_) (fun h8 => ?_)
      · replace hf := (if_neg h8).symm.trans hf
        refine v_iconst (0 : Int32) G dX5_likes_56 (by decide) ?_
        obtain rfl := Option.some.inj hf
        exact v_zret G (Or.inl rfl) dX5_likes_57
      · replace hf := (if_pos h8).symm.trans hf
        refine v_iload_n G dX5_likes_47 4 rfl ?_
        refine v_iload_n G dX5_likes_48 5 rfl ?_
        refine v_icmp_ge 56 G dX5_likes_49 (by decide) (fun h7 => ?_) (fun h7 => ?_)
        · replace hf := (if_pos h7).symm.trans hf
          refine v_iconst (0 : Int32) G dX5_likes_56 (by decide) ?_
          obtain rfl := Option.some.inj hf
          exact v_zret G (Or.inl rfl) dX5_likes_57
        · replace hf := (if_neg h7).symm.trans hf
          refine v_sub _ [] rfl ?_
          exact hj52 hf
  · replace hf := (if_pos h10).symm.trans hf
    refine v_iconst (1 : Int32) G dX5_likes_5 (by decide) ?_
    obtain rfl := Option.some.inj hf
    exact v_zret G (Or.inr rfl) dX5_likes_6
abbrev cX5_askNext : ByteArray := prog_7_method_3_code
def yX5_askNext : MethodName := ⟨RX5, "askNext", "(LNoonGuides$Land;I)V"⟩
theorem dX5_askNext_0 : dc cX5_askNext 0 (.iconst (-1)) 1 1 := ⟨by decide +kernel, rfl⟩
theorem dX5_askNext_1 : dc cX5_askNext 1 (.istore_n 3) 1 2 := ⟨by decide +kernel, rfl⟩
theorem dX5_askNext_2 : dc cX5_askNext 2 (.iconst 0) 1 3 := ⟨by decide +kernel, rfl⟩
theorem dX5_askNext_3 : dc cX5_askNext 3 (.istore 4) 2 5 := ⟨by decide +kernel, rfl⟩
theorem dX5_askNext_5 : dc cX5_askNext 5 (.iload 4) 2 7 := ⟨by decide +kernel, rfl⟩
theorem dX5_askNext_7 : dc cX5_askNext 7 (.aload_n 1) 1 8 := ⟨by decide +kernel, rfl⟩
theorem dX5_askNext_8 : dc cX5_askNext 8 (.getfield 18) 3 11 := ⟨by decide +kernel, rfl⟩
theorem dX5_askNext_11 : dc cX5_askNext 11 (.if_icmp .ge 62) 3 14 := ⟨by decide +kernel, rfl⟩
theorem dX5_askNext_14 : dc cX5_askNext 14 (.aload_n 1) 1 15 := ⟨by decide +kernel, rfl⟩
theorem dX5_askNext_15 : dc cX5_askNext 15 (.getfield 24) 3 18 := ⟨by decide +kernel, rfl⟩
theorem dX5_askNext_18 : dc cX5_askNext 18 (.iload 4) 2 20 := ⟨by decide +kernel, rfl⟩
theorem dX5_askNext_20 : dc cX5_askNext 20 (.aaload) 1 21 := ⟨by decide +kernel, rfl⟩
theorem dX5_askNext_21 : dc cX5_askNext 21 (.getfield 28) 3 24 := ⟨by decide +kernel, rfl⟩
theorem dX5_askNext_24 : dc cX5_askNext 24 (.ifCond .ne 21) 3 27 := ⟨by decide +kernel, rfl⟩
theorem dX5_askNext_27 : dc cX5_askNext 27 (.aload_n 0) 1 28 := ⟨by decide +kernel, rfl⟩
theorem dX5_askNext_28 : dc cX5_askNext 28 (.getfield 15) 3 31 := ⟨by decide +kernel, rfl⟩
theorem dX5_askNext_31 : dc cX5_askNext 31 (.iload_n 2) 1 32 := ⟨by decide +kernel, rfl⟩
theorem dX5_askNext_32 : dc cX5_askNext 32 (.iaload) 1 33 := ⟨by decide +kernel, rfl⟩
theorem dX5_askNext_33 : dc cX5_askNext 33 (.iconst 1) 1 34 := ⟨by decide +kernel, rfl⟩
theorem dX5_askNext_34 : dc cX5_askNext 34 (.iload 4) 2 36 := ⟨by decide +kernel, rfl⟩
theorem dX5_askNext_36 : dc cX5_askNext 36 (.ishl) 1 37 := ⟨by decide +kernel, rfl⟩
theorem dX5_askNext_37 : dc cX5_askNext 37 (.iand) 1 38 := ⟨by decide +kernel, rfl⟩
theorem dX5_askNext_38 : dc cX5_askNext 38 (.ifCond .ne 7) 3 41 := ⟨by decide +kernel, rfl⟩
theorem dX5_askNext_41 : dc cX5_askNext 41 (.iconst 1) 1 42 := ⟨by decide +kernel, rfl⟩
theorem dX5_askNext_42 : dc cX5_askNext 42 (.goto 4) 3 45 := ⟨by decide +kernel, rfl⟩
theorem dX5_askNext_45 : dc cX5_askNext 45 (.iconst 0) 1 46 := ⟨by decide +kernel, rfl⟩
theorem dX5_askNext_46 : dc cX5_askNext 46 (.istore 5) 2 48 := ⟨by decide +kernel, rfl⟩
theorem dX5_askNext_48 : dc cX5_askNext 48 (.iload 5) 2 50 := ⟨by decide +kernel, rfl⟩
theorem dX5_askNext_50 : dc cX5_askNext 50 (.ifCond .eq 17) 3 53 := ⟨by decide +kernel, rfl⟩
theorem dX5_askNext_53 : dc cX5_askNext 53 (.aload_n 1) 1 54 := ⟨by decide +kernel, rfl⟩
theorem dX5_askNext_54 : dc cX5_askNext 54 (.iload_n 2) 1 55 := ⟨by decide +kernel, rfl⟩
theorem dX5_askNext_55 : dc cX5_askNext 55 (.iload 4) 2 57 := ⟨by decide +kernel, rfl⟩
theorem dX5_askNext_57 : dc cX5_askNext 57 (.iload_n 3) 1 58 := ⟨by decide +kernel, rfl⟩
theorem dX5_askNext_58 : dc cX5_askNext 58 (.invokestatic 38) 3 61 := ⟨by decide +kernel, rfl⟩
theorem dX5_askNext_61 : dc cX5_askNext 61 (.ifCond .eq 6) 3 64 := ⟨by decide +kernel, rfl⟩
theorem dX5_askNext_64 : dc cX5_askNext 64 (.iload 4) 2 66 := ⟨by decide +kernel, rfl⟩
theorem dX5_askNext_66 : dc cX5_askNext 66 (.istore_n 3) 1 67 := ⟨by decide +kernel, rfl⟩
theorem dX5_askNext_67 : dc cX5_askNext 67 (.iinc 4 1) 3 70 := ⟨by decide +kernel, rfl⟩
theorem dX5_askNext_70 : dc cX5_askNext 70 (.goto (-65)) 3 73 := ⟨by decide +kernel, rfl⟩
theorem dX5_askNext_73 : dc cX5_askNext 73 (.iload_n 3) 1 74 := ⟨by decide +kernel, rfl⟩
theorem dX5_askNext_74 : dc cX5_askNext 74 (.iconst (-1)) 1 75 := ⟨by decide +kernel, rfl⟩
theorem dX5_askNext_75 : dc cX5_askNext 75 (.if_icmp .ne 4) 3 78 := ⟨by decide +kernel, rfl⟩
theorem dX5_askNext_78 : dc cX5_askNext 78 (.return_) 1 79 := ⟨by decide +kernel, rfl⟩
theorem dX5_askNext_79 : dc cX5_askNext 79 (.aload_n 0) 1 80 := ⟨by decide +kernel, rfl⟩
theorem dX5_askNext_80 : dc cX5_askNext 80 (.getfield 15) 3 83 := ⟨by decide +kernel, rfl⟩
theorem dX5_askNext_83 : dc cX5_askNext 83 (.iload_n 2) 1 84 := ⟨by decide +kernel, rfl⟩
theorem dX5_askNext_84 : dc cX5_askNext 84 (.dup2) 1 85 := ⟨by decide +kernel, rfl⟩
theorem dX5_askNext_85 : dc cX5_askNext 85 (.iaload) 1 86 := ⟨by decide +kernel, rfl⟩
theorem dX5_askNext_86 : dc cX5_askNext 86 (.iconst 1) 1 87 := ⟨by decide +kernel, rfl⟩
theorem dX5_askNext_87 : dc cX5_askNext 87 (.iload_n 3) 1 88 := ⟨by decide +kernel, rfl⟩
theorem dX5_askNext_88 : dc cX5_askNext 88 (.ishl) 1 89 := ⟨by decide +kernel, rfl⟩
theorem dX5_askNext_89 : dc cX5_askNext 89 (.ior) 1 90 := ⟨by decide +kernel, rfl⟩
theorem dX5_askNext_90 : dc cX5_askNext 90 (.iastore) 1 91 := ⟨by decide +kernel, rfl⟩
theorem dX5_askNext_91 : dc cX5_askNext 91 (.aload_n 0) 1 92 := ⟨by decide +kernel, rfl⟩
theorem dX5_askNext_92 : dc cX5_askNext 92 (.getfield 9) 3 95 := ⟨by decide +kernel, rfl⟩
theorem dX5_askNext_95 : dc cX5_askNext 95 (.iload_n 3) 1 96 := ⟨by decide +kernel, rfl⟩
theorem dX5_askNext_96 : dc cX5_askNext 96 (.iaload) 1 97 := ⟨by decide +kernel, rfl⟩
theorem dX5_askNext_97 : dc cX5_askNext 97 (.istore 4) 2 99 := ⟨by decide +kernel, rfl⟩
theorem dX5_askNext_99 : dc cX5_askNext 99 (.aload_n 1) 1 100 := ⟨by decide +kernel, rfl⟩
theorem dX5_askNext_100 : dc cX5_askNext 100 (.iload_n 3) 1 101 := ⟨by decide +kernel, rfl⟩
theorem dX5_askNext_101 : dc cX5_askNext 101 (.iload_n 2) 1 102 := ⟨by decide +kernel, rfl⟩
theorem dX5_askNext_102 : dc cX5_askNext 102 (.iload 4) 2 104 := ⟨by decide +kernel, rfl⟩
theorem dX5_askNext_104 : dc cX5_askNext 104 (.invokestatic 38) 3 107 := ⟨by decide +kernel, rfl⟩
theorem dX5_askNext_107 : dc cX5_askNext 107 (.ifCond .ne 4) 3 110 := ⟨by decide +kernel, rfl⟩
theorem dX5_askNext_110 : dc cX5_askNext 110 (.return_) 1 111 := ⟨by decide +kernel, rfl⟩
theorem dX5_askNext_111 : dc cX5_askNext 111 (.iload 4) 2 113 := ⟨by decide +kernel, rfl⟩
theorem dX5_askNext_113 : dc cX5_askNext 113 (.iconst (-1)) 1 114 := ⟨by decide +kernel, rfl⟩
theorem dX5_askNext_114 : dc cX5_askNext 114 (.if_icmp .eq 11) 3 117 := ⟨by decide +kernel, rfl⟩
theorem dX5_askNext_117 : dc cX5_askNext 117 (.aload_n 0) 1 118 := ⟨by decide +kernel, rfl⟩
theorem dX5_askNext_118 : dc cX5_askNext 118 (.getfield 9) 3 121 := ⟨by decide +kernel, rfl⟩
theorem dX5_askNext_121 : dc cX5_askNext 121 (.iload 4) 2 123 := ⟨by decide +kernel, rfl⟩
theorem dX5_askNext_123 : dc cX5_askNext 123 (.iconst (-1)) 1 124 := ⟨by decide +kernel, rfl⟩
theorem dX5_askNext_124 : dc cX5_askNext 124 (.iastore) 1 125 := ⟨by decide +kernel, rfl⟩
theorem dX5_askNext_125 : dc cX5_askNext 125 (.aload_n 0) 1 126 := ⟨by decide +kernel, rfl⟩
theorem dX5_askNext_126 : dc cX5_askNext 126 (.getfield 9) 3 129 := ⟨by decide +kernel, rfl⟩
theorem dX5_askNext_129 : dc cX5_askNext 129 (.iload_n 3) 1 130 := ⟨by decide +kernel, rfl⟩
theorem dX5_askNext_130 : dc cX5_askNext 130 (.iload_n 2) 1 131 := ⟨by decide +kernel, rfl⟩
theorem dX5_askNext_131 : dc cX5_askNext 131 (.iastore) 1 132 := ⟨by decide +kernel, rfl⟩
theorem dX5_askNext_132 : dc cX5_askNext 132 (.aload_n 0) 1 133 := ⟨by decide +kernel, rfl⟩
theorem dX5_askNext_133 : dc cX5_askNext 133 (.getfield 9) 3 136 := ⟨by decide +kernel, rfl⟩
theorem dX5_askNext_136 : dc cX5_askNext 136 (.iload_n 2) 1 137 := ⟨by decide +kernel, rfl⟩
theorem dX5_askNext_137 : dc cX5_askNext 137 (.iload_n 3) 1 138 := ⟨by decide +kernel, rfl⟩
theorem dX5_askNext_138 : dc cX5_askNext 138 (.iastore) 1 139 := ⟨by decide +kernel, rfl⟩
theorem dX5_askNext_139 : dc cX5_askNext 139 (.return_) 1 140 := ⟨by decide +kernel, rfl⟩
theorem nm_X5_askNext : (yX5_askNext).cls ≠ "java/lang/invoke/MethodHandle" ∧ (yX5_askNext).cls ≠ "java/lang/invoke/VarHandle" ∧ (parseMethodDescriptor (yX5_askNext).desc).map (fun d => d.parameters.length) = some 2 := ⟨by decide +kernel, by decide +kernel, by decide +kernel⟩
set_option maxRecDepth 100000 in
set_option maxHeartbeats 4000000 in
theorem s_X5_askNext_5 {ad : Nat → Nat} {cy : Nat → ClassId} {x : KX} (G : KG ad cy x cX5_askNext "NoonGuides$Pairing" 6 (some none) 2) {a0 : Nat} {a1 : Nat} {c2 : Int32} {M : KM} (h0 : kty a0 = 6) (h1 : kty a1 = 3) {k73 : Int32 → Option KM} {y : KM} (hk73 : ∀ (u3 : Int32), k73 u3 = some y → KV ad cy x (none, y) 73 [(0, .ref (ad a0)), (1, .ref (ad a1)), (2, .int c2), (3, .int u3)] [] M) : ∀ (n : Nat) (w3 : Int32) (w4 : Int32), lp_X5_askNext_5 n a0 a1 c2 M w3 w4 k73 = some y → KV ad cy x (none, y) 5 [(0, .ref (ad a0)), (1, .ref (ad a1)), (2, .int c2), (3, .int w3), (4, .int w4)] [] M := by
  intro n
  induction n with
  | zero =>
    intro w3 w4 hf
    cases hf
  | succ n ih =>
    intro w3 w4 hf
    rw [lp_X5_askNext_5] at hf
    refine v_iload G dX5_askNext_5 4 rfl ?_
    refine v_aload_n G dX5_askNext_7 1 rfl ?_
    refine gf_2_10 G h1 t_418 (Or.inl rfl) dX5_askNext_8 ?_
    refine v_icmp_ge 73 G dX5_askNext_11 (by decide) (fun h11 => ?_) (fun h11 => ?_)
    · replace hf := (if_pos h11).symm.trans hf
      refine v_sub _ [0, 1, 2, 3] rfl ?_
      exact hk73 w3 hf
    · replace hf := (if_neg h11).symm.trans hf
      refine v_aload_n G dX5_askNext_14 1 rfl ?_
      refine gf_2_5 G h1 t_399 (Or.inl rfl) dX5_askNext_15 ?_
      refine v_iload G dX5_askNext_18 4 rfl ?_
      obtain ⟨g1, hf⟩ := gd_e hf
      refine al_Person G (kf_2_6 h1) g1 dX5_askNext_20 ?_
      refine gf_7_3 G (ke_Person (kf_2_6 h1) (ix_lt g1)) t_336 (Or.inl rfl) dX5_askNext_21 ?_
      obtain ⟨j46, ej46, hf⟩ := lt_j hf
      have hj46 : ∀ (x2 : Int32), j46 x2 = some y → KV ad cy x (none, y) 46 [(0, .ref (ad a0)), (1, .ref (ad a1)), (2, .int c2), (3, .int w3), (4, .int w4)] [.int x2] M := by
        intro x2 hf
        rw [ej46] at hf
        refine v_istore [(5, .int x2), (0, .ref (ad a0)), (1, .ref (ad a1)), (2, .int c2), (3, .int w3), (4, .int w4)] G dX5_askNext_46 (by decide) rfl ?_
        refine v_iload G dX5_askNext_48 0 rfl ?_
        obtain ⟨j67, ej67, hf⟩ := lt_j hf
        have hj67 : ∀ (x3 : Int32), j67 x3 = some y → KV ad cy x (none, y) 67 [(0, .ref (ad a0)), (1, .ref (ad a1)), (2, .int c2), (3, .int x3), (4, .int w4)] [] M := by
          intro x3 hf
          rw [ej67] at hf
          obtain ⟨v4, ev4⟩ : ∃ q : Int32, q = w4 + (1 : Int32) := ⟨_, rfl⟩
          replace hf := lt_e hf ev4
          refine v_iinc v4 [(4, .int v4), (0, .ref (ad a0)), (1, .ref (ad a1)), (2, .int c2), (3, .int x3)] G dX5_askNext_67 4 rfl (by rw [ev4]; rfl) (by decide) rfl ?_
          refine v_goto 5 G dX5_askNext_70 (by decide) ?_
          refine v_sub _ [1, 2, 3, 4, 0] rfl ?_
          exact ih x3 v4 hf
        refine v_if_eq 67 G dX5_askNext_50 (by decide) (fun h7 => ?_) (fun h7 => ?_)
        · replace hf := (if_pos h7).symm.trans hf
          refine v_sub _ [1, 2, 3, 4, 5] rfl ?_
          exact hj67 w3 hf
        · replace hf := (if_neg h7).symm.trans hf
          refine v_aload_n G dX5_askNext_53 2 rfl ?_
          refine v_iload_n G dX5_askNext_54 3 rfl ?_
          refine v_iload G dX5_askNext_55 5 rfl ?_
          refine v_iload_n G dX5_askNext_57 4 rfl ?_
          obtain ⟨v5, hcv5, hf⟩ := bd_e hf
          refine v_callS [.ref (ad a1), .int c2, .int w4, .int w3] G (c_X5_likes n h1 hcv5) t_1339 t_1340 t_11 t_1341 nm_X5_likes (by decide) (by decide) rfl rfl (Nat.le_of_ble_eq_true rfl) dX5_askNext_58 (kv_ri ?_)
          refine v_if_eq 67 G dX5_askNext_61 (by decide) (fun h6 => ?_) (fun h6 => ?_)
          · replace hf := (if_pos h6).symm.trans hf
            refine v_sub _ [1, 2, 3, 4, 5] rfl ?_
            exact hj67 w3 hf
          · replace hf := (if_neg h6).symm.trans hf
            refine v_iload G dX5_askNext_64 5 rfl ?_
            refine v_istore_n [(3, .int w4), (5, .int x2), (0, .ref (ad a0)), (1, .ref (ad a1)), (2, .int c2), (4, .int w4)] G dX5_askNext_66 (by decide) rfl ?_
            refine v_sub _ [2, 3, 4, 0, 5] rfl ?_
            exact hj67 w4 hf
      obtain ⟨j45, ej45, hf⟩ := lt_j hf
      have hj45 : j45 = some y → KV ad cy x (none, y) 45 [(0, .ref (ad a0)), (1, .ref (ad a1)), (2, .int c2), (3, .int w3), (4, .int w4)] [] M := by
        intro hf
        rw [ej45] at hf
        refine v_iconst (0 : Int32) G dX5_askNext_45 (by decide) ?_
        refine v_sub _ [0, 1, 2, 3, 4] rfl ?_
        exact hj46 (0 : Int32) hf
      refine v_if_ne 45 G dX5_askNext_24 (by decide) (fun h10 => ?_) (fun h10 => ?_)
      · replace hf := (if_neg h10).symm.trans hf
        refine v_sub _ [0, 1, 2, 3, 4] rfl ?_
        exact hj45 hf
      · replace hf := (if_pos h10).symm.trans hf
        refine v_aload_n G dX5_askNext_27 0 rfl ?_
        refine gf_5_1 G h0 t_242 (Or.inl rfl) dX5_askNext_28 ?_
        refine v_iload_n G dX5_askNext_31 2 rfl ?_
        obtain ⟨g8, hf⟩ := gd_e hf
        refine al_28 G (kf_5_2 h0) g8 dX5_askNext_32 ?_
        refine v_iconst (1 : Int32) G dX5_askNext_33 (by decide) ?_
        refine v_iload G dX5_askNext_34 4 rfl ?_
        refine v_ishl G dX5_askNext_36 ?_
        refine v_iand G dX5_askNext_37 ?_
        refine v_if_ne 45 G dX5_askNext_38 (by decide) (fun h9 => ?_) (fun h9 => ?_)
        · replace hf := (if_neg h9).symm.trans hf
          refine v_sub _ [0, 1, 2, 3, 4] rfl ?_
          exact hj45 hf
        · replace hf := (if_pos h9).symm.trans hf
          refine v_iconst (1 : Int32) G dX5_askNext_41 (by decide) ?_
          refine v_goto 46 G dX5_askNext_42 (by decide) ?_
          refine v_sub _ [0, 1, 2, 3, 4] rfl ?_
          exact hj46 (1 : Int32) hf
set_option maxRecDepth 100000 in
set_option maxHeartbeats 4000000 in
theorem c_X5_askNext {l : Launch} {ad : Nat → Nat} {cy : Nat → ClassId} {D : va_G} {z : Nat} (n : Nat) {a0 : Nat} {a1 : Nat} {p2 : Int32} {M : KM} {y : KM} (h0 : kty a0 = 6) (h1 : kty a1 = 3) (hf : f_X5_askNext n a0 a1 p2 M = some y) : KC l ad cy D z yX5_askNext cX5_askNext 6 none 2 [.ref (ad a0), .ref (ad a1), .int p2] M (none, y) := by
  refine kv_enter (by decide +kernel) (Nat.le_of_ble_eq_true rfl) ?_
  intro x hl hD hz G
  subst hl hD hz
  unfold f_X5_askNext at hf
  have G : KG ad cy x cX5_askNext "NoonGuides$Pairing" 6 (some none) 2 := G
  show KV ad cy x (none, y) 0 [(0, .ref (ad a0)), (1, .ref (ad a1)), (2, .int p2)] [] M
  refine v_iconst (-1 : Int32) G dX5_askNext_0 (by decide) ?_
  refine v_istore_n [(3, .int (-1 : Int32)), (0, .ref (ad a0)), (1, .ref (ad a1)), (2, .int p2)] G dX5_askNext_1 (by decide) rfl ?_
  refine v_iconst (0 : Int32) G dX5_askNext_2 (by decide) ?_
  refine v_istore [(4, .int (0 : Int32)), (3, .int (-1 : Int32)), (0, .ref (ad a0)), (1, .ref (ad a1)), (2, .int p2)] G dX5_askNext_3 (by decide) rfl ?_
  refine v_sub _ [2, 3, 4, 1, 0] rfl ?_
  refine s_X5_askNext_5 G h0 h1 (fun u12 hf => ?_) n (-1 : Int32) (0 : Int32) hf
  · refine v_iload_n G dX5_askNext_73 3 rfl ?_
    refine v_iconst (-1 : Int32) G dX5_askNext_74 (by decide) ?_
    refine v_icmp_ne 79 G dX5_askNext_75 (by decide) (fun h28 => ?_) (fun h28 => ?_)
    · replace hf := (if_neg h28).symm.trans hf
      refine v_aload_n G dX5_askNext_79 0 rfl ?_
      refine gf_5_1 G h0 t_242 (Or.inl rfl) dX5_askNext_80 ?_
      refine v_iload_n G dX5_askNext_83 2 rfl ?_
      refine v_dup2 G dX5_askNext_84 rfl rfl ?_
      obtain ⟨g13, hf⟩ := gd_e hf
      refine al_28 G (kf_5_2 h0) g13 dX5_askNext_85 ?_
      refine v_iconst (1 : Int32) G dX5_askNext_86 (by decide) ?_
      refine v_iload_n G dX5_askNext_87 3 rfl ?_
      refine v_ishl G dX5_askNext_88 ?_
      refine v_ior G dX5_askNext_89 ?_
      obtain ⟨g14, hf⟩ := gd_e hf
      refine as_28 G (kf_5_2 h0) g14 dX5_askNext_90 ?_
      refine v_nmM (fun M15 eM15 => ?_)
      replace hf := lt_e hf eM15
      refine v_aload_n G dX5_askNext_91 0 rfl ?_
      refine gf_5_0 G h0 t_240 (Or.inl rfl) dX5_askNext_92 ?_
      refine v_iload_n G dX5_askNext_95 3 rfl ?_
      obtain ⟨g16, hf⟩ := gd_e hf
      refine al_28 G (kf_5_1 h0) g16 dX5_askNext_96 ?_
      refine v_nmi (fun v17 ev17 => ?_)
      replace hf := lt_e hf ev17
      refine v_istore [(4, .int v17), (0, .ref (ad a0)), (1, .ref (ad a1)), (2, .int p2), (3, .int u12)] G dX5_askNext_97 (by decide) rfl ?_
      refine v_aload_n G dX5_askNext_99 2 rfl ?_
      refine v_iload_n G dX5_askNext_100 4 rfl ?_
      refine v_iload_n G dX5_askNext_101 3 rfl ?_
      refine v_iload G dX5_askNext_102 0 rfl ?_
      obtain ⟨v18, hcv18, hf⟩ := bd_e hf
      refine v_callS [.ref (ad a1), .int u12, .int p2, .int v17] G (c_X5_likes n h1 hcv18) t_1339 t_1340 t_11 t_1341 nm_X5_likes (by decide) (by decide) rfl rfl (Nat.le_of_ble_eq_true rfl) dX5_askNext_104 (kv_ri ?_)
      refine v_if_ne 111 G dX5_askNext_107 (by decide) (fun h27 => ?_) (fun h27 => ?_)
      · replace hf := (if_neg h27).symm.trans hf
        refine v_iload G dX5_askNext_111 0 rfl ?_
        refine v_iconst (-1 : Int32) G dX5_askNext_113 (by decide) ?_
        obtain ⟨j125, ej125, hf⟩ := lt_j hf
        have hj125 : ∀ (M19 : KM), j125 M19 = some y → KV ad cy x (none, y) 125 [(0, .ref (ad a0)), (2, .int p2), (3, .int u12)] [] M19 := by
          intro M19 hf
          rw [ej125] at hf
          refine v_aload_n G dX5_askNext_125 0 rfl ?_
          refine gf_5_0 G h0 t_240 (Or.inl rfl) dX5_askNext_126 ?_
          refine v_iload_n G dX5_askNext_129 2 rfl ?_
          refine v_iload_n G dX5_askNext_130 1 rfl ?_
          obtain ⟨g20, hf⟩ := gd_e hf
          refine as_28 G (kf_5_1 h0) g20 dX5_askNext_131 ?_
          refine v_nmM (fun M21 eM21 => ?_)
          replace hf := lt_e hf eM21
          refine v_aload_n G dX5_askNext_132 0 rfl ?_
          refine gf_5_0 G h0 t_240 (Or.inl rfl) dX5_askNext_133 ?_
          refine v_iload_n G dX5_askNext_136 1 rfl ?_
          refine v_iload_n G dX5_askNext_137 2 rfl ?_
          obtain ⟨g22, hf⟩ := gd_e hf
          refine as_28 G (kf_5_1 h0) g22 dX5_askNext_138 ?_
          refine v_nmM (fun M23 eM23 => ?_)
          replace hf := lt_e hf eM23
          obtain rfl := Option.some.inj hf
          exact v_vret G dX5_askNext_139
        refine v_icmp_eq 125 G dX5_askNext_114 (by decide) (fun h26 => ?_) (fun h26 => ?_)
        · replace hf := (if_pos h26).symm.trans hf
          refine v_sub _ [1, 3, 4] rfl ?_
          exact hj125 M15 hf
        · replace hf := (if_neg h26).symm.trans hf
          refine v_aload_n G dX5_askNext_117 1 rfl ?_
          refine gf_5_0 G h0 t_240 (Or.inl rfl) dX5_askNext_118 ?_
          refine v_iload G dX5_askNext_121 0 rfl ?_
          refine v_iconst (-1 : Int32) G dX5_askNext_123 (by decide) ?_
          obtain ⟨g24, hf⟩ := gd_e hf
          refine as_28 G (kf_5_1 h0) g24 dX5_askNext_124 ?_
          refine v_nmM (fun M25 eM25 => ?_)
          replace hf := lt_e hf eM25
          refine v_sub _ [1, 3, 4] rfl ?_
          exact hj125 M25 hf
      · replace hf := (if_pos h27).symm.trans hf
        obtain rfl := Option.some.inj hf
        exact v_vret G dX5_askNext_110
    · replace hf := (if_pos h28).symm.trans hf
      obtain rfl := Option.some.inj hf
      exact v_vret G dX5_askNext_78
abbrev cX5_findPairs : ByteArray := prog_7_method_2_code
def yX5_findPairs : MethodName := ⟨RX5, "findPairs", "(LNoonGuides$Land;)V"⟩
theorem dX5_findPairs_0 : dc cX5_findPairs 0 (.iconst 0) 1 1 := ⟨by decide +kernel, rfl⟩
theorem dX5_findPairs_1 : dc cX5_findPairs 1 (.istore_n 2) 1 2 := ⟨by decide +kernel, rfl⟩
theorem dX5_findPairs_2 : dc cX5_findPairs 2 (.iload_n 2) 1 3 := ⟨by decide +kernel, rfl⟩
theorem dX5_findPairs_3 : dc cX5_findPairs 3 (.bipush 8) 2 5 := ⟨by decide +kernel, rfl⟩
theorem dX5_findPairs_5 : dc cX5_findPairs 5 (.if_icmp .ge 23) 3 8 := ⟨by decide +kernel, rfl⟩
theorem dX5_findPairs_8 : dc cX5_findPairs 8 (.aload_n 0) 1 9 := ⟨by decide +kernel, rfl⟩
theorem dX5_findPairs_9 : dc cX5_findPairs 9 (.getfield 9) 3 12 := ⟨by decide +kernel, rfl⟩
theorem dX5_findPairs_12 : dc cX5_findPairs 12 (.iload_n 2) 1 13 := ⟨by decide +kernel, rfl⟩
theorem dX5_findPairs_13 : dc cX5_findPairs 13 (.iconst (-1)) 1 14 := ⟨by decide +kernel, rfl⟩
theorem dX5_findPairs_14 : dc cX5_findPairs 14 (.iastore) 1 15 := ⟨by decide +kernel, rfl⟩
theorem dX5_findPairs_15 : dc cX5_findPairs 15 (.aload_n 0) 1 16 := ⟨by decide +kernel, rfl⟩
theorem dX5_findPairs_16 : dc cX5_findPairs 16 (.getfield 15) 3 19 := ⟨by decide +kernel, rfl⟩
theorem dX5_findPairs_19 : dc cX5_findPairs 19 (.iload_n 2) 1 20 := ⟨by decide +kernel, rfl⟩
theorem dX5_findPairs_20 : dc cX5_findPairs 20 (.iconst 0) 1 21 := ⟨by decide +kernel, rfl⟩
theorem dX5_findPairs_21 : dc cX5_findPairs 21 (.iastore) 1 22 := ⟨by decide +kernel, rfl⟩
theorem dX5_findPairs_22 : dc cX5_findPairs 22 (.iinc 2 1) 3 25 := ⟨by decide +kernel, rfl⟩
theorem dX5_findPairs_25 : dc cX5_findPairs 25 (.goto (-23)) 3 28 := ⟨by decide +kernel, rfl⟩
theorem dX5_findPairs_28 : dc cX5_findPairs 28 (.iconst 0) 1 29 := ⟨by decide +kernel, rfl⟩
theorem dX5_findPairs_29 : dc cX5_findPairs 29 (.istore_n 2) 1 30 := ⟨by decide +kernel, rfl⟩
theorem dX5_findPairs_30 : dc cX5_findPairs 30 (.iload_n 2) 1 31 := ⟨by decide +kernel, rfl⟩
theorem dX5_findPairs_31 : dc cX5_findPairs 31 (.bipush 64) 2 33 := ⟨by decide +kernel, rfl⟩
theorem dX5_findPairs_33 : dc cX5_findPairs 33 (.if_icmp .ge 53) 3 36 := ⟨by decide +kernel, rfl⟩
theorem dX5_findPairs_36 : dc cX5_findPairs 36 (.iconst 0) 1 37 := ⟨by decide +kernel, rfl⟩
theorem dX5_findPairs_37 : dc cX5_findPairs 37 (.istore_n 3) 1 38 := ⟨by decide +kernel, rfl⟩
theorem dX5_findPairs_38 : dc cX5_findPairs 38 (.iload_n 3) 1 39 := ⟨by decide +kernel, rfl⟩
theorem dX5_findPairs_39 : dc cX5_findPairs 39 (.aload_n 1) 1 40 := ⟨by decide +kernel, rfl⟩
theorem dX5_findPairs_40 : dc cX5_findPairs 40 (.getfield 18) 3 43 := ⟨by decide +kernel, rfl⟩
theorem dX5_findPairs_43 : dc cX5_findPairs 43 (.if_icmp .ge 37) 3 46 := ⟨by decide +kernel, rfl⟩
theorem dX5_findPairs_46 : dc cX5_findPairs 46 (.aload_n 1) 1 47 := ⟨by decide +kernel, rfl⟩
theorem dX5_findPairs_47 : dc cX5_findPairs 47 (.getfield 24) 3 50 := ⟨by decide +kernel, rfl⟩
theorem dX5_findPairs_50 : dc cX5_findPairs 50 (.iload_n 3) 1 51 := ⟨by decide +kernel, rfl⟩
theorem dX5_findPairs_51 : dc cX5_findPairs 51 (.aaload) 1 52 := ⟨by decide +kernel, rfl⟩
theorem dX5_findPairs_52 : dc cX5_findPairs 52 (.getfield 28) 3 55 := ⟨by decide +kernel, rfl⟩
theorem dX5_findPairs_55 : dc cX5_findPairs 55 (.ifCond .eq 19) 3 58 := ⟨by decide +kernel, rfl⟩
theorem dX5_findPairs_58 : dc cX5_findPairs 58 (.aload_n 0) 1 59 := ⟨by decide +kernel, rfl⟩
theorem dX5_findPairs_59 : dc cX5_findPairs 59 (.getfield 9) 3 62 := ⟨by decide +kernel, rfl⟩
theorem dX5_findPairs_62 : dc cX5_findPairs 62 (.iload_n 3) 1 63 := ⟨by decide +kernel, rfl⟩
theorem dX5_findPairs_63 : dc cX5_findPairs 63 (.iaload) 1 64 := ⟨by decide +kernel, rfl⟩
theorem dX5_findPairs_64 : dc cX5_findPairs 64 (.iconst (-1)) 1 65 := ⟨by decide +kernel, rfl⟩
theorem dX5_findPairs_65 : dc cX5_findPairs 65 (.if_icmp .ne 9) 3 68 := ⟨by decide +kernel, rfl⟩
theorem dX5_findPairs_68 : dc cX5_findPairs 68 (.aload_n 0) 1 69 := ⟨by decide +kernel, rfl⟩
theorem dX5_findPairs_69 : dc cX5_findPairs 69 (.aload_n 1) 1 70 := ⟨by decide +kernel, rfl⟩
theorem dX5_findPairs_70 : dc cX5_findPairs 70 (.iload_n 3) 1 71 := ⟨by decide +kernel, rfl⟩
theorem dX5_findPairs_71 : dc cX5_findPairs 71 (.invokevirtual 34) 3 74 := ⟨by decide +kernel, rfl⟩
theorem dX5_findPairs_74 : dc cX5_findPairs 74 (.iinc 3 1) 3 77 := ⟨by decide +kernel, rfl⟩
theorem dX5_findPairs_77 : dc cX5_findPairs 77 (.goto (-39)) 3 80 := ⟨by decide +kernel, rfl⟩
theorem dX5_findPairs_80 : dc cX5_findPairs 80 (.iinc 2 1) 3 83 := ⟨by decide +kernel, rfl⟩
theorem dX5_findPairs_83 : dc cX5_findPairs 83 (.goto (-53)) 3 86 := ⟨by decide +kernel, rfl⟩
theorem dX5_findPairs_86 : dc cX5_findPairs 86 (.return_) 1 87 := ⟨by decide +kernel, rfl⟩
theorem nm_X5_findPairs : (yX5_findPairs).cls ≠ "java/lang/invoke/MethodHandle" ∧ (yX5_findPairs).cls ≠ "java/lang/invoke/VarHandle" ∧ (parseMethodDescriptor (yX5_findPairs).desc).map (fun d => d.parameters.length) = some 1 := ⟨by decide +kernel, by decide +kernel, by decide +kernel⟩
set_option maxRecDepth 100000 in
set_option maxHeartbeats 4000000 in
theorem s_X5_findPairs_2 {ad : Nat → Nat} {cy : Nat → ClassId} {x : KX} (G : KG ad cy x cX5_findPairs "NoonGuides$Pairing" 4 (some none) 3) {a0 : Nat} {a1 : Nat} (h0 : kty a0 = 6) (h1 : kty a1 = 3) {k28 : KM → Option KM} {y : KM} (hk28 : ∀ (M : KM), k28 M = some y → KV ad cy x (none, y) 28 [(0, .ref (ad a0)), (1, .ref (ad a1))] [] M) : ∀ (n : Nat) (w2 : Int32) (M : KM), lp_X5_findPairs_2 n a0 a1 w2 M k28 = some y → KV ad cy x (none, y) 2 [(0, .ref (ad a0)), (1, .ref (ad a1)), (2, .int w2)] [] M := by
  intro n
  induction n with
  | zero =>
    intro w2 M hf
    cases hf
  | succ n ih =>
    intro w2 M hf
    rw [lp_X5_findPairs_2] at hf
    refine v_iload_n G dX5_findPairs_2 2 rfl ?_
    refine v_bipush (8 : Int32) G dX5_findPairs_3 (by decide) ?_
    refine v_icmp_ge 28 G dX5_findPairs_5 (by decide) (fun h6 => ?_) (fun h6 => ?_)
    · replace hf := (if_pos h6).symm.trans hf
      refine v_sub _ [0, 1] rfl ?_
      exact hk28 M hf
    · replace hf := (if_neg h6).symm.trans hf
      refine v_aload_n G dX5_findPairs_8 0 rfl ?_
      refine gf_5_0 G h0 t_240 (Or.inl rfl) dX5_findPairs_9 ?_
      refine v_iload_n G dX5_findPairs_12 2 rfl ?_
      refine v_iconst (-1 : Int32) G dX5_findPairs_13 (by decide) ?_
      obtain ⟨g1, hf⟩ := gd_e hf
      refine as_28 G (kf_5_1 h0) g1 dX5_findPairs_14 ?_
      refine v_nmM (fun M2 eM2 => ?_)
      replace hf := lt_e hf eM2
      refine v_aload_n G dX5_findPairs_15 0 rfl ?_
      refine gf_5_1 G h0 t_242 (Or.inl rfl) dX5_findPairs_16 ?_
      refine v_iload_n G dX5_findPairs_19 2 rfl ?_
      refine v_iconst (0 : Int32) G dX5_findPairs_20 (by decide) ?_
      obtain ⟨g3, hf⟩ := gd_e hf
      refine as_28 G (kf_5_2 h0) g3 dX5_findPairs_21 ?_
      refine v_nmM (fun M4 eM4 => ?_)
      replace hf := lt_e hf eM4
      obtain ⟨v5, ev5⟩ : ∃ q : Int32, q = w2 + (1 : Int32) := ⟨_, rfl⟩
      replace hf := lt_e hf ev5
      refine v_iinc v5 [(2, .int v5), (0, .ref (ad a0)), (1, .ref (ad a1))] G dX5_findPairs_22 2 rfl (by rw [ev5]; rfl) (by decide) rfl ?_
      refine v_goto 2 G dX5_findPairs_25 (by decide) ?_
      refine v_sub _ [1, 2, 0] rfl ?_
      exact ih v5 M4 hf
set_option maxRecDepth 100000 in
set_option maxHeartbeats 4000000 in
theorem s_X5_findPairs_38 {ad : Nat → Nat} {cy : Nat → ClassId} {x : KX} (G : KG ad cy x cX5_findPairs "NoonGuides$Pairing" 4 (some none) 3) {a0 : Nat} {a1 : Nat} {c2 : Int32} (h0 : kty a0 = 6) (h1 : kty a1 = 3) {k80 : KM → Option KM} {y : KM} (hk80 : ∀ (M : KM), k80 M = some y → KV ad cy x (none, y) 80 [(0, .ref (ad a0)), (1, .ref (ad a1)), (2, .int c2)] [] M) : ∀ (n : Nat) (w3 : Int32) (M : KM), lp_X5_findPairs_38 n a0 a1 c2 w3 M k80 = some y → KV ad cy x (none, y) 38 [(0, .ref (ad a0)), (1, .ref (ad a1)), (2, .int c2), (3, .int w3)] [] M := by
  intro n
  induction n with
  | zero =>
    intro w3 M hf
    cases hf
  | succ n ih =>
    intro w3 M hf
    rw [lp_X5_findPairs_38] at hf
    refine v_iload_n G dX5_findPairs_38 3 rfl ?_
    refine v_aload_n G dX5_findPairs_39 1 rfl ?_
    refine gf_2_10 G h1 t_418 (Or.inl rfl) dX5_findPairs_40 ?_
    refine v_icmp_ge 80 G dX5_findPairs_43 (by decide) (fun h15 => ?_) (fun h15 => ?_)
    · replace hf := (if_pos h15).symm.trans hf
      refine v_sub _ [0, 1, 2] rfl ?_
      exact hk80 M hf
    · replace hf := (if_neg h15).symm.trans hf
      refine v_aload_n G dX5_findPairs_46 1 rfl ?_
      refine gf_2_5 G h1 t_399 (Or.inl rfl) dX5_findPairs_47 ?_
      refine v_iload_n G dX5_findPairs_50 3 rfl ?_
      obtain ⟨g8, hf⟩ := gd_e hf
      refine al_Person G (kf_2_6 h1) g8 dX5_findPairs_51 ?_
      refine gf_7_3 G (ke_Person (kf_2_6 h1) (ix_lt g8)) t_336 (Or.inl rfl) dX5_findPairs_52 ?_
      obtain ⟨j74, ej74, hf⟩ := lt_j hf
      have hj74 : ∀ (M9 : KM), j74 M9 = some y → KV ad cy x (none, y) 74 [(0, .ref (ad a0)), (1, .ref (ad a1)), (2, .int c2), (3, .int w3)] [] M9 := by
        intro M9 hf
        rw [ej74] at hf
        obtain ⟨v10, ev10⟩ : ∃ q : Int32, q = w3 + (1 : Int32) := ⟨_, rfl⟩
        replace hf := lt_e hf ev10
        refine v_iinc v10 [(3, .int v10), (0, .ref (ad a0)), (1, .ref (ad a1)), (2, .int c2)] G dX5_findPairs_74 3 rfl (by rw [ev10]; rfl) (by decide) rfl ?_
        refine v_goto 38 G dX5_findPairs_77 (by decide) ?_
        refine v_sub _ [1, 2, 3, 0] rfl ?_
        exact ih v10 M9 hf
      refine v_if_eq 74 G dX5_findPairs_55 (by decide) (fun h14 => ?_) (fun h14 => ?_)
      · replace hf := (if_pos h14).symm.trans hf
        refine v_sub _ [0, 1, 2, 3] rfl ?_
        exact hj74 M hf
      · replace hf := (if_neg h14).symm.trans hf
        refine v_aload_n G dX5_findPairs_58 0 rfl ?_
        refine gf_5_0 G h0 t_240 (Or.inl rfl) dX5_findPairs_59 ?_
        refine v_iload_n G dX5_findPairs_62 3 rfl ?_
        obtain ⟨g11, hf⟩ := gd_e hf
        refine al_28 G (kf_5_1 h0) g11 dX5_findPairs_63 ?_
        refine v_iconst (-1 : Int32) G dX5_findPairs_64 (by decide) ?_
        refine v_icmp_ne 74 G dX5_findPairs_65 (by decide) (fun h13 => ?_) (fun h13 => ?_)
        · replace hf := (if_neg h13).symm.trans hf
          refine v_sub _ [0, 1, 2, 3] rfl ?_
          exact hj74 M hf
        · replace hf := (if_pos h13).symm.trans hf
          refine v_aload_n G dX5_findPairs_68 0 rfl ?_
          refine v_aload_n G dX5_findPairs_69 1 rfl ?_
          refine v_iload_n G dX5_findPairs_70 3 rfl ?_
          obtain ⟨v12, hcv12, hf⟩ := bd_e hf
          refine v_callV [.ref (ad a1), .int w3] G (c_X5_askNext n h0 h1 hcv12) h0 (by decide) rfl rfl rfl t_1335 t_1337 t_p48 t_11 t_1338 nm_X5_askNext (by decide) (by decide) rfl rfl (Nat.le_of_ble_eq_true rfl) dX5_findPairs_71 (kv_rv ?_)
          refine v_sub _ [0, 1, 2, 3] rfl ?_
          exact hj74 v12 hf
set_option maxRecDepth 100000 in
set_option maxHeartbeats 4000000 in
theorem s_X5_findPairs_30 {ad : Nat → Nat} {cy : Nat → ClassId} {x : KX} (G : KG ad cy x cX5_findPairs "NoonGuides$Pairing" 4 (some none) 3) {a0 : Nat} {a1 : Nat} (h0 : kty a0 = 6) (h1 : kty a1 = 3) {y : KM} : ∀ (n : Nat) (w2 : Int32) (M : KM), lp_X5_findPairs_30 n a0 a1 w2 M = some y → KV ad cy x (none, y) 30 [(0, .ref (ad a0)), (1, .ref (ad a1)), (2, .int w2)] [] M := by
  intro n
  induction n with
  | zero =>
    intro w2 M hf
    cases hf
  | succ n ih =>
    intro w2 M hf
    rw [lp_X5_findPairs_30] at hf
    refine v_iload_n G dX5_findPairs_30 2 rfl ?_
    refine v_bipush (64 : Int32) G dX5_findPairs_31 (by decide) ?_
    refine v_icmp_ge 86 G dX5_findPairs_33 (by decide) (fun h18 => ?_) (fun h18 => ?_)
    · replace hf := (if_pos h18).symm.trans hf
      obtain rfl := Option.some.inj hf
      exact v_vret G dX5_findPairs_86
    · replace hf := (if_neg h18).symm.trans hf
      refine v_iconst (0 : Int32) G dX5_findPairs_36 (by decide) ?_
      refine v_istore_n [(3, .int (0 : Int32)), (0, .ref (ad a0)), (1, .ref (ad a1)), (2, .int w2)] G dX5_findPairs_37 (by decide) rfl ?_
      refine v_sub _ [1, 2, 3, 0] rfl ?_
      refine s_X5_findPairs_38 G h0 h1 (fun M16 hf => ?_) n (0 : Int32) M hf
      · obtain ⟨v17, ev17⟩ : ∃ q : Int32, q = w2 + (1 : Int32) := ⟨_, rfl⟩
        replace hf := lt_e hf ev17
        refine v_iinc v17 [(2, .int v17), (0, .ref (ad a0)), (1, .ref (ad a1))] G dX5_findPairs_80 2 rfl (by rw [ev17]; rfl) (by decide) rfl ?_
        refine v_goto 30 G dX5_findPairs_83 (by decide) ?_
        refine v_sub _ [1, 2, 0] rfl ?_
        exact ih v17 M16 hf
set_option maxRecDepth 100000 in
set_option maxHeartbeats 4000000 in
theorem c_X5_findPairs {l : Launch} {ad : Nat → Nat} {cy : Nat → ClassId} {D : va_G} {z : Nat} (n : Nat) {a0 : Nat} {a1 : Nat} {M : KM} {y : KM} (h0 : kty a0 = 6) (h1 : kty a1 = 3) (hf : f_X5_findPairs n a0 a1 M = some y) : KC l ad cy D z yX5_findPairs cX5_findPairs 4 none 3 [.ref (ad a0), .ref (ad a1)] M (none, y) := by
  refine kv_enter (by decide +kernel) (Nat.le_of_ble_eq_true rfl) ?_
  intro x hl hD hz G
  subst hl hD hz
  unfold f_X5_findPairs at hf
  have G : KG ad cy x cX5_findPairs "NoonGuides$Pairing" 4 (some none) 3 := G
  show KV ad cy x (none, y) 0 [(0, .ref (ad a0)), (1, .ref (ad a1))] [] M
  refine v_iconst (0 : Int32) G dX5_findPairs_0 (by decide) ?_
  refine v_istore_n [(2, .int (0 : Int32)), (0, .ref (ad a0)), (1, .ref (ad a1))] G dX5_findPairs_1 (by decide) rfl ?_
  refine v_sub _ [1, 2, 0] rfl ?_
  refine s_X5_findPairs_2 G h0 h1 (fun M7 hf => ?_) n (0 : Int32) M hf
  · refine v_iconst (0 : Int32) G dX5_findPairs_28 (by decide) ?_
    refine v_istore_n [(2, .int (0 : Int32)), (0, .ref (ad a0)), (1, .ref (ad a1))] G dX5_findPairs_29 (by decide) rfl ?_
    refine v_sub _ [1, 2, 0] rfl ?_
    refine s_X5_findPairs_30 G h0 h1 n (0 : Int32) M7 hf
abbrev cX5_countPairs : ByteArray := prog_7_method_5_code
def yX5_countPairs : MethodName := ⟨RX5, "countPairs", "(LNoonGuides$Land;)I"⟩
theorem dX5_countPairs_0 : dc cX5_countPairs 0 (.iconst 0) 1 1 := ⟨by decide +kernel, rfl⟩
theorem dX5_countPairs_1 : dc cX5_countPairs 1 (.istore_n 2) 1 2 := ⟨by decide +kernel, rfl⟩
theorem dX5_countPairs_2 : dc cX5_countPairs 2 (.iconst 0) 1 3 := ⟨by decide +kernel, rfl⟩
theorem dX5_countPairs_3 : dc cX5_countPairs 3 (.istore_n 3) 1 4 := ⟨by decide +kernel, rfl⟩
theorem dX5_countPairs_4 : dc cX5_countPairs 4 (.iload_n 3) 1 5 := ⟨by decide +kernel, rfl⟩
theorem dX5_countPairs_5 : dc cX5_countPairs 5 (.aload_n 1) 1 6 := ⟨by decide +kernel, rfl⟩
theorem dX5_countPairs_6 : dc cX5_countPairs 6 (.getfield 18) 3 9 := ⟨by decide +kernel, rfl⟩
theorem dX5_countPairs_9 : dc cX5_countPairs 9 (.if_icmp .ge 39) 3 12 := ⟨by decide +kernel, rfl⟩
theorem dX5_countPairs_12 : dc cX5_countPairs 12 (.iload_n 2) 1 13 := ⟨by decide +kernel, rfl⟩
theorem dX5_countPairs_13 : dc cX5_countPairs 13 (.aload_n 1) 1 14 := ⟨by decide +kernel, rfl⟩
theorem dX5_countPairs_14 : dc cX5_countPairs 14 (.getfield 24) 3 17 := ⟨by decide +kernel, rfl⟩
theorem dX5_countPairs_17 : dc cX5_countPairs 17 (.iload_n 3) 1 18 := ⟨by decide +kernel, rfl⟩
theorem dX5_countPairs_18 : dc cX5_countPairs 18 (.aaload) 1 19 := ⟨by decide +kernel, rfl⟩
theorem dX5_countPairs_19 : dc cX5_countPairs 19 (.getfield 28) 3 22 := ⟨by decide +kernel, rfl⟩
theorem dX5_countPairs_22 : dc cX5_countPairs 22 (.ifCond .eq 17) 3 25 := ⟨by decide +kernel, rfl⟩
theorem dX5_countPairs_25 : dc cX5_countPairs 25 (.aload_n 0) 1 26 := ⟨by decide +kernel, rfl⟩
theorem dX5_countPairs_26 : dc cX5_countPairs 26 (.getfield 9) 3 29 := ⟨by decide +kernel, rfl⟩
theorem dX5_countPairs_29 : dc cX5_countPairs 29 (.iload_n 3) 1 30 := ⟨by decide +kernel, rfl⟩
theorem dX5_countPairs_30 : dc cX5_countPairs 30 (.iaload) 1 31 := ⟨by decide +kernel, rfl⟩
theorem dX5_countPairs_31 : dc cX5_countPairs 31 (.iconst (-1)) 1 32 := ⟨by decide +kernel, rfl⟩
theorem dX5_countPairs_32 : dc cX5_countPairs 32 (.if_icmp .eq 7) 3 35 := ⟨by decide +kernel, rfl⟩
theorem dX5_countPairs_35 : dc cX5_countPairs 35 (.iconst 1) 1 36 := ⟨by decide +kernel, rfl⟩
theorem dX5_countPairs_36 : dc cX5_countPairs 36 (.goto 4) 3 39 := ⟨by decide +kernel, rfl⟩
theorem dX5_countPairs_39 : dc cX5_countPairs 39 (.iconst 0) 1 40 := ⟨by decide +kernel, rfl⟩
theorem dX5_countPairs_40 : dc cX5_countPairs 40 (.iadd) 1 41 := ⟨by decide +kernel, rfl⟩
theorem dX5_countPairs_41 : dc cX5_countPairs 41 (.istore_n 2) 1 42 := ⟨by decide +kernel, rfl⟩
theorem dX5_countPairs_42 : dc cX5_countPairs 42 (.iinc 3 1) 3 45 := ⟨by decide +kernel, rfl⟩
theorem dX5_countPairs_45 : dc cX5_countPairs 45 (.goto (-41)) 3 48 := ⟨by decide +kernel, rfl⟩
theorem dX5_countPairs_48 : dc cX5_countPairs 48 (.iload_n 2) 1 49 := ⟨by decide +kernel, rfl⟩
theorem dX5_countPairs_49 : dc cX5_countPairs 49 (.ireturn) 1 50 := ⟨by decide +kernel, rfl⟩
theorem nm_X5_countPairs : (yX5_countPairs).cls ≠ "java/lang/invoke/MethodHandle" ∧ (yX5_countPairs).cls ≠ "java/lang/invoke/VarHandle" ∧ (parseMethodDescriptor (yX5_countPairs).desc).map (fun d => d.parameters.length) = some 1 := ⟨by decide +kernel, by decide +kernel, by decide +kernel⟩
set_option maxRecDepth 100000 in
set_option maxHeartbeats 4000000 in
theorem s_X5_countPairs_4 {ad : Nat → Nat} {cy : Nat → ClassId} {x : KX} (G : KG ad cy x cX5_countPairs "NoonGuides$Pairing" 4 (some (some .int)) 1) {a0 : Nat} {a1 : Nat} {M : KM} (h0 : kty a0 = 6) (h1 : kty a1 = 3) {y : Int32} : ∀ (n : Nat) (w2 : Int32) (w3 : Int32), lp_X5_countPairs_4 n a0 a1 M w2 w3 = some y → KV ad cy x (some (.int y), M) 4 [(0, .ref (ad a0)), (1, .ref (ad a1)), (2, .int w2), (3, .int w3)] [] M := by
  intro n
  induction n with
  | zero =>
    intro w2 w3 hf
    cases hf
  | succ n ih =>
    intro w2 w3 hf
    rw [lp_X5_countPairs_4] at hf
    refine v_iload_n G dX5_countPairs_4 3 rfl ?_
    refine v_aload_n G dX5_countPairs_5 1 rfl ?_
    refine gf_2_10 G h1 t_418 (Or.inl rfl) dX5_countPairs_6 ?_
    refine v_icmp_ge 48 G dX5_countPairs_9 (by decide) (fun h8 => ?_) (fun h8 => ?_)
    · replace hf := (if_pos h8).symm.trans hf
      refine v_iload_n G dX5_countPairs_48 2 rfl ?_
      obtain rfl := Option.some.inj hf
      exact v_iret G dX5_countPairs_49
    · replace hf := (if_neg h8).symm.trans hf
      refine v_iload_n G dX5_countPairs_12 2 rfl ?_
      refine v_aload_n G dX5_countPairs_13 1 rfl ?_
      refine gf_2_5 G h1 t_399 (Or.inl rfl) dX5_countPairs_14 ?_
      refine v_iload_n G dX5_countPairs_17 3 rfl ?_
      obtain ⟨g1, hf⟩ := gd_e hf
      refine al_Person G (kf_2_6 h1) g1 dX5_countPairs_18 ?_
      refine gf_7_3 G (ke_Person (kf_2_6 h1) (ix_lt g1)) t_336 (Or.inl rfl) dX5_countPairs_19 ?_
      obtain ⟨j40, ej40, hf⟩ := lt_j hf
      have hj40 : ∀ (x2 : Int32), j40 x2 = some y → KV ad cy x (some (.int y), M) 40 [(0, .ref (ad a0)), (1, .ref (ad a1)), (3, .int w3)] [.int x2, .int w2] M := by
        intro x2 hf
        rw [ej40] at hf
        refine v_iadd G dX5_countPairs_40 ?_
        refine v_nmi (fun v3 ev3 => ?_)
        replace hf := lt_e hf ev3
        refine v_istore_n [(2, .int v3), (0, .ref (ad a0)), (1, .ref (ad a1)), (3, .int w3)] G dX5_countPairs_41 (by decide) rfl ?_
        obtain ⟨v4, ev4⟩ : ∃ q : Int32, q = w3 + (1 : Int32) := ⟨_, rfl⟩
        replace hf := lt_e hf ev4
        refine v_iinc v4 [(3, .int v4), (2, .int v3), (0, .ref (ad a0)), (1, .ref (ad a1))] G dX5_countPairs_42 3 rfl (by rw [ev4]; rfl) (by decide) rfl ?_
        refine v_goto 4 G dX5_countPairs_45 (by decide) ?_
        refine v_sub _ [2, 3, 1, 0] rfl ?_
        exact ih v3 v4 hf
      obtain ⟨j39, ej39, hf⟩ := lt_j hf
      have hj39 : j39 = some y → KV ad cy x (some (.int y), M) 39 [(0, .ref (ad a0)), (1, .ref (ad a1)), (3, .int w3)] [.int w2] M := by
        intro hf
        rw [ej39] at hf
        refine v_iconst (0 : Int32) G dX5_countPairs_39 (by decide) ?_
        refine v_sub _ [0, 1, 2] rfl ?_
        exact hj40 (0 : Int32) hf
      refine v_if_eq 39 G dX5_countPairs_22 (by decide) (fun h7 => ?_) (fun h7 => ?_)
      · replace hf := (if_pos h7).symm.trans hf
        refine v_sub _ [0, 1, 3] rfl ?_
        exact hj39 hf
      · replace hf := (if_neg h7).symm.trans hf
        refine v_aload_n G dX5_countPairs_25 0 rfl ?_
        refine gf_5_0 G h0 t_240 (Or.inl rfl) dX5_countPairs_26 ?_
        refine v_iload_n G dX5_countPairs_29 3 rfl ?_
        obtain ⟨g5, hf⟩ := gd_e hf
        refine al_28 G (kf_5_1 h0) g5 dX5_countPairs_30 ?_
        refine v_iconst (-1 : Int32) G dX5_countPairs_31 (by decide) ?_
        refine v_icmp_eq 39 G dX5_countPairs_32 (by decide) (fun h6 => ?_) (fun h6 => ?_)
        · replace hf := (if_pos h6).symm.trans hf
          refine v_sub _ [0, 1, 3] rfl ?_
          exact hj39 hf
        · replace hf := (if_neg h6).symm.trans hf
          refine v_iconst (1 : Int32) G dX5_countPairs_35 (by decide) ?_
          refine v_goto 40 G dX5_countPairs_36 (by decide) ?_
          refine v_sub _ [0, 1, 3] rfl ?_
          exact hj40 (1 : Int32) hf
set_option maxRecDepth 100000 in
set_option maxHeartbeats 4000000 in
theorem c_X5_countPairs {l : Launch} {ad : Nat → Nat} {cy : Nat → ClassId} {D : va_G} {z : Nat} (n : Nat) {a0 : Nat} {a1 : Nat} {M : KM} {y : Int32} (h0 : kty a0 = 6) (h1 : kty a1 = 3) (hf : f_X5_countPairs n a0 a1 M = some y) : KC l ad cy D z yX5_countPairs cX5_countPairs 4 (some .int) 1 [.ref (ad a0), .ref (ad a1)] M (some (.int y), M) := by
  refine kv_enter (by decide +kernel) (Nat.le_of_ble_eq_true rfl) ?_
  intro x hl hD hz G
  subst hl hD hz
  unfold f_X5_countPairs at hf
  have G : KG ad cy x cX5_countPairs "NoonGuides$Pairing" 4 (some (some .int)) 1 := G
  show KV ad cy x (some (.int y), M) 0 [(0, .ref (ad a0)), (1, .ref (ad a1))] [] M
  refine v_iconst (0 : Int32) G dX5_countPairs_0 (by decide) ?_
  refine v_istore_n [(2, .int (0 : Int32)), (0, .ref (ad a0)), (1, .ref (ad a1))] G dX5_countPairs_1 (by decide) rfl ?_
  refine v_iconst (0 : Int32) G dX5_countPairs_2 (by decide) ?_
  refine v_istore_n [(3, .int (0 : Int32)), (2, .int (0 : Int32)), (0, .ref (ad a0)), (1, .ref (ad a1))] G dX5_countPairs_3 (by decide) rfl ?_
  refine v_sub _ [2, 3, 1, 0] rfl ?_
  refine s_X5_countPairs_4 G h0 h1 n (0 : Int32) (0 : Int32) hf
abbrev cX5_sumOwed : ByteArray := prog_7_method_6_code
def yX5_sumOwed : MethodName := ⟨RX5, "sumOwed", "(LNoonGuides$Land;)I"⟩
theorem dX5_sumOwed_0 : dc cX5_sumOwed 0 (.iconst 0) 1 1 := ⟨by decide +kernel, rfl⟩
theorem dX5_sumOwed_1 : dc cX5_sumOwed 1 (.istore_n 2) 1 2 := ⟨by decide +kernel, rfl⟩
theorem dX5_sumOwed_2 : dc cX5_sumOwed 2 (.iconst 0) 1 3 := ⟨by decide +kernel, rfl⟩
theorem dX5_sumOwed_3 : dc cX5_sumOwed 3 (.istore_n 3) 1 4 := ⟨by decide +kernel, rfl⟩
theorem dX5_sumOwed_4 : dc cX5_sumOwed 4 (.iload_n 3) 1 5 := ⟨by decide +kernel, rfl⟩
theorem dX5_sumOwed_5 : dc cX5_sumOwed 5 (.aload_n 1) 1 6 := ⟨by decide +kernel, rfl⟩
theorem dX5_sumOwed_6 : dc cX5_sumOwed 6 (.getfield 18) 3 9 := ⟨by decide +kernel, rfl⟩
theorem dX5_sumOwed_9 : dc cX5_sumOwed 9 (.if_icmp .ge 53) 3 12 := ⟨by decide +kernel, rfl⟩
theorem dX5_sumOwed_12 : dc cX5_sumOwed 12 (.aload_n 1) 1 13 := ⟨by decide +kernel, rfl⟩
theorem dX5_sumOwed_13 : dc cX5_sumOwed 13 (.getfield 24) 3 16 := ⟨by decide +kernel, rfl⟩
theorem dX5_sumOwed_16 : dc cX5_sumOwed 16 (.iload_n 3) 1 17 := ⟨by decide +kernel, rfl⟩
theorem dX5_sumOwed_17 : dc cX5_sumOwed 17 (.aaload) 1 18 := ⟨by decide +kernel, rfl⟩
theorem dX5_sumOwed_18 : dc cX5_sumOwed 18 (.getfield 28) 3 21 := ⟨by decide +kernel, rfl⟩
theorem dX5_sumOwed_21 : dc cX5_sumOwed 21 (.ifCond .eq 35) 3 24 := ⟨by decide +kernel, rfl⟩
theorem dX5_sumOwed_24 : dc cX5_sumOwed 24 (.aload_n 0) 1 25 := ⟨by decide +kernel, rfl⟩
theorem dX5_sumOwed_25 : dc cX5_sumOwed 25 (.getfield 9) 3 28 := ⟨by decide +kernel, rfl⟩
theorem dX5_sumOwed_28 : dc cX5_sumOwed 28 (.iload_n 3) 1 29 := ⟨by decide +kernel, rfl⟩
theorem dX5_sumOwed_29 : dc cX5_sumOwed 29 (.iaload) 1 30 := ⟨by decide +kernel, rfl⟩
theorem dX5_sumOwed_30 : dc cX5_sumOwed 30 (.iconst (-1)) 1 31 := ⟨by decide +kernel, rfl⟩
theorem dX5_sumOwed_31 : dc cX5_sumOwed 31 (.if_icmp .eq 25) 3 34 := ⟨by decide +kernel, rfl⟩
theorem dX5_sumOwed_34 : dc cX5_sumOwed 34 (.iload_n 2) 1 35 := ⟨by decide +kernel, rfl⟩
theorem dX5_sumOwed_35 : dc cX5_sumOwed 35 (.aload_n 1) 1 36 := ⟨by decide +kernel, rfl⟩
theorem dX5_sumOwed_36 : dc cX5_sumOwed 36 (.getfield 24) 3 39 := ⟨by decide +kernel, rfl⟩
theorem dX5_sumOwed_39 : dc cX5_sumOwed 39 (.iload_n 3) 1 40 := ⟨by decide +kernel, rfl⟩
theorem dX5_sumOwed_40 : dc cX5_sumOwed 40 (.aaload) 1 41 := ⟨by decide +kernel, rfl⟩
theorem dX5_sumOwed_41 : dc cX5_sumOwed 41 (.getfield 42) 3 44 := ⟨by decide +kernel, rfl⟩
theorem dX5_sumOwed_44 : dc cX5_sumOwed 44 (.aload_n 0) 1 45 := ⟨by decide +kernel, rfl⟩
theorem dX5_sumOwed_45 : dc cX5_sumOwed 45 (.getfield 9) 3 48 := ⟨by decide +kernel, rfl⟩
theorem dX5_sumOwed_48 : dc cX5_sumOwed 48 (.iload_n 3) 1 49 := ⟨by decide +kernel, rfl⟩
theorem dX5_sumOwed_49 : dc cX5_sumOwed 49 (.iaload) 1 50 := ⟨by decide +kernel, rfl⟩
theorem dX5_sumOwed_50 : dc cX5_sumOwed 50 (.iaload) 1 51 := ⟨by decide +kernel, rfl⟩
theorem dX5_sumOwed_51 : dc cX5_sumOwed 51 (.invokestatic 45) 3 54 := ⟨by decide +kernel, rfl⟩
theorem dX5_sumOwed_54 : dc cX5_sumOwed 54 (.iadd) 1 55 := ⟨by decide +kernel, rfl⟩
theorem dX5_sumOwed_55 : dc cX5_sumOwed 55 (.istore_n 2) 1 56 := ⟨by decide +kernel, rfl⟩
theorem dX5_sumOwed_56 : dc cX5_sumOwed 56 (.iinc 3 1) 3 59 := ⟨by decide +kernel, rfl⟩
theorem dX5_sumOwed_59 : dc cX5_sumOwed 59 (.goto (-55)) 3 62 := ⟨by decide +kernel, rfl⟩
theorem dX5_sumOwed_62 : dc cX5_sumOwed 62 (.iload_n 2) 1 63 := ⟨by decide +kernel, rfl⟩
theorem dX5_sumOwed_63 : dc cX5_sumOwed 63 (.ireturn) 1 64 := ⟨by decide +kernel, rfl⟩
theorem nm_X5_sumOwed : (yX5_sumOwed).cls ≠ "java/lang/invoke/MethodHandle" ∧ (yX5_sumOwed).cls ≠ "java/lang/invoke/VarHandle" ∧ (parseMethodDescriptor (yX5_sumOwed).desc).map (fun d => d.parameters.length) = some 1 := ⟨by decide +kernel, by decide +kernel, by decide +kernel⟩
set_option maxRecDepth 100000 in
set_option maxHeartbeats 4000000 in
theorem s_X5_sumOwed_4 {ad : Nat → Nat} {cy : Nat → ClassId} {x : KX} (G : KG ad cy x cX5_sumOwed "NoonGuides$Pairing" 4 (some (some .int)) 1) {a0 : Nat} {a1 : Nat} {M : KM} (h0 : kty a0 = 6) (h1 : kty a1 = 3) {y : Int32} : ∀ (n : Nat) (w2 : Int32) (w3 : Int32), lp_X5_sumOwed_4 n a0 a1 M w2 w3 = some y → KV ad cy x (some (.int y), M) 4 [(0, .ref (ad a0)), (1, .ref (ad a1)), (2, .int w2), (3, .int w3)] [] M := by
  intro n
  induction n with
  | zero =>
    intro w2 w3 hf
    cases hf
  | succ n ih =>
    intro w2 w3 hf
    rw [lp_X5_sumOwed_4] at hf
    refine v_iload_n G dX5_sumOwed_4 3 rfl ?_
    refine v_aload_n G dX5_sumOwed_5 1 rfl ?_
    refine gf_2_10 G h1 t_418 (Or.inl rfl) dX5_sumOwed_6 ?_
    refine v_icmp_ge 62 G dX5_sumOwed_9 (by decide) (fun h12 => ?_) (fun h12 => ?_)
    · replace hf := (if_pos h12).symm.trans hf
      refine v_iload_n G dX5_sumOwed_62 2 rfl ?_
      obtain rfl := Option.some.inj hf
      exact v_iret G dX5_sumOwed_63
    · replace hf := (if_neg h12).symm.trans hf
      refine v_aload_n G dX5_sumOwed_12 1 rfl ?_
      refine gf_2_5 G h1 t_399 (Or.inl rfl) dX5_sumOwed_13 ?_
      refine v_iload_n G dX5_sumOwed_16 3 rfl ?_
      obtain ⟨g1, hf⟩ := gd_e hf
      refine al_Person G (kf_2_6 h1) g1 dX5_sumOwed_17 ?_
      refine gf_7_3 G (ke_Person (kf_2_6 h1) (ix_lt g1)) t_336 (Or.inl rfl) dX5_sumOwed_18 ?_
      obtain ⟨j56, ej56, hf⟩ := lt_j hf
      have hj56 : ∀ (x2 : Int32), j56 x2 = some y → KV ad cy x (some (.int y), M) 56 [(0, .ref (ad a0)), (1, .ref (ad a1)), (2, .int x2), (3, .int w3)] [] M := by
        intro x2 hf
        rw [ej56] at hf
        obtain ⟨v3, ev3⟩ : ∃ q : Int32, q = w3 + (1 : Int32) := ⟨_, rfl⟩
        replace hf := lt_e hf ev3
        refine v_iinc v3 [(3, .int v3), (0, .ref (ad a0)), (1, .ref (ad a1)), (2, .int x2)] G dX5_sumOwed_56 3 rfl (by rw [ev3]; rfl) (by decide) rfl ?_
        refine v_goto 4 G dX5_sumOwed_59 (by decide) ?_
        refine v_sub _ [1, 2, 3, 0] rfl ?_
        exact ih x2 v3 hf
      refine v_if_eq 56 G dX5_sumOwed_21 (by decide) (fun h11 => ?_) (fun h11 => ?_)
      · replace hf := (if_pos h11).symm.trans hf
        refine v_sub _ [0, 1, 2, 3] rfl ?_
        exact hj56 w2 hf
      · replace hf := (if_neg h11).symm.trans hf
        refine v_aload_n G dX5_sumOwed_24 0 rfl ?_
        refine gf_5_0 G h0 t_240 (Or.inl rfl) dX5_sumOwed_25 ?_
        refine v_iload_n G dX5_sumOwed_28 3 rfl ?_
        obtain ⟨g4, hf⟩ := gd_e hf
        refine al_28 G (kf_5_1 h0) g4 dX5_sumOwed_29 ?_
        refine v_iconst (-1 : Int32) G dX5_sumOwed_30 (by decide) ?_
        refine v_icmp_eq 56 G dX5_sumOwed_31 (by decide) (fun h10 => ?_) (fun h10 => ?_)
        · replace hf := (if_pos h10).symm.trans hf
          refine v_sub _ [0, 1, 2, 3] rfl ?_
          exact hj56 w2 hf
        · replace hf := (if_neg h10).symm.trans hf
          refine v_iload_n G dX5_sumOwed_34 2 rfl ?_
          refine v_aload_n G dX5_sumOwed_35 1 rfl ?_
          refine gf_2_5 G h1 t_399 (Or.inl rfl) dX5_sumOwed_36 ?_
          refine v_iload_n G dX5_sumOwed_39 3 rfl ?_
          obtain ⟨g5, hf⟩ := gd_e hf
          refine al_Person G (kf_2_6 h1) g5 dX5_sumOwed_40 ?_
          refine gf_7_1 G (ke_Person (kf_2_6 h1) (ix_lt g5)) t_330 (Or.inl rfl) dX5_sumOwed_41 ?_
          refine v_aload_n G dX5_sumOwed_44 0 rfl ?_
          refine gf_5_0 G h0 t_240 (Or.inl rfl) dX5_sumOwed_45 ?_
          refine v_iload_n G dX5_sumOwed_48 3 rfl ?_
          obtain ⟨g6, hf⟩ := gd_e hf
          refine al_28 G (kf_5_1 h0) g6 dX5_sumOwed_49 ?_
          obtain ⟨g7, hf⟩ := gd_e hf
          refine al_28 G (kf_7_2 (ke_Person (kf_2_6 h1) (ix_lt g5))) g7 dX5_sumOwed_50 ?_
          refine v_mabs G (by decide) t_1358 t_1359 t_19 t_1360 (Nat.le_of_ble_eq_true rfl) dX5_sumOwed_51 ?_
          refine v_nmi (fun v8 ev8 => ?_)
          replace hf := lt_e hf ev8
          refine v_iadd G dX5_sumOwed_54 ?_
          refine v_nmi (fun v9 ev9 => ?_)
          replace hf := lt_e hf ev9
          refine v_istore_n [(2, .int v9), (0, .ref (ad a0)), (1, .ref (ad a1)), (3, .int w3)] G dX5_sumOwed_55 (by decide) rfl ?_
          refine v_sub _ [1, 2, 0, 3] rfl ?_
          exact hj56 v9 hf
set_option maxRecDepth 100000 in
set_option maxHeartbeats 4000000 in
theorem c_X5_sumOwed {l : Launch} {ad : Nat → Nat} {cy : Nat → ClassId} {D : va_G} {z : Nat} (n : Nat) {a0 : Nat} {a1 : Nat} {M : KM} {y : Int32} (h0 : kty a0 = 6) (h1 : kty a1 = 3) (hf : f_X5_sumOwed n a0 a1 M = some y) : KC l ad cy D z yX5_sumOwed cX5_sumOwed 4 (some .int) 1 [.ref (ad a0), .ref (ad a1)] M (some (.int y), M) := by
  refine kv_enter (by decide +kernel) (Nat.le_of_ble_eq_true rfl) ?_
  intro x hl hD hz G
  subst hl hD hz
  unfold f_X5_sumOwed at hf
  have G : KG ad cy x cX5_sumOwed "NoonGuides$Pairing" 4 (some (some .int)) 1 := G
  show KV ad cy x (some (.int y), M) 0 [(0, .ref (ad a0)), (1, .ref (ad a1))] [] M
  refine v_iconst (0 : Int32) G dX5_sumOwed_0 (by decide) ?_
  refine v_istore_n [(2, .int (0 : Int32)), (0, .ref (ad a0)), (1, .ref (ad a1))] G dX5_sumOwed_1 (by decide) rfl ?_
  refine v_iconst (0 : Int32) G dX5_sumOwed_2 (by decide) ?_
  refine v_istore_n [(3, .int (0 : Int32)), (2, .int (0 : Int32)), (0, .ref (ad a0)), (1, .ref (ad a1))] G dX5_sumOwed_3 (by decide) rfl ?_
  refine v_sub _ [2, 3, 1, 0] rfl ?_
  refine s_X5_sumOwed_4 G h0 h1 n (0 : Int32) (0 : Int32) hf
