abbrev cX12_sets : ByteArray := prog_14_method_104_code
def yX12_sets : MethodName := ⟨RX12, "sets", "(III)V"⟩
theorem dX12_sets_0 : dc cX12_sets 0 (.aload_n 0) 1 1 := ⟨by decide +kernel, rfl⟩
theorem dX12_sets_1 : dc cX12_sets 1 (.getfield 35) 3 4 := ⟨by decide +kernel, rfl⟩
theorem dX12_sets_4 : dc cX12_sets 4 (.bipush 114) 2 6 := ⟨by decide +kernel, rfl⟩
theorem dX12_sets_6 : dc cX12_sets 6 (.iload_n 1) 1 7 := ⟨by decide +kernel, rfl⟩
theorem dX12_sets_7 : dc cX12_sets 7 (.iadd) 1 8 := ⟨by decide +kernel, rfl⟩
theorem dX12_sets_8 : dc cX12_sets 8 (.aload_n 0) 1 9 := ⟨by decide +kernel, rfl⟩
theorem dX12_sets_9 : dc cX12_sets 9 (.getfield 35) 3 12 := ⟨by decide +kernel, rfl⟩
theorem dX12_sets_12 : dc cX12_sets 12 (.bipush 58) 2 14 := ⟨by decide +kernel, rfl⟩
theorem dX12_sets_14 : dc cX12_sets 14 (.iload_n 1) 1 15 := ⟨by decide +kernel, rfl⟩
theorem dX12_sets_15 : dc cX12_sets 15 (.iadd) 1 16 := ⟨by decide +kernel, rfl⟩
theorem dX12_sets_16 : dc cX12_sets 16 (.iaload) 1 17 := ⟨by decide +kernel, rfl⟩
theorem dX12_sets_17 : dc cX12_sets 17 (.iastore) 1 18 := ⟨by decide +kernel, rfl⟩
theorem dX12_sets_18 : dc cX12_sets 18 (.aload_n 0) 1 19 := ⟨by decide +kernel, rfl⟩
theorem dX12_sets_19 : dc cX12_sets 19 (.getfield 35) 3 22 := ⟨by decide +kernel, rfl⟩
theorem dX12_sets_22 : dc cX12_sets 22 (.bipush 122) 2 24 := ⟨by decide +kernel, rfl⟩
theorem dX12_sets_24 : dc cX12_sets 24 (.iload_n 1) 1 25 := ⟨by decide +kernel, rfl⟩
theorem dX12_sets_25 : dc cX12_sets 25 (.iadd) 1 26 := ⟨by decide +kernel, rfl⟩
theorem dX12_sets_26 : dc cX12_sets 26 (.iload_n 3) 1 27 := ⟨by decide +kernel, rfl⟩
theorem dX12_sets_27 : dc cX12_sets 27 (.iastore) 1 28 := ⟨by decide +kernel, rfl⟩
theorem dX12_sets_28 : dc cX12_sets 28 (.aload_n 0) 1 29 := ⟨by decide +kernel, rfl⟩
theorem dX12_sets_29 : dc cX12_sets 29 (.getfield 35) 3 32 := ⟨by decide +kernel, rfl⟩
theorem dX12_sets_32 : dc cX12_sets 32 (.bipush 66) 2 34 := ⟨by decide +kernel, rfl⟩
theorem dX12_sets_34 : dc cX12_sets 34 (.iload_n 1) 1 35 := ⟨by decide +kernel, rfl⟩
theorem dX12_sets_35 : dc cX12_sets 35 (.iadd) 1 36 := ⟨by decide +kernel, rfl⟩
theorem dX12_sets_36 : dc cX12_sets 36 (.iload_n 2) 1 37 := ⟨by decide +kernel, rfl⟩
theorem dX12_sets_37 : dc cX12_sets 37 (.iastore) 1 38 := ⟨by decide +kernel, rfl⟩
theorem dX12_sets_38 : dc cX12_sets 38 (.aload_n 0) 1 39 := ⟨by decide +kernel, rfl⟩
theorem dX12_sets_39 : dc cX12_sets 39 (.getfield 35) 3 42 := ⟨by decide +kernel, rfl⟩
theorem dX12_sets_42 : dc cX12_sets 42 (.bipush 74) 2 44 := ⟨by decide +kernel, rfl⟩
theorem dX12_sets_44 : dc cX12_sets 44 (.iload_n 1) 1 45 := ⟨by decide +kernel, rfl⟩
theorem dX12_sets_45 : dc cX12_sets 45 (.iadd) 1 46 := ⟨by decide +kernel, rfl⟩
theorem dX12_sets_46 : dc cX12_sets 46 (.aload_n 0) 1 47 := ⟨by decide +kernel, rfl⟩
theorem dX12_sets_47 : dc cX12_sets 47 (.getfield 35) 3 50 := ⟨by decide +kernel, rfl⟩
theorem dX12_sets_50 : dc cX12_sets 50 (.bipush 34) 2 52 := ⟨by decide +kernel, rfl⟩
theorem dX12_sets_52 : dc cX12_sets 52 (.iload_n 3) 1 53 := ⟨by decide +kernel, rfl⟩
theorem dX12_sets_53 : dc cX12_sets 53 (.iadd) 1 54 := ⟨by decide +kernel, rfl⟩
theorem dX12_sets_54 : dc cX12_sets 54 (.iaload) 1 55 := ⟨by decide +kernel, rfl⟩
theorem dX12_sets_55 : dc cX12_sets 55 (.iastore) 1 56 := ⟨by decide +kernel, rfl⟩
theorem dX12_sets_56 : dc cX12_sets 56 (.return_) 1 57 := ⟨by decide +kernel, rfl⟩
theorem nm_X12_sets : (yX12_sets).cls ≠ "java/lang/invoke/MethodHandle" ∧ (yX12_sets).cls ≠ "java/lang/invoke/VarHandle" ∧ (parseMethodDescriptor (yX12_sets).desc).map (fun d => d.parameters.length) = some 3 := ⟨by decide +kernel, by decide +kernel, by decide +kernel⟩
set_option maxRecDepth 100000 in
set_option maxHeartbeats 4000000 in
theorem c_X12_sets {l : Launch} {ad : Nat → Nat} {cy : Nat → ClassId} {D : va_G} {z : Nat} (n : Nat) {a0 : Nat} {p1 : Int32} {p2 : Int32} {p3 : Int32} {M : KM} {y : KM} (h0 : kty a0 = 12) (hf : f_X12_sets n a0 p1 p2 p3 M = some y) : KC l ad cy D z yX12_sets cX12_sets 4 none 1 [.ref (ad a0), .int p1, .int p2, .int p3] M (none, y) := by
  refine kv_enter (by decide +kernel) (Nat.le_of_ble_eq_true rfl) ?_
  intro x hl hD hz G
  subst hl hD hz
  unfold f_X12_sets at hf
  have G : KG ad cy x cX12_sets "NoonGuidesModel" 4 (some none) 1 := G
  show KV ad cy x (none, y) 0 [(0, .ref (ad a0)), (1, .int p1), (2, .int p2), (3, .int p3)] [] M
  refine v_aload_n G dX12_sets_0 0 rfl ?_
  refine gf_12_20 G h0 t_1511 (Or.inl rfl) dX12_sets_1 ?_
  refine v_bipush (114 : Int32) G dX12_sets_4 (by decide) ?_
  refine v_iload_n G dX12_sets_6 1 rfl ?_
  refine v_iadd G dX12_sets_7 ?_
  refine v_aload_n G dX12_sets_8 0 rfl ?_
  refine gf_12_20 G h0 t_1511 (Or.inl rfl) dX12_sets_9 ?_
  refine v_bipush (58 : Int32) G dX12_sets_12 (by decide) ?_
  refine v_iload_n G dX12_sets_14 1 rfl ?_
  refine v_iadd G dX12_sets_15 ?_
  obtain ⟨g1, hf⟩ := gd_e hf
  refine al_36 G (kf_12_5 h0) g1 dX12_sets_16 ?_
  obtain ⟨g2, hf⟩ := gd_e hf
  refine as_36 G (kf_12_5 h0) g2 dX12_sets_17 ?_
  refine v_nmM (fun M3 eM3 => ?_)
  replace hf := lt_e hf eM3
  refine v_aload_n G dX12_sets_18 0 rfl ?_
  refine gf_12_20 G h0 t_1511 (Or.inl rfl) dX12_sets_19 ?_
  refine v_bipush (122 : Int32) G dX12_sets_22 (by decide) ?_
  refine v_iload_n G dX12_sets_24 1 rfl ?_
  refine v_iadd G dX12_sets_25 ?_
  refine v_iload_n G dX12_sets_26 3 rfl ?_
  obtain ⟨g4, hf⟩ := gd_e hf
  refine as_36 G (kf_12_5 h0) g4 dX12_sets_27 ?_
  refine v_nmM (fun M5 eM5 => ?_)
  replace hf := lt_e hf eM5
  refine v_aload_n G dX12_sets_28 0 rfl ?_
  refine gf_12_20 G h0 t_1511 (Or.inl rfl) dX12_sets_29 ?_
  refine v_bipush (66 : Int32) G dX12_sets_32 (by decide) ?_
  refine v_iload_n G dX12_sets_34 1 rfl ?_
  refine v_iadd G dX12_sets_35 ?_
  refine v_iload_n G dX12_sets_36 2 rfl ?_
  obtain ⟨g6, hf⟩ := gd_e hf
  refine as_36 G (kf_12_5 h0) g6 dX12_sets_37 ?_
  refine v_nmM (fun M7 eM7 => ?_)
  replace hf := lt_e hf eM7
  refine v_aload_n G dX12_sets_38 0 rfl ?_
  refine gf_12_20 G h0 t_1511 (Or.inl rfl) dX12_sets_39 ?_
  refine v_bipush (74 : Int32) G dX12_sets_42 (by decide) ?_
  refine v_iload_n G dX12_sets_44 1 rfl ?_
  refine v_iadd G dX12_sets_45 ?_
  refine v_aload_n G dX12_sets_46 0 rfl ?_
  refine gf_12_20 G h0 t_1511 (Or.inl rfl) dX12_sets_47 ?_
  refine v_bipush (34 : Int32) G dX12_sets_50 (by decide) ?_
  refine v_iload_n G dX12_sets_52 3 rfl ?_
  refine v_iadd G dX12_sets_53 ?_
  obtain ⟨g8, hf⟩ := gd_e hf
  refine al_36 G (kf_12_5 h0) g8 dX12_sets_54 ?_
  obtain ⟨g9, hf⟩ := gd_e hf
  refine as_36 G (kf_12_5 h0) g9 dX12_sets_55 ?_
  refine v_nmM (fun M10 eM10 => ?_)
  replace hf := lt_e hf eM10
  obtain rfl := Option.some.inj hf
  exact v_vret G dX12_sets_56
abbrev cX12_canStart : ByteArray := prog_14_method_105_code
def yX12_canStart : MethodName := ⟨RX12, "canStart", "(II)Z"⟩
theorem dX12_canStart_0 : dc cX12_canStart 0 (.aload_n 0) 1 1 := ⟨by decide +kernel, rfl⟩
theorem dX12_canStart_1 : dc cX12_canStart 1 (.iload_n 1) 1 2 := ⟨by decide +kernel, rfl⟩
theorem dX12_canStart_2 : dc cX12_canStart 2 (.invokevirtual 350) 3 5 := ⟨by decide +kernel, rfl⟩
theorem dX12_canStart_5 : dc cX12_canStart 5 (.ifCond .eq 5) 3 8 := ⟨by decide +kernel, rfl⟩
theorem dX12_canStart_8 : dc cX12_canStart 8 (.iconst 0) 1 9 := ⟨by decide +kernel, rfl⟩
theorem dX12_canStart_9 : dc cX12_canStart 9 (.ireturn) 1 10 := ⟨by decide +kernel, rfl⟩
theorem dX12_canStart_10 : dc cX12_canStart 10 (.aload_n 0) 1 11 := ⟨by decide +kernel, rfl⟩
theorem dX12_canStart_11 : dc cX12_canStart 11 (.aload_n 0) 1 12 := ⟨by decide +kernel, rfl⟩
theorem dX12_canStart_12 : dc cX12_canStart 12 (.getfield 35) 3 15 := ⟨by decide +kernel, rfl⟩
theorem dX12_canStart_15 : dc cX12_canStart 15 (.bipush 58) 2 17 := ⟨by decide +kernel, rfl⟩
theorem dX12_canStart_17 : dc cX12_canStart 17 (.iload_n 1) 1 18 := ⟨by decide +kernel, rfl⟩
theorem dX12_canStart_18 : dc cX12_canStart 18 (.iadd) 1 19 := ⟨by decide +kernel, rfl⟩
theorem dX12_canStart_19 : dc cX12_canStart 19 (.iaload) 1 20 := ⟨by decide +kernel, rfl⟩
theorem dX12_canStart_20 : dc cX12_canStart 20 (.iload_n 2) 1 21 := ⟨by decide +kernel, rfl⟩
theorem dX12_canStart_21 : dc cX12_canStart 21 (.invokevirtual 370) 3 24 := ⟨by decide +kernel, rfl⟩
theorem dX12_canStart_24 : dc cX12_canStart 24 (.istore_n 3) 1 25 := ⟨by decide +kernel, rfl⟩
theorem dX12_canStart_25 : dc cX12_canStart 25 (.iload_n 3) 1 26 := ⟨by decide +kernel, rfl⟩
theorem dX12_canStart_26 : dc cX12_canStart 26 (.ifCond .lt 16) 3 29 := ⟨by decide +kernel, rfl⟩
theorem dX12_canStart_29 : dc cX12_canStart 29 (.aload_n 0) 1 30 := ⟨by decide +kernel, rfl⟩
theorem dX12_canStart_30 : dc cX12_canStart 30 (.iload_n 1) 1 31 := ⟨by decide +kernel, rfl⟩
theorem dX12_canStart_31 : dc cX12_canStart 31 (.iload_n 3) 1 32 := ⟨by decide +kernel, rfl⟩
theorem dX12_canStart_32 : dc cX12_canStart 32 (.invokevirtual 411) 3 35 := ⟨by decide +kernel, rfl⟩
theorem dX12_canStart_35 : dc cX12_canStart 35 (.ifCond .eq 7) 3 38 := ⟨by decide +kernel, rfl⟩
theorem dX12_canStart_38 : dc cX12_canStart 38 (.iconst 1) 1 39 := ⟨by decide +kernel, rfl⟩
theorem dX12_canStart_39 : dc cX12_canStart 39 (.goto 4) 3 42 := ⟨by decide +kernel, rfl⟩
theorem dX12_canStart_42 : dc cX12_canStart 42 (.iconst 0) 1 43 := ⟨by decide +kernel, rfl⟩
theorem dX12_canStart_43 : dc cX12_canStart 43 (.ireturn) 1 44 := ⟨by decide +kernel, rfl⟩
theorem nm_X12_canStart : (yX12_canStart).cls ≠ "java/lang/invoke/MethodHandle" ∧ (yX12_canStart).cls ≠ "java/lang/invoke/VarHandle" ∧ (parseMethodDescriptor (yX12_canStart).desc).map (fun d => d.parameters.length) = some 2 := ⟨by decide +kernel, by decide +kernel, by decide +kernel⟩
set_option maxRecDepth 100000 in
theorem z_X12_canStart (n : Nat) {a0 : Nat} {p1 : Int32} {p2 : Int32} {M : KM} {y : Int32} (hf : f_X12_canStart n a0 p1 p2 M = some y) : (y = 0 ∨ y = 1) := by
  unfold f_X12_canStart at hf
  obtain ⟨v1, hcv1, hf⟩ := bd_e hf
  by_cases h7 : v1 = 0
  · replace hf := (if_pos h7).symm.trans hf
    obtain ⟨g2, hf⟩ := gd_e hf
    obtain ⟨v3, hcv3, hf⟩ := bd_e hf
    by_cases h6 : v3 < 0
    · replace hf := (if_pos h6).symm.trans hf
      obtain rfl := Option.some.inj hf
      exact (Or.inl rfl)
    · replace hf := (if_neg h6).symm.trans hf
      obtain ⟨v4, hcv4, hf⟩ := bd_e hf
      by_cases h5 : v4 = 0
      · replace hf := (if_pos h5).symm.trans hf
        obtain rfl := Option.some.inj hf
        exact (Or.inl rfl)
      · replace hf := (if_neg h5).symm.trans hf
        obtain rfl := Option.some.inj hf
        exact (Or.inr rfl)
  · replace hf := (if_neg h7).symm.trans hf
    obtain rfl := Option.some.inj hf
    exact (Or.inl rfl)
set_option maxRecDepth 100000 in
set_option maxHeartbeats 4000000 in
theorem c_X12_canStart {l : Launch} {ad : Nat → Nat} {cy : Nat → ClassId} {D : va_G} {z : Nat} (n : Nat) {a0 : Nat} {p1 : Int32} {p2 : Int32} {M : KM} {y : Int32} (h0 : kty a0 = 12) (hf : f_X12_canStart n a0 p1 p2 M = some y) : KC l ad cy D z yX12_canStart cX12_canStart 4 (some .boolean) 3 [.ref (ad a0), .int p1, .int p2] M (some (.int y), M) := by
  refine kv_enter (by decide +kernel) (Nat.le_of_ble_eq_true rfl) ?_
  intro x hl hD hz G
  subst hl hD hz
  unfold f_X12_canStart at hf
  have G : KG ad cy x cX12_canStart "NoonGuidesModel" 4 (some (some .boolean)) 3 := G
  show KV ad cy x (some (.int y), M) 0 [(0, .ref (ad a0)), (1, .int p1), (2, .int p2)] [] M
  refine v_aload_n G dX12_canStart_0 0 rfl ?_
  refine v_iload_n G dX12_canStart_1 1 rfl ?_
  obtain ⟨v1, hcv1, hf⟩ := bd_e hf
  refine v_callV [.int p1] G (c_X12_isGoing n h0 hcv1) h0 (by decide) rfl rfl rfl t_1942 t_1944 t_p114 t_17 t_1945 nm_X12_isGoing (by decide) (by decide) rfl rfl (Nat.le_of_ble_eq_true rfl) dX12_canStart_2 (kv_ri ?_)
  refine v_if_eq 10 G dX12_canStart_5 (by decide) (fun h7 => ?_) (fun h7 => ?_)
  · replace hf := (if_pos h7).symm.trans hf
    refine v_aload_n G dX12_canStart_10 0 rfl ?_
    refine v_aload_n G dX12_canStart_11 0 rfl ?_
    refine gf_12_20 G h0 t_1511 (Or.inl rfl) dX12_canStart_12 ?_
    refine v_bipush (58 : Int32) G dX12_canStart_15 (by decide) ?_
    refine v_iload_n G dX12_canStart_17 1 rfl ?_
    refine v_iadd G dX12_canStart_18 ?_
    obtain ⟨g2, hf⟩ := gd_e hf
    refine al_36 G (kf_12_5 h0) g2 dX12_canStart_19 ?_
    refine v_iload_n G dX12_canStart_20 2 rfl ?_
    obtain ⟨v3, hcv3, hf⟩ := bd_e hf
    refine v_callV [.int (M.1 (a0 + 5) (((58 : Int32) + p1)).toNatClampNeg), .int p2] G (c_X12_between n h0 hcv3) h0 (by decide) rfl rfl rfl t_1963 t_1965 t_p117 t_17 t_1966 nm_X12_between (by decide) (by decide) rfl rfl (Nat.le_of_ble_eq_true rfl) dX12_canStart_21 (kv_ri ?_)
    refine v_istore_n [(3, .int v3), (0, .ref (ad a0)), (1, .int p1), (2, .int p2)] G dX12_canStart_24 (by decide) rfl ?_
    refine v_iload_n G dX12_canStart_25 0 rfl ?_
    refine v_if_lt 42 G dX12_canStart_26 (by decide) (fun h6 => ?_) (fun h6 => ?_)
    · replace hf := (if_pos h6).symm.trans hf
      refine v_iconst (0 : Int32) G dX12_canStart_42 (by decide) ?_
      obtain rfl := Option.some.inj hf
      exact v_zret G (Or.inl rfl) dX12_canStart_43
    · replace hf := (if_neg h6).symm.trans hf
      refine v_aload_n G dX12_canStart_29 1 rfl ?_
      refine v_iload_n G dX12_canStart_30 2 rfl ?_
      refine v_iload_n G dX12_canStart_31 0 rfl ?_
      obtain ⟨v4, hcv4, hf⟩ := bd_e hf
      refine v_callV [.int p1, .int v3] G (c_X12_canNow n h0 hcv4) h0 (by decide) rfl rfl rfl t_2039 t_2041 t_p128 t_17 t_2042 nm_X12_canNow (by decide) (by decide) rfl rfl (Nat.le_of_ble_eq_true rfl) dX12_canStart_32 (kv_ri ?_)
      refine v_if_eq 42 G dX12_canStart_35 (by decide) (fun h5 => ?_) (fun h5 => ?_)
      · replace hf := (if_pos h5).symm.trans hf
        refine v_iconst (0 : Int32) G dX12_canStart_42 (by decide) ?_
        obtain rfl := Option.some.inj hf
        exact v_zret G (Or.inl rfl) dX12_canStart_43
      · replace hf := (if_neg h5).symm.trans hf
        refine v_iconst (1 : Int32) G dX12_canStart_38 (by decide) ?_
        refine v_goto 43 G dX12_canStart_39 (by decide) ?_
        obtain rfl := Option.some.inj hf
        exact v_zret G (Or.inr rfl) dX12_canStart_43
  · replace hf := (if_neg h7).symm.trans hf
    refine v_iconst (0 : Int32) G dX12_canStart_8 (by decide) ?_
    obtain rfl := Option.some.inj hf
    exact v_zret G (Or.inl rfl) dX12_canStart_9
abbrev cX12_goes : ByteArray := prog_14_method_106_code
def yX12_goes : MethodName := ⟨RX12, "goes", "(II)Z"⟩
theorem dX12_goes_0 : dc cX12_goes 0 (.aload_n 0) 1 1 := ⟨by decide +kernel, rfl⟩
theorem dX12_goes_1 : dc cX12_goes 1 (.iload_n 1) 1 2 := ⟨by decide +kernel, rfl⟩
theorem dX12_goes_2 : dc cX12_goes 2 (.iload_n 2) 1 3 := ⟨by decide +kernel, rfl⟩
theorem dX12_goes_3 : dc cX12_goes 3 (.invokevirtual 414) 3 6 := ⟨by decide +kernel, rfl⟩
theorem dX12_goes_6 : dc cX12_goes 6 (.ifCond .ne 5) 3 9 := ⟨by decide +kernel, rfl⟩
theorem dX12_goes_9 : dc cX12_goes 9 (.iconst 0) 1 10 := ⟨by decide +kernel, rfl⟩
theorem dX12_goes_10 : dc cX12_goes 10 (.ireturn) 1 11 := ⟨by decide +kernel, rfl⟩
theorem dX12_goes_11 : dc cX12_goes 11 (.aload_n 0) 1 12 := ⟨by decide +kernel, rfl⟩
theorem dX12_goes_12 : dc cX12_goes 12 (.iload_n 1) 1 13 := ⟨by decide +kernel, rfl⟩
theorem dX12_goes_13 : dc cX12_goes 13 (.iload_n 2) 1 14 := ⟨by decide +kernel, rfl⟩
theorem dX12_goes_14 : dc cX12_goes 14 (.aload_n 0) 1 15 := ⟨by decide +kernel, rfl⟩
theorem dX12_goes_15 : dc cX12_goes 15 (.aload_n 0) 1 16 := ⟨by decide +kernel, rfl⟩
theorem dX12_goes_16 : dc cX12_goes 16 (.getfield 35) 3 19 := ⟨by decide +kernel, rfl⟩
theorem dX12_goes_19 : dc cX12_goes 19 (.bipush 58) 2 21 := ⟨by decide +kernel, rfl⟩
theorem dX12_goes_21 : dc cX12_goes 21 (.iload_n 1) 1 22 := ⟨by decide +kernel, rfl⟩
theorem dX12_goes_22 : dc cX12_goes 22 (.iadd) 1 23 := ⟨by decide +kernel, rfl⟩
theorem dX12_goes_23 : dc cX12_goes 23 (.iaload) 1 24 := ⟨by decide +kernel, rfl⟩
theorem dX12_goes_24 : dc cX12_goes 24 (.iload_n 2) 1 25 := ⟨by decide +kernel, rfl⟩
theorem dX12_goes_25 : dc cX12_goes 25 (.invokevirtual 370) 3 28 := ⟨by decide +kernel, rfl⟩
theorem dX12_goes_28 : dc cX12_goes 28 (.invokevirtual 417) 3 31 := ⟨by decide +kernel, rfl⟩
theorem dX12_goes_31 : dc cX12_goes 31 (.iconst 1) 1 32 := ⟨by decide +kernel, rfl⟩
theorem dX12_goes_32 : dc cX12_goes 32 (.ireturn) 1 33 := ⟨by decide +kernel, rfl⟩
theorem nm_X12_goes : (yX12_goes).cls ≠ "java/lang/invoke/MethodHandle" ∧ (yX12_goes).cls ≠ "java/lang/invoke/VarHandle" ∧ (parseMethodDescriptor (yX12_goes).desc).map (fun d => d.parameters.length) = some 2 := ⟨by decide +kernel, by decide +kernel, by decide +kernel⟩
set_option maxRecDepth 100000 in
theorem z_X12_goes (n : Nat) {a0 : Nat} {p1 : Int32} {p2 : Int32} {M : KM} {y : (Int32 × KM)} (hf : f_X12_goes n a0 p1 p2 M = some y) : (y.1 = 0 ∨ y.1 = 1) := by
  unfold f_X12_goes at hf
  obtain ⟨v1, hcv1, hf⟩ := bd_e hf
  by_cases h5 : v1 = 0
  · replace hf := (if_pos h5).symm.trans hf
    obtain rfl := Option.some.inj hf
    exact (Or.inl rfl)
  · replace hf := (if_neg h5).symm.trans hf
    obtain ⟨g2, hf⟩ := gd_e hf
    obtain ⟨v3, hcv3, hf⟩ := bd_e hf
    obtain ⟨v4, hcv4, hf⟩ := bd_e hf
    obtain rfl := Option.some.inj hf
    exact (Or.inr rfl)
set_option maxRecDepth 100000 in
set_option maxHeartbeats 4000000 in
theorem c_X12_goes {l : Launch} {ad : Nat → Nat} {cy : Nat → ClassId} {D : va_G} {z : Nat} (n : Nat) {a0 : Nat} {p1 : Int32} {p2 : Int32} {M : KM} {y : (Int32 × KM)} (h0 : kty a0 = 12) (hf : f_X12_goes n a0 p1 p2 M = some y) : KC l ad cy D z yX12_goes cX12_goes 3 (some .boolean) 4 [.ref (ad a0), .int p1, .int p2] M (some (.int y.1), y.2) := by
  refine kv_enter (by decide +kernel) (Nat.le_of_ble_eq_true rfl) ?_
  intro x hl hD hz G
  subst hl hD hz
  unfold f_X12_goes at hf
  have G : KG ad cy x cX12_goes "NoonGuidesModel" 3 (some (some .boolean)) 4 := G
  show KV ad cy x (some (.int y.1), y.2) 0 [(0, .ref (ad a0)), (1, .int p1), (2, .int p2)] [] M
  refine v_aload_n G dX12_goes_0 0 rfl ?_
  refine v_iload_n G dX12_goes_1 1 rfl ?_
  refine v_iload_n G dX12_goes_2 2 rfl ?_
  obtain ⟨v1, hcv1, hf⟩ := bd_e hf
  refine v_callV [.int p1, .int p2] G (c_X12_canStart n h0 hcv1) h0 (by decide) rfl rfl rfl t_2035 t_2037 t_p127 t_17 t_2038 nm_X12_canStart (by decide) (by decide) rfl rfl (Nat.le_of_ble_eq_true rfl) dX12_goes_3 (kv_ri ?_)
  refine v_if_ne 11 G dX12_goes_6 (by decide) (fun h5 => ?_) (fun h5 => ?_)
  · replace hf := (if_neg h5).symm.trans hf
    refine v_aload_n G dX12_goes_11 0 rfl ?_
    refine v_iload_n G dX12_goes_12 1 rfl ?_
    refine v_iload_n G dX12_goes_13 2 rfl ?_
    refine v_aload_n G dX12_goes_14 0 rfl ?_
    refine v_aload_n G dX12_goes_15 0 rfl ?_
    refine gf_12_20 G h0 t_1511 (Or.inl rfl) dX12_goes_16 ?_
    refine v_bipush (58 : Int32) G dX12_goes_19 (by decide) ?_
    refine v_iload_n G dX12_goes_21 1 rfl ?_
    refine v_iadd G dX12_goes_22 ?_
    obtain ⟨g2, hf⟩ := gd_e hf
    refine al_36 G (kf_12_5 h0) g2 dX12_goes_23 ?_
    refine v_iload_n G dX12_goes_24 2 rfl ?_
    obtain ⟨v3, hcv3, hf⟩ := bd_e hf
    refine v_callV [.int (M.1 (a0 + 5) (((58 : Int32) + p1)).toNatClampNeg), .int p2] G (c_X12_between n h0 hcv3) h0 (by decide) rfl rfl rfl t_1963 t_1965 t_p117 t_17 t_1966 nm_X12_between (by decide) (by decide) rfl rfl (Nat.le_of_ble_eq_true rfl) dX12_goes_25 (kv_ri ?_)
    obtain ⟨v4, hcv4, hf⟩ := bd_e hf
    refine v_callV [.int p1, .int p2, .int v3] G (c_X12_sets n h0 hcv4) h0 (by decide) rfl rfl rfl t_2043 t_2045 t_p129 t_17 t_2046 nm_X12_sets (by decide) (by decide) rfl rfl (Nat.le_of_ble_eq_true rfl) dX12_goes_28 (kv_rv ?_)
    refine v_iconst (1 : Int32) G dX12_goes_31 (by decide) ?_
    obtain rfl := Option.some.inj hf
    exact v_zret G (Or.inr rfl) dX12_goes_32
  · replace hf := (if_pos h5).symm.trans hf
    refine v_iconst (0 : Int32) G dX12_goes_9 (by decide) ?_
    obtain rfl := Option.some.inj hf
    exact v_zret G (Or.inl rfl) dX12_goes_10
abbrev cX12_go : ByteArray := prog_14_method_107_code
def yX12_go : MethodName := ⟨RX12, "go", "(II)I"⟩
theorem dX12_go_0 : dc cX12_go 0 (.aload_n 0) 1 1 := ⟨by decide +kernel, rfl⟩
theorem dX12_go_1 : dc cX12_go 1 (.iconst 0) 1 2 := ⟨by decide +kernel, rfl⟩
theorem dX12_go_2 : dc cX12_go 2 (.putfield 75) 3 5 := ⟨by decide +kernel, rfl⟩
theorem dX12_go_5 : dc cX12_go 5 (.aload_n 0) 1 6 := ⟨by decide +kernel, rfl⟩
theorem dX12_go_6 : dc cX12_go 6 (.iconst 0) 1 7 := ⟨by decide +kernel, rfl⟩
theorem dX12_go_7 : dc cX12_go 7 (.putfield 78) 3 10 := ⟨by decide +kernel, rfl⟩
theorem dX12_go_10 : dc cX12_go 10 (.aload_n 0) 1 11 := ⟨by decide +kernel, rfl⟩
theorem dX12_go_11 : dc cX12_go 11 (.iload_n 1) 1 12 := ⟨by decide +kernel, rfl⟩
theorem dX12_go_12 : dc cX12_go 12 (.invokevirtual 373) 3 15 := ⟨by decide +kernel, rfl⟩
theorem dX12_go_15 : dc cX12_go 15 (.ifCond .eq 11) 3 18 := ⟨by decide +kernel, rfl⟩
theorem dX12_go_18 : dc cX12_go 18 (.aload_n 0) 1 19 := ⟨by decide +kernel, rfl⟩
theorem dX12_go_19 : dc cX12_go 19 (.iload_n 2) 1 20 := ⟨by decide +kernel, rfl⟩
theorem dX12_go_20 : dc cX12_go 20 (.invokevirtual 367) 3 23 := ⟨by decide +kernel, rfl⟩
theorem dX12_go_23 : dc cX12_go 23 (.ifCond .ne 9) 3 26 := ⟨by decide +kernel, rfl⟩
theorem dX12_go_26 : dc cX12_go 26 (.aload_n 0) 1 27 := ⟨by decide +kernel, rfl⟩
theorem dX12_go_27 : dc cX12_go 27 (.iconst 2) 1 28 := ⟨by decide +kernel, rfl⟩
theorem dX12_go_28 : dc cX12_go 28 (.invokevirtual 355) 3 31 := ⟨by decide +kernel, rfl⟩
theorem dX12_go_31 : dc cX12_go 31 (.ireturn) 1 32 := ⟨by decide +kernel, rfl⟩
theorem dX12_go_32 : dc cX12_go 32 (.aload_n 0) 1 33 := ⟨by decide +kernel, rfl⟩
theorem dX12_go_33 : dc cX12_go 33 (.iload_n 1) 1 34 := ⟨by decide +kernel, rfl⟩
theorem dX12_go_34 : dc cX12_go 34 (.iload_n 2) 1 35 := ⟨by decide +kernel, rfl⟩
theorem dX12_go_35 : dc cX12_go 35 (.invokevirtual 420) 3 38 := ⟨by decide +kernel, rfl⟩
theorem dX12_go_38 : dc cX12_go 38 (.ifCond .eq 15) 3 41 := ⟨by decide +kernel, rfl⟩
theorem dX12_go_41 : dc cX12_go 41 (.aload_n 0) 1 42 := ⟨by decide +kernel, rfl⟩
theorem dX12_go_42 : dc cX12_go 42 (.getfield 35) 3 45 := ⟨by decide +kernel, rfl⟩
theorem dX12_go_45 : dc cX12_go 45 (.bipush 74) 2 47 := ⟨by decide +kernel, rfl⟩
theorem dX12_go_47 : dc cX12_go 47 (.iload_n 1) 1 48 := ⟨by decide +kernel, rfl⟩
theorem dX12_go_48 : dc cX12_go 48 (.iadd) 1 49 := ⟨by decide +kernel, rfl⟩
theorem dX12_go_49 : dc cX12_go 49 (.iaload) 1 50 := ⟨by decide +kernel, rfl⟩
theorem dX12_go_50 : dc cX12_go 50 (.goto 9) 3 53 := ⟨by decide +kernel, rfl⟩
theorem dX12_go_53 : dc cX12_go 53 (.aload_n 0) 1 54 := ⟨by decide +kernel, rfl⟩
theorem dX12_go_54 : dc cX12_go 54 (.bipush 9) 2 56 := ⟨by decide +kernel, rfl⟩
theorem dX12_go_56 : dc cX12_go 56 (.invokevirtual 355) 3 59 := ⟨by decide +kernel, rfl⟩
theorem dX12_go_59 : dc cX12_go 59 (.ireturn) 1 60 := ⟨by decide +kernel, rfl⟩
theorem nm_X12_go : (yX12_go).cls ≠ "java/lang/invoke/MethodHandle" ∧ (yX12_go).cls ≠ "java/lang/invoke/VarHandle" ∧ (parseMethodDescriptor (yX12_go).desc).map (fun d => d.parameters.length) = some 2 := ⟨by decide +kernel, by decide +kernel, by decide +kernel⟩
set_option maxRecDepth 100000 in
set_option maxHeartbeats 4000000 in
theorem c_X12_go {l : Launch} {ad : Nat → Nat} {cy : Nat → ClassId} {D : va_G} {z : Nat} (n : Nat) {a0 : Nat} {p1 : Int32} {p2 : Int32} {M : KM} {y : (Int32 × KM)} (h0 : kty a0 = 12) (hf : f_X12_go n a0 p1 p2 M = some y) : KC l ad cy D z yX12_go cX12_go 3 (some .int) 5 [.ref (ad a0), .int p1, .int p2] M (some (.int y.1), y.2) := by
  refine kv_enter (by decide +kernel) (Nat.le_of_ble_eq_true rfl) ?_
  intro x hl hD hz G
  subst hl hD hz
  unfold f_X12_go at hf
  have G : KG ad cy x cX12_go "NoonGuidesModel" 3 (some (some .int)) 5 := G
  show KV ad cy x (some (.int y.1), y.2) 0 [(0, .ref (ad a0)), (1, .int p1), (2, .int p2)] [] M
  refine v_aload_n G dX12_go_0 0 rfl ?_
  refine v_iconst (0 : Int32) G dX12_go_1 (by decide) ?_
  refine pf_12_1 G h0 t_1492 (Or.inl rfl) dX12_go_2 ?_
  refine v_nmM (fun M1 eM1 => ?_)
  replace hf := lt_e hf eM1
  refine v_aload_n G dX12_go_5 0 rfl ?_
  refine v_iconst (0 : Int32) G dX12_go_6 (by decide) ?_
  refine pf_12_0 G h0 t_1491 (Or.inl rfl) dX12_go_7 ?_
  refine v_nmM (fun M2 eM2 => ?_)
  replace hf := lt_e hf eM2
  refine v_aload_n G dX12_go_10 0 rfl ?_
  refine v_iload_n G dX12_go_11 1 rfl ?_
  obtain ⟨v3, hcv3, hf⟩ := bd_e hf
  refine v_callV [.int p1] G (c_X12_isPerson n h0 hcv3) h0 (by decide) rfl rfl rfl t_1971 t_1973 t_p118 t_17 t_1974 nm_X12_isPerson (by decide) (by decide) rfl rfl (Nat.le_of_ble_eq_true rfl) dX12_go_12 (kv_ri ?_)
  obtain ⟨j26, ej26, hf⟩ := lt_j hf
  have hj26 : j26 = some y → KV ad cy x (some (.int y.1), y.2) 26 [(0, .ref (ad a0))] [] M2 := by
    intro hf
    rw [ej26] at hf
    refine v_aload_n G dX12_go_26 0 rfl ?_
    refine v_iconst (2 : Int32) G dX12_go_27 (by decide) ?_
    obtain ⟨v4, hcv4⟩ : ∃ q, f_X12_refuse a0 (2 : Int32) M2 = q := ⟨_, rfl⟩
    replace hf := lt_e hf hcv4.symm
    refine v_callV [.int (2 : Int32)] G (c_X12_refuse h0 hcv4) h0 (by decide) rfl rfl rfl t_1926 t_1928 t_p110 t_17 t_1929 nm_X12_refuse (by decide) (by decide) rfl rfl (Nat.le_of_ble_eq_true rfl) dX12_go_28 (kv_ri ?_)
    obtain rfl := Option.some.inj hf
    exact v_iret G dX12_go_31
  refine v_if_eq 26 G dX12_go_15 (by decide) (fun h11 => ?_) (fun h11 => ?_)
  · replace hf := (if_pos h11).symm.trans hf
    refine v_sub _ [0] rfl ?_
    exact hj26 hf
  · replace hf := (if_neg h11).symm.trans hf
    refine v_aload_n G dX12_go_18 0 rfl ?_
    refine v_iload_n G dX12_go_19 2 rfl ?_
    obtain ⟨v5, hcv5, hf⟩ := bd_e hf
    refine v_callV [.int p2] G (c_X12_isPlaceAt n h0 hcv5) h0 (by decide) rfl rfl rfl t_1959 t_1961 t_p116 t_17 t_1962 nm_X12_isPlaceAt (by decide) (by decide) rfl rfl (Nat.le_of_ble_eq_true rfl) dX12_go_20 (kv_ri ?_)
    refine v_if_ne 32 G dX12_go_23 (by decide) (fun h10 => ?_) (fun h10 => ?_)
    · replace hf := (if_neg h10).symm.trans hf
      refine v_aload_n G dX12_go_32 0 rfl ?_
      refine v_iload_n G dX12_go_33 1 rfl ?_
      refine v_iload_n G dX12_go_34 2 rfl ?_
      obtain ⟨v6, hcv6, hf⟩ := bd_e hf
      refine v_callV [.int p1, .int p2] G (c_X12_goes n h0 hcv6) h0 (by decide) rfl rfl rfl t_2031 t_2033 t_p126 t_17 t_2034 nm_X12_goes (by decide) (by decide) rfl rfl (Nat.le_of_ble_eq_true rfl) dX12_go_35 (kv_ri ?_)
      refine v_if_eq 53 G dX12_go_38 (by decide) (fun h9 => ?_) (fun h9 => ?_)
      · replace hf := (if_pos h9).symm.trans hf
        refine v_aload_n G dX12_go_53 0 rfl ?_
        refine v_bipush (9 : Int32) G dX12_go_54 (by decide) ?_
        obtain ⟨v7, hcv7⟩ : ∃ q, f_X12_refuse a0 (9 : Int32) v6.2 = q := ⟨_, rfl⟩
        replace hf := lt_e hf hcv7.symm
        refine v_callV [.int (9 : Int32)] G (c_X12_refuse h0 hcv7) h0 (by decide) rfl rfl rfl t_1926 t_1928 t_p110 t_17 t_1929 nm_X12_refuse (by decide) (by decide) rfl rfl (Nat.le_of_ble_eq_true rfl) dX12_go_56 (kv_ri ?_)
        obtain rfl := Option.some.inj hf
        exact v_iret G dX12_go_59
      · replace hf := (if_neg h9).symm.trans hf
        refine v_aload_n G dX12_go_41 0 rfl ?_
        refine gf_12_20 G h0 t_1511 (Or.inl rfl) dX12_go_42 ?_
        refine v_bipush (74 : Int32) G dX12_go_45 (by decide) ?_
        refine v_iload_n G dX12_go_47 1 rfl ?_
        refine v_iadd G dX12_go_48 ?_
        obtain ⟨g8, hf⟩ := gd_e hf
        refine al_36 G (kf_12_5 h0) g8 dX12_go_49 ?_
        refine v_goto 59 G dX12_go_50 (by decide) ?_
        obtain rfl := Option.some.inj hf
        exact v_iret G dX12_go_59
    · replace hf := (if_pos h10).symm.trans hf
      refine v_sub _ [0] rfl ?_
      exact hj26 hf
abbrev cX12_leads : ByteArray := prog_14_method_108_code
def yX12_leads : MethodName := ⟨RX12, "leads", "(III)Z"⟩
theorem dX12_leads_0 : dc cX12_leads 0 (.aload_n 0) 1 1 := ⟨by decide +kernel, rfl⟩
theorem dX12_leads_1 : dc cX12_leads 1 (.iload_n 1) 1 2 := ⟨by decide +kernel, rfl⟩
theorem dX12_leads_2 : dc cX12_leads 2 (.iload_n 3) 1 3 := ⟨by decide +kernel, rfl⟩
theorem dX12_leads_3 : dc cX12_leads 3 (.invokevirtual 414) 3 6 := ⟨by decide +kernel, rfl⟩
theorem dX12_leads_6 : dc cX12_leads 6 (.ifCond .ne 5) 3 9 := ⟨by decide +kernel, rfl⟩
theorem dX12_leads_9 : dc cX12_leads 9 (.iconst 0) 1 10 := ⟨by decide +kernel, rfl⟩
theorem dX12_leads_10 : dc cX12_leads 10 (.ireturn) 1 11 := ⟨by decide +kernel, rfl⟩
theorem dX12_leads_11 : dc cX12_leads 11 (.iconst 0) 1 12 := ⟨by decide +kernel, rfl⟩
theorem dX12_leads_12 : dc cX12_leads 12 (.istore 4) 2 14 := ⟨by decide +kernel, rfl⟩
theorem dX12_leads_14 : dc cX12_leads 14 (.iload 4) 2 16 := ⟨by decide +kernel, rfl⟩
theorem dX12_leads_16 : dc cX12_leads 16 (.aload_n 0) 1 17 := ⟨by decide +kernel, rfl⟩
theorem dX12_leads_17 : dc cX12_leads 17 (.getfield 35) 3 20 := ⟨by decide +kernel, rfl⟩
theorem dX12_leads_20 : dc cX12_leads 20 (.iconst 2) 1 21 := ⟨by decide +kernel, rfl⟩
theorem dX12_leads_21 : dc cX12_leads 21 (.iaload) 1 22 := ⟨by decide +kernel, rfl⟩
theorem dX12_leads_22 : dc cX12_leads 22 (.if_icmp .ge 51) 3 25 := ⟨by decide +kernel, rfl⟩
theorem dX12_leads_25 : dc cX12_leads 25 (.iload_n 2) 1 26 := ⟨by decide +kernel, rfl⟩
theorem dX12_leads_26 : dc cX12_leads 26 (.iload 4) 2 28 := ⟨by decide +kernel, rfl⟩
theorem dX12_leads_28 : dc cX12_leads 28 (.invokestatic 114) 3 31 := ⟨by decide +kernel, rfl⟩
theorem dX12_leads_31 : dc cX12_leads 31 (.ifCond .eq 36) 3 34 := ⟨by decide +kernel, rfl⟩
theorem dX12_leads_34 : dc cX12_leads 34 (.aload_n 0) 1 35 := ⟨by decide +kernel, rfl⟩
theorem dX12_leads_35 : dc cX12_leads 35 (.iload 4) 2 37 := ⟨by decide +kernel, rfl⟩
theorem dX12_leads_37 : dc cX12_leads 37 (.invokevirtual 350) 3 40 := ⟨by decide +kernel, rfl⟩
theorem dX12_leads_40 : dc cX12_leads 40 (.ifCond .ne 25) 3 43 := ⟨by decide +kernel, rfl⟩
theorem dX12_leads_43 : dc cX12_leads 43 (.aload_n 0) 1 44 := ⟨by decide +kernel, rfl⟩
theorem dX12_leads_44 : dc cX12_leads 44 (.getfield 35) 3 47 := ⟨by decide +kernel, rfl⟩
theorem dX12_leads_47 : dc cX12_leads 47 (.bipush 58) 2 49 := ⟨by decide +kernel, rfl⟩
theorem dX12_leads_49 : dc cX12_leads 49 (.iload 4) 2 51 := ⟨by decide +kernel, rfl⟩
theorem dX12_leads_51 : dc cX12_leads 51 (.iadd) 1 52 := ⟨by decide +kernel, rfl⟩
theorem dX12_leads_52 : dc cX12_leads 52 (.iaload) 1 53 := ⟨by decide +kernel, rfl⟩
theorem dX12_leads_53 : dc cX12_leads 53 (.aload_n 0) 1 54 := ⟨by decide +kernel, rfl⟩
theorem dX12_leads_54 : dc cX12_leads 54 (.getfield 35) 3 57 := ⟨by decide +kernel, rfl⟩
theorem dX12_leads_57 : dc cX12_leads 57 (.bipush 58) 2 59 := ⟨by decide +kernel, rfl⟩
theorem dX12_leads_59 : dc cX12_leads 59 (.iload_n 1) 1 60 := ⟨by decide +kernel, rfl⟩
theorem dX12_leads_60 : dc cX12_leads 60 (.iadd) 1 61 := ⟨by decide +kernel, rfl⟩
theorem dX12_leads_61 : dc cX12_leads 61 (.iaload) 1 62 := ⟨by decide +kernel, rfl⟩
theorem dX12_leads_62 : dc cX12_leads 62 (.if_icmp .eq 5) 3 65 := ⟨by decide +kernel, rfl⟩
theorem dX12_leads_65 : dc cX12_leads 65 (.iconst 0) 1 66 := ⟨by decide +kernel, rfl⟩
theorem dX12_leads_66 : dc cX12_leads 66 (.ireturn) 1 67 := ⟨by decide +kernel, rfl⟩
theorem dX12_leads_67 : dc cX12_leads 67 (.iinc 4 1) 3 70 := ⟨by decide +kernel, rfl⟩
theorem dX12_leads_70 : dc cX12_leads 70 (.goto (-56)) 3 73 := ⟨by decide +kernel, rfl⟩
theorem dX12_leads_73 : dc cX12_leads 73 (.aload_n 0) 1 74 := ⟨by decide +kernel, rfl⟩
theorem dX12_leads_74 : dc cX12_leads 74 (.aload_n 0) 1 75 := ⟨by decide +kernel, rfl⟩
theorem dX12_leads_75 : dc cX12_leads 75 (.getfield 35) 3 78 := ⟨by decide +kernel, rfl⟩
theorem dX12_leads_78 : dc cX12_leads 78 (.bipush 58) 2 80 := ⟨by decide +kernel, rfl⟩
theorem dX12_leads_80 : dc cX12_leads 80 (.iload_n 1) 1 81 := ⟨by decide +kernel, rfl⟩
theorem dX12_leads_81 : dc cX12_leads 81 (.iadd) 1 82 := ⟨by decide +kernel, rfl⟩
theorem dX12_leads_82 : dc cX12_leads 82 (.iaload) 1 83 := ⟨by decide +kernel, rfl⟩
theorem dX12_leads_83 : dc cX12_leads 83 (.iload_n 3) 1 84 := ⟨by decide +kernel, rfl⟩
theorem dX12_leads_84 : dc cX12_leads 84 (.invokevirtual 370) 3 87 := ⟨by decide +kernel, rfl⟩
theorem dX12_leads_87 : dc cX12_leads 87 (.istore 4) 2 89 := ⟨by decide +kernel, rfl⟩
theorem dX12_leads_89 : dc cX12_leads 89 (.iconst 0) 1 90 := ⟨by decide +kernel, rfl⟩
theorem dX12_leads_90 : dc cX12_leads 90 (.istore 5) 2 92 := ⟨by decide +kernel, rfl⟩
theorem dX12_leads_92 : dc cX12_leads 92 (.iload 5) 2 94 := ⟨by decide +kernel, rfl⟩
theorem dX12_leads_94 : dc cX12_leads 94 (.aload_n 0) 1 95 := ⟨by decide +kernel, rfl⟩
theorem dX12_leads_95 : dc cX12_leads 95 (.getfield 35) 3 98 := ⟨by decide +kernel, rfl⟩
theorem dX12_leads_98 : dc cX12_leads 98 (.iconst 2) 1 99 := ⟨by decide +kernel, rfl⟩
theorem dX12_leads_99 : dc cX12_leads 99 (.iaload) 1 100 := ⟨by decide +kernel, rfl⟩
theorem dX12_leads_100 : dc cX12_leads 100 (.if_icmp .ge 41) 3 103 := ⟨by decide +kernel, rfl⟩
theorem dX12_leads_103 : dc cX12_leads 103 (.iload_n 2) 1 104 := ⟨by decide +kernel, rfl⟩
theorem dX12_leads_104 : dc cX12_leads 104 (.iload 5) 2 106 := ⟨by decide +kernel, rfl⟩
theorem dX12_leads_106 : dc cX12_leads 106 (.invokestatic 114) 3 109 := ⟨by decide +kernel, rfl⟩
theorem dX12_leads_109 : dc cX12_leads 109 (.ifCond .ne 6) 3 112 := ⟨by decide +kernel, rfl⟩
theorem dX12_leads_112 : dc cX12_leads 112 (.goto 23) 3 115 := ⟨by decide +kernel, rfl⟩
theorem dX12_leads_115 : dc cX12_leads 115 (.aload_n 0) 1 116 := ⟨by decide +kernel, rfl⟩
theorem dX12_leads_116 : dc cX12_leads 116 (.iload 5) 2 118 := ⟨by decide +kernel, rfl⟩
theorem dX12_leads_118 : dc cX12_leads 118 (.iload_n 3) 1 119 := ⟨by decide +kernel, rfl⟩
theorem dX12_leads_119 : dc cX12_leads 119 (.iload 4) 2 121 := ⟨by decide +kernel, rfl⟩
theorem dX12_leads_121 : dc cX12_leads 121 (.invokevirtual 417) 3 124 := ⟨by decide +kernel, rfl⟩
theorem dX12_leads_124 : dc cX12_leads 124 (.aload_n 0) 1 125 := ⟨by decide +kernel, rfl⟩
theorem dX12_leads_125 : dc cX12_leads 125 (.getfield 35) 3 128 := ⟨by decide +kernel, rfl⟩
theorem dX12_leads_128 : dc cX12_leads 128 (.bipush 82) 2 130 := ⟨by decide +kernel, rfl⟩
theorem dX12_leads_130 : dc cX12_leads 130 (.iload 5) 2 132 := ⟨by decide +kernel, rfl⟩
theorem dX12_leads_132 : dc cX12_leads 132 (.iadd) 1 133 := ⟨by decide +kernel, rfl⟩
theorem dX12_leads_133 : dc cX12_leads 133 (.iload_n 1) 1 134 := ⟨by decide +kernel, rfl⟩
theorem dX12_leads_134 : dc cX12_leads 134 (.iastore) 1 135 := ⟨by decide +kernel, rfl⟩
theorem dX12_leads_135 : dc cX12_leads 135 (.iinc 5 1) 3 138 := ⟨by decide +kernel, rfl⟩
theorem dX12_leads_138 : dc cX12_leads 138 (.goto (-46)) 3 141 := ⟨by decide +kernel, rfl⟩
theorem dX12_leads_141 : dc cX12_leads 141 (.aload_n 0) 1 142 := ⟨by decide +kernel, rfl⟩
theorem dX12_leads_142 : dc cX12_leads 142 (.iload_n 1) 1 143 := ⟨by decide +kernel, rfl⟩
theorem dX12_leads_143 : dc cX12_leads 143 (.iload_n 3) 1 144 := ⟨by decide +kernel, rfl⟩
theorem dX12_leads_144 : dc cX12_leads 144 (.iload 4) 2 146 := ⟨by decide +kernel, rfl⟩
theorem dX12_leads_146 : dc cX12_leads 146 (.invokevirtual 417) 3 149 := ⟨by decide +kernel, rfl⟩
theorem dX12_leads_149 : dc cX12_leads 149 (.iconst 1) 1 150 := ⟨by decide +kernel, rfl⟩
theorem dX12_leads_150 : dc cX12_leads 150 (.ireturn) 1 151 := ⟨by decide +kernel, rfl⟩
theorem nm_X12_leads : (yX12_leads).cls ≠ "java/lang/invoke/MethodHandle" ∧ (yX12_leads).cls ≠ "java/lang/invoke/VarHandle" ∧ (parseMethodDescriptor (yX12_leads).desc).map (fun d => d.parameters.length) = some 3 := ⟨by decide +kernel, by decide +kernel, by decide +kernel⟩
theorem zs_X12_leads_14 {a0 : Nat} {c1 : Int32} {c2 : Int32} {c3 : Int32} {M : KM} {k73 : Option (Int32 × KM)} {y : (Int32 × KM)} (hk73 : k73 = some y → (y.1 = 0 ∨ y.1 = 1)) : ∀ (n : Nat) (w4 : Int32), lp_X12_leads_14 n a0 c1 c2 c3 M w4 k73 = some y → (y.1 = 0 ∨ y.1 = 1) := by
  intro n
  induction n with
  | zero =>
    intro w4 hf
    cases hf
  | succ n ih =>
    intro w4 hf
    rw [lp_X12_leads_14] at hf
    obtain ⟨g2, hf⟩ := gd_e hf
    by_cases h11 : (M.1 (a0 + 5) ((2 : Int32)).toNatClampNeg) ≤ w4
    · replace hf := (if_pos h11).symm.trans hf
      exact hk73 hf
    · replace hf := (if_neg h11).symm.trans hf
      obtain ⟨v3, hcv3⟩ : ∃ q, f_X12_has c2 w4 M = q := ⟨_, rfl⟩
      replace hf := lt_e hf hcv3.symm
      obtain ⟨j67, ej67, hf⟩ := lt_j hf
      have hj67 : j67 = some y → (y.1 = 0 ∨ y.1 = 1) := by
        intro hf
        rw [ej67] at hf
        obtain ⟨v4, ev4⟩ : ∃ q : Int32, q = w4 + (1 : Int32) := ⟨_, rfl⟩
        replace hf := lt_e hf ev4
        exact ih v4 hf
      by_cases h10 : v3 = 0
      · replace hf := (if_pos h10).symm.trans hf
        exact hj67 hf
      · replace hf := (if_neg h10).symm.trans hf
        obtain ⟨v5, hcv5, hf⟩ := bd_e hf
        by_cases h9 : v5 = 0
        · replace hf := (if_pos h9).symm.trans hf
          obtain ⟨g6, hf⟩ := gd_e hf
          obtain ⟨g7, hf⟩ := gd_e hf
          by_cases h8 : (M.1 (a0 + 5) (((58 : Int32) + w4)).toNatClampNeg) = (M.1 (a0 + 5) (((58 : Int32) + c1)).toNatClampNeg)
          · replace hf := (if_pos h8).symm.trans hf
            exact hj67 hf
          · replace hf := (if_neg h8).symm.trans hf
            obtain rfl := Option.some.inj hf
            exact (Or.inl rfl)
        · replace hf := (if_neg h9).symm.trans hf
          obtain rfl := Option.some.inj hf
          exact (Or.inl rfl)
theorem zs_X12_leads_92 {a0 : Nat} {c1 : Int32} {c2 : Int32} {c3 : Int32} {c4 : Int32} {k141 : KM → Option (Int32 × KM)} {y : (Int32 × KM)} (hk141 : ∀ (M : KM), k141 M = some y → (y.1 = 0 ∨ y.1 = 1)) : ∀ (n : Nat) (w5 : Int32) (M : KM), lp_X12_leads_92 n a0 c1 c2 c3 c4 w5 M k141 = some y → (y.1 = 0 ∨ y.1 = 1) := by
  intro n
  induction n with
  | zero =>
    intro w5 M hf
    cases hf
  | succ n ih =>
    intro w5 M hf
    rw [lp_X12_leads_92] at hf
    obtain ⟨g14, hf⟩ := gd_e hf
    by_cases h22 : (M.1 (a0 + 5) ((2 : Int32)).toNatClampNeg) ≤ w5
    · replace hf := (if_pos h22).symm.trans hf
      exact hk141 M hf
    · replace hf := (if_neg h22).symm.trans hf
      obtain ⟨v15, hcv15⟩ : ∃ q, f_X12_has c2 w5 M = q := ⟨_, rfl⟩
      replace hf := lt_e hf hcv15.symm
      obtain ⟨j135, ej135, hf⟩ := lt_j hf
      have hj135 : ∀ (M16 : KM), j135 M16 = some y → (y.1 = 0 ∨ y.1 = 1) := by
        intro M16 hf
        rw [ej135] at hf
        obtain ⟨v17, ev17⟩ : ∃ q : Int32, q = w5 + (1 : Int32) := ⟨_, rfl⟩
        replace hf := lt_e hf ev17
        exact ih v17 M16 hf
      by_cases h21 : v15 = 0
      · replace hf := (if_pos h21).symm.trans hf
        exact hj135 M hf
      · replace hf := (if_neg h21).symm.trans hf
        obtain ⟨v18, hcv18, hf⟩ := bd_e hf
        obtain ⟨g19, hf⟩ := gd_e hf
        obtain ⟨M20, eM20⟩ : ∃ q : KM, q = (uI v18 (a0 + 5) (((82 : Int32) + w5)).toNatClampNeg c1) := ⟨_, rfl⟩
        replace hf := lt_e hf eM20
        exact hj135 M20 hf
set_option maxRecDepth 100000 in
theorem z_X12_leads (n : Nat) {a0 : Nat} {p1 : Int32} {p2 : Int32} {p3 : Int32} {M : KM} {y : (Int32 × KM)} (hf : f_X12_leads n a0 p1 p2 p3 M = some y) : (y.1 = 0 ∨ y.1 = 1) := by
  unfold f_X12_leads at hf
  obtain ⟨v1, hcv1, hf⟩ := bd_e hf
  by_cases h25 : v1 = 0
  · replace hf := (if_pos h25).symm.trans hf
    obtain rfl := Option.some.inj hf
    exact (Or.inl rfl)
  · replace hf := (if_neg h25).symm.trans hf
    refine zs_X12_leads_14 (fun hf => ?_) n (0 : Int32) hf
    · obtain ⟨g12, hf⟩ := gd_e hf
      obtain ⟨v13, hcv13, hf⟩ := bd_e hf
      refine zs_X12_leads_92 (fun M23 hf => ?_) n (0 : Int32) M hf
      · obtain ⟨v24, hcv24, hf⟩ := bd_e hf
        obtain rfl := Option.some.inj hf
        exact (Or.inr rfl)
set_option maxRecDepth 100000 in
set_option maxHeartbeats 4000000 in
theorem s_X12_leads_14 {ad : Nat → Nat} {cy : Nat → ClassId} {x : KX} (G : KG ad cy x cX12_leads "NoonGuidesModel" 6 (some (some .boolean)) 4) {a0 : Nat} {c1 : Int32} {c2 : Int32} {c3 : Int32} {M : KM} (h0 : kty a0 = 12) {k73 : Option (Int32 × KM)} {y : (Int32 × KM)} (hk73 : k73 = some y → KV ad cy x (some (.int y.1), y.2) 73 [(0, .ref (ad a0)), (1, .int c1), (2, .int c2), (3, .int c3)] [] M) : ∀ (n : Nat) (w4 : Int32), lp_X12_leads_14 n a0 c1 c2 c3 M w4 k73 = some y → KV ad cy x (some (.int y.1), y.2) 14 [(0, .ref (ad a0)), (1, .int c1), (2, .int c2), (3, .int c3), (4, .int w4)] [] M := by
  intro n
  induction n with
  | zero =>
    intro w4 hf
    cases hf
  | succ n ih =>
    intro w4 hf
    rw [lp_X12_leads_14] at hf
    refine v_iload G dX12_leads_14 4 rfl ?_
    refine v_aload_n G dX12_leads_16 0 rfl ?_
    refine gf_12_20 G h0 t_1511 (Or.inl rfl) dX12_leads_17 ?_
    refine v_iconst (2 : Int32) G dX12_leads_20 (by decide) ?_
    obtain ⟨g2, hf⟩ := gd_e hf
    refine al_36 G (kf_12_5 h0) g2 dX12_leads_21 ?_
    refine v_icmp_ge 73 G dX12_leads_22 (by decide) (fun h11 => ?_) (fun h11 => ?_)
    · replace hf := (if_pos h11).symm.trans hf
      refine v_sub _ [0, 1, 2, 3] rfl ?_
      exact hk73 hf
    · replace hf := (if_neg h11).symm.trans hf
      refine v_iload_n G dX12_leads_25 2 rfl ?_
      refine v_iload G dX12_leads_26 4 rfl ?_
      obtain ⟨v3, hcv3⟩ : ∃ q, f_X12_has c2 w4 M = q := ⟨_, rfl⟩
      replace hf := lt_e hf hcv3.symm
      refine v_callS [.int c2, .int w4] G (c_X12_has hcv3) t_1740 t_1741 t_17 t_1742 nm_X12_has (by decide) (by decide) rfl rfl (Nat.le_of_ble_eq_true rfl) dX12_leads_28 (kv_ri ?_)
      obtain ⟨j67, ej67, hf⟩ := lt_j hf
      have hj67 : j67 = some y → KV ad cy x (some (.int y.1), y.2) 67 [(0, .ref (ad a0)), (1, .int c1), (2, .int c2), (3, .int c3), (4, .int w4)] [] M := by
        intro hf
        rw [ej67] at hf
        obtain ⟨v4, ev4⟩ : ∃ q : Int32, q = w4 + (1 : Int32) := ⟨_, rfl⟩
        replace hf := lt_e hf ev4
        refine v_iinc v4 [(4, .int v4), (0, .ref (ad a0)), (1, .int c1), (2, .int c2), (3, .int c3)] G dX12_leads_67 4 rfl (by rw [ev4]; rfl) (by decide) rfl ?_
        refine v_goto 14 G dX12_leads_70 (by decide) ?_
        refine v_sub _ [1, 2, 3, 4, 0] rfl ?_
        exact ih v4 hf
      refine v_if_eq 67 G dX12_leads_31 (by decide) (fun h10 => ?_) (fun h10 => ?_)
      · replace hf := (if_pos h10).symm.trans hf
        refine v_sub _ [0, 1, 2, 3, 4] rfl ?_
        exact hj67 hf
      · replace hf := (if_neg h10).symm.trans hf
        refine v_aload_n G dX12_leads_34 0 rfl ?_
        refine v_iload G dX12_leads_35 4 rfl ?_
        obtain ⟨v5, hcv5, hf⟩ := bd_e hf
        refine v_callV [.int w4] G (c_X12_isGoing n h0 hcv5) h0 (by decide) rfl rfl rfl t_1942 t_1944 t_p114 t_17 t_1945 nm_X12_isGoing (by decide) (by decide) rfl rfl (Nat.le_of_ble_eq_true rfl) dX12_leads_37 (kv_ri ?_)
        refine v_if_ne 65 G dX12_leads_40 (by decide) (fun h9 => ?_) (fun h9 => ?_)
        · replace hf := (if_neg h9).symm.trans hf
          refine v_iconst (0 : Int32) G dX12_leads_65 (by decide) ?_
          obtain rfl := Option.some.inj hf
          exact v_zret G (Or.inl rfl) dX12_leads_66
        · replace hf := (if_pos h9).symm.trans hf
          refine v_aload_n G dX12_leads_43 0 rfl ?_
          refine gf_12_20 G h0 t_1511 (Or.inl rfl) dX12_leads_44 ?_
          refine v_bipush (58 : Int32) G dX12_leads_47 (by decide) ?_
          refine v_iload G dX12_leads_49 4 rfl ?_
          refine v_iadd G dX12_leads_51 ?_
          obtain ⟨g6, hf⟩ := gd_e hf
          refine al_36 G (kf_12_5 h0) g6 dX12_leads_52 ?_
          refine v_aload_n G dX12_leads_53 0 rfl ?_
          refine gf_12_20 G h0 t_1511 (Or.inl rfl) dX12_leads_54 ?_
          refine v_bipush (58 : Int32) G dX12_leads_57 (by decide) ?_
          refine v_iload_n G dX12_leads_59 1 rfl ?_
          refine v_iadd G dX12_leads_60 ?_
          obtain ⟨g7, hf⟩ := gd_e hf
          refine al_36 G (kf_12_5 h0) g7 dX12_leads_61 ?_
          refine v_icmp_eq 67 G dX12_leads_62 (by decide) (fun h8 => ?_) (fun h8 => ?_)
          · replace hf := (if_pos h8).symm.trans hf
            refine v_sub _ [0, 1, 2, 3, 4] rfl ?_
            exact hj67 hf
          · replace hf := (if_neg h8).symm.trans hf
            refine v_iconst (0 : Int32) G dX12_leads_65 (by decide) ?_
            obtain rfl := Option.some.inj hf
            exact v_zret G (Or.inl rfl) dX12_leads_66
set_option maxRecDepth 100000 in
set_option maxHeartbeats 4000000 in
theorem s_X12_leads_92 {ad : Nat → Nat} {cy : Nat → ClassId} {x : KX} (G : KG ad cy x cX12_leads "NoonGuidesModel" 6 (some (some .boolean)) 4) {a0 : Nat} {c1 : Int32} {c2 : Int32} {c3 : Int32} {c4 : Int32} (h0 : kty a0 = 12) {k141 : KM → Option (Int32 × KM)} {y : (Int32 × KM)} (hk141 : ∀ (M : KM), k141 M = some y → KV ad cy x (some (.int y.1), y.2) 141 [(0, .ref (ad a0)), (1, .int c1), (3, .int c3), (4, .int c4)] [] M) : ∀ (n : Nat) (w5 : Int32) (M : KM), lp_X12_leads_92 n a0 c1 c2 c3 c4 w5 M k141 = some y → KV ad cy x (some (.int y.1), y.2) 92 [(0, .ref (ad a0)), (1, .int c1), (2, .int c2), (3, .int c3), (4, .int c4), (5, .int w5)] [] M := by
  intro n
  induction n with
  | zero =>
    intro w5 M hf
    cases hf
  | succ n ih =>
    intro w5 M hf
    rw [lp_X12_leads_92] at hf
    refine v_iload G dX12_leads_92 5 rfl ?_
    refine v_aload_n G dX12_leads_94 0 rfl ?_
    refine gf_12_20 G h0 t_1511 (Or.inl rfl) dX12_leads_95 ?_
    refine v_iconst (2 : Int32) G dX12_leads_98 (by decide) ?_
    obtain ⟨g14, hf⟩ := gd_e hf
    refine al_36 G (kf_12_5 h0) g14 dX12_leads_99 ?_
    refine v_icmp_ge 141 G dX12_leads_100 (by decide) (fun h22 => ?_) (fun h22 => ?_)
    · replace hf := (if_pos h22).symm.trans hf
      refine v_sub _ [0, 1, 3, 4] rfl ?_
      exact hk141 M hf
    · replace hf := (if_neg h22).symm.trans hf
      refine v_iload_n G dX12_leads_103 2 rfl ?_
      refine v_iload G dX12_leads_104 5 rfl ?_
      obtain ⟨v15, hcv15⟩ : ∃ q, f_X12_has c2 w5 M = q := ⟨_, rfl⟩
      replace hf := lt_e hf hcv15.symm
      refine v_callS [.int c2, .int w5] G (c_X12_has hcv15) t_1740 t_1741 t_17 t_1742 nm_X12_has (by decide) (by decide) rfl rfl (Nat.le_of_ble_eq_true rfl) dX12_leads_106 (kv_ri ?_)
      obtain ⟨j135, ej135, hf⟩ := lt_j hf
      have hj135 : ∀ (M16 : KM), j135 M16 = some y → KV ad cy x (some (.int y.1), y.2) 135 [(0, .ref (ad a0)), (1, .int c1), (2, .int c2), (3, .int c3), (4, .int c4), (5, .int w5)] [] M16 := by
        intro M16 hf
        rw [ej135] at hf
        obtain ⟨v17, ev17⟩ : ∃ q : Int32, q = w5 + (1 : Int32) := ⟨_, rfl⟩
        replace hf := lt_e hf ev17
        refine v_iinc v17 [(5, .int v17), (0, .ref (ad a0)), (1, .int c1), (2, .int c2), (3, .int c3), (4, .int c4)] G dX12_leads_135 5 rfl (by rw [ev17]; rfl) (by decide) rfl ?_
        refine v_goto 92 G dX12_leads_138 (by decide) ?_
        refine v_sub _ [1, 2, 3, 4, 5, 0] rfl ?_
        exact ih v17 M16 hf
      refine v_if_ne 115 G dX12_leads_109 (by decide) (fun h21 => ?_) (fun h21 => ?_)
      · replace hf := (if_neg h21).symm.trans hf
        refine v_aload_n G dX12_leads_115 0 rfl ?_
        refine v_iload G dX12_leads_116 5 rfl ?_
        refine v_iload_n G dX12_leads_118 3 rfl ?_
        refine v_iload G dX12_leads_119 4 rfl ?_
        obtain ⟨v18, hcv18, hf⟩ := bd_e hf
        refine v_callV [.int w5, .int c3, .int c4] G (c_X12_sets n h0 hcv18) h0 (by decide) rfl rfl rfl t_2043 t_2045 t_p129 t_17 t_2046 nm_X12_sets (by decide) (by decide) rfl rfl (Nat.le_of_ble_eq_true rfl) dX12_leads_121 (kv_rv ?_)
        refine v_aload_n G dX12_leads_124 0 rfl ?_
        refine gf_12_20 G h0 t_1511 (Or.inl rfl) dX12_leads_125 ?_
        refine v_bipush (82 : Int32) G dX12_leads_128 (by decide) ?_
        refine v_iload G dX12_leads_130 5 rfl ?_
        refine v_iadd G dX12_leads_132 ?_
        refine v_iload_n G dX12_leads_133 1 rfl ?_
        obtain ⟨g19, hf⟩ := gd_e hf
        refine as_36 G (kf_12_5 h0) g19 dX12_leads_134 ?_
        refine v_nmM (fun M20 eM20 => ?_)
        replace hf := lt_e hf eM20
        refine v_sub _ [0, 1, 2, 3, 4, 5] rfl ?_
        exact hj135 M20 hf
      · replace hf := (if_pos h21).symm.trans hf
        refine v_goto 135 G dX12_leads_112 (by decide) ?_
        refine v_sub _ [0, 1, 2, 3, 4, 5] rfl ?_
        exact hj135 M hf
set_option maxRecDepth 100000 in
set_option maxHeartbeats 4000000 in
theorem c_X12_leads {l : Launch} {ad : Nat → Nat} {cy : Nat → ClassId} {D : va_G} {z : Nat} (n : Nat) {a0 : Nat} {p1 : Int32} {p2 : Int32} {p3 : Int32} {M : KM} {y : (Int32 × KM)} (h0 : kty a0 = 12) (hf : f_X12_leads n a0 p1 p2 p3 M = some y) : KC l ad cy D z yX12_leads cX12_leads 6 (some .boolean) 4 [.ref (ad a0), .int p1, .int p2, .int p3] M (some (.int y.1), y.2) := by
  refine kv_enter (by decide +kernel) (Nat.le_of_ble_eq_true rfl) ?_
  intro x hl hD hz G
  subst hl hD hz
  unfold f_X12_leads at hf
  have G : KG ad cy x cX12_leads "NoonGuidesModel" 6 (some (some .boolean)) 4 := G
  show KV ad cy x (some (.int y.1), y.2) 0 [(0, .ref (ad a0)), (1, .int p1), (2, .int p2), (3, .int p3)] [] M
  refine v_aload_n G dX12_leads_0 0 rfl ?_
  refine v_iload_n G dX12_leads_1 1 rfl ?_
  refine v_iload_n G dX12_leads_2 3 rfl ?_
  obtain ⟨v1, hcv1, hf⟩ := bd_e hf
  refine v_callV [.int p1, .int p3] G (c_X12_canStart n h0 hcv1) h0 (by decide) rfl rfl rfl t_2035 t_2037 t_p127 t_17 t_2038 nm_X12_canStart (by decide) (by decide) rfl rfl (Nat.le_of_ble_eq_true rfl) dX12_leads_3 (kv_ri ?_)
  refine v_if_ne 11 G dX12_leads_6 (by decide) (fun h25 => ?_) (fun h25 => ?_)
  · replace hf := (if_neg h25).symm.trans hf
    refine v_iconst (0 : Int32) G dX12_leads_11 (by decide) ?_
    refine v_istore [(4, .int (0 : Int32)), (0, .ref (ad a0)), (1, .int p1), (2, .int p2), (3, .int p3)] G dX12_leads_12 (by decide) rfl ?_
    refine v_sub _ [1, 2, 3, 4, 0] rfl ?_
    refine s_X12_leads_14 G h0 (fun hf => ?_) n (0 : Int32) hf
    · refine v_aload_n G dX12_leads_73 0 rfl ?_
      refine v_aload_n G dX12_leads_74 0 rfl ?_
      refine gf_12_20 G h0 t_1511 (Or.inl rfl) dX12_leads_75 ?_
      refine v_bipush (58 : Int32) G dX12_leads_78 (by decide) ?_
      refine v_iload_n G dX12_leads_80 1 rfl ?_
      refine v_iadd G dX12_leads_81 ?_
      obtain ⟨g12, hf⟩ := gd_e hf
      refine al_36 G (kf_12_5 h0) g12 dX12_leads_82 ?_
      refine v_iload_n G dX12_leads_83 3 rfl ?_
      obtain ⟨v13, hcv13, hf⟩ := bd_e hf
      refine v_callV [.int (M.1 (a0 + 5) (((58 : Int32) + p1)).toNatClampNeg), .int p3] G (c_X12_between n h0 hcv13) h0 (by decide) rfl rfl rfl t_1963 t_1965 t_p117 t_17 t_1966 nm_X12_between (by decide) (by decide) rfl rfl (Nat.le_of_ble_eq_true rfl) dX12_leads_84 (kv_ri ?_)
      refine v_istore [(4, .int v13), (0, .ref (ad a0)), (1, .int p1), (2, .int p2), (3, .int p3)] G dX12_leads_87 (by decide) rfl ?_
      refine v_iconst (0 : Int32) G dX12_leads_89 (by decide) ?_
      refine v_istore [(5, .int (0 : Int32)), (4, .int v13), (0, .ref (ad a0)), (1, .int p1), (2, .int p2), (3, .int p3)] G dX12_leads_90 (by decide) rfl ?_
      refine v_sub _ [2, 3, 4, 5, 1, 0] rfl ?_
      refine s_X12_leads_92 G h0 (fun M23 hf => ?_) n (0 : Int32) M hf
      · refine v_aload_n G dX12_leads_141 0 rfl ?_
        refine v_iload_n G dX12_leads_142 1 rfl ?_
        refine v_iload_n G dX12_leads_143 2 rfl ?_
        refine v_iload G dX12_leads_144 3 rfl ?_
        obtain ⟨v24, hcv24, hf⟩ := bd_e hf
        refine v_callV [.int p1, .int p3, .int v13] G (c_X12_sets n h0 hcv24) h0 (by decide) rfl rfl rfl t_2043 t_2045 t_p129 t_17 t_2046 nm_X12_sets (by decide) (by decide) rfl rfl (Nat.le_of_ble_eq_true rfl) dX12_leads_146 (kv_rv ?_)
        refine v_iconst (1 : Int32) G dX12_leads_149 (by decide) ?_
        obtain rfl := Option.some.inj hf
        exact v_zret G (Or.inr rfl) dX12_leads_150
  · replace hf := (if_pos h25).symm.trans hf
    refine v_iconst (0 : Int32) G dX12_leads_9 (by decide) ?_
    obtain rfl := Option.some.inj hf
    exact v_zret G (Or.inl rfl) dX12_leads_10
abbrev cX12_lead : ByteArray := prog_14_method_109_code
def yX12_lead : MethodName := ⟨RX12, "lead", "(III)I"⟩
theorem dX12_lead_0 : dc cX12_lead 0 (.aload_n 0) 1 1 := ⟨by decide +kernel, rfl⟩
theorem dX12_lead_1 : dc cX12_lead 1 (.iconst 0) 1 2 := ⟨by decide +kernel, rfl⟩
theorem dX12_lead_2 : dc cX12_lead 2 (.putfield 75) 3 5 := ⟨by decide +kernel, rfl⟩
theorem dX12_lead_5 : dc cX12_lead 5 (.aload_n 0) 1 6 := ⟨by decide +kernel, rfl⟩
theorem dX12_lead_6 : dc cX12_lead 6 (.iconst 0) 1 7 := ⟨by decide +kernel, rfl⟩
theorem dX12_lead_7 : dc cX12_lead 7 (.putfield 78) 3 10 := ⟨by decide +kernel, rfl⟩
theorem dX12_lead_10 : dc cX12_lead 10 (.aload_n 0) 1 11 := ⟨by decide +kernel, rfl⟩
theorem dX12_lead_11 : dc cX12_lead 11 (.iload_n 1) 1 12 := ⟨by decide +kernel, rfl⟩
theorem dX12_lead_12 : dc cX12_lead 12 (.invokevirtual 373) 3 15 := ⟨by decide +kernel, rfl⟩
theorem dX12_lead_15 : dc cX12_lead 15 (.ifCond .eq 11) 3 18 := ⟨by decide +kernel, rfl⟩
theorem dX12_lead_18 : dc cX12_lead 18 (.aload_n 0) 1 19 := ⟨by decide +kernel, rfl⟩
theorem dX12_lead_19 : dc cX12_lead 19 (.iload_n 3) 1 20 := ⟨by decide +kernel, rfl⟩
theorem dX12_lead_20 : dc cX12_lead 20 (.invokevirtual 367) 3 23 := ⟨by decide +kernel, rfl⟩
theorem dX12_lead_23 : dc cX12_lead 23 (.ifCond .ne 9) 3 26 := ⟨by decide +kernel, rfl⟩
theorem dX12_lead_26 : dc cX12_lead 26 (.aload_n 0) 1 27 := ⟨by decide +kernel, rfl⟩
theorem dX12_lead_27 : dc cX12_lead 27 (.iconst 2) 1 28 := ⟨by decide +kernel, rfl⟩
theorem dX12_lead_28 : dc cX12_lead 28 (.invokevirtual 355) 3 31 := ⟨by decide +kernel, rfl⟩
theorem dX12_lead_31 : dc cX12_lead 31 (.ireturn) 1 32 := ⟨by decide +kernel, rfl⟩
theorem dX12_lead_32 : dc cX12_lead 32 (.iload_n 2) 1 33 := ⟨by decide +kernel, rfl⟩
theorem dX12_lead_33 : dc cX12_lead 33 (.i2l) 1 34 := ⟨by decide +kernel, rfl⟩
theorem dX12_lead_34 : dc cX12_lead 34 (.lconst 1) 1 35 := ⟨by decide +kernel, rfl⟩
theorem dX12_lead_35 : dc cX12_lead 35 (.iconst 1) 1 36 := ⟨by decide +kernel, rfl⟩
theorem dX12_lead_36 : dc cX12_lead 36 (.aload_n 0) 1 37 := ⟨by decide +kernel, rfl⟩
theorem dX12_lead_37 : dc cX12_lead 37 (.getfield 35) 3 40 := ⟨by decide +kernel, rfl⟩
theorem dX12_lead_40 : dc cX12_lead 40 (.iconst 2) 1 41 := ⟨by decide +kernel, rfl⟩
theorem dX12_lead_41 : dc cX12_lead 41 (.iaload) 1 42 := ⟨by decide +kernel, rfl⟩
theorem dX12_lead_42 : dc cX12_lead 42 (.ishl) 1 43 := ⟨by decide +kernel, rfl⟩
theorem dX12_lead_43 : dc cX12_lead 43 (.iconst 1) 1 44 := ⟨by decide +kernel, rfl⟩
theorem dX12_lead_44 : dc cX12_lead 44 (.isub) 1 45 := ⟨by decide +kernel, rfl⟩
theorem dX12_lead_45 : dc cX12_lead 45 (.i2l) 1 46 := ⟨by decide +kernel, rfl⟩
theorem dX12_lead_46 : dc cX12_lead 46 (.invokestatic 110) 3 49 := ⟨by decide +kernel, rfl⟩
theorem dX12_lead_49 : dc cX12_lead 49 (.ifCond .eq 25) 3 52 := ⟨by decide +kernel, rfl⟩
theorem dX12_lead_52 : dc cX12_lead 52 (.iload_n 2) 1 53 := ⟨by decide +kernel, rfl⟩
theorem dX12_lead_53 : dc cX12_lead 53 (.iload_n 1) 1 54 := ⟨by decide +kernel, rfl⟩
theorem dX12_lead_54 : dc cX12_lead 54 (.invokestatic 114) 3 57 := ⟨by decide +kernel, rfl⟩
theorem dX12_lead_57 : dc cX12_lead 57 (.ifCond .ne 17) 3 60 := ⟨by decide +kernel, rfl⟩
theorem dX12_lead_60 : dc cX12_lead 60 (.iload_n 2) 1 61 := ⟨by decide +kernel, rfl⟩
theorem dX12_lead_61 : dc cX12_lead 61 (.invokestatic 423) 3 64 := ⟨by decide +kernel, rfl⟩
theorem dX12_lead_64 : dc cX12_lead 64 (.aload_n 0) 1 65 := ⟨by decide +kernel, rfl⟩
theorem dX12_lead_65 : dc cX12_lead 65 (.getfield 35) 3 68 := ⟨by decide +kernel, rfl⟩
theorem dX12_lead_68 : dc cX12_lead 68 (.bipush 6) 2 70 := ⟨by decide +kernel, rfl⟩
theorem dX12_lead_70 : dc cX12_lead 70 (.iaload) 1 71 := ⟨by decide +kernel, rfl⟩
theorem dX12_lead_71 : dc cX12_lead 71 (.if_icmp .le 9) 3 74 := ⟨by decide +kernel, rfl⟩
theorem dX12_lead_74 : dc cX12_lead 74 (.aload_n 0) 1 75 := ⟨by decide +kernel, rfl⟩
theorem dX12_lead_75 : dc cX12_lead 75 (.iconst 5) 1 76 := ⟨by decide +kernel, rfl⟩
theorem dX12_lead_76 : dc cX12_lead 76 (.invokevirtual 355) 3 79 := ⟨by decide +kernel, rfl⟩
theorem dX12_lead_79 : dc cX12_lead 79 (.ireturn) 1 80 := ⟨by decide +kernel, rfl⟩
theorem dX12_lead_80 : dc cX12_lead 80 (.aload_n 0) 1 81 := ⟨by decide +kernel, rfl⟩
theorem dX12_lead_81 : dc cX12_lead 81 (.iload_n 1) 1 82 := ⟨by decide +kernel, rfl⟩
theorem dX12_lead_82 : dc cX12_lead 82 (.iload_n 2) 1 83 := ⟨by decide +kernel, rfl⟩
theorem dX12_lead_83 : dc cX12_lead 83 (.iload_n 3) 1 84 := ⟨by decide +kernel, rfl⟩
theorem dX12_lead_84 : dc cX12_lead 84 (.invokevirtual 426) 3 87 := ⟨by decide +kernel, rfl⟩
theorem dX12_lead_87 : dc cX12_lead 87 (.ifCond .eq 15) 3 90 := ⟨by decide +kernel, rfl⟩
theorem dX12_lead_90 : dc cX12_lead 90 (.aload_n 0) 1 91 := ⟨by decide +kernel, rfl⟩
theorem dX12_lead_91 : dc cX12_lead 91 (.getfield 35) 3 94 := ⟨by decide +kernel, rfl⟩
theorem dX12_lead_94 : dc cX12_lead 94 (.bipush 74) 2 96 := ⟨by decide +kernel, rfl⟩
theorem dX12_lead_96 : dc cX12_lead 96 (.iload_n 1) 1 97 := ⟨by decide +kernel, rfl⟩
theorem dX12_lead_97 : dc cX12_lead 97 (.iadd) 1 98 := ⟨by decide +kernel, rfl⟩
theorem dX12_lead_98 : dc cX12_lead 98 (.iaload) 1 99 := ⟨by decide +kernel, rfl⟩
theorem dX12_lead_99 : dc cX12_lead 99 (.goto 9) 3 102 := ⟨by decide +kernel, rfl⟩
theorem dX12_lead_102 : dc cX12_lead 102 (.aload_n 0) 1 103 := ⟨by decide +kernel, rfl⟩
theorem dX12_lead_103 : dc cX12_lead 103 (.bipush 9) 2 105 := ⟨by decide +kernel, rfl⟩
theorem dX12_lead_105 : dc cX12_lead 105 (.invokevirtual 355) 3 108 := ⟨by decide +kernel, rfl⟩
theorem dX12_lead_108 : dc cX12_lead 108 (.ireturn) 1 109 := ⟨by decide +kernel, rfl⟩
theorem nm_X12_lead : (yX12_lead).cls ≠ "java/lang/invoke/MethodHandle" ∧ (yX12_lead).cls ≠ "java/lang/invoke/VarHandle" ∧ (parseMethodDescriptor (yX12_lead).desc).map (fun d => d.parameters.length) = some 3 := ⟨by decide +kernel, by decide +kernel, by decide +kernel⟩
set_option maxRecDepth 100000 in
set_option maxHeartbeats 4000000 in
theorem c_X12_lead {l : Launch} {ad : Nat → Nat} {cy : Nat → ClassId} {D : va_G} {z : Nat} (n : Nat) {a0 : Nat} {p1 : Int32} {p2 : Int32} {p3 : Int32} {M : KM} {y : (Int32 × KM)} (h0 : kty a0 = 12) (hf : f_X12_lead n a0 p1 p2 p3 M = some y) : KC l ad cy D z yX12_lead cX12_lead 4 (some .int) 5 [.ref (ad a0), .int p1, .int p2, .int p3] M (some (.int y.1), y.2) := by
  refine kv_enter (by decide +kernel) (Nat.le_of_ble_eq_true rfl) ?_
  intro x hl hD hz G
  subst hl hD hz
  unfold f_X12_lead at hf
  have G : KG ad cy x cX12_lead "NoonGuidesModel" 4 (some (some .int)) 5 := G
  show KV ad cy x (some (.int y.1), y.2) 0 [(0, .ref (ad a0)), (1, .int p1), (2, .int p2), (3, .int p3)] [] M
  refine v_aload_n G dX12_lead_0 0 rfl ?_
  refine v_iconst (0 : Int32) G dX12_lead_1 (by decide) ?_
  refine pf_12_1 G h0 t_1492 (Or.inl rfl) dX12_lead_2 ?_
  refine v_nmM (fun M1 eM1 => ?_)
  replace hf := lt_e hf eM1
  refine v_aload_n G dX12_lead_5 0 rfl ?_
  refine v_iconst (0 : Int32) G dX12_lead_6 (by decide) ?_
  refine pf_12_0 G h0 t_1491 (Or.inl rfl) dX12_lead_7 ?_
  refine v_nmM (fun M2 eM2 => ?_)
  replace hf := lt_e hf eM2
  refine v_aload_n G dX12_lead_10 0 rfl ?_
  refine v_iload_n G dX12_lead_11 1 rfl ?_
  obtain ⟨v3, hcv3, hf⟩ := bd_e hf
  refine v_callV [.int p1] G (c_X12_isPerson n h0 hcv3) h0 (by decide) rfl rfl rfl t_1971 t_1973 t_p118 t_17 t_1974 nm_X12_isPerson (by decide) (by decide) rfl rfl (Nat.le_of_ble_eq_true rfl) dX12_lead_12 (kv_ri ?_)
  obtain ⟨j26, ej26, hf⟩ := lt_j hf
  have hj26 : j26 = some y → KV ad cy x (some (.int y.1), y.2) 26 [(0, .ref (ad a0))] [] M2 := by
    intro hf
    rw [ej26] at hf
    refine v_aload_n G dX12_lead_26 0 rfl ?_
    refine v_iconst (2 : Int32) G dX12_lead_27 (by decide) ?_
    obtain ⟨v4, hcv4⟩ : ∃ q, f_X12_refuse a0 (2 : Int32) M2 = q := ⟨_, rfl⟩
    replace hf := lt_e hf hcv4.symm
    refine v_callV [.int (2 : Int32)] G (c_X12_refuse h0 hcv4) h0 (by decide) rfl rfl rfl t_1926 t_1928 t_p110 t_17 t_1929 nm_X12_refuse (by decide) (by decide) rfl rfl (Nat.le_of_ble_eq_true rfl) dX12_lead_28 (kv_ri ?_)
    obtain rfl := Option.some.inj hf
    exact v_iret G dX12_lead_31
  refine v_if_eq 26 G dX12_lead_15 (by decide) (fun h20 => ?_) (fun h20 => ?_)
  · replace hf := (if_pos h20).symm.trans hf
    refine v_sub _ [0] rfl ?_
    exact hj26 hf
  · replace hf := (if_neg h20).symm.trans hf
    refine v_aload_n G dX12_lead_18 0 rfl ?_
    refine v_iload_n G dX12_lead_19 3 rfl ?_
    obtain ⟨v5, hcv5, hf⟩ := bd_e hf
    refine v_callV [.int p3] G (c_X12_isPlaceAt n h0 hcv5) h0 (by decide) rfl rfl rfl t_1959 t_1961 t_p116 t_17 t_1962 nm_X12_isPlaceAt (by decide) (by decide) rfl rfl (Nat.le_of_ble_eq_true rfl) dX12_lead_20 (kv_ri ?_)
    refine v_if_ne 32 G dX12_lead_23 (by decide) (fun h19 => ?_) (fun h19 => ?_)
    · replace hf := (if_neg h19).symm.trans hf
      refine v_iload_n G dX12_lead_32 2 rfl ?_
      refine v_i2l G dX12_lead_33 ?_
      refine v_lconst (1 : Int64) G dX12_lead_34 (by decide) ?_
      refine v_iconst (1 : Int32) G dX12_lead_35 (by decide) ?_
      refine v_aload_n G dX12_lead_36 0 rfl ?_
      refine gf_12_20 G h0 t_1511 (Or.inl rfl) dX12_lead_37 ?_
      refine v_iconst (2 : Int32) G dX12_lead_40 (by decide) ?_
      obtain ⟨g6, hf⟩ := gd_e hf
      refine al_36 G (kf_12_5 h0) g6 dX12_lead_41 ?_
      refine v_ishl G dX12_lead_42 ?_
      refine v_iconst (1 : Int32) G dX12_lead_43 (by decide) ?_
      refine v_isub G dX12_lead_44 ?_
      refine v_i2l G dX12_lead_45 ?_
      obtain ⟨v7, hcv7⟩ : ∃ q, f_X12_isIn (p2).toInt64 (1 : Int64) ((((1 : Int32) <<< ((M2.1 (a0 + 5) ((2 : Int32)).toNatClampNeg) &&& 31)) - (1 : Int32))).toInt64 M2 = q := ⟨_, rfl⟩
      replace hf := lt_e hf hcv7.symm
      refine v_callS [.long (p2).toInt64, .long (1 : Int64), .long ((((1 : Int32) <<< ((M2.1 (a0 + 5) ((2 : Int32)).toNatClampNeg) &&& 31)) - (1 : Int32))).toInt64] G (c_X12_isIn hcv7) t_1755 t_1756 t_17 t_1757 nm_X12_isIn (by decide) (by decide) rfl rfl (Nat.le_of_ble_eq_true rfl) dX12_lead_46 (kv_ri ?_)
      obtain ⟨j74, ej74, hf⟩ := lt_j hf
      have hj74 : j74 = some y → KV ad cy x (some (.int y.1), y.2) 74 [(0, .ref (ad a0))] [] M2 := by
        intro hf
        rw [ej74] at hf
        refine v_aload_n G dX12_lead_74 0 rfl ?_
        refine v_iconst (5 : Int32) G dX12_lead_75 (by decide) ?_
        obtain ⟨v8, hcv8⟩ : ∃ q, f_X12_refuse a0 (5 : Int32) M2 = q := ⟨_, rfl⟩
        replace hf := lt_e hf hcv8.symm
        refine v_callV [.int (5 : Int32)] G (c_X12_refuse h0 hcv8) h0 (by decide) rfl rfl rfl t_1926 t_1928 t_p110 t_17 t_1929 nm_X12_refuse (by decide) (by decide) rfl rfl (Nat.le_of_ble_eq_true rfl) dX12_lead_76 (kv_ri ?_)
        obtain rfl := Option.some.inj hf
        exact v_iret G dX12_lead_79
      refine v_if_eq 74 G dX12_lead_49 (by decide) (fun h18 => ?_) (fun h18 => ?_)
      · replace hf := (if_pos h18).symm.trans hf
        refine v_sub _ [0] rfl ?_
        exact hj74 hf
      · replace hf := (if_neg h18).symm.trans hf
        refine v_iload_n G dX12_lead_52 2 rfl ?_
        refine v_iload_n G dX12_lead_53 1 rfl ?_
        obtain ⟨v9, hcv9⟩ : ∃ q, f_X12_has p2 p1 M2 = q := ⟨_, rfl⟩
        replace hf := lt_e hf hcv9.symm
        refine v_callS [.int p2, .int p1] G (c_X12_has hcv9) t_1740 t_1741 t_17 t_1742 nm_X12_has (by decide) (by decide) rfl rfl (Nat.le_of_ble_eq_true rfl) dX12_lead_54 (kv_ri ?_)
        refine v_if_ne 74 G dX12_lead_57 (by decide) (fun h17 => ?_) (fun h17 => ?_)
        · replace hf := (if_neg h17).symm.trans hf
          refine v_sub _ [0] rfl ?_
          exact hj74 hf
        · replace hf := (if_pos h17).symm.trans hf
          refine v_iload_n G dX12_lead_60 2 rfl ?_
          obtain ⟨v10, hcv10, hf⟩ := bd_e hf
          refine v_callS [.int p2] G (c_X12_sizeOf n hcv10) t_2051 t_2052 t_17 t_2053 nm_X12_sizeOf (by decide) (by decide) rfl rfl (Nat.le_of_ble_eq_true rfl) dX12_lead_61 (kv_ri ?_)
          refine v_aload_n G dX12_lead_64 0 rfl ?_
          refine gf_12_20 G h0 t_1511 (Or.inl rfl) dX12_lead_65 ?_
          refine v_bipush (6 : Int32) G dX12_lead_68 (by decide) ?_
          obtain ⟨g11, hf⟩ := gd_e hf
          refine al_36 G (kf_12_5 h0) g11 dX12_lead_70 ?_
          refine v_icmp_le 80 G dX12_lead_71 (by decide) (fun h16 => ?_) (fun h16 => ?_)
          · replace hf := (if_pos h16).symm.trans hf
            refine v_aload_n G dX12_lead_80 0 rfl ?_
            refine v_iload_n G dX12_lead_81 1 rfl ?_
            refine v_iload_n G dX12_lead_82 2 rfl ?_
            refine v_iload_n G dX12_lead_83 3 rfl ?_
            obtain ⟨v12, hcv12, hf⟩ := bd_e hf
            refine v_callV [.int p1, .int p2, .int p3] G (c_X12_leads n h0 hcv12) h0 (by decide) rfl rfl rfl t_2054 t_2056 t_p130 t_17 t_2057 nm_X12_leads (by decide) (by decide) rfl rfl (Nat.le_of_ble_eq_true rfl) dX12_lead_84 (kv_ri ?_)
            refine v_if_eq 102 G dX12_lead_87 (by decide) (fun h15 => ?_) (fun h15 => ?_)
            · replace hf := (if_pos h15).symm.trans hf
              refine v_aload_n G dX12_lead_102 0 rfl ?_
              refine v_bipush (9 : Int32) G dX12_lead_103 (by decide) ?_
              obtain ⟨v13, hcv13⟩ : ∃ q, f_X12_refuse a0 (9 : Int32) v12.2 = q := ⟨_, rfl⟩
              replace hf := lt_e hf hcv13.symm
              refine v_callV [.int (9 : Int32)] G (c_X12_refuse h0 hcv13) h0 (by decide) rfl rfl rfl t_1926 t_1928 t_p110 t_17 t_1929 nm_X12_refuse (by decide) (by decide) rfl rfl (Nat.le_of_ble_eq_true rfl) dX12_lead_105 (kv_ri ?_)
              obtain rfl := Option.some.inj hf
              exact v_iret G dX12_lead_108
            · replace hf := (if_neg h15).symm.trans hf
              refine v_aload_n G dX12_lead_90 0 rfl ?_
              refine gf_12_20 G h0 t_1511 (Or.inl rfl) dX12_lead_91 ?_
              refine v_bipush (74 : Int32) G dX12_lead_94 (by decide) ?_
              refine v_iload_n G dX12_lead_96 1 rfl ?_
              refine v_iadd G dX12_lead_97 ?_
              obtain ⟨g14, hf⟩ := gd_e hf
              refine al_36 G (kf_12_5 h0) g14 dX12_lead_98 ?_
              refine v_goto 108 G dX12_lead_99 (by decide) ?_
              obtain rfl := Option.some.inj hf
              exact v_iret G dX12_lead_108
          · replace hf := (if_neg h16).symm.trans hf
            refine v_sub _ [0] rfl ?_
            exact hj74 hf
    · replace hf := (if_pos h19).symm.trans hf
      refine v_sub _ [0] rfl ?_
      exact hj26 hf
abbrev cX12_turn : ByteArray := prog_14_method_110_code
def yX12_turn : MethodName := ⟨RX12, "turn", "(I)Z"⟩
theorem dX12_turn_0 : dc cX12_turn 0 (.aload_n 0) 1 1 := ⟨by decide +kernel, rfl⟩
theorem dX12_turn_1 : dc cX12_turn 1 (.iconst 0) 1 2 := ⟨by decide +kernel, rfl⟩
theorem dX12_turn_2 : dc cX12_turn 2 (.putfield 75) 3 5 := ⟨by decide +kernel, rfl⟩
theorem dX12_turn_5 : dc cX12_turn 5 (.aload_n 0) 1 6 := ⟨by decide +kernel, rfl⟩
theorem dX12_turn_6 : dc cX12_turn 6 (.iconst 0) 1 7 := ⟨by decide +kernel, rfl⟩
theorem dX12_turn_7 : dc cX12_turn 7 (.putfield 78) 3 10 := ⟨by decide +kernel, rfl⟩
theorem dX12_turn_10 : dc cX12_turn 10 (.aload_n 0) 1 11 := ⟨by decide +kernel, rfl⟩
theorem dX12_turn_11 : dc cX12_turn 11 (.iload_n 1) 1 12 := ⟨by decide +kernel, rfl⟩
theorem dX12_turn_12 : dc cX12_turn 12 (.invokevirtual 373) 3 15 := ⟨by decide +kernel, rfl⟩
theorem dX12_turn_15 : dc cX12_turn 15 (.ifCond .ne 9) 3 18 := ⟨by decide +kernel, rfl⟩
theorem dX12_turn_18 : dc cX12_turn 18 (.aload_n 0) 1 19 := ⟨by decide +kernel, rfl⟩
theorem dX12_turn_19 : dc cX12_turn 19 (.iconst 2) 1 20 := ⟨by decide +kernel, rfl⟩
theorem dX12_turn_20 : dc cX12_turn 20 (.invokevirtual 90) 3 23 := ⟨by decide +kernel, rfl⟩
theorem dX12_turn_23 : dc cX12_turn 23 (.ireturn) 1 24 := ⟨by decide +kernel, rfl⟩
theorem dX12_turn_24 : dc cX12_turn 24 (.aload_n 0) 1 25 := ⟨by decide +kernel, rfl⟩
theorem dX12_turn_25 : dc cX12_turn 25 (.iload_n 1) 1 26 := ⟨by decide +kernel, rfl⟩
theorem dX12_turn_26 : dc cX12_turn 26 (.invokevirtual 350) 3 29 := ⟨by decide +kernel, rfl⟩
theorem dX12_turn_29 : dc cX12_turn 29 (.ifCond .eq 15) 3 32 := ⟨by decide +kernel, rfl⟩
theorem dX12_turn_32 : dc cX12_turn 32 (.aload_n 0) 1 33 := ⟨by decide +kernel, rfl⟩
theorem dX12_turn_33 : dc cX12_turn 33 (.getfield 35) 3 36 := ⟨by decide +kernel, rfl⟩
theorem dX12_turn_36 : dc cX12_turn 36 (.bipush 82) 2 38 := ⟨by decide +kernel, rfl⟩
theorem dX12_turn_38 : dc cX12_turn 38 (.iload_n 1) 1 39 := ⟨by decide +kernel, rfl⟩
theorem dX12_turn_39 : dc cX12_turn 39 (.iadd) 1 40 := ⟨by decide +kernel, rfl⟩
theorem dX12_turn_40 : dc cX12_turn 40 (.iaload) 1 41 := ⟨by decide +kernel, rfl⟩
theorem dX12_turn_41 : dc cX12_turn 41 (.ifCond .lt 10) 3 44 := ⟨by decide +kernel, rfl⟩
theorem dX12_turn_44 : dc cX12_turn 44 (.aload_n 0) 1 45 := ⟨by decide +kernel, rfl⟩
theorem dX12_turn_45 : dc cX12_turn 45 (.bipush 9) 2 47 := ⟨by decide +kernel, rfl⟩
theorem dX12_turn_47 : dc cX12_turn 47 (.invokevirtual 90) 3 50 := ⟨by decide +kernel, rfl⟩
theorem dX12_turn_50 : dc cX12_turn 50 (.ireturn) 1 51 := ⟨by decide +kernel, rfl⟩
theorem dX12_turn_51 : dc cX12_turn 51 (.iconst 0) 1 52 := ⟨by decide +kernel, rfl⟩
theorem dX12_turn_52 : dc cX12_turn 52 (.istore_n 2) 1 53 := ⟨by decide +kernel, rfl⟩
theorem dX12_turn_53 : dc cX12_turn 53 (.iload_n 2) 1 54 := ⟨by decide +kernel, rfl⟩
theorem dX12_turn_54 : dc cX12_turn 54 (.aload_n 0) 1 55 := ⟨by decide +kernel, rfl⟩
theorem dX12_turn_55 : dc cX12_turn 55 (.getfield 35) 3 58 := ⟨by decide +kernel, rfl⟩
theorem dX12_turn_58 : dc cX12_turn 58 (.iconst 2) 1 59 := ⟨by decide +kernel, rfl⟩
theorem dX12_turn_59 : dc cX12_turn 59 (.iaload) 1 60 := ⟨by decide +kernel, rfl⟩
theorem dX12_turn_60 : dc cX12_turn 60 (.if_icmp .ge 69) 3 63 := ⟨by decide +kernel, rfl⟩
theorem dX12_turn_63 : dc cX12_turn 63 (.aload_n 0) 1 64 := ⟨by decide +kernel, rfl⟩
theorem dX12_turn_64 : dc cX12_turn 64 (.iload_n 2) 1 65 := ⟨by decide +kernel, rfl⟩
theorem dX12_turn_65 : dc cX12_turn 65 (.iload_n 1) 1 66 := ⟨by decide +kernel, rfl⟩
theorem dX12_turn_66 : dc cX12_turn 66 (.invokevirtual 430) 3 69 := ⟨by decide +kernel, rfl⟩
theorem dX12_turn_69 : dc cX12_turn 69 (.ifCond .ne 6) 3 72 := ⟨by decide +kernel, rfl⟩
theorem dX12_turn_72 : dc cX12_turn 72 (.goto 51) 3 75 := ⟨by decide +kernel, rfl⟩
theorem dX12_turn_75 : dc cX12_turn 75 (.aload_n 0) 1 76 := ⟨by decide +kernel, rfl⟩
theorem dX12_turn_76 : dc cX12_turn 76 (.getfield 35) 3 79 := ⟨by decide +kernel, rfl⟩
theorem dX12_turn_79 : dc cX12_turn 79 (.bipush 58) 2 81 := ⟨by decide +kernel, rfl⟩
theorem dX12_turn_81 : dc cX12_turn 81 (.iload_n 2) 1 82 := ⟨by decide +kernel, rfl⟩
theorem dX12_turn_82 : dc cX12_turn 82 (.iadd) 1 83 := ⟨by decide +kernel, rfl⟩
theorem dX12_turn_83 : dc cX12_turn 83 (.aload_n 0) 1 84 := ⟨by decide +kernel, rfl⟩
theorem dX12_turn_84 : dc cX12_turn 84 (.getfield 35) 3 87 := ⟨by decide +kernel, rfl⟩
theorem dX12_turn_87 : dc cX12_turn 87 (.bipush 114) 2 89 := ⟨by decide +kernel, rfl⟩
theorem dX12_turn_89 : dc cX12_turn 89 (.iload_n 2) 1 90 := ⟨by decide +kernel, rfl⟩
theorem dX12_turn_90 : dc cX12_turn 90 (.iadd) 1 91 := ⟨by decide +kernel, rfl⟩
theorem dX12_turn_91 : dc cX12_turn 91 (.iaload) 1 92 := ⟨by decide +kernel, rfl⟩
theorem dX12_turn_92 : dc cX12_turn 92 (.iastore) 1 93 := ⟨by decide +kernel, rfl⟩
theorem dX12_turn_93 : dc cX12_turn 93 (.aload_n 0) 1 94 := ⟨by decide +kernel, rfl⟩
theorem dX12_turn_94 : dc cX12_turn 94 (.getfield 35) 3 97 := ⟨by decide +kernel, rfl⟩
theorem dX12_turn_97 : dc cX12_turn 97 (.bipush 66) 2 99 := ⟨by decide +kernel, rfl⟩
theorem dX12_turn_99 : dc cX12_turn 99 (.iload_n 2) 1 100 := ⟨by decide +kernel, rfl⟩
theorem dX12_turn_100 : dc cX12_turn 100 (.iadd) 1 101 := ⟨by decide +kernel, rfl⟩
theorem dX12_turn_101 : dc cX12_turn 101 (.iconst (-1)) 1 102 := ⟨by decide +kernel, rfl⟩
theorem dX12_turn_102 : dc cX12_turn 102 (.iastore) 1 103 := ⟨by decide +kernel, rfl⟩
theorem dX12_turn_103 : dc cX12_turn 103 (.aload_n 0) 1 104 := ⟨by decide +kernel, rfl⟩
theorem dX12_turn_104 : dc cX12_turn 104 (.getfield 35) 3 107 := ⟨by decide +kernel, rfl⟩
theorem dX12_turn_107 : dc cX12_turn 107 (.bipush 74) 2 109 := ⟨by decide +kernel, rfl⟩
theorem dX12_turn_109 : dc cX12_turn 109 (.iload_n 2) 1 110 := ⟨by decide +kernel, rfl⟩
theorem dX12_turn_110 : dc cX12_turn 110 (.iadd) 1 111 := ⟨by decide +kernel, rfl⟩
theorem dX12_turn_111 : dc cX12_turn 111 (.iconst 0) 1 112 := ⟨by decide +kernel, rfl⟩
theorem dX12_turn_112 : dc cX12_turn 112 (.iastore) 1 113 := ⟨by decide +kernel, rfl⟩
theorem dX12_turn_113 : dc cX12_turn 113 (.aload_n 0) 1 114 := ⟨by decide +kernel, rfl⟩
theorem dX12_turn_114 : dc cX12_turn 114 (.getfield 35) 3 117 := ⟨by decide +kernel, rfl⟩
theorem dX12_turn_117 : dc cX12_turn 117 (.bipush 82) 2 119 := ⟨by decide +kernel, rfl⟩
theorem dX12_turn_119 : dc cX12_turn 119 (.iload_n 2) 1 120 := ⟨by decide +kernel, rfl⟩
theorem dX12_turn_120 : dc cX12_turn 120 (.iadd) 1 121 := ⟨by decide +kernel, rfl⟩
theorem dX12_turn_121 : dc cX12_turn 121 (.iconst (-1)) 1 122 := ⟨by decide +kernel, rfl⟩
theorem dX12_turn_122 : dc cX12_turn 122 (.iastore) 1 123 := ⟨by decide +kernel, rfl⟩
theorem dX12_turn_123 : dc cX12_turn 123 (.iinc 2 1) 3 126 := ⟨by decide +kernel, rfl⟩
theorem dX12_turn_126 : dc cX12_turn 126 (.goto (-73)) 3 129 := ⟨by decide +kernel, rfl⟩
theorem dX12_turn_129 : dc cX12_turn 129 (.iconst 1) 1 130 := ⟨by decide +kernel, rfl⟩
theorem dX12_turn_130 : dc cX12_turn 130 (.ireturn) 1 131 := ⟨by decide +kernel, rfl⟩
theorem nm_X12_turn : (yX12_turn).cls ≠ "java/lang/invoke/MethodHandle" ∧ (yX12_turn).cls ≠ "java/lang/invoke/VarHandle" ∧ (parseMethodDescriptor (yX12_turn).desc).map (fun d => d.parameters.length) = some 1 := ⟨by decide +kernel, by decide +kernel, by decide +kernel⟩
theorem zs_X12_turn_53 {a0 : Nat} {c1 : Int32} {y : (Int32 × KM)} : ∀ (n : Nat) (w2 : Int32) (M : KM), lp_X12_turn_53 n a0 c1 w2 M = some y → (y.1 = 0 ∨ y.1 = 1) := by
  intro n
  induction n with
  | zero =>
    intro w2 M hf
    cases hf
  | succ n ih =>
    intro w2 M hf
    rw [lp_X12_turn_53] at hf
    obtain ⟨g7, hf⟩ := gd_e hf
    by_cases h21 : (M.1 (a0 + 5) ((2 : Int32)).toNatClampNeg) ≤ w2
    · replace hf := (if_pos h21).symm.trans hf
      obtain rfl := Option.some.inj hf
      exact (Or.inr rfl)
    · replace hf := (if_neg h21).symm.trans hf
      obtain ⟨v8, hcv8, hf⟩ := bd_e hf
      obtain ⟨j123, ej123, hf⟩ := lt_j hf
      have hj123 : ∀ (M9 : KM), j123 M9 = some y → (y.1 = 0 ∨ y.1 = 1) := by
        intro M9 hf
        rw [ej123] at hf
        obtain ⟨v10, ev10⟩ : ∃ q : Int32, q = w2 + (1 : Int32) := ⟨_, rfl⟩
        replace hf := lt_e hf ev10
        exact ih v10 M9 hf
      by_cases h20 : v8 = 0
      · replace hf := (if_pos h20).symm.trans hf
        exact hj123 M hf
      · replace hf := (if_neg h20).symm.trans hf
        obtain ⟨g11, hf⟩ := gd_e hf
        obtain ⟨g12, hf⟩ := gd_e hf
        obtain ⟨M13, eM13⟩ : ∃ q : KM, q = (uI M (a0 + 5) (((58 : Int32) + w2)).toNatClampNeg (M.1 (a0 + 5) (((114 : Int32) + w2)).toNatClampNeg)) := ⟨_, rfl⟩
        replace hf := lt_e hf eM13
        obtain ⟨g14, hf⟩ := gd_e hf
        obtain ⟨M15, eM15⟩ : ∃ q : KM, q = (uI M13 (a0 + 5) (((66 : Int32) + w2)).toNatClampNeg (-1 : Int32)) := ⟨_, rfl⟩
        replace hf := lt_e hf eM15
        obtain ⟨g16, hf⟩ := gd_e hf
        obtain ⟨M17, eM17⟩ : ∃ q : KM, q = (uI M15 (a0 + 5) (((74 : Int32) + w2)).toNatClampNeg (0 : Int32)) := ⟨_, rfl⟩
        replace hf := lt_e hf eM17
        obtain ⟨g18, hf⟩ := gd_e hf
        obtain ⟨M19, eM19⟩ : ∃ q : KM, q = (uI M17 (a0 + 5) (((82 : Int32) + w2)).toNatClampNeg (-1 : Int32)) := ⟨_, rfl⟩
        replace hf := lt_e hf eM19
        exact hj123 M19 hf
set_option maxRecDepth 100000 in
theorem z_X12_turn (n : Nat) {a0 : Nat} {p1 : Int32} {M : KM} {y : (Int32 × KM)} (hf : f_X12_turn n a0 p1 M = some y) : (y.1 = 0 ∨ y.1 = 1) := by
  unfold f_X12_turn at hf
  obtain ⟨M1, eM1⟩ : ∃ q : KM, q = (uI M a0 1 (0 : Int32)) := ⟨_, rfl⟩
  replace hf := lt_e hf eM1
  obtain ⟨M2, eM2⟩ : ∃ q : KM, q = (uI M1 a0 0 (0 : Int32)) := ⟨_, rfl⟩
  replace hf := lt_e hf eM2
  obtain ⟨v3, hcv3, hf⟩ := bd_e hf
  by_cases h25 : v3 = 0
  · replace hf := (if_pos h25).symm.trans hf
    obtain ⟨v24, hcv24⟩ : ∃ q, f_X12_no a0 (2 : Int32) M2 = q := ⟨_, rfl⟩
    replace hf := lt_e hf hcv24.symm
    obtain rfl := Option.some.inj hf
    exact (z_X12_no hcv24)
  · replace hf := (if_neg h25).symm.trans hf
    obtain ⟨v4, hcv4, hf⟩ := bd_e hf
    obtain ⟨j44, ej44, hf⟩ := lt_j hf
    have hj44 : j44 = some y → (y.1 = 0 ∨ y.1 = 1) := by
      intro hf
      rw [ej44] at hf
      obtain ⟨v5, hcv5⟩ : ∃ q, f_X12_no a0 (9 : Int32) M2 = q := ⟨_, rfl⟩
      replace hf := lt_e hf hcv5.symm
      obtain rfl := Option.some.inj hf
      exact (z_X12_no hcv5)
    by_cases h23 : v4 = 0
    · replace hf := (if_pos h23).symm.trans hf
      exact hj44 hf
    · replace hf := (if_neg h23).symm.trans hf
      obtain ⟨g6, hf⟩ := gd_e hf
      by_cases h22 : (M2.1 (a0 + 5) (((82 : Int32) + p1)).toNatClampNeg) < 0
      · replace hf := (if_pos h22).symm.trans hf
        refine zs_X12_turn_53 n (0 : Int32) M2 hf
      · replace hf := (if_neg h22).symm.trans hf
        exact hj44 hf
set_option maxRecDepth 100000 in
set_option maxHeartbeats 4000000 in
theorem s_X12_turn_53 {ad : Nat → Nat} {cy : Nat → ClassId} {x : KX} (G : KG ad cy x cX12_turn "NoonGuidesModel" 3 (some (some .boolean)) 3) {a0 : Nat} {c1 : Int32} (h0 : kty a0 = 12) {y : (Int32 × KM)} : ∀ (n : Nat) (w2 : Int32) (M : KM), lp_X12_turn_53 n a0 c1 w2 M = some y → KV ad cy x (some (.int y.1), y.2) 53 [(0, .ref (ad a0)), (1, .int c1), (2, .int w2)] [] M := by
  intro n
  induction n with
  | zero =>
    intro w2 M hf
    cases hf
  | succ n ih =>
    intro w2 M hf
    rw [lp_X12_turn_53] at hf
    refine v_iload_n G dX12_turn_53 2 rfl ?_
    refine v_aload_n G dX12_turn_54 0 rfl ?_
    refine gf_12_20 G h0 t_1511 (Or.inl rfl) dX12_turn_55 ?_
    refine v_iconst (2 : Int32) G dX12_turn_58 (by decide) ?_
    obtain ⟨g7, hf⟩ := gd_e hf
    refine al_36 G (kf_12_5 h0) g7 dX12_turn_59 ?_
    refine v_icmp_ge 129 G dX12_turn_60 (by decide) (fun h21 => ?_) (fun h21 => ?_)
    · replace hf := (if_pos h21).symm.trans hf
      refine v_iconst (1 : Int32) G dX12_turn_129 (by decide) ?_
      obtain rfl := Option.some.inj hf
      exact v_zret G (Or.inr rfl) dX12_turn_130
    · replace hf := (if_neg h21).symm.trans hf
      refine v_aload_n G dX12_turn_63 0 rfl ?_
      refine v_iload_n G dX12_turn_64 2 rfl ?_
      refine v_iload_n G dX12_turn_65 1 rfl ?_
      obtain ⟨v8, hcv8, hf⟩ := bd_e hf
      refine v_callV [.int w2, .int c1] G (c_X12_isWith n h0 hcv8) h0 (by decide) rfl rfl rfl t_2062 t_2064 t_p131 t_17 t_2065 nm_X12_isWith (by decide) (by decide) rfl rfl (Nat.le_of_ble_eq_true rfl) dX12_turn_66 (kv_ri ?_)
      obtain ⟨j123, ej123, hf⟩ := lt_j hf
      have hj123 : ∀ (M9 : KM), j123 M9 = some y → KV ad cy x (some (.int y.1), y.2) 123 [(0, .ref (ad a0)), (1, .int c1), (2, .int w2)] [] M9 := by
        intro M9 hf
        rw [ej123] at hf
        obtain ⟨v10, ev10⟩ : ∃ q : Int32, q = w2 + (1 : Int32) := ⟨_, rfl⟩
        replace hf := lt_e hf ev10
        refine v_iinc v10 [(2, .int v10), (0, .ref (ad a0)), (1, .int c1)] G dX12_turn_123 2 rfl (by rw [ev10]; rfl) (by decide) rfl ?_
        refine v_goto 53 G dX12_turn_126 (by decide) ?_
        refine v_sub _ [1, 2, 0] rfl ?_
        exact ih v10 M9 hf
      refine v_if_ne 75 G dX12_turn_69 (by decide) (fun h20 => ?_) (fun h20 => ?_)
      · replace hf := (if_neg h20).symm.trans hf
        refine v_aload_n G dX12_turn_75 0 rfl ?_
        refine gf_12_20 G h0 t_1511 (Or.inl rfl) dX12_turn_76 ?_
        refine v_bipush (58 : Int32) G dX12_turn_79 (by decide) ?_
        refine v_iload_n G dX12_turn_81 2 rfl ?_
        refine v_iadd G dX12_turn_82 ?_
        refine v_aload_n G dX12_turn_83 0 rfl ?_
        refine gf_12_20 G h0 t_1511 (Or.inl rfl) dX12_turn_84 ?_
        refine v_bipush (114 : Int32) G dX12_turn_87 (by decide) ?_
        refine v_iload_n G dX12_turn_89 2 rfl ?_
        refine v_iadd G dX12_turn_90 ?_
        obtain ⟨g11, hf⟩ := gd_e hf
        refine al_36 G (kf_12_5 h0) g11 dX12_turn_91 ?_
        obtain ⟨g12, hf⟩ := gd_e hf
        refine as_36 G (kf_12_5 h0) g12 dX12_turn_92 ?_
        refine v_nmM (fun M13 eM13 => ?_)
        replace hf := lt_e hf eM13
        refine v_aload_n G dX12_turn_93 0 rfl ?_
        refine gf_12_20 G h0 t_1511 (Or.inl rfl) dX12_turn_94 ?_
        refine v_bipush (66 : Int32) G dX12_turn_97 (by decide) ?_
        refine v_iload_n G dX12_turn_99 2 rfl ?_
        refine v_iadd G dX12_turn_100 ?_
        refine v_iconst (-1 : Int32) G dX12_turn_101 (by decide) ?_
        obtain ⟨g14, hf⟩ := gd_e hf
        refine as_36 G (kf_12_5 h0) g14 dX12_turn_102 ?_
        refine v_nmM (fun M15 eM15 => ?_)
        replace hf := lt_e hf eM15
        refine v_aload_n G dX12_turn_103 0 rfl ?_
        refine gf_12_20 G h0 t_1511 (Or.inl rfl) dX12_turn_104 ?_
        refine v_bipush (74 : Int32) G dX12_turn_107 (by decide) ?_
        refine v_iload_n G dX12_turn_109 2 rfl ?_
        refine v_iadd G dX12_turn_110 ?_
        refine v_iconst (0 : Int32) G dX12_turn_111 (by decide) ?_
        obtain ⟨g16, hf⟩ := gd_e hf
        refine as_36 G (kf_12_5 h0) g16 dX12_turn_112 ?_
        refine v_nmM (fun M17 eM17 => ?_)
        replace hf := lt_e hf eM17
        refine v_aload_n G dX12_turn_113 0 rfl ?_
        refine gf_12_20 G h0 t_1511 (Or.inl rfl) dX12_turn_114 ?_
        refine v_bipush (82 : Int32) G dX12_turn_117 (by decide) ?_
        refine v_iload_n G dX12_turn_119 2 rfl ?_
        refine v_iadd G dX12_turn_120 ?_
        refine v_iconst (-1 : Int32) G dX12_turn_121 (by decide) ?_
        obtain ⟨g18, hf⟩ := gd_e hf
        refine as_36 G (kf_12_5 h0) g18 dX12_turn_122 ?_
        refine v_nmM (fun M19 eM19 => ?_)
        replace hf := lt_e hf eM19
        refine v_sub _ [0, 1, 2] rfl ?_
        exact hj123 M19 hf
      · replace hf := (if_pos h20).symm.trans hf
        refine v_goto 123 G dX12_turn_72 (by decide) ?_
        refine v_sub _ [0, 1, 2] rfl ?_
        exact hj123 M hf
set_option maxRecDepth 100000 in
set_option maxHeartbeats 4000000 in
theorem c_X12_turn {l : Launch} {ad : Nat → Nat} {cy : Nat → ClassId} {D : va_G} {z : Nat} (n : Nat) {a0 : Nat} {p1 : Int32} {M : KM} {y : (Int32 × KM)} (h0 : kty a0 = 12) (hf : f_X12_turn n a0 p1 M = some y) : KC l ad cy D z yX12_turn cX12_turn 3 (some .boolean) 3 [.ref (ad a0), .int p1] M (some (.int y.1), y.2) := by
  refine kv_enter (by decide +kernel) (Nat.le_of_ble_eq_true rfl) ?_
  intro x hl hD hz G
  subst hl hD hz
  unfold f_X12_turn at hf
  have G : KG ad cy x cX12_turn "NoonGuidesModel" 3 (some (some .boolean)) 3 := G
  show KV ad cy x (some (.int y.1), y.2) 0 [(0, .ref (ad a0)), (1, .int p1)] [] M
  refine v_aload_n G dX12_turn_0 0 rfl ?_
  refine v_iconst (0 : Int32) G dX12_turn_1 (by decide) ?_
  refine pf_12_1 G h0 t_1492 (Or.inl rfl) dX12_turn_2 ?_
  refine v_nmM (fun M1 eM1 => ?_)
  replace hf := lt_e hf eM1
  refine v_aload_n G dX12_turn_5 0 rfl ?_
  refine v_iconst (0 : Int32) G dX12_turn_6 (by decide) ?_
  refine pf_12_0 G h0 t_1491 (Or.inl rfl) dX12_turn_7 ?_
  refine v_nmM (fun M2 eM2 => ?_)
  replace hf := lt_e hf eM2
  refine v_aload_n G dX12_turn_10 0 rfl ?_
  refine v_iload_n G dX12_turn_11 1 rfl ?_
  obtain ⟨v3, hcv3, hf⟩ := bd_e hf
  refine v_callV [.int p1] G (c_X12_isPerson n h0 hcv3) h0 (by decide) rfl rfl rfl t_1971 t_1973 t_p118 t_17 t_1974 nm_X12_isPerson (by decide) (by decide) rfl rfl (Nat.le_of_ble_eq_true rfl) dX12_turn_12 (kv_ri ?_)
  refine v_if_ne 24 G dX12_turn_15 (by decide) (fun h25 => ?_) (fun h25 => ?_)
  · replace hf := (if_neg h25).symm.trans hf
    refine v_aload_n G dX12_turn_24 0 rfl ?_
    refine v_iload_n G dX12_turn_25 1 rfl ?_
    obtain ⟨v4, hcv4, hf⟩ := bd_e hf
    refine v_callV [.int p1] G (c_X12_isGoing n h0 hcv4) h0 (by decide) rfl rfl rfl t_1942 t_1944 t_p114 t_17 t_1945 nm_X12_isGoing (by decide) (by decide) rfl rfl (Nat.le_of_ble_eq_true rfl) dX12_turn_26 (kv_ri ?_)
    obtain ⟨j44, ej44, hf⟩ := lt_j hf
    have hj44 : j44 = some y → KV ad cy x (some (.int y.1), y.2) 44 [(0, .ref (ad a0))] [] M2 := by
      intro hf
      rw [ej44] at hf
      refine v_aload_n G dX12_turn_44 0 rfl ?_
      refine v_bipush (9 : Int32) G dX12_turn_45 (by decide) ?_
      obtain ⟨v5, hcv5⟩ : ∃ q, f_X12_no a0 (9 : Int32) M2 = q := ⟨_, rfl⟩
      replace hf := lt_e hf hcv5.symm
      refine v_callV [.int (9 : Int32)] G (c_X12_no h0 hcv5) h0 (by decide) rfl rfl rfl t_1649 t_1651 t_p55 t_17 t_1652 nm_X12_no (by decide) (by decide) rfl rfl (Nat.le_of_ble_eq_true rfl) dX12_turn_47 (kv_ri ?_)
      obtain rfl := Option.some.inj hf
      exact v_zret G (z_X12_no hcv5) dX12_turn_50
    refine v_if_eq 44 G dX12_turn_29 (by decide) (fun h23 => ?_) (fun h23 => ?_)
    · replace hf := (if_pos h23).symm.trans hf
      refine v_sub _ [0] rfl ?_
      exact hj44 hf
    · replace hf := (if_neg h23).symm.trans hf
      refine v_aload_n G dX12_turn_32 0 rfl ?_
      refine gf_12_20 G h0 t_1511 (Or.inl rfl) dX12_turn_33 ?_
      refine v_bipush (82 : Int32) G dX12_turn_36 (by decide) ?_
      refine v_iload_n G dX12_turn_38 1 rfl ?_
      refine v_iadd G dX12_turn_39 ?_
      obtain ⟨g6, hf⟩ := gd_e hf
      refine al_36 G (kf_12_5 h0) g6 dX12_turn_40 ?_
      refine v_if_lt 51 G dX12_turn_41 (by decide) (fun h22 => ?_) (fun h22 => ?_)
      · replace hf := (if_pos h22).symm.trans hf
        refine v_iconst (0 : Int32) G dX12_turn_51 (by decide) ?_
        refine v_istore_n [(2, .int (0 : Int32)), (0, .ref (ad a0)), (1, .int p1)] G dX12_turn_52 (by decide) rfl ?_
        refine v_sub _ [1, 2, 0] rfl ?_
        refine s_X12_turn_53 G h0 n (0 : Int32) M2 hf
      · replace hf := (if_neg h22).symm.trans hf
        refine v_sub _ [0] rfl ?_
        exact hj44 hf
  · replace hf := (if_pos h25).symm.trans hf
    refine v_aload_n G dX12_turn_18 0 rfl ?_
    refine v_iconst (2 : Int32) G dX12_turn_19 (by decide) ?_
    obtain ⟨v24, hcv24⟩ : ∃ q, f_X12_no a0 (2 : Int32) M2 = q := ⟨_, rfl⟩
    replace hf := lt_e hf hcv24.symm
    refine v_callV [.int (2 : Int32)] G (c_X12_no h0 hcv24) h0 (by decide) rfl rfl rfl t_1649 t_1651 t_p55 t_17 t_1652 nm_X12_no (by decide) (by decide) rfl rfl (Nat.le_of_ble_eq_true rfl) dX12_turn_20 (kv_ri ?_)
    obtain rfl := Option.some.inj hf
    exact v_zret G (z_X12_no hcv24) dX12_turn_23
abbrev cX12_becomes : ByteArray := prog_14_method_111_code
def yX12_becomes : MethodName := ⟨RX12, "becomes", "(Z)Z"⟩
theorem dX12_becomes_0 : dc cX12_becomes 0 (.aload_n 0) 1 1 := ⟨by decide +kernel, rfl⟩
theorem dX12_becomes_1 : dc cX12_becomes 1 (.getfield 35) 3 4 := ⟨by decide +kernel, rfl⟩
theorem dX12_becomes_4 : dc cX12_becomes 4 (.bipush 9) 2 6 := ⟨by decide +kernel, rfl⟩
theorem dX12_becomes_6 : dc cX12_becomes 6 (.iaload) 1 7 := ⟨by decide +kernel, rfl⟩
theorem dX12_becomes_7 : dc cX12_becomes 7 (.iconst 1) 1 8 := ⟨by decide +kernel, rfl⟩
theorem dX12_becomes_8 : dc cX12_becomes 8 (.if_icmp .ne 7) 3 11 := ⟨by decide +kernel, rfl⟩
theorem dX12_becomes_11 : dc cX12_becomes 11 (.iconst 1) 1 12 := ⟨by decide +kernel, rfl⟩
theorem dX12_becomes_12 : dc cX12_becomes 12 (.goto 4) 3 15 := ⟨by decide +kernel, rfl⟩
theorem dX12_becomes_15 : dc cX12_becomes 15 (.iconst 0) 1 16 := ⟨by decide +kernel, rfl⟩
theorem dX12_becomes_16 : dc cX12_becomes 16 (.iload_n 1) 1 17 := ⟨by decide +kernel, rfl⟩
theorem dX12_becomes_17 : dc cX12_becomes 17 (.if_icmp .ne 5) 3 20 := ⟨by decide +kernel, rfl⟩
theorem dX12_becomes_20 : dc cX12_becomes 20 (.iconst 0) 1 21 := ⟨by decide +kernel, rfl⟩
theorem dX12_becomes_21 : dc cX12_becomes 21 (.ireturn) 1 22 := ⟨by decide +kernel, rfl⟩
theorem dX12_becomes_22 : dc cX12_becomes 22 (.aload_n 0) 1 23 := ⟨by decide +kernel, rfl⟩
theorem dX12_becomes_23 : dc cX12_becomes 23 (.getfield 35) 3 26 := ⟨by decide +kernel, rfl⟩
theorem dX12_becomes_26 : dc cX12_becomes 26 (.bipush 9) 2 28 := ⟨by decide +kernel, rfl⟩
theorem dX12_becomes_28 : dc cX12_becomes 28 (.iload_n 1) 1 29 := ⟨by decide +kernel, rfl⟩
theorem dX12_becomes_29 : dc cX12_becomes 29 (.ifCond .eq 7) 3 32 := ⟨by decide +kernel, rfl⟩
theorem dX12_becomes_32 : dc cX12_becomes 32 (.iconst 1) 1 33 := ⟨by decide +kernel, rfl⟩
theorem dX12_becomes_33 : dc cX12_becomes 33 (.goto 4) 3 36 := ⟨by decide +kernel, rfl⟩
theorem dX12_becomes_36 : dc cX12_becomes 36 (.iconst 0) 1 37 := ⟨by decide +kernel, rfl⟩
theorem dX12_becomes_37 : dc cX12_becomes 37 (.iastore) 1 38 := ⟨by decide +kernel, rfl⟩
theorem dX12_becomes_38 : dc cX12_becomes 38 (.iconst 1) 1 39 := ⟨by decide +kernel, rfl⟩
theorem dX12_becomes_39 : dc cX12_becomes 39 (.ireturn) 1 40 := ⟨by decide +kernel, rfl⟩
theorem nm_X12_becomes : (yX12_becomes).cls ≠ "java/lang/invoke/MethodHandle" ∧ (yX12_becomes).cls ≠ "java/lang/invoke/VarHandle" ∧ (parseMethodDescriptor (yX12_becomes).desc).map (fun d => d.parameters.length) = some 1 := ⟨by decide +kernel, by decide +kernel, by decide +kernel⟩
set_option maxRecDepth 100000 in
theorem z_X12_becomes (n : Nat) {a0 : Nat} {p1 : Int32} {M : KM} {y : (Int32 × KM)} (hf : f_X12_becomes n a0 p1 M = some y) : (y.1 = 0 ∨ y.1 = 1) := by
  unfold f_X12_becomes at hf
  obtain ⟨g1, hf⟩ := gd_e hf
  obtain ⟨j16, ej16, hf⟩ := lt_j hf
  have hj16 : ∀ (x2 : Int32), j16 x2 = some y → (y.1 = 0 ∨ y.1 = 1) := by
    intro x2 hf
    rw [ej16] at hf
    by_cases h8 : x2 = p1
    · replace hf := (if_pos h8).symm.trans hf
      obtain rfl := Option.some.inj hf
      exact (Or.inl rfl)
    · replace hf := (if_neg h8).symm.trans hf
      by_cases h7 : p1 = 0
      · replace hf := (if_pos h7).symm.trans hf
        obtain ⟨g3, hf⟩ := gd_e hf
        obtain ⟨M4, eM4⟩ : ∃ q : KM, q = (uI M (a0 + 5) ((9 : Int32)).toNatClampNeg (0 : Int32)) := ⟨_, rfl⟩
        replace hf := lt_e hf eM4
        obtain rfl := Option.some.inj hf
        exact (Or.inr rfl)
      · replace hf := (if_neg h7).symm.trans hf
        obtain ⟨g5, hf⟩ := gd_e hf
        obtain ⟨M6, eM6⟩ : ∃ q : KM, q = (uI M (a0 + 5) ((9 : Int32)).toNatClampNeg (1 : Int32)) := ⟨_, rfl⟩
        replace hf := lt_e hf eM6
        obtain rfl := Option.some.inj hf
        exact (Or.inr rfl)
  by_cases h9 : (M.1 (a0 + 5) ((9 : Int32)).toNatClampNeg) = (1 : Int32)
  · replace hf := (if_pos h9).symm.trans hf
    exact hj16 (1 : Int32) hf
  · replace hf := (if_neg h9).symm.trans hf
    exact hj16 (0 : Int32) hf
set_option maxRecDepth 100000 in
set_option maxHeartbeats 4000000 in
theorem c_X12_becomes {l : Launch} {ad : Nat → Nat} {cy : Nat → ClassId} {D : va_G} {z : Nat} (n : Nat) {a0 : Nat} {p1 : Int32} {M : KM} {y : (Int32 × KM)} (h0 : kty a0 = 12) (hf : f_X12_becomes n a0 p1 M = some y) : KC l ad cy D z yX12_becomes cX12_becomes 2 (some .boolean) 1 [.ref (ad a0), .int p1] M (some (.int y.1), y.2) := by
  refine kv_enter (by decide +kernel) (Nat.le_of_ble_eq_true rfl) ?_
  intro x hl hD hz G
  subst hl hD hz
  unfold f_X12_becomes at hf
  have G : KG ad cy x cX12_becomes "NoonGuidesModel" 2 (some (some .boolean)) 1 := G
  show KV ad cy x (some (.int y.1), y.2) 0 [(0, .ref (ad a0)), (1, .int p1)] [] M
  refine v_aload_n G dX12_becomes_0 0 rfl ?_
  refine gf_12_20 G h0 t_1511 (Or.inl rfl) dX12_becomes_1 ?_
  refine v_bipush (9 : Int32) G dX12_becomes_4 (by decide) ?_
  obtain ⟨g1, hf⟩ := gd_e hf
  refine al_36 G (kf_12_5 h0) g1 dX12_becomes_6 ?_
  refine v_iconst (1 : Int32) G dX12_becomes_7 (by decide) ?_
  obtain ⟨j16, ej16, hf⟩ := lt_j hf
  have hj16 : ∀ (x2 : Int32), j16 x2 = some y → KV ad cy x (some (.int y.1), y.2) 16 [(0, .ref (ad a0)), (1, .int p1)] [.int x2] M := by
    intro x2 hf
    rw [ej16] at hf
    refine v_iload_n G dX12_becomes_16 1 rfl ?_
    refine v_icmp_ne 22 G dX12_becomes_17 (by decide) (fun h8 => ?_) (fun h8 => ?_)
    · replace hf := (if_neg h8).symm.trans hf
      refine v_aload_n G dX12_becomes_22 0 rfl ?_
      refine gf_12_20 G h0 t_1511 (Or.inl rfl) dX12_becomes_23 ?_
      refine v_bipush (9 : Int32) G dX12_becomes_26 (by decide) ?_
      refine v_iload_n G dX12_becomes_28 1 rfl ?_
      refine v_if_eq 36 G dX12_becomes_29 (by decide) (fun h7 => ?_) (fun h7 => ?_)
      · replace hf := (if_pos h7).symm.trans hf
        refine v_iconst (0 : Int32) G dX12_becomes_36 (by decide) ?_
        obtain ⟨g3, hf⟩ := gd_e hf
        refine as_36 G (kf_12_5 h0) g3 dX12_becomes_37 ?_
        refine v_nmM (fun M4 eM4 => ?_)
        replace hf := lt_e hf eM4
        refine v_iconst (1 : Int32) G dX12_becomes_38 (by decide) ?_
        obtain rfl := Option.some.inj hf
        exact v_zret G (Or.inr rfl) dX12_becomes_39
      · replace hf := (if_neg h7).symm.trans hf
        refine v_iconst (1 : Int32) G dX12_becomes_32 (by decide) ?_
        refine v_goto 37 G dX12_becomes_33 (by decide) ?_
        obtain ⟨g5, hf⟩ := gd_e hf
        refine as_36 G (kf_12_5 h0) g5 dX12_becomes_37 ?_
        refine v_nmM (fun M6 eM6 => ?_)
        replace hf := lt_e hf eM6
        refine v_iconst (1 : Int32) G dX12_becomes_38 (by decide) ?_
        obtain rfl := Option.some.inj hf
        exact v_zret G (Or.inr rfl) dX12_becomes_39
    · replace hf := (if_pos h8).symm.trans hf
      refine v_iconst (0 : Int32) G dX12_becomes_20 (by decide) ?_
      obtain rfl := Option.some.inj hf
      exact v_zret G (Or.inl rfl) dX12_becomes_21
  refine v_icmp_ne 15 G dX12_becomes_8 (by decide) (fun h9 => ?_) (fun h9 => ?_)
  · replace hf := (if_neg h9).symm.trans hf
    refine v_iconst (0 : Int32) G dX12_becomes_15 (by decide) ?_
    refine v_sub _ [0, 1] rfl ?_
    exact hj16 (0 : Int32) hf
  · replace hf := (if_pos h9).symm.trans hf
    refine v_iconst (1 : Int32) G dX12_becomes_11 (by decide) ?_
    refine v_goto 16 G dX12_becomes_12 (by decide) ?_
    refine v_sub _ [0, 1] rfl ?_
    exact hj16 (1 : Int32) hf
abbrev cX12_cloud : ByteArray := prog_14_method_112_code
def yX12_cloud : MethodName := ⟨RX12, "cloud", "(Z)Z"⟩
theorem dX12_cloud_0 : dc cX12_cloud 0 (.aload_n 0) 1 1 := ⟨by decide +kernel, rfl⟩
theorem dX12_cloud_1 : dc cX12_cloud 1 (.iconst 0) 1 2 := ⟨by decide +kernel, rfl⟩
theorem dX12_cloud_2 : dc cX12_cloud 2 (.putfield 75) 3 5 := ⟨by decide +kernel, rfl⟩
theorem dX12_cloud_5 : dc cX12_cloud 5 (.aload_n 0) 1 6 := ⟨by decide +kernel, rfl⟩
theorem dX12_cloud_6 : dc cX12_cloud 6 (.iconst 0) 1 7 := ⟨by decide +kernel, rfl⟩
theorem dX12_cloud_7 : dc cX12_cloud 7 (.putfield 78) 3 10 := ⟨by decide +kernel, rfl⟩
theorem dX12_cloud_10 : dc cX12_cloud 10 (.aload_n 0) 1 11 := ⟨by decide +kernel, rfl⟩
theorem dX12_cloud_11 : dc cX12_cloud 11 (.iload_n 1) 1 12 := ⟨by decide +kernel, rfl⟩
theorem dX12_cloud_12 : dc cX12_cloud 12 (.invokevirtual 433) 3 15 := ⟨by decide +kernel, rfl⟩
theorem dX12_cloud_15 : dc cX12_cloud 15 (.ifCond .ne 12) 3 18 := ⟨by decide +kernel, rfl⟩
theorem dX12_cloud_18 : dc cX12_cloud 18 (.aload_n 0) 1 19 := ⟨by decide +kernel, rfl⟩
theorem dX12_cloud_19 : dc cX12_cloud 19 (.bipush 9) 2 21 := ⟨by decide +kernel, rfl⟩
theorem dX12_cloud_21 : dc cX12_cloud 21 (.invokevirtual 90) 3 24 := ⟨by decide +kernel, rfl⟩
theorem dX12_cloud_24 : dc cX12_cloud 24 (.ifCond .eq 7) 3 27 := ⟨by decide +kernel, rfl⟩
theorem dX12_cloud_27 : dc cX12_cloud 27 (.iconst 1) 1 28 := ⟨by decide +kernel, rfl⟩
theorem dX12_cloud_28 : dc cX12_cloud 28 (.goto 4) 3 31 := ⟨by decide +kernel, rfl⟩
theorem dX12_cloud_31 : dc cX12_cloud 31 (.iconst 0) 1 32 := ⟨by decide +kernel, rfl⟩
theorem dX12_cloud_32 : dc cX12_cloud 32 (.ireturn) 1 33 := ⟨by decide +kernel, rfl⟩
theorem nm_X12_cloud : (yX12_cloud).cls ≠ "java/lang/invoke/MethodHandle" ∧ (yX12_cloud).cls ≠ "java/lang/invoke/VarHandle" ∧ (parseMethodDescriptor (yX12_cloud).desc).map (fun d => d.parameters.length) = some 1 := ⟨by decide +kernel, by decide +kernel, by decide +kernel⟩
set_option maxRecDepth 100000 in
theorem z_X12_cloud (n : Nat) {a0 : Nat} {p1 : Int32} {M : KM} {y : (Int32 × KM)} (hf : f_X12_cloud n a0 p1 M = some y) : (y.1 = 0 ∨ y.1 = 1) := by
  unfold f_X12_cloud at hf
  obtain ⟨M1, eM1⟩ : ∃ q : KM, q = (uI M a0 1 (0 : Int32)) := ⟨_, rfl⟩
  replace hf := lt_e hf eM1
  obtain ⟨M2, eM2⟩ : ∃ q : KM, q = (uI M1 a0 0 (0 : Int32)) := ⟨_, rfl⟩
  replace hf := lt_e hf eM2
  obtain ⟨v3, hcv3, hf⟩ := bd_e hf
  obtain ⟨j27, ej27, hf⟩ := lt_j hf
  have hj27 : ∀ (M4 : KM), j27 M4 = some y → (y.1 = 0 ∨ y.1 = 1) := by
    intro M4 hf
    rw [ej27] at hf
    obtain rfl := Option.some.inj hf
    exact (Or.inr rfl)
  by_cases h7 : v3.1 = 0
  · replace hf := (if_pos h7).symm.trans hf
    obtain ⟨v5, hcv5⟩ : ∃ q, f_X12_no a0 (9 : Int32) v3.2 = q := ⟨_, rfl⟩
    replace hf := lt_e hf hcv5.symm
    by_cases h6 : v5.1 = 0
    · replace hf := (if_pos h6).symm.trans hf
      obtain rfl := Option.some.inj hf
      exact (Or.inl rfl)
    · replace hf := (if_neg h6).symm.trans hf
      exact hj27 v5.2 hf
  · replace hf := (if_neg h7).symm.trans hf
    exact hj27 v3.2 hf
set_option maxRecDepth 100000 in
set_option maxHeartbeats 4000000 in
theorem c_X12_cloud {l : Launch} {ad : Nat → Nat} {cy : Nat → ClassId} {D : va_G} {z : Nat} (n : Nat) {a0 : Nat} {p1 : Int32} {M : KM} {y : (Int32 × KM)} (h0 : kty a0 = 12) (hf : f_X12_cloud n a0 p1 M = some y) : KC l ad cy D z yX12_cloud cX12_cloud 2 (some .boolean) 2 [.ref (ad a0), .int p1] M (some (.int y.1), y.2) := by
  refine kv_enter (by decide +kernel) (Nat.le_of_ble_eq_true rfl) ?_
  intro x hl hD hz G
  subst hl hD hz
  unfold f_X12_cloud at hf
  have G : KG ad cy x cX12_cloud "NoonGuidesModel" 2 (some (some .boolean)) 2 := G
  show KV ad cy x (some (.int y.1), y.2) 0 [(0, .ref (ad a0)), (1, .int p1)] [] M
  refine v_aload_n G dX12_cloud_0 0 rfl ?_
  refine v_iconst (0 : Int32) G dX12_cloud_1 (by decide) ?_
  refine pf_12_1 G h0 t_1492 (Or.inl rfl) dX12_cloud_2 ?_
  refine v_nmM (fun M1 eM1 => ?_)
  replace hf := lt_e hf eM1
  refine v_aload_n G dX12_cloud_5 0 rfl ?_
  refine v_iconst (0 : Int32) G dX12_cloud_6 (by decide) ?_
  refine pf_12_0 G h0 t_1491 (Or.inl rfl) dX12_cloud_7 ?_
  refine v_nmM (fun M2 eM2 => ?_)
  replace hf := lt_e hf eM2
  refine v_aload_n G dX12_cloud_10 0 rfl ?_
  refine v_iload_n G dX12_cloud_11 1 rfl ?_
  obtain ⟨v3, hcv3, hf⟩ := bd_e hf
  refine v_callV [.int p1] G (c_X12_becomes n h0 hcv3) h0 (by decide) rfl rfl rfl t_2070 t_2072 t_p132 t_17 t_2073 nm_X12_becomes (by decide) (by decide) rfl rfl (Nat.le_of_ble_eq_true rfl) dX12_cloud_12 (kv_ri ?_)
  obtain ⟨j27, ej27, hf⟩ := lt_j hf
  have hj27 : ∀ (M4 : KM), j27 M4 = some y → KV ad cy x (some (.int y.1), y.2) 27 [] [] M4 := by
    intro M4 hf
    rw [ej27] at hf
    refine v_iconst (1 : Int32) G dX12_cloud_27 (by decide) ?_
    refine v_goto 32 G dX12_cloud_28 (by decide) ?_
    obtain rfl := Option.some.inj hf
    exact v_zret G (Or.inr rfl) dX12_cloud_32
  refine v_if_ne 27 G dX12_cloud_15 (by decide) (fun h7 => ?_) (fun h7 => ?_)
  · replace hf := (if_neg h7).symm.trans hf
    refine v_sub _ [] rfl ?_
    exact hj27 v3.2 hf
  · replace hf := (if_pos h7).symm.trans hf
    refine v_aload_n G dX12_cloud_18 0 rfl ?_
    refine v_bipush (9 : Int32) G dX12_cloud_19 (by decide) ?_
    obtain ⟨v5, hcv5⟩ : ∃ q, f_X12_no a0 (9 : Int32) v3.2 = q := ⟨_, rfl⟩
    replace hf := lt_e hf hcv5.symm
    refine v_callV [.int (9 : Int32)] G (c_X12_no h0 hcv5) h0 (by decide) rfl rfl rfl t_1649 t_1651 t_p55 t_17 t_1652 nm_X12_no (by decide) (by decide) rfl rfl (Nat.le_of_ble_eq_true rfl) dX12_cloud_21 (kv_ri ?_)
    refine v_if_eq 31 G dX12_cloud_24 (by decide) (fun h6 => ?_) (fun h6 => ?_)
    · replace hf := (if_pos h6).symm.trans hf
      refine v_iconst (0 : Int32) G dX12_cloud_31 (by decide) ?_
      obtain rfl := Option.some.inj hf
      exact v_zret G (Or.inl rfl) dX12_cloud_32
    · replace hf := (if_neg h6).symm.trans hf
      refine v_sub _ [] rfl ?_
      exact hj27 v5.2 hf
abbrev cX12_plant : ByteArray := prog_14_method_113_code
def yX12_plant : MethodName := ⟨RX12, "plant", "(IZ)Z"⟩
theorem dX12_plant_0 : dc cX12_plant 0 (.aload_n 0) 1 1 := ⟨by decide +kernel, rfl⟩
theorem dX12_plant_1 : dc cX12_plant 1 (.iconst 0) 1 2 := ⟨by decide +kernel, rfl⟩
theorem dX12_plant_2 : dc cX12_plant 2 (.putfield 75) 3 5 := ⟨by decide +kernel, rfl⟩
theorem dX12_plant_5 : dc cX12_plant 5 (.aload_n 0) 1 6 := ⟨by decide +kernel, rfl⟩
theorem dX12_plant_6 : dc cX12_plant 6 (.iconst 0) 1 7 := ⟨by decide +kernel, rfl⟩
theorem dX12_plant_7 : dc cX12_plant 7 (.putfield 78) 3 10 := ⟨by decide +kernel, rfl⟩
theorem dX12_plant_10 : dc cX12_plant 10 (.aload_n 0) 1 11 := ⟨by decide +kernel, rfl⟩
theorem dX12_plant_11 : dc cX12_plant 11 (.iload_n 1) 1 12 := ⟨by decide +kernel, rfl⟩
theorem dX12_plant_12 : dc cX12_plant 12 (.invokevirtual 364) 3 15 := ⟨by decide +kernel, rfl⟩
theorem dX12_plant_15 : dc cX12_plant 15 (.ifCond .ne 9) 3 18 := ⟨by decide +kernel, rfl⟩
theorem dX12_plant_18 : dc cX12_plant 18 (.aload_n 0) 1 19 := ⟨by decide +kernel, rfl⟩
theorem dX12_plant_19 : dc cX12_plant 19 (.iconst 2) 1 20 := ⟨by decide +kernel, rfl⟩
theorem dX12_plant_20 : dc cX12_plant 20 (.invokevirtual 90) 3 23 := ⟨by decide +kernel, rfl⟩
theorem dX12_plant_23 : dc cX12_plant 23 (.ireturn) 1 24 := ⟨by decide +kernel, rfl⟩
theorem dX12_plant_24 : dc cX12_plant 24 (.aload_n 0) 1 25 := ⟨by decide +kernel, rfl⟩
theorem dX12_plant_25 : dc cX12_plant 25 (.getfield 35) 3 28 := ⟨by decide +kernel, rfl⟩
theorem dX12_plant_28 : dc cX12_plant 28 (.bipush 46) 2 30 := ⟨by decide +kernel, rfl⟩
theorem dX12_plant_30 : dc cX12_plant 30 (.iload_n 1) 1 31 := ⟨by decide +kernel, rfl⟩
theorem dX12_plant_31 : dc cX12_plant 31 (.iadd) 1 32 := ⟨by decide +kernel, rfl⟩
theorem dX12_plant_32 : dc cX12_plant 32 (.iaload) 1 33 := ⟨by decide +kernel, rfl⟩
theorem dX12_plant_33 : dc cX12_plant 33 (.iconst 1) 1 34 := ⟨by decide +kernel, rfl⟩
theorem dX12_plant_34 : dc cX12_plant 34 (.if_icmp .ne 7) 3 37 := ⟨by decide +kernel, rfl⟩
theorem dX12_plant_37 : dc cX12_plant 37 (.iconst 1) 1 38 := ⟨by decide +kernel, rfl⟩
theorem dX12_plant_38 : dc cX12_plant 38 (.goto 4) 3 41 := ⟨by decide +kernel, rfl⟩
theorem dX12_plant_41 : dc cX12_plant 41 (.iconst 0) 1 42 := ⟨by decide +kernel, rfl⟩
theorem dX12_plant_42 : dc cX12_plant 42 (.iload_n 2) 1 43 := ⟨by decide +kernel, rfl⟩
theorem dX12_plant_43 : dc cX12_plant 43 (.if_icmp .ne 10) 3 46 := ⟨by decide +kernel, rfl⟩
theorem dX12_plant_46 : dc cX12_plant 46 (.aload_n 0) 1 47 := ⟨by decide +kernel, rfl⟩
theorem dX12_plant_47 : dc cX12_plant 47 (.bipush 9) 2 49 := ⟨by decide +kernel, rfl⟩
theorem dX12_plant_49 : dc cX12_plant 49 (.invokevirtual 90) 3 52 := ⟨by decide +kernel, rfl⟩
theorem dX12_plant_52 : dc cX12_plant 52 (.ireturn) 1 53 := ⟨by decide +kernel, rfl⟩
theorem dX12_plant_53 : dc cX12_plant 53 (.aload_n 0) 1 54 := ⟨by decide +kernel, rfl⟩
theorem dX12_plant_54 : dc cX12_plant 54 (.getfield 35) 3 57 := ⟨by decide +kernel, rfl⟩
theorem dX12_plant_57 : dc cX12_plant 57 (.bipush 46) 2 59 := ⟨by decide +kernel, rfl⟩
theorem dX12_plant_59 : dc cX12_plant 59 (.iload_n 1) 1 60 := ⟨by decide +kernel, rfl⟩
theorem dX12_plant_60 : dc cX12_plant 60 (.iadd) 1 61 := ⟨by decide +kernel, rfl⟩
theorem dX12_plant_61 : dc cX12_plant 61 (.iload_n 2) 1 62 := ⟨by decide +kernel, rfl⟩
theorem dX12_plant_62 : dc cX12_plant 62 (.ifCond .eq 7) 3 65 := ⟨by decide +kernel, rfl⟩
theorem dX12_plant_65 : dc cX12_plant 65 (.iconst 1) 1 66 := ⟨by decide +kernel, rfl⟩
theorem dX12_plant_66 : dc cX12_plant 66 (.goto 4) 3 69 := ⟨by decide +kernel, rfl⟩
theorem dX12_plant_69 : dc cX12_plant 69 (.iconst 0) 1 70 := ⟨by decide +kernel, rfl⟩
theorem dX12_plant_70 : dc cX12_plant 70 (.iastore) 1 71 := ⟨by decide +kernel, rfl⟩
theorem dX12_plant_71 : dc cX12_plant 71 (.iconst 1) 1 72 := ⟨by decide +kernel, rfl⟩
theorem dX12_plant_72 : dc cX12_plant 72 (.ireturn) 1 73 := ⟨by decide +kernel, rfl⟩
theorem nm_X12_plant : (yX12_plant).cls ≠ "java/lang/invoke/MethodHandle" ∧ (yX12_plant).cls ≠ "java/lang/invoke/VarHandle" ∧ (parseMethodDescriptor (yX12_plant).desc).map (fun d => d.parameters.length) = some 2 := ⟨by decide +kernel, by decide +kernel, by decide +kernel⟩
set_option maxRecDepth 100000 in
theorem z_X12_plant (n : Nat) {a0 : Nat} {p1 : Int32} {p2 : Int32} {M : KM} {y : (Int32 × KM)} (hf : f_X12_plant n a0 p1 p2 M = some y) : (y.1 = 0 ∨ y.1 = 1) := by
  unfold f_X12_plant at hf
  obtain ⟨M1, eM1⟩ : ∃ q : KM, q = (uI M a0 1 (0 : Int32)) := ⟨_, rfl⟩
  replace hf := lt_e hf eM1
  obtain ⟨M2, eM2⟩ : ∃ q : KM, q = (uI M1 a0 0 (0 : Int32)) := ⟨_, rfl⟩
  replace hf := lt_e hf eM2
  obtain ⟨v3, hcv3, hf⟩ := bd_e hf
  by_cases h15 : v3 = 0
  · replace hf := (if_pos h15).symm.trans hf
    obtain ⟨v14, hcv14⟩ : ∃ q, f_X12_no a0 (2 : Int32) M2 = q := ⟨_, rfl⟩
    replace hf := lt_e hf hcv14.symm
    obtain rfl := Option.some.inj hf
    exact (z_X12_no hcv14)
  · replace hf := (if_neg h15).symm.trans hf
    obtain ⟨g4, hf⟩ := gd_e hf
    obtain ⟨j42, ej42, hf⟩ := lt_j hf
    have hj42 : ∀ (x5 : Int32), j42 x5 = some y → (y.1 = 0 ∨ y.1 = 1) := by
      intro x5 hf
      rw [ej42] at hf
      by_cases h12 : x5 = p2
      · replace hf := (if_pos h12).symm.trans hf
        obtain ⟨v11, hcv11⟩ : ∃ q, f_X12_no a0 (9 : Int32) M2 = q := ⟨_, rfl⟩
        replace hf := lt_e hf hcv11.symm
        obtain rfl := Option.some.inj hf
        exact (z_X12_no hcv11)
      · replace hf := (if_neg h12).symm.trans hf
        by_cases h10 : p2 = 0
        · replace hf := (if_pos h10).symm.trans hf
          obtain ⟨g6, hf⟩ := gd_e hf
          obtain ⟨M7, eM7⟩ : ∃ q : KM, q = (uI M2 (a0 + 5) (((46 : Int32) + p1)).toNatClampNeg (0 : Int32)) := ⟨_, rfl⟩
          replace hf := lt_e hf eM7
          obtain rfl := Option.some.inj hf
          exact (Or.inr rfl)
        · replace hf := (if_neg h10).symm.trans hf
          obtain ⟨g8, hf⟩ := gd_e hf
          obtain ⟨M9, eM9⟩ : ∃ q : KM, q = (uI M2 (a0 + 5) (((46 : Int32) + p1)).toNatClampNeg (1 : Int32)) := ⟨_, rfl⟩
          replace hf := lt_e hf eM9
          obtain rfl := Option.some.inj hf
          exact (Or.inr rfl)
    by_cases h13 : (M2.1 (a0 + 5) (((46 : Int32) + p1)).toNatClampNeg) = (1 : Int32)
    · replace hf := (if_pos h13).symm.trans hf
      exact hj42 (1 : Int32) hf
    · replace hf := (if_neg h13).symm.trans hf
      exact hj42 (0 : Int32) hf
set_option maxRecDepth 100000 in
set_option maxHeartbeats 4000000 in
theorem c_X12_plant {l : Launch} {ad : Nat → Nat} {cy : Nat → ClassId} {D : va_G} {z : Nat} (n : Nat) {a0 : Nat} {p1 : Int32} {p2 : Int32} {M : KM} {y : (Int32 × KM)} (h0 : kty a0 = 12) (hf : f_X12_plant n a0 p1 p2 M = some y) : KC l ad cy D z yX12_plant cX12_plant 3 (some .boolean) 3 [.ref (ad a0), .int p1, .int p2] M (some (.int y.1), y.2) := by
  refine kv_enter (by decide +kernel) (Nat.le_of_ble_eq_true rfl) ?_
  intro x hl hD hz G
  subst hl hD hz
  unfold f_X12_plant at hf
  have G : KG ad cy x cX12_plant "NoonGuidesModel" 3 (some (some .boolean)) 3 := G
  show KV ad cy x (some (.int y.1), y.2) 0 [(0, .ref (ad a0)), (1, .int p1), (2, .int p2)] [] M
  refine v_aload_n G dX12_plant_0 0 rfl ?_
  refine v_iconst (0 : Int32) G dX12_plant_1 (by decide) ?_
  refine pf_12_1 G h0 t_1492 (Or.inl rfl) dX12_plant_2 ?_
  refine v_nmM (fun M1 eM1 => ?_)
  replace hf := lt_e hf eM1
  refine v_aload_n G dX12_plant_5 0 rfl ?_
  refine v_iconst (0 : Int32) G dX12_plant_6 (by decide) ?_
  refine pf_12_0 G h0 t_1491 (Or.inl rfl) dX12_plant_7 ?_
  refine v_nmM (fun M2 eM2 => ?_)
  replace hf := lt_e hf eM2
  refine v_aload_n G dX12_plant_10 0 rfl ?_
  refine v_iload_n G dX12_plant_11 1 rfl ?_
  obtain ⟨v3, hcv3, hf⟩ := bd_e hf
  refine v_callV [.int p1] G (c_X12_isRoadAt n h0 hcv3) h0 (by decide) rfl rfl rfl t_1950 t_1952 t_p115 t_17 t_1953 nm_X12_isRoadAt (by decide) (by decide) rfl rfl (Nat.le_of_ble_eq_true rfl) dX12_plant_12 (kv_ri ?_)
  refine v_if_ne 24 G dX12_plant_15 (by decide) (fun h15 => ?_) (fun h15 => ?_)
  · replace hf := (if_neg h15).symm.trans hf
    refine v_aload_n G dX12_plant_24 0 rfl ?_
    refine gf_12_20 G h0 t_1511 (Or.inl rfl) dX12_plant_25 ?_
    refine v_bipush (46 : Int32) G dX12_plant_28 (by decide) ?_
    refine v_iload_n G dX12_plant_30 1 rfl ?_
    refine v_iadd G dX12_plant_31 ?_
    obtain ⟨g4, hf⟩ := gd_e hf
    refine al_36 G (kf_12_5 h0) g4 dX12_plant_32 ?_
    refine v_iconst (1 : Int32) G dX12_plant_33 (by decide) ?_
    obtain ⟨j42, ej42, hf⟩ := lt_j hf
    have hj42 : ∀ (x5 : Int32), j42 x5 = some y → KV ad cy x (some (.int y.1), y.2) 42 [(0, .ref (ad a0)), (1, .int p1), (2, .int p2)] [.int x5] M2 := by
      intro x5 hf
      rw [ej42] at hf
      refine v_iload_n G dX12_plant_42 2 rfl ?_
      refine v_icmp_ne 53 G dX12_plant_43 (by decide) (fun h12 => ?_) (fun h12 => ?_)
      · replace hf := (if_neg h12).symm.trans hf
        refine v_aload_n G dX12_plant_53 0 rfl ?_
        refine gf_12_20 G h0 t_1511 (Or.inl rfl) dX12_plant_54 ?_
        refine v_bipush (46 : Int32) G dX12_plant_57 (by decide) ?_
        refine v_iload_n G dX12_plant_59 1 rfl ?_
        refine v_iadd G dX12_plant_60 ?_
        refine v_iload_n G dX12_plant_61 2 rfl ?_
        refine v_if_eq 69 G dX12_plant_62 (by decide) (fun h10 => ?_) (fun h10 => ?_)
        · replace hf := (if_pos h10).symm.trans hf
          refine v_iconst (0 : Int32) G dX12_plant_69 (by decide) ?_
          obtain ⟨g6, hf⟩ := gd_e hf
          refine as_36 G (kf_12_5 h0) g6 dX12_plant_70 ?_
          refine v_nmM (fun M7 eM7 => ?_)
          replace hf := lt_e hf eM7
          refine v_iconst (1 : Int32) G dX12_plant_71 (by decide) ?_
          obtain rfl := Option.some.inj hf
          exact v_zret G (Or.inr rfl) dX12_plant_72
        · replace hf := (if_neg h10).symm.trans hf
          refine v_iconst (1 : Int32) G dX12_plant_65 (by decide) ?_
          refine v_goto 70 G dX12_plant_66 (by decide) ?_
          obtain ⟨g8, hf⟩ := gd_e hf
          refine as_36 G (kf_12_5 h0) g8 dX12_plant_70 ?_
          refine v_nmM (fun M9 eM9 => ?_)
          replace hf := lt_e hf eM9
          refine v_iconst (1 : Int32) G dX12_plant_71 (by decide) ?_
          obtain rfl := Option.some.inj hf
          exact v_zret G (Or.inr rfl) dX12_plant_72
      · replace hf := (if_pos h12).symm.trans hf
        refine v_aload_n G dX12_plant_46 0 rfl ?_
        refine v_bipush (9 : Int32) G dX12_plant_47 (by decide) ?_
        obtain ⟨v11, hcv11⟩ : ∃ q, f_X12_no a0 (9 : Int32) M2 = q := ⟨_, rfl⟩
        replace hf := lt_e hf hcv11.symm
        refine v_callV [.int (9 : Int32)] G (c_X12_no h0 hcv11) h0 (by decide) rfl rfl rfl t_1649 t_1651 t_p55 t_17 t_1652 nm_X12_no (by decide) (by decide) rfl rfl (Nat.le_of_ble_eq_true rfl) dX12_plant_49 (kv_ri ?_)
        obtain rfl := Option.some.inj hf
        exact v_zret G (z_X12_no hcv11) dX12_plant_52
    refine v_icmp_ne 41 G dX12_plant_34 (by decide) (fun h13 => ?_) (fun h13 => ?_)
    · replace hf := (if_neg h13).symm.trans hf
      refine v_iconst (0 : Int32) G dX12_plant_41 (by decide) ?_
      refine v_sub _ [0, 1, 2] rfl ?_
      exact hj42 (0 : Int32) hf
    · replace hf := (if_pos h13).symm.trans hf
      refine v_iconst (1 : Int32) G dX12_plant_37 (by decide) ?_
      refine v_goto 42 G dX12_plant_38 (by decide) ?_
      refine v_sub _ [0, 1, 2] rfl ?_
      exact hj42 (1 : Int32) hf
  · replace hf := (if_pos h15).symm.trans hf
    refine v_aload_n G dX12_plant_18 0 rfl ?_
    refine v_iconst (2 : Int32) G dX12_plant_19 (by decide) ?_
    obtain ⟨v14, hcv14⟩ : ∃ q, f_X12_no a0 (2 : Int32) M2 = q := ⟨_, rfl⟩
    replace hf := lt_e hf hcv14.symm
    refine v_callV [.int (2 : Int32)] G (c_X12_no h0 hcv14) h0 (by decide) rfl rfl rfl t_1649 t_1651 t_p55 t_17 t_1652 nm_X12_no (by decide) (by decide) rfl rfl (Nat.le_of_ble_eq_true rfl) dX12_plant_20 (kv_ri ?_)
    obtain rfl := Option.some.inj hf
    exact v_zret G (z_X12_no hcv14) dX12_plant_23
abbrev cX12_glasses : ByteArray := prog_14_method_114_code
def yX12_glasses : MethodName := ⟨RX12, "glasses", "(IZ)Z"⟩
theorem dX12_glasses_0 : dc cX12_glasses 0 (.aload_n 0) 1 1 := ⟨by decide +kernel, rfl⟩
theorem dX12_glasses_1 : dc cX12_glasses 1 (.iconst 0) 1 2 := ⟨by decide +kernel, rfl⟩
theorem dX12_glasses_2 : dc cX12_glasses 2 (.putfield 75) 3 5 := ⟨by decide +kernel, rfl⟩
theorem dX12_glasses_5 : dc cX12_glasses 5 (.aload_n 0) 1 6 := ⟨by decide +kernel, rfl⟩
theorem dX12_glasses_6 : dc cX12_glasses 6 (.iconst 0) 1 7 := ⟨by decide +kernel, rfl⟩
theorem dX12_glasses_7 : dc cX12_glasses 7 (.putfield 78) 3 10 := ⟨by decide +kernel, rfl⟩
theorem dX12_glasses_10 : dc cX12_glasses 10 (.aload_n 0) 1 11 := ⟨by decide +kernel, rfl⟩
theorem dX12_glasses_11 : dc cX12_glasses 11 (.iload_n 1) 1 12 := ⟨by decide +kernel, rfl⟩
theorem dX12_glasses_12 : dc cX12_glasses 12 (.invokevirtual 373) 3 15 := ⟨by decide +kernel, rfl⟩
theorem dX12_glasses_15 : dc cX12_glasses 15 (.ifCond .ne 9) 3 18 := ⟨by decide +kernel, rfl⟩
theorem dX12_glasses_18 : dc cX12_glasses 18 (.aload_n 0) 1 19 := ⟨by decide +kernel, rfl⟩
theorem dX12_glasses_19 : dc cX12_glasses 19 (.iconst 2) 1 20 := ⟨by decide +kernel, rfl⟩
theorem dX12_glasses_20 : dc cX12_glasses 20 (.invokevirtual 90) 3 23 := ⟨by decide +kernel, rfl⟩
theorem dX12_glasses_23 : dc cX12_glasses 23 (.ireturn) 1 24 := ⟨by decide +kernel, rfl⟩
theorem dX12_glasses_24 : dc cX12_glasses 24 (.aload_n 0) 1 25 := ⟨by decide +kernel, rfl⟩
theorem dX12_glasses_25 : dc cX12_glasses 25 (.getfield 35) 3 28 := ⟨by decide +kernel, rfl⟩
theorem dX12_glasses_28 : dc cX12_glasses 28 (.bipush 106) 2 30 := ⟨by decide +kernel, rfl⟩
theorem dX12_glasses_30 : dc cX12_glasses 30 (.iload_n 1) 1 31 := ⟨by decide +kernel, rfl⟩
theorem dX12_glasses_31 : dc cX12_glasses 31 (.iadd) 1 32 := ⟨by decide +kernel, rfl⟩
theorem dX12_glasses_32 : dc cX12_glasses 32 (.iaload) 1 33 := ⟨by decide +kernel, rfl⟩
theorem dX12_glasses_33 : dc cX12_glasses 33 (.iconst 1) 1 34 := ⟨by decide +kernel, rfl⟩
theorem dX12_glasses_34 : dc cX12_glasses 34 (.if_icmp .eq 25) 3 37 := ⟨by decide +kernel, rfl⟩
theorem dX12_glasses_37 : dc cX12_glasses 37 (.aload_n 0) 1 38 := ⟨by decide +kernel, rfl⟩
theorem dX12_glasses_38 : dc cX12_glasses 38 (.getfield 35) 3 41 := ⟨by decide +kernel, rfl⟩
theorem dX12_glasses_41 : dc cX12_glasses 41 (.bipush 98) 2 43 := ⟨by decide +kernel, rfl⟩
theorem dX12_glasses_43 : dc cX12_glasses 43 (.iload_n 1) 1 44 := ⟨by decide +kernel, rfl⟩
theorem dX12_glasses_44 : dc cX12_glasses 44 (.iadd) 1 45 := ⟨by decide +kernel, rfl⟩
theorem dX12_glasses_45 : dc cX12_glasses 45 (.iaload) 1 46 := ⟨by decide +kernel, rfl⟩
theorem dX12_glasses_46 : dc cX12_glasses 46 (.iconst 1) 1 47 := ⟨by decide +kernel, rfl⟩
theorem dX12_glasses_47 : dc cX12_glasses 47 (.if_icmp .ne 7) 3 50 := ⟨by decide +kernel, rfl⟩
theorem dX12_glasses_50 : dc cX12_glasses 50 (.iconst 1) 1 51 := ⟨by decide +kernel, rfl⟩
theorem dX12_glasses_51 : dc cX12_glasses 51 (.goto 4) 3 54 := ⟨by decide +kernel, rfl⟩
theorem dX12_glasses_54 : dc cX12_glasses 54 (.iconst 0) 1 55 := ⟨by decide +kernel, rfl⟩
theorem dX12_glasses_55 : dc cX12_glasses 55 (.iload_n 2) 1 56 := ⟨by decide +kernel, rfl⟩
theorem dX12_glasses_56 : dc cX12_glasses 56 (.if_icmp .ne 10) 3 59 := ⟨by decide +kernel, rfl⟩
theorem dX12_glasses_59 : dc cX12_glasses 59 (.aload_n 0) 1 60 := ⟨by decide +kernel, rfl⟩
theorem dX12_glasses_60 : dc cX12_glasses 60 (.bipush 9) 2 62 := ⟨by decide +kernel, rfl⟩
theorem dX12_glasses_62 : dc cX12_glasses 62 (.invokevirtual 90) 3 65 := ⟨by decide +kernel, rfl⟩
theorem dX12_glasses_65 : dc cX12_glasses 65 (.ireturn) 1 66 := ⟨by decide +kernel, rfl⟩
theorem dX12_glasses_66 : dc cX12_glasses 66 (.aload_n 0) 1 67 := ⟨by decide +kernel, rfl⟩
theorem dX12_glasses_67 : dc cX12_glasses 67 (.getfield 35) 3 70 := ⟨by decide +kernel, rfl⟩
theorem dX12_glasses_70 : dc cX12_glasses 70 (.bipush 98) 2 72 := ⟨by decide +kernel, rfl⟩
theorem dX12_glasses_72 : dc cX12_glasses 72 (.iload_n 1) 1 73 := ⟨by decide +kernel, rfl⟩
theorem dX12_glasses_73 : dc cX12_glasses 73 (.iadd) 1 74 := ⟨by decide +kernel, rfl⟩
theorem dX12_glasses_74 : dc cX12_glasses 74 (.iload_n 2) 1 75 := ⟨by decide +kernel, rfl⟩
theorem dX12_glasses_75 : dc cX12_glasses 75 (.ifCond .eq 7) 3 78 := ⟨by decide +kernel, rfl⟩
theorem dX12_glasses_78 : dc cX12_glasses 78 (.iconst 1) 1 79 := ⟨by decide +kernel, rfl⟩
theorem dX12_glasses_79 : dc cX12_glasses 79 (.goto 4) 3 82 := ⟨by decide +kernel, rfl⟩
theorem dX12_glasses_82 : dc cX12_glasses 82 (.iconst 0) 1 83 := ⟨by decide +kernel, rfl⟩
theorem dX12_glasses_83 : dc cX12_glasses 83 (.iastore) 1 84 := ⟨by decide +kernel, rfl⟩
theorem dX12_glasses_84 : dc cX12_glasses 84 (.iconst 1) 1 85 := ⟨by decide +kernel, rfl⟩
theorem dX12_glasses_85 : dc cX12_glasses 85 (.ireturn) 1 86 := ⟨by decide +kernel, rfl⟩
theorem nm_X12_glasses : (yX12_glasses).cls ≠ "java/lang/invoke/MethodHandle" ∧ (yX12_glasses).cls ≠ "java/lang/invoke/VarHandle" ∧ (parseMethodDescriptor (yX12_glasses).desc).map (fun d => d.parameters.length) = some 2 := ⟨by decide +kernel, by decide +kernel, by decide +kernel⟩
set_option maxRecDepth 100000 in
theorem z_X12_glasses (n : Nat) {a0 : Nat} {p1 : Int32} {p2 : Int32} {M : KM} {y : (Int32 × KM)} (hf : f_X12_glasses n a0 p1 p2 M = some y) : (y.1 = 0 ∨ y.1 = 1) := by
  unfold f_X12_glasses at hf
  obtain ⟨M1, eM1⟩ : ∃ q : KM, q = (uI M a0 1 (0 : Int32)) := ⟨_, rfl⟩
  replace hf := lt_e hf eM1
  obtain ⟨M2, eM2⟩ : ∃ q : KM, q = (uI M1 a0 0 (0 : Int32)) := ⟨_, rfl⟩
  replace hf := lt_e hf eM2
  obtain ⟨v3, hcv3, hf⟩ := bd_e hf
  by_cases h17 : v3 = 0
  · replace hf := (if_pos h17).symm.trans hf
    obtain ⟨v16, hcv16⟩ : ∃ q, f_X12_no a0 (2 : Int32) M2 = q := ⟨_, rfl⟩
    replace hf := lt_e hf hcv16.symm
    obtain rfl := Option.some.inj hf
    exact (z_X12_no hcv16)
  · replace hf := (if_neg h17).symm.trans hf
    obtain ⟨g4, hf⟩ := gd_e hf
    obtain ⟨j59, ej59, hf⟩ := lt_j hf
    have hj59 : j59 = some y → (y.1 = 0 ∨ y.1 = 1) := by
      intro hf
      rw [ej59] at hf
      obtain ⟨v5, hcv5⟩ : ∃ q, f_X12_no a0 (9 : Int32) M2 = q := ⟨_, rfl⟩
      replace hf := lt_e hf hcv5.symm
      obtain rfl := Option.some.inj hf
      exact (z_X12_no hcv5)
    by_cases h15 : (M2.1 (a0 + 5) (((106 : Int32) + p1)).toNatClampNeg) = (1 : Int32)
    · replace hf := (if_pos h15).symm.trans hf
      exact hj59 hf
    · replace hf := (if_neg h15).symm.trans hf
      obtain ⟨g6, hf⟩ := gd_e hf
      obtain ⟨j55, ej55, hf⟩ := lt_j hf
      have hj55 : ∀ (x7 : Int32), j55 x7 = some y → (y.1 = 0 ∨ y.1 = 1) := by
        intro x7 hf
        rw [ej55] at hf
        by_cases h13 : x7 = p2
        · replace hf := (if_pos h13).symm.trans hf
          exact hj59 hf
        · replace hf := (if_neg h13).symm.trans hf
          by_cases h12 : p2 = 0
          · replace hf := (if_pos h12).symm.trans hf
            obtain ⟨g8, hf⟩ := gd_e hf
            obtain ⟨M9, eM9⟩ : ∃ q : KM, q = (uI M2 (a0 + 5) (((98 : Int32) + p1)).toNatClampNeg (0 : Int32)) := ⟨_, rfl⟩
            replace hf := lt_e hf eM9
            obtain rfl := Option.some.inj hf
            exact (Or.inr rfl)
          · replace hf := (if_neg h12).symm.trans hf
            obtain ⟨g10, hf⟩ := gd_e hf
            obtain ⟨M11, eM11⟩ : ∃ q : KM, q = (uI M2 (a0 + 5) (((98 : Int32) + p1)).toNatClampNeg (1 : Int32)) := ⟨_, rfl⟩
            replace hf := lt_e hf eM11
            obtain rfl := Option.some.inj hf
            exact (Or.inr rfl)
      by_cases h14 : (M2.1 (a0 + 5) (((98 : Int32) + p1)).toNatClampNeg) = (1 : Int32)
      · replace hf := (if_pos h14).symm.trans hf
        exact hj55 (1 : Int32) hf
      · replace hf := (if_neg h14).symm.trans hf
        exact hj55 (0 : Int32) hf
set_option maxRecDepth 100000 in
set_option maxHeartbeats 4000000 in
theorem c_X12_glasses {l : Launch} {ad : Nat → Nat} {cy : Nat → ClassId} {D : va_G} {z : Nat} (n : Nat) {a0 : Nat} {p1 : Int32} {p2 : Int32} {M : KM} {y : (Int32 × KM)} (h0 : kty a0 = 12) (hf : f_X12_glasses n a0 p1 p2 M = some y) : KC l ad cy D z yX12_glasses cX12_glasses 3 (some .boolean) 3 [.ref (ad a0), .int p1, .int p2] M (some (.int y.1), y.2) := by
  refine kv_enter (by decide +kernel) (Nat.le_of_ble_eq_true rfl) ?_
  intro x hl hD hz G
  subst hl hD hz
  unfold f_X12_glasses at hf
  have G : KG ad cy x cX12_glasses "NoonGuidesModel" 3 (some (some .boolean)) 3 := G
  show KV ad cy x (some (.int y.1), y.2) 0 [(0, .ref (ad a0)), (1, .int p1), (2, .int p2)] [] M
  refine v_aload_n G dX12_glasses_0 0 rfl ?_
  refine v_iconst (0 : Int32) G dX12_glasses_1 (by decide) ?_
  refine pf_12_1 G h0 t_1492 (Or.inl rfl) dX12_glasses_2 ?_
  refine v_nmM (fun M1 eM1 => ?_)
  replace hf := lt_e hf eM1
  refine v_aload_n G dX12_glasses_5 0 rfl ?_
  refine v_iconst (0 : Int32) G dX12_glasses_6 (by decide) ?_
  refine pf_12_0 G h0 t_1491 (Or.inl rfl) dX12_glasses_7 ?_
  refine v_nmM (fun M2 eM2 => ?_)
  replace hf := lt_e hf eM2
  refine v_aload_n G dX12_glasses_10 0 rfl ?_
  refine v_iload_n G dX12_glasses_11 1 rfl ?_
  obtain ⟨v3, hcv3, hf⟩ := bd_e hf
  refine v_callV [.int p1] G (c_X12_isPerson n h0 hcv3) h0 (by decide) rfl rfl rfl t_1971 t_1973 t_p118 t_17 t_1974 nm_X12_isPerson (by decide) (by decide) rfl rfl (Nat.le_of_ble_eq_true rfl) dX12_glasses_12 (kv_ri ?_)
  refine v_if_ne 24 G dX12_glasses_15 (by decide) (fun h17 => ?_) (fun h17 => ?_)
  · replace hf := (if_neg h17).symm.trans hf
    refine v_aload_n G dX12_glasses_24 0 rfl ?_
    refine gf_12_20 G h0 t_1511 (Or.inl rfl) dX12_glasses_25 ?_
    refine v_bipush (106 : Int32) G dX12_glasses_28 (by decide) ?_
    refine v_iload_n G dX12_glasses_30 1 rfl ?_
    refine v_iadd G dX12_glasses_31 ?_
    obtain ⟨g4, hf⟩ := gd_e hf
    refine al_36 G (kf_12_5 h0) g4 dX12_glasses_32 ?_
    refine v_iconst (1 : Int32) G dX12_glasses_33 (by decide) ?_
    obtain ⟨j59, ej59, hf⟩ := lt_j hf
    have hj59 : j59 = some y → KV ad cy x (some (.int y.1), y.2) 59 [(0, .ref (ad a0))] [] M2 := by
      intro hf
      rw [ej59] at hf
      refine v_aload_n G dX12_glasses_59 0 rfl ?_
      refine v_bipush (9 : Int32) G dX12_glasses_60 (by decide) ?_
      obtain ⟨v5, hcv5⟩ : ∃ q, f_X12_no a0 (9 : Int32) M2 = q := ⟨_, rfl⟩
      replace hf := lt_e hf hcv5.symm
      refine v_callV [.int (9 : Int32)] G (c_X12_no h0 hcv5) h0 (by decide) rfl rfl rfl t_1649 t_1651 t_p55 t_17 t_1652 nm_X12_no (by decide) (by decide) rfl rfl (Nat.le_of_ble_eq_true rfl) dX12_glasses_62 (kv_ri ?_)
      obtain rfl := Option.some.inj hf
      exact v_zret G (z_X12_no hcv5) dX12_glasses_65
    refine v_icmp_eq 59 G dX12_glasses_34 (by decide) (fun h15 => ?_) (fun h15 => ?_)
    · replace hf := (if_pos h15).symm.trans hf
      refine v_sub _ [0] rfl ?_
      exact hj59 hf
    · replace hf := (if_neg h15).symm.trans hf
      refine v_aload_n G dX12_glasses_37 0 rfl ?_
      refine gf_12_20 G h0 t_1511 (Or.inl rfl) dX12_glasses_38 ?_
      refine v_bipush (98 : Int32) G dX12_glasses_41 (by decide) ?_
      refine v_iload_n G dX12_glasses_43 1 rfl ?_
      refine v_iadd G dX12_glasses_44 ?_
      obtain ⟨g6, hf⟩ := gd_e hf
      refine al_36 G (kf_12_5 h0) g6 dX12_glasses_45 ?_
      refine v_iconst (1 : Int32) G dX12_glasses_46 (by decide) ?_
      obtain ⟨j55, ej55, hf⟩ := lt_j hf
      have hj55 : ∀ (x7 : Int32), j55 x7 = some y → KV ad cy x (some (.int y.1), y.2) 55 [(0, .ref (ad a0)), (1, .int p1), (2, .int p2)] [.int x7] M2 := by
        intro x7 hf
        rw [ej55] at hf
        refine v_iload_n G dX12_glasses_55 2 rfl ?_
        refine v_icmp_ne 66 G dX12_glasses_56 (by decide) (fun h13 => ?_) (fun h13 => ?_)
        · replace hf := (if_neg h13).symm.trans hf
          refine v_aload_n G dX12_glasses_66 0 rfl ?_
          refine gf_12_20 G h0 t_1511 (Or.inl rfl) dX12_glasses_67 ?_
          refine v_bipush (98 : Int32) G dX12_glasses_70 (by decide) ?_
          refine v_iload_n G dX12_glasses_72 1 rfl ?_
          refine v_iadd G dX12_glasses_73 ?_
          refine v_iload_n G dX12_glasses_74 2 rfl ?_
          refine v_if_eq 82 G dX12_glasses_75 (by decide) (fun h12 => ?_) (fun h12 => ?_)
          · replace hf := (if_pos h12).symm.trans hf
            refine v_iconst (0 : Int32) G dX12_glasses_82 (by decide) ?_
            obtain ⟨g8, hf⟩ := gd_e hf
            refine as_36 G (kf_12_5 h0) g8 dX12_glasses_83 ?_
            refine v_nmM (fun M9 eM9 => ?_)
            replace hf := lt_e hf eM9
            refine v_iconst (1 : Int32) G dX12_glasses_84 (by decide) ?_
            obtain rfl := Option.some.inj hf
            exact v_zret G (Or.inr rfl) dX12_glasses_85
          · replace hf := (if_neg h12).symm.trans hf
            refine v_iconst (1 : Int32) G dX12_glasses_78 (by decide) ?_
            refine v_goto 83 G dX12_glasses_79 (by decide) ?_
            obtain ⟨g10, hf⟩ := gd_e hf
            refine as_36 G (kf_12_5 h0) g10 dX12_glasses_83 ?_
            refine v_nmM (fun M11 eM11 => ?_)
            replace hf := lt_e hf eM11
            refine v_iconst (1 : Int32) G dX12_glasses_84 (by decide) ?_
            obtain rfl := Option.some.inj hf
            exact v_zret G (Or.inr rfl) dX12_glasses_85
        · replace hf := (if_pos h13).symm.trans hf
          refine v_sub _ [0] rfl ?_
          exact hj59 hf
      refine v_icmp_ne 54 G dX12_glasses_47 (by decide) (fun h14 => ?_) (fun h14 => ?_)
      · replace hf := (if_neg h14).symm.trans hf
        refine v_iconst (0 : Int32) G dX12_glasses_54 (by decide) ?_
        refine v_sub _ [0, 1, 2] rfl ?_
        exact hj55 (0 : Int32) hf
      · replace hf := (if_pos h14).symm.trans hf
        refine v_iconst (1 : Int32) G dX12_glasses_50 (by decide) ?_
        refine v_goto 55 G dX12_glasses_51 (by decide) ?_
        refine v_sub _ [0, 1, 2] rfl ?_
        exact hj55 (1 : Int32) hf
  · replace hf := (if_pos h17).symm.trans hf
    refine v_aload_n G dX12_glasses_18 0 rfl ?_
    refine v_iconst (2 : Int32) G dX12_glasses_19 (by decide) ?_
    obtain ⟨v16, hcv16⟩ : ∃ q, f_X12_no a0 (2 : Int32) M2 = q := ⟨_, rfl⟩
    replace hf := lt_e hf hcv16.symm
    refine v_callV [.int (2 : Int32)] G (c_X12_no h0 hcv16) h0 (by decide) rfl rfl rfl t_1649 t_1651 t_p55 t_17 t_1652 nm_X12_no (by decide) (by decide) rfl rfl (Nat.le_of_ble_eq_true rfl) dX12_glasses_20 (kv_ri ?_)
    obtain rfl := Option.some.inj hf
    exact v_zret G (z_X12_no hcv16) dX12_glasses_23
abbrev cX12_cure : ByteArray := prog_14_method_115_code
def yX12_cure : MethodName := ⟨RX12, "cure", "(IZ)Z"⟩
theorem dX12_cure_0 : dc cX12_cure 0 (.aload_n 0) 1 1 := ⟨by decide +kernel, rfl⟩
theorem dX12_cure_1 : dc cX12_cure 1 (.iconst 0) 1 2 := ⟨by decide +kernel, rfl⟩
theorem dX12_cure_2 : dc cX12_cure 2 (.putfield 75) 3 5 := ⟨by decide +kernel, rfl⟩
theorem dX12_cure_5 : dc cX12_cure 5 (.aload_n 0) 1 6 := ⟨by decide +kernel, rfl⟩
theorem dX12_cure_6 : dc cX12_cure 6 (.iconst 0) 1 7 := ⟨by decide +kernel, rfl⟩
theorem dX12_cure_7 : dc cX12_cure 7 (.putfield 78) 3 10 := ⟨by decide +kernel, rfl⟩
theorem dX12_cure_10 : dc cX12_cure 10 (.aload_n 0) 1 11 := ⟨by decide +kernel, rfl⟩
theorem dX12_cure_11 : dc cX12_cure 11 (.iload_n 1) 1 12 := ⟨by decide +kernel, rfl⟩
theorem dX12_cure_12 : dc cX12_cure 12 (.invokevirtual 373) 3 15 := ⟨by decide +kernel, rfl⟩
theorem dX12_cure_15 : dc cX12_cure 15 (.ifCond .ne 9) 3 18 := ⟨by decide +kernel, rfl⟩
theorem dX12_cure_18 : dc cX12_cure 18 (.aload_n 0) 1 19 := ⟨by decide +kernel, rfl⟩
theorem dX12_cure_19 : dc cX12_cure 19 (.iconst 2) 1 20 := ⟨by decide +kernel, rfl⟩
theorem dX12_cure_20 : dc cX12_cure 20 (.invokevirtual 90) 3 23 := ⟨by decide +kernel, rfl⟩
theorem dX12_cure_23 : dc cX12_cure 23 (.ireturn) 1 24 := ⟨by decide +kernel, rfl⟩
theorem dX12_cure_24 : dc cX12_cure 24 (.aload_n 0) 1 25 := ⟨by decide +kernel, rfl⟩
theorem dX12_cure_25 : dc cX12_cure 25 (.getfield 35) 3 28 := ⟨by decide +kernel, rfl⟩
theorem dX12_cure_28 : dc cX12_cure 28 (.bipush 106) 2 30 := ⟨by decide +kernel, rfl⟩
theorem dX12_cure_30 : dc cX12_cure 30 (.iload_n 1) 1 31 := ⟨by decide +kernel, rfl⟩
theorem dX12_cure_31 : dc cX12_cure 31 (.iadd) 1 32 := ⟨by decide +kernel, rfl⟩
theorem dX12_cure_32 : dc cX12_cure 32 (.iaload) 1 33 := ⟨by decide +kernel, rfl⟩
theorem dX12_cure_33 : dc cX12_cure 33 (.ifCond .ne 7) 3 36 := ⟨by decide +kernel, rfl⟩
theorem dX12_cure_36 : dc cX12_cure 36 (.iconst 1) 1 37 := ⟨by decide +kernel, rfl⟩
theorem dX12_cure_37 : dc cX12_cure 37 (.goto 4) 3 40 := ⟨by decide +kernel, rfl⟩
theorem dX12_cure_40 : dc cX12_cure 40 (.iconst 0) 1 41 := ⟨by decide +kernel, rfl⟩
theorem dX12_cure_41 : dc cX12_cure 41 (.iload_n 2) 1 42 := ⟨by decide +kernel, rfl⟩
theorem dX12_cure_42 : dc cX12_cure 42 (.if_icmp .ne 10) 3 45 := ⟨by decide +kernel, rfl⟩
theorem dX12_cure_45 : dc cX12_cure 45 (.aload_n 0) 1 46 := ⟨by decide +kernel, rfl⟩
theorem dX12_cure_46 : dc cX12_cure 46 (.bipush 9) 2 48 := ⟨by decide +kernel, rfl⟩
theorem dX12_cure_48 : dc cX12_cure 48 (.invokevirtual 90) 3 51 := ⟨by decide +kernel, rfl⟩
theorem dX12_cure_51 : dc cX12_cure 51 (.ireturn) 1 52 := ⟨by decide +kernel, rfl⟩
theorem dX12_cure_52 : dc cX12_cure 52 (.aload_n 0) 1 53 := ⟨by decide +kernel, rfl⟩
theorem dX12_cure_53 : dc cX12_cure 53 (.getfield 35) 3 56 := ⟨by decide +kernel, rfl⟩
theorem dX12_cure_56 : dc cX12_cure 56 (.bipush 106) 2 58 := ⟨by decide +kernel, rfl⟩
theorem dX12_cure_58 : dc cX12_cure 58 (.iload_n 1) 1 59 := ⟨by decide +kernel, rfl⟩
theorem dX12_cure_59 : dc cX12_cure 59 (.iadd) 1 60 := ⟨by decide +kernel, rfl⟩
theorem dX12_cure_60 : dc cX12_cure 60 (.iload_n 2) 1 61 := ⟨by decide +kernel, rfl⟩
theorem dX12_cure_61 : dc cX12_cure 61 (.ifCond .eq 7) 3 64 := ⟨by decide +kernel, rfl⟩
theorem dX12_cure_64 : dc cX12_cure 64 (.iconst 0) 1 65 := ⟨by decide +kernel, rfl⟩
theorem dX12_cure_65 : dc cX12_cure 65 (.goto 4) 3 68 := ⟨by decide +kernel, rfl⟩
theorem dX12_cure_68 : dc cX12_cure 68 (.iconst 1) 1 69 := ⟨by decide +kernel, rfl⟩
theorem dX12_cure_69 : dc cX12_cure 69 (.iastore) 1 70 := ⟨by decide +kernel, rfl⟩
theorem dX12_cure_70 : dc cX12_cure 70 (.aload_n 0) 1 71 := ⟨by decide +kernel, rfl⟩
theorem dX12_cure_71 : dc cX12_cure 71 (.getfield 35) 3 74 := ⟨by decide +kernel, rfl⟩
theorem dX12_cure_74 : dc cX12_cure 74 (.bipush 98) 2 76 := ⟨by decide +kernel, rfl⟩
theorem dX12_cure_76 : dc cX12_cure 76 (.iload_n 1) 1 77 := ⟨by decide +kernel, rfl⟩
theorem dX12_cure_77 : dc cX12_cure 77 (.iadd) 1 78 := ⟨by decide +kernel, rfl⟩
theorem dX12_cure_78 : dc cX12_cure 78 (.iconst 0) 1 79 := ⟨by decide +kernel, rfl⟩
theorem dX12_cure_79 : dc cX12_cure 79 (.iastore) 1 80 := ⟨by decide +kernel, rfl⟩
theorem dX12_cure_80 : dc cX12_cure 80 (.iconst 1) 1 81 := ⟨by decide +kernel, rfl⟩
theorem dX12_cure_81 : dc cX12_cure 81 (.ireturn) 1 82 := ⟨by decide +kernel, rfl⟩
theorem nm_X12_cure : (yX12_cure).cls ≠ "java/lang/invoke/MethodHandle" ∧ (yX12_cure).cls ≠ "java/lang/invoke/VarHandle" ∧ (parseMethodDescriptor (yX12_cure).desc).map (fun d => d.parameters.length) = some 2 := ⟨by decide +kernel, by decide +kernel, by decide +kernel⟩
set_option maxRecDepth 100000 in
theorem z_X12_cure (n : Nat) {a0 : Nat} {p1 : Int32} {p2 : Int32} {M : KM} {y : (Int32 × KM)} (hf : f_X12_cure n a0 p1 p2 M = some y) : (y.1 = 0 ∨ y.1 = 1) := by
  unfold f_X12_cure at hf
  obtain ⟨M1, eM1⟩ : ∃ q : KM, q = (uI M a0 1 (0 : Int32)) := ⟨_, rfl⟩
  replace hf := lt_e hf eM1
  obtain ⟨M2, eM2⟩ : ∃ q : KM, q = (uI M1 a0 0 (0 : Int32)) := ⟨_, rfl⟩
  replace hf := lt_e hf eM2
  obtain ⟨v3, hcv3, hf⟩ := bd_e hf
  by_cases h16 : v3 = 0
  · replace hf := (if_pos h16).symm.trans hf
    obtain ⟨v15, hcv15⟩ : ∃ q, f_X12_no a0 (2 : Int32) M2 = q := ⟨_, rfl⟩
    replace hf := lt_e hf hcv15.symm
    obtain rfl := Option.some.inj hf
    exact (z_X12_no hcv15)
  · replace hf := (if_neg h16).symm.trans hf
    obtain ⟨g4, hf⟩ := gd_e hf
    obtain ⟨j41, ej41, hf⟩ := lt_j hf
    have hj41 : ∀ (x5 : Int32), j41 x5 = some y → (y.1 = 0 ∨ y.1 = 1) := by
      intro x5 hf
      rw [ej41] at hf
      by_cases h13 : x5 = p2
      · replace hf := (if_pos h13).symm.trans hf
        obtain ⟨v12, hcv12⟩ : ∃ q, f_X12_no a0 (9 : Int32) M2 = q := ⟨_, rfl⟩
        replace hf := lt_e hf hcv12.symm
        obtain rfl := Option.some.inj hf
        exact (z_X12_no hcv12)
      · replace hf := (if_neg h13).symm.trans hf
        obtain ⟨j69, ej69, hf⟩ := lt_j hf
        have hj69 : ∀ (x6 : Int32), j69 x6 = some y → (y.1 = 0 ∨ y.1 = 1) := by
          intro x6 hf
          rw [ej69] at hf
          obtain ⟨g7, hf⟩ := gd_e hf
          obtain ⟨M8, eM8⟩ : ∃ q : KM, q = (uI M2 (a0 + 5) (((106 : Int32) + p1)).toNatClampNeg x6) := ⟨_, rfl⟩
          replace hf := lt_e hf eM8
          obtain ⟨g9, hf⟩ := gd_e hf
          obtain ⟨M10, eM10⟩ : ∃ q : KM, q = (uI M8 (a0 + 5) (((98 : Int32) + p1)).toNatClampNeg (0 : Int32)) := ⟨_, rfl⟩
          replace hf := lt_e hf eM10
          obtain rfl := Option.some.inj hf
          exact (Or.inr rfl)
        by_cases h11 : p2 = 0
        · replace hf := (if_pos h11).symm.trans hf
          exact hj69 (1 : Int32) hf
        · replace hf := (if_neg h11).symm.trans hf
          exact hj69 (0 : Int32) hf
    by_cases h14 : (M2.1 (a0 + 5) (((106 : Int32) + p1)).toNatClampNeg) = 0
    · replace hf := (if_pos h14).symm.trans hf
      exact hj41 (1 : Int32) hf
    · replace hf := (if_neg h14).symm.trans hf
      exact hj41 (0 : Int32) hf
set_option maxRecDepth 100000 in
set_option maxHeartbeats 4000000 in
theorem c_X12_cure {l : Launch} {ad : Nat → Nat} {cy : Nat → ClassId} {D : va_G} {z : Nat} (n : Nat) {a0 : Nat} {p1 : Int32} {p2 : Int32} {M : KM} {y : (Int32 × KM)} (h0 : kty a0 = 12) (hf : f_X12_cure n a0 p1 p2 M = some y) : KC l ad cy D z yX12_cure cX12_cure 3 (some .boolean) 3 [.ref (ad a0), .int p1, .int p2] M (some (.int y.1), y.2) := by
  refine kv_enter (by decide +kernel) (Nat.le_of_ble_eq_true rfl) ?_
  intro x hl hD hz G
  subst hl hD hz
  unfold f_X12_cure at hf
  have G : KG ad cy x cX12_cure "NoonGuidesModel" 3 (some (some .boolean)) 3 := G
  show KV ad cy x (some (.int y.1), y.2) 0 [(0, .ref (ad a0)), (1, .int p1), (2, .int p2)] [] M
  refine v_aload_n G dX12_cure_0 0 rfl ?_
  refine v_iconst (0 : Int32) G dX12_cure_1 (by decide) ?_
  refine pf_12_1 G h0 t_1492 (Or.inl rfl) dX12_cure_2 ?_
  refine v_nmM (fun M1 eM1 => ?_)
  replace hf := lt_e hf eM1
  refine v_aload_n G dX12_cure_5 0 rfl ?_
  refine v_iconst (0 : Int32) G dX12_cure_6 (by decide) ?_
  refine pf_12_0 G h0 t_1491 (Or.inl rfl) dX12_cure_7 ?_
  refine v_nmM (fun M2 eM2 => ?_)
  replace hf := lt_e hf eM2
  refine v_aload_n G dX12_cure_10 0 rfl ?_
  refine v_iload_n G dX12_cure_11 1 rfl ?_
  obtain ⟨v3, hcv3, hf⟩ := bd_e hf
  refine v_callV [.int p1] G (c_X12_isPerson n h0 hcv3) h0 (by decide) rfl rfl rfl t_1971 t_1973 t_p118 t_17 t_1974 nm_X12_isPerson (by decide) (by decide) rfl rfl (Nat.le_of_ble_eq_true rfl) dX12_cure_12 (kv_ri ?_)
  refine v_if_ne 24 G dX12_cure_15 (by decide) (fun h16 => ?_) (fun h16 => ?_)
  · replace hf := (if_neg h16).symm.trans hf
    refine v_aload_n G dX12_cure_24 0 rfl ?_
    refine gf_12_20 G h0 t_1511 (Or.inl rfl) dX12_cure_25 ?_
    refine v_bipush (106 : Int32) G dX12_cure_28 (by decide) ?_
    refine v_iload_n G dX12_cure_30 1 rfl ?_
    refine v_iadd G dX12_cure_31 ?_
    obtain ⟨g4, hf⟩ := gd_e hf
    refine al_36 G (kf_12_5 h0) g4 dX12_cure_32 ?_
    obtain ⟨j41, ej41, hf⟩ := lt_j hf
    have hj41 : ∀ (x5 : Int32), j41 x5 = some y → KV ad cy x (some (.int y.1), y.2) 41 [(0, .ref (ad a0)), (1, .int p1), (2, .int p2)] [.int x5] M2 := by
      intro x5 hf
      rw [ej41] at hf
      refine v_iload_n G dX12_cure_41 2 rfl ?_
      refine v_icmp_ne 52 G dX12_cure_42 (by decide) (fun h13 => ?_) (fun h13 => ?_)
      · replace hf := (if_neg h13).symm.trans hf
        refine v_aload_n G dX12_cure_52 0 rfl ?_
        refine gf_12_20 G h0 t_1511 (Or.inl rfl) dX12_cure_53 ?_
        refine v_bipush (106 : Int32) G dX12_cure_56 (by decide) ?_
        refine v_iload_n G dX12_cure_58 1 rfl ?_
        refine v_iadd G dX12_cure_59 ?_
        refine v_iload_n G dX12_cure_60 2 rfl ?_
        obtain ⟨j69, ej69, hf⟩ := lt_j hf
        have hj69 : ∀ (x6 : Int32), j69 x6 = some y → KV ad cy x (some (.int y.1), y.2) 69 [(0, .ref (ad a0)), (1, .int p1)] [.int x6, .int ((106 : Int32) + p1), .ref (ad (a0 + 5))] M2 := by
          intro x6 hf
          rw [ej69] at hf
          obtain ⟨g7, hf⟩ := gd_e hf
          refine as_36 G (kf_12_5 h0) g7 dX12_cure_69 ?_
          refine v_nmM (fun M8 eM8 => ?_)
          replace hf := lt_e hf eM8
          refine v_aload_n G dX12_cure_70 0 rfl ?_
          refine gf_12_20 G h0 t_1511 (Or.inl rfl) dX12_cure_71 ?_
          refine v_bipush (98 : Int32) G dX12_cure_74 (by decide) ?_
          refine v_iload_n G dX12_cure_76 1 rfl ?_
          refine v_iadd G dX12_cure_77 ?_
          refine v_iconst (0 : Int32) G dX12_cure_78 (by decide) ?_
          obtain ⟨g9, hf⟩ := gd_e hf
          refine as_36 G (kf_12_5 h0) g9 dX12_cure_79 ?_
          refine v_nmM (fun M10 eM10 => ?_)
          replace hf := lt_e hf eM10
          refine v_iconst (1 : Int32) G dX12_cure_80 (by decide) ?_
          obtain rfl := Option.some.inj hf
          exact v_zret G (Or.inr rfl) dX12_cure_81
        refine v_if_eq 68 G dX12_cure_61 (by decide) (fun h11 => ?_) (fun h11 => ?_)
        · replace hf := (if_pos h11).symm.trans hf
          refine v_iconst (1 : Int32) G dX12_cure_68 (by decide) ?_
          refine v_sub _ [0, 1] rfl ?_
          exact hj69 (1 : Int32) hf
        · replace hf := (if_neg h11).symm.trans hf
          refine v_iconst (0 : Int32) G dX12_cure_64 (by decide) ?_
          refine v_goto 69 G dX12_cure_65 (by decide) ?_
          refine v_sub _ [0, 1] rfl ?_
          exact hj69 (0 : Int32) hf
      · replace hf := (if_pos h13).symm.trans hf
        refine v_aload_n G dX12_cure_45 0 rfl ?_
        refine v_bipush (9 : Int32) G dX12_cure_46 (by decide) ?_
        obtain ⟨v12, hcv12⟩ : ∃ q, f_X12_no a0 (9 : Int32) M2 = q := ⟨_, rfl⟩
        replace hf := lt_e hf hcv12.symm
        refine v_callV [.int (9 : Int32)] G (c_X12_no h0 hcv12) h0 (by decide) rfl rfl rfl t_1649 t_1651 t_p55 t_17 t_1652 nm_X12_no (by decide) (by decide) rfl rfl (Nat.le_of_ble_eq_true rfl) dX12_cure_48 (kv_ri ?_)
        obtain rfl := Option.some.inj hf
        exact v_zret G (z_X12_no hcv12) dX12_cure_51
    refine v_if_ne 40 G dX12_cure_33 (by decide) (fun h14 => ?_) (fun h14 => ?_)
    · replace hf := (if_neg h14).symm.trans hf
      refine v_iconst (0 : Int32) G dX12_cure_40 (by decide) ?_
      refine v_sub _ [0, 1, 2] rfl ?_
      exact hj41 (0 : Int32) hf
    · replace hf := (if_pos h14).symm.trans hf
      refine v_iconst (1 : Int32) G dX12_cure_36 (by decide) ?_
      refine v_goto 41 G dX12_cure_37 (by decide) ?_
      refine v_sub _ [0, 1, 2] rfl ?_
      exact hj41 (1 : Int32) hf
  · replace hf := (if_pos h16).symm.trans hf
    refine v_aload_n G dX12_cure_18 0 rfl ?_
    refine v_iconst (2 : Int32) G dX12_cure_19 (by decide) ?_
    obtain ⟨v15, hcv15⟩ : ∃ q, f_X12_no a0 (2 : Int32) M2 = q := ⟨_, rfl⟩
    replace hf := lt_e hf hcv15.symm
    refine v_callV [.int (2 : Int32)] G (c_X12_no h0 hcv15) h0 (by decide) rfl rfl rfl t_1649 t_1651 t_p55 t_17 t_1652 nm_X12_no (by decide) (by decide) rfl rfl (Nat.le_of_ble_eq_true rfl) dX12_cure_20 (kv_ri ?_)
    obtain rfl := Option.some.inj hf
    exact v_zret G (z_X12_no hcv15) dX12_cure_23
abbrev cX12_settle : ByteArray := prog_14_method_116_code
def yX12_settle : MethodName := ⟨RX12, "settle", "(II)I"⟩
theorem dX12_settle_0 : dc cX12_settle 0 (.aload_n 0) 1 1 := ⟨by decide +kernel, rfl⟩
theorem dX12_settle_1 : dc cX12_settle 1 (.iconst 0) 1 2 := ⟨by decide +kernel, rfl⟩
theorem dX12_settle_2 : dc cX12_settle 2 (.putfield 75) 3 5 := ⟨by decide +kernel, rfl⟩
theorem dX12_settle_5 : dc cX12_settle 5 (.aload_n 0) 1 6 := ⟨by decide +kernel, rfl⟩
theorem dX12_settle_6 : dc cX12_settle 6 (.iconst 0) 1 7 := ⟨by decide +kernel, rfl⟩
theorem dX12_settle_7 : dc cX12_settle 7 (.putfield 78) 3 10 := ⟨by decide +kernel, rfl⟩
theorem dX12_settle_10 : dc cX12_settle 10 (.aload_n 0) 1 11 := ⟨by decide +kernel, rfl⟩
theorem dX12_settle_11 : dc cX12_settle 11 (.iload_n 1) 1 12 := ⟨by decide +kernel, rfl⟩
theorem dX12_settle_12 : dc cX12_settle 12 (.invokevirtual 373) 3 15 := ⟨by decide +kernel, rfl⟩
theorem dX12_settle_15 : dc cX12_settle 15 (.ifCond .eq 11) 3 18 := ⟨by decide +kernel, rfl⟩
theorem dX12_settle_18 : dc cX12_settle 18 (.aload_n 0) 1 19 := ⟨by decide +kernel, rfl⟩
theorem dX12_settle_19 : dc cX12_settle 19 (.iload_n 2) 1 20 := ⟨by decide +kernel, rfl⟩
theorem dX12_settle_20 : dc cX12_settle 20 (.invokevirtual 373) 3 23 := ⟨by decide +kernel, rfl⟩
theorem dX12_settle_23 : dc cX12_settle 23 (.ifCond .ne 9) 3 26 := ⟨by decide +kernel, rfl⟩
theorem dX12_settle_26 : dc cX12_settle 26 (.aload_n 0) 1 27 := ⟨by decide +kernel, rfl⟩
theorem dX12_settle_27 : dc cX12_settle 27 (.iconst 2) 1 28 := ⟨by decide +kernel, rfl⟩
theorem dX12_settle_28 : dc cX12_settle 28 (.invokevirtual 355) 3 31 := ⟨by decide +kernel, rfl⟩
theorem dX12_settle_31 : dc cX12_settle 31 (.ireturn) 1 32 := ⟨by decide +kernel, rfl⟩
theorem dX12_settle_32 : dc cX12_settle 32 (.iload_n 1) 1 33 := ⟨by decide +kernel, rfl⟩
theorem dX12_settle_33 : dc cX12_settle 33 (.iload_n 2) 1 34 := ⟨by decide +kernel, rfl⟩
theorem dX12_settle_34 : dc cX12_settle 34 (.if_icmp .ne 10) 3 37 := ⟨by decide +kernel, rfl⟩
theorem dX12_settle_37 : dc cX12_settle 37 (.aload_n 0) 1 38 := ⟨by decide +kernel, rfl⟩
theorem dX12_settle_38 : dc cX12_settle 38 (.bipush 9) 2 40 := ⟨by decide +kernel, rfl⟩
theorem dX12_settle_40 : dc cX12_settle 40 (.invokevirtual 355) 3 43 := ⟨by decide +kernel, rfl⟩
theorem dX12_settle_43 : dc cX12_settle 43 (.ireturn) 1 44 := ⟨by decide +kernel, rfl⟩
theorem dX12_settle_44 : dc cX12_settle 44 (.aload_n 0) 1 45 := ⟨by decide +kernel, rfl⟩
theorem dX12_settle_45 : dc cX12_settle 45 (.getfield 35) 3 48 := ⟨by decide +kernel, rfl⟩
theorem dX12_settle_48 : dc cX12_settle 48 (.sipush 226) 3 51 := ⟨by decide +kernel, rfl⟩
theorem dX12_settle_51 : dc cX12_settle 51 (.bipush 8) 2 53 := ⟨by decide +kernel, rfl⟩
theorem dX12_settle_53 : dc cX12_settle 53 (.iload_n 1) 1 54 := ⟨by decide +kernel, rfl⟩
theorem dX12_settle_54 : dc cX12_settle 54 (.imul) 1 55 := ⟨by decide +kernel, rfl⟩
theorem dX12_settle_55 : dc cX12_settle 55 (.iadd) 1 56 := ⟨by decide +kernel, rfl⟩
theorem dX12_settle_56 : dc cX12_settle 56 (.iload_n 2) 1 57 := ⟨by decide +kernel, rfl⟩
theorem dX12_settle_57 : dc cX12_settle 57 (.iadd) 1 58 := ⟨by decide +kernel, rfl⟩
theorem dX12_settle_58 : dc cX12_settle 58 (.iaload) 1 59 := ⟨by decide +kernel, rfl⟩
theorem dX12_settle_59 : dc cX12_settle 59 (.istore_n 3) 1 60 := ⟨by decide +kernel, rfl⟩
theorem dX12_settle_60 : dc cX12_settle 60 (.aload_n 0) 1 61 := ⟨by decide +kernel, rfl⟩
theorem dX12_settle_61 : dc cX12_settle 61 (.getfield 35) 3 64 := ⟨by decide +kernel, rfl⟩
theorem dX12_settle_64 : dc cX12_settle 64 (.sipush 226) 3 67 := ⟨by decide +kernel, rfl⟩
theorem dX12_settle_67 : dc cX12_settle 67 (.bipush 8) 2 69 := ⟨by decide +kernel, rfl⟩
theorem dX12_settle_69 : dc cX12_settle 69 (.iload_n 1) 1 70 := ⟨by decide +kernel, rfl⟩
theorem dX12_settle_70 : dc cX12_settle 70 (.imul) 1 71 := ⟨by decide +kernel, rfl⟩
theorem dX12_settle_71 : dc cX12_settle 71 (.iadd) 1 72 := ⟨by decide +kernel, rfl⟩
theorem dX12_settle_72 : dc cX12_settle 72 (.iload_n 2) 1 73 := ⟨by decide +kernel, rfl⟩
theorem dX12_settle_73 : dc cX12_settle 73 (.iadd) 1 74 := ⟨by decide +kernel, rfl⟩
theorem dX12_settle_74 : dc cX12_settle 74 (.iconst 0) 1 75 := ⟨by decide +kernel, rfl⟩
theorem dX12_settle_75 : dc cX12_settle 75 (.iastore) 1 76 := ⟨by decide +kernel, rfl⟩
theorem dX12_settle_76 : dc cX12_settle 76 (.aload_n 0) 1 77 := ⟨by decide +kernel, rfl⟩
theorem dX12_settle_77 : dc cX12_settle 77 (.getfield 35) 3 80 := ⟨by decide +kernel, rfl⟩
theorem dX12_settle_80 : dc cX12_settle 80 (.sipush 226) 3 83 := ⟨by decide +kernel, rfl⟩
theorem dX12_settle_83 : dc cX12_settle 83 (.bipush 8) 2 85 := ⟨by decide +kernel, rfl⟩
theorem dX12_settle_85 : dc cX12_settle 85 (.iload_n 2) 1 86 := ⟨by decide +kernel, rfl⟩
theorem dX12_settle_86 : dc cX12_settle 86 (.imul) 1 87 := ⟨by decide +kernel, rfl⟩
theorem dX12_settle_87 : dc cX12_settle 87 (.iadd) 1 88 := ⟨by decide +kernel, rfl⟩
theorem dX12_settle_88 : dc cX12_settle 88 (.iload_n 1) 1 89 := ⟨by decide +kernel, rfl⟩
theorem dX12_settle_89 : dc cX12_settle 89 (.iadd) 1 90 := ⟨by decide +kernel, rfl⟩
theorem dX12_settle_90 : dc cX12_settle 90 (.iconst 0) 1 91 := ⟨by decide +kernel, rfl⟩
theorem dX12_settle_91 : dc cX12_settle 91 (.iastore) 1 92 := ⟨by decide +kernel, rfl⟩
theorem dX12_settle_92 : dc cX12_settle 92 (.iload_n 3) 1 93 := ⟨by decide +kernel, rfl⟩
theorem dX12_settle_93 : dc cX12_settle 93 (.ireturn) 1 94 := ⟨by decide +kernel, rfl⟩
theorem nm_X12_settle : (yX12_settle).cls ≠ "java/lang/invoke/MethodHandle" ∧ (yX12_settle).cls ≠ "java/lang/invoke/VarHandle" ∧ (parseMethodDescriptor (yX12_settle).desc).map (fun d => d.parameters.length) = some 2 := ⟨by decide +kernel, by decide +kernel, by decide +kernel⟩
set_option maxRecDepth 100000 in
set_option maxHeartbeats 4000000 in
theorem c_X12_settle {l : Launch} {ad : Nat → Nat} {cy : Nat → ClassId} {D : va_G} {z : Nat} (n : Nat) {a0 : Nat} {p1 : Int32} {p2 : Int32} {M : KM} {y : (Int32 × KM)} (h0 : kty a0 = 12) (hf : f_X12_settle n a0 p1 p2 M = some y) : KC l ad cy D z yX12_settle cX12_settle 4 (some .int) 3 [.ref (ad a0), .int p1, .int p2] M (some (.int y.1), y.2) := by
  refine kv_enter (by decide +kernel) (Nat.le_of_ble_eq_true rfl) ?_
  intro x hl hD hz G
  subst hl hD hz
  unfold f_X12_settle at hf
  have G : KG ad cy x cX12_settle "NoonGuidesModel" 4 (some (some .int)) 3 := G
  show KV ad cy x (some (.int y.1), y.2) 0 [(0, .ref (ad a0)), (1, .int p1), (2, .int p2)] [] M
  refine v_aload_n G dX12_settle_0 0 rfl ?_
  refine v_iconst (0 : Int32) G dX12_settle_1 (by decide) ?_
  refine pf_12_1 G h0 t_1492 (Or.inl rfl) dX12_settle_2 ?_
  refine v_nmM (fun M1 eM1 => ?_)
  replace hf := lt_e hf eM1
  refine v_aload_n G dX12_settle_5 0 rfl ?_
  refine v_iconst (0 : Int32) G dX12_settle_6 (by decide) ?_
  refine pf_12_0 G h0 t_1491 (Or.inl rfl) dX12_settle_7 ?_
  refine v_nmM (fun M2 eM2 => ?_)
  replace hf := lt_e hf eM2
  refine v_aload_n G dX12_settle_10 0 rfl ?_
  refine v_iload_n G dX12_settle_11 1 rfl ?_
  obtain ⟨v3, hcv3, hf⟩ := bd_e hf
  refine v_callV [.int p1] G (c_X12_isPerson n h0 hcv3) h0 (by decide) rfl rfl rfl t_1971 t_1973 t_p118 t_17 t_1974 nm_X12_isPerson (by decide) (by decide) rfl rfl (Nat.le_of_ble_eq_true rfl) dX12_settle_12 (kv_ri ?_)
  obtain ⟨j26, ej26, hf⟩ := lt_j hf
  have hj26 : j26 = some y → KV ad cy x (some (.int y.1), y.2) 26 [(0, .ref (ad a0))] [] M2 := by
    intro hf
    rw [ej26] at hf
    refine v_aload_n G dX12_settle_26 0 rfl ?_
    refine v_iconst (2 : Int32) G dX12_settle_27 (by decide) ?_
    obtain ⟨v4, hcv4⟩ : ∃ q, f_X12_refuse a0 (2 : Int32) M2 = q := ⟨_, rfl⟩
    replace hf := lt_e hf hcv4.symm
    refine v_callV [.int (2 : Int32)] G (c_X12_refuse h0 hcv4) h0 (by decide) rfl rfl rfl t_1926 t_1928 t_p110 t_17 t_1929 nm_X12_refuse (by decide) (by decide) rfl rfl (Nat.le_of_ble_eq_true rfl) dX12_settle_28 (kv_ri ?_)
    obtain rfl := Option.some.inj hf
    exact v_iret G dX12_settle_31
  refine v_if_eq 26 G dX12_settle_15 (by decide) (fun h15 => ?_) (fun h15 => ?_)
  · replace hf := (if_pos h15).symm.trans hf
    refine v_sub _ [0] rfl ?_
    exact hj26 hf
  · replace hf := (if_neg h15).symm.trans hf
    refine v_aload_n G dX12_settle_18 0 rfl ?_
    refine v_iload_n G dX12_settle_19 2 rfl ?_
    obtain ⟨v5, hcv5, hf⟩ := bd_e hf
    refine v_callV [.int p2] G (c_X12_isPerson n h0 hcv5) h0 (by decide) rfl rfl rfl t_1971 t_1973 t_p118 t_17 t_1974 nm_X12_isPerson (by decide) (by decide) rfl rfl (Nat.le_of_ble_eq_true rfl) dX12_settle_20 (kv_ri ?_)
    refine v_if_ne 32 G dX12_settle_23 (by decide) (fun h14 => ?_) (fun h14 => ?_)
    · replace hf := (if_neg h14).symm.trans hf
      refine v_iload_n G dX12_settle_32 1 rfl ?_
      refine v_iload_n G dX12_settle_33 2 rfl ?_
      refine v_icmp_ne 44 G dX12_settle_34 (by decide) (fun h13 => ?_) (fun h13 => ?_)
      · replace hf := (if_neg h13).symm.trans hf
        refine v_aload_n G dX12_settle_44 0 rfl ?_
        refine gf_12_20 G h0 t_1511 (Or.inl rfl) dX12_settle_45 ?_
        refine v_sipush (226 : Int32) G dX12_settle_48 (by decide) ?_
        refine v_bipush (8 : Int32) G dX12_settle_51 (by decide) ?_
        refine v_iload_n G dX12_settle_53 1 rfl ?_
        refine v_imul G dX12_settle_54 ?_
        refine v_iadd G dX12_settle_55 ?_
        refine v_iload_n G dX12_settle_56 2 rfl ?_
        refine v_iadd G dX12_settle_57 ?_
        obtain ⟨g6, hf⟩ := gd_e hf
        refine al_36 G (kf_12_5 h0) g6 dX12_settle_58 ?_
        refine v_nmi (fun v7 ev7 => ?_)
        replace hf := lt_e hf ev7
        refine v_istore_n [(3, .int v7), (0, .ref (ad a0)), (1, .int p1), (2, .int p2)] G dX12_settle_59 (by decide) rfl ?_
        refine v_aload_n G dX12_settle_60 1 rfl ?_
        refine gf_12_20 G h0 t_1511 (Or.inl rfl) dX12_settle_61 ?_
        refine v_sipush (226 : Int32) G dX12_settle_64 (by decide) ?_
        refine v_bipush (8 : Int32) G dX12_settle_67 (by decide) ?_
        refine v_iload_n G dX12_settle_69 2 rfl ?_
        refine v_imul G dX12_settle_70 ?_
        refine v_iadd G dX12_settle_71 ?_
        refine v_iload_n G dX12_settle_72 3 rfl ?_
        refine v_iadd G dX12_settle_73 ?_
        refine v_iconst (0 : Int32) G dX12_settle_74 (by decide) ?_
        obtain ⟨g8, hf⟩ := gd_e hf
        refine as_36 G (kf_12_5 h0) g8 dX12_settle_75 ?_
        refine v_nmM (fun M9 eM9 => ?_)
        replace hf := lt_e hf eM9
        refine v_aload_n G dX12_settle_76 1 rfl ?_
        refine gf_12_20 G h0 t_1511 (Or.inl rfl) dX12_settle_77 ?_
        refine v_sipush (226 : Int32) G dX12_settle_80 (by decide) ?_
        refine v_bipush (8 : Int32) G dX12_settle_83 (by decide) ?_
        refine v_iload_n G dX12_settle_85 3 rfl ?_
        refine v_imul G dX12_settle_86 ?_
        refine v_iadd G dX12_settle_87 ?_
        refine v_iload_n G dX12_settle_88 2 rfl ?_
        refine v_iadd G dX12_settle_89 ?_
        refine v_iconst (0 : Int32) G dX12_settle_90 (by decide) ?_
        obtain ⟨g10, hf⟩ := gd_e hf
        refine as_36 G (kf_12_5 h0) g10 dX12_settle_91 ?_
        refine v_nmM (fun M11 eM11 => ?_)
        replace hf := lt_e hf eM11
        refine v_iload_n G dX12_settle_92 0 rfl ?_
        obtain rfl := Option.some.inj hf
        exact v_iret G dX12_settle_93
      · replace hf := (if_pos h13).symm.trans hf
        refine v_aload_n G dX12_settle_37 0 rfl ?_
        refine v_bipush (9 : Int32) G dX12_settle_38 (by decide) ?_
        obtain ⟨v12, hcv12⟩ : ∃ q, f_X12_refuse a0 (9 : Int32) M2 = q := ⟨_, rfl⟩
        replace hf := lt_e hf hcv12.symm
        refine v_callV [.int (9 : Int32)] G (c_X12_refuse h0 hcv12) h0 (by decide) rfl rfl rfl t_1926 t_1928 t_p110 t_17 t_1929 nm_X12_refuse (by decide) (by decide) rfl rfl (Nat.le_of_ble_eq_true rfl) dX12_settle_40 (kv_ri ?_)
        obtain rfl := Option.some.inj hf
        exact v_iret G dX12_settle_43
    · replace hf := (if_pos h14).symm.trans hf
      refine v_sub _ [0] rfl ?_
      exact hj26 hf
abbrev cX12_areHours : ByteArray := prog_14_method_117_code
def yX12_areHours : MethodName := ⟨RX12, "areHours", "(II)Z"⟩
theorem dX12_areHours_0 : dc cX12_areHours 0 (.iload_n 0) 1 1 := ⟨by decide +kernel, rfl⟩
theorem dX12_areHours_1 : dc cX12_areHours 1 (.i2l) 1 2 := ⟨by decide +kernel, rfl⟩
theorem dX12_areHours_2 : dc cX12_areHours 2 (.lconst 0) 1 3 := ⟨by decide +kernel, rfl⟩
theorem dX12_areHours_3 : dc cX12_areHours 3 (.ldc2_w 436) 3 6 := ⟨by decide +kernel, rfl⟩
theorem dX12_areHours_6 : dc cX12_areHours 6 (.invokestatic 110) 3 9 := ⟨by decide +kernel, rfl⟩
theorem dX12_areHours_9 : dc cX12_areHours 9 (.ifCond .eq 22) 3 12 := ⟨by decide +kernel, rfl⟩
theorem dX12_areHours_12 : dc cX12_areHours 12 (.iload_n 1) 1 13 := ⟨by decide +kernel, rfl⟩
theorem dX12_areHours_13 : dc cX12_areHours 13 (.i2l) 1 14 := ⟨by decide +kernel, rfl⟩
theorem dX12_areHours_14 : dc cX12_areHours 14 (.iload_n 0) 1 15 := ⟨by decide +kernel, rfl⟩
theorem dX12_areHours_15 : dc cX12_areHours 15 (.i2l) 1 16 := ⟨by decide +kernel, rfl⟩
theorem dX12_areHours_16 : dc cX12_areHours 16 (.lconst 1) 1 17 := ⟨by decide +kernel, rfl⟩
theorem dX12_areHours_17 : dc cX12_areHours 17 (.ladd) 1 18 := ⟨by decide +kernel, rfl⟩
theorem dX12_areHours_18 : dc cX12_areHours 18 (.ldc2_w 438) 3 21 := ⟨by decide +kernel, rfl⟩
theorem dX12_areHours_21 : dc cX12_areHours 21 (.invokestatic 110) 3 24 := ⟨by decide +kernel, rfl⟩
theorem dX12_areHours_24 : dc cX12_areHours 24 (.ifCond .eq 7) 3 27 := ⟨by decide +kernel, rfl⟩
theorem dX12_areHours_27 : dc cX12_areHours 27 (.iconst 1) 1 28 := ⟨by decide +kernel, rfl⟩
theorem dX12_areHours_28 : dc cX12_areHours 28 (.goto 4) 3 31 := ⟨by decide +kernel, rfl⟩
theorem dX12_areHours_31 : dc cX12_areHours 31 (.iconst 0) 1 32 := ⟨by decide +kernel, rfl⟩
theorem dX12_areHours_32 : dc cX12_areHours 32 (.ireturn) 1 33 := ⟨by decide +kernel, rfl⟩
theorem nm_X12_areHours : (yX12_areHours).cls ≠ "java/lang/invoke/MethodHandle" ∧ (yX12_areHours).cls ≠ "java/lang/invoke/VarHandle" ∧ (parseMethodDescriptor (yX12_areHours).desc).map (fun d => d.parameters.length) = some 2 := ⟨by decide +kernel, by decide +kernel, by decide +kernel⟩
set_option maxRecDepth 100000 in
theorem z_X12_areHours {p0 : Int32} {p1 : Int32} {M : KM} {y : Int32} (hf : f_X12_areHours p0 p1 M = y) : (y = 0 ∨ y = 1) := by
  unfold f_X12_areHours at hf
  obtain ⟨v1, hcv1⟩ : ∃ q, f_X12_isIn (p0).toInt64 (0 : Int64) (23 : Int64) M = q := ⟨_, rfl⟩
  replace hf := lt_e hf hcv1.symm
  by_cases h4 : v1 = 0
  · replace hf := (if_pos h4).symm.trans hf
    obtain rfl := hf
    exact (Or.inl rfl)
  · replace hf := (if_neg h4).symm.trans hf
    obtain ⟨v2, hcv2⟩ : ∃ q, f_X12_isIn (p1).toInt64 ((p0).toInt64 + (1 : Int64)) (24 : Int64) M = q := ⟨_, rfl⟩
    replace hf := lt_e hf hcv2.symm
    by_cases h3 : v2 = 0
    · replace hf := (if_pos h3).symm.trans hf
      obtain rfl := hf
      exact (Or.inl rfl)
    · replace hf := (if_neg h3).symm.trans hf
      obtain rfl := hf
      exact (Or.inr rfl)
set_option maxRecDepth 100000 in
set_option maxHeartbeats 4000000 in
theorem c_X12_areHours {l : Launch} {ad : Nat → Nat} {cy : Nat → ClassId} {D : va_G} {z : Nat} {p0 : Int32} {p1 : Int32} {M : KM} {y : Int32} (hf : f_X12_areHours p0 p1 M = y) : KC l ad cy D z yX12_areHours cX12_areHours 2 (some .boolean) 2 [.int p0, .int p1] M (some (.int y), M) := by
  refine kv_enter (by decide +kernel) (Nat.le_of_ble_eq_true rfl) ?_
  intro x hl hD hz G
  subst hl hD hz
  unfold f_X12_areHours at hf
  have G : KG ad cy x cX12_areHours "NoonGuidesModel" 2 (some (some .boolean)) 2 := G
  show KV ad cy x (some (.int y), M) 0 [(0, .int p0), (1, .int p1)] [] M
  refine v_iload_n G dX12_areHours_0 0 rfl ?_
  refine v_i2l G dX12_areHours_1 ?_
  refine v_lconst (0 : Int64) G dX12_areHours_2 (by decide) ?_
  refine v_ldc2 G dX12_areHours_3 t_2097 ?_
  obtain ⟨v1, hcv1⟩ : ∃ q, f_X12_isIn (p0).toInt64 (0 : Int64) (23 : Int64) M = q := ⟨_, rfl⟩
  replace hf := lt_e hf hcv1.symm
  refine v_callS [.long (p0).toInt64, .long (0 : Int64), .long (23 : Int64)] G (c_X12_isIn hcv1) t_1755 t_1756 t_17 t_1757 nm_X12_isIn (by decide) (by decide) rfl rfl (Nat.le_of_ble_eq_true rfl) dX12_areHours_6 (kv_ri ?_)
  refine v_if_eq 31 G dX12_areHours_9 (by decide) (fun h4 => ?_) (fun h4 => ?_)
  · replace hf := (if_pos h4).symm.trans hf
    refine v_iconst (0 : Int32) G dX12_areHours_31 (by decide) ?_
    obtain rfl := hf
    exact v_zret G (Or.inl rfl) dX12_areHours_32
  · replace hf := (if_neg h4).symm.trans hf
    refine v_iload_n G dX12_areHours_12 1 rfl ?_
    refine v_i2l G dX12_areHours_13 ?_
    refine v_iload_n G dX12_areHours_14 0 rfl ?_
    refine v_i2l G dX12_areHours_15 ?_
    refine v_lconst (1 : Int64) G dX12_areHours_16 (by decide) ?_
    refine v_ladd G dX12_areHours_17 ?_
    refine v_ldc2 G dX12_areHours_18 t_2098 ?_
    obtain ⟨v2, hcv2⟩ : ∃ q, f_X12_isIn (p1).toInt64 ((p0).toInt64 + (1 : Int64)) (24 : Int64) M = q := ⟨_, rfl⟩
    replace hf := lt_e hf hcv2.symm
    refine v_callS [.long (p1).toInt64, .long ((p0).toInt64 + (1 : Int64)), .long (24 : Int64)] G (c_X12_isIn hcv2) t_1755 t_1756 t_17 t_1757 nm_X12_isIn (by decide) (by decide) rfl rfl (Nat.le_of_ble_eq_true rfl) dX12_areHours_21 (kv_ri ?_)
    refine v_if_eq 31 G dX12_areHours_24 (by decide) (fun h3 => ?_) (fun h3 => ?_)
    · replace hf := (if_pos h3).symm.trans hf
      refine v_iconst (0 : Int32) G dX12_areHours_31 (by decide) ?_
      obtain rfl := hf
      exact v_zret G (Or.inl rfl) dX12_areHours_32
    · replace hf := (if_neg h3).symm.trans hf
      refine v_iconst (1 : Int32) G dX12_areHours_27 (by decide) ?_
      refine v_goto 32 G dX12_areHours_28 (by decide) ?_
      obtain rfl := hf
      exact v_zret G (Or.inr rfl) dX12_areHours_32
abbrev cX12_rule : ByteArray := prog_14_method_118_code
def yX12_rule : MethodName := ⟨RX12, "rule", "(II)Z"⟩
theorem dX12_rule_0 : dc cX12_rule 0 (.aload_n 0) 1 1 := ⟨by decide +kernel, rfl⟩
theorem dX12_rule_1 : dc cX12_rule 1 (.iconst 0) 1 2 := ⟨by decide +kernel, rfl⟩
theorem dX12_rule_2 : dc cX12_rule 2 (.putfield 75) 3 5 := ⟨by decide +kernel, rfl⟩
theorem dX12_rule_5 : dc cX12_rule 5 (.aload_n 0) 1 6 := ⟨by decide +kernel, rfl⟩
theorem dX12_rule_6 : dc cX12_rule 6 (.iconst 0) 1 7 := ⟨by decide +kernel, rfl⟩
theorem dX12_rule_7 : dc cX12_rule 7 (.putfield 78) 3 10 := ⟨by decide +kernel, rfl⟩
theorem dX12_rule_10 : dc cX12_rule 10 (.iload_n 1) 1 11 := ⟨by decide +kernel, rfl⟩
theorem dX12_rule_11 : dc cX12_rule 11 (.iload_n 2) 1 12 := ⟨by decide +kernel, rfl⟩
theorem dX12_rule_12 : dc cX12_rule 12 (.invokestatic 440) 3 15 := ⟨by decide +kernel, rfl⟩
theorem dX12_rule_15 : dc cX12_rule 15 (.ifCond .ne 9) 3 18 := ⟨by decide +kernel, rfl⟩
theorem dX12_rule_18 : dc cX12_rule 18 (.aload_n 0) 1 19 := ⟨by decide +kernel, rfl⟩
theorem dX12_rule_19 : dc cX12_rule 19 (.iconst 5) 1 20 := ⟨by decide +kernel, rfl⟩
theorem dX12_rule_20 : dc cX12_rule 20 (.invokevirtual 90) 3 23 := ⟨by decide +kernel, rfl⟩
theorem dX12_rule_23 : dc cX12_rule 23 (.ireturn) 1 24 := ⟨by decide +kernel, rfl⟩
theorem dX12_rule_24 : dc cX12_rule 24 (.aload_n 0) 1 25 := ⟨by decide +kernel, rfl⟩
theorem dX12_rule_25 : dc cX12_rule 25 (.getfield 35) 3 28 := ⟨by decide +kernel, rfl⟩
theorem dX12_rule_28 : dc cX12_rule 28 (.iconst 3) 1 29 := ⟨by decide +kernel, rfl⟩
theorem dX12_rule_29 : dc cX12_rule 29 (.iload_n 1) 1 30 := ⟨by decide +kernel, rfl⟩
theorem dX12_rule_30 : dc cX12_rule 30 (.iastore) 1 31 := ⟨by decide +kernel, rfl⟩
theorem dX12_rule_31 : dc cX12_rule 31 (.aload_n 0) 1 32 := ⟨by decide +kernel, rfl⟩
theorem dX12_rule_32 : dc cX12_rule 32 (.getfield 35) 3 35 := ⟨by decide +kernel, rfl⟩
theorem dX12_rule_35 : dc cX12_rule 35 (.iconst 4) 1 36 := ⟨by decide +kernel, rfl⟩
theorem dX12_rule_36 : dc cX12_rule 36 (.iload_n 2) 1 37 := ⟨by decide +kernel, rfl⟩
theorem dX12_rule_37 : dc cX12_rule 37 (.iastore) 1 38 := ⟨by decide +kernel, rfl⟩
theorem dX12_rule_38 : dc cX12_rule 38 (.iconst 1) 1 39 := ⟨by decide +kernel, rfl⟩
theorem dX12_rule_39 : dc cX12_rule 39 (.ireturn) 1 40 := ⟨by decide +kernel, rfl⟩
theorem nm_X12_rule : (yX12_rule).cls ≠ "java/lang/invoke/MethodHandle" ∧ (yX12_rule).cls ≠ "java/lang/invoke/VarHandle" ∧ (parseMethodDescriptor (yX12_rule).desc).map (fun d => d.parameters.length) = some 2 := ⟨by decide +kernel, by decide +kernel, by decide +kernel⟩
set_option maxRecDepth 100000 in
theorem z_X12_rule (n : Nat) {a0 : Nat} {p1 : Int32} {p2 : Int32} {M : KM} {y : (Int32 × KM)} (hf : f_X12_rule n a0 p1 p2 M = some y) : (y.1 = 0 ∨ y.1 = 1) := by
  unfold f_X12_rule at hf
  obtain ⟨M1, eM1⟩ : ∃ q : KM, q = (uI M a0 1 (0 : Int32)) := ⟨_, rfl⟩
  replace hf := lt_e hf eM1
  obtain ⟨M2, eM2⟩ : ∃ q : KM, q = (uI M1 a0 0 (0 : Int32)) := ⟨_, rfl⟩
  replace hf := lt_e hf eM2
  obtain ⟨v3, hcv3⟩ : ∃ q, f_X12_areHours p1 p2 M2 = q := ⟨_, rfl⟩
  replace hf := lt_e hf hcv3.symm
  by_cases h9 : v3 = 0
  · replace hf := (if_pos h9).symm.trans hf
    obtain ⟨v8, hcv8⟩ : ∃ q, f_X12_no a0 (5 : Int32) M2 = q := ⟨_, rfl⟩
    replace hf := lt_e hf hcv8.symm
    obtain rfl := Option.some.inj hf
    exact (z_X12_no hcv8)
  · replace hf := (if_neg h9).symm.trans hf
    obtain ⟨g4, hf⟩ := gd_e hf
    obtain ⟨M5, eM5⟩ : ∃ q : KM, q = (uI M2 (a0 + 5) ((3 : Int32)).toNatClampNeg p1) := ⟨_, rfl⟩
    replace hf := lt_e hf eM5
    obtain ⟨g6, hf⟩ := gd_e hf
    obtain ⟨M7, eM7⟩ : ∃ q : KM, q = (uI M5 (a0 + 5) ((4 : Int32)).toNatClampNeg p2) := ⟨_, rfl⟩
    replace hf := lt_e hf eM7
    obtain rfl := Option.some.inj hf
    exact (Or.inr rfl)
set_option maxRecDepth 100000 in
set_option maxHeartbeats 4000000 in
theorem c_X12_rule {l : Launch} {ad : Nat → Nat} {cy : Nat → ClassId} {D : va_G} {z : Nat} (n : Nat) {a0 : Nat} {p1 : Int32} {p2 : Int32} {M : KM} {y : (Int32 × KM)} (h0 : kty a0 = 12) (hf : f_X12_rule n a0 p1 p2 M = some y) : KC l ad cy D z yX12_rule cX12_rule 3 (some .boolean) 3 [.ref (ad a0), .int p1, .int p2] M (some (.int y.1), y.2) := by
  refine kv_enter (by decide +kernel) (Nat.le_of_ble_eq_true rfl) ?_
  intro x hl hD hz G
  subst hl hD hz
  unfold f_X12_rule at hf
  have G : KG ad cy x cX12_rule "NoonGuidesModel" 3 (some (some .boolean)) 3 := G
  show KV ad cy x (some (.int y.1), y.2) 0 [(0, .ref (ad a0)), (1, .int p1), (2, .int p2)] [] M
  refine v_aload_n G dX12_rule_0 0 rfl ?_
  refine v_iconst (0 : Int32) G dX12_rule_1 (by decide) ?_
  refine pf_12_1 G h0 t_1492 (Or.inl rfl) dX12_rule_2 ?_
  refine v_nmM (fun M1 eM1 => ?_)
  replace hf := lt_e hf eM1
  refine v_aload_n G dX12_rule_5 0 rfl ?_
  refine v_iconst (0 : Int32) G dX12_rule_6 (by decide) ?_
  refine pf_12_0 G h0 t_1491 (Or.inl rfl) dX12_rule_7 ?_
  refine v_nmM (fun M2 eM2 => ?_)
  replace hf := lt_e hf eM2
  refine v_iload_n G dX12_rule_10 1 rfl ?_
  refine v_iload_n G dX12_rule_11 2 rfl ?_
  obtain ⟨v3, hcv3⟩ : ∃ q, f_X12_areHours p1 p2 M2 = q := ⟨_, rfl⟩
  replace hf := lt_e hf hcv3.symm
  refine v_callS [.int p1, .int p2] G (c_X12_areHours hcv3) t_2094 t_2095 t_17 t_2096 nm_X12_areHours (by decide) (by decide) rfl rfl (Nat.le_of_ble_eq_true rfl) dX12_rule_12 (kv_ri ?_)
  refine v_if_ne 24 G dX12_rule_15 (by decide) (fun h9 => ?_) (fun h9 => ?_)
  · replace hf := (if_neg h9).symm.trans hf
    refine v_aload_n G dX12_rule_24 0 rfl ?_
    refine gf_12_20 G h0 t_1511 (Or.inl rfl) dX12_rule_25 ?_
    refine v_iconst (3 : Int32) G dX12_rule_28 (by decide) ?_
    refine v_iload_n G dX12_rule_29 1 rfl ?_
    obtain ⟨g4, hf⟩ := gd_e hf
    refine as_36 G (kf_12_5 h0) g4 dX12_rule_30 ?_
    refine v_nmM (fun M5 eM5 => ?_)
    replace hf := lt_e hf eM5
    refine v_aload_n G dX12_rule_31 0 rfl ?_
    refine gf_12_20 G h0 t_1511 (Or.inl rfl) dX12_rule_32 ?_
    refine v_iconst (4 : Int32) G dX12_rule_35 (by decide) ?_
    refine v_iload_n G dX12_rule_36 2 rfl ?_
    obtain ⟨g6, hf⟩ := gd_e hf
    refine as_36 G (kf_12_5 h0) g6 dX12_rule_37 ?_
    refine v_nmM (fun M7 eM7 => ?_)
    replace hf := lt_e hf eM7
    refine v_iconst (1 : Int32) G dX12_rule_38 (by decide) ?_
    obtain rfl := Option.some.inj hf
    exact v_zret G (Or.inr rfl) dX12_rule_39
  · replace hf := (if_pos h9).symm.trans hf
    refine v_aload_n G dX12_rule_18 0 rfl ?_
    refine v_iconst (5 : Int32) G dX12_rule_19 (by decide) ?_
    obtain ⟨v8, hcv8⟩ : ∃ q, f_X12_no a0 (5 : Int32) M2 = q := ⟨_, rfl⟩
    replace hf := lt_e hf hcv8.symm
    refine v_callV [.int (5 : Int32)] G (c_X12_no h0 hcv8) h0 (by decide) rfl rfl rfl t_1649 t_1651 t_p55 t_17 t_1652 nm_X12_no (by decide) (by decide) rfl rfl (Nat.le_of_ble_eq_true rfl) dX12_rule_20 (kv_ri ?_)
    obtain rfl := Option.some.inj hf
    exact v_zret G (z_X12_no hcv8) dX12_rule_23
abbrev cX12_glareAt : ByteArray := prog_14_method_119_code
def yX12_glareAt : MethodName := ⟨RX12, "glareAt", "(I)I"⟩
theorem dX12_glareAt_0 : dc cX12_glareAt 0 (.aload_n 0) 1 1 := ⟨by decide +kernel, rfl⟩
theorem dX12_glareAt_1 : dc cX12_glareAt 1 (.iconst 0) 1 2 := ⟨by decide +kernel, rfl⟩
theorem dX12_glareAt_2 : dc cX12_glareAt 2 (.putfield 75) 3 5 := ⟨by decide +kernel, rfl⟩
theorem dX12_glareAt_5 : dc cX12_glareAt 5 (.aload_n 0) 1 6 := ⟨by decide +kernel, rfl⟩
theorem dX12_glareAt_6 : dc cX12_glareAt 6 (.iconst 0) 1 7 := ⟨by decide +kernel, rfl⟩
theorem dX12_glareAt_7 : dc cX12_glareAt 7 (.putfield 78) 3 10 := ⟨by decide +kernel, rfl⟩
theorem dX12_glareAt_10 : dc cX12_glareAt 10 (.iload_n 1) 1 11 := ⟨by decide +kernel, rfl⟩
theorem dX12_glareAt_11 : dc cX12_glareAt 11 (.i2l) 1 12 := ⟨by decide +kernel, rfl⟩
theorem dX12_glareAt_12 : dc cX12_glareAt 12 (.lconst 0) 1 13 := ⟨by decide +kernel, rfl⟩
theorem dX12_glareAt_13 : dc cX12_glareAt 13 (.ldc2_w 443) 3 16 := ⟨by decide +kernel, rfl⟩
theorem dX12_glareAt_16 : dc cX12_glareAt 16 (.invokestatic 110) 3 19 := ⟨by decide +kernel, rfl⟩
theorem dX12_glareAt_19 : dc cX12_glareAt 19 (.ifCond .ne 9) 3 22 := ⟨by decide +kernel, rfl⟩
theorem dX12_glareAt_22 : dc cX12_glareAt 22 (.aload_n 0) 1 23 := ⟨by decide +kernel, rfl⟩
theorem dX12_glareAt_23 : dc cX12_glareAt 23 (.iconst 5) 1 24 := ⟨by decide +kernel, rfl⟩
theorem dX12_glareAt_24 : dc cX12_glareAt 24 (.invokevirtual 355) 3 27 := ⟨by decide +kernel, rfl⟩
theorem dX12_glareAt_27 : dc cX12_glareAt 27 (.ireturn) 1 28 := ⟨by decide +kernel, rfl⟩
theorem dX12_glareAt_28 : dc cX12_glareAt 28 (.aload_n 0) 1 29 := ⟨by decide +kernel, rfl⟩
theorem dX12_glareAt_29 : dc cX12_glareAt 29 (.iload_n 1) 1 30 := ⟨by decide +kernel, rfl⟩
theorem dX12_glareAt_30 : dc cX12_glareAt 30 (.invokevirtual 343) 3 33 := ⟨by decide +kernel, rfl⟩
theorem dX12_glareAt_33 : dc cX12_glareAt 33 (.ifCond .eq 7) 3 36 := ⟨by decide +kernel, rfl⟩
theorem dX12_glareAt_36 : dc cX12_glareAt 36 (.iconst 1) 1 37 := ⟨by decide +kernel, rfl⟩
theorem dX12_glareAt_37 : dc cX12_glareAt 37 (.goto 4) 3 40 := ⟨by decide +kernel, rfl⟩
theorem dX12_glareAt_40 : dc cX12_glareAt 40 (.iconst 0) 1 41 := ⟨by decide +kernel, rfl⟩
theorem dX12_glareAt_41 : dc cX12_glareAt 41 (.ireturn) 1 42 := ⟨by decide +kernel, rfl⟩
theorem nm_X12_glareAt : (yX12_glareAt).cls ≠ "java/lang/invoke/MethodHandle" ∧ (yX12_glareAt).cls ≠ "java/lang/invoke/VarHandle" ∧ (parseMethodDescriptor (yX12_glareAt).desc).map (fun d => d.parameters.length) = some 1 := ⟨by decide +kernel, by decide +kernel, by decide +kernel⟩
set_option maxRecDepth 100000 in
set_option maxHeartbeats 4000000 in
theorem c_X12_glareAt {l : Launch} {ad : Nat → Nat} {cy : Nat → ClassId} {D : va_G} {z : Nat} (n : Nat) {a0 : Nat} {p1 : Int32} {M : KM} {y : (Int32 × KM)} (h0 : kty a0 = 12) (hf : f_X12_glareAt n a0 p1 M = some y) : KC l ad cy D z yX12_glareAt cX12_glareAt 2 (some .int) 2 [.ref (ad a0), .int p1] M (some (.int y.1), y.2) := by
  refine kv_enter (by decide +kernel) (Nat.le_of_ble_eq_true rfl) ?_
  intro x hl hD hz G
  subst hl hD hz
  unfold f_X12_glareAt at hf
  have G : KG ad cy x cX12_glareAt "NoonGuidesModel" 2 (some (some .int)) 2 := G
  show KV ad cy x (some (.int y.1), y.2) 0 [(0, .ref (ad a0)), (1, .int p1)] [] M
  refine v_aload_n G dX12_glareAt_0 0 rfl ?_
  refine v_iconst (0 : Int32) G dX12_glareAt_1 (by decide) ?_
  refine pf_12_1 G h0 t_1492 (Or.inl rfl) dX12_glareAt_2 ?_
  refine v_nmM (fun M1 eM1 => ?_)
  replace hf := lt_e hf eM1
  refine v_aload_n G dX12_glareAt_5 0 rfl ?_
  refine v_iconst (0 : Int32) G dX12_glareAt_6 (by decide) ?_
  refine pf_12_0 G h0 t_1491 (Or.inl rfl) dX12_glareAt_7 ?_
  refine v_nmM (fun M2 eM2 => ?_)
  replace hf := lt_e hf eM2
  refine v_iload_n G dX12_glareAt_10 1 rfl ?_
  refine v_i2l G dX12_glareAt_11 ?_
  refine v_lconst (0 : Int64) G dX12_glareAt_12 (by decide) ?_
  refine v_ldc2 G dX12_glareAt_13 t_2103 ?_
  obtain ⟨v3, hcv3⟩ : ∃ q, f_X12_isIn (p1).toInt64 (0 : Int64) (99999 : Int64) M2 = q := ⟨_, rfl⟩
  replace hf := lt_e hf hcv3.symm
  refine v_callS [.long (p1).toInt64, .long (0 : Int64), .long (99999 : Int64)] G (c_X12_isIn hcv3) t_1755 t_1756 t_17 t_1757 nm_X12_isIn (by decide) (by decide) rfl rfl (Nat.le_of_ble_eq_true rfl) dX12_glareAt_16 (kv_ri ?_)
  refine v_if_ne 28 G dX12_glareAt_19 (by decide) (fun h7 => ?_) (fun h7 => ?_)
  · replace hf := (if_neg h7).symm.trans hf
    refine v_aload_n G dX12_glareAt_28 0 rfl ?_
    refine v_iload_n G dX12_glareAt_29 1 rfl ?_
    obtain ⟨v4, hcv4, hf⟩ := bd_e hf
    refine v_callV [.int p1] G (c_X12_glares n h0 hcv4) h0 (by decide) rfl rfl rfl t_1930 t_1932 t_p111 t_17 t_1933 nm_X12_glares (by decide) (by decide) rfl rfl (Nat.le_of_ble_eq_true rfl) dX12_glareAt_30 (kv_ri ?_)
    refine v_if_eq 40 G dX12_glareAt_33 (by decide) (fun h5 => ?_) (fun h5 => ?_)
    · replace hf := (if_pos h5).symm.trans hf
      refine v_iconst (0 : Int32) G dX12_glareAt_40 (by decide) ?_
      obtain rfl := Option.some.inj hf
      exact v_iret G dX12_glareAt_41
    · replace hf := (if_neg h5).symm.trans hf
      refine v_iconst (1 : Int32) G dX12_glareAt_36 (by decide) ?_
      refine v_goto 41 G dX12_glareAt_37 (by decide) ?_
      obtain rfl := Option.some.inj hf
      exact v_iret G dX12_glareAt_41
  · replace hf := (if_pos h7).symm.trans hf
    refine v_aload_n G dX12_glareAt_22 0 rfl ?_
    refine v_iconst (5 : Int32) G dX12_glareAt_23 (by decide) ?_
    obtain ⟨v6, hcv6⟩ : ∃ q, f_X12_refuse a0 (5 : Int32) M2 = q := ⟨_, rfl⟩
    replace hf := lt_e hf hcv6.symm
    refine v_callV [.int (5 : Int32)] G (c_X12_refuse h0 hcv6) h0 (by decide) rfl rfl rfl t_1926 t_1928 t_p110 t_17 t_1929 nm_X12_refuse (by decide) (by decide) rfl rfl (Nat.le_of_ble_eq_true rfl) dX12_glareAt_24 (kv_ri ?_)
    obtain rfl := Option.some.inj hf
    exact v_iret G dX12_glareAt_27
abbrev cX12_can : ByteArray := prog_14_method_120_code
def yX12_can : MethodName := ⟨RX12, "can", "(II)I"⟩
theorem dX12_can_0 : dc cX12_can 0 (.aload_n 0) 1 1 := ⟨by decide +kernel, rfl⟩
theorem dX12_can_1 : dc cX12_can 1 (.iconst 0) 1 2 := ⟨by decide +kernel, rfl⟩
theorem dX12_can_2 : dc cX12_can 2 (.putfield 75) 3 5 := ⟨by decide +kernel, rfl⟩
theorem dX12_can_5 : dc cX12_can 5 (.aload_n 0) 1 6 := ⟨by decide +kernel, rfl⟩
theorem dX12_can_6 : dc cX12_can 6 (.iconst 0) 1 7 := ⟨by decide +kernel, rfl⟩
theorem dX12_can_7 : dc cX12_can 7 (.putfield 78) 3 10 := ⟨by decide +kernel, rfl⟩
theorem dX12_can_10 : dc cX12_can 10 (.aload_n 0) 1 11 := ⟨by decide +kernel, rfl⟩
theorem dX12_can_11 : dc cX12_can 11 (.iload_n 1) 1 12 := ⟨by decide +kernel, rfl⟩
theorem dX12_can_12 : dc cX12_can 12 (.invokevirtual 373) 3 15 := ⟨by decide +kernel, rfl⟩
theorem dX12_can_15 : dc cX12_can 15 (.ifCond .eq 11) 3 18 := ⟨by decide +kernel, rfl⟩
theorem dX12_can_18 : dc cX12_can 18 (.aload_n 0) 1 19 := ⟨by decide +kernel, rfl⟩
theorem dX12_can_19 : dc cX12_can 19 (.iload_n 2) 1 20 := ⟨by decide +kernel, rfl⟩
theorem dX12_can_20 : dc cX12_can 20 (.invokevirtual 364) 3 23 := ⟨by decide +kernel, rfl⟩
theorem dX12_can_23 : dc cX12_can 23 (.ifCond .ne 9) 3 26 := ⟨by decide +kernel, rfl⟩
theorem dX12_can_26 : dc cX12_can 26 (.aload_n 0) 1 27 := ⟨by decide +kernel, rfl⟩
theorem dX12_can_27 : dc cX12_can 27 (.iconst 2) 1 28 := ⟨by decide +kernel, rfl⟩
theorem dX12_can_28 : dc cX12_can 28 (.invokevirtual 355) 3 31 := ⟨by decide +kernel, rfl⟩
theorem dX12_can_31 : dc cX12_can 31 (.ireturn) 1 32 := ⟨by decide +kernel, rfl⟩
theorem dX12_can_32 : dc cX12_can 32 (.aload_n 0) 1 33 := ⟨by decide +kernel, rfl⟩
theorem dX12_can_33 : dc cX12_can 33 (.iload_n 1) 1 34 := ⟨by decide +kernel, rfl⟩
theorem dX12_can_34 : dc cX12_can 34 (.iload_n 2) 1 35 := ⟨by decide +kernel, rfl⟩
theorem dX12_can_35 : dc cX12_can 35 (.invokevirtual 411) 3 38 := ⟨by decide +kernel, rfl⟩
theorem dX12_can_38 : dc cX12_can 38 (.ifCond .eq 7) 3 41 := ⟨by decide +kernel, rfl⟩
theorem dX12_can_41 : dc cX12_can 41 (.iconst 1) 1 42 := ⟨by decide +kernel, rfl⟩
theorem dX12_can_42 : dc cX12_can 42 (.goto 4) 3 45 := ⟨by decide +kernel, rfl⟩
theorem dX12_can_45 : dc cX12_can 45 (.iconst 0) 1 46 := ⟨by decide +kernel, rfl⟩
theorem dX12_can_46 : dc cX12_can 46 (.ireturn) 1 47 := ⟨by decide +kernel, rfl⟩
theorem nm_X12_can : (yX12_can).cls ≠ "java/lang/invoke/MethodHandle" ∧ (yX12_can).cls ≠ "java/lang/invoke/VarHandle" ∧ (parseMethodDescriptor (yX12_can).desc).map (fun d => d.parameters.length) = some 2 := ⟨by decide +kernel, by decide +kernel, by decide +kernel⟩
set_option maxRecDepth 100000 in
set_option maxHeartbeats 4000000 in
theorem c_X12_can {l : Launch} {ad : Nat → Nat} {cy : Nat → ClassId} {D : va_G} {z : Nat} (n : Nat) {a0 : Nat} {p1 : Int32} {p2 : Int32} {M : KM} {y : (Int32 × KM)} (h0 : kty a0 = 12) (hf : f_X12_can n a0 p1 p2 M = some y) : KC l ad cy D z yX12_can cX12_can 3 (some .int) 3 [.ref (ad a0), .int p1, .int p2] M (some (.int y.1), y.2) := by
  refine kv_enter (by decide +kernel) (Nat.le_of_ble_eq_true rfl) ?_
  intro x hl hD hz G
  subst hl hD hz
  unfold f_X12_can at hf
  have G : KG ad cy x cX12_can "NoonGuidesModel" 3 (some (some .int)) 3 := G
  show KV ad cy x (some (.int y.1), y.2) 0 [(0, .ref (ad a0)), (1, .int p1), (2, .int p2)] [] M
  refine v_aload_n G dX12_can_0 0 rfl ?_
  refine v_iconst (0 : Int32) G dX12_can_1 (by decide) ?_
  refine pf_12_1 G h0 t_1492 (Or.inl rfl) dX12_can_2 ?_
  refine v_nmM (fun M1 eM1 => ?_)
  replace hf := lt_e hf eM1
  refine v_aload_n G dX12_can_5 0 rfl ?_
  refine v_iconst (0 : Int32) G dX12_can_6 (by decide) ?_
  refine pf_12_0 G h0 t_1491 (Or.inl rfl) dX12_can_7 ?_
  refine v_nmM (fun M2 eM2 => ?_)
  replace hf := lt_e hf eM2
  refine v_aload_n G dX12_can_10 0 rfl ?_
  refine v_iload_n G dX12_can_11 1 rfl ?_
  obtain ⟨v3, hcv3, hf⟩ := bd_e hf
  refine v_callV [.int p1] G (c_X12_isPerson n h0 hcv3) h0 (by decide) rfl rfl rfl t_1971 t_1973 t_p118 t_17 t_1974 nm_X12_isPerson (by decide) (by decide) rfl rfl (Nat.le_of_ble_eq_true rfl) dX12_can_12 (kv_ri ?_)
  obtain ⟨j26, ej26, hf⟩ := lt_j hf
  have hj26 : j26 = some y → KV ad cy x (some (.int y.1), y.2) 26 [(0, .ref (ad a0))] [] M2 := by
    intro hf
    rw [ej26] at hf
    refine v_aload_n G dX12_can_26 0 rfl ?_
    refine v_iconst (2 : Int32) G dX12_can_27 (by decide) ?_
    obtain ⟨v4, hcv4⟩ : ∃ q, f_X12_refuse a0 (2 : Int32) M2 = q := ⟨_, rfl⟩
    replace hf := lt_e hf hcv4.symm
    refine v_callV [.int (2 : Int32)] G (c_X12_refuse h0 hcv4) h0 (by decide) rfl rfl rfl t_1926 t_1928 t_p110 t_17 t_1929 nm_X12_refuse (by decide) (by decide) rfl rfl (Nat.le_of_ble_eq_true rfl) dX12_can_28 (kv_ri ?_)
    obtain rfl := Option.some.inj hf
    exact v_iret G dX12_can_31
  refine v_if_eq 26 G dX12_can_15 (by decide) (fun h9 => ?_) (fun h9 => ?_)
  · replace hf := (if_pos h9).symm.trans hf
    refine v_sub _ [0] rfl ?_
    exact hj26 hf
  · replace hf := (if_neg h9).symm.trans hf
    refine v_aload_n G dX12_can_18 0 rfl ?_
    refine v_iload_n G dX12_can_19 2 rfl ?_
    obtain ⟨v5, hcv5, hf⟩ := bd_e hf
    refine v_callV [.int p2] G (c_X12_isRoadAt n h0 hcv5) h0 (by decide) rfl rfl rfl t_1950 t_1952 t_p115 t_17 t_1953 nm_X12_isRoadAt (by decide) (by decide) rfl rfl (Nat.le_of_ble_eq_true rfl) dX12_can_20 (kv_ri ?_)
    refine v_if_ne 32 G dX12_can_23 (by decide) (fun h8 => ?_) (fun h8 => ?_)
    · replace hf := (if_neg h8).symm.trans hf
      refine v_aload_n G dX12_can_32 0 rfl ?_
      refine v_iload_n G dX12_can_33 1 rfl ?_
      refine v_iload_n G dX12_can_34 2 rfl ?_
      obtain ⟨v6, hcv6, hf⟩ := bd_e hf
      refine v_callV [.int p1, .int p2] G (c_X12_canNow n h0 hcv6) h0 (by decide) rfl rfl rfl t_2039 t_2041 t_p128 t_17 t_2042 nm_X12_canNow (by decide) (by decide) rfl rfl (Nat.le_of_ble_eq_true rfl) dX12_can_35 (kv_ri ?_)
      refine v_if_eq 45 G dX12_can_38 (by decide) (fun h7 => ?_) (fun h7 => ?_)
      · replace hf := (if_pos h7).symm.trans hf
        refine v_iconst (0 : Int32) G dX12_can_45 (by decide) ?_
        obtain rfl := Option.some.inj hf
        exact v_iret G dX12_can_46
      · replace hf := (if_neg h7).symm.trans hf
        refine v_iconst (1 : Int32) G dX12_can_41 (by decide) ?_
        refine v_goto 46 G dX12_can_42 (by decide) ?_
        obtain rfl := Option.some.inj hf
        exact v_iret G dX12_can_46
    · replace hf := (if_pos h8).symm.trans hf
      refine v_sub _ [0] rfl ?_
      exact hj26 hf
abbrev cX12_guides : ByteArray := prog_14_method_121_code
def yX12_guides : MethodName := ⟨RX12, "guides", "(II)I"⟩
theorem dX12_guides_0 : dc cX12_guides 0 (.aload_n 0) 1 1 := ⟨by decide +kernel, rfl⟩
theorem dX12_guides_1 : dc cX12_guides 1 (.iconst 0) 1 2 := ⟨by decide +kernel, rfl⟩
theorem dX12_guides_2 : dc cX12_guides 2 (.putfield 75) 3 5 := ⟨by decide +kernel, rfl⟩
theorem dX12_guides_5 : dc cX12_guides 5 (.aload_n 0) 1 6 := ⟨by decide +kernel, rfl⟩
theorem dX12_guides_6 : dc cX12_guides 6 (.iconst 0) 1 7 := ⟨by decide +kernel, rfl⟩
theorem dX12_guides_7 : dc cX12_guides 7 (.putfield 78) 3 10 := ⟨by decide +kernel, rfl⟩
theorem dX12_guides_10 : dc cX12_guides 10 (.aload_n 0) 1 11 := ⟨by decide +kernel, rfl⟩
theorem dX12_guides_11 : dc cX12_guides 11 (.iload_n 1) 1 12 := ⟨by decide +kernel, rfl⟩
theorem dX12_guides_12 : dc cX12_guides 12 (.invokevirtual 367) 3 15 := ⟨by decide +kernel, rfl⟩
theorem dX12_guides_15 : dc cX12_guides 15 (.ifCond .eq 11) 3 18 := ⟨by decide +kernel, rfl⟩
theorem dX12_guides_18 : dc cX12_guides 18 (.aload_n 0) 1 19 := ⟨by decide +kernel, rfl⟩
theorem dX12_guides_19 : dc cX12_guides 19 (.iload_n 2) 1 20 := ⟨by decide +kernel, rfl⟩
theorem dX12_guides_20 : dc cX12_guides 20 (.invokevirtual 367) 3 23 := ⟨by decide +kernel, rfl⟩
theorem dX12_guides_23 : dc cX12_guides 23 (.ifCond .ne 9) 3 26 := ⟨by decide +kernel, rfl⟩
theorem dX12_guides_26 : dc cX12_guides 26 (.aload_n 0) 1 27 := ⟨by decide +kernel, rfl⟩
theorem dX12_guides_27 : dc cX12_guides 27 (.iconst 2) 1 28 := ⟨by decide +kernel, rfl⟩
theorem dX12_guides_28 : dc cX12_guides 28 (.invokevirtual 355) 3 31 := ⟨by decide +kernel, rfl⟩
theorem dX12_guides_31 : dc cX12_guides 31 (.ireturn) 1 32 := ⟨by decide +kernel, rfl⟩
theorem dX12_guides_32 : dc cX12_guides 32 (.aload_n 0) 1 33 := ⟨by decide +kernel, rfl⟩
theorem dX12_guides_33 : dc cX12_guides 33 (.iload_n 1) 1 34 := ⟨by decide +kernel, rfl⟩
theorem dX12_guides_34 : dc cX12_guides 34 (.iload_n 2) 1 35 := ⟨by decide +kernel, rfl⟩
theorem dX12_guides_35 : dc cX12_guides 35 (.invokevirtual 370) 3 38 := ⟨by decide +kernel, rfl⟩
theorem dX12_guides_38 : dc cX12_guides 38 (.istore_n 3) 1 39 := ⟨by decide +kernel, rfl⟩
theorem dX12_guides_39 : dc cX12_guides 39 (.iload_n 3) 1 40 := ⟨by decide +kernel, rfl⟩
theorem dX12_guides_40 : dc cX12_guides 40 (.ifCond .ge 10) 3 43 := ⟨by decide +kernel, rfl⟩
theorem dX12_guides_43 : dc cX12_guides 43 (.aload_n 0) 1 44 := ⟨by decide +kernel, rfl⟩
theorem dX12_guides_44 : dc cX12_guides 44 (.bipush 9) 2 46 := ⟨by decide +kernel, rfl⟩
theorem dX12_guides_46 : dc cX12_guides 46 (.invokevirtual 355) 3 49 := ⟨by decide +kernel, rfl⟩
theorem dX12_guides_49 : dc cX12_guides 49 (.ireturn) 1 50 := ⟨by decide +kernel, rfl⟩
theorem dX12_guides_50 : dc cX12_guides 50 (.iconst 0) 1 51 := ⟨by decide +kernel, rfl⟩
theorem dX12_guides_51 : dc cX12_guides 51 (.istore 4) 2 53 := ⟨by decide +kernel, rfl⟩
theorem dX12_guides_53 : dc cX12_guides 53 (.iconst 0) 1 54 := ⟨by decide +kernel, rfl⟩
theorem dX12_guides_54 : dc cX12_guides 54 (.istore 5) 2 56 := ⟨by decide +kernel, rfl⟩
theorem dX12_guides_56 : dc cX12_guides 56 (.iload 5) 2 58 := ⟨by decide +kernel, rfl⟩
theorem dX12_guides_58 : dc cX12_guides 58 (.aload_n 0) 1 59 := ⟨by decide +kernel, rfl⟩
theorem dX12_guides_59 : dc cX12_guides 59 (.getfield 35) 3 62 := ⟨by decide +kernel, rfl⟩
theorem dX12_guides_62 : dc cX12_guides 62 (.iconst 2) 1 63 := ⟨by decide +kernel, rfl⟩
theorem dX12_guides_63 : dc cX12_guides 63 (.iaload) 1 64 := ⟨by decide +kernel, rfl⟩
theorem dX12_guides_64 : dc cX12_guides 64 (.if_icmp .ge 55) 3 67 := ⟨by decide +kernel, rfl⟩
theorem dX12_guides_67 : dc cX12_guides 67 (.iload 4) 2 69 := ⟨by decide +kernel, rfl⟩
theorem dX12_guides_69 : dc cX12_guides 69 (.aload_n 0) 1 70 := ⟨by decide +kernel, rfl⟩
theorem dX12_guides_70 : dc cX12_guides 70 (.iload 5) 2 72 := ⟨by decide +kernel, rfl⟩
theorem dX12_guides_72 : dc cX12_guides 72 (.invokevirtual 350) 3 75 := ⟨by decide +kernel, rfl⟩
theorem dX12_guides_75 : dc cX12_guides 75 (.ifCond .ne 34) 3 78 := ⟨by decide +kernel, rfl⟩
theorem dX12_guides_78 : dc cX12_guides 78 (.aload_n 0) 1 79 := ⟨by decide +kernel, rfl⟩
theorem dX12_guides_79 : dc cX12_guides 79 (.getfield 35) 3 82 := ⟨by decide +kernel, rfl⟩
theorem dX12_guides_82 : dc cX12_guides 82 (.bipush 58) 2 84 := ⟨by decide +kernel, rfl⟩
theorem dX12_guides_84 : dc cX12_guides 84 (.iload 5) 2 86 := ⟨by decide +kernel, rfl⟩
theorem dX12_guides_86 : dc cX12_guides 86 (.iadd) 1 87 := ⟨by decide +kernel, rfl⟩
theorem dX12_guides_87 : dc cX12_guides 87 (.iaload) 1 88 := ⟨by decide +kernel, rfl⟩
theorem dX12_guides_88 : dc cX12_guides 88 (.iload_n 1) 1 89 := ⟨by decide +kernel, rfl⟩
theorem dX12_guides_89 : dc cX12_guides 89 (.if_icmp .ne 20) 3 92 := ⟨by decide +kernel, rfl⟩
theorem dX12_guides_92 : dc cX12_guides 92 (.aload_n 0) 1 93 := ⟨by decide +kernel, rfl⟩
theorem dX12_guides_93 : dc cX12_guides 93 (.iload 5) 2 95 := ⟨by decide +kernel, rfl⟩
theorem dX12_guides_95 : dc cX12_guides 95 (.iload_n 3) 1 96 := ⟨by decide +kernel, rfl⟩
theorem dX12_guides_96 : dc cX12_guides 96 (.invokevirtual 411) 3 99 := ⟨by decide +kernel, rfl⟩
theorem dX12_guides_99 : dc cX12_guides 99 (.ifCond .eq 10) 3 102 := ⟨by decide +kernel, rfl⟩
theorem dX12_guides_102 : dc cX12_guides 102 (.iconst 1) 1 103 := ⟨by decide +kernel, rfl⟩
theorem dX12_guides_103 : dc cX12_guides 103 (.iload 5) 2 105 := ⟨by decide +kernel, rfl⟩
theorem dX12_guides_105 : dc cX12_guides 105 (.ishl) 1 106 := ⟨by decide +kernel, rfl⟩
theorem dX12_guides_106 : dc cX12_guides 106 (.goto 4) 3 109 := ⟨by decide +kernel, rfl⟩
theorem dX12_guides_109 : dc cX12_guides 109 (.iconst 0) 1 110 := ⟨by decide +kernel, rfl⟩
theorem dX12_guides_110 : dc cX12_guides 110 (.ior) 1 111 := ⟨by decide +kernel, rfl⟩
theorem dX12_guides_111 : dc cX12_guides 111 (.istore 4) 2 113 := ⟨by decide +kernel, rfl⟩
theorem dX12_guides_113 : dc cX12_guides 113 (.iinc 5 1) 3 116 := ⟨by decide +kernel, rfl⟩
theorem dX12_guides_116 : dc cX12_guides 116 (.goto (-60)) 3 119 := ⟨by decide +kernel, rfl⟩
theorem dX12_guides_119 : dc cX12_guides 119 (.iload 4) 2 121 := ⟨by decide +kernel, rfl⟩
theorem dX12_guides_121 : dc cX12_guides 121 (.ireturn) 1 122 := ⟨by decide +kernel, rfl⟩
theorem nm_X12_guides : (yX12_guides).cls ≠ "java/lang/invoke/MethodHandle" ∧ (yX12_guides).cls ≠ "java/lang/invoke/VarHandle" ∧ (parseMethodDescriptor (yX12_guides).desc).map (fun d => d.parameters.length) = some 2 := ⟨by decide +kernel, by decide +kernel, by decide +kernel⟩
set_option maxRecDepth 100000 in
set_option maxHeartbeats 4000000 in
theorem s_X12_guides_56 {ad : Nat → Nat} {cy : Nat → ClassId} {x : KX} (G : KG ad cy x cX12_guides "NoonGuidesModel" 6 (some (some .int)) 3) {a0 : Nat} {c1 : Int32} {c3 : Int32} {M : KM} (h0 : kty a0 = 12) {y : (Int32 × KM)} : ∀ (n : Nat) (w4 : Int32) (w5 : Int32), lp_X12_guides_56 n a0 c1 c3 M w4 w5 = some y → KV ad cy x (some (.int y.1), y.2) 56 [(0, .ref (ad a0)), (1, .int c1), (3, .int c3), (4, .int w4), (5, .int w5)] [] M := by
  intro n
  induction n with
  | zero =>
    intro w4 w5 hf
    cases hf
  | succ n ih =>
    intro w4 w5 hf
    rw [lp_X12_guides_56] at hf
    refine v_iload G dX12_guides_56 4 rfl ?_
    refine v_aload_n G dX12_guides_58 0 rfl ?_
    refine gf_12_20 G h0 t_1511 (Or.inl rfl) dX12_guides_59 ?_
    refine v_iconst (2 : Int32) G dX12_guides_62 (by decide) ?_
    obtain ⟨g7, hf⟩ := gd_e hf
    refine al_36 G (kf_12_5 h0) g7 dX12_guides_63 ?_
    refine v_icmp_ge 119 G dX12_guides_64 (by decide) (fun h17 => ?_) (fun h17 => ?_)
    · replace hf := (if_pos h17).symm.trans hf
      refine v_iload G dX12_guides_119 3 rfl ?_
      obtain rfl := Option.some.inj hf
      exact v_iret G dX12_guides_121
    · replace hf := (if_neg h17).symm.trans hf
      refine v_iload G dX12_guides_67 3 rfl ?_
      refine v_aload_n G dX12_guides_69 0 rfl ?_
      refine v_iload G dX12_guides_70 4 rfl ?_
      obtain ⟨v8, hcv8, hf⟩ := bd_e hf
      refine v_callV [.int w5] G (c_X12_isGoing n h0 hcv8) h0 (by decide) rfl rfl rfl t_1942 t_1944 t_p114 t_17 t_1945 nm_X12_isGoing (by decide) (by decide) rfl rfl (Nat.le_of_ble_eq_true rfl) dX12_guides_72 (kv_ri ?_)
      obtain ⟨j110, ej110, hf⟩ := lt_j hf
      have hj110 : ∀ (x9 : Int32), j110 x9 = some y → KV ad cy x (some (.int y.1), y.2) 110 [(0, .ref (ad a0)), (1, .int c1), (3, .int c3), (5, .int w5)] [.int x9, .int w4] M := by
        intro x9 hf
        rw [ej110] at hf
        refine v_ior G dX12_guides_110 ?_
        refine v_nmi (fun v10 ev10 => ?_)
        replace hf := lt_e hf ev10
        refine v_istore [(4, .int v10), (0, .ref (ad a0)), (1, .int c1), (3, .int c3), (5, .int w5)] G dX12_guides_111 (by decide) rfl ?_
        obtain ⟨v11, ev11⟩ : ∃ q : Int32, q = w5 + (1 : Int32) := ⟨_, rfl⟩
        replace hf := lt_e hf ev11
        refine v_iinc v11 [(5, .int v11), (4, .int v10), (0, .ref (ad a0)), (1, .int c1), (3, .int c3)] G dX12_guides_113 4 rfl (by rw [ev11]; rfl) (by decide) rfl ?_
        refine v_goto 56 G dX12_guides_116 (by decide) ?_
        refine v_sub _ [2, 3, 4, 1, 0] rfl ?_
        exact ih v10 v11 hf
      obtain ⟨j109, ej109, hf⟩ := lt_j hf
      have hj109 : j109 = some y → KV ad cy x (some (.int y.1), y.2) 109 [(0, .ref (ad a0)), (1, .int c1), (3, .int c3), (5, .int w5)] [.int w4] M := by
        intro hf
        rw [ej109] at hf
        refine v_iconst (0 : Int32) G dX12_guides_109 (by decide) ?_
        refine v_sub _ [0, 1, 2, 3] rfl ?_
        exact hj110 (0 : Int32) hf
      refine v_if_ne 109 G dX12_guides_75 (by decide) (fun h16 => ?_) (fun h16 => ?_)
      · replace hf := (if_neg h16).symm.trans hf
        refine v_sub _ [0, 1, 2, 4] rfl ?_
        exact hj109 hf
      · replace hf := (if_pos h16).symm.trans hf
        refine v_aload_n G dX12_guides_78 0 rfl ?_
        refine gf_12_20 G h0 t_1511 (Or.inl rfl) dX12_guides_79 ?_
        refine v_bipush (58 : Int32) G dX12_guides_82 (by decide) ?_
        refine v_iload G dX12_guides_84 4 rfl ?_
        refine v_iadd G dX12_guides_86 ?_
        obtain ⟨g12, hf⟩ := gd_e hf
        refine al_36 G (kf_12_5 h0) g12 dX12_guides_87 ?_
        refine v_iload_n G dX12_guides_88 1 rfl ?_
        refine v_icmp_ne 109 G dX12_guides_89 (by decide) (fun h15 => ?_) (fun h15 => ?_)
        · replace hf := (if_neg h15).symm.trans hf
          refine v_sub _ [0, 1, 2, 4] rfl ?_
          exact hj109 hf
        · replace hf := (if_pos h15).symm.trans hf
          refine v_aload_n G dX12_guides_92 0 rfl ?_
          refine v_iload G dX12_guides_93 4 rfl ?_
          refine v_iload_n G dX12_guides_95 2 rfl ?_
          obtain ⟨v13, hcv13, hf⟩ := bd_e hf
          refine v_callV [.int w5, .int c3] G (c_X12_canNow n h0 hcv13) h0 (by decide) rfl rfl rfl t_2039 t_2041 t_p128 t_17 t_2042 nm_X12_canNow (by decide) (by decide) rfl rfl (Nat.le_of_ble_eq_true rfl) dX12_guides_96 (kv_ri ?_)
          refine v_if_eq 109 G dX12_guides_99 (by decide) (fun h14 => ?_) (fun h14 => ?_)
          · replace hf := (if_pos h14).symm.trans hf
            refine v_sub _ [0, 1, 2, 4] rfl ?_
            exact hj109 hf
          · replace hf := (if_neg h14).symm.trans hf
            refine v_iconst (1 : Int32) G dX12_guides_102 (by decide) ?_
            refine v_iload G dX12_guides_103 4 rfl ?_
            refine v_ishl G dX12_guides_105 ?_
            refine v_goto 110 G dX12_guides_106 (by decide) ?_
            refine v_sub _ [0, 1, 2, 4] rfl ?_
            exact hj110 ((1 : Int32) <<< (w5 &&& 31)) hf
set_option maxRecDepth 100000 in
set_option maxHeartbeats 4000000 in
theorem c_X12_guides {l : Launch} {ad : Nat → Nat} {cy : Nat → ClassId} {D : va_G} {z : Nat} (n : Nat) {a0 : Nat} {p1 : Int32} {p2 : Int32} {M : KM} {y : (Int32 × KM)} (h0 : kty a0 = 12) (hf : f_X12_guides n a0 p1 p2 M = some y) : KC l ad cy D z yX12_guides cX12_guides 6 (some .int) 3 [.ref (ad a0), .int p1, .int p2] M (some (.int y.1), y.2) := by
  refine kv_enter (by decide +kernel) (Nat.le_of_ble_eq_true rfl) ?_
  intro x hl hD hz G
  subst hl hD hz
  unfold f_X12_guides at hf
  have G : KG ad cy x cX12_guides "NoonGuidesModel" 6 (some (some .int)) 3 := G
  show KV ad cy x (some (.int y.1), y.2) 0 [(0, .ref (ad a0)), (1, .int p1), (2, .int p2)] [] M
  refine v_aload_n G dX12_guides_0 0 rfl ?_
  refine v_iconst (0 : Int32) G dX12_guides_1 (by decide) ?_
  refine pf_12_1 G h0 t_1492 (Or.inl rfl) dX12_guides_2 ?_
  refine v_nmM (fun M1 eM1 => ?_)
  replace hf := lt_e hf eM1
  refine v_aload_n G dX12_guides_5 0 rfl ?_
  refine v_iconst (0 : Int32) G dX12_guides_6 (by decide) ?_
  refine pf_12_0 G h0 t_1491 (Or.inl rfl) dX12_guides_7 ?_
  refine v_nmM (fun M2 eM2 => ?_)
  replace hf := lt_e hf eM2
  refine v_aload_n G dX12_guides_10 0 rfl ?_
  refine v_iload_n G dX12_guides_11 1 rfl ?_
  obtain ⟨v3, hcv3, hf⟩ := bd_e hf
  refine v_callV [.int p1] G (c_X12_isPlaceAt n h0 hcv3) h0 (by decide) rfl rfl rfl t_1959 t_1961 t_p116 t_17 t_1962 nm_X12_isPlaceAt (by decide) (by decide) rfl rfl (Nat.le_of_ble_eq_true rfl) dX12_guides_12 (kv_ri ?_)
  obtain ⟨j26, ej26, hf⟩ := lt_j hf
  have hj26 : j26 = some y → KV ad cy x (some (.int y.1), y.2) 26 [(0, .ref (ad a0))] [] M2 := by
    intro hf
    rw [ej26] at hf
    refine v_aload_n G dX12_guides_26 0 rfl ?_
    refine v_iconst (2 : Int32) G dX12_guides_27 (by decide) ?_
    obtain ⟨v4, hcv4⟩ : ∃ q, f_X12_refuse a0 (2 : Int32) M2 = q := ⟨_, rfl⟩
    replace hf := lt_e hf hcv4.symm
    refine v_callV [.int (2 : Int32)] G (c_X12_refuse h0 hcv4) h0 (by decide) rfl rfl rfl t_1926 t_1928 t_p110 t_17 t_1929 nm_X12_refuse (by decide) (by decide) rfl rfl (Nat.le_of_ble_eq_true rfl) dX12_guides_28 (kv_ri ?_)
    obtain rfl := Option.some.inj hf
    exact v_iret G dX12_guides_31
  refine v_if_eq 26 G dX12_guides_15 (by decide) (fun h21 => ?_) (fun h21 => ?_)
  · replace hf := (if_pos h21).symm.trans hf
    refine v_sub _ [0] rfl ?_
    exact hj26 hf
  · replace hf := (if_neg h21).symm.trans hf
    refine v_aload_n G dX12_guides_18 0 rfl ?_
    refine v_iload_n G dX12_guides_19 2 rfl ?_
    obtain ⟨v5, hcv5, hf⟩ := bd_e hf
    refine v_callV [.int p2] G (c_X12_isPlaceAt n h0 hcv5) h0 (by decide) rfl rfl rfl t_1959 t_1961 t_p116 t_17 t_1962 nm_X12_isPlaceAt (by decide) (by decide) rfl rfl (Nat.le_of_ble_eq_true rfl) dX12_guides_20 (kv_ri ?_)
    refine v_if_ne 32 G dX12_guides_23 (by decide) (fun h20 => ?_) (fun h20 => ?_)
    · replace hf := (if_neg h20).symm.trans hf
      refine v_aload_n G dX12_guides_32 0 rfl ?_
      refine v_iload_n G dX12_guides_33 1 rfl ?_
      refine v_iload_n G dX12_guides_34 2 rfl ?_
      obtain ⟨v6, hcv6, hf⟩ := bd_e hf
      refine v_callV [.int p1, .int p2] G (c_X12_between n h0 hcv6) h0 (by decide) rfl rfl rfl t_1963 t_1965 t_p117 t_17 t_1966 nm_X12_between (by decide) (by decide) rfl rfl (Nat.le_of_ble_eq_true rfl) dX12_guides_35 (kv_ri ?_)
      refine v_istore_n [(3, .int v6), (0, .ref (ad a0)), (1, .int p1), (2, .int p2)] G dX12_guides_38 (by decide) rfl ?_
      refine v_iload_n G dX12_guides_39 0 rfl ?_
      refine v_if_ge 50 G dX12_guides_40 (by decide) (fun h19 => ?_) (fun h19 => ?_)
      · replace hf := (if_pos h19).symm.trans hf
        refine v_iconst (0 : Int32) G dX12_guides_50 (by decide) ?_
        refine v_istore [(4, .int (0 : Int32)), (3, .int v6), (0, .ref (ad a0)), (1, .int p1), (2, .int p2)] G dX12_guides_51 (by decide) rfl ?_
        refine v_iconst (0 : Int32) G dX12_guides_53 (by decide) ?_
        refine v_istore [(5, .int (0 : Int32)), (4, .int (0 : Int32)), (3, .int v6), (0, .ref (ad a0)), (1, .int p1), (2, .int p2)] G dX12_guides_54 (by decide) rfl ?_
        refine v_sub _ [3, 4, 2, 1, 0] rfl ?_
        refine s_X12_guides_56 G h0 n (0 : Int32) (0 : Int32) hf
      · replace hf := (if_neg h19).symm.trans hf
        refine v_aload_n G dX12_guides_43 1 rfl ?_
        refine v_bipush (9 : Int32) G dX12_guides_44 (by decide) ?_
        obtain ⟨v18, hcv18⟩ : ∃ q, f_X12_refuse a0 (9 : Int32) M2 = q := ⟨_, rfl⟩
        replace hf := lt_e hf hcv18.symm
        refine v_callV [.int (9 : Int32)] G (c_X12_refuse h0 hcv18) h0 (by decide) rfl rfl rfl t_1926 t_1928 t_p110 t_17 t_1929 nm_X12_refuse (by decide) (by decide) rfl rfl (Nat.le_of_ble_eq_true rfl) dX12_guides_46 (kv_ri ?_)
        obtain rfl := Option.some.inj hf
        exact v_iret G dX12_guides_49
    · replace hf := (if_pos h20).symm.trans hf
      refine v_sub _ [0] rfl ?_
      exact hj26 hf
abbrev cX12_isFrom : ByteArray := prog_14_method_122_code
def yX12_isFrom : MethodName := ⟨RX12, "isFrom", "(II)Z"⟩
theorem dX12_isFrom_0 : dc cX12_isFrom 0 (.aload_n 0) 1 1 := ⟨by decide +kernel, rfl⟩
theorem dX12_isFrom_1 : dc cX12_isFrom 1 (.getfield 35) 3 4 := ⟨by decide +kernel, rfl⟩
theorem dX12_isFrom_4 : dc cX12_isFrom 4 (.bipush 10) 2 6 := ⟨by decide +kernel, rfl⟩
theorem dX12_isFrom_6 : dc cX12_isFrom 6 (.iload_n 1) 1 7 := ⟨by decide +kernel, rfl⟩
theorem dX12_isFrom_7 : dc cX12_isFrom 7 (.iadd) 1 8 := ⟨by decide +kernel, rfl⟩
theorem dX12_isFrom_8 : dc cX12_isFrom 8 (.iaload) 1 9 := ⟨by decide +kernel, rfl⟩
theorem dX12_isFrom_9 : dc cX12_isFrom 9 (.iload_n 2) 1 10 := ⟨by decide +kernel, rfl⟩
theorem dX12_isFrom_10 : dc cX12_isFrom 10 (.if_icmp .eq 16) 3 13 := ⟨by decide +kernel, rfl⟩
theorem dX12_isFrom_13 : dc cX12_isFrom 13 (.aload_n 0) 1 14 := ⟨by decide +kernel, rfl⟩
theorem dX12_isFrom_14 : dc cX12_isFrom 14 (.getfield 35) 3 17 := ⟨by decide +kernel, rfl⟩
theorem dX12_isFrom_17 : dc cX12_isFrom 17 (.bipush 22) 2 19 := ⟨by decide +kernel, rfl⟩
theorem dX12_isFrom_19 : dc cX12_isFrom 19 (.iload_n 1) 1 20 := ⟨by decide +kernel, rfl⟩
theorem dX12_isFrom_20 : dc cX12_isFrom 20 (.iadd) 1 21 := ⟨by decide +kernel, rfl⟩
theorem dX12_isFrom_21 : dc cX12_isFrom 21 (.iaload) 1 22 := ⟨by decide +kernel, rfl⟩
theorem dX12_isFrom_22 : dc cX12_isFrom 22 (.iload_n 2) 1 23 := ⟨by decide +kernel, rfl⟩
theorem dX12_isFrom_23 : dc cX12_isFrom 23 (.if_icmp .ne 7) 3 26 := ⟨by decide +kernel, rfl⟩
theorem dX12_isFrom_26 : dc cX12_isFrom 26 (.iconst 1) 1 27 := ⟨by decide +kernel, rfl⟩
theorem dX12_isFrom_27 : dc cX12_isFrom 27 (.goto 4) 3 30 := ⟨by decide +kernel, rfl⟩
theorem dX12_isFrom_30 : dc cX12_isFrom 30 (.iconst 0) 1 31 := ⟨by decide +kernel, rfl⟩
theorem dX12_isFrom_31 : dc cX12_isFrom 31 (.ireturn) 1 32 := ⟨by decide +kernel, rfl⟩
theorem nm_X12_isFrom : (yX12_isFrom).cls ≠ "java/lang/invoke/MethodHandle" ∧ (yX12_isFrom).cls ≠ "java/lang/invoke/VarHandle" ∧ (parseMethodDescriptor (yX12_isFrom).desc).map (fun d => d.parameters.length) = some 2 := ⟨by decide +kernel, by decide +kernel, by decide +kernel⟩
set_option maxRecDepth 100000 in
theorem z_X12_isFrom (n : Nat) {a0 : Nat} {p1 : Int32} {p2 : Int32} {M : KM} {y : Int32} (hf : f_X12_isFrom n a0 p1 p2 M = some y) : (y = 0 ∨ y = 1) := by
  unfold f_X12_isFrom at hf
  obtain ⟨g1, hf⟩ := gd_e hf
  obtain ⟨j26, ej26, hf⟩ := lt_j hf
  have hj26 : j26 = some y → (y = 0 ∨ y = 1) := by
    intro hf
    rw [ej26] at hf
    obtain rfl := Option.some.inj hf
    exact (Or.inr rfl)
  by_cases h4 : (M.1 (a0 + 5) (((10 : Int32) + p1)).toNatClampNeg) = p2
  · replace hf := (if_pos h4).symm.trans hf
    exact hj26 hf
  · replace hf := (if_neg h4).symm.trans hf
    obtain ⟨g2, hf⟩ := gd_e hf
    by_cases h3 : (M.1 (a0 + 5) (((22 : Int32) + p1)).toNatClampNeg) = p2
    · replace hf := (if_pos h3).symm.trans hf
      exact hj26 hf
    · replace hf := (if_neg h3).symm.trans hf
      obtain rfl := Option.some.inj hf
      exact (Or.inl rfl)
set_option maxRecDepth 100000 in
set_option maxHeartbeats 4000000 in
theorem c_X12_isFrom {l : Launch} {ad : Nat → Nat} {cy : Nat → ClassId} {D : va_G} {z : Nat} (n : Nat) {a0 : Nat} {p1 : Int32} {p2 : Int32} {M : KM} {y : Int32} (h0 : kty a0 = 12) (hf : f_X12_isFrom n a0 p1 p2 M = some y) : KC l ad cy D z yX12_isFrom cX12_isFrom 3 (some .boolean) 1 [.ref (ad a0), .int p1, .int p2] M (some (.int y), M) := by
  refine kv_enter (by decide +kernel) (Nat.le_of_ble_eq_true rfl) ?_
  intro x hl hD hz G
  subst hl hD hz
  unfold f_X12_isFrom at hf
  have G : KG ad cy x cX12_isFrom "NoonGuidesModel" 3 (some (some .boolean)) 1 := G
  show KV ad cy x (some (.int y), M) 0 [(0, .ref (ad a0)), (1, .int p1), (2, .int p2)] [] M
  refine v_aload_n G dX12_isFrom_0 0 rfl ?_
  refine gf_12_20 G h0 t_1511 (Or.inl rfl) dX12_isFrom_1 ?_
  refine v_bipush (10 : Int32) G dX12_isFrom_4 (by decide) ?_
  refine v_iload_n G dX12_isFrom_6 1 rfl ?_
  refine v_iadd G dX12_isFrom_7 ?_
  obtain ⟨g1, hf⟩ := gd_e hf
  refine al_36 G (kf_12_5 h0) g1 dX12_isFrom_8 ?_
  refine v_iload_n G dX12_isFrom_9 2 rfl ?_
  obtain ⟨j26, ej26, hf⟩ := lt_j hf
  have hj26 : j26 = some y → KV ad cy x (some (.int y), M) 26 [] [] M := by
    intro hf
    rw [ej26] at hf
    refine v_iconst (1 : Int32) G dX12_isFrom_26 (by decide) ?_
    refine v_goto 31 G dX12_isFrom_27 (by decide) ?_
    obtain rfl := Option.some.inj hf
    exact v_zret G (Or.inr rfl) dX12_isFrom_31
  refine v_icmp_eq 26 G dX12_isFrom_10 (by decide) (fun h4 => ?_) (fun h4 => ?_)
  · replace hf := (if_pos h4).symm.trans hf
    refine v_sub _ [] rfl ?_
    exact hj26 hf
  · replace hf := (if_neg h4).symm.trans hf
    refine v_aload_n G dX12_isFrom_13 0 rfl ?_
    refine gf_12_20 G h0 t_1511 (Or.inl rfl) dX12_isFrom_14 ?_
    refine v_bipush (22 : Int32) G dX12_isFrom_17 (by decide) ?_
    refine v_iload_n G dX12_isFrom_19 1 rfl ?_
    refine v_iadd G dX12_isFrom_20 ?_
    obtain ⟨g2, hf⟩ := gd_e hf
    refine al_36 G (kf_12_5 h0) g2 dX12_isFrom_21 ?_
    refine v_iload_n G dX12_isFrom_22 2 rfl ?_
    refine v_icmp_ne 30 G dX12_isFrom_23 (by decide) (fun h3 => ?_) (fun h3 => ?_)
    · replace hf := (if_neg h3).symm.trans hf
      refine v_iconst (0 : Int32) G dX12_isFrom_30 (by decide) ?_
      obtain rfl := Option.some.inj hf
      exact v_zret G (Or.inl rfl) dX12_isFrom_31
    · replace hf := (if_pos h3).symm.trans hf
      refine v_sub _ [] rfl ?_
      exact hj26 hf
abbrev cX12_stuck : ByteArray := prog_14_method_124_code
def yX12_stuck : MethodName := ⟨RX12, "stuck", "()I"⟩
theorem dX12_stuck_0 : dc cX12_stuck 0 (.aload_n 0) 1 1 := ⟨by decide +kernel, rfl⟩
theorem dX12_stuck_1 : dc cX12_stuck 1 (.iconst 0) 1 2 := ⟨by decide +kernel, rfl⟩
theorem dX12_stuck_2 : dc cX12_stuck 2 (.putfield 75) 3 5 := ⟨by decide +kernel, rfl⟩
theorem dX12_stuck_5 : dc cX12_stuck 5 (.aload_n 0) 1 6 := ⟨by decide +kernel, rfl⟩
theorem dX12_stuck_6 : dc cX12_stuck 6 (.iconst 0) 1 7 := ⟨by decide +kernel, rfl⟩
theorem dX12_stuck_7 : dc cX12_stuck 7 (.putfield 78) 3 10 := ⟨by decide +kernel, rfl⟩
theorem dX12_stuck_10 : dc cX12_stuck 10 (.iconst 0) 1 11 := ⟨by decide +kernel, rfl⟩
theorem dX12_stuck_11 : dc cX12_stuck 11 (.istore_n 1) 1 12 := ⟨by decide +kernel, rfl⟩
theorem dX12_stuck_12 : dc cX12_stuck 12 (.iconst 0) 1 13 := ⟨by decide +kernel, rfl⟩
theorem dX12_stuck_13 : dc cX12_stuck 13 (.istore_n 2) 1 14 := ⟨by decide +kernel, rfl⟩
theorem dX12_stuck_14 : dc cX12_stuck 14 (.iload_n 2) 1 15 := ⟨by decide +kernel, rfl⟩
theorem dX12_stuck_15 : dc cX12_stuck 15 (.aload_n 0) 1 16 := ⟨by decide +kernel, rfl⟩
theorem dX12_stuck_16 : dc cX12_stuck 16 (.getfield 35) 3 19 := ⟨by decide +kernel, rfl⟩
theorem dX12_stuck_19 : dc cX12_stuck 19 (.iconst 2) 1 20 := ⟨by decide +kernel, rfl⟩
theorem dX12_stuck_20 : dc cX12_stuck 20 (.iaload) 1 21 := ⟨by decide +kernel, rfl⟩
theorem dX12_stuck_21 : dc cX12_stuck 21 (.if_icmp .ge 95) 3 24 := ⟨by decide +kernel, rfl⟩
theorem dX12_stuck_24 : dc cX12_stuck 24 (.aload_n 0) 1 25 := ⟨by decide +kernel, rfl⟩
theorem dX12_stuck_25 : dc cX12_stuck 25 (.iload_n 2) 1 26 := ⟨by decide +kernel, rfl⟩
theorem dX12_stuck_26 : dc cX12_stuck 26 (.invokevirtual 350) 3 29 := ⟨by decide +kernel, rfl⟩
theorem dX12_stuck_29 : dc cX12_stuck 29 (.ifCond .ne 7) 3 32 := ⟨by decide +kernel, rfl⟩
theorem dX12_stuck_32 : dc cX12_stuck 32 (.iconst 1) 1 33 := ⟨by decide +kernel, rfl⟩
theorem dX12_stuck_33 : dc cX12_stuck 33 (.goto 4) 3 36 := ⟨by decide +kernel, rfl⟩
theorem dX12_stuck_36 : dc cX12_stuck 36 (.iconst 0) 1 37 := ⟨by decide +kernel, rfl⟩
theorem dX12_stuck_37 : dc cX12_stuck 37 (.istore_n 3) 1 38 := ⟨by decide +kernel, rfl⟩
theorem dX12_stuck_38 : dc cX12_stuck 38 (.iconst 0) 1 39 := ⟨by decide +kernel, rfl⟩
theorem dX12_stuck_39 : dc cX12_stuck 39 (.istore 4) 2 41 := ⟨by decide +kernel, rfl⟩
theorem dX12_stuck_41 : dc cX12_stuck 41 (.iload 4) 2 43 := ⟨by decide +kernel, rfl⟩
theorem dX12_stuck_43 : dc cX12_stuck 43 (.aload_n 0) 1 44 := ⟨by decide +kernel, rfl⟩
theorem dX12_stuck_44 : dc cX12_stuck 44 (.getfield 35) 3 47 := ⟨by decide +kernel, rfl⟩
theorem dX12_stuck_47 : dc cX12_stuck 47 (.iconst 1) 1 48 := ⟨by decide +kernel, rfl⟩
theorem dX12_stuck_48 : dc cX12_stuck 48 (.iaload) 1 49 := ⟨by decide +kernel, rfl⟩
theorem dX12_stuck_49 : dc cX12_stuck 49 (.if_icmp .ge 47) 3 52 := ⟨by decide +kernel, rfl⟩
theorem dX12_stuck_52 : dc cX12_stuck 52 (.iload_n 3) 1 53 := ⟨by decide +kernel, rfl⟩
theorem dX12_stuck_53 : dc cX12_stuck 53 (.ifCond .eq 35) 3 56 := ⟨by decide +kernel, rfl⟩
theorem dX12_stuck_56 : dc cX12_stuck 56 (.aload_n 0) 1 57 := ⟨by decide +kernel, rfl⟩
theorem dX12_stuck_57 : dc cX12_stuck 57 (.iload 4) 2 59 := ⟨by decide +kernel, rfl⟩
theorem dX12_stuck_59 : dc cX12_stuck 59 (.aload_n 0) 1 60 := ⟨by decide +kernel, rfl⟩
theorem dX12_stuck_60 : dc cX12_stuck 60 (.getfield 35) 3 63 := ⟨by decide +kernel, rfl⟩
theorem dX12_stuck_63 : dc cX12_stuck 63 (.bipush 58) 2 65 := ⟨by decide +kernel, rfl⟩
theorem dX12_stuck_65 : dc cX12_stuck 65 (.iload_n 2) 1 66 := ⟨by decide +kernel, rfl⟩
theorem dX12_stuck_66 : dc cX12_stuck 66 (.iadd) 1 67 := ⟨by decide +kernel, rfl⟩
theorem dX12_stuck_67 : dc cX12_stuck 67 (.iaload) 1 68 := ⟨by decide +kernel, rfl⟩
theorem dX12_stuck_68 : dc cX12_stuck 68 (.invokevirtual 445) 3 71 := ⟨by decide +kernel, rfl⟩
theorem dX12_stuck_71 : dc cX12_stuck 71 (.ifCond .eq 13) 3 74 := ⟨by decide +kernel, rfl⟩
theorem dX12_stuck_74 : dc cX12_stuck 74 (.aload_n 0) 1 75 := ⟨by decide +kernel, rfl⟩
theorem dX12_stuck_75 : dc cX12_stuck 75 (.iload_n 2) 1 76 := ⟨by decide +kernel, rfl⟩
theorem dX12_stuck_76 : dc cX12_stuck 76 (.iload 4) 2 78 := ⟨by decide +kernel, rfl⟩
theorem dX12_stuck_78 : dc cX12_stuck 78 (.invokevirtual 411) 3 81 := ⟨by decide +kernel, rfl⟩
theorem dX12_stuck_81 : dc cX12_stuck 81 (.ifCond .ne 7) 3 84 := ⟨by decide +kernel, rfl⟩
theorem dX12_stuck_84 : dc cX12_stuck 84 (.iconst 1) 1 85 := ⟨by decide +kernel, rfl⟩
theorem dX12_stuck_85 : dc cX12_stuck 85 (.goto 4) 3 88 := ⟨by decide +kernel, rfl⟩
theorem dX12_stuck_88 : dc cX12_stuck 88 (.iconst 0) 1 89 := ⟨by decide +kernel, rfl⟩
theorem dX12_stuck_89 : dc cX12_stuck 89 (.istore_n 3) 1 90 := ⟨by decide +kernel, rfl⟩
theorem dX12_stuck_90 : dc cX12_stuck 90 (.iinc 4 1) 3 93 := ⟨by decide +kernel, rfl⟩
theorem dX12_stuck_93 : dc cX12_stuck 93 (.goto (-52)) 3 96 := ⟨by decide +kernel, rfl⟩
theorem dX12_stuck_96 : dc cX12_stuck 96 (.iload_n 1) 1 97 := ⟨by decide +kernel, rfl⟩
theorem dX12_stuck_97 : dc cX12_stuck 97 (.iload_n 3) 1 98 := ⟨by decide +kernel, rfl⟩
theorem dX12_stuck_98 : dc cX12_stuck 98 (.ifCond .eq 9) 3 101 := ⟨by decide +kernel, rfl⟩
theorem dX12_stuck_101 : dc cX12_stuck 101 (.iconst 1) 1 102 := ⟨by decide +kernel, rfl⟩
theorem dX12_stuck_102 : dc cX12_stuck 102 (.iload_n 2) 1 103 := ⟨by decide +kernel, rfl⟩
theorem dX12_stuck_103 : dc cX12_stuck 103 (.ishl) 1 104 := ⟨by decide +kernel, rfl⟩
theorem dX12_stuck_104 : dc cX12_stuck 104 (.goto 4) 3 107 := ⟨by decide +kernel, rfl⟩
theorem dX12_stuck_107 : dc cX12_stuck 107 (.iconst 0) 1 108 := ⟨by decide +kernel, rfl⟩
theorem dX12_stuck_108 : dc cX12_stuck 108 (.ior) 1 109 := ⟨by decide +kernel, rfl⟩
theorem dX12_stuck_109 : dc cX12_stuck 109 (.istore_n 1) 1 110 := ⟨by decide +kernel, rfl⟩
theorem dX12_stuck_110 : dc cX12_stuck 110 (.iinc 2 1) 3 113 := ⟨by decide +kernel, rfl⟩
theorem dX12_stuck_113 : dc cX12_stuck 113 (.goto (-99)) 3 116 := ⟨by decide +kernel, rfl⟩
theorem dX12_stuck_116 : dc cX12_stuck 116 (.iload_n 1) 1 117 := ⟨by decide +kernel, rfl⟩
theorem dX12_stuck_117 : dc cX12_stuck 117 (.ireturn) 1 118 := ⟨by decide +kernel, rfl⟩
theorem nm_X12_stuck : (yX12_stuck).cls ≠ "java/lang/invoke/MethodHandle" ∧ (yX12_stuck).cls ≠ "java/lang/invoke/VarHandle" ∧ (parseMethodDescriptor (yX12_stuck).desc).map (fun d => d.parameters.length) = some 0 := ⟨by decide +kernel, by decide +kernel, by decide +kernel⟩
set_option maxRecDepth 100000 in
set_option maxHeartbeats 4000000 in
theorem s_X12_stuck_41 {ad : Nat → Nat} {cy : Nat → ClassId} {x : KX} (G : KG ad cy x cX12_stuck "NoonGuidesModel" 5 (some (some .int)) 3) {a0 : Nat} {c1 : Int32} {c2 : Int32} {M : KM} (h0 : kty a0 = 12) {k96 : Int32 → Option (Int32 × KM)} {y : (Int32 × KM)} (hk96 : ∀ (u3 : Int32), k96 u3 = some y → KV ad cy x (some (.int y.1), y.2) 96 [(0, .ref (ad a0)), (1, .int c1), (2, .int c2), (3, .int u3)] [] M) : ∀ (n : Nat) (w3 : Int32) (w4 : Int32), lp_X12_stuck_41 n a0 c1 c2 M w3 w4 k96 = some y → KV ad cy x (some (.int y.1), y.2) 41 [(0, .ref (ad a0)), (1, .int c1), (2, .int c2), (3, .int w3), (4, .int w4)] [] M := by
  intro n
  induction n with
  | zero =>
    intro w3 w4 hf
    cases hf
  | succ n ih =>
    intro w3 w4 hf
    rw [lp_X12_stuck_41] at hf
    refine v_iload G dX12_stuck_41 4 rfl ?_
    refine v_aload_n G dX12_stuck_43 0 rfl ?_
    refine gf_12_20 G h0 t_1511 (Or.inl rfl) dX12_stuck_44 ?_
    refine v_iconst (1 : Int32) G dX12_stuck_47 (by decide) ?_
    obtain ⟨g6, hf⟩ := gd_e hf
    refine al_36 G (kf_12_5 h0) g6 dX12_stuck_48 ?_
    refine v_icmp_ge 96 G dX12_stuck_49 (by decide) (fun h15 => ?_) (fun h15 => ?_)
    · replace hf := (if_pos h15).symm.trans hf
      refine v_sub _ [0, 1, 2, 3] rfl ?_
      exact hk96 w3 hf
    · replace hf := (if_neg h15).symm.trans hf
      refine v_iload_n G dX12_stuck_52 3 rfl ?_
      obtain ⟨j89, ej89, hf⟩ := lt_j hf
      have hj89 : ∀ (x7 : Int32), j89 x7 = some y → KV ad cy x (some (.int y.1), y.2) 89 [(0, .ref (ad a0)), (1, .int c1), (2, .int c2), (4, .int w4)] [.int x7] M := by
        intro x7 hf
        rw [ej89] at hf
        refine v_istore_n [(3, .int x7), (0, .ref (ad a0)), (1, .int c1), (2, .int c2), (4, .int w4)] G dX12_stuck_89 (by decide) rfl ?_
        obtain ⟨v8, ev8⟩ : ∃ q : Int32, q = w4 + (1 : Int32) := ⟨_, rfl⟩
        replace hf := lt_e hf ev8
        refine v_iinc v8 [(4, .int v8), (3, .int x7), (0, .ref (ad a0)), (1, .int c1), (2, .int c2)] G dX12_stuck_90 4 rfl (by rw [ev8]; rfl) (by decide) rfl ?_
        refine v_goto 41 G dX12_stuck_93 (by decide) ?_
        refine v_sub _ [2, 3, 4, 1, 0] rfl ?_
        exact ih x7 v8 hf
      obtain ⟨j88, ej88, hf⟩ := lt_j hf
      have hj88 : j88 = some y → KV ad cy x (some (.int y.1), y.2) 88 [(0, .ref (ad a0)), (1, .int c1), (2, .int c2), (4, .int w4)] [] M := by
        intro hf
        rw [ej88] at hf
        refine v_iconst (0 : Int32) G dX12_stuck_88 (by decide) ?_
        refine v_sub _ [0, 1, 2, 3] rfl ?_
        exact hj89 (0 : Int32) hf
      refine v_if_eq 88 G dX12_stuck_53 (by decide) (fun h14 => ?_) (fun h14 => ?_)
      · replace hf := (if_pos h14).symm.trans hf
        refine v_sub _ [0, 1, 2, 4] rfl ?_
        exact hj88 hf
      · replace hf := (if_neg h14).symm.trans hf
        refine v_aload_n G dX12_stuck_56 0 rfl ?_
        refine v_iload G dX12_stuck_57 4 rfl ?_
        refine v_aload_n G dX12_stuck_59 0 rfl ?_
        refine gf_12_20 G h0 t_1511 (Or.inl rfl) dX12_stuck_60 ?_
        refine v_bipush (58 : Int32) G dX12_stuck_63 (by decide) ?_
        refine v_iload_n G dX12_stuck_65 2 rfl ?_
        refine v_iadd G dX12_stuck_66 ?_
        obtain ⟨g9, hf⟩ := gd_e hf
        refine al_36 G (kf_12_5 h0) g9 dX12_stuck_67 ?_
        obtain ⟨v10, hcv10, hf⟩ := bd_e hf
        refine v_callV [.int w4, .int (M.1 (a0 + 5) (((58 : Int32) + c2)).toNatClampNeg)] G (c_X12_isFrom n h0 hcv10) h0 (by decide) rfl rfl rfl t_2116 t_2118 t_p133 t_17 t_2119 nm_X12_isFrom (by decide) (by decide) rfl rfl (Nat.le_of_ble_eq_true rfl) dX12_stuck_68 (kv_ri ?_)
        obtain ⟨j84, ej84, hf⟩ := lt_j hf
        have hj84 : j84 = some y → KV ad cy x (some (.int y.1), y.2) 84 [(0, .ref (ad a0)), (1, .int c1), (2, .int c2), (4, .int w4)] [] M := by
          intro hf
          rw [ej84] at hf
          refine v_iconst (1 : Int32) G dX12_stuck_84 (by decide) ?_
          refine v_goto 89 G dX12_stuck_85 (by decide) ?_
          refine v_sub _ [0, 1, 2, 3] rfl ?_
          exact hj89 (1 : Int32) hf
        refine v_if_eq 84 G dX12_stuck_71 (by decide) (fun h13 => ?_) (fun h13 => ?_)
        · replace hf := (if_pos h13).symm.trans hf
          refine v_sub _ [0, 1, 2, 4] rfl ?_
          exact hj84 hf
        · replace hf := (if_neg h13).symm.trans hf
          refine v_aload_n G dX12_stuck_74 0 rfl ?_
          refine v_iload_n G dX12_stuck_75 2 rfl ?_
          refine v_iload G dX12_stuck_76 4 rfl ?_
          obtain ⟨v11, hcv11, hf⟩ := bd_e hf
          refine v_callV [.int c2, .int w4] G (c_X12_canNow n h0 hcv11) h0 (by decide) rfl rfl rfl t_2039 t_2041 t_p128 t_17 t_2042 nm_X12_canNow (by decide) (by decide) rfl rfl (Nat.le_of_ble_eq_true rfl) dX12_stuck_78 (kv_ri ?_)
          refine v_if_ne 88 G dX12_stuck_81 (by decide) (fun h12 => ?_) (fun h12 => ?_)
          · replace hf := (if_neg h12).symm.trans hf
            refine v_sub _ [0, 1, 2, 4] rfl ?_
            exact hj88 hf
          · replace hf := (if_pos h12).symm.trans hf
            refine v_sub _ [0, 1, 2, 4] rfl ?_
            exact hj84 hf
set_option maxRecDepth 100000 in
set_option maxHeartbeats 4000000 in
theorem s_X12_stuck_14 {ad : Nat → Nat} {cy : Nat → ClassId} {x : KX} (G : KG ad cy x cX12_stuck "NoonGuidesModel" 5 (some (some .int)) 3) {a0 : Nat} {M : KM} (h0 : kty a0 = 12) {y : (Int32 × KM)} : ∀ (n : Nat) (w1 : Int32) (w2 : Int32), lp_X12_stuck_14 n a0 M w1 w2 = some y → KV ad cy x (some (.int y.1), y.2) 14 [(0, .ref (ad a0)), (1, .int w1), (2, .int w2)] [] M := by
  intro n
  induction n with
  | zero =>
    intro w1 w2 hf
    cases hf
  | succ n ih =>
    intro w1 w2 hf
    rw [lp_X12_stuck_14] at hf
    refine v_iload_n G dX12_stuck_14 2 rfl ?_
    refine v_aload_n G dX12_stuck_15 0 rfl ?_
    refine gf_12_20 G h0 t_1511 (Or.inl rfl) dX12_stuck_16 ?_
    refine v_iconst (2 : Int32) G dX12_stuck_19 (by decide) ?_
    obtain ⟨g3, hf⟩ := gd_e hf
    refine al_36 G (kf_12_5 h0) g3 dX12_stuck_20 ?_
    refine v_icmp_ge 116 G dX12_stuck_21 (by decide) (fun h22 => ?_) (fun h22 => ?_)
    · replace hf := (if_pos h22).symm.trans hf
      refine v_iload_n G dX12_stuck_116 1 rfl ?_
      obtain rfl := Option.some.inj hf
      exact v_iret G dX12_stuck_117
    · replace hf := (if_neg h22).symm.trans hf
      refine v_aload_n G dX12_stuck_24 0 rfl ?_
      refine v_iload_n G dX12_stuck_25 2 rfl ?_
      obtain ⟨v4, hcv4, hf⟩ := bd_e hf
      refine v_callV [.int w2] G (c_X12_isGoing n h0 hcv4) h0 (by decide) rfl rfl rfl t_1942 t_1944 t_p114 t_17 t_1945 nm_X12_isGoing (by decide) (by decide) rfl rfl (Nat.le_of_ble_eq_true rfl) dX12_stuck_26 (kv_ri ?_)
      obtain ⟨j37, ej37, hf⟩ := lt_j hf
      have hj37 : ∀ (x5 : Int32), j37 x5 = some y → KV ad cy x (some (.int y.1), y.2) 37 [(0, .ref (ad a0)), (1, .int w1), (2, .int w2)] [.int x5] M := by
        intro x5 hf
        rw [ej37] at hf
        refine v_istore_n [(3, .int x5), (0, .ref (ad a0)), (1, .int w1), (2, .int w2)] G dX12_stuck_37 (by decide) rfl ?_
        refine v_iconst (0 : Int32) G dX12_stuck_38 (by decide) ?_
        refine v_istore [(4, .int (0 : Int32)), (3, .int x5), (0, .ref (ad a0)), (1, .int w1), (2, .int w2)] G dX12_stuck_39 (by decide) rfl ?_
        refine v_sub _ [2, 3, 4, 1, 0] rfl ?_
        refine s_X12_stuck_41 G h0 (fun u16 hf => ?_) n x5 (0 : Int32) hf
        · refine v_iload_n G dX12_stuck_96 1 rfl ?_
          refine v_iload_n G dX12_stuck_97 3 rfl ?_
          obtain ⟨j108, ej108, hf⟩ := lt_j hf
          have hj108 : ∀ (x17 : Int32), j108 x17 = some y → KV ad cy x (some (.int y.1), y.2) 108 [(0, .ref (ad a0)), (2, .int w2)] [.int x17, .int w1] M := by
            intro x17 hf
            rw [ej108] at hf
            refine v_ior G dX12_stuck_108 ?_
            refine v_nmi (fun v18 ev18 => ?_)
            replace hf := lt_e hf ev18
            refine v_istore_n [(1, .int v18), (0, .ref (ad a0)), (2, .int w2)] G dX12_stuck_109 (by decide) rfl ?_
            obtain ⟨v19, ev19⟩ : ∃ q : Int32, q = w2 + (1 : Int32) := ⟨_, rfl⟩
            replace hf := lt_e hf ev19
            refine v_iinc v19 [(2, .int v19), (1, .int v18), (0, .ref (ad a0))] G dX12_stuck_110 2 rfl (by rw [ev19]; rfl) (by decide) rfl ?_
            refine v_goto 14 G dX12_stuck_113 (by decide) ?_
            refine v_sub _ [2, 1, 0] rfl ?_
            exact ih v18 v19 hf
          refine v_if_eq 107 G dX12_stuck_98 (by decide) (fun h20 => ?_) (fun h20 => ?_)
          · replace hf := (if_pos h20).symm.trans hf
            refine v_iconst (0 : Int32) G dX12_stuck_107 (by decide) ?_
            refine v_sub _ [0, 2] rfl ?_
            exact hj108 (0 : Int32) hf
          · replace hf := (if_neg h20).symm.trans hf
            refine v_iconst (1 : Int32) G dX12_stuck_101 (by decide) ?_
            refine v_iload_n G dX12_stuck_102 2 rfl ?_
            refine v_ishl G dX12_stuck_103 ?_
            refine v_goto 108 G dX12_stuck_104 (by decide) ?_
            refine v_sub _ [0, 2] rfl ?_
            exact hj108 ((1 : Int32) <<< (w2 &&& 31)) hf
      refine v_if_ne 36 G dX12_stuck_29 (by decide) (fun h21 => ?_) (fun h21 => ?_)
      · replace hf := (if_neg h21).symm.trans hf
        refine v_iconst (0 : Int32) G dX12_stuck_36 (by decide) ?_
        refine v_sub _ [0, 1, 2] rfl ?_
        exact hj37 (0 : Int32) hf
      · replace hf := (if_pos h21).symm.trans hf
        refine v_iconst (1 : Int32) G dX12_stuck_32 (by decide) ?_
        refine v_goto 37 G dX12_stuck_33 (by decide) ?_
        refine v_sub _ [0, 1, 2] rfl ?_
        exact hj37 (1 : Int32) hf
set_option maxRecDepth 100000 in
set_option maxHeartbeats 4000000 in
theorem c_X12_stuck {l : Launch} {ad : Nat → Nat} {cy : Nat → ClassId} {D : va_G} {z : Nat} (n : Nat) {a0 : Nat} {M : KM} {y : (Int32 × KM)} (h0 : kty a0 = 12) (hf : f_X12_stuck n a0 M = some y) : KC l ad cy D z yX12_stuck cX12_stuck 5 (some .int) 3 [.ref (ad a0)] M (some (.int y.1), y.2) := by
  refine kv_enter (by decide +kernel) (Nat.le_of_ble_eq_true rfl) ?_
  intro x hl hD hz G
  subst hl hD hz
  unfold f_X12_stuck at hf
  have G : KG ad cy x cX12_stuck "NoonGuidesModel" 5 (some (some .int)) 3 := G
  show KV ad cy x (some (.int y.1), y.2) 0 [(0, .ref (ad a0))] [] M
  refine v_aload_n G dX12_stuck_0 0 rfl ?_
  refine v_iconst (0 : Int32) G dX12_stuck_1 (by decide) ?_
  refine pf_12_1 G h0 t_1492 (Or.inl rfl) dX12_stuck_2 ?_
  refine v_nmM (fun M1 eM1 => ?_)
  replace hf := lt_e hf eM1
  refine v_aload_n G dX12_stuck_5 0 rfl ?_
  refine v_iconst (0 : Int32) G dX12_stuck_6 (by decide) ?_
  refine pf_12_0 G h0 t_1491 (Or.inl rfl) dX12_stuck_7 ?_
  refine v_nmM (fun M2 eM2 => ?_)
  replace hf := lt_e hf eM2
  refine v_iconst (0 : Int32) G dX12_stuck_10 (by decide) ?_
  refine v_istore_n [(1, .int (0 : Int32)), (0, .ref (ad a0))] G dX12_stuck_11 (by decide) rfl ?_
  refine v_iconst (0 : Int32) G dX12_stuck_12 (by decide) ?_
  refine v_istore_n [(2, .int (0 : Int32)), (1, .int (0 : Int32)), (0, .ref (ad a0))] G dX12_stuck_13 (by decide) rfl ?_
  refine v_sub _ [2, 1, 0] rfl ?_
  refine s_X12_stuck_14 G h0 n (0 : Int32) (0 : Int32) hf
abbrev cX12_reach : ByteArray := prog_14_method_125_code
def yX12_reach : MethodName := ⟨RX12, "reach", "(I)I"⟩
theorem dX12_reach_0 : dc cX12_reach 0 (.aload_n 0) 1 1 := ⟨by decide +kernel, rfl⟩
theorem dX12_reach_1 : dc cX12_reach 1 (.iconst 0) 1 2 := ⟨by decide +kernel, rfl⟩
theorem dX12_reach_2 : dc cX12_reach 2 (.putfield 75) 3 5 := ⟨by decide +kernel, rfl⟩
theorem dX12_reach_5 : dc cX12_reach 5 (.aload_n 0) 1 6 := ⟨by decide +kernel, rfl⟩
theorem dX12_reach_6 : dc cX12_reach 6 (.iconst 0) 1 7 := ⟨by decide +kernel, rfl⟩
theorem dX12_reach_7 : dc cX12_reach 7 (.putfield 78) 3 10 := ⟨by decide +kernel, rfl⟩
theorem dX12_reach_10 : dc cX12_reach 10 (.aload_n 0) 1 11 := ⟨by decide +kernel, rfl⟩
theorem dX12_reach_11 : dc cX12_reach 11 (.iload_n 1) 1 12 := ⟨by decide +kernel, rfl⟩
theorem dX12_reach_12 : dc cX12_reach 12 (.invokevirtual 373) 3 15 := ⟨by decide +kernel, rfl⟩
theorem dX12_reach_15 : dc cX12_reach 15 (.ifCond .ne 9) 3 18 := ⟨by decide +kernel, rfl⟩
theorem dX12_reach_18 : dc cX12_reach 18 (.aload_n 0) 1 19 := ⟨by decide +kernel, rfl⟩
theorem dX12_reach_19 : dc cX12_reach 19 (.iconst 2) 1 20 := ⟨by decide +kernel, rfl⟩
theorem dX12_reach_20 : dc cX12_reach 20 (.invokevirtual 355) 3 23 := ⟨by decide +kernel, rfl⟩
theorem dX12_reach_23 : dc cX12_reach 23 (.ireturn) 1 24 := ⟨by decide +kernel, rfl⟩
theorem dX12_reach_24 : dc cX12_reach 24 (.aload_n 0) 1 25 := ⟨by decide +kernel, rfl⟩
theorem dX12_reach_25 : dc cX12_reach 25 (.iload_n 1) 1 26 := ⟨by decide +kernel, rfl⟩
theorem dX12_reach_26 : dc cX12_reach 26 (.invokevirtual 350) 3 29 := ⟨by decide +kernel, rfl⟩
theorem dX12_reach_29 : dc cX12_reach 29 (.ifCond .eq 10) 3 32 := ⟨by decide +kernel, rfl⟩
theorem dX12_reach_32 : dc cX12_reach 32 (.aload_n 0) 1 33 := ⟨by decide +kernel, rfl⟩
theorem dX12_reach_33 : dc cX12_reach 33 (.bipush 9) 2 35 := ⟨by decide +kernel, rfl⟩
theorem dX12_reach_35 : dc cX12_reach 35 (.invokevirtual 355) 3 38 := ⟨by decide +kernel, rfl⟩
theorem dX12_reach_38 : dc cX12_reach 38 (.ireturn) 1 39 := ⟨by decide +kernel, rfl⟩
theorem dX12_reach_39 : dc cX12_reach 39 (.iconst 1) 1 40 := ⟨by decide +kernel, rfl⟩
theorem dX12_reach_40 : dc cX12_reach 40 (.aload_n 0) 1 41 := ⟨by decide +kernel, rfl⟩
theorem dX12_reach_41 : dc cX12_reach 41 (.getfield 35) 3 44 := ⟨by decide +kernel, rfl⟩
theorem dX12_reach_44 : dc cX12_reach 44 (.bipush 58) 2 46 := ⟨by decide +kernel, rfl⟩
theorem dX12_reach_46 : dc cX12_reach 46 (.iload_n 1) 1 47 := ⟨by decide +kernel, rfl⟩
theorem dX12_reach_47 : dc cX12_reach 47 (.iadd) 1 48 := ⟨by decide +kernel, rfl⟩
theorem dX12_reach_48 : dc cX12_reach 48 (.iaload) 1 49 := ⟨by decide +kernel, rfl⟩
theorem dX12_reach_49 : dc cX12_reach 49 (.ishl) 1 50 := ⟨by decide +kernel, rfl⟩
theorem dX12_reach_50 : dc cX12_reach 50 (.istore_n 2) 1 51 := ⟨by decide +kernel, rfl⟩
theorem dX12_reach_51 : dc cX12_reach 51 (.iconst 0) 1 52 := ⟨by decide +kernel, rfl⟩
theorem dX12_reach_52 : dc cX12_reach 52 (.istore_n 3) 1 53 := ⟨by decide +kernel, rfl⟩
theorem dX12_reach_53 : dc cX12_reach 53 (.iload_n 3) 1 54 := ⟨by decide +kernel, rfl⟩
theorem dX12_reach_54 : dc cX12_reach 54 (.bipush 8) 2 56 := ⟨by decide +kernel, rfl⟩
theorem dX12_reach_56 : dc cX12_reach 56 (.if_icmp .ge 101) 3 59 := ⟨by decide +kernel, rfl⟩
theorem dX12_reach_59 : dc cX12_reach 59 (.iconst 0) 1 60 := ⟨by decide +kernel, rfl⟩
theorem dX12_reach_60 : dc cX12_reach 60 (.istore 4) 2 62 := ⟨by decide +kernel, rfl⟩
theorem dX12_reach_62 : dc cX12_reach 62 (.iload 4) 2 64 := ⟨by decide +kernel, rfl⟩
theorem dX12_reach_64 : dc cX12_reach 64 (.aload_n 0) 1 65 := ⟨by decide +kernel, rfl⟩
theorem dX12_reach_65 : dc cX12_reach 65 (.getfield 35) 3 68 := ⟨by decide +kernel, rfl⟩
theorem dX12_reach_68 : dc cX12_reach 68 (.iconst 1) 1 69 := ⟨by decide +kernel, rfl⟩
theorem dX12_reach_69 : dc cX12_reach 69 (.iaload) 1 70 := ⟨by decide +kernel, rfl⟩
theorem dX12_reach_70 : dc cX12_reach 70 (.if_icmp .ge 81) 3 73 := ⟨by decide +kernel, rfl⟩
theorem dX12_reach_73 : dc cX12_reach 73 (.aload_n 0) 1 74 := ⟨by decide +kernel, rfl⟩
theorem dX12_reach_74 : dc cX12_reach 74 (.iload_n 1) 1 75 := ⟨by decide +kernel, rfl⟩
theorem dX12_reach_75 : dc cX12_reach 75 (.iload 4) 2 77 := ⟨by decide +kernel, rfl⟩
theorem dX12_reach_77 : dc cX12_reach 77 (.invokevirtual 411) 3 80 := ⟨by decide +kernel, rfl⟩
theorem dX12_reach_80 : dc cX12_reach 80 (.ifCond .eq 65) 3 83 := ⟨by decide +kernel, rfl⟩
theorem dX12_reach_83 : dc cX12_reach 83 (.iload_n 2) 1 84 := ⟨by decide +kernel, rfl⟩
theorem dX12_reach_84 : dc cX12_reach 84 (.aload_n 0) 1 85 := ⟨by decide +kernel, rfl⟩
theorem dX12_reach_85 : dc cX12_reach 85 (.getfield 35) 3 88 := ⟨by decide +kernel, rfl⟩
theorem dX12_reach_88 : dc cX12_reach 88 (.bipush 10) 2 90 := ⟨by decide +kernel, rfl⟩
theorem dX12_reach_90 : dc cX12_reach 90 (.iload 4) 2 92 := ⟨by decide +kernel, rfl⟩
theorem dX12_reach_92 : dc cX12_reach 92 (.iadd) 1 93 := ⟨by decide +kernel, rfl⟩
theorem dX12_reach_93 : dc cX12_reach 93 (.iaload) 1 94 := ⟨by decide +kernel, rfl⟩
theorem dX12_reach_94 : dc cX12_reach 94 (.invokestatic 114) 3 97 := ⟨by decide +kernel, rfl⟩
theorem dX12_reach_97 : dc cX12_reach 97 (.ifCond .ne 20) 3 100 := ⟨by decide +kernel, rfl⟩
theorem dX12_reach_100 : dc cX12_reach 100 (.iload_n 2) 1 101 := ⟨by decide +kernel, rfl⟩
theorem dX12_reach_101 : dc cX12_reach 101 (.aload_n 0) 1 102 := ⟨by decide +kernel, rfl⟩
theorem dX12_reach_102 : dc cX12_reach 102 (.getfield 35) 3 105 := ⟨by decide +kernel, rfl⟩
theorem dX12_reach_105 : dc cX12_reach 105 (.bipush 22) 2 107 := ⟨by decide +kernel, rfl⟩
theorem dX12_reach_107 : dc cX12_reach 107 (.iload 4) 2 109 := ⟨by decide +kernel, rfl⟩
theorem dX12_reach_109 : dc cX12_reach 109 (.iadd) 1 110 := ⟨by decide +kernel, rfl⟩
theorem dX12_reach_110 : dc cX12_reach 110 (.iaload) 1 111 := ⟨by decide +kernel, rfl⟩
theorem dX12_reach_111 : dc cX12_reach 111 (.invokestatic 114) 3 114 := ⟨by decide +kernel, rfl⟩
theorem dX12_reach_114 : dc cX12_reach 114 (.ifCond .eq 31) 3 117 := ⟨by decide +kernel, rfl⟩
theorem dX12_reach_117 : dc cX12_reach 117 (.iload_n 2) 1 118 := ⟨by decide +kernel, rfl⟩
theorem dX12_reach_118 : dc cX12_reach 118 (.iconst 1) 1 119 := ⟨by decide +kernel, rfl⟩
theorem dX12_reach_119 : dc cX12_reach 119 (.aload_n 0) 1 120 := ⟨by decide +kernel, rfl⟩
theorem dX12_reach_120 : dc cX12_reach 120 (.getfield 35) 3 123 := ⟨by decide +kernel, rfl⟩
theorem dX12_reach_123 : dc cX12_reach 123 (.bipush 10) 2 125 := ⟨by decide +kernel, rfl⟩
theorem dX12_reach_125 : dc cX12_reach 125 (.iload 4) 2 127 := ⟨by decide +kernel, rfl⟩
theorem dX12_reach_127 : dc cX12_reach 127 (.iadd) 1 128 := ⟨by decide +kernel, rfl⟩
theorem dX12_reach_128 : dc cX12_reach 128 (.iaload) 1 129 := ⟨by decide +kernel, rfl⟩
theorem dX12_reach_129 : dc cX12_reach 129 (.ishl) 1 130 := ⟨by decide +kernel, rfl⟩
theorem dX12_reach_130 : dc cX12_reach 130 (.iconst 1) 1 131 := ⟨by decide +kernel, rfl⟩
theorem dX12_reach_131 : dc cX12_reach 131 (.aload_n 0) 1 132 := ⟨by decide +kernel, rfl⟩
theorem dX12_reach_132 : dc cX12_reach 132 (.getfield 35) 3 135 := ⟨by decide +kernel, rfl⟩
theorem dX12_reach_135 : dc cX12_reach 135 (.bipush 22) 2 137 := ⟨by decide +kernel, rfl⟩
theorem dX12_reach_137 : dc cX12_reach 137 (.iload 4) 2 139 := ⟨by decide +kernel, rfl⟩
theorem dX12_reach_139 : dc cX12_reach 139 (.iadd) 1 140 := ⟨by decide +kernel, rfl⟩
theorem dX12_reach_140 : dc cX12_reach 140 (.iaload) 1 141 := ⟨by decide +kernel, rfl⟩
theorem dX12_reach_141 : dc cX12_reach 141 (.ishl) 1 142 := ⟨by decide +kernel, rfl⟩
theorem dX12_reach_142 : dc cX12_reach 142 (.ior) 1 143 := ⟨by decide +kernel, rfl⟩
theorem dX12_reach_143 : dc cX12_reach 143 (.ior) 1 144 := ⟨by decide +kernel, rfl⟩
theorem dX12_reach_144 : dc cX12_reach 144 (.istore_n 2) 1 145 := ⟨by decide +kernel, rfl⟩
theorem dX12_reach_145 : dc cX12_reach 145 (.iinc 4 1) 3 148 := ⟨by decide +kernel, rfl⟩
theorem dX12_reach_148 : dc cX12_reach 148 (.goto (-86)) 3 151 := ⟨by decide +kernel, rfl⟩
theorem dX12_reach_151 : dc cX12_reach 151 (.iinc 3 1) 3 154 := ⟨by decide +kernel, rfl⟩
theorem dX12_reach_154 : dc cX12_reach 154 (.goto (-101)) 3 157 := ⟨by decide +kernel, rfl⟩
theorem dX12_reach_157 : dc cX12_reach 157 (.iload_n 2) 1 158 := ⟨by decide +kernel, rfl⟩
theorem dX12_reach_158 : dc cX12_reach 158 (.ireturn) 1 159 := ⟨by decide +kernel, rfl⟩
theorem nm_X12_reach : (yX12_reach).cls ≠ "java/lang/invoke/MethodHandle" ∧ (yX12_reach).cls ≠ "java/lang/invoke/VarHandle" ∧ (parseMethodDescriptor (yX12_reach).desc).map (fun d => d.parameters.length) = some 1 := ⟨by decide +kernel, by decide +kernel, by decide +kernel⟩
set_option maxRecDepth 100000 in
set_option maxHeartbeats 4000000 in
theorem s_X12_reach_62 {ad : Nat → Nat} {cy : Nat → ClassId} {x : KX} (G : KG ad cy x cX12_reach "NoonGuidesModel" 5 (some (some .int)) 3) {a0 : Nat} {c1 : Int32} {c3 : Int32} {M : KM} (h0 : kty a0 = 12) {k151 : Int32 → Option (Int32 × KM)} {y : (Int32 × KM)} (hk151 : ∀ (u2 : Int32), k151 u2 = some y → KV ad cy x (some (.int y.1), y.2) 151 [(0, .ref (ad a0)), (1, .int c1), (2, .int u2), (3, .int c3)] [] M) : ∀ (n : Nat) (w2 : Int32) (w4 : Int32), lp_X12_reach_62 n a0 c1 c3 M w2 w4 k151 = some y → KV ad cy x (some (.int y.1), y.2) 62 [(0, .ref (ad a0)), (1, .int c1), (2, .int w2), (3, .int c3), (4, .int w4)] [] M := by
  intro n
  induction n with
  | zero =>
    intro w2 w4 hf
    cases hf
  | succ n ih =>
    intro w2 w4 hf
    rw [lp_X12_reach_62] at hf
    refine v_iload G dX12_reach_62 4 rfl ?_
    refine v_aload_n G dX12_reach_64 0 rfl ?_
    refine gf_12_20 G h0 t_1511 (Or.inl rfl) dX12_reach_65 ?_
    refine v_iconst (1 : Int32) G dX12_reach_68 (by decide) ?_
    obtain ⟨g7, hf⟩ := gd_e hf
    refine al_36 G (kf_12_5 h0) g7 dX12_reach_69 ?_
    refine v_icmp_ge 151 G dX12_reach_70 (by decide) (fun h21 => ?_) (fun h21 => ?_)
    · replace hf := (if_pos h21).symm.trans hf
      refine v_sub _ [0, 1, 2, 3] rfl ?_
      exact hk151 w2 hf
    · replace hf := (if_neg h21).symm.trans hf
      refine v_aload_n G dX12_reach_73 0 rfl ?_
      refine v_iload_n G dX12_reach_74 1 rfl ?_
      refine v_iload G dX12_reach_75 4 rfl ?_
      obtain ⟨v8, hcv8, hf⟩ := bd_e hf
      refine v_callV [.int c1, .int w4] G (c_X12_canNow n h0 hcv8) h0 (by decide) rfl rfl rfl t_2039 t_2041 t_p128 t_17 t_2042 nm_X12_canNow (by decide) (by decide) rfl rfl (Nat.le_of_ble_eq_true rfl) dX12_reach_77 (kv_ri ?_)
      obtain ⟨j145, ej145, hf⟩ := lt_j hf
      have hj145 : ∀ (x9 : Int32), j145 x9 = some y → KV ad cy x (some (.int y.1), y.2) 145 [(0, .ref (ad a0)), (1, .int c1), (2, .int x9), (3, .int c3), (4, .int w4)] [] M := by
        intro x9 hf
        rw [ej145] at hf
        obtain ⟨v10, ev10⟩ : ∃ q : Int32, q = w4 + (1 : Int32) := ⟨_, rfl⟩
        replace hf := lt_e hf ev10
        refine v_iinc v10 [(4, .int v10), (0, .ref (ad a0)), (1, .int c1), (2, .int x9), (3, .int c3)] G dX12_reach_145 4 rfl (by rw [ev10]; rfl) (by decide) rfl ?_
        refine v_goto 62 G dX12_reach_148 (by decide) ?_
        refine v_sub _ [1, 2, 3, 4, 0] rfl ?_
        exact ih x9 v10 hf
      refine v_if_eq 145 G dX12_reach_80 (by decide) (fun h20 => ?_) (fun h20 => ?_)
      · replace hf := (if_pos h20).symm.trans hf
        refine v_sub _ [0, 1, 2, 3, 4] rfl ?_
        exact hj145 w2 hf
      · replace hf := (if_neg h20).symm.trans hf
        refine v_iload_n G dX12_reach_83 2 rfl ?_
        refine v_aload_n G dX12_reach_84 0 rfl ?_
        refine gf_12_20 G h0 t_1511 (Or.inl rfl) dX12_reach_85 ?_
        refine v_bipush (10 : Int32) G dX12_reach_88 (by decide) ?_
        refine v_iload G dX12_reach_90 4 rfl ?_
        refine v_iadd G dX12_reach_92 ?_
        obtain ⟨g11, hf⟩ := gd_e hf
        refine al_36 G (kf_12_5 h0) g11 dX12_reach_93 ?_
        obtain ⟨v12, hcv12⟩ : ∃ q, f_X12_has w2 (M.1 (a0 + 5) (((10 : Int32) + w4)).toNatClampNeg) M = q := ⟨_, rfl⟩
        replace hf := lt_e hf hcv12.symm
        refine v_callS [.int w2, .int (M.1 (a0 + 5) (((10 : Int32) + w4)).toNatClampNeg)] G (c_X12_has hcv12) t_1740 t_1741 t_17 t_1742 nm_X12_has (by decide) (by decide) rfl rfl (Nat.le_of_ble_eq_true rfl) dX12_reach_94 (kv_ri ?_)
        obtain ⟨j117, ej117, hf⟩ := lt_j hf
        have hj117 : j117 = some y → KV ad cy x (some (.int y.1), y.2) 117 [(0, .ref (ad a0)), (1, .int c1), (2, .int w2), (3, .int c3), (4, .int w4)] [] M := by
          intro hf
          rw [ej117] at hf
          refine v_iload_n G dX12_reach_117 2 rfl ?_
          refine v_iconst (1 : Int32) G dX12_reach_118 (by decide) ?_
          refine v_aload_n G dX12_reach_119 0 rfl ?_
          refine gf_12_20 G h0 t_1511 (Or.inl rfl) dX12_reach_120 ?_
          refine v_bipush (10 : Int32) G dX12_reach_123 (by decide) ?_
          refine v_iload G dX12_reach_125 4 rfl ?_
          refine v_iadd G dX12_reach_127 ?_
          obtain ⟨g13, hf⟩ := gd_e hf
          refine al_36 G (kf_12_5 h0) g13 dX12_reach_128 ?_
          refine v_ishl G dX12_reach_129 ?_
          refine v_iconst (1 : Int32) G dX12_reach_130 (by decide) ?_
          refine v_aload_n G dX12_reach_131 0 rfl ?_
          refine gf_12_20 G h0 t_1511 (Or.inl rfl) dX12_reach_132 ?_
          refine v_bipush (22 : Int32) G dX12_reach_135 (by decide) ?_
          refine v_iload G dX12_reach_137 4 rfl ?_
          refine v_iadd G dX12_reach_139 ?_
          obtain ⟨g14, hf⟩ := gd_e hf
          refine al_36 G (kf_12_5 h0) g14 dX12_reach_140 ?_
          refine v_ishl G dX12_reach_141 ?_
          refine v_ior G dX12_reach_142 ?_
          refine v_ior G dX12_reach_143 ?_
          refine v_nmi (fun v15 ev15 => ?_)
          replace hf := lt_e hf ev15
          refine v_istore_n [(2, .int v15), (0, .ref (ad a0)), (1, .int c1), (3, .int c3), (4, .int w4)] G dX12_reach_144 (by decide) rfl ?_
          refine v_sub _ [1, 2, 0, 3, 4] rfl ?_
          exact hj145 v15 hf
        refine v_if_ne 117 G dX12_reach_97 (by decide) (fun h19 => ?_) (fun h19 => ?_)
        · replace hf := (if_neg h19).symm.trans hf
          refine v_sub _ [0, 1, 2, 3, 4] rfl ?_
          exact hj117 hf
        · replace hf := (if_pos h19).symm.trans hf
          refine v_iload_n G dX12_reach_100 2 rfl ?_
          refine v_aload_n G dX12_reach_101 0 rfl ?_
          refine gf_12_20 G h0 t_1511 (Or.inl rfl) dX12_reach_102 ?_
          refine v_bipush (22 : Int32) G dX12_reach_105 (by decide) ?_
          refine v_iload G dX12_reach_107 4 rfl ?_
          refine v_iadd G dX12_reach_109 ?_
          obtain ⟨g16, hf⟩ := gd_e hf
          refine al_36 G (kf_12_5 h0) g16 dX12_reach_110 ?_
          obtain ⟨v17, hcv17⟩ : ∃ q, f_X12_has w2 (M.1 (a0 + 5) (((22 : Int32) + w4)).toNatClampNeg) M = q := ⟨_, rfl⟩
          replace hf := lt_e hf hcv17.symm
          refine v_callS [.int w2, .int (M.1 (a0 + 5) (((22 : Int32) + w4)).toNatClampNeg)] G (c_X12_has hcv17) t_1740 t_1741 t_17 t_1742 nm_X12_has (by decide) (by decide) rfl rfl (Nat.le_of_ble_eq_true rfl) dX12_reach_111 (kv_ri ?_)
          refine v_if_eq 145 G dX12_reach_114 (by decide) (fun h18 => ?_) (fun h18 => ?_)
          · replace hf := (if_pos h18).symm.trans hf
            refine v_sub _ [0, 1, 2, 3, 4] rfl ?_
            exact hj145 w2 hf
          · replace hf := (if_neg h18).symm.trans hf
            refine v_sub _ [0, 1, 2, 3, 4] rfl ?_
            exact hj117 hf
set_option maxRecDepth 100000 in
set_option maxHeartbeats 4000000 in
theorem s_X12_reach_53 {ad : Nat → Nat} {cy : Nat → ClassId} {x : KX} (G : KG ad cy x cX12_reach "NoonGuidesModel" 5 (some (some .int)) 3) {a0 : Nat} {c1 : Int32} {M : KM} (h0 : kty a0 = 12) {y : (Int32 × KM)} : ∀ (n : Nat) (w2 : Int32) (w3 : Int32), lp_X12_reach_53 n a0 c1 M w2 w3 = some y → KV ad cy x (some (.int y.1), y.2) 53 [(0, .ref (ad a0)), (1, .int c1), (2, .int w2), (3, .int w3)] [] M := by
  intro n
  induction n with
  | zero =>
    intro w2 w3 hf
    cases hf
  | succ n ih =>
    intro w2 w3 hf
    rw [lp_X12_reach_53] at hf
    refine v_iload_n G dX12_reach_53 3 rfl ?_
    refine v_bipush (8 : Int32) G dX12_reach_54 (by decide) ?_
    refine v_icmp_ge 157 G dX12_reach_56 (by decide) (fun h24 => ?_) (fun h24 => ?_)
    · replace hf := (if_pos h24).symm.trans hf
      refine v_iload_n G dX12_reach_157 2 rfl ?_
      obtain rfl := Option.some.inj hf
      exact v_iret G dX12_reach_158
    · replace hf := (if_neg h24).symm.trans hf
      refine v_iconst (0 : Int32) G dX12_reach_59 (by decide) ?_
      refine v_istore [(4, .int (0 : Int32)), (0, .ref (ad a0)), (1, .int c1), (2, .int w2), (3, .int w3)] G dX12_reach_60 (by decide) rfl ?_
      refine v_sub _ [1, 2, 3, 4, 0] rfl ?_
      refine s_X12_reach_62 G h0 (fun u22 hf => ?_) n w2 (0 : Int32) hf
      · obtain ⟨v23, ev23⟩ : ∃ q : Int32, q = w3 + (1 : Int32) := ⟨_, rfl⟩
        replace hf := lt_e hf ev23
        refine v_iinc v23 [(3, .int v23), (0, .ref (ad a0)), (1, .int c1), (2, .int u22)] G dX12_reach_151 3 rfl (by rw [ev23]; rfl) (by decide) rfl ?_
        refine v_goto 53 G dX12_reach_154 (by decide) ?_
        refine v_sub _ [1, 2, 3, 0] rfl ?_
        exact ih u22 v23 hf
set_option maxRecDepth 100000 in
set_option maxHeartbeats 4000000 in
theorem c_X12_reach {l : Launch} {ad : Nat → Nat} {cy : Nat → ClassId} {D : va_G} {z : Nat} (n : Nat) {a0 : Nat} {p1 : Int32} {M : KM} {y : (Int32 × KM)} (h0 : kty a0 = 12) (hf : f_X12_reach n a0 p1 M = some y) : KC l ad cy D z yX12_reach cX12_reach 5 (some .int) 3 [.ref (ad a0), .int p1] M (some (.int y.1), y.2) := by
  refine kv_enter (by decide +kernel) (Nat.le_of_ble_eq_true rfl) ?_
  intro x hl hD hz G
  subst hl hD hz
  unfold f_X12_reach at hf
  have G : KG ad cy x cX12_reach "NoonGuidesModel" 5 (some (some .int)) 3 := G
  show KV ad cy x (some (.int y.1), y.2) 0 [(0, .ref (ad a0)), (1, .int p1)] [] M
  refine v_aload_n G dX12_reach_0 0 rfl ?_
  refine v_iconst (0 : Int32) G dX12_reach_1 (by decide) ?_
  refine pf_12_1 G h0 t_1492 (Or.inl rfl) dX12_reach_2 ?_
  refine v_nmM (fun M1 eM1 => ?_)
  replace hf := lt_e hf eM1
  refine v_aload_n G dX12_reach_5 0 rfl ?_
  refine v_iconst (0 : Int32) G dX12_reach_6 (by decide) ?_
  refine pf_12_0 G h0 t_1491 (Or.inl rfl) dX12_reach_7 ?_
  refine v_nmM (fun M2 eM2 => ?_)
  replace hf := lt_e hf eM2
  refine v_aload_n G dX12_reach_10 0 rfl ?_
  refine v_iload_n G dX12_reach_11 1 rfl ?_
  obtain ⟨v3, hcv3, hf⟩ := bd_e hf
  refine v_callV [.int p1] G (c_X12_isPerson n h0 hcv3) h0 (by decide) rfl rfl rfl t_1971 t_1973 t_p118 t_17 t_1974 nm_X12_isPerson (by decide) (by decide) rfl rfl (Nat.le_of_ble_eq_true rfl) dX12_reach_12 (kv_ri ?_)
  refine v_if_ne 24 G dX12_reach_15 (by decide) (fun h28 => ?_) (fun h28 => ?_)
  · replace hf := (if_neg h28).symm.trans hf
    refine v_aload_n G dX12_reach_24 0 rfl ?_
    refine v_iload_n G dX12_reach_25 1 rfl ?_
    obtain ⟨v4, hcv4, hf⟩ := bd_e hf
    refine v_callV [.int p1] G (c_X12_isGoing n h0 hcv4) h0 (by decide) rfl rfl rfl t_1942 t_1944 t_p114 t_17 t_1945 nm_X12_isGoing (by decide) (by decide) rfl rfl (Nat.le_of_ble_eq_true rfl) dX12_reach_26 (kv_ri ?_)
    refine v_if_eq 39 G dX12_reach_29 (by decide) (fun h26 => ?_) (fun h26 => ?_)
    · replace hf := (if_pos h26).symm.trans hf
      refine v_iconst (1 : Int32) G dX12_reach_39 (by decide) ?_
      refine v_aload_n G dX12_reach_40 0 rfl ?_
      refine gf_12_20 G h0 t_1511 (Or.inl rfl) dX12_reach_41 ?_
      refine v_bipush (58 : Int32) G dX12_reach_44 (by decide) ?_
      refine v_iload_n G dX12_reach_46 1 rfl ?_
      refine v_iadd G dX12_reach_47 ?_
      obtain ⟨g5, hf⟩ := gd_e hf
      refine al_36 G (kf_12_5 h0) g5 dX12_reach_48 ?_
      refine v_ishl G dX12_reach_49 ?_
      refine v_nmi (fun v6 ev6 => ?_)
      replace hf := lt_e hf ev6
      refine v_istore_n [(2, .int v6), (0, .ref (ad a0)), (1, .int p1)] G dX12_reach_50 (by decide) rfl ?_
      refine v_iconst (0 : Int32) G dX12_reach_51 (by decide) ?_
      refine v_istore_n [(3, .int (0 : Int32)), (2, .int v6), (0, .ref (ad a0)), (1, .int p1)] G dX12_reach_52 (by decide) rfl ?_
      refine v_sub _ [2, 3, 1, 0] rfl ?_
      refine s_X12_reach_53 G h0 n v6 (0 : Int32) hf
    · replace hf := (if_neg h26).symm.trans hf
      refine v_aload_n G dX12_reach_32 0 rfl ?_
      refine v_bipush (9 : Int32) G dX12_reach_33 (by decide) ?_
      obtain ⟨v25, hcv25⟩ : ∃ q, f_X12_refuse a0 (9 : Int32) M2 = q := ⟨_, rfl⟩
      replace hf := lt_e hf hcv25.symm
      refine v_callV [.int (9 : Int32)] G (c_X12_refuse h0 hcv25) h0 (by decide) rfl rfl rfl t_1926 t_1928 t_p110 t_17 t_1929 nm_X12_refuse (by decide) (by decide) rfl rfl (Nat.le_of_ble_eq_true rfl) dX12_reach_35 (kv_ri ?_)
      obtain rfl := Option.some.inj hf
      exact v_iret G dX12_reach_38
  · replace hf := (if_pos h28).symm.trans hf
    refine v_aload_n G dX12_reach_18 0 rfl ?_
    refine v_iconst (2 : Int32) G dX12_reach_19 (by decide) ?_
    obtain ⟨v27, hcv27⟩ : ∃ q, f_X12_refuse a0 (2 : Int32) M2 = q := ⟨_, rfl⟩
    replace hf := lt_e hf hcv27.symm
    refine v_callV [.int (2 : Int32)] G (c_X12_refuse h0 hcv27) h0 (by decide) rfl rfl rfl t_1926 t_1928 t_p110 t_17 t_1929 nm_X12_refuse (by decide) (by decide) rfl rfl (Nat.le_of_ble_eq_true rfl) dX12_reach_20 (kv_ri ?_)
    obtain rfl := Option.some.inj hf
    exact v_iret G dX12_reach_23
abbrev cX12_nextGlare : ByteArray := prog_14_method_126_code
def yX12_nextGlare : MethodName := ⟨RX12, "nextGlare", "(I)I"⟩
theorem dX12_nextGlare_0 : dc cX12_nextGlare 0 (.aload_n 0) 1 1 := ⟨by decide +kernel, rfl⟩
theorem dX12_nextGlare_1 : dc cX12_nextGlare 1 (.iconst 0) 1 2 := ⟨by decide +kernel, rfl⟩
theorem dX12_nextGlare_2 : dc cX12_nextGlare 2 (.putfield 75) 3 5 := ⟨by decide +kernel, rfl⟩
theorem dX12_nextGlare_5 : dc cX12_nextGlare 5 (.aload_n 0) 1 6 := ⟨by decide +kernel, rfl⟩
theorem dX12_nextGlare_6 : dc cX12_nextGlare 6 (.iconst 0) 1 7 := ⟨by decide +kernel, rfl⟩
theorem dX12_nextGlare_7 : dc cX12_nextGlare 7 (.putfield 78) 3 10 := ⟨by decide +kernel, rfl⟩
theorem dX12_nextGlare_10 : dc cX12_nextGlare 10 (.iload_n 1) 1 11 := ⟨by decide +kernel, rfl⟩
theorem dX12_nextGlare_11 : dc cX12_nextGlare 11 (.i2l) 1 12 := ⟨by decide +kernel, rfl⟩
theorem dX12_nextGlare_12 : dc cX12_nextGlare 12 (.lconst 0) 1 13 := ⟨by decide +kernel, rfl⟩
theorem dX12_nextGlare_13 : dc cX12_nextGlare 13 (.lconst 1) 1 14 := ⟨by decide +kernel, rfl⟩
theorem dX12_nextGlare_14 : dc cX12_nextGlare 14 (.invokestatic 110) 3 17 := ⟨by decide +kernel, rfl⟩
theorem dX12_nextGlare_17 : dc cX12_nextGlare 17 (.ifCond .ne 9) 3 20 := ⟨by decide +kernel, rfl⟩
theorem dX12_nextGlare_20 : dc cX12_nextGlare 20 (.aload_n 0) 1 21 := ⟨by decide +kernel, rfl⟩
theorem dX12_nextGlare_21 : dc cX12_nextGlare 21 (.iconst 5) 1 22 := ⟨by decide +kernel, rfl⟩
theorem dX12_nextGlare_22 : dc cX12_nextGlare 22 (.invokevirtual 355) 3 25 := ⟨by decide +kernel, rfl⟩
theorem dX12_nextGlare_25 : dc cX12_nextGlare 25 (.ireturn) 1 26 := ⟨by decide +kernel, rfl⟩
theorem dX12_nextGlare_26 : dc cX12_nextGlare 26 (.iconst 0) 1 27 := ⟨by decide +kernel, rfl⟩
theorem dX12_nextGlare_27 : dc cX12_nextGlare 27 (.istore_n 2) 1 28 := ⟨by decide +kernel, rfl⟩
theorem dX12_nextGlare_28 : dc cX12_nextGlare 28 (.iload_n 2) 1 29 := ⟨by decide +kernel, rfl⟩
theorem dX12_nextGlare_29 : dc cX12_nextGlare 29 (.sipush 1440) 3 32 := ⟨by decide +kernel, rfl⟩
theorem dX12_nextGlare_32 : dc cX12_nextGlare 32 (.if_icmp .gt 36) 3 35 := ⟨by decide +kernel, rfl⟩
theorem dX12_nextGlare_35 : dc cX12_nextGlare 35 (.aload_n 0) 1 36 := ⟨by decide +kernel, rfl⟩
theorem dX12_nextGlare_36 : dc cX12_nextGlare 36 (.aload_n 0) 1 37 := ⟨by decide +kernel, rfl⟩
theorem dX12_nextGlare_37 : dc cX12_nextGlare 37 (.getfield 35) 3 40 := ⟨by decide +kernel, rfl⟩
theorem dX12_nextGlare_40 : dc cX12_nextGlare 40 (.iconst 5) 1 41 := ⟨by decide +kernel, rfl⟩
theorem dX12_nextGlare_41 : dc cX12_nextGlare 41 (.iaload) 1 42 := ⟨by decide +kernel, rfl⟩
theorem dX12_nextGlare_42 : dc cX12_nextGlare 42 (.iload_n 2) 1 43 := ⟨by decide +kernel, rfl⟩
theorem dX12_nextGlare_43 : dc cX12_nextGlare 43 (.iadd) 1 44 := ⟨by decide +kernel, rfl⟩
theorem dX12_nextGlare_44 : dc cX12_nextGlare 44 (.invokevirtual 343) 3 47 := ⟨by decide +kernel, rfl⟩
theorem dX12_nextGlare_47 : dc cX12_nextGlare 47 (.iload_n 1) 1 48 := ⟨by decide +kernel, rfl⟩
theorem dX12_nextGlare_48 : dc cX12_nextGlare 48 (.iconst 1) 1 49 := ⟨by decide +kernel, rfl⟩
theorem dX12_nextGlare_49 : dc cX12_nextGlare 49 (.if_icmp .ne 7) 3 52 := ⟨by decide +kernel, rfl⟩
theorem dX12_nextGlare_52 : dc cX12_nextGlare 52 (.iconst 1) 1 53 := ⟨by decide +kernel, rfl⟩
theorem dX12_nextGlare_53 : dc cX12_nextGlare 53 (.goto 4) 3 56 := ⟨by decide +kernel, rfl⟩
theorem dX12_nextGlare_56 : dc cX12_nextGlare 56 (.iconst 0) 1 57 := ⟨by decide +kernel, rfl⟩
theorem dX12_nextGlare_57 : dc cX12_nextGlare 57 (.if_icmp .ne 5) 3 60 := ⟨by decide +kernel, rfl⟩
theorem dX12_nextGlare_60 : dc cX12_nextGlare 60 (.iload_n 2) 1 61 := ⟨by decide +kernel, rfl⟩
theorem dX12_nextGlare_61 : dc cX12_nextGlare 61 (.ireturn) 1 62 := ⟨by decide +kernel, rfl⟩
theorem dX12_nextGlare_62 : dc cX12_nextGlare 62 (.iinc 2 1) 3 65 := ⟨by decide +kernel, rfl⟩
theorem dX12_nextGlare_65 : dc cX12_nextGlare 65 (.goto (-37)) 3 68 := ⟨by decide +kernel, rfl⟩
theorem dX12_nextGlare_68 : dc cX12_nextGlare 68 (.aload_n 0) 1 69 := ⟨by decide +kernel, rfl⟩
theorem dX12_nextGlare_69 : dc cX12_nextGlare 69 (.bipush 8) 2 71 := ⟨by decide +kernel, rfl⟩
theorem dX12_nextGlare_71 : dc cX12_nextGlare 71 (.invokevirtual 355) 3 74 := ⟨by decide +kernel, rfl⟩
theorem dX12_nextGlare_74 : dc cX12_nextGlare 74 (.ireturn) 1 75 := ⟨by decide +kernel, rfl⟩
theorem nm_X12_nextGlare : (yX12_nextGlare).cls ≠ "java/lang/invoke/MethodHandle" ∧ (yX12_nextGlare).cls ≠ "java/lang/invoke/VarHandle" ∧ (parseMethodDescriptor (yX12_nextGlare).desc).map (fun d => d.parameters.length) = some 1 := ⟨by decide +kernel, by decide +kernel, by decide +kernel⟩
set_option maxRecDepth 100000 in
set_option maxHeartbeats 4000000 in
theorem s_X12_nextGlare_28 {ad : Nat → Nat} {cy : Nat → ClassId} {x : KX} (G : KG ad cy x cX12_nextGlare "NoonGuidesModel" 3 (some (some .int)) 2) {a0 : Nat} {c1 : Int32} {M : KM} (h0 : kty a0 = 12) {k68 : Option (Int32 × KM)} {y : (Int32 × KM)} (hk68 : k68 = some y → KV ad cy x (some (.int y.1), y.2) 68 [(0, .ref (ad a0))] [] M) : ∀ (n : Nat) (w2 : Int32), lp_X12_nextGlare_28 n a0 c1 M w2 k68 = some y → KV ad cy x (some (.int y.1), y.2) 28 [(0, .ref (ad a0)), (1, .int c1), (2, .int w2)] [] M := by
  intro n
  induction n with
  | zero =>
    intro w2 hf
    cases hf
  | succ n ih =>
    intro w2 hf
    rw [lp_X12_nextGlare_28] at hf
    refine v_iload_n G dX12_nextGlare_28 2 rfl ?_
    refine v_sipush (1440 : Int32) G dX12_nextGlare_29 (by decide) ?_
    refine v_icmp_gt 68 G dX12_nextGlare_32 (by decide) (fun h10 => ?_) (fun h10 => ?_)
    · replace hf := (if_pos h10).symm.trans hf
      refine v_sub _ [0] rfl ?_
      exact hk68 hf
    · replace hf := (if_neg h10).symm.trans hf
      refine v_aload_n G dX12_nextGlare_35 0 rfl ?_
      refine v_aload_n G dX12_nextGlare_36 0 rfl ?_
      refine gf_12_20 G h0 t_1511 (Or.inl rfl) dX12_nextGlare_37 ?_
      refine v_iconst (5 : Int32) G dX12_nextGlare_40 (by decide) ?_
      obtain ⟨g4, hf⟩ := gd_e hf
      refine al_36 G (kf_12_5 h0) g4 dX12_nextGlare_41 ?_
      refine v_iload_n G dX12_nextGlare_42 2 rfl ?_
      refine v_iadd G dX12_nextGlare_43 ?_
      obtain ⟨v5, hcv5, hf⟩ := bd_e hf
      refine v_callV [.int ((M.1 (a0 + 5) ((5 : Int32)).toNatClampNeg) + w2)] G (c_X12_glares n h0 hcv5) h0 (by decide) rfl rfl rfl t_1930 t_1932 t_p111 t_17 t_1933 nm_X12_glares (by decide) (by decide) rfl rfl (Nat.le_of_ble_eq_true rfl) dX12_nextGlare_44 (kv_ri ?_)
      refine v_iload_n G dX12_nextGlare_47 1 rfl ?_
      refine v_iconst (1 : Int32) G dX12_nextGlare_48 (by decide) ?_
      obtain ⟨j57, ej57, hf⟩ := lt_j hf
      have hj57 : ∀ (x6 : Int32), j57 x6 = some y → KV ad cy x (some (.int y.1), y.2) 57 [(0, .ref (ad a0)), (1, .int c1), (2, .int w2)] [.int x6, .int v5] M := by
        intro x6 hf
        rw [ej57] at hf
        refine v_icmp_ne 62 G dX12_nextGlare_57 (by decide) (fun h8 => ?_) (fun h8 => ?_)
        · replace hf := (if_neg h8).symm.trans hf
          obtain ⟨v7, ev7⟩ : ∃ q : Int32, q = w2 + (1 : Int32) := ⟨_, rfl⟩
          replace hf := lt_e hf ev7
          refine v_iinc v7 [(2, .int v7), (0, .ref (ad a0)), (1, .int c1)] G dX12_nextGlare_62 2 rfl (by rw [ev7]; rfl) (by decide) rfl ?_
          refine v_goto 28 G dX12_nextGlare_65 (by decide) ?_
          refine v_sub _ [1, 2, 0] rfl ?_
          exact ih v7 hf
        · replace hf := (if_pos h8).symm.trans hf
          refine v_iload_n G dX12_nextGlare_60 2 rfl ?_
          obtain rfl := Option.some.inj hf
          exact v_iret G dX12_nextGlare_61
      refine v_icmp_ne 56 G dX12_nextGlare_49 (by decide) (fun h9 => ?_) (fun h9 => ?_)
      · replace hf := (if_neg h9).symm.trans hf
        refine v_iconst (0 : Int32) G dX12_nextGlare_56 (by decide) ?_
        refine v_sub _ [0, 1, 2] rfl ?_
        exact hj57 (0 : Int32) hf
      · replace hf := (if_pos h9).symm.trans hf
        refine v_iconst (1 : Int32) G dX12_nextGlare_52 (by decide) ?_
        refine v_goto 57 G dX12_nextGlare_53 (by decide) ?_
        refine v_sub _ [0, 1, 2] rfl ?_
        exact hj57 (1 : Int32) hf
set_option maxRecDepth 100000 in
set_option maxHeartbeats 4000000 in
theorem c_X12_nextGlare {l : Launch} {ad : Nat → Nat} {cy : Nat → ClassId} {D : va_G} {z : Nat} (n : Nat) {a0 : Nat} {p1 : Int32} {M : KM} {y : (Int32 × KM)} (h0 : kty a0 = 12) (hf : f_X12_nextGlare n a0 p1 M = some y) : KC l ad cy D z yX12_nextGlare cX12_nextGlare 3 (some .int) 2 [.ref (ad a0), .int p1] M (some (.int y.1), y.2) := by
  refine kv_enter (by decide +kernel) (Nat.le_of_ble_eq_true rfl) ?_
  intro x hl hD hz G
  subst hl hD hz
  unfold f_X12_nextGlare at hf
  have G : KG ad cy x cX12_nextGlare "NoonGuidesModel" 3 (some (some .int)) 2 := G
  show KV ad cy x (some (.int y.1), y.2) 0 [(0, .ref (ad a0)), (1, .int p1)] [] M
  refine v_aload_n G dX12_nextGlare_0 0 rfl ?_
  refine v_iconst (0 : Int32) G dX12_nextGlare_1 (by decide) ?_
  refine pf_12_1 G h0 t_1492 (Or.inl rfl) dX12_nextGlare_2 ?_
  refine v_nmM (fun M1 eM1 => ?_)
  replace hf := lt_e hf eM1
  refine v_aload_n G dX12_nextGlare_5 0 rfl ?_
  refine v_iconst (0 : Int32) G dX12_nextGlare_6 (by decide) ?_
  refine pf_12_0 G h0 t_1491 (Or.inl rfl) dX12_nextGlare_7 ?_
  refine v_nmM (fun M2 eM2 => ?_)
  replace hf := lt_e hf eM2
  refine v_iload_n G dX12_nextGlare_10 1 rfl ?_
  refine v_i2l G dX12_nextGlare_11 ?_
  refine v_lconst (0 : Int64) G dX12_nextGlare_12 (by decide) ?_
  refine v_lconst (1 : Int64) G dX12_nextGlare_13 (by decide) ?_
  obtain ⟨v3, hcv3⟩ : ∃ q, f_X12_isIn (p1).toInt64 (0 : Int64) (1 : Int64) M2 = q := ⟨_, rfl⟩
  replace hf := lt_e hf hcv3.symm
  refine v_callS [.long (p1).toInt64, .long (0 : Int64), .long (1 : Int64)] G (c_X12_isIn hcv3) t_1755 t_1756 t_17 t_1757 nm_X12_isIn (by decide) (by decide) rfl rfl (Nat.le_of_ble_eq_true rfl) dX12_nextGlare_14 (kv_ri ?_)
  refine v_if_ne 26 G dX12_nextGlare_17 (by decide) (fun h13 => ?_) (fun h13 => ?_)
  · replace hf := (if_neg h13).symm.trans hf
    refine v_iconst (0 : Int32) G dX12_nextGlare_26 (by decide) ?_
    refine v_istore_n [(2, .int (0 : Int32)), (0, .ref (ad a0)), (1, .int p1)] G dX12_nextGlare_27 (by decide) rfl ?_
    refine v_sub _ [1, 2, 0] rfl ?_
    refine s_X12_nextGlare_28 G h0 (fun hf => ?_) n (0 : Int32) hf
    · refine v_aload_n G dX12_nextGlare_68 0 rfl ?_
      refine v_bipush (8 : Int32) G dX12_nextGlare_69 (by decide) ?_
      obtain ⟨v11, hcv11⟩ : ∃ q, f_X12_refuse a0 (8 : Int32) M2 = q := ⟨_, rfl⟩
      replace hf := lt_e hf hcv11.symm
      refine v_callV [.int (8 : Int32)] G (c_X12_refuse h0 hcv11) h0 (by decide) rfl rfl rfl t_1926 t_1928 t_p110 t_17 t_1929 nm_X12_refuse (by decide) (by decide) rfl rfl (Nat.le_of_ble_eq_true rfl) dX12_nextGlare_71 (kv_ri ?_)
      obtain rfl := Option.some.inj hf
      exact v_iret G dX12_nextGlare_74
  · replace hf := (if_pos h13).symm.trans hf
    refine v_aload_n G dX12_nextGlare_20 0 rfl ?_
    refine v_iconst (5 : Int32) G dX12_nextGlare_21 (by decide) ?_
    obtain ⟨v12, hcv12⟩ : ∃ q, f_X12_refuse a0 (5 : Int32) M2 = q := ⟨_, rfl⟩
    replace hf := lt_e hf hcv12.symm
    refine v_callV [.int (5 : Int32)] G (c_X12_refuse h0 hcv12) h0 (by decide) rfl rfl rfl t_1926 t_1928 t_p110 t_17 t_1929 nm_X12_refuse (by decide) (by decide) rfl rfl (Nat.le_of_ble_eq_true rfl) dX12_nextGlare_22 (kv_ri ?_)
    obtain rfl := Option.some.inj hf
    exact v_iret G dX12_nextGlare_25
abbrev cX12_endBy : ByteArray := prog_14_method_127_code
def yX12_endBy : MethodName := ⟨RX12, "endBy", "(III)I"⟩
theorem dX12_endBy_0 : dc cX12_endBy 0 (.aload_n 0) 1 1 := ⟨by decide +kernel, rfl⟩
theorem dX12_endBy_1 : dc cX12_endBy 1 (.getfield 35) 3 4 := ⟨by decide +kernel, rfl⟩
theorem dX12_endBy_4 : dc cX12_endBy 4 (.bipush 106) 2 6 := ⟨by decide +kernel, rfl⟩
theorem dX12_endBy_6 : dc cX12_endBy 6 (.iload_n 1) 1 7 := ⟨by decide +kernel, rfl⟩
theorem dX12_endBy_7 : dc cX12_endBy 7 (.iadd) 1 8 := ⟨by decide +kernel, rfl⟩
theorem dX12_endBy_8 : dc cX12_endBy 8 (.iaload) 1 9 := ⟨by decide +kernel, rfl⟩
theorem dX12_endBy_9 : dc cX12_endBy 9 (.iconst 1) 1 10 := ⟨by decide +kernel, rfl⟩
theorem dX12_endBy_10 : dc cX12_endBy 10 (.if_icmp .eq 16) 3 13 := ⟨by decide +kernel, rfl⟩
theorem dX12_endBy_13 : dc cX12_endBy 13 (.aload_n 0) 1 14 := ⟨by decide +kernel, rfl⟩
theorem dX12_endBy_14 : dc cX12_endBy 14 (.getfield 35) 3 17 := ⟨by decide +kernel, rfl⟩
theorem dX12_endBy_17 : dc cX12_endBy 17 (.bipush 98) 2 19 := ⟨by decide +kernel, rfl⟩
theorem dX12_endBy_19 : dc cX12_endBy 19 (.iload_n 1) 1 20 := ⟨by decide +kernel, rfl⟩
theorem dX12_endBy_20 : dc cX12_endBy 20 (.iadd) 1 21 := ⟨by decide +kernel, rfl⟩
theorem dX12_endBy_21 : dc cX12_endBy 21 (.iaload) 1 22 := ⟨by decide +kernel, rfl⟩
theorem dX12_endBy_22 : dc cX12_endBy 22 (.iconst 1) 1 23 := ⟨by decide +kernel, rfl⟩
theorem dX12_endBy_23 : dc cX12_endBy 23 (.if_icmp .ne 29) 3 26 := ⟨by decide +kernel, rfl⟩
theorem dX12_endBy_26 : dc cX12_endBy 26 (.aload_n 0) 1 27 := ⟨by decide +kernel, rfl⟩
theorem dX12_endBy_27 : dc cX12_endBy 27 (.iload_n 1) 1 28 := ⟨by decide +kernel, rfl⟩
theorem dX12_endBy_28 : dc cX12_endBy 28 (.iload_n 2) 1 29 := ⟨by decide +kernel, rfl⟩
theorem dX12_endBy_29 : dc cX12_endBy 29 (.iconst 1) 1 30 := ⟨by decide +kernel, rfl⟩
theorem dX12_endBy_30 : dc cX12_endBy 30 (.invokevirtual 346) 3 33 := ⟨by decide +kernel, rfl⟩
theorem dX12_endBy_33 : dc cX12_endBy 33 (.ifCond .eq 17) 3 36 := ⟨by decide +kernel, rfl⟩
theorem dX12_endBy_36 : dc cX12_endBy 36 (.iload_n 3) 1 37 := ⟨by decide +kernel, rfl⟩
theorem dX12_endBy_37 : dc cX12_endBy 37 (.aload_n 0) 1 38 := ⟨by decide +kernel, rfl⟩
theorem dX12_endBy_38 : dc cX12_endBy 38 (.getfield 35) 3 41 := ⟨by decide +kernel, rfl⟩
theorem dX12_endBy_41 : dc cX12_endBy 41 (.bipush 34) 2 43 := ⟨by decide +kernel, rfl⟩
theorem dX12_endBy_43 : dc cX12_endBy 43 (.iload_n 2) 1 44 := ⟨by decide +kernel, rfl⟩
theorem dX12_endBy_44 : dc cX12_endBy 44 (.iadd) 1 45 := ⟨by decide +kernel, rfl⟩
theorem dX12_endBy_45 : dc cX12_endBy 45 (.iaload) 1 46 := ⟨by decide +kernel, rfl⟩
theorem dX12_endBy_46 : dc cX12_endBy 46 (.iadd) 1 47 := ⟨by decide +kernel, rfl⟩
theorem dX12_endBy_47 : dc cX12_endBy 47 (.goto 4) 3 50 := ⟨by decide +kernel, rfl⟩
theorem dX12_endBy_50 : dc cX12_endBy 50 (.iconst (-1)) 1 51 := ⟨by decide +kernel, rfl⟩
theorem dX12_endBy_51 : dc cX12_endBy 51 (.ireturn) 1 52 := ⟨by decide +kernel, rfl⟩
theorem dX12_endBy_52 : dc cX12_endBy 52 (.aload_n 0) 1 53 := ⟨by decide +kernel, rfl⟩
theorem dX12_endBy_53 : dc cX12_endBy 53 (.getfield 35) 3 56 := ⟨by decide +kernel, rfl⟩
theorem dX12_endBy_56 : dc cX12_endBy 56 (.bipush 9) 2 58 := ⟨by decide +kernel, rfl⟩
theorem dX12_endBy_58 : dc cX12_endBy 58 (.iaload) 1 59 := ⟨by decide +kernel, rfl⟩
theorem dX12_endBy_59 : dc cX12_endBy 59 (.ifCond .ne 25) 3 62 := ⟨by decide +kernel, rfl⟩
theorem dX12_endBy_62 : dc cX12_endBy 62 (.aload_n 0) 1 63 := ⟨by decide +kernel, rfl⟩
theorem dX12_endBy_63 : dc cX12_endBy 63 (.getfield 35) 3 66 := ⟨by decide +kernel, rfl⟩
theorem dX12_endBy_66 : dc cX12_endBy 66 (.iconst 3) 1 67 := ⟨by decide +kernel, rfl⟩
theorem dX12_endBy_67 : dc cX12_endBy 67 (.iaload) 1 68 := ⟨by decide +kernel, rfl⟩
theorem dX12_endBy_68 : dc cX12_endBy 68 (.ifCond .ne 16) 3 71 := ⟨by decide +kernel, rfl⟩
theorem dX12_endBy_71 : dc cX12_endBy 71 (.aload_n 0) 1 72 := ⟨by decide +kernel, rfl⟩
theorem dX12_endBy_72 : dc cX12_endBy 72 (.getfield 35) 3 75 := ⟨by decide +kernel, rfl⟩
theorem dX12_endBy_75 : dc cX12_endBy 75 (.iconst 4) 1 76 := ⟨by decide +kernel, rfl⟩
theorem dX12_endBy_76 : dc cX12_endBy 76 (.iaload) 1 77 := ⟨by decide +kernel, rfl⟩
theorem dX12_endBy_77 : dc cX12_endBy 77 (.bipush 24) 2 79 := ⟨by decide +kernel, rfl⟩
theorem dX12_endBy_79 : dc cX12_endBy 79 (.if_icmp .ne 5) 3 82 := ⟨by decide +kernel, rfl⟩
theorem dX12_endBy_82 : dc cX12_endBy 82 (.iconst (-1)) 1 83 := ⟨by decide +kernel, rfl⟩
theorem dX12_endBy_83 : dc cX12_endBy 83 (.ireturn) 1 84 := ⟨by decide +kernel, rfl⟩
theorem dX12_endBy_84 : dc cX12_endBy 84 (.iload_n 3) 1 85 := ⟨by decide +kernel, rfl⟩
theorem dX12_endBy_85 : dc cX12_endBy 85 (.istore 4) 2 87 := ⟨by decide +kernel, rfl⟩
theorem dX12_endBy_87 : dc cX12_endBy 87 (.aload_n 0) 1 88 := ⟨by decide +kernel, rfl⟩
theorem dX12_endBy_88 : dc cX12_endBy 88 (.getfield 35) 3 91 := ⟨by decide +kernel, rfl⟩
theorem dX12_endBy_91 : dc cX12_endBy 91 (.bipush 34) 2 93 := ⟨by decide +kernel, rfl⟩
theorem dX12_endBy_93 : dc cX12_endBy 93 (.iload_n 2) 1 94 := ⟨by decide +kernel, rfl⟩
theorem dX12_endBy_94 : dc cX12_endBy 94 (.iadd) 1 95 := ⟨by decide +kernel, rfl⟩
theorem dX12_endBy_95 : dc cX12_endBy 95 (.iaload) 1 96 := ⟨by decide +kernel, rfl⟩
theorem dX12_endBy_96 : dc cX12_endBy 96 (.istore 5) 2 98 := ⟨by decide +kernel, rfl⟩
theorem dX12_endBy_98 : dc cX12_endBy 98 (.iload 5) 2 100 := ⟨by decide +kernel, rfl⟩
theorem dX12_endBy_100 : dc cX12_endBy 100 (.ifCond .le 21) 3 103 := ⟨by decide +kernel, rfl⟩
theorem dX12_endBy_103 : dc cX12_endBy 103 (.aload_n 0) 1 104 := ⟨by decide +kernel, rfl⟩
theorem dX12_endBy_104 : dc cX12_endBy 104 (.iload 4) 2 106 := ⟨by decide +kernel, rfl⟩
theorem dX12_endBy_106 : dc cX12_endBy 106 (.invokevirtual 343) 3 109 := ⟨by decide +kernel, rfl⟩
theorem dX12_endBy_109 : dc cX12_endBy 109 (.ifCond .ne 6) 3 112 := ⟨by decide +kernel, rfl⟩
theorem dX12_endBy_112 : dc cX12_endBy 112 (.iinc 5 (-1)) 3 115 := ⟨by decide +kernel, rfl⟩
theorem dX12_endBy_115 : dc cX12_endBy 115 (.iinc 4 1) 3 118 := ⟨by decide +kernel, rfl⟩
theorem dX12_endBy_118 : dc cX12_endBy 118 (.goto (-20)) 3 121 := ⟨by decide +kernel, rfl⟩
theorem dX12_endBy_121 : dc cX12_endBy 121 (.iload 4) 2 123 := ⟨by decide +kernel, rfl⟩
theorem dX12_endBy_123 : dc cX12_endBy 123 (.ireturn) 1 124 := ⟨by decide +kernel, rfl⟩
theorem nm_X12_endBy : (yX12_endBy).cls ≠ "java/lang/invoke/MethodHandle" ∧ (yX12_endBy).cls ≠ "java/lang/invoke/VarHandle" ∧ (parseMethodDescriptor (yX12_endBy).desc).map (fun d => d.parameters.length) = some 3 := ⟨by decide +kernel, by decide +kernel, by decide +kernel⟩
set_option maxRecDepth 100000 in
set_option maxHeartbeats 4000000 in
theorem s_X12_endBy_98 {ad : Nat → Nat} {cy : Nat → ClassId} {x : KX} (G : KG ad cy x cX12_endBy "NoonGuidesModel" 6 (some (some .int)) 2) {a0 : Nat} {M : KM} (h0 : kty a0 = 12) {y : Int32} : ∀ (n : Nat) (w4 : Int32) (w5 : Int32), lp_X12_endBy_98 n a0 M w4 w5 = some y → KV ad cy x (some (.int y), M) 98 [(0, .ref (ad a0)), (4, .int w4), (5, .int w5)] [] M := by
  intro n
  induction n with
  | zero =>
    intro w4 w5 hf
    cases hf
  | succ n ih =>
    intro w4 w5 hf
    rw [lp_X12_endBy_98] at hf
    refine v_iload G dX12_endBy_98 2 rfl ?_
    refine v_if_le 121 G dX12_endBy_100 (by decide) (fun h14 => ?_) (fun h14 => ?_)
    · replace hf := (if_pos h14).symm.trans hf
      refine v_iload G dX12_endBy_121 1 rfl ?_
      obtain rfl := Option.some.inj hf
      exact v_iret G dX12_endBy_123
    · replace hf := (if_neg h14).symm.trans hf
      refine v_aload_n G dX12_endBy_103 0 rfl ?_
      refine v_iload G dX12_endBy_104 1 rfl ?_
      obtain ⟨v9, hcv9, hf⟩ := bd_e hf
      refine v_callV [.int w4] G (c_X12_glares n h0 hcv9) h0 (by decide) rfl rfl rfl t_1930 t_1932 t_p111 t_17 t_1933 nm_X12_glares (by decide) (by decide) rfl rfl (Nat.le_of_ble_eq_true rfl) dX12_endBy_106 (kv_ri ?_)
      obtain ⟨j115, ej115, hf⟩ := lt_j hf
      have hj115 : ∀ (x10 : Int32), j115 x10 = some y → KV ad cy x (some (.int y), M) 115 [(0, .ref (ad a0)), (4, .int w4), (5, .int x10)] [] M := by
        intro x10 hf
        rw [ej115] at hf
        obtain ⟨v11, ev11⟩ : ∃ q : Int32, q = w4 + (1 : Int32) := ⟨_, rfl⟩
        replace hf := lt_e hf ev11
        refine v_iinc v11 [(4, .int v11), (0, .ref (ad a0)), (5, .int x10)] G dX12_endBy_115 1 rfl (by rw [ev11]; rfl) (by decide) rfl ?_
        refine v_goto 98 G dX12_endBy_118 (by decide) ?_
        refine v_sub _ [1, 0, 2] rfl ?_
        exact ih v11 x10 hf
      refine v_if_ne 115 G dX12_endBy_109 (by decide) (fun h13 => ?_) (fun h13 => ?_)
      · replace hf := (if_neg h13).symm.trans hf
        refine v_sub _ [0, 1, 2] rfl ?_
        exact hj115 w5 hf
      · replace hf := (if_pos h13).symm.trans hf
        obtain ⟨v12, ev12⟩ : ∃ q : Int32, q = w5 + (-1 : Int32) := ⟨_, rfl⟩
        replace hf := lt_e hf ev12
        refine v_iinc v12 [(5, .int v12), (0, .ref (ad a0)), (4, .int w4)] G dX12_endBy_112 2 rfl (by rw [ev12]; rfl) (by decide) rfl ?_
        refine v_sub _ [1, 2, 0] rfl ?_
        exact hj115 v12 hf
set_option maxRecDepth 100000 in
set_option maxHeartbeats 4000000 in
theorem c_X12_endBy {l : Launch} {ad : Nat → Nat} {cy : Nat → ClassId} {D : va_G} {z : Nat} (n : Nat) {a0 : Nat} {p1 : Int32} {p2 : Int32} {p3 : Int32} {M : KM} {y : Int32} (h0 : kty a0 = 12) (hf : f_X12_endBy n a0 p1 p2 p3 M = some y) : KC l ad cy D z yX12_endBy cX12_endBy 6 (some .int) 2 [.ref (ad a0), .int p1, .int p2, .int p3] M (some (.int y), M) := by
  refine kv_enter (by decide +kernel) (Nat.le_of_ble_eq_true rfl) ?_
  intro x hl hD hz G
  subst hl hD hz
  unfold f_X12_endBy at hf
  have G : KG ad cy x cX12_endBy "NoonGuidesModel" 6 (some (some .int)) 2 := G
  show KV ad cy x (some (.int y), M) 0 [(0, .ref (ad a0)), (1, .int p1), (2, .int p2), (3, .int p3)] [] M
  refine v_aload_n G dX12_endBy_0 0 rfl ?_
  refine gf_12_20 G h0 t_1511 (Or.inl rfl) dX12_endBy_1 ?_
  refine v_bipush (106 : Int32) G dX12_endBy_4 (by decide) ?_
  refine v_iload_n G dX12_endBy_6 1 rfl ?_
  refine v_iadd G dX12_endBy_7 ?_
  obtain ⟨g1, hf⟩ := gd_e hf
  refine al_36 G (kf_12_5 h0) g1 dX12_endBy_8 ?_
  refine v_iconst (1 : Int32) G dX12_endBy_9 (by decide) ?_
  obtain ⟨j26, ej26, hf⟩ := lt_j hf
  have hj26 : j26 = some y → KV ad cy x (some (.int y), M) 26 [(0, .ref (ad a0)), (1, .int p1), (2, .int p2), (3, .int p3)] [] M := by
    intro hf
    rw [ej26] at hf
    refine v_aload_n G dX12_endBy_26 0 rfl ?_
    refine v_iload_n G dX12_endBy_27 1 rfl ?_
    refine v_iload_n G dX12_endBy_28 2 rfl ?_
    refine v_iconst (1 : Int32) G dX12_endBy_29 (by decide) ?_
    obtain ⟨v2, hcv2, hf⟩ := bd_e hf
    refine v_callV [.int p1, .int p2, .int (1 : Int32)] G (c_X12_canGo n h0 hcv2) h0 (by decide) rfl rfl rfl t_2006 t_2008 t_p121 t_17 t_2009 nm_X12_canGo (by decide) (by decide) rfl rfl (Nat.le_of_ble_eq_true rfl) dX12_endBy_30 (kv_ri ?_)
    refine v_if_eq 50 G dX12_endBy_33 (by decide) (fun h4 => ?_) (fun h4 => ?_)
    · replace hf := (if_pos h4).symm.trans hf
      refine v_iconst (-1 : Int32) G dX12_endBy_50 (by decide) ?_
      obtain rfl := Option.some.inj hf
      exact v_iret G dX12_endBy_51
    · replace hf := (if_neg h4).symm.trans hf
      refine v_iload_n G dX12_endBy_36 3 rfl ?_
      refine v_aload_n G dX12_endBy_37 0 rfl ?_
      refine gf_12_20 G h0 t_1511 (Or.inl rfl) dX12_endBy_38 ?_
      refine v_bipush (34 : Int32) G dX12_endBy_41 (by decide) ?_
      refine v_iload_n G dX12_endBy_43 2 rfl ?_
      refine v_iadd G dX12_endBy_44 ?_
      obtain ⟨g3, hf⟩ := gd_e hf
      refine al_36 G (kf_12_5 h0) g3 dX12_endBy_45 ?_
      refine v_iadd G dX12_endBy_46 ?_
      refine v_goto 51 G dX12_endBy_47 (by decide) ?_
      obtain rfl := Option.some.inj hf
      exact v_iret G dX12_endBy_51
  refine v_icmp_eq 26 G dX12_endBy_10 (by decide) (fun h21 => ?_) (fun h21 => ?_)
  · replace hf := (if_pos h21).symm.trans hf
    refine v_sub _ [0, 1, 2, 3] rfl ?_
    exact hj26 hf
  · replace hf := (if_neg h21).symm.trans hf
    refine v_aload_n G dX12_endBy_13 0 rfl ?_
    refine gf_12_20 G h0 t_1511 (Or.inl rfl) dX12_endBy_14 ?_
    refine v_bipush (98 : Int32) G dX12_endBy_17 (by decide) ?_
    refine v_iload_n G dX12_endBy_19 1 rfl ?_
    refine v_iadd G dX12_endBy_20 ?_
    obtain ⟨g5, hf⟩ := gd_e hf
    refine al_36 G (kf_12_5 h0) g5 dX12_endBy_21 ?_
    refine v_iconst (1 : Int32) G dX12_endBy_22 (by decide) ?_
    refine v_icmp_ne 52 G dX12_endBy_23 (by decide) (fun h20 => ?_) (fun h20 => ?_)
    · replace hf := (if_neg h20).symm.trans hf
      refine v_aload_n G dX12_endBy_52 0 rfl ?_
      refine gf_12_20 G h0 t_1511 (Or.inl rfl) dX12_endBy_53 ?_
      refine v_bipush (9 : Int32) G dX12_endBy_56 (by decide) ?_
      obtain ⟨g6, hf⟩ := gd_e hf
      refine al_36 G (kf_12_5 h0) g6 dX12_endBy_58 ?_
      obtain ⟨j84, ej84, hf⟩ := lt_j hf
      have hj84 : j84 = some y → KV ad cy x (some (.int y), M) 84 [(0, .ref (ad a0)), (2, .int p2), (3, .int p3)] [] M := by
        intro hf
        rw [ej84] at hf
        refine v_iload_n G dX12_endBy_84 2 rfl ?_
        refine v_istore [(4, .int p3), (0, .ref (ad a0)), (2, .int p2), (3, .int p3)] G dX12_endBy_85 (by decide) rfl ?_
        refine v_aload_n G dX12_endBy_87 1 rfl ?_
        refine gf_12_20 G h0 t_1511 (Or.inl rfl) dX12_endBy_88 ?_
        refine v_bipush (34 : Int32) G dX12_endBy_91 (by decide) ?_
        refine v_iload_n G dX12_endBy_93 2 rfl ?_
        refine v_iadd G dX12_endBy_94 ?_
        obtain ⟨g7, hf⟩ := gd_e hf
        refine al_36 G (kf_12_5 h0) g7 dX12_endBy_95 ?_
        refine v_nmi (fun v8 ev8 => ?_)
        replace hf := lt_e hf ev8
        refine v_istore [(5, .int v8), (4, .int p3), (0, .ref (ad a0)), (2, .int p2), (3, .int p3)] G dX12_endBy_96 (by decide) rfl ?_
        refine v_sub _ [2, 1, 0] rfl ?_
        refine s_X12_endBy_98 G h0 n p3 v8 hf
      refine v_if_ne 84 G dX12_endBy_59 (by decide) (fun h19 => ?_) (fun h19 => ?_)
      · replace hf := (if_neg h19).symm.trans hf
        refine v_sub _ [0, 2, 3] rfl ?_
        exact hj84 hf
      · replace hf := (if_pos h19).symm.trans hf
        refine v_aload_n G dX12_endBy_62 0 rfl ?_
        refine gf_12_20 G h0 t_1511 (Or.inl rfl) dX12_endBy_63 ?_
        refine v_iconst (3 : Int32) G dX12_endBy_66 (by decide) ?_
        obtain ⟨g15, hf⟩ := gd_e hf
        refine al_36 G (kf_12_5 h0) g15 dX12_endBy_67 ?_
        refine v_if_ne 84 G dX12_endBy_68 (by decide) (fun h18 => ?_) (fun h18 => ?_)
        · replace hf := (if_neg h18).symm.trans hf
          refine v_sub _ [0, 2, 3] rfl ?_
          exact hj84 hf
        · replace hf := (if_pos h18).symm.trans hf
          refine v_aload_n G dX12_endBy_71 0 rfl ?_
          refine gf_12_20 G h0 t_1511 (Or.inl rfl) dX12_endBy_72 ?_
          refine v_iconst (4 : Int32) G dX12_endBy_75 (by decide) ?_
          obtain ⟨g16, hf⟩ := gd_e hf
          refine al_36 G (kf_12_5 h0) g16 dX12_endBy_76 ?_
          refine v_bipush (24 : Int32) G dX12_endBy_77 (by decide) ?_
          refine v_icmp_ne 84 G dX12_endBy_79 (by decide) (fun h17 => ?_) (fun h17 => ?_)
          · replace hf := (if_neg h17).symm.trans hf
            refine v_sub _ [0, 2, 3] rfl ?_
            exact hj84 hf
          · replace hf := (if_pos h17).symm.trans hf
            refine v_iconst (-1 : Int32) G dX12_endBy_82 (by decide) ?_
            obtain rfl := Option.some.inj hf
            exact v_iret G dX12_endBy_83
    · replace hf := (if_pos h20).symm.trans hf
      refine v_sub _ [0, 1, 2, 3] rfl ?_
      exact hj26 hf
abbrev cX12_endOfTwo : ByteArray := prog_14_method_128_code
def yX12_endOfTwo : MethodName := ⟨RX12, "endOfTwo", "(IIII)I"⟩
theorem dX12_endOfTwo_0 : dc cX12_endOfTwo 0 (.aload_n 0) 1 1 := ⟨by decide +kernel, rfl⟩
theorem dX12_endOfTwo_1 : dc cX12_endOfTwo 1 (.iload_n 1) 1 2 := ⟨by decide +kernel, rfl⟩
theorem dX12_endOfTwo_2 : dc cX12_endOfTwo 2 (.iload_n 3) 1 3 := ⟨by decide +kernel, rfl⟩
theorem dX12_endOfTwo_3 : dc cX12_endOfTwo 3 (.iload 4) 2 5 := ⟨by decide +kernel, rfl⟩
theorem dX12_endOfTwo_5 : dc cX12_endOfTwo 5 (.invokevirtual 448) 3 8 := ⟨by decide +kernel, rfl⟩
theorem dX12_endOfTwo_8 : dc cX12_endOfTwo 8 (.istore 5) 2 10 := ⟨by decide +kernel, rfl⟩
theorem dX12_endOfTwo_10 : dc cX12_endOfTwo 10 (.iload_n 2) 1 11 := ⟨by decide +kernel, rfl⟩
theorem dX12_endOfTwo_11 : dc cX12_endOfTwo 11 (.ifCond .ge 7) 3 14 := ⟨by decide +kernel, rfl⟩
theorem dX12_endOfTwo_14 : dc cX12_endOfTwo 14 (.iconst (-1)) 1 15 := ⟨by decide +kernel, rfl⟩
theorem dX12_endOfTwo_15 : dc cX12_endOfTwo 15 (.goto 11) 3 18 := ⟨by decide +kernel, rfl⟩
theorem dX12_endOfTwo_18 : dc cX12_endOfTwo 18 (.aload_n 0) 1 19 := ⟨by decide +kernel, rfl⟩
theorem dX12_endOfTwo_19 : dc cX12_endOfTwo 19 (.iload_n 2) 1 20 := ⟨by decide +kernel, rfl⟩
theorem dX12_endOfTwo_20 : dc cX12_endOfTwo 20 (.iload_n 3) 1 21 := ⟨by decide +kernel, rfl⟩
theorem dX12_endOfTwo_21 : dc cX12_endOfTwo 21 (.iload 4) 2 23 := ⟨by decide +kernel, rfl⟩
theorem dX12_endOfTwo_23 : dc cX12_endOfTwo 23 (.invokevirtual 448) 3 26 := ⟨by decide +kernel, rfl⟩
theorem dX12_endOfTwo_26 : dc cX12_endOfTwo 26 (.istore 6) 2 28 := ⟨by decide +kernel, rfl⟩
theorem dX12_endOfTwo_28 : dc cX12_endOfTwo 28 (.iload 5) 2 30 := ⟨by decide +kernel, rfl⟩
theorem dX12_endOfTwo_30 : dc cX12_endOfTwo 30 (.ifCond .ge 8) 3 33 := ⟨by decide +kernel, rfl⟩
theorem dX12_endOfTwo_33 : dc cX12_endOfTwo 33 (.iload 6) 2 35 := ⟨by decide +kernel, rfl⟩
theorem dX12_endOfTwo_35 : dc cX12_endOfTwo 35 (.goto 20) 3 38 := ⟨by decide +kernel, rfl⟩
theorem dX12_endOfTwo_38 : dc cX12_endOfTwo 38 (.iload 6) 2 40 := ⟨by decide +kernel, rfl⟩
theorem dX12_endOfTwo_40 : dc cX12_endOfTwo 40 (.ifCond .ge 8) 3 43 := ⟨by decide +kernel, rfl⟩
theorem dX12_endOfTwo_43 : dc cX12_endOfTwo 43 (.iload 5) 2 45 := ⟨by decide +kernel, rfl⟩
theorem dX12_endOfTwo_45 : dc cX12_endOfTwo 45 (.goto 10) 3 48 := ⟨by decide +kernel, rfl⟩
theorem dX12_endOfTwo_48 : dc cX12_endOfTwo 48 (.iload 5) 2 50 := ⟨by decide +kernel, rfl⟩
theorem dX12_endOfTwo_50 : dc cX12_endOfTwo 50 (.iload 6) 2 52 := ⟨by decide +kernel, rfl⟩
theorem dX12_endOfTwo_52 : dc cX12_endOfTwo 52 (.invokestatic 381) 3 55 := ⟨by decide +kernel, rfl⟩
theorem dX12_endOfTwo_55 : dc cX12_endOfTwo 55 (.ireturn) 1 56 := ⟨by decide +kernel, rfl⟩
theorem nm_X12_endOfTwo : (yX12_endOfTwo).cls ≠ "java/lang/invoke/MethodHandle" ∧ (yX12_endOfTwo).cls ≠ "java/lang/invoke/VarHandle" ∧ (parseMethodDescriptor (yX12_endOfTwo).desc).map (fun d => d.parameters.length) = some 4 := ⟨by decide +kernel, by decide +kernel, by decide +kernel⟩
set_option maxRecDepth 100000 in
set_option maxHeartbeats 4000000 in
theorem c_X12_endOfTwo {l : Launch} {ad : Nat → Nat} {cy : Nat → ClassId} {D : va_G} {z : Nat} (n : Nat) {a0 : Nat} {p1 : Int32} {p2 : Int32} {p3 : Int32} {p4 : Int32} {M : KM} {y : Int32} (h0 : kty a0 = 12) (hf : f_X12_endOfTwo n a0 p1 p2 p3 p4 M = some y) : KC l ad cy D z yX12_endOfTwo cX12_endOfTwo 7 (some .int) 3 [.ref (ad a0), .int p1, .int p2, .int p3, .int p4] M (some (.int y), M) := by
  refine kv_enter (by decide +kernel) (Nat.le_of_ble_eq_true rfl) ?_
  intro x hl hD hz G
  subst hl hD hz
  unfold f_X12_endOfTwo at hf
  have G : KG ad cy x cX12_endOfTwo "NoonGuidesModel" 7 (some (some .int)) 3 := G
  show KV ad cy x (some (.int y), M) 0 [(0, .ref (ad a0)), (1, .int p1), (2, .int p2), (3, .int p3), (4, .int p4)] [] M
  refine v_aload_n G dX12_endOfTwo_0 0 rfl ?_
  refine v_iload_n G dX12_endOfTwo_1 1 rfl ?_
  refine v_iload_n G dX12_endOfTwo_2 3 rfl ?_
  refine v_iload G dX12_endOfTwo_3 4 rfl ?_
  obtain ⟨v1, hcv1, hf⟩ := bd_e hf
  refine v_callV [.int p1, .int p3, .int p4] G (c_X12_endBy n h0 hcv1) h0 (by decide) rfl rfl rfl t_2148 t_2150 t_p138 t_17 t_2151 nm_X12_endBy (by decide) (by decide) rfl rfl (Nat.le_of_ble_eq_true rfl) dX12_endOfTwo_5 (kv_ri ?_)
  refine v_istore [(5, .int v1), (0, .ref (ad a0)), (1, .int p1), (2, .int p2), (3, .int p3), (4, .int p4)] G dX12_endOfTwo_8 (by decide) rfl ?_
  refine v_iload_n G dX12_endOfTwo_10 3 rfl ?_
  obtain ⟨j26, ej26, hf⟩ := lt_j hf
  have hj26 : ∀ (x2 : Int32), j26 x2 = some y → KV ad cy x (some (.int y), M) 26 [(5, .int v1)] [.int x2] M := by
    intro x2 hf
    rw [ej26] at hf
    refine v_istore [(6, .int x2), (5, .int v1)] G dX12_endOfTwo_26 (by decide) rfl ?_
    refine v_iload G dX12_endOfTwo_28 1 rfl ?_
    refine v_if_ge 38 G dX12_endOfTwo_30 (by decide) (fun h5 => ?_) (fun h5 => ?_)
    · replace hf := (if_pos h5).symm.trans hf
      refine v_iload G dX12_endOfTwo_38 0 rfl ?_
      refine v_if_ge 48 G dX12_endOfTwo_40 (by decide) (fun h4 => ?_) (fun h4 => ?_)
      · replace hf := (if_pos h4).symm.trans hf
        refine v_iload G dX12_endOfTwo_48 1 rfl ?_
        refine v_iload G dX12_endOfTwo_50 0 rfl ?_
        refine v_mmin G (by decide) t_2022 t_658 t_19 t_659 (Nat.le_of_ble_eq_true rfl) dX12_endOfTwo_52 ?_
        refine v_nmi (fun v3 ev3 => ?_)
        replace hf := lt_e hf ev3
        obtain rfl := Option.some.inj hf
        exact v_iret G dX12_endOfTwo_55
      · replace hf := (if_neg h4).symm.trans hf
        refine v_iload G dX12_endOfTwo_43 1 rfl ?_
        refine v_goto 55 G dX12_endOfTwo_45 (by decide) ?_
        obtain rfl := Option.some.inj hf
        exact v_iret G dX12_endOfTwo_55
    · replace hf := (if_neg h5).symm.trans hf
      refine v_iload G dX12_endOfTwo_33 0 rfl ?_
      refine v_goto 55 G dX12_endOfTwo_35 (by decide) ?_
      obtain rfl := Option.some.inj hf
      exact v_iret G dX12_endOfTwo_55
  refine v_if_ge 18 G dX12_endOfTwo_11 (by decide) (fun h7 => ?_) (fun h7 => ?_)
  · replace hf := (if_pos h7).symm.trans hf
    refine v_aload_n G dX12_endOfTwo_18 1 rfl ?_
    refine v_iload_n G dX12_endOfTwo_19 3 rfl ?_
    refine v_iload_n G dX12_endOfTwo_20 4 rfl ?_
    refine v_iload G dX12_endOfTwo_21 5 rfl ?_
    obtain ⟨v6, hcv6, hf⟩ := bd_e hf
    refine v_callV [.int p2, .int p3, .int p4] G (c_X12_endBy n h0 hcv6) h0 (by decide) rfl rfl rfl t_2148 t_2150 t_p138 t_17 t_2151 nm_X12_endBy (by decide) (by decide) rfl rfl (Nat.le_of_ble_eq_true rfl) dX12_endOfTwo_23 (kv_ri ?_)
    refine v_sub _ [0] rfl ?_
    exact hj26 v6 hf
  · replace hf := (if_neg h7).symm.trans hf
    refine v_iconst (-1 : Int32) G dX12_endOfTwo_14 (by decide) ?_
    refine v_goto 26 G dX12_endOfTwo_15 (by decide) ?_
    refine v_sub _ [0] rfl ?_
    exact hj26 (-1 : Int32) hf
abbrev cX12_improves : ByteArray := prog_14_method_130_code
def yX12_improves : MethodName := ⟨RX12, "improves", "([IIIIII)Z"⟩
theorem dX12_improves_0 : dc cX12_improves 0 (.aload_n 1) 1 1 := ⟨by decide +kernel, rfl⟩
theorem dX12_improves_1 : dc cX12_improves 1 (.iload 5) 2 3 := ⟨by decide +kernel, rfl⟩
theorem dX12_improves_3 : dc cX12_improves 3 (.iaload) 1 4 := ⟨by decide +kernel, rfl⟩
theorem dX12_improves_4 : dc cX12_improves 4 (.ifCond .ge 7) 3 7 := ⟨by decide +kernel, rfl⟩
theorem dX12_improves_7 : dc cX12_improves 7 (.iconst (-1)) 1 8 := ⟨by decide +kernel, rfl⟩
theorem dX12_improves_8 : dc cX12_improves 8 (.goto 15) 3 11 := ⟨by decide +kernel, rfl⟩
theorem dX12_improves_11 : dc cX12_improves 11 (.aload_n 0) 1 12 := ⟨by decide +kernel, rfl⟩
theorem dX12_improves_12 : dc cX12_improves 12 (.iload_n 2) 1 13 := ⟨by decide +kernel, rfl⟩
theorem dX12_improves_13 : dc cX12_improves 13 (.iload_n 3) 1 14 := ⟨by decide +kernel, rfl⟩
theorem dX12_improves_14 : dc cX12_improves 14 (.iload 4) 2 16 := ⟨by decide +kernel, rfl⟩
theorem dX12_improves_16 : dc cX12_improves 16 (.aload_n 1) 1 17 := ⟨by decide +kernel, rfl⟩
theorem dX12_improves_17 : dc cX12_improves 17 (.iload 5) 2 19 := ⟨by decide +kernel, rfl⟩
theorem dX12_improves_19 : dc cX12_improves 19 (.iaload) 1 20 := ⟨by decide +kernel, rfl⟩
theorem dX12_improves_20 : dc cX12_improves 20 (.invokevirtual 455) 3 23 := ⟨by decide +kernel, rfl⟩
theorem dX12_improves_23 : dc cX12_improves 23 (.istore 7) 2 25 := ⟨by decide +kernel, rfl⟩
theorem dX12_improves_25 : dc cX12_improves 25 (.iload 7) 2 27 := ⟨by decide +kernel, rfl⟩
theorem dX12_improves_27 : dc cX12_improves 27 (.ifCond .lt 19) 3 30 := ⟨by decide +kernel, rfl⟩
theorem dX12_improves_30 : dc cX12_improves 30 (.aload_n 1) 1 31 := ⟨by decide +kernel, rfl⟩
theorem dX12_improves_31 : dc cX12_improves 31 (.iload 6) 2 33 := ⟨by decide +kernel, rfl⟩
theorem dX12_improves_33 : dc cX12_improves 33 (.iaload) 1 34 := ⟨by decide +kernel, rfl⟩
theorem dX12_improves_34 : dc cX12_improves 34 (.ifCond .lt 14) 3 37 := ⟨by decide +kernel, rfl⟩
theorem dX12_improves_37 : dc cX12_improves 37 (.aload_n 1) 1 38 := ⟨by decide +kernel, rfl⟩
theorem dX12_improves_38 : dc cX12_improves 38 (.iload 6) 2 40 := ⟨by decide +kernel, rfl⟩
theorem dX12_improves_40 : dc cX12_improves 40 (.iaload) 1 41 := ⟨by decide +kernel, rfl⟩
theorem dX12_improves_41 : dc cX12_improves 41 (.iload 7) 2 43 := ⟨by decide +kernel, rfl⟩
theorem dX12_improves_43 : dc cX12_improves 43 (.if_icmp .gt 5) 3 46 := ⟨by decide +kernel, rfl⟩
theorem dX12_improves_46 : dc cX12_improves 46 (.iconst 0) 1 47 := ⟨by decide +kernel, rfl⟩
theorem dX12_improves_47 : dc cX12_improves 47 (.ireturn) 1 48 := ⟨by decide +kernel, rfl⟩
theorem dX12_improves_48 : dc cX12_improves 48 (.aload_n 1) 1 49 := ⟨by decide +kernel, rfl⟩
theorem dX12_improves_49 : dc cX12_improves 49 (.iload 6) 2 51 := ⟨by decide +kernel, rfl⟩
theorem dX12_improves_51 : dc cX12_improves 51 (.iload 7) 2 53 := ⟨by decide +kernel, rfl⟩
theorem dX12_improves_53 : dc cX12_improves 53 (.iastore) 1 54 := ⟨by decide +kernel, rfl⟩
theorem dX12_improves_54 : dc cX12_improves 54 (.iconst 1) 1 55 := ⟨by decide +kernel, rfl⟩
theorem dX12_improves_55 : dc cX12_improves 55 (.ireturn) 1 56 := ⟨by decide +kernel, rfl⟩
theorem nm_X12_improves : (yX12_improves).cls ≠ "java/lang/invoke/MethodHandle" ∧ (yX12_improves).cls ≠ "java/lang/invoke/VarHandle" ∧ (parseMethodDescriptor (yX12_improves).desc).map (fun d => d.parameters.length) = some 6 := ⟨by decide +kernel, by decide +kernel, by decide +kernel⟩
set_option maxRecDepth 100000 in
theorem z_X12_improves (n : Nat) {a0 : Nat} {a1 : Nat} {p2 : Int32} {p3 : Int32} {p4 : Int32} {p5 : Int32} {p6 : Int32} {M : KM} {y : (Int32 × KM)} (hf : f_X12_improves n a0 a1 p2 p3 p4 p5 p6 M = some y) : (y.1 = 0 ∨ y.1 = 1) := by
  unfold f_X12_improves at hf
  obtain ⟨g1, hf⟩ := gd_e hf
  obtain ⟨j23, ej23, hf⟩ := lt_j hf
  have hj23 : ∀ (x2 : Int32), j23 x2 = some y → (y.1 = 0 ∨ y.1 = 1) := by
    intro x2 hf
    rw [ej23] at hf
    by_cases h9 : x2 < 0
    · replace hf := (if_pos h9).symm.trans hf
      obtain rfl := Option.some.inj hf
      exact (Or.inl rfl)
    · replace hf := (if_neg h9).symm.trans hf
      obtain ⟨g3, hf⟩ := gd_e hf
      obtain ⟨j48, ej48, hf⟩ := lt_j hf
      have hj48 : j48 = some y → (y.1 = 0 ∨ y.1 = 1) := by
        intro hf
        rw [ej48] at hf
        obtain ⟨g4, hf⟩ := gd_e hf
        obtain ⟨M5, eM5⟩ : ∃ q : KM, q = (uI M a1 (p6).toNatClampNeg x2) := ⟨_, rfl⟩
        replace hf := lt_e hf eM5
        obtain rfl := Option.some.inj hf
        exact (Or.inr rfl)
      by_cases h8 : (M.1 a1 (p6).toNatClampNeg) < 0
      · replace hf := (if_pos h8).symm.trans hf
        exact hj48 hf
      · replace hf := (if_neg h8).symm.trans hf
        obtain ⟨g6, hf⟩ := gd_e hf
        by_cases h7 : x2 < (M.1 a1 (p6).toNatClampNeg)
        · replace hf := (if_pos h7).symm.trans hf
          exact hj48 hf
        · replace hf := (if_neg h7).symm.trans hf
          obtain rfl := Option.some.inj hf
          exact (Or.inl rfl)
  by_cases h12 : 0 ≤ (M.1 a1 (p5).toNatClampNeg)
  · replace hf := (if_pos h12).symm.trans hf
    obtain ⟨g10, hf⟩ := gd_e hf
    obtain ⟨v11, hcv11, hf⟩ := bd_e hf
    exact hj23 v11 hf
  · replace hf := (if_neg h12).symm.trans hf
    exact hj23 (-1 : Int32) hf
set_option maxRecDepth 100000 in
set_option maxHeartbeats 4000000 in
theorem c_X12_improves {l : Launch} {ad : Nat → Nat} {cy : Nat → ClassId} {D : va_G} {z : Nat} (n : Nat) {a0 : Nat} {a1 : Nat} {p2 : Int32} {p3 : Int32} {p4 : Int32} {p5 : Int32} {p6 : Int32} {M : KM} {y : (Int32 × KM)} (h0 : kty a0 = 12) (h1 : kty a1 = 28) (hf : f_X12_improves n a0 a1 p2 p3 p4 p5 p6 M = some y) : KC l ad cy D z yX12_improves cX12_improves 8 (some .boolean) 4 [.ref (ad a0), .ref (ad a1), .int p2, .int p3, .int p4, .int p5, .int p6] M (some (.int y.1), y.2) := by
  refine kv_enter (by decide +kernel) (Nat.le_of_ble_eq_true rfl) ?_
  intro x hl hD hz G
  subst hl hD hz
  unfold f_X12_improves at hf
  have G : KG ad cy x cX12_improves "NoonGuidesModel" 8 (some (some .boolean)) 4 := G
  show KV ad cy x (some (.int y.1), y.2) 0 [(0, .ref (ad a0)), (1, .ref (ad a1)), (2, .int p2), (3, .int p3), (4, .int p4), (5, .int p5), (6, .int p6)] [] M
  refine v_aload_n G dX12_improves_0 1 rfl ?_
  refine v_iload G dX12_improves_1 5 rfl ?_
  obtain ⟨g1, hf⟩ := gd_e hf
  refine al_28 G h1 g1 dX12_improves_3 ?_
  obtain ⟨j23, ej23, hf⟩ := lt_j hf
  have hj23 : ∀ (x2 : Int32), j23 x2 = some y → KV ad cy x (some (.int y.1), y.2) 23 [(1, .ref (ad a1)), (6, .int p6)] [.int x2] M := by
    intro x2 hf
    rw [ej23] at hf
    refine v_istore [(7, .int x2), (1, .ref (ad a1)), (6, .int p6)] G dX12_improves_23 (by decide) rfl ?_
    refine v_iload G dX12_improves_25 0 rfl ?_
    refine v_if_lt 46 G dX12_improves_27 (by decide) (fun h9 => ?_) (fun h9 => ?_)
    · replace hf := (if_pos h9).symm.trans hf
      refine v_iconst (0 : Int32) G dX12_improves_46 (by decide) ?_
      obtain rfl := Option.some.inj hf
      exact v_zret G (Or.inl rfl) dX12_improves_47
    · replace hf := (if_neg h9).symm.trans hf
      refine v_aload_n G dX12_improves_30 1 rfl ?_
      refine v_iload G dX12_improves_31 2 rfl ?_
      obtain ⟨g3, hf⟩ := gd_e hf
      refine al_28 G h1 g3 dX12_improves_33 ?_
      obtain ⟨j48, ej48, hf⟩ := lt_j hf
      have hj48 : j48 = some y → KV ad cy x (some (.int y.1), y.2) 48 [(1, .ref (ad a1)), (6, .int p6), (7, .int x2)] [] M := by
        intro hf
        rw [ej48] at hf
        refine v_aload_n G dX12_improves_48 0 rfl ?_
        refine v_iload G dX12_improves_49 1 rfl ?_
        refine v_iload G dX12_improves_51 2 rfl ?_
        obtain ⟨g4, hf⟩ := gd_e hf
        refine as_28 G h1 g4 dX12_improves_53 ?_
        refine v_nmM (fun M5 eM5 => ?_)
        replace hf := lt_e hf eM5
        refine v_iconst (1 : Int32) G dX12_improves_54 (by decide) ?_
        obtain rfl := Option.some.inj hf
        exact v_zret G (Or.inr rfl) dX12_improves_55
      refine v_if_lt 48 G dX12_improves_34 (by decide) (fun h8 => ?_) (fun h8 => ?_)
      · replace hf := (if_pos h8).symm.trans hf
        refine v_sub _ [1, 2, 0] rfl ?_
        exact hj48 hf
      · replace hf := (if_neg h8).symm.trans hf
        refine v_aload_n G dX12_improves_37 1 rfl ?_
        refine v_iload G dX12_improves_38 2 rfl ?_
        obtain ⟨g6, hf⟩ := gd_e hf
        refine al_28 G h1 g6 dX12_improves_40 ?_
        refine v_iload G dX12_improves_41 0 rfl ?_
        refine v_icmp_gt 48 G dX12_improves_43 (by decide) (fun h7 => ?_) (fun h7 => ?_)
        · replace hf := (if_pos h7).symm.trans hf
          refine v_sub _ [1, 2, 0] rfl ?_
          exact hj48 hf
        · replace hf := (if_neg h7).symm.trans hf
          refine v_iconst (0 : Int32) G dX12_improves_46 (by decide) ?_
          obtain rfl := Option.some.inj hf
          exact v_zret G (Or.inl rfl) dX12_improves_47
  refine v_if_ge 11 G dX12_improves_4 (by decide) (fun h12 => ?_) (fun h12 => ?_)
  · replace hf := (if_pos h12).symm.trans hf
    refine v_aload_n G dX12_improves_11 0 rfl ?_
    refine v_iload_n G dX12_improves_12 2 rfl ?_
    refine v_iload_n G dX12_improves_13 3 rfl ?_
    refine v_iload G dX12_improves_14 4 rfl ?_
    refine v_aload_n G dX12_improves_16 1 rfl ?_
    refine v_iload G dX12_improves_17 5 rfl ?_
    obtain ⟨g10, hf⟩ := gd_e hf
    refine al_28 G h1 g10 dX12_improves_19 ?_
    obtain ⟨v11, hcv11, hf⟩ := bd_e hf
    refine v_callV [.int p2, .int p3, .int p4, .int (M.1 a1 (p5).toNatClampNeg)] G (c_X12_endOfTwo n h0 hcv11) h0 (by decide) rfl rfl rfl t_2144 t_2146 t_p137 t_17 t_2147 nm_X12_endOfTwo (by decide) (by decide) rfl rfl (Nat.le_of_ble_eq_true rfl) dX12_improves_20 (kv_ri ?_)
    refine v_sub _ [1, 6] rfl ?_
    exact hj23 v11 hf
  · replace hf := (if_neg h12).symm.trans hf
    refine v_iconst (-1 : Int32) G dX12_improves_7 (by decide) ?_
    refine v_goto 23 G dX12_improves_8 (by decide) ?_
    refine v_sub _ [1, 6] rfl ?_
    exact hj23 (-1 : Int32) hf
abbrev cX12_laysWhen : ByteArray := prog_14_method_129_code
def yX12_laysWhen : MethodName := ⟨RX12, "laysWhen", "([IIIII)V"⟩
theorem dX12_laysWhen_0 : dc cX12_laysWhen 0 (.iconst 0) 1 1 := ⟨by decide +kernel, rfl⟩
theorem dX12_laysWhen_1 : dc cX12_laysWhen 1 (.istore 6) 2 3 := ⟨by decide +kernel, rfl⟩
theorem dX12_laysWhen_3 : dc cX12_laysWhen 3 (.iload 6) 2 5 := ⟨by decide +kernel, rfl⟩
theorem dX12_laysWhen_5 : dc cX12_laysWhen 5 (.bipush 8) 2 7 := ⟨by decide +kernel, rfl⟩
theorem dX12_laysWhen_7 : dc cX12_laysWhen 7 (.if_icmp .ge 26) 3 10 := ⟨by decide +kernel, rfl⟩
theorem dX12_laysWhen_10 : dc cX12_laysWhen 10 (.aload_n 1) 1 11 := ⟨by decide +kernel, rfl⟩
theorem dX12_laysWhen_11 : dc cX12_laysWhen 11 (.iload 6) 2 13 := ⟨by decide +kernel, rfl⟩
theorem dX12_laysWhen_13 : dc cX12_laysWhen 13 (.iload 6) 2 15 := ⟨by decide +kernel, rfl⟩
theorem dX12_laysWhen_15 : dc cX12_laysWhen 15 (.iload 4) 2 17 := ⟨by decide +kernel, rfl⟩
theorem dX12_laysWhen_17 : dc cX12_laysWhen 17 (.if_icmp .ne 8) 3 20 := ⟨by decide +kernel, rfl⟩
theorem dX12_laysWhen_20 : dc cX12_laysWhen 20 (.iload 5) 2 22 := ⟨by decide +kernel, rfl⟩
theorem dX12_laysWhen_22 : dc cX12_laysWhen 22 (.goto 4) 3 25 := ⟨by decide +kernel, rfl⟩
theorem dX12_laysWhen_25 : dc cX12_laysWhen 25 (.iconst (-1)) 1 26 := ⟨by decide +kernel, rfl⟩
theorem dX12_laysWhen_26 : dc cX12_laysWhen 26 (.iastore) 1 27 := ⟨by decide +kernel, rfl⟩
theorem dX12_laysWhen_27 : dc cX12_laysWhen 27 (.iinc 6 1) 3 30 := ⟨by decide +kernel, rfl⟩
theorem dX12_laysWhen_30 : dc cX12_laysWhen 30 (.goto (-27)) 3 33 := ⟨by decide +kernel, rfl⟩
theorem dX12_laysWhen_33 : dc cX12_laysWhen 33 (.iconst 1) 1 34 := ⟨by decide +kernel, rfl⟩
theorem dX12_laysWhen_34 : dc cX12_laysWhen 34 (.istore 6) 2 36 := ⟨by decide +kernel, rfl⟩
theorem dX12_laysWhen_36 : dc cX12_laysWhen 36 (.iload 6) 2 38 := ⟨by decide +kernel, rfl⟩
theorem dX12_laysWhen_38 : dc cX12_laysWhen 38 (.ifCond .eq 117) 3 41 := ⟨by decide +kernel, rfl⟩
theorem dX12_laysWhen_41 : dc cX12_laysWhen 41 (.iconst 0) 1 42 := ⟨by decide +kernel, rfl⟩
theorem dX12_laysWhen_42 : dc cX12_laysWhen 42 (.istore 6) 2 44 := ⟨by decide +kernel, rfl⟩
theorem dX12_laysWhen_44 : dc cX12_laysWhen 44 (.iconst 0) 1 45 := ⟨by decide +kernel, rfl⟩
theorem dX12_laysWhen_45 : dc cX12_laysWhen 45 (.istore 7) 2 47 := ⟨by decide +kernel, rfl⟩
theorem dX12_laysWhen_47 : dc cX12_laysWhen 47 (.iload 7) 2 49 := ⟨by decide +kernel, rfl⟩
theorem dX12_laysWhen_49 : dc cX12_laysWhen 49 (.aload_n 0) 1 50 := ⟨by decide +kernel, rfl⟩
theorem dX12_laysWhen_50 : dc cX12_laysWhen 50 (.getfield 35) 3 53 := ⟨by decide +kernel, rfl⟩
theorem dX12_laysWhen_53 : dc cX12_laysWhen 53 (.iconst 1) 1 54 := ⟨by decide +kernel, rfl⟩
theorem dX12_laysWhen_54 : dc cX12_laysWhen 54 (.iaload) 1 55 := ⟨by decide +kernel, rfl⟩
theorem dX12_laysWhen_55 : dc cX12_laysWhen 55 (.if_icmp .ge 97) 3 58 := ⟨by decide +kernel, rfl⟩
theorem dX12_laysWhen_58 : dc cX12_laysWhen 58 (.aload_n 0) 1 59 := ⟨by decide +kernel, rfl⟩
theorem dX12_laysWhen_59 : dc cX12_laysWhen 59 (.aload_n 1) 1 60 := ⟨by decide +kernel, rfl⟩
theorem dX12_laysWhen_60 : dc cX12_laysWhen 60 (.iload_n 2) 1 61 := ⟨by decide +kernel, rfl⟩
theorem dX12_laysWhen_61 : dc cX12_laysWhen 61 (.iload_n 3) 1 62 := ⟨by decide +kernel, rfl⟩
theorem dX12_laysWhen_62 : dc cX12_laysWhen 62 (.iload 7) 2 64 := ⟨by decide +kernel, rfl⟩
theorem dX12_laysWhen_64 : dc cX12_laysWhen 64 (.aload_n 0) 1 65 := ⟨by decide +kernel, rfl⟩
theorem dX12_laysWhen_65 : dc cX12_laysWhen 65 (.getfield 35) 3 68 := ⟨by decide +kernel, rfl⟩
theorem dX12_laysWhen_68 : dc cX12_laysWhen 68 (.bipush 10) 2 70 := ⟨by decide +kernel, rfl⟩
theorem dX12_laysWhen_70 : dc cX12_laysWhen 70 (.iload 7) 2 72 := ⟨by decide +kernel, rfl⟩
theorem dX12_laysWhen_72 : dc cX12_laysWhen 72 (.iadd) 1 73 := ⟨by decide +kernel, rfl⟩
theorem dX12_laysWhen_73 : dc cX12_laysWhen 73 (.iaload) 1 74 := ⟨by decide +kernel, rfl⟩
theorem dX12_laysWhen_74 : dc cX12_laysWhen 74 (.aload_n 0) 1 75 := ⟨by decide +kernel, rfl⟩
theorem dX12_laysWhen_75 : dc cX12_laysWhen 75 (.getfield 35) 3 78 := ⟨by decide +kernel, rfl⟩
theorem dX12_laysWhen_78 : dc cX12_laysWhen 78 (.bipush 22) 2 80 := ⟨by decide +kernel, rfl⟩
theorem dX12_laysWhen_80 : dc cX12_laysWhen 80 (.iload 7) 2 82 := ⟨by decide +kernel, rfl⟩
theorem dX12_laysWhen_82 : dc cX12_laysWhen 82 (.iadd) 1 83 := ⟨by decide +kernel, rfl⟩
theorem dX12_laysWhen_83 : dc cX12_laysWhen 83 (.iaload) 1 84 := ⟨by decide +kernel, rfl⟩
theorem dX12_laysWhen_84 : dc cX12_laysWhen 84 (.invokevirtual 451) 3 87 := ⟨by decide +kernel, rfl⟩
theorem dX12_laysWhen_87 : dc cX12_laysWhen 87 (.ifCond .ne 8) 3 90 := ⟨by decide +kernel, rfl⟩
theorem dX12_laysWhen_90 : dc cX12_laysWhen 90 (.iload 6) 2 92 := ⟨by decide +kernel, rfl⟩
theorem dX12_laysWhen_92 : dc cX12_laysWhen 92 (.ifCond .eq 7) 3 95 := ⟨by decide +kernel, rfl⟩
theorem dX12_laysWhen_95 : dc cX12_laysWhen 95 (.iconst 1) 1 96 := ⟨by decide +kernel, rfl⟩
theorem dX12_laysWhen_96 : dc cX12_laysWhen 96 (.goto 4) 3 99 := ⟨by decide +kernel, rfl⟩
theorem dX12_laysWhen_99 : dc cX12_laysWhen 99 (.iconst 0) 1 100 := ⟨by decide +kernel, rfl⟩
theorem dX12_laysWhen_100 : dc cX12_laysWhen 100 (.istore 6) 2 102 := ⟨by decide +kernel, rfl⟩
theorem dX12_laysWhen_102 : dc cX12_laysWhen 102 (.aload_n 0) 1 103 := ⟨by decide +kernel, rfl⟩
theorem dX12_laysWhen_103 : dc cX12_laysWhen 103 (.aload_n 1) 1 104 := ⟨by decide +kernel, rfl⟩
theorem dX12_laysWhen_104 : dc cX12_laysWhen 104 (.iload_n 2) 1 105 := ⟨by decide +kernel, rfl⟩
theorem dX12_laysWhen_105 : dc cX12_laysWhen 105 (.iload_n 3) 1 106 := ⟨by decide +kernel, rfl⟩
theorem dX12_laysWhen_106 : dc cX12_laysWhen 106 (.iload 7) 2 108 := ⟨by decide +kernel, rfl⟩
theorem dX12_laysWhen_108 : dc cX12_laysWhen 108 (.aload_n 0) 1 109 := ⟨by decide +kernel, rfl⟩
theorem dX12_laysWhen_109 : dc cX12_laysWhen 109 (.getfield 35) 3 112 := ⟨by decide +kernel, rfl⟩
theorem dX12_laysWhen_112 : dc cX12_laysWhen 112 (.bipush 22) 2 114 := ⟨by decide +kernel, rfl⟩
theorem dX12_laysWhen_114 : dc cX12_laysWhen 114 (.iload 7) 2 116 := ⟨by decide +kernel, rfl⟩
theorem dX12_laysWhen_116 : dc cX12_laysWhen 116 (.iadd) 1 117 := ⟨by decide +kernel, rfl⟩
theorem dX12_laysWhen_117 : dc cX12_laysWhen 117 (.iaload) 1 118 := ⟨by decide +kernel, rfl⟩
theorem dX12_laysWhen_118 : dc cX12_laysWhen 118 (.aload_n 0) 1 119 := ⟨by decide +kernel, rfl⟩
theorem dX12_laysWhen_119 : dc cX12_laysWhen 119 (.getfield 35) 3 122 := ⟨by decide +kernel, rfl⟩
theorem dX12_laysWhen_122 : dc cX12_laysWhen 122 (.bipush 10) 2 124 := ⟨by decide +kernel, rfl⟩
theorem dX12_laysWhen_124 : dc cX12_laysWhen 124 (.iload 7) 2 126 := ⟨by decide +kernel, rfl⟩
theorem dX12_laysWhen_126 : dc cX12_laysWhen 126 (.iadd) 1 127 := ⟨by decide +kernel, rfl⟩
theorem dX12_laysWhen_127 : dc cX12_laysWhen 127 (.iaload) 1 128 := ⟨by decide +kernel, rfl⟩
theorem dX12_laysWhen_128 : dc cX12_laysWhen 128 (.invokevirtual 451) 3 131 := ⟨by decide +kernel, rfl⟩
theorem dX12_laysWhen_131 : dc cX12_laysWhen 131 (.ifCond .ne 8) 3 134 := ⟨by decide +kernel, rfl⟩
theorem dX12_laysWhen_134 : dc cX12_laysWhen 134 (.iload 6) 2 136 := ⟨by decide +kernel, rfl⟩
theorem dX12_laysWhen_136 : dc cX12_laysWhen 136 (.ifCond .eq 7) 3 139 := ⟨by decide +kernel, rfl⟩
theorem dX12_laysWhen_139 : dc cX12_laysWhen 139 (.iconst 1) 1 140 := ⟨by decide +kernel, rfl⟩
theorem dX12_laysWhen_140 : dc cX12_laysWhen 140 (.goto 4) 3 143 := ⟨by decide +kernel, rfl⟩
theorem dX12_laysWhen_143 : dc cX12_laysWhen 143 (.iconst 0) 1 144 := ⟨by decide +kernel, rfl⟩
theorem dX12_laysWhen_144 : dc cX12_laysWhen 144 (.istore 6) 2 146 := ⟨by decide +kernel, rfl⟩
theorem dX12_laysWhen_146 : dc cX12_laysWhen 146 (.iinc 7 1) 3 149 := ⟨by decide +kernel, rfl⟩
theorem dX12_laysWhen_149 : dc cX12_laysWhen 149 (.goto (-102)) 3 152 := ⟨by decide +kernel, rfl⟩
theorem dX12_laysWhen_152 : dc cX12_laysWhen 152 (.goto (-116)) 3 155 := ⟨by decide +kernel, rfl⟩
theorem dX12_laysWhen_155 : dc cX12_laysWhen 155 (.return_) 1 156 := ⟨by decide +kernel, rfl⟩
theorem nm_X12_laysWhen : (yX12_laysWhen).cls ≠ "java/lang/invoke/MethodHandle" ∧ (yX12_laysWhen).cls ≠ "java/lang/invoke/VarHandle" ∧ (parseMethodDescriptor (yX12_laysWhen).desc).map (fun d => d.parameters.length) = some 5 := ⟨by decide +kernel, by decide +kernel, by decide +kernel⟩
set_option maxRecDepth 100000 in
set_option maxHeartbeats 4000000 in
theorem s_X12_laysWhen_3 {ad : Nat → Nat} {cy : Nat → ClassId} {x : KX} (G : KG ad cy x cX12_laysWhen "NoonGuidesModel" 8 (some none) 5) {a0 : Nat} {a1 : Nat} {c2 : Int32} {c3 : Int32} {c4 : Int32} {c5 : Int32} (h0 : kty a0 = 12) (h1 : kty a1 = 28) {k33 : KM → Option KM} {y : KM} (hk33 : ∀ (M : KM), k33 M = some y → KV ad cy x (none, y) 33 [(0, .ref (ad a0)), (1, .ref (ad a1)), (2, .int c2), (3, .int c3)] [] M) : ∀ (n : Nat) (w6 : Int32) (M : KM), lp_X12_laysWhen_3 n a0 a1 c2 c3 c4 c5 w6 M k33 = some y → KV ad cy x (none, y) 3 [(0, .ref (ad a0)), (1, .ref (ad a1)), (2, .int c2), (3, .int c3), (4, .int c4), (5, .int c5), (6, .int w6)] [] M := by
  intro n
  induction n with
  | zero =>
    intro w6 M hf
    cases hf
  | succ n ih =>
    intro w6 M hf
    rw [lp_X12_laysWhen_3] at hf
    refine v_iload G dX12_laysWhen_3 6 rfl ?_
    refine v_bipush (8 : Int32) G dX12_laysWhen_5 (by decide) ?_
    refine v_icmp_ge 33 G dX12_laysWhen_7 (by decide) (fun h6 => ?_) (fun h6 => ?_)
    · replace hf := (if_pos h6).symm.trans hf
      refine v_sub _ [0, 1, 2, 3] rfl ?_
      exact hk33 M hf
    · replace hf := (if_neg h6).symm.trans hf
      refine v_aload_n G dX12_laysWhen_10 1 rfl ?_
      refine v_iload G dX12_laysWhen_11 6 rfl ?_
      refine v_iload G dX12_laysWhen_13 6 rfl ?_
      refine v_iload G dX12_laysWhen_15 4 rfl ?_
      obtain ⟨j26, ej26, hf⟩ := lt_j hf
      have hj26 : ∀ (x1 : Int32), j26 x1 = some y → KV ad cy x (none, y) 26 [(0, .ref (ad a0)), (1, .ref (ad a1)), (2, .int c2), (3, .int c3), (4, .int c4), (5, .int c5), (6, .int w6)] [.int x1, .int w6, .ref (ad a1)] M := by
        intro x1 hf
        rw [ej26] at hf
        obtain ⟨g2, hf⟩ := gd_e hf
        refine as_28 G h1 g2 dX12_laysWhen_26 ?_
        refine v_nmM (fun M3 eM3 => ?_)
        replace hf := lt_e hf eM3
        obtain ⟨v4, ev4⟩ : ∃ q : Int32, q = w6 + (1 : Int32) := ⟨_, rfl⟩
        replace hf := lt_e hf ev4
        refine v_iinc v4 [(6, .int v4), (0, .ref (ad a0)), (1, .ref (ad a1)), (2, .int c2), (3, .int c3), (4, .int c4), (5, .int c5)] G dX12_laysWhen_27 6 rfl (by rw [ev4]; rfl) (by decide) rfl ?_
        refine v_goto 3 G dX12_laysWhen_30 (by decide) ?_
        refine v_sub _ [1, 2, 3, 4, 5, 6, 0] rfl ?_
        exact ih v4 M3 hf
      refine v_icmp_ne 25 G dX12_laysWhen_17 (by decide) (fun h5 => ?_) (fun h5 => ?_)
      · replace hf := (if_neg h5).symm.trans hf
        refine v_iconst (-1 : Int32) G dX12_laysWhen_25 (by decide) ?_
        refine v_sub _ [0, 1, 2, 3, 4, 5, 6] rfl ?_
        exact hj26 (-1 : Int32) hf
      · replace hf := (if_pos h5).symm.trans hf
        refine v_iload G dX12_laysWhen_20 5 rfl ?_
        refine v_goto 26 G dX12_laysWhen_22 (by decide) ?_
        refine v_sub _ [0, 1, 2, 3, 4, 5, 6] rfl ?_
        exact hj26 c5 hf
set_option maxRecDepth 100000 in
set_option maxHeartbeats 4000000 in
theorem s_X12_laysWhen_47 {ad : Nat → Nat} {cy : Nat → ClassId} {x : KX} (G : KG ad cy x cX12_laysWhen "NoonGuidesModel" 8 (some none) 5) {a0 : Nat} {a1 : Nat} {c2 : Int32} {c3 : Int32} (h0 : kty a0 = 12) (h1 : kty a1 = 28) {k152 : Int32 → KM → Option KM} {y : KM} (hk152 : ∀ (u6 : Int32) (M : KM), k152 u6 M = some y → KV ad cy x (none, y) 152 [(0, .ref (ad a0)), (1, .ref (ad a1)), (2, .int c2), (3, .int c3), (6, .int u6)] [] M) : ∀ (n : Nat) (w6 : Int32) (w7 : Int32) (M : KM), lp_X12_laysWhen_47 n a0 a1 c2 c3 w6 w7 M k152 = some y → KV ad cy x (none, y) 47 [(0, .ref (ad a0)), (1, .ref (ad a1)), (2, .int c2), (3, .int c3), (6, .int w6), (7, .int w7)] [] M := by
  intro n
  induction n with
  | zero =>
    intro w6 w7 M hf
    cases hf
  | succ n ih =>
    intro w6 w7 M hf
    rw [lp_X12_laysWhen_47] at hf
    refine v_iload G dX12_laysWhen_47 5 rfl ?_
    refine v_aload_n G dX12_laysWhen_49 0 rfl ?_
    refine gf_12_20 G h0 t_1511 (Or.inl rfl) dX12_laysWhen_50 ?_
    refine v_iconst (1 : Int32) G dX12_laysWhen_53 (by decide) ?_
    obtain ⟨g8, hf⟩ := gd_e hf
    refine al_36 G (kf_12_5 h0) g8 dX12_laysWhen_54 ?_
    refine v_icmp_ge 152 G dX12_laysWhen_55 (by decide) (fun h22 => ?_) (fun h22 => ?_)
    · replace hf := (if_pos h22).symm.trans hf
      refine v_sub _ [0, 1, 2, 3, 4] rfl ?_
      exact hk152 w6 M hf
    · replace hf := (if_neg h22).symm.trans hf
      refine v_aload_n G dX12_laysWhen_58 0 rfl ?_
      refine v_aload_n G dX12_laysWhen_59 1 rfl ?_
      refine v_iload_n G dX12_laysWhen_60 2 rfl ?_
      refine v_iload_n G dX12_laysWhen_61 3 rfl ?_
      refine v_iload G dX12_laysWhen_62 5 rfl ?_
      refine v_aload_n G dX12_laysWhen_64 0 rfl ?_
      refine gf_12_20 G h0 t_1511 (Or.inl rfl) dX12_laysWhen_65 ?_
      refine v_bipush (10 : Int32) G dX12_laysWhen_68 (by decide) ?_
      refine v_iload G dX12_laysWhen_70 5 rfl ?_
      refine v_iadd G dX12_laysWhen_72 ?_
      obtain ⟨g9, hf⟩ := gd_e hf
      refine al_36 G (kf_12_5 h0) g9 dX12_laysWhen_73 ?_
      refine v_aload_n G dX12_laysWhen_74 0 rfl ?_
      refine gf_12_20 G h0 t_1511 (Or.inl rfl) dX12_laysWhen_75 ?_
      refine v_bipush (22 : Int32) G dX12_laysWhen_78 (by decide) ?_
      refine v_iload G dX12_laysWhen_80 5 rfl ?_
      refine v_iadd G dX12_laysWhen_82 ?_
      obtain ⟨g10, hf⟩ := gd_e hf
      refine al_36 G (kf_12_5 h0) g10 dX12_laysWhen_83 ?_
      obtain ⟨v11, hcv11, hf⟩ := bd_e hf
      refine v_callV [.ref (ad a1), .int c2, .int c3, .int w7, .int (M.1 (a0 + 5) (((10 : Int32) + w7)).toNatClampNeg), .int (M.1 (a0 + 5) (((22 : Int32) + w7)).toNatClampNeg)] G (c_X12_improves n h0 h1 hcv11) h0 (by decide) rfl rfl rfl t_2140 t_2142 t_p136 t_17 t_2143 nm_X12_improves (by decide) (by decide) rfl rfl (Nat.le_of_ble_eq_true rfl) dX12_laysWhen_84 (kv_ri ?_)
      obtain ⟨j100, ej100, hf⟩ := lt_j hf
      have hj100 : ∀ (x12 : Int32), j100 x12 = some y → KV ad cy x (none, y) 100 [(0, .ref (ad a0)), (1, .ref (ad a1)), (2, .int c2), (3, .int c3), (7, .int w7)] [.int x12] v11.2 := by
        intro x12 hf
        rw [ej100] at hf
        refine v_istore [(6, .int x12), (0, .ref (ad a0)), (1, .ref (ad a1)), (2, .int c2), (3, .int c3), (7, .int w7)] G dX12_laysWhen_100 (by decide) rfl ?_
        refine v_aload_n G dX12_laysWhen_102 1 rfl ?_
        refine v_aload_n G dX12_laysWhen_103 2 rfl ?_
        refine v_iload_n G dX12_laysWhen_104 3 rfl ?_
        refine v_iload_n G dX12_laysWhen_105 4 rfl ?_
        refine v_iload G dX12_laysWhen_106 5 rfl ?_
        refine v_aload_n G dX12_laysWhen_108 1 rfl ?_
        refine gf_12_20 G h0 t_1511 (Or.inl rfl) dX12_laysWhen_109 ?_
        refine v_bipush (22 : Int32) G dX12_laysWhen_112 (by decide) ?_
        refine v_iload G dX12_laysWhen_114 5 rfl ?_
        refine v_iadd G dX12_laysWhen_116 ?_
        obtain ⟨g13, hf⟩ := gd_e hf
        refine al_36 G (kf_12_5 h0) g13 dX12_laysWhen_117 ?_
        refine v_aload_n G dX12_laysWhen_118 1 rfl ?_
        refine gf_12_20 G h0 t_1511 (Or.inl rfl) dX12_laysWhen_119 ?_
        refine v_bipush (10 : Int32) G dX12_laysWhen_122 (by decide) ?_
        refine v_iload G dX12_laysWhen_124 5 rfl ?_
        refine v_iadd G dX12_laysWhen_126 ?_
        obtain ⟨g14, hf⟩ := gd_e hf
        refine al_36 G (kf_12_5 h0) g14 dX12_laysWhen_127 ?_
        obtain ⟨v15, hcv15, hf⟩ := bd_e hf
        refine v_callV [.ref (ad a1), .int c2, .int c3, .int w7, .int (v11.2.1 (a0 + 5) (((22 : Int32) + w7)).toNatClampNeg), .int (v11.2.1 (a0 + 5) (((10 : Int32) + w7)).toNatClampNeg)] G (c_X12_improves n h0 h1 hcv15) h0 (by decide) rfl rfl rfl t_2140 t_2142 t_p136 t_17 t_2143 nm_X12_improves (by decide) (by decide) rfl rfl (Nat.le_of_ble_eq_true rfl) dX12_laysWhen_128 (kv_ri ?_)
        obtain ⟨j144, ej144, hf⟩ := lt_j hf
        have hj144 : ∀ (x16 : Int32), j144 x16 = some y → KV ad cy x (none, y) 144 [(0, .ref (ad a0)), (1, .ref (ad a1)), (2, .int c2), (3, .int c3), (7, .int w7)] [.int x16] v15.2 := by
          intro x16 hf
          rw [ej144] at hf
          refine v_istore [(6, .int x16), (0, .ref (ad a0)), (1, .ref (ad a1)), (2, .int c2), (3, .int c3), (7, .int w7)] G dX12_laysWhen_144 (by decide) rfl ?_
          obtain ⟨v17, ev17⟩ : ∃ q : Int32, q = w7 + (1 : Int32) := ⟨_, rfl⟩
          replace hf := lt_e hf ev17
          refine v_iinc v17 [(7, .int v17), (6, .int x16), (0, .ref (ad a0)), (1, .ref (ad a1)), (2, .int c2), (3, .int c3)] G dX12_laysWhen_146 5 rfl (by rw [ev17]; rfl) (by decide) rfl ?_
          refine v_goto 47 G dX12_laysWhen_149 (by decide) ?_
          refine v_sub _ [2, 3, 4, 5, 1, 0] rfl ?_
          exact ih x16 v17 v15.2 hf
        obtain ⟨j139, ej139, hf⟩ := lt_j hf
        have hj139 : j139 = some y → KV ad cy x (none, y) 139 [(0, .ref (ad a0)), (1, .ref (ad a1)), (2, .int c2), (3, .int c3), (7, .int w7)] [] v15.2 := by
          intro hf
          rw [ej139] at hf
          refine v_iconst (1 : Int32) G dX12_laysWhen_139 (by decide) ?_
          refine v_goto 144 G dX12_laysWhen_140 (by decide) ?_
          refine v_sub _ [0, 1, 2, 3, 4] rfl ?_
          exact hj144 (1 : Int32) hf
        refine v_if_ne 139 G dX12_laysWhen_131 (by decide) (fun h19 => ?_) (fun h19 => ?_)
        · replace hf := (if_neg h19).symm.trans hf
          refine v_sub _ [1, 2, 3, 4, 5] rfl ?_
          exact hj139 hf
        · replace hf := (if_pos h19).symm.trans hf
          refine v_iload G dX12_laysWhen_134 0 rfl ?_
          refine v_if_eq 143 G dX12_laysWhen_136 (by decide) (fun h18 => ?_) (fun h18 => ?_)
          · replace hf := (if_pos h18).symm.trans hf
            refine v_iconst (0 : Int32) G dX12_laysWhen_143 (by decide) ?_
            refine v_sub _ [1, 2, 3, 4, 5] rfl ?_
            exact hj144 (0 : Int32) hf
          · replace hf := (if_neg h18).symm.trans hf
            refine v_sub _ [1, 2, 3, 4, 5] rfl ?_
            exact hj139 hf
      obtain ⟨j95, ej95, hf⟩ := lt_j hf
      have hj95 : j95 = some y → KV ad cy x (none, y) 95 [(0, .ref (ad a0)), (1, .ref (ad a1)), (2, .int c2), (3, .int c3), (7, .int w7)] [] v11.2 := by
        intro hf
        rw [ej95] at hf
        refine v_iconst (1 : Int32) G dX12_laysWhen_95 (by decide) ?_
        refine v_goto 100 G dX12_laysWhen_96 (by decide) ?_
        refine v_sub _ [0, 1, 2, 3, 4] rfl ?_
        exact hj100 (1 : Int32) hf
      refine v_if_ne 95 G dX12_laysWhen_87 (by decide) (fun h21 => ?_) (fun h21 => ?_)
      · replace hf := (if_neg h21).symm.trans hf
        refine v_sub _ [0, 1, 2, 3, 5] rfl ?_
        exact hj95 hf
      · replace hf := (if_pos h21).symm.trans hf
        refine v_iload G dX12_laysWhen_90 4 rfl ?_
        refine v_if_eq 99 G dX12_laysWhen_92 (by decide) (fun h20 => ?_) (fun h20 => ?_)
        · replace hf := (if_pos h20).symm.trans hf
          refine v_iconst (0 : Int32) G dX12_laysWhen_99 (by decide) ?_
          refine v_sub _ [0, 1, 2, 3, 5] rfl ?_
          exact hj100 (0 : Int32) hf
        · replace hf := (if_neg h20).symm.trans hf
          refine v_sub _ [0, 1, 2, 3, 5] rfl ?_
          exact hj95 hf
set_option maxRecDepth 100000 in
set_option maxHeartbeats 4000000 in
theorem s_X12_laysWhen_36 {ad : Nat → Nat} {cy : Nat → ClassId} {x : KX} (G : KG ad cy x cX12_laysWhen "NoonGuidesModel" 8 (some none) 5) {a0 : Nat} {a1 : Nat} {c2 : Int32} {c3 : Int32} (h0 : kty a0 = 12) (h1 : kty a1 = 28) {y : KM} : ∀ (n : Nat) (w6 : Int32) (M : KM), lp_X12_laysWhen_36 n a0 a1 c2 c3 w6 M = some y → KV ad cy x (none, y) 36 [(0, .ref (ad a0)), (1, .ref (ad a1)), (2, .int c2), (3, .int c3), (6, .int w6)] [] M := by
  intro n
  induction n with
  | zero =>
    intro w6 M hf
    cases hf
  | succ n ih =>
    intro w6 M hf
    rw [lp_X12_laysWhen_36] at hf
    refine v_iload G dX12_laysWhen_36 4 rfl ?_
    refine v_if_eq 155 G dX12_laysWhen_38 (by decide) (fun h25 => ?_) (fun h25 => ?_)
    · replace hf := (if_pos h25).symm.trans hf
      obtain rfl := Option.some.inj hf
      exact v_vret G dX12_laysWhen_155
    · replace hf := (if_neg h25).symm.trans hf
      refine v_iconst (0 : Int32) G dX12_laysWhen_41 (by decide) ?_
      refine v_istore [(6, .int (0 : Int32)), (0, .ref (ad a0)), (1, .ref (ad a1)), (2, .int c2), (3, .int c3)] G dX12_laysWhen_42 (by decide) rfl ?_
      refine v_iconst (0 : Int32) G dX12_laysWhen_44 (by decide) ?_
      refine v_istore [(7, .int (0 : Int32)), (6, .int (0 : Int32)), (0, .ref (ad a0)), (1, .ref (ad a1)), (2, .int c2), (3, .int c3)] G dX12_laysWhen_45 (by decide) rfl ?_
      refine v_sub _ [2, 3, 4, 5, 1, 0] rfl ?_
      refine s_X12_laysWhen_47 G h0 h1 (fun u23 M24 hf => ?_) n (0 : Int32) (0 : Int32) M hf
      · refine v_goto 36 G dX12_laysWhen_152 (by decide) ?_
        refine v_sub _ [0, 1, 2, 3, 4] rfl ?_
        exact ih u23 M24 hf
set_option maxRecDepth 100000 in
set_option maxHeartbeats 4000000 in
theorem c_X12_laysWhen {l : Launch} {ad : Nat → Nat} {cy : Nat → ClassId} {D : va_G} {z : Nat} (n : Nat) {a0 : Nat} {a1 : Nat} {p2 : Int32} {p3 : Int32} {p4 : Int32} {p5 : Int32} {M : KM} {y : KM} (h0 : kty a0 = 12) (h1 : kty a1 = 28) (hf : f_X12_laysWhen n a0 a1 p2 p3 p4 p5 M = some y) : KC l ad cy D z yX12_laysWhen cX12_laysWhen 8 none 5 [.ref (ad a0), .ref (ad a1), .int p2, .int p3, .int p4, .int p5] M (none, y) := by
  refine kv_enter (by decide +kernel) (Nat.le_of_ble_eq_true rfl) ?_
  intro x hl hD hz G
  subst hl hD hz
  unfold f_X12_laysWhen at hf
  have G : KG ad cy x cX12_laysWhen "NoonGuidesModel" 8 (some none) 5 := G
  show KV ad cy x (none, y) 0 [(0, .ref (ad a0)), (1, .ref (ad a1)), (2, .int p2), (3, .int p3), (4, .int p4), (5, .int p5)] [] M
  refine v_iconst (0 : Int32) G dX12_laysWhen_0 (by decide) ?_
  refine v_istore [(6, .int (0 : Int32)), (0, .ref (ad a0)), (1, .ref (ad a1)), (2, .int p2), (3, .int p3), (4, .int p4), (5, .int p5)] G dX12_laysWhen_1 (by decide) rfl ?_
  refine v_sub _ [1, 2, 3, 4, 5, 6, 0] rfl ?_
  refine s_X12_laysWhen_3 G h0 h1 (fun M7 hf => ?_) n (0 : Int32) M hf
  · refine v_iconst (1 : Int32) G dX12_laysWhen_33 (by decide) ?_
    refine v_istore [(6, .int (1 : Int32)), (0, .ref (ad a0)), (1, .ref (ad a1)), (2, .int p2), (3, .int p3)] G dX12_laysWhen_34 (by decide) rfl ?_
    refine v_sub _ [1, 2, 3, 4, 0] rfl ?_
    refine s_X12_laysWhen_36 G h0 h1 n (1 : Int32) M7 hf
abbrev cX12_whyNotSoon : ByteArray := prog_14_method_131_code
def yX12_whyNotSoon : MethodName := ⟨RX12, "whyNotSoon", "(II)I"⟩
theorem dX12_whyNotSoon_0 : dc cX12_whyNotSoon 0 (.aload_n 0) 1 1 := ⟨by decide +kernel, rfl⟩
theorem dX12_whyNotSoon_1 : dc cX12_whyNotSoon 1 (.iload_n 1) 1 2 := ⟨by decide +kernel, rfl⟩
theorem dX12_whyNotSoon_2 : dc cX12_whyNotSoon 2 (.invokevirtual 373) 3 5 := ⟨by decide +kernel, rfl⟩
theorem dX12_whyNotSoon_5 : dc cX12_whyNotSoon 5 (.ifCond .eq 11) 3 8 := ⟨by decide +kernel, rfl⟩
theorem dX12_whyNotSoon_8 : dc cX12_whyNotSoon 8 (.aload_n 0) 1 9 := ⟨by decide +kernel, rfl⟩
theorem dX12_whyNotSoon_9 : dc cX12_whyNotSoon 9 (.iload_n 2) 1 10 := ⟨by decide +kernel, rfl⟩
theorem dX12_whyNotSoon_10 : dc cX12_whyNotSoon 10 (.invokevirtual 367) 3 13 := ⟨by decide +kernel, rfl⟩
theorem dX12_whyNotSoon_13 : dc cX12_whyNotSoon 13 (.ifCond .ne 5) 3 16 := ⟨by decide +kernel, rfl⟩
theorem dX12_whyNotSoon_16 : dc cX12_whyNotSoon 16 (.iconst 2) 1 17 := ⟨by decide +kernel, rfl⟩
theorem dX12_whyNotSoon_17 : dc cX12_whyNotSoon 17 (.ireturn) 1 18 := ⟨by decide +kernel, rfl⟩
theorem dX12_whyNotSoon_18 : dc cX12_whyNotSoon 18 (.aload_n 0) 1 19 := ⟨by decide +kernel, rfl⟩
theorem dX12_whyNotSoon_19 : dc cX12_whyNotSoon 19 (.iload_n 1) 1 20 := ⟨by decide +kernel, rfl⟩
theorem dX12_whyNotSoon_20 : dc cX12_whyNotSoon 20 (.invokevirtual 350) 3 23 := ⟨by decide +kernel, rfl⟩
theorem dX12_whyNotSoon_23 : dc cX12_whyNotSoon 23 (.ifCond .eq 8) 3 26 := ⟨by decide +kernel, rfl⟩
theorem dX12_whyNotSoon_26 : dc cX12_whyNotSoon 26 (.bipush 9) 2 28 := ⟨by decide +kernel, rfl⟩
theorem dX12_whyNotSoon_28 : dc cX12_whyNotSoon 28 (.goto 4) 3 31 := ⟨by decide +kernel, rfl⟩
theorem dX12_whyNotSoon_31 : dc cX12_whyNotSoon 31 (.iconst 0) 1 32 := ⟨by decide +kernel, rfl⟩
theorem dX12_whyNotSoon_32 : dc cX12_whyNotSoon 32 (.ireturn) 1 33 := ⟨by decide +kernel, rfl⟩
theorem nm_X12_whyNotSoon : (yX12_whyNotSoon).cls ≠ "java/lang/invoke/MethodHandle" ∧ (yX12_whyNotSoon).cls ≠ "java/lang/invoke/VarHandle" ∧ (parseMethodDescriptor (yX12_whyNotSoon).desc).map (fun d => d.parameters.length) = some 2 := ⟨by decide +kernel, by decide +kernel, by decide +kernel⟩
set_option maxRecDepth 100000 in
set_option maxHeartbeats 4000000 in
theorem c_X12_whyNotSoon {l : Launch} {ad : Nat → Nat} {cy : Nat → ClassId} {D : va_G} {z : Nat} (n : Nat) {a0 : Nat} {p1 : Int32} {p2 : Int32} {M : KM} {y : Int32} (h0 : kty a0 = 12) (hf : f_X12_whyNotSoon n a0 p1 p2 M = some y) : KC l ad cy D z yX12_whyNotSoon cX12_whyNotSoon 3 (some .int) 3 [.ref (ad a0), .int p1, .int p2] M (some (.int y), M) := by
  refine kv_enter (by decide +kernel) (Nat.le_of_ble_eq_true rfl) ?_
  intro x hl hD hz G
  subst hl hD hz
  unfold f_X12_whyNotSoon at hf
  have G : KG ad cy x cX12_whyNotSoon "NoonGuidesModel" 3 (some (some .int)) 3 := G
  show KV ad cy x (some (.int y), M) 0 [(0, .ref (ad a0)), (1, .int p1), (2, .int p2)] [] M
  refine v_aload_n G dX12_whyNotSoon_0 0 rfl ?_
  refine v_iload_n G dX12_whyNotSoon_1 1 rfl ?_
  obtain ⟨v1, hcv1, hf⟩ := bd_e hf
  refine v_callV [.int p1] G (c_X12_isPerson n h0 hcv1) h0 (by decide) rfl rfl rfl t_1971 t_1973 t_p118 t_17 t_1974 nm_X12_isPerson (by decide) (by decide) rfl rfl (Nat.le_of_ble_eq_true rfl) dX12_whyNotSoon_2 (kv_ri ?_)
  refine v_if_eq 16 G dX12_whyNotSoon_5 (by decide) (fun h6 => ?_) (fun h6 => ?_)
  · replace hf := (if_pos h6).symm.trans hf
    refine v_iconst (2 : Int32) G dX12_whyNotSoon_16 (by decide) ?_
    obtain rfl := Option.some.inj hf
    exact v_iret G dX12_whyNotSoon_17
  · replace hf := (if_neg h6).symm.trans hf
    refine v_aload_n G dX12_whyNotSoon_8 0 rfl ?_
    refine v_iload_n G dX12_whyNotSoon_9 2 rfl ?_
    obtain ⟨v2, hcv2, hf⟩ := bd_e hf
    refine v_callV [.int p2] G (c_X12_isPlaceAt n h0 hcv2) h0 (by decide) rfl rfl rfl t_1959 t_1961 t_p116 t_17 t_1962 nm_X12_isPlaceAt (by decide) (by decide) rfl rfl (Nat.le_of_ble_eq_true rfl) dX12_whyNotSoon_10 (kv_ri ?_)
    refine v_if_ne 18 G dX12_whyNotSoon_13 (by decide) (fun h5 => ?_) (fun h5 => ?_)
    · replace hf := (if_neg h5).symm.trans hf
      refine v_aload_n G dX12_whyNotSoon_18 0 rfl ?_
      refine v_iload_n G dX12_whyNotSoon_19 1 rfl ?_
      obtain ⟨v3, hcv3, hf⟩ := bd_e hf
      refine v_callV [.int p1] G (c_X12_isGoing n h0 hcv3) h0 (by decide) rfl rfl rfl t_1942 t_1944 t_p114 t_17 t_1945 nm_X12_isGoing (by decide) (by decide) rfl rfl (Nat.le_of_ble_eq_true rfl) dX12_whyNotSoon_20 (kv_ri ?_)
      refine v_if_eq 31 G dX12_whyNotSoon_23 (by decide) (fun h4 => ?_) (fun h4 => ?_)
      · replace hf := (if_pos h4).symm.trans hf
        refine v_iconst (0 : Int32) G dX12_whyNotSoon_31 (by decide) ?_
        obtain rfl := Option.some.inj hf
        exact v_iret G dX12_whyNotSoon_32
      · replace hf := (if_neg h4).symm.trans hf
        refine v_bipush (9 : Int32) G dX12_whyNotSoon_26 (by decide) ?_
        refine v_goto 32 G dX12_whyNotSoon_28 (by decide) ?_
        obtain rfl := Option.some.inj hf
        exact v_iret G dX12_whyNotSoon_32
    · replace hf := (if_pos h5).symm.trans hf
      refine v_iconst (2 : Int32) G dX12_whyNotSoon_16 (by decide) ?_
      obtain rfl := Option.some.inj hf
      exact v_iret G dX12_whyNotSoon_17
abbrev cX12_soonest : ByteArray := prog_14_method_132_code
def yX12_soonest : MethodName := ⟨RX12, "soonest", "(II)I"⟩
theorem dX12_soonest_0 : dc cX12_soonest 0 (.aload_n 0) 1 1 := ⟨by decide +kernel, rfl⟩
theorem dX12_soonest_1 : dc cX12_soonest 1 (.iconst 0) 1 2 := ⟨by decide +kernel, rfl⟩
theorem dX12_soonest_2 : dc cX12_soonest 2 (.putfield 75) 3 5 := ⟨by decide +kernel, rfl⟩
theorem dX12_soonest_5 : dc cX12_soonest 5 (.aload_n 0) 1 6 := ⟨by decide +kernel, rfl⟩
theorem dX12_soonest_6 : dc cX12_soonest 6 (.aload_n 0) 1 7 := ⟨by decide +kernel, rfl⟩
theorem dX12_soonest_7 : dc cX12_soonest 7 (.iload_n 1) 1 8 := ⟨by decide +kernel, rfl⟩
theorem dX12_soonest_8 : dc cX12_soonest 8 (.iload_n 2) 1 9 := ⟨by decide +kernel, rfl⟩
theorem dX12_soonest_9 : dc cX12_soonest 9 (.invokevirtual 459) 3 12 := ⟨by decide +kernel, rfl⟩
theorem dX12_soonest_12 : dc cX12_soonest 12 (.putfield 78) 3 15 := ⟨by decide +kernel, rfl⟩
theorem dX12_soonest_15 : dc cX12_soonest 15 (.aload_n 0) 1 16 := ⟨by decide +kernel, rfl⟩
theorem dX12_soonest_16 : dc cX12_soonest 16 (.getfield 78) 3 19 := ⟨by decide +kernel, rfl⟩
theorem dX12_soonest_19 : dc cX12_soonest 19 (.ifCond .le 5) 3 22 := ⟨by decide +kernel, rfl⟩
theorem dX12_soonest_22 : dc cX12_soonest 22 (.iconst (-1)) 1 23 := ⟨by decide +kernel, rfl⟩
theorem dX12_soonest_23 : dc cX12_soonest 23 (.ireturn) 1 24 := ⟨by decide +kernel, rfl⟩
theorem dX12_soonest_24 : dc cX12_soonest 24 (.aload_n 0) 1 25 := ⟨by decide +kernel, rfl⟩
theorem dX12_soonest_25 : dc cX12_soonest 25 (.aload_n 0) 1 26 := ⟨by decide +kernel, rfl⟩
theorem dX12_soonest_26 : dc cX12_soonest 26 (.getfield 47) 3 29 := ⟨by decide +kernel, rfl⟩
theorem dX12_soonest_29 : dc cX12_soonest 29 (.iload_n 1) 1 30 := ⟨by decide +kernel, rfl⟩
theorem dX12_soonest_30 : dc cX12_soonest 30 (.iconst (-1)) 1 31 := ⟨by decide +kernel, rfl⟩
theorem dX12_soonest_31 : dc cX12_soonest 31 (.aload_n 0) 1 32 := ⟨by decide +kernel, rfl⟩
theorem dX12_soonest_32 : dc cX12_soonest 32 (.getfield 35) 3 35 := ⟨by decide +kernel, rfl⟩
theorem dX12_soonest_35 : dc cX12_soonest 35 (.bipush 58) 2 37 := ⟨by decide +kernel, rfl⟩
theorem dX12_soonest_37 : dc cX12_soonest 37 (.iload_n 1) 1 38 := ⟨by decide +kernel, rfl⟩
theorem dX12_soonest_38 : dc cX12_soonest 38 (.iadd) 1 39 := ⟨by decide +kernel, rfl⟩
theorem dX12_soonest_39 : dc cX12_soonest 39 (.iaload) 1 40 := ⟨by decide +kernel, rfl⟩
theorem dX12_soonest_40 : dc cX12_soonest 40 (.aload_n 0) 1 41 := ⟨by decide +kernel, rfl⟩
theorem dX12_soonest_41 : dc cX12_soonest 41 (.getfield 35) 3 44 := ⟨by decide +kernel, rfl⟩
theorem dX12_soonest_44 : dc cX12_soonest 44 (.iconst 5) 1 45 := ⟨by decide +kernel, rfl⟩
theorem dX12_soonest_45 : dc cX12_soonest 45 (.iaload) 1 46 := ⟨by decide +kernel, rfl⟩
theorem dX12_soonest_46 : dc cX12_soonest 46 (.invokevirtual 462) 3 49 := ⟨by decide +kernel, rfl⟩
theorem dX12_soonest_49 : dc cX12_soonest 49 (.aload_n 0) 1 50 := ⟨by decide +kernel, rfl⟩
theorem dX12_soonest_50 : dc cX12_soonest 50 (.getfield 47) 3 53 := ⟨by decide +kernel, rfl⟩
theorem dX12_soonest_53 : dc cX12_soonest 53 (.iload_n 2) 1 54 := ⟨by decide +kernel, rfl⟩
theorem dX12_soonest_54 : dc cX12_soonest 54 (.iaload) 1 55 := ⟨by decide +kernel, rfl⟩
theorem dX12_soonest_55 : dc cX12_soonest 55 (.ifCond .ge 12) 3 58 := ⟨by decide +kernel, rfl⟩
theorem dX12_soonest_58 : dc cX12_soonest 58 (.aload_n 0) 1 59 := ⟨by decide +kernel, rfl⟩
theorem dX12_soonest_59 : dc cX12_soonest 59 (.bipush 8) 2 61 := ⟨by decide +kernel, rfl⟩
theorem dX12_soonest_61 : dc cX12_soonest 61 (.invokevirtual 355) 3 64 := ⟨by decide +kernel, rfl⟩
theorem dX12_soonest_64 : dc cX12_soonest 64 (.goto 16) 3 67 := ⟨by decide +kernel, rfl⟩
theorem dX12_soonest_67 : dc cX12_soonest 67 (.aload_n 0) 1 68 := ⟨by decide +kernel, rfl⟩
theorem dX12_soonest_68 : dc cX12_soonest 68 (.getfield 47) 3 71 := ⟨by decide +kernel, rfl⟩
theorem dX12_soonest_71 : dc cX12_soonest 71 (.iload_n 2) 1 72 := ⟨by decide +kernel, rfl⟩
theorem dX12_soonest_72 : dc cX12_soonest 72 (.iaload) 1 73 := ⟨by decide +kernel, rfl⟩
theorem dX12_soonest_73 : dc cX12_soonest 73 (.aload_n 0) 1 74 := ⟨by decide +kernel, rfl⟩
theorem dX12_soonest_74 : dc cX12_soonest 74 (.getfield 35) 3 77 := ⟨by decide +kernel, rfl⟩
theorem dX12_soonest_77 : dc cX12_soonest 77 (.iconst 5) 1 78 := ⟨by decide +kernel, rfl⟩
theorem dX12_soonest_78 : dc cX12_soonest 78 (.iaload) 1 79 := ⟨by decide +kernel, rfl⟩
theorem dX12_soonest_79 : dc cX12_soonest 79 (.isub) 1 80 := ⟨by decide +kernel, rfl⟩
theorem dX12_soonest_80 : dc cX12_soonest 80 (.ireturn) 1 81 := ⟨by decide +kernel, rfl⟩
theorem nm_X12_soonest : (yX12_soonest).cls ≠ "java/lang/invoke/MethodHandle" ∧ (yX12_soonest).cls ≠ "java/lang/invoke/VarHandle" ∧ (parseMethodDescriptor (yX12_soonest).desc).map (fun d => d.parameters.length) = some 2 := ⟨by decide +kernel, by decide +kernel, by decide +kernel⟩
set_option maxRecDepth 100000 in
set_option maxHeartbeats 4000000 in
theorem c_X12_soonest {l : Launch} {ad : Nat → Nat} {cy : Nat → ClassId} {D : va_G} {z : Nat} (n : Nat) {a0 : Nat} {p1 : Int32} {p2 : Int32} {M : KM} {y : (Int32 × KM)} (h0 : kty a0 = 12) (hf : f_X12_soonest n a0 p1 p2 M = some y) : KC l ad cy D z yX12_soonest cX12_soonest 3 (some .int) 6 [.ref (ad a0), .int p1, .int p2] M (some (.int y.1), y.2) := by
  refine kv_enter (by decide +kernel) (Nat.le_of_ble_eq_true rfl) ?_
  intro x hl hD hz G
  subst hl hD hz
  unfold f_X12_soonest at hf
  have G : KG ad cy x cX12_soonest "NoonGuidesModel" 3 (some (some .int)) 6 := G
  show KV ad cy x (some (.int y.1), y.2) 0 [(0, .ref (ad a0)), (1, .int p1), (2, .int p2)] [] M
  refine v_aload_n G dX12_soonest_0 0 rfl ?_
  refine v_iconst (0 : Int32) G dX12_soonest_1 (by decide) ?_
  refine pf_12_1 G h0 t_1492 (Or.inl rfl) dX12_soonest_2 ?_
  refine v_nmM (fun M1 eM1 => ?_)
  replace hf := lt_e hf eM1
  refine v_aload_n G dX12_soonest_5 0 rfl ?_
  refine v_aload_n G dX12_soonest_6 0 rfl ?_
  refine v_iload_n G dX12_soonest_7 1 rfl ?_
  refine v_iload_n G dX12_soonest_8 2 rfl ?_
  obtain ⟨v2, hcv2, hf⟩ := bd_e hf
  refine v_callV [.int p1, .int p2] G (c_X12_whyNotSoon n h0 hcv2) h0 (by decide) rfl rfl rfl t_2132 t_2134 t_p134 t_17 t_2135 nm_X12_whyNotSoon (by decide) (by decide) rfl rfl (Nat.le_of_ble_eq_true rfl) dX12_soonest_9 (kv_ri ?_)
  refine pf_12_0 G h0 t_1491 (Or.inl rfl) dX12_soonest_12 ?_
  refine v_nmM (fun M3 eM3 => ?_)
  replace hf := lt_e hf eM3
  refine v_aload_n G dX12_soonest_15 0 rfl ?_
  refine gf_12_0 G h0 t_1491 (Or.inl rfl) dX12_soonest_16 ?_
  refine v_if_le 24 G dX12_soonest_19 (by decide) (fun h12 => ?_) (fun h12 => ?_)
  · replace hf := (if_pos h12).symm.trans hf
    refine v_aload_n G dX12_soonest_24 0 rfl ?_
    refine v_aload_n G dX12_soonest_25 0 rfl ?_
    refine gf_12_30 G h0 t_1521 (Or.inl rfl) dX12_soonest_26 ?_
    refine v_iload_n G dX12_soonest_29 1 rfl ?_
    refine v_iconst (-1 : Int32) G dX12_soonest_30 (by decide) ?_
    refine v_aload_n G dX12_soonest_31 0 rfl ?_
    refine gf_12_20 G h0 t_1511 (Or.inl rfl) dX12_soonest_32 ?_
    refine v_bipush (58 : Int32) G dX12_soonest_35 (by decide) ?_
    refine v_iload_n G dX12_soonest_37 1 rfl ?_
    refine v_iadd G dX12_soonest_38 ?_
    obtain ⟨g4, hf⟩ := gd_e hf
    refine al_36 G (kf_12_5 h0) g4 dX12_soonest_39 ?_
    refine v_aload_n G dX12_soonest_40 0 rfl ?_
    refine gf_12_20 G h0 t_1511 (Or.inl rfl) dX12_soonest_41 ?_
    refine v_iconst (5 : Int32) G dX12_soonest_44 (by decide) ?_
    obtain ⟨g5, hf⟩ := gd_e hf
    refine al_36 G (kf_12_5 h0) g5 dX12_soonest_45 ?_
    obtain ⟨v6, hcv6, hf⟩ := bd_e hf
    refine v_callV [.ref (ad (a0 + 9)), .int p1, .int (-1 : Int32), .int (M3.1 (a0 + 5) (((58 : Int32) + p1)).toNatClampNeg), .int (M3.1 (a0 + 5) ((5 : Int32)).toNatClampNeg)] G (c_X12_laysWhen n h0 (kf_12_9 h0) hcv6) h0 (by decide) rfl rfl rfl t_2136 t_2138 t_p135 t_17 t_2139 nm_X12_laysWhen (by decide) (by decide) rfl rfl (Nat.le_of_ble_eq_true rfl) dX12_soonest_46 (kv_rv ?_)
    refine v_aload_n G dX12_soonest_49 0 rfl ?_
    refine gf_12_30 G h0 t_1521 (Or.inl rfl) dX12_soonest_50 ?_
    refine v_iload_n G dX12_soonest_53 2 rfl ?_
    obtain ⟨g7, hf⟩ := gd_e hf
    refine al_28 G (kf_12_9 h0) g7 dX12_soonest_54 ?_
    refine v_if_ge 67 G dX12_soonest_55 (by decide) (fun h11 => ?_) (fun h11 => ?_)
    · replace hf := (if_pos h11).symm.trans hf
      refine v_aload_n G dX12_soonest_67 0 rfl ?_
      refine gf_12_30 G h0 t_1521 (Or.inl rfl) dX12_soonest_68 ?_
      refine v_iload_n G dX12_soonest_71 2 rfl ?_
      obtain ⟨g8, hf⟩ := gd_e hf
      refine al_28 G (kf_12_9 h0) g8 dX12_soonest_72 ?_
      refine v_aload_n G dX12_soonest_73 0 rfl ?_
      refine gf_12_20 G h0 t_1511 (Or.inl rfl) dX12_soonest_74 ?_
      refine v_iconst (5 : Int32) G dX12_soonest_77 (by decide) ?_
      obtain ⟨g9, hf⟩ := gd_e hf
      refine al_36 G (kf_12_5 h0) g9 dX12_soonest_78 ?_
      refine v_isub G dX12_soonest_79 ?_
      obtain rfl := Option.some.inj hf
      exact v_iret G dX12_soonest_80
    · replace hf := (if_neg h11).symm.trans hf
      refine v_aload_n G dX12_soonest_58 0 rfl ?_
      refine v_bipush (8 : Int32) G dX12_soonest_59 (by decide) ?_
      obtain ⟨v10, hcv10⟩ : ∃ q, f_X12_refuse a0 (8 : Int32) v6 = q := ⟨_, rfl⟩
      replace hf := lt_e hf hcv10.symm
      refine v_callV [.int (8 : Int32)] G (c_X12_refuse h0 hcv10) h0 (by decide) rfl rfl rfl t_1926 t_1928 t_p110 t_17 t_1929 nm_X12_refuse (by decide) (by decide) rfl rfl (Nat.le_of_ble_eq_true rfl) dX12_soonest_61 (kv_ri ?_)
      refine v_goto 80 G dX12_soonest_64 (by decide) ?_
      obtain rfl := Option.some.inj hf
      exact v_iret G dX12_soonest_80
  · replace hf := (if_neg h12).symm.trans hf
    refine v_iconst (-1 : Int32) G dX12_soonest_22 (by decide) ?_
    obtain rfl := Option.some.inj hf
    exact v_iret G dX12_soonest_23
abbrev cX12_soonestFirst : ByteArray := prog_14_method_133_code
def yX12_soonestFirst : MethodName := ⟨RX12, "soonestFirst", "(II)I"⟩
theorem dX12_soonestFirst_0 : dc cX12_soonestFirst 0 (.aload_n 0) 1 1 := ⟨by decide +kernel, rfl⟩
theorem dX12_soonestFirst_1 : dc cX12_soonestFirst 1 (.iconst 0) 1 2 := ⟨by decide +kernel, rfl⟩
theorem dX12_soonestFirst_2 : dc cX12_soonestFirst 2 (.putfield 75) 3 5 := ⟨by decide +kernel, rfl⟩
theorem dX12_soonestFirst_5 : dc cX12_soonestFirst 5 (.aload_n 0) 1 6 := ⟨by decide +kernel, rfl⟩
theorem dX12_soonestFirst_6 : dc cX12_soonestFirst 6 (.aload_n 0) 1 7 := ⟨by decide +kernel, rfl⟩
theorem dX12_soonestFirst_7 : dc cX12_soonestFirst 7 (.iload_n 1) 1 8 := ⟨by decide +kernel, rfl⟩
theorem dX12_soonestFirst_8 : dc cX12_soonestFirst 8 (.iload_n 2) 1 9 := ⟨by decide +kernel, rfl⟩
theorem dX12_soonestFirst_9 : dc cX12_soonestFirst 9 (.invokevirtual 459) 3 12 := ⟨by decide +kernel, rfl⟩
theorem dX12_soonestFirst_12 : dc cX12_soonestFirst 12 (.putfield 78) 3 15 := ⟨by decide +kernel, rfl⟩
theorem dX12_soonestFirst_15 : dc cX12_soonestFirst 15 (.aload_n 0) 1 16 := ⟨by decide +kernel, rfl⟩
theorem dX12_soonestFirst_16 : dc cX12_soonestFirst 16 (.getfield 78) 3 19 := ⟨by decide +kernel, rfl⟩
theorem dX12_soonestFirst_19 : dc cX12_soonestFirst 19 (.ifCond .le 5) 3 22 := ⟨by decide +kernel, rfl⟩
theorem dX12_soonestFirst_22 : dc cX12_soonestFirst 22 (.iconst (-1)) 1 23 := ⟨by decide +kernel, rfl⟩
theorem dX12_soonestFirst_23 : dc cX12_soonestFirst 23 (.ireturn) 1 24 := ⟨by decide +kernel, rfl⟩
theorem dX12_soonestFirst_24 : dc cX12_soonestFirst 24 (.aload_n 0) 1 25 := ⟨by decide +kernel, rfl⟩
theorem dX12_soonestFirst_25 : dc cX12_soonestFirst 25 (.getfield 35) 3 28 := ⟨by decide +kernel, rfl⟩
theorem dX12_soonestFirst_28 : dc cX12_soonestFirst 28 (.bipush 58) 2 30 := ⟨by decide +kernel, rfl⟩
theorem dX12_soonestFirst_30 : dc cX12_soonestFirst 30 (.iload_n 1) 1 31 := ⟨by decide +kernel, rfl⟩
theorem dX12_soonestFirst_31 : dc cX12_soonestFirst 31 (.iadd) 1 32 := ⟨by decide +kernel, rfl⟩
theorem dX12_soonestFirst_32 : dc cX12_soonestFirst 32 (.iaload) 1 33 := ⟨by decide +kernel, rfl⟩
theorem dX12_soonestFirst_33 : dc cX12_soonestFirst 33 (.iload_n 2) 1 34 := ⟨by decide +kernel, rfl⟩
theorem dX12_soonestFirst_34 : dc cX12_soonestFirst 34 (.if_icmp .ne 10) 3 37 := ⟨by decide +kernel, rfl⟩
theorem dX12_soonestFirst_37 : dc cX12_soonestFirst 37 (.aload_n 0) 1 38 := ⟨by decide +kernel, rfl⟩
theorem dX12_soonestFirst_38 : dc cX12_soonestFirst 38 (.bipush 9) 2 40 := ⟨by decide +kernel, rfl⟩
theorem dX12_soonestFirst_40 : dc cX12_soonestFirst 40 (.invokevirtual 355) 3 43 := ⟨by decide +kernel, rfl⟩
theorem dX12_soonestFirst_43 : dc cX12_soonestFirst 43 (.ireturn) 1 44 := ⟨by decide +kernel, rfl⟩
theorem dX12_soonestFirst_44 : dc cX12_soonestFirst 44 (.aload_n 0) 1 45 := ⟨by decide +kernel, rfl⟩
theorem dX12_soonestFirst_45 : dc cX12_soonestFirst 45 (.aload_n 0) 1 46 := ⟨by decide +kernel, rfl⟩
theorem dX12_soonestFirst_46 : dc cX12_soonestFirst 46 (.getfield 47) 3 49 := ⟨by decide +kernel, rfl⟩
theorem dX12_soonestFirst_49 : dc cX12_soonestFirst 49 (.iload_n 1) 1 50 := ⟨by decide +kernel, rfl⟩
theorem dX12_soonestFirst_50 : dc cX12_soonestFirst 50 (.iconst (-1)) 1 51 := ⟨by decide +kernel, rfl⟩
theorem dX12_soonestFirst_51 : dc cX12_soonestFirst 51 (.aload_n 0) 1 52 := ⟨by decide +kernel, rfl⟩
theorem dX12_soonestFirst_52 : dc cX12_soonestFirst 52 (.getfield 35) 3 55 := ⟨by decide +kernel, rfl⟩
theorem dX12_soonestFirst_55 : dc cX12_soonestFirst 55 (.bipush 58) 2 57 := ⟨by decide +kernel, rfl⟩
theorem dX12_soonestFirst_57 : dc cX12_soonestFirst 57 (.iload_n 1) 1 58 := ⟨by decide +kernel, rfl⟩
theorem dX12_soonestFirst_58 : dc cX12_soonestFirst 58 (.iadd) 1 59 := ⟨by decide +kernel, rfl⟩
theorem dX12_soonestFirst_59 : dc cX12_soonestFirst 59 (.iaload) 1 60 := ⟨by decide +kernel, rfl⟩
theorem dX12_soonestFirst_60 : dc cX12_soonestFirst 60 (.aload_n 0) 1 61 := ⟨by decide +kernel, rfl⟩
theorem dX12_soonestFirst_61 : dc cX12_soonestFirst 61 (.getfield 35) 3 64 := ⟨by decide +kernel, rfl⟩
theorem dX12_soonestFirst_64 : dc cX12_soonestFirst 64 (.iconst 5) 1 65 := ⟨by decide +kernel, rfl⟩
theorem dX12_soonestFirst_65 : dc cX12_soonestFirst 65 (.iaload) 1 66 := ⟨by decide +kernel, rfl⟩
theorem dX12_soonestFirst_66 : dc cX12_soonestFirst 66 (.invokevirtual 462) 3 69 := ⟨by decide +kernel, rfl⟩
theorem dX12_soonestFirst_69 : dc cX12_soonestFirst 69 (.aload_n 0) 1 70 := ⟨by decide +kernel, rfl⟩
theorem dX12_soonestFirst_70 : dc cX12_soonestFirst 70 (.getfield 47) 3 73 := ⟨by decide +kernel, rfl⟩
theorem dX12_soonestFirst_73 : dc cX12_soonestFirst 73 (.iload_n 2) 1 74 := ⟨by decide +kernel, rfl⟩
theorem dX12_soonestFirst_74 : dc cX12_soonestFirst 74 (.iaload) 1 75 := ⟨by decide +kernel, rfl⟩
theorem dX12_soonestFirst_75 : dc cX12_soonestFirst 75 (.istore_n 3) 1 76 := ⟨by decide +kernel, rfl⟩
theorem dX12_soonestFirst_76 : dc cX12_soonestFirst 76 (.iconst 0) 1 77 := ⟨by decide +kernel, rfl⟩
theorem dX12_soonestFirst_77 : dc cX12_soonestFirst 77 (.istore 4) 2 79 := ⟨by decide +kernel, rfl⟩
theorem dX12_soonestFirst_79 : dc cX12_soonestFirst 79 (.iload 4) 2 81 := ⟨by decide +kernel, rfl⟩
theorem dX12_soonestFirst_81 : dc cX12_soonestFirst 81 (.aload_n 0) 1 82 := ⟨by decide +kernel, rfl⟩
theorem dX12_soonestFirst_82 : dc cX12_soonestFirst 82 (.getfield 35) 3 85 := ⟨by decide +kernel, rfl⟩
theorem dX12_soonestFirst_85 : dc cX12_soonestFirst 85 (.iconst 0) 1 86 := ⟨by decide +kernel, rfl⟩
theorem dX12_soonestFirst_86 : dc cX12_soonestFirst 86 (.iaload) 1 87 := ⟨by decide +kernel, rfl⟩
theorem dX12_soonestFirst_87 : dc cX12_soonestFirst 87 (.if_icmp .ge 89) 3 90 := ⟨by decide +kernel, rfl⟩
theorem dX12_soonestFirst_90 : dc cX12_soonestFirst 90 (.iload_n 3) 1 91 := ⟨by decide +kernel, rfl⟩
theorem dX12_soonestFirst_91 : dc cX12_soonestFirst 91 (.ifCond .lt 85) 3 94 := ⟨by decide +kernel, rfl⟩
theorem dX12_soonestFirst_94 : dc cX12_soonestFirst 94 (.aload_n 0) 1 95 := ⟨by decide +kernel, rfl⟩
theorem dX12_soonestFirst_95 : dc cX12_soonestFirst 95 (.aload_n 0) 1 96 := ⟨by decide +kernel, rfl⟩
theorem dX12_soonestFirst_96 : dc cX12_soonestFirst 96 (.getfield 35) 3 99 := ⟨by decide +kernel, rfl⟩
theorem dX12_soonestFirst_99 : dc cX12_soonestFirst 99 (.bipush 58) 2 101 := ⟨by decide +kernel, rfl⟩
theorem dX12_soonestFirst_101 : dc cX12_soonestFirst 101 (.iload_n 1) 1 102 := ⟨by decide +kernel, rfl⟩
theorem dX12_soonestFirst_102 : dc cX12_soonestFirst 102 (.iadd) 1 103 := ⟨by decide +kernel, rfl⟩
theorem dX12_soonestFirst_103 : dc cX12_soonestFirst 103 (.iaload) 1 104 := ⟨by decide +kernel, rfl⟩
theorem dX12_soonestFirst_104 : dc cX12_soonestFirst 104 (.iload 4) 2 106 := ⟨by decide +kernel, rfl⟩
theorem dX12_soonestFirst_106 : dc cX12_soonestFirst 106 (.invokevirtual 370) 3 109 := ⟨by decide +kernel, rfl⟩
theorem dX12_soonestFirst_109 : dc cX12_soonestFirst 109 (.istore 5) 2 111 := ⟨by decide +kernel, rfl⟩
theorem dX12_soonestFirst_111 : dc cX12_soonestFirst 111 (.iload 5) 2 113 := ⟨by decide +kernel, rfl⟩
theorem dX12_soonestFirst_113 : dc cX12_soonestFirst 113 (.ifCond .ge 7) 3 116 := ⟨by decide +kernel, rfl⟩
theorem dX12_soonestFirst_116 : dc cX12_soonestFirst 116 (.iconst (-1)) 1 117 := ⟨by decide +kernel, rfl⟩
theorem dX12_soonestFirst_117 : dc cX12_soonestFirst 117 (.goto 16) 3 120 := ⟨by decide +kernel, rfl⟩
theorem dX12_soonestFirst_120 : dc cX12_soonestFirst 120 (.aload_n 0) 1 121 := ⟨by decide +kernel, rfl⟩
theorem dX12_soonestFirst_121 : dc cX12_soonestFirst 121 (.iload_n 1) 1 122 := ⟨by decide +kernel, rfl⟩
theorem dX12_soonestFirst_122 : dc cX12_soonestFirst 122 (.iload 5) 2 124 := ⟨by decide +kernel, rfl⟩
theorem dX12_soonestFirst_124 : dc cX12_soonestFirst 124 (.aload_n 0) 1 125 := ⟨by decide +kernel, rfl⟩
theorem dX12_soonestFirst_125 : dc cX12_soonestFirst 125 (.getfield 35) 3 128 := ⟨by decide +kernel, rfl⟩
theorem dX12_soonestFirst_128 : dc cX12_soonestFirst 128 (.iconst 5) 1 129 := ⟨by decide +kernel, rfl⟩
theorem dX12_soonestFirst_129 : dc cX12_soonestFirst 129 (.iaload) 1 130 := ⟨by decide +kernel, rfl⟩
theorem dX12_soonestFirst_130 : dc cX12_soonestFirst 130 (.invokevirtual 448) 3 133 := ⟨by decide +kernel, rfl⟩
theorem dX12_soonestFirst_133 : dc cX12_soonestFirst 133 (.istore 6) 2 135 := ⟨by decide +kernel, rfl⟩
theorem dX12_soonestFirst_135 : dc cX12_soonestFirst 135 (.iload 6) 2 137 := ⟨by decide +kernel, rfl⟩
theorem dX12_soonestFirst_137 : dc cX12_soonestFirst 137 (.ifCond .ge 6) 3 140 := ⟨by decide +kernel, rfl⟩
theorem dX12_soonestFirst_140 : dc cX12_soonestFirst 140 (.goto 30) 3 143 := ⟨by decide +kernel, rfl⟩
theorem dX12_soonestFirst_143 : dc cX12_soonestFirst 143 (.aload_n 0) 1 144 := ⟨by decide +kernel, rfl⟩
theorem dX12_soonestFirst_144 : dc cX12_soonestFirst 144 (.aload_n 0) 1 145 := ⟨by decide +kernel, rfl⟩
theorem dX12_soonestFirst_145 : dc cX12_soonestFirst 145 (.getfield 50) 3 148 := ⟨by decide +kernel, rfl⟩
theorem dX12_soonestFirst_148 : dc cX12_soonestFirst 148 (.iload_n 1) 1 149 := ⟨by decide +kernel, rfl⟩
theorem dX12_soonestFirst_149 : dc cX12_soonestFirst 149 (.iconst (-1)) 1 150 := ⟨by decide +kernel, rfl⟩
theorem dX12_soonestFirst_150 : dc cX12_soonestFirst 150 (.iload 4) 2 152 := ⟨by decide +kernel, rfl⟩
theorem dX12_soonestFirst_152 : dc cX12_soonestFirst 152 (.iload 6) 2 154 := ⟨by decide +kernel, rfl⟩
theorem dX12_soonestFirst_154 : dc cX12_soonestFirst 154 (.invokevirtual 462) 3 157 := ⟨by decide +kernel, rfl⟩
theorem dX12_soonestFirst_157 : dc cX12_soonestFirst 157 (.aload_n 0) 1 158 := ⟨by decide +kernel, rfl⟩
theorem dX12_soonestFirst_158 : dc cX12_soonestFirst 158 (.getfield 50) 3 161 := ⟨by decide +kernel, rfl⟩
theorem dX12_soonestFirst_161 : dc cX12_soonestFirst 161 (.iload_n 2) 1 162 := ⟨by decide +kernel, rfl⟩
theorem dX12_soonestFirst_162 : dc cX12_soonestFirst 162 (.iaload) 1 163 := ⟨by decide +kernel, rfl⟩
theorem dX12_soonestFirst_163 : dc cX12_soonestFirst 163 (.iload_n 3) 1 164 := ⟨by decide +kernel, rfl⟩
theorem dX12_soonestFirst_164 : dc cX12_soonestFirst 164 (.if_icmp .ne 6) 3 167 := ⟨by decide +kernel, rfl⟩
theorem dX12_soonestFirst_167 : dc cX12_soonestFirst 167 (.iload 4) 2 169 := ⟨by decide +kernel, rfl⟩
theorem dX12_soonestFirst_169 : dc cX12_soonestFirst 169 (.ireturn) 1 170 := ⟨by decide +kernel, rfl⟩
theorem dX12_soonestFirst_170 : dc cX12_soonestFirst 170 (.iinc 4 1) 3 173 := ⟨by decide +kernel, rfl⟩
theorem dX12_soonestFirst_173 : dc cX12_soonestFirst 173 (.goto (-94)) 3 176 := ⟨by decide +kernel, rfl⟩
theorem dX12_soonestFirst_176 : dc cX12_soonestFirst 176 (.aload_n 0) 1 177 := ⟨by decide +kernel, rfl⟩
theorem dX12_soonestFirst_177 : dc cX12_soonestFirst 177 (.bipush 8) 2 179 := ⟨by decide +kernel, rfl⟩
theorem dX12_soonestFirst_179 : dc cX12_soonestFirst 179 (.invokevirtual 355) 3 182 := ⟨by decide +kernel, rfl⟩
theorem dX12_soonestFirst_182 : dc cX12_soonestFirst 182 (.ireturn) 1 183 := ⟨by decide +kernel, rfl⟩
theorem nm_X12_soonestFirst : (yX12_soonestFirst).cls ≠ "java/lang/invoke/MethodHandle" ∧ (yX12_soonestFirst).cls ≠ "java/lang/invoke/VarHandle" ∧ (parseMethodDescriptor (yX12_soonestFirst).desc).map (fun d => d.parameters.length) = some 2 := ⟨by decide +kernel, by decide +kernel, by decide +kernel⟩
set_option maxRecDepth 100000 in
set_option maxHeartbeats 4000000 in
theorem s_X12_soonestFirst_79 {ad : Nat → Nat} {cy : Nat → ClassId} {x : KX} (G : KG ad cy x cX12_soonestFirst "NoonGuidesModel" 7 (some (some .int)) 6) {a0 : Nat} {c1 : Int32} {c2 : Int32} {c3 : Int32} (h0 : kty a0 = 12) {k176 : KM → Option (Int32 × KM)} {y : (Int32 × KM)} (hk176 : ∀ (M : KM), k176 M = some y → KV ad cy x (some (.int y.1), y.2) 176 [(0, .ref (ad a0))] [] M) : ∀ (n : Nat) (w4 : Int32) (M : KM), lp_X12_soonestFirst_79 n a0 c1 c2 c3 w4 M k176 = some y → KV ad cy x (some (.int y.1), y.2) 79 [(0, .ref (ad a0)), (1, .int c1), (2, .int c2), (3, .int c3), (4, .int w4)] [] M := by
  intro n
  induction n with
  | zero =>
    intro w4 M hf
    cases hf
  | succ n ih =>
    intro w4 M hf
    rw [lp_X12_soonestFirst_79] at hf
    refine v_iload G dX12_soonestFirst_79 4 rfl ?_
    refine v_aload_n G dX12_soonestFirst_81 0 rfl ?_
    refine gf_12_20 G h0 t_1511 (Or.inl rfl) dX12_soonestFirst_82 ?_
    refine v_iconst (0 : Int32) G dX12_soonestFirst_85 (by decide) ?_
    obtain ⟨g10, hf⟩ := gd_e hf
    refine al_36 G (kf_12_5 h0) g10 dX12_soonestFirst_86 ?_
    refine v_icmp_ge 176 G dX12_soonestFirst_87 (by decide) (fun h24 => ?_) (fun h24 => ?_)
    · replace hf := (if_pos h24).symm.trans hf
      refine v_sub _ [0] rfl ?_
      exact hk176 M hf
    · replace hf := (if_neg h24).symm.trans hf
      refine v_iload_n G dX12_soonestFirst_90 3 rfl ?_
      refine v_if_lt 176 G dX12_soonestFirst_91 (by decide) (fun h23 => ?_) (fun h23 => ?_)
      · replace hf := (if_pos h23).symm.trans hf
        refine v_sub _ [0] rfl ?_
        exact hk176 M hf
      · replace hf := (if_neg h23).symm.trans hf
        refine v_aload_n G dX12_soonestFirst_94 0 rfl ?_
        refine v_aload_n G dX12_soonestFirst_95 0 rfl ?_
        refine gf_12_20 G h0 t_1511 (Or.inl rfl) dX12_soonestFirst_96 ?_
        refine v_bipush (58 : Int32) G dX12_soonestFirst_99 (by decide) ?_
        refine v_iload_n G dX12_soonestFirst_101 1 rfl ?_
        refine v_iadd G dX12_soonestFirst_102 ?_
        obtain ⟨g11, hf⟩ := gd_e hf
        refine al_36 G (kf_12_5 h0) g11 dX12_soonestFirst_103 ?_
        refine v_iload G dX12_soonestFirst_104 4 rfl ?_
        obtain ⟨v12, hcv12, hf⟩ := bd_e hf
        refine v_callV [.int (M.1 (a0 + 5) (((58 : Int32) + c1)).toNatClampNeg), .int w4] G (c_X12_between n h0 hcv12) h0 (by decide) rfl rfl rfl t_1963 t_1965 t_p117 t_17 t_1966 nm_X12_between (by decide) (by decide) rfl rfl (Nat.le_of_ble_eq_true rfl) dX12_soonestFirst_106 (kv_ri ?_)
        refine v_istore [(5, .int v12), (0, .ref (ad a0)), (1, .int c1), (2, .int c2), (3, .int c3), (4, .int w4)] G dX12_soonestFirst_109 (by decide) rfl ?_
        refine v_iload G dX12_soonestFirst_111 0 rfl ?_
        obtain ⟨j133, ej133, hf⟩ := lt_j hf
        have hj133 : ∀ (x13 : Int32), j133 x13 = some y → KV ad cy x (some (.int y.1), y.2) 133 [(0, .ref (ad a0)), (1, .int c1), (2, .int c2), (3, .int c3), (4, .int w4)] [.int x13] M := by
          intro x13 hf
          rw [ej133] at hf
          refine v_istore [(6, .int x13), (0, .ref (ad a0)), (1, .int c1), (2, .int c2), (3, .int c3), (4, .int w4)] G dX12_soonestFirst_133 (by decide) rfl ?_
          refine v_iload G dX12_soonestFirst_135 0 rfl ?_
          obtain ⟨j170, ej170, hf⟩ := lt_j hf
          have hj170 : ∀ (M14 : KM), j170 M14 = some y → KV ad cy x (some (.int y.1), y.2) 170 [(0, .ref (ad a0)), (1, .int c1), (2, .int c2), (3, .int c3), (4, .int w4)] [] M14 := by
            intro M14 hf
            rw [ej170] at hf
            obtain ⟨v15, ev15⟩ : ∃ q : Int32, q = w4 + (1 : Int32) := ⟨_, rfl⟩
            replace hf := lt_e hf ev15
            refine v_iinc v15 [(4, .int v15), (0, .ref (ad a0)), (1, .int c1), (2, .int c2), (3, .int c3)] G dX12_soonestFirst_170 4 rfl (by rw [ev15]; rfl) (by decide) rfl ?_
            refine v_goto 79 G dX12_soonestFirst_173 (by decide) ?_
            refine v_sub _ [1, 2, 3, 4, 0] rfl ?_
            exact ih v15 M14 hf
          refine v_if_ge 143 G dX12_soonestFirst_137 (by decide) (fun h19 => ?_) (fun h19 => ?_)
          · replace hf := (if_pos h19).symm.trans hf
            refine v_aload_n G dX12_soonestFirst_143 1 rfl ?_
            refine v_aload_n G dX12_soonestFirst_144 1 rfl ?_
            refine gf_12_31 G h0 t_1522 (Or.inl rfl) dX12_soonestFirst_145 ?_
            refine v_iload_n G dX12_soonestFirst_148 2 rfl ?_
            refine v_iconst (-1 : Int32) G dX12_soonestFirst_149 (by decide) ?_
            refine v_iload G dX12_soonestFirst_150 5 rfl ?_
            refine v_iload G dX12_soonestFirst_152 0 rfl ?_
            obtain ⟨v16, hcv16, hf⟩ := bd_e hf
            refine v_callV [.ref (ad (a0 + 10)), .int c1, .int (-1 : Int32), .int w4, .int x13] G (c_X12_laysWhen n h0 (kf_12_10 h0) hcv16) h0 (by decide) rfl rfl rfl t_2136 t_2138 t_p135 t_17 t_2139 nm_X12_laysWhen (by decide) (by decide) rfl rfl (Nat.le_of_ble_eq_true rfl) dX12_soonestFirst_154 (kv_rv ?_)
            refine v_aload_n G dX12_soonestFirst_157 1 rfl ?_
            refine gf_12_31 G h0 t_1522 (Or.inl rfl) dX12_soonestFirst_158 ?_
            refine v_iload_n G dX12_soonestFirst_161 3 rfl ?_
            obtain ⟨g17, hf⟩ := gd_e hf
            refine al_28 G (kf_12_10 h0) g17 dX12_soonestFirst_162 ?_
            refine v_iload_n G dX12_soonestFirst_163 4 rfl ?_
            refine v_icmp_ne 170 G dX12_soonestFirst_164 (by decide) (fun h18 => ?_) (fun h18 => ?_)
            · replace hf := (if_neg h18).symm.trans hf
              refine v_sub _ [1, 2, 3, 4, 5] rfl ?_
              exact hj170 v16 hf
            · replace hf := (if_pos h18).symm.trans hf
              refine v_iload G dX12_soonestFirst_167 5 rfl ?_
              obtain rfl := Option.some.inj hf
              exact v_iret G dX12_soonestFirst_169
          · replace hf := (if_neg h19).symm.trans hf
            refine v_goto 170 G dX12_soonestFirst_140 (by decide) ?_
            refine v_sub _ [1, 2, 3, 4, 5] rfl ?_
            exact hj170 M hf
        refine v_if_ge 120 G dX12_soonestFirst_113 (by decide) (fun h22 => ?_) (fun h22 => ?_)
        · replace hf := (if_pos h22).symm.trans hf
          refine v_aload_n G dX12_soonestFirst_120 1 rfl ?_
          refine v_iload_n G dX12_soonestFirst_121 2 rfl ?_
          refine v_iload G dX12_soonestFirst_122 0 rfl ?_
          refine v_aload_n G dX12_soonestFirst_124 1 rfl ?_
          refine gf_12_20 G h0 t_1511 (Or.inl rfl) dX12_soonestFirst_125 ?_
          refine v_iconst (5 : Int32) G dX12_soonestFirst_128 (by decide) ?_
          obtain ⟨g20, hf⟩ := gd_e hf
          refine al_36 G (kf_12_5 h0) g20 dX12_soonestFirst_129 ?_
          obtain ⟨v21, hcv21, hf⟩ := bd_e hf
          refine v_callV [.int c1, .int v12, .int (M.1 (a0 + 5) ((5 : Int32)).toNatClampNeg)] G (c_X12_endBy n h0 hcv21) h0 (by decide) rfl rfl rfl t_2148 t_2150 t_p138 t_17 t_2151 nm_X12_endBy (by decide) (by decide) rfl rfl (Nat.le_of_ble_eq_true rfl) dX12_soonestFirst_130 (kv_ri ?_)
          refine v_sub _ [1, 2, 3, 4, 5] rfl ?_
          exact hj133 v21 hf
        · replace hf := (if_neg h22).symm.trans hf
          refine v_iconst (-1 : Int32) G dX12_soonestFirst_116 (by decide) ?_
          refine v_goto 133 G dX12_soonestFirst_117 (by decide) ?_
          refine v_sub _ [1, 2, 3, 4, 5] rfl ?_
          exact hj133 (-1 : Int32) hf
set_option maxRecDepth 100000 in
set_option maxHeartbeats 4000000 in
theorem c_X12_soonestFirst {l : Launch} {ad : Nat → Nat} {cy : Nat → ClassId} {D : va_G} {z : Nat} (n : Nat) {a0 : Nat} {p1 : Int32} {p2 : Int32} {M : KM} {y : (Int32 × KM)} (h0 : kty a0 = 12) (hf : f_X12_soonestFirst n a0 p1 p2 M = some y) : KC l ad cy D z yX12_soonestFirst cX12_soonestFirst 7 (some .int) 6 [.ref (ad a0), .int p1, .int p2] M (some (.int y.1), y.2) := by
  refine kv_enter (by decide +kernel) (Nat.le_of_ble_eq_true rfl) ?_
  intro x hl hD hz G
  subst hl hD hz
  unfold f_X12_soonestFirst at hf
  have G : KG ad cy x cX12_soonestFirst "NoonGuidesModel" 7 (some (some .int)) 6 := G
  show KV ad cy x (some (.int y.1), y.2) 0 [(0, .ref (ad a0)), (1, .int p1), (2, .int p2)] [] M
  refine v_aload_n G dX12_soonestFirst_0 0 rfl ?_
  refine v_iconst (0 : Int32) G dX12_soonestFirst_1 (by decide) ?_
  refine pf_12_1 G h0 t_1492 (Or.inl rfl) dX12_soonestFirst_2 ?_
  refine v_nmM (fun M1 eM1 => ?_)
  replace hf := lt_e hf eM1
  refine v_aload_n G dX12_soonestFirst_5 0 rfl ?_
  refine v_aload_n G dX12_soonestFirst_6 0 rfl ?_
  refine v_iload_n G dX12_soonestFirst_7 1 rfl ?_
  refine v_iload_n G dX12_soonestFirst_8 2 rfl ?_
  obtain ⟨v2, hcv2, hf⟩ := bd_e hf
  refine v_callV [.int p1, .int p2] G (c_X12_whyNotSoon n h0 hcv2) h0 (by decide) rfl rfl rfl t_2132 t_2134 t_p134 t_17 t_2135 nm_X12_whyNotSoon (by decide) (by decide) rfl rfl (Nat.le_of_ble_eq_true rfl) dX12_soonestFirst_9 (kv_ri ?_)
  refine pf_12_0 G h0 t_1491 (Or.inl rfl) dX12_soonestFirst_12 ?_
  refine v_nmM (fun M3 eM3 => ?_)
  replace hf := lt_e hf eM3
  refine v_aload_n G dX12_soonestFirst_15 0 rfl ?_
  refine gf_12_0 G h0 t_1491 (Or.inl rfl) dX12_soonestFirst_16 ?_
  refine v_if_le 24 G dX12_soonestFirst_19 (by decide) (fun h29 => ?_) (fun h29 => ?_)
  · replace hf := (if_pos h29).symm.trans hf
    refine v_aload_n G dX12_soonestFirst_24 0 rfl ?_
    refine gf_12_20 G h0 t_1511 (Or.inl rfl) dX12_soonestFirst_25 ?_
    refine v_bipush (58 : Int32) G dX12_soonestFirst_28 (by decide) ?_
    refine v_iload_n G dX12_soonestFirst_30 1 rfl ?_
    refine v_iadd G dX12_soonestFirst_31 ?_
    obtain ⟨g4, hf⟩ := gd_e hf
    refine al_36 G (kf_12_5 h0) g4 dX12_soonestFirst_32 ?_
    refine v_iload_n G dX12_soonestFirst_33 2 rfl ?_
    refine v_icmp_ne 44 G dX12_soonestFirst_34 (by decide) (fun h28 => ?_) (fun h28 => ?_)
    · replace hf := (if_neg h28).symm.trans hf
      refine v_aload_n G dX12_soonestFirst_44 0 rfl ?_
      refine v_aload_n G dX12_soonestFirst_45 0 rfl ?_
      refine gf_12_30 G h0 t_1521 (Or.inl rfl) dX12_soonestFirst_46 ?_
      refine v_iload_n G dX12_soonestFirst_49 1 rfl ?_
      refine v_iconst (-1 : Int32) G dX12_soonestFirst_50 (by decide) ?_
      refine v_aload_n G dX12_soonestFirst_51 0 rfl ?_
      refine gf_12_20 G h0 t_1511 (Or.inl rfl) dX12_soonestFirst_52 ?_
      refine v_bipush (58 : Int32) G dX12_soonestFirst_55 (by decide) ?_
      refine v_iload_n G dX12_soonestFirst_57 1 rfl ?_
      refine v_iadd G dX12_soonestFirst_58 ?_
      obtain ⟨g5, hf⟩ := gd_e hf
      refine al_36 G (kf_12_5 h0) g5 dX12_soonestFirst_59 ?_
      refine v_aload_n G dX12_soonestFirst_60 0 rfl ?_
      refine gf_12_20 G h0 t_1511 (Or.inl rfl) dX12_soonestFirst_61 ?_
      refine v_iconst (5 : Int32) G dX12_soonestFirst_64 (by decide) ?_
      obtain ⟨g6, hf⟩ := gd_e hf
      refine al_36 G (kf_12_5 h0) g6 dX12_soonestFirst_65 ?_
      obtain ⟨v7, hcv7, hf⟩ := bd_e hf
      refine v_callV [.ref (ad (a0 + 9)), .int p1, .int (-1 : Int32), .int (M3.1 (a0 + 5) (((58 : Int32) + p1)).toNatClampNeg), .int (M3.1 (a0 + 5) ((5 : Int32)).toNatClampNeg)] G (c_X12_laysWhen n h0 (kf_12_9 h0) hcv7) h0 (by decide) rfl rfl rfl t_2136 t_2138 t_p135 t_17 t_2139 nm_X12_laysWhen (by decide) (by decide) rfl rfl (Nat.le_of_ble_eq_true rfl) dX12_soonestFirst_66 (kv_rv ?_)
      refine v_aload_n G dX12_soonestFirst_69 0 rfl ?_
      refine gf_12_30 G h0 t_1521 (Or.inl rfl) dX12_soonestFirst_70 ?_
      refine v_iload_n G dX12_soonestFirst_73 2 rfl ?_
      obtain ⟨g8, hf⟩ := gd_e hf
      refine al_28 G (kf_12_9 h0) g8 dX12_soonestFirst_74 ?_
      refine v_nmi (fun v9 ev9 => ?_)
      replace hf := lt_e hf ev9
      refine v_istore_n [(3, .int v9), (0, .ref (ad a0)), (1, .int p1), (2, .int p2)] G dX12_soonestFirst_75 (by decide) rfl ?_
      refine v_iconst (0 : Int32) G dX12_soonestFirst_76 (by decide) ?_
      refine v_istore [(4, .int (0 : Int32)), (3, .int v9), (0, .ref (ad a0)), (1, .int p1), (2, .int p2)] G dX12_soonestFirst_77 (by decide) rfl ?_
      refine v_sub _ [2, 3, 4, 1, 0] rfl ?_
      refine s_X12_soonestFirst_79 G h0 (fun M25 hf => ?_) n (0 : Int32) v7 hf
      · refine v_aload_n G dX12_soonestFirst_176 0 rfl ?_
        refine v_bipush (8 : Int32) G dX12_soonestFirst_177 (by decide) ?_
        obtain ⟨v26, hcv26⟩ : ∃ q, f_X12_refuse a0 (8 : Int32) M25 = q := ⟨_, rfl⟩
        replace hf := lt_e hf hcv26.symm
        refine v_callV [.int (8 : Int32)] G (c_X12_refuse h0 hcv26) h0 (by decide) rfl rfl rfl t_1926 t_1928 t_p110 t_17 t_1929 nm_X12_refuse (by decide) (by decide) rfl rfl (Nat.le_of_ble_eq_true rfl) dX12_soonestFirst_179 (kv_ri ?_)
        obtain rfl := Option.some.inj hf
        exact v_iret G dX12_soonestFirst_182
    · replace hf := (if_pos h28).symm.trans hf
      refine v_aload_n G dX12_soonestFirst_37 0 rfl ?_
      refine v_bipush (9 : Int32) G dX12_soonestFirst_38 (by decide) ?_
      obtain ⟨v27, hcv27⟩ : ∃ q, f_X12_refuse a0 (9 : Int32) M3 = q := ⟨_, rfl⟩
      replace hf := lt_e hf hcv27.symm
      refine v_callV [.int (9 : Int32)] G (c_X12_refuse h0 hcv27) h0 (by decide) rfl rfl rfl t_1926 t_1928 t_p110 t_17 t_1929 nm_X12_refuse (by decide) (by decide) rfl rfl (Nat.le_of_ble_eq_true rfl) dX12_soonestFirst_40 (kv_ri ?_)
      obtain rfl := Option.some.inj hf
      exact v_iret G dX12_soonestFirst_43
  · replace hf := (if_neg h29).symm.trans hf
    refine v_iconst (-1 : Int32) G dX12_soonestFirst_22 (by decide) ?_
    obtain rfl := Option.some.inj hf
    exact v_iret G dX12_soonestFirst_23
abbrev cX12_whyNotTwo : ByteArray := prog_14_method_134_code
def yX12_whyNotTwo : MethodName := ⟨RX12, "whyNotTwo", "(II)I"⟩
theorem dX12_whyNotTwo_0 : dc cX12_whyNotTwo 0 (.aload_n 0) 1 1 := ⟨by decide +kernel, rfl⟩
theorem dX12_whyNotTwo_1 : dc cX12_whyNotTwo 1 (.iload_n 1) 1 2 := ⟨by decide +kernel, rfl⟩
theorem dX12_whyNotTwo_2 : dc cX12_whyNotTwo 2 (.invokevirtual 373) 3 5 := ⟨by decide +kernel, rfl⟩
theorem dX12_whyNotTwo_5 : dc cX12_whyNotTwo 5 (.ifCond .eq 11) 3 8 := ⟨by decide +kernel, rfl⟩
theorem dX12_whyNotTwo_8 : dc cX12_whyNotTwo 8 (.aload_n 0) 1 9 := ⟨by decide +kernel, rfl⟩
theorem dX12_whyNotTwo_9 : dc cX12_whyNotTwo 9 (.iload_n 2) 1 10 := ⟨by decide +kernel, rfl⟩
theorem dX12_whyNotTwo_10 : dc cX12_whyNotTwo 10 (.invokevirtual 373) 3 13 := ⟨by decide +kernel, rfl⟩
theorem dX12_whyNotTwo_13 : dc cX12_whyNotTwo 13 (.ifCond .ne 5) 3 16 := ⟨by decide +kernel, rfl⟩
theorem dX12_whyNotTwo_16 : dc cX12_whyNotTwo 16 (.iconst 2) 1 17 := ⟨by decide +kernel, rfl⟩
theorem dX12_whyNotTwo_17 : dc cX12_whyNotTwo 17 (.ireturn) 1 18 := ⟨by decide +kernel, rfl⟩
theorem dX12_whyNotTwo_18 : dc cX12_whyNotTwo 18 (.iload_n 1) 1 19 := ⟨by decide +kernel, rfl⟩
theorem dX12_whyNotTwo_19 : dc cX12_whyNotTwo 19 (.iload_n 2) 1 20 := ⟨by decide +kernel, rfl⟩
theorem dX12_whyNotTwo_20 : dc cX12_whyNotTwo 20 (.if_icmp .eq 19) 3 23 := ⟨by decide +kernel, rfl⟩
theorem dX12_whyNotTwo_23 : dc cX12_whyNotTwo 23 (.aload_n 0) 1 24 := ⟨by decide +kernel, rfl⟩
theorem dX12_whyNotTwo_24 : dc cX12_whyNotTwo 24 (.iload_n 1) 1 25 := ⟨by decide +kernel, rfl⟩
theorem dX12_whyNotTwo_25 : dc cX12_whyNotTwo 25 (.invokevirtual 350) 3 28 := ⟨by decide +kernel, rfl⟩
theorem dX12_whyNotTwo_28 : dc cX12_whyNotTwo 28 (.ifCond .ne 11) 3 31 := ⟨by decide +kernel, rfl⟩
theorem dX12_whyNotTwo_31 : dc cX12_whyNotTwo 31 (.aload_n 0) 1 32 := ⟨by decide +kernel, rfl⟩
theorem dX12_whyNotTwo_32 : dc cX12_whyNotTwo 32 (.iload_n 2) 1 33 := ⟨by decide +kernel, rfl⟩
theorem dX12_whyNotTwo_33 : dc cX12_whyNotTwo 33 (.invokevirtual 350) 3 36 := ⟨by decide +kernel, rfl⟩
theorem dX12_whyNotTwo_36 : dc cX12_whyNotTwo 36 (.ifCond .eq 8) 3 39 := ⟨by decide +kernel, rfl⟩
theorem dX12_whyNotTwo_39 : dc cX12_whyNotTwo 39 (.bipush 9) 2 41 := ⟨by decide +kernel, rfl⟩
theorem dX12_whyNotTwo_41 : dc cX12_whyNotTwo 41 (.goto 4) 3 44 := ⟨by decide +kernel, rfl⟩
theorem dX12_whyNotTwo_44 : dc cX12_whyNotTwo 44 (.iconst 0) 1 45 := ⟨by decide +kernel, rfl⟩
theorem dX12_whyNotTwo_45 : dc cX12_whyNotTwo 45 (.ireturn) 1 46 := ⟨by decide +kernel, rfl⟩
theorem nm_X12_whyNotTwo : (yX12_whyNotTwo).cls ≠ "java/lang/invoke/MethodHandle" ∧ (yX12_whyNotTwo).cls ≠ "java/lang/invoke/VarHandle" ∧ (parseMethodDescriptor (yX12_whyNotTwo).desc).map (fun d => d.parameters.length) = some 2 := ⟨by decide +kernel, by decide +kernel, by decide +kernel⟩
set_option maxRecDepth 100000 in
set_option maxHeartbeats 4000000 in
theorem c_X12_whyNotTwo {l : Launch} {ad : Nat → Nat} {cy : Nat → ClassId} {D : va_G} {z : Nat} (n : Nat) {a0 : Nat} {p1 : Int32} {p2 : Int32} {M : KM} {y : Int32} (h0 : kty a0 = 12) (hf : f_X12_whyNotTwo n a0 p1 p2 M = some y) : KC l ad cy D z yX12_whyNotTwo cX12_whyNotTwo 3 (some .int) 3 [.ref (ad a0), .int p1, .int p2] M (some (.int y), M) := by
  refine kv_enter (by decide +kernel) (Nat.le_of_ble_eq_true rfl) ?_
  intro x hl hD hz G
  subst hl hD hz
  unfold f_X12_whyNotTwo at hf
  have G : KG ad cy x cX12_whyNotTwo "NoonGuidesModel" 3 (some (some .int)) 3 := G
  show KV ad cy x (some (.int y), M) 0 [(0, .ref (ad a0)), (1, .int p1), (2, .int p2)] [] M
  refine v_aload_n G dX12_whyNotTwo_0 0 rfl ?_
  refine v_iload_n G dX12_whyNotTwo_1 1 rfl ?_
  obtain ⟨v1, hcv1, hf⟩ := bd_e hf
  refine v_callV [.int p1] G (c_X12_isPerson n h0 hcv1) h0 (by decide) rfl rfl rfl t_1971 t_1973 t_p118 t_17 t_1974 nm_X12_isPerson (by decide) (by decide) rfl rfl (Nat.le_of_ble_eq_true rfl) dX12_whyNotTwo_2 (kv_ri ?_)
  refine v_if_eq 16 G dX12_whyNotTwo_5 (by decide) (fun h9 => ?_) (fun h9 => ?_)
  · replace hf := (if_pos h9).symm.trans hf
    refine v_iconst (2 : Int32) G dX12_whyNotTwo_16 (by decide) ?_
    obtain rfl := Option.some.inj hf
    exact v_iret G dX12_whyNotTwo_17
  · replace hf := (if_neg h9).symm.trans hf
    refine v_aload_n G dX12_whyNotTwo_8 0 rfl ?_
    refine v_iload_n G dX12_whyNotTwo_9 2 rfl ?_
    obtain ⟨v2, hcv2, hf⟩ := bd_e hf
    refine v_callV [.int p2] G (c_X12_isPerson n h0 hcv2) h0 (by decide) rfl rfl rfl t_1971 t_1973 t_p118 t_17 t_1974 nm_X12_isPerson (by decide) (by decide) rfl rfl (Nat.le_of_ble_eq_true rfl) dX12_whyNotTwo_10 (kv_ri ?_)
    refine v_if_ne 18 G dX12_whyNotTwo_13 (by decide) (fun h8 => ?_) (fun h8 => ?_)
    · replace hf := (if_neg h8).symm.trans hf
      refine v_iload_n G dX12_whyNotTwo_18 1 rfl ?_
      refine v_iload_n G dX12_whyNotTwo_19 2 rfl ?_
      obtain ⟨j39, ej39, hf⟩ := lt_j hf
      have hj39 : j39 = some y → KV ad cy x (some (.int y), M) 39 [] [] M := by
        intro hf
        rw [ej39] at hf
        refine v_bipush (9 : Int32) G dX12_whyNotTwo_39 (by decide) ?_
        refine v_goto 45 G dX12_whyNotTwo_41 (by decide) ?_
        obtain rfl := Option.some.inj hf
        exact v_iret G dX12_whyNotTwo_45
      refine v_icmp_eq 39 G dX12_whyNotTwo_20 (by decide) (fun h7 => ?_) (fun h7 => ?_)
      · replace hf := (if_pos h7).symm.trans hf
        refine v_sub _ [] rfl ?_
        exact hj39 hf
      · replace hf := (if_neg h7).symm.trans hf
        refine v_aload_n G dX12_whyNotTwo_23 0 rfl ?_
        refine v_iload_n G dX12_whyNotTwo_24 1 rfl ?_
        obtain ⟨v3, hcv3, hf⟩ := bd_e hf
        refine v_callV [.int p1] G (c_X12_isGoing n h0 hcv3) h0 (by decide) rfl rfl rfl t_1942 t_1944 t_p114 t_17 t_1945 nm_X12_isGoing (by decide) (by decide) rfl rfl (Nat.le_of_ble_eq_true rfl) dX12_whyNotTwo_25 (kv_ri ?_)
        refine v_if_ne 39 G dX12_whyNotTwo_28 (by decide) (fun h6 => ?_) (fun h6 => ?_)
        · replace hf := (if_neg h6).symm.trans hf
          refine v_sub _ [] rfl ?_
          exact hj39 hf
        · replace hf := (if_pos h6).symm.trans hf
          refine v_aload_n G dX12_whyNotTwo_31 0 rfl ?_
          refine v_iload_n G dX12_whyNotTwo_32 2 rfl ?_
          obtain ⟨v4, hcv4, hf⟩ := bd_e hf
          refine v_callV [.int p2] G (c_X12_isGoing n h0 hcv4) h0 (by decide) rfl rfl rfl t_1942 t_1944 t_p114 t_17 t_1945 nm_X12_isGoing (by decide) (by decide) rfl rfl (Nat.le_of_ble_eq_true rfl) dX12_whyNotTwo_33 (kv_ri ?_)
          refine v_if_eq 44 G dX12_whyNotTwo_36 (by decide) (fun h5 => ?_) (fun h5 => ?_)
          · replace hf := (if_pos h5).symm.trans hf
            refine v_iconst (0 : Int32) G dX12_whyNotTwo_44 (by decide) ?_
            obtain rfl := Option.some.inj hf
            exact v_iret G dX12_whyNotTwo_45
          · replace hf := (if_neg h5).symm.trans hf
            refine v_sub _ [] rfl ?_
            exact hj39 hf
    · replace hf := (if_pos h8).symm.trans hf
      refine v_iconst (2 : Int32) G dX12_whyNotTwo_16 (by decide) ?_
      obtain rfl := Option.some.inj hf
      exact v_iret G dX12_whyNotTwo_17
abbrev cX12_soonestTwo : ByteArray := prog_14_method_135_code
def yX12_soonestTwo : MethodName := ⟨RX12, "soonestTwo", "(III)I"⟩
theorem dX12_soonestTwo_0 : dc cX12_soonestTwo 0 (.aload_n 0) 1 1 := ⟨by decide +kernel, rfl⟩
theorem dX12_soonestTwo_1 : dc cX12_soonestTwo 1 (.iconst 0) 1 2 := ⟨by decide +kernel, rfl⟩
theorem dX12_soonestTwo_2 : dc cX12_soonestTwo 2 (.putfield 75) 3 5 := ⟨by decide +kernel, rfl⟩
theorem dX12_soonestTwo_5 : dc cX12_soonestTwo 5 (.aload_n 0) 1 6 := ⟨by decide +kernel, rfl⟩
theorem dX12_soonestTwo_6 : dc cX12_soonestTwo 6 (.aload_n 0) 1 7 := ⟨by decide +kernel, rfl⟩
theorem dX12_soonestTwo_7 : dc cX12_soonestTwo 7 (.iload_n 3) 1 8 := ⟨by decide +kernel, rfl⟩
theorem dX12_soonestTwo_8 : dc cX12_soonestTwo 8 (.invokevirtual 367) 3 11 := ⟨by decide +kernel, rfl⟩
theorem dX12_soonestTwo_11 : dc cX12_soonestTwo 11 (.ifCond .eq 12) 3 14 := ⟨by decide +kernel, rfl⟩
theorem dX12_soonestTwo_14 : dc cX12_soonestTwo 14 (.aload_n 0) 1 15 := ⟨by decide +kernel, rfl⟩
theorem dX12_soonestTwo_15 : dc cX12_soonestTwo 15 (.iload_n 1) 1 16 := ⟨by decide +kernel, rfl⟩
theorem dX12_soonestTwo_16 : dc cX12_soonestTwo 16 (.iload_n 2) 1 17 := ⟨by decide +kernel, rfl⟩
theorem dX12_soonestTwo_17 : dc cX12_soonestTwo 17 (.invokevirtual 466) 3 20 := ⟨by decide +kernel, rfl⟩
theorem dX12_soonestTwo_20 : dc cX12_soonestTwo 20 (.goto 4) 3 23 := ⟨by decide +kernel, rfl⟩
theorem dX12_soonestTwo_23 : dc cX12_soonestTwo 23 (.iconst 2) 1 24 := ⟨by decide +kernel, rfl⟩
theorem dX12_soonestTwo_24 : dc cX12_soonestTwo 24 (.putfield 78) 3 27 := ⟨by decide +kernel, rfl⟩
theorem dX12_soonestTwo_27 : dc cX12_soonestTwo 27 (.aload_n 0) 1 28 := ⟨by decide +kernel, rfl⟩
theorem dX12_soonestTwo_28 : dc cX12_soonestTwo 28 (.getfield 78) 3 31 := ⟨by decide +kernel, rfl⟩
theorem dX12_soonestTwo_31 : dc cX12_soonestTwo 31 (.ifCond .ne 30) 3 34 := ⟨by decide +kernel, rfl⟩
theorem dX12_soonestTwo_34 : dc cX12_soonestTwo 34 (.aload_n 0) 1 35 := ⟨by decide +kernel, rfl⟩
theorem dX12_soonestTwo_35 : dc cX12_soonestTwo 35 (.getfield 35) 3 38 := ⟨by decide +kernel, rfl⟩
theorem dX12_soonestTwo_38 : dc cX12_soonestTwo 38 (.bipush 58) 2 40 := ⟨by decide +kernel, rfl⟩
theorem dX12_soonestTwo_40 : dc cX12_soonestTwo 40 (.iload_n 1) 1 41 := ⟨by decide +kernel, rfl⟩
theorem dX12_soonestTwo_41 : dc cX12_soonestTwo 41 (.iadd) 1 42 := ⟨by decide +kernel, rfl⟩
theorem dX12_soonestTwo_42 : dc cX12_soonestTwo 42 (.iaload) 1 43 := ⟨by decide +kernel, rfl⟩
theorem dX12_soonestTwo_43 : dc cX12_soonestTwo 43 (.aload_n 0) 1 44 := ⟨by decide +kernel, rfl⟩
theorem dX12_soonestTwo_44 : dc cX12_soonestTwo 44 (.getfield 35) 3 47 := ⟨by decide +kernel, rfl⟩
theorem dX12_soonestTwo_47 : dc cX12_soonestTwo 47 (.bipush 58) 2 49 := ⟨by decide +kernel, rfl⟩
theorem dX12_soonestTwo_49 : dc cX12_soonestTwo 49 (.iload_n 2) 1 50 := ⟨by decide +kernel, rfl⟩
theorem dX12_soonestTwo_50 : dc cX12_soonestTwo 50 (.iadd) 1 51 := ⟨by decide +kernel, rfl⟩
theorem dX12_soonestTwo_51 : dc cX12_soonestTwo 51 (.iaload) 1 52 := ⟨by decide +kernel, rfl⟩
theorem dX12_soonestTwo_52 : dc cX12_soonestTwo 52 (.if_icmp .eq 9) 3 55 := ⟨by decide +kernel, rfl⟩
theorem dX12_soonestTwo_55 : dc cX12_soonestTwo 55 (.aload_n 0) 1 56 := ⟨by decide +kernel, rfl⟩
theorem dX12_soonestTwo_56 : dc cX12_soonestTwo 56 (.bipush 9) 2 58 := ⟨by decide +kernel, rfl⟩
theorem dX12_soonestTwo_58 : dc cX12_soonestTwo 58 (.putfield 78) 3 61 := ⟨by decide +kernel, rfl⟩
theorem dX12_soonestTwo_61 : dc cX12_soonestTwo 61 (.aload_n 0) 1 62 := ⟨by decide +kernel, rfl⟩
theorem dX12_soonestTwo_62 : dc cX12_soonestTwo 62 (.getfield 78) 3 65 := ⟨by decide +kernel, rfl⟩
theorem dX12_soonestTwo_65 : dc cX12_soonestTwo 65 (.ifCond .le 5) 3 68 := ⟨by decide +kernel, rfl⟩
theorem dX12_soonestTwo_68 : dc cX12_soonestTwo 68 (.iconst (-1)) 1 69 := ⟨by decide +kernel, rfl⟩
theorem dX12_soonestTwo_69 : dc cX12_soonestTwo 69 (.ireturn) 1 70 := ⟨by decide +kernel, rfl⟩
theorem dX12_soonestTwo_70 : dc cX12_soonestTwo 70 (.aload_n 0) 1 71 := ⟨by decide +kernel, rfl⟩
theorem dX12_soonestTwo_71 : dc cX12_soonestTwo 71 (.aload_n 0) 1 72 := ⟨by decide +kernel, rfl⟩
theorem dX12_soonestTwo_72 : dc cX12_soonestTwo 72 (.getfield 47) 3 75 := ⟨by decide +kernel, rfl⟩
theorem dX12_soonestTwo_75 : dc cX12_soonestTwo 75 (.iload_n 1) 1 76 := ⟨by decide +kernel, rfl⟩
theorem dX12_soonestTwo_76 : dc cX12_soonestTwo 76 (.iload_n 2) 1 77 := ⟨by decide +kernel, rfl⟩
theorem dX12_soonestTwo_77 : dc cX12_soonestTwo 77 (.aload_n 0) 1 78 := ⟨by decide +kernel, rfl⟩
theorem dX12_soonestTwo_78 : dc cX12_soonestTwo 78 (.getfield 35) 3 81 := ⟨by decide +kernel, rfl⟩
theorem dX12_soonestTwo_81 : dc cX12_soonestTwo 81 (.bipush 58) 2 83 := ⟨by decide +kernel, rfl⟩
theorem dX12_soonestTwo_83 : dc cX12_soonestTwo 83 (.iload_n 1) 1 84 := ⟨by decide +kernel, rfl⟩
theorem dX12_soonestTwo_84 : dc cX12_soonestTwo 84 (.iadd) 1 85 := ⟨by decide +kernel, rfl⟩
theorem dX12_soonestTwo_85 : dc cX12_soonestTwo 85 (.iaload) 1 86 := ⟨by decide +kernel, rfl⟩
theorem dX12_soonestTwo_86 : dc cX12_soonestTwo 86 (.aload_n 0) 1 87 := ⟨by decide +kernel, rfl⟩
theorem dX12_soonestTwo_87 : dc cX12_soonestTwo 87 (.getfield 35) 3 90 := ⟨by decide +kernel, rfl⟩
theorem dX12_soonestTwo_90 : dc cX12_soonestTwo 90 (.iconst 5) 1 91 := ⟨by decide +kernel, rfl⟩
theorem dX12_soonestTwo_91 : dc cX12_soonestTwo 91 (.iaload) 1 92 := ⟨by decide +kernel, rfl⟩
theorem dX12_soonestTwo_92 : dc cX12_soonestTwo 92 (.invokevirtual 462) 3 95 := ⟨by decide +kernel, rfl⟩
theorem dX12_soonestTwo_95 : dc cX12_soonestTwo 95 (.aload_n 0) 1 96 := ⟨by decide +kernel, rfl⟩
theorem dX12_soonestTwo_96 : dc cX12_soonestTwo 96 (.getfield 47) 3 99 := ⟨by decide +kernel, rfl⟩
theorem dX12_soonestTwo_99 : dc cX12_soonestTwo 99 (.iload_n 3) 1 100 := ⟨by decide +kernel, rfl⟩
theorem dX12_soonestTwo_100 : dc cX12_soonestTwo 100 (.iaload) 1 101 := ⟨by decide +kernel, rfl⟩
theorem dX12_soonestTwo_101 : dc cX12_soonestTwo 101 (.ifCond .ge 12) 3 104 := ⟨by decide +kernel, rfl⟩
theorem dX12_soonestTwo_104 : dc cX12_soonestTwo 104 (.aload_n 0) 1 105 := ⟨by decide +kernel, rfl⟩
theorem dX12_soonestTwo_105 : dc cX12_soonestTwo 105 (.bipush 8) 2 107 := ⟨by decide +kernel, rfl⟩
theorem dX12_soonestTwo_107 : dc cX12_soonestTwo 107 (.invokevirtual 355) 3 110 := ⟨by decide +kernel, rfl⟩
theorem dX12_soonestTwo_110 : dc cX12_soonestTwo 110 (.goto 16) 3 113 := ⟨by decide +kernel, rfl⟩
theorem dX12_soonestTwo_113 : dc cX12_soonestTwo 113 (.aload_n 0) 1 114 := ⟨by decide +kernel, rfl⟩
theorem dX12_soonestTwo_114 : dc cX12_soonestTwo 114 (.getfield 47) 3 117 := ⟨by decide +kernel, rfl⟩
theorem dX12_soonestTwo_117 : dc cX12_soonestTwo 117 (.iload_n 3) 1 118 := ⟨by decide +kernel, rfl⟩
theorem dX12_soonestTwo_118 : dc cX12_soonestTwo 118 (.iaload) 1 119 := ⟨by decide +kernel, rfl⟩
theorem dX12_soonestTwo_119 : dc cX12_soonestTwo 119 (.aload_n 0) 1 120 := ⟨by decide +kernel, rfl⟩
theorem dX12_soonestTwo_120 : dc cX12_soonestTwo 120 (.getfield 35) 3 123 := ⟨by decide +kernel, rfl⟩
theorem dX12_soonestTwo_123 : dc cX12_soonestTwo 123 (.iconst 5) 1 124 := ⟨by decide +kernel, rfl⟩
theorem dX12_soonestTwo_124 : dc cX12_soonestTwo 124 (.iaload) 1 125 := ⟨by decide +kernel, rfl⟩
theorem dX12_soonestTwo_125 : dc cX12_soonestTwo 125 (.isub) 1 126 := ⟨by decide +kernel, rfl⟩
theorem dX12_soonestTwo_126 : dc cX12_soonestTwo 126 (.ireturn) 1 127 := ⟨by decide +kernel, rfl⟩
theorem nm_X12_soonestTwo : (yX12_soonestTwo).cls ≠ "java/lang/invoke/MethodHandle" ∧ (yX12_soonestTwo).cls ≠ "java/lang/invoke/VarHandle" ∧ (parseMethodDescriptor (yX12_soonestTwo).desc).map (fun d => d.parameters.length) = some 3 := ⟨by decide +kernel, by decide +kernel, by decide +kernel⟩
set_option maxRecDepth 100000 in
set_option maxHeartbeats 4000000 in
theorem c_X12_soonestTwo {l : Launch} {ad : Nat → Nat} {cy : Nat → ClassId} {D : va_G} {z : Nat} (n : Nat) {a0 : Nat} {p1 : Int32} {p2 : Int32} {p3 : Int32} {M : KM} {y : (Int32 × KM)} (h0 : kty a0 = 12) (hf : f_X12_soonestTwo n a0 p1 p2 p3 M = some y) : KC l ad cy D z yX12_soonestTwo cX12_soonestTwo 4 (some .int) 6 [.ref (ad a0), .int p1, .int p2, .int p3] M (some (.int y.1), y.2) := by
  refine kv_enter (by decide +kernel) (Nat.le_of_ble_eq_true rfl) ?_
  intro x hl hD hz G
  subst hl hD hz
  unfold f_X12_soonestTwo at hf
  have G : KG ad cy x cX12_soonestTwo "NoonGuidesModel" 4 (some (some .int)) 6 := G
  show KV ad cy x (some (.int y.1), y.2) 0 [(0, .ref (ad a0)), (1, .int p1), (2, .int p2), (3, .int p3)] [] M
  refine v_aload_n G dX12_soonestTwo_0 0 rfl ?_
  refine v_iconst (0 : Int32) G dX12_soonestTwo_1 (by decide) ?_
  refine pf_12_1 G h0 t_1492 (Or.inl rfl) dX12_soonestTwo_2 ?_
  refine v_nmM (fun M1 eM1 => ?_)
  replace hf := lt_e hf eM1
  refine v_aload_n G dX12_soonestTwo_5 0 rfl ?_
  refine v_aload_n G dX12_soonestTwo_6 0 rfl ?_
  refine v_iload_n G dX12_soonestTwo_7 3 rfl ?_
  obtain ⟨v2, hcv2, hf⟩ := bd_e hf
  refine v_callV [.int p3] G (c_X12_isPlaceAt n h0 hcv2) h0 (by decide) rfl rfl rfl t_1959 t_1961 t_p116 t_17 t_1962 nm_X12_isPlaceAt (by decide) (by decide) rfl rfl (Nat.le_of_ble_eq_true rfl) dX12_soonestTwo_8 (kv_ri ?_)
  obtain ⟨j24, ej24, hf⟩ := lt_j hf
  have hj24 : ∀ (x3 : Int32), j24 x3 = some y → KV ad cy x (some (.int y.1), y.2) 24 [(0, .ref (ad a0)), (1, .int p1), (2, .int p2), (3, .int p3)] [.int x3, .ref (ad a0)] M1 := by
    intro x3 hf
    rw [ej24] at hf
    refine pf_12_0 G h0 t_1491 (Or.inl rfl) dX12_soonestTwo_24 ?_
    refine v_nmM (fun M4 eM4 => ?_)
    replace hf := lt_e hf eM4
    refine v_aload_n G dX12_soonestTwo_27 0 rfl ?_
    refine gf_12_0 G h0 t_1491 (Or.inl rfl) dX12_soonestTwo_28 ?_
    obtain ⟨j61, ej61, hf⟩ := lt_j hf
    have hj61 : ∀ (M5 : KM), j61 M5 = some y → KV ad cy x (some (.int y.1), y.2) 61 [(0, .ref (ad a0)), (1, .int p1), (2, .int p2), (3, .int p3)] [] M5 := by
      intro M5 hf
      rw [ej61] at hf
      refine v_aload_n G dX12_soonestTwo_61 0 rfl ?_
      refine gf_12_0 G h0 t_1491 (Or.inl rfl) dX12_soonestTwo_62 ?_
      refine v_if_le 70 G dX12_soonestTwo_65 (by decide) (fun h14 => ?_) (fun h14 => ?_)
      · replace hf := (if_pos h14).symm.trans hf
        refine v_aload_n G dX12_soonestTwo_70 0 rfl ?_
        refine v_aload_n G dX12_soonestTwo_71 0 rfl ?_
        refine gf_12_30 G h0 t_1521 (Or.inl rfl) dX12_soonestTwo_72 ?_
        refine v_iload_n G dX12_soonestTwo_75 1 rfl ?_
        refine v_iload_n G dX12_soonestTwo_76 2 rfl ?_
        refine v_aload_n G dX12_soonestTwo_77 0 rfl ?_
        refine gf_12_20 G h0 t_1511 (Or.inl rfl) dX12_soonestTwo_78 ?_
        refine v_bipush (58 : Int32) G dX12_soonestTwo_81 (by decide) ?_
        refine v_iload_n G dX12_soonestTwo_83 1 rfl ?_
        refine v_iadd G dX12_soonestTwo_84 ?_
        obtain ⟨g6, hf⟩ := gd_e hf
        refine al_36 G (kf_12_5 h0) g6 dX12_soonestTwo_85 ?_
        refine v_aload_n G dX12_soonestTwo_86 0 rfl ?_
        refine gf_12_20 G h0 t_1511 (Or.inl rfl) dX12_soonestTwo_87 ?_
        refine v_iconst (5 : Int32) G dX12_soonestTwo_90 (by decide) ?_
        obtain ⟨g7, hf⟩ := gd_e hf
        refine al_36 G (kf_12_5 h0) g7 dX12_soonestTwo_91 ?_
        obtain ⟨v8, hcv8, hf⟩ := bd_e hf
        refine v_callV [.ref (ad (a0 + 9)), .int p1, .int p2, .int (M5.1 (a0 + 5) (((58 : Int32) + p1)).toNatClampNeg), .int (M5.1 (a0 + 5) ((5 : Int32)).toNatClampNeg)] G (c_X12_laysWhen n h0 (kf_12_9 h0) hcv8) h0 (by decide) rfl rfl rfl t_2136 t_2138 t_p135 t_17 t_2139 nm_X12_laysWhen (by decide) (by decide) rfl rfl (Nat.le_of_ble_eq_true rfl) dX12_soonestTwo_92 (kv_rv ?_)
        refine v_aload_n G dX12_soonestTwo_95 0 rfl ?_
        refine gf_12_30 G h0 t_1521 (Or.inl rfl) dX12_soonestTwo_96 ?_
        refine v_iload_n G dX12_soonestTwo_99 3 rfl ?_
        obtain ⟨g9, hf⟩ := gd_e hf
        refine al_28 G (kf_12_9 h0) g9 dX12_soonestTwo_100 ?_
        refine v_if_ge 113 G dX12_soonestTwo_101 (by decide) (fun h13 => ?_) (fun h13 => ?_)
        · replace hf := (if_pos h13).symm.trans hf
          refine v_aload_n G dX12_soonestTwo_113 0 rfl ?_
          refine gf_12_30 G h0 t_1521 (Or.inl rfl) dX12_soonestTwo_114 ?_
          refine v_iload_n G dX12_soonestTwo_117 3 rfl ?_
          obtain ⟨g10, hf⟩ := gd_e hf
          refine al_28 G (kf_12_9 h0) g10 dX12_soonestTwo_118 ?_
          refine v_aload_n G dX12_soonestTwo_119 0 rfl ?_
          refine gf_12_20 G h0 t_1511 (Or.inl rfl) dX12_soonestTwo_120 ?_
          refine v_iconst (5 : Int32) G dX12_soonestTwo_123 (by decide) ?_
          obtain ⟨g11, hf⟩ := gd_e hf
          refine al_36 G (kf_12_5 h0) g11 dX12_soonestTwo_124 ?_
          refine v_isub G dX12_soonestTwo_125 ?_
          obtain rfl := Option.some.inj hf
          exact v_iret G dX12_soonestTwo_126
        · replace hf := (if_neg h13).symm.trans hf
          refine v_aload_n G dX12_soonestTwo_104 0 rfl ?_
          refine v_bipush (8 : Int32) G dX12_soonestTwo_105 (by decide) ?_
          obtain ⟨v12, hcv12⟩ : ∃ q, f_X12_refuse a0 (8 : Int32) v8 = q := ⟨_, rfl⟩
          replace hf := lt_e hf hcv12.symm
          refine v_callV [.int (8 : Int32)] G (c_X12_refuse h0 hcv12) h0 (by decide) rfl rfl rfl t_1926 t_1928 t_p110 t_17 t_1929 nm_X12_refuse (by decide) (by decide) rfl rfl (Nat.le_of_ble_eq_true rfl) dX12_soonestTwo_107 (kv_ri ?_)
          refine v_goto 126 G dX12_soonestTwo_110 (by decide) ?_
          obtain rfl := Option.some.inj hf
          exact v_iret G dX12_soonestTwo_126
      · replace hf := (if_neg h14).symm.trans hf
        refine v_iconst (-1 : Int32) G dX12_soonestTwo_68 (by decide) ?_
        obtain rfl := Option.some.inj hf
        exact v_iret G dX12_soonestTwo_69
    refine v_if_ne 61 G dX12_soonestTwo_31 (by decide) (fun h19 => ?_) (fun h19 => ?_)
    · replace hf := (if_neg h19).symm.trans hf
      refine v_sub _ [0, 1, 2, 3] rfl ?_
      exact hj61 M4 hf
    · replace hf := (if_pos h19).symm.trans hf
      refine v_aload_n G dX12_soonestTwo_34 0 rfl ?_
      refine gf_12_20 G h0 t_1511 (Or.inl rfl) dX12_soonestTwo_35 ?_
      refine v_bipush (58 : Int32) G dX12_soonestTwo_38 (by decide) ?_
      refine v_iload_n G dX12_soonestTwo_40 1 rfl ?_
      refine v_iadd G dX12_soonestTwo_41 ?_
      obtain ⟨g15, hf⟩ := gd_e hf
      refine al_36 G (kf_12_5 h0) g15 dX12_soonestTwo_42 ?_
      refine v_aload_n G dX12_soonestTwo_43 0 rfl ?_
      refine gf_12_20 G h0 t_1511 (Or.inl rfl) dX12_soonestTwo_44 ?_
      refine v_bipush (58 : Int32) G dX12_soonestTwo_47 (by decide) ?_
      refine v_iload_n G dX12_soonestTwo_49 2 rfl ?_
      refine v_iadd G dX12_soonestTwo_50 ?_
      obtain ⟨g16, hf⟩ := gd_e hf
      refine al_36 G (kf_12_5 h0) g16 dX12_soonestTwo_51 ?_
      refine v_icmp_eq 61 G dX12_soonestTwo_52 (by decide) (fun h18 => ?_) (fun h18 => ?_)
      · replace hf := (if_pos h18).symm.trans hf
        refine v_sub _ [0, 1, 2, 3] rfl ?_
        exact hj61 M4 hf
      · replace hf := (if_neg h18).symm.trans hf
        refine v_aload_n G dX12_soonestTwo_55 0 rfl ?_
        refine v_bipush (9 : Int32) G dX12_soonestTwo_56 (by decide) ?_
        refine pf_12_0 G h0 t_1491 (Or.inl rfl) dX12_soonestTwo_58 ?_
        refine v_nmM (fun M17 eM17 => ?_)
        replace hf := lt_e hf eM17
        refine v_sub _ [0, 1, 2, 3] rfl ?_
        exact hj61 M17 hf
  refine v_if_eq 23 G dX12_soonestTwo_11 (by decide) (fun h21 => ?_) (fun h21 => ?_)
  · replace hf := (if_pos h21).symm.trans hf
    refine v_iconst (2 : Int32) G dX12_soonestTwo_23 (by decide) ?_
    refine v_sub _ [0, 1, 2, 3] rfl ?_
    exact hj24 (2 : Int32) hf
  · replace hf := (if_neg h21).symm.trans hf
    refine v_aload_n G dX12_soonestTwo_14 0 rfl ?_
    refine v_iload_n G dX12_soonestTwo_15 1 rfl ?_
    refine v_iload_n G dX12_soonestTwo_16 2 rfl ?_
    obtain ⟨v20, hcv20, hf⟩ := bd_e hf
    refine v_callV [.int p1, .int p2] G (c_X12_whyNotTwo n h0 hcv20) h0 (by decide) rfl rfl rfl t_2160 t_2162 t_p139 t_17 t_2163 nm_X12_whyNotTwo (by decide) (by decide) rfl rfl (Nat.le_of_ble_eq_true rfl) dX12_soonestTwo_17 (kv_ri ?_)
    refine v_goto 24 G dX12_soonestTwo_20 (by decide) ?_
    refine v_sub _ [0, 1, 2, 3] rfl ?_
    exact hj24 v20 hf
abbrev cX12_meeting : ByteArray := prog_14_method_136_code
def yX12_meeting : MethodName := ⟨RX12, "meeting", "(II)I"⟩
theorem dX12_meeting_0 : dc cX12_meeting 0 (.aload_n 0) 1 1 := ⟨by decide +kernel, rfl⟩
theorem dX12_meeting_1 : dc cX12_meeting 1 (.aload_n 0) 1 2 := ⟨by decide +kernel, rfl⟩
theorem dX12_meeting_2 : dc cX12_meeting 2 (.getfield 47) 3 5 := ⟨by decide +kernel, rfl⟩
theorem dX12_meeting_5 : dc cX12_meeting 5 (.iload_n 1) 1 6 := ⟨by decide +kernel, rfl⟩
theorem dX12_meeting_6 : dc cX12_meeting 6 (.iconst (-1)) 1 7 := ⟨by decide +kernel, rfl⟩
theorem dX12_meeting_7 : dc cX12_meeting 7 (.aload_n 0) 1 8 := ⟨by decide +kernel, rfl⟩
theorem dX12_meeting_8 : dc cX12_meeting 8 (.getfield 35) 3 11 := ⟨by decide +kernel, rfl⟩
theorem dX12_meeting_11 : dc cX12_meeting 11 (.bipush 58) 2 13 := ⟨by decide +kernel, rfl⟩
theorem dX12_meeting_13 : dc cX12_meeting 13 (.iload_n 1) 1 14 := ⟨by decide +kernel, rfl⟩
theorem dX12_meeting_14 : dc cX12_meeting 14 (.iadd) 1 15 := ⟨by decide +kernel, rfl⟩
theorem dX12_meeting_15 : dc cX12_meeting 15 (.iaload) 1 16 := ⟨by decide +kernel, rfl⟩
theorem dX12_meeting_16 : dc cX12_meeting 16 (.aload_n 0) 1 17 := ⟨by decide +kernel, rfl⟩
theorem dX12_meeting_17 : dc cX12_meeting 17 (.getfield 35) 3 20 := ⟨by decide +kernel, rfl⟩
theorem dX12_meeting_20 : dc cX12_meeting 20 (.iconst 5) 1 21 := ⟨by decide +kernel, rfl⟩
theorem dX12_meeting_21 : dc cX12_meeting 21 (.iaload) 1 22 := ⟨by decide +kernel, rfl⟩
theorem dX12_meeting_22 : dc cX12_meeting 22 (.invokevirtual 462) 3 25 := ⟨by decide +kernel, rfl⟩
theorem dX12_meeting_25 : dc cX12_meeting 25 (.aload_n 0) 1 26 := ⟨by decide +kernel, rfl⟩
theorem dX12_meeting_26 : dc cX12_meeting 26 (.aload_n 0) 1 27 := ⟨by decide +kernel, rfl⟩
theorem dX12_meeting_27 : dc cX12_meeting 27 (.getfield 50) 3 30 := ⟨by decide +kernel, rfl⟩
theorem dX12_meeting_30 : dc cX12_meeting 30 (.iload_n 2) 1 31 := ⟨by decide +kernel, rfl⟩
theorem dX12_meeting_31 : dc cX12_meeting 31 (.iconst (-1)) 1 32 := ⟨by decide +kernel, rfl⟩
theorem dX12_meeting_32 : dc cX12_meeting 32 (.aload_n 0) 1 33 := ⟨by decide +kernel, rfl⟩
theorem dX12_meeting_33 : dc cX12_meeting 33 (.getfield 35) 3 36 := ⟨by decide +kernel, rfl⟩
theorem dX12_meeting_36 : dc cX12_meeting 36 (.bipush 58) 2 38 := ⟨by decide +kernel, rfl⟩
theorem dX12_meeting_38 : dc cX12_meeting 38 (.iload_n 2) 1 39 := ⟨by decide +kernel, rfl⟩
theorem dX12_meeting_39 : dc cX12_meeting 39 (.iadd) 1 40 := ⟨by decide +kernel, rfl⟩
theorem dX12_meeting_40 : dc cX12_meeting 40 (.iaload) 1 41 := ⟨by decide +kernel, rfl⟩
theorem dX12_meeting_41 : dc cX12_meeting 41 (.aload_n 0) 1 42 := ⟨by decide +kernel, rfl⟩
theorem dX12_meeting_42 : dc cX12_meeting 42 (.getfield 35) 3 45 := ⟨by decide +kernel, rfl⟩
theorem dX12_meeting_45 : dc cX12_meeting 45 (.iconst 5) 1 46 := ⟨by decide +kernel, rfl⟩
theorem dX12_meeting_46 : dc cX12_meeting 46 (.iaload) 1 47 := ⟨by decide +kernel, rfl⟩
theorem dX12_meeting_47 : dc cX12_meeting 47 (.invokevirtual 462) 3 50 := ⟨by decide +kernel, rfl⟩
theorem dX12_meeting_50 : dc cX12_meeting 50 (.iconst (-1)) 1 51 := ⟨by decide +kernel, rfl⟩
theorem dX12_meeting_51 : dc cX12_meeting 51 (.istore_n 3) 1 52 := ⟨by decide +kernel, rfl⟩
theorem dX12_meeting_52 : dc cX12_meeting 52 (.iconst 0) 1 53 := ⟨by decide +kernel, rfl⟩
theorem dX12_meeting_53 : dc cX12_meeting 53 (.istore 4) 2 55 := ⟨by decide +kernel, rfl⟩
theorem dX12_meeting_55 : dc cX12_meeting 55 (.iload 4) 2 57 := ⟨by decide +kernel, rfl⟩
theorem dX12_meeting_57 : dc cX12_meeting 57 (.aload_n 0) 1 58 := ⟨by decide +kernel, rfl⟩
theorem dX12_meeting_58 : dc cX12_meeting 58 (.getfield 35) 3 61 := ⟨by decide +kernel, rfl⟩
theorem dX12_meeting_61 : dc cX12_meeting 61 (.iconst 0) 1 62 := ⟨by decide +kernel, rfl⟩
theorem dX12_meeting_62 : dc cX12_meeting 62 (.iaload) 1 63 := ⟨by decide +kernel, rfl⟩
theorem dX12_meeting_63 : dc cX12_meeting 63 (.if_icmp .ge 79) 3 66 := ⟨by decide +kernel, rfl⟩
theorem dX12_meeting_66 : dc cX12_meeting 66 (.aload_n 0) 1 67 := ⟨by decide +kernel, rfl⟩
theorem dX12_meeting_67 : dc cX12_meeting 67 (.getfield 47) 3 70 := ⟨by decide +kernel, rfl⟩
theorem dX12_meeting_70 : dc cX12_meeting 70 (.iload 4) 2 72 := ⟨by decide +kernel, rfl⟩
theorem dX12_meeting_72 : dc cX12_meeting 72 (.iaload) 1 73 := ⟨by decide +kernel, rfl⟩
theorem dX12_meeting_73 : dc cX12_meeting 73 (.ifCond .lt 63) 3 76 := ⟨by decide +kernel, rfl⟩
theorem dX12_meeting_76 : dc cX12_meeting 76 (.aload_n 0) 1 77 := ⟨by decide +kernel, rfl⟩
theorem dX12_meeting_77 : dc cX12_meeting 77 (.getfield 50) 3 80 := ⟨by decide +kernel, rfl⟩
theorem dX12_meeting_80 : dc cX12_meeting 80 (.iload 4) 2 82 := ⟨by decide +kernel, rfl⟩
theorem dX12_meeting_82 : dc cX12_meeting 82 (.iaload) 1 83 := ⟨by decide +kernel, rfl⟩
theorem dX12_meeting_83 : dc cX12_meeting 83 (.ifCond .ge 6) 3 86 := ⟨by decide +kernel, rfl⟩
theorem dX12_meeting_86 : dc cX12_meeting 86 (.goto 50) 3 89 := ⟨by decide +kernel, rfl⟩
theorem dX12_meeting_89 : dc cX12_meeting 89 (.aload_n 0) 1 90 := ⟨by decide +kernel, rfl⟩
theorem dX12_meeting_90 : dc cX12_meeting 90 (.getfield 47) 3 93 := ⟨by decide +kernel, rfl⟩
theorem dX12_meeting_93 : dc cX12_meeting 93 (.iload 4) 2 95 := ⟨by decide +kernel, rfl⟩
theorem dX12_meeting_95 : dc cX12_meeting 95 (.aload_n 0) 1 96 := ⟨by decide +kernel, rfl⟩
theorem dX12_meeting_96 : dc cX12_meeting 96 (.getfield 47) 3 99 := ⟨by decide +kernel, rfl⟩
theorem dX12_meeting_99 : dc cX12_meeting 99 (.iload 4) 2 101 := ⟨by decide +kernel, rfl⟩
theorem dX12_meeting_101 : dc cX12_meeting 101 (.iaload) 1 102 := ⟨by decide +kernel, rfl⟩
theorem dX12_meeting_102 : dc cX12_meeting 102 (.aload_n 0) 1 103 := ⟨by decide +kernel, rfl⟩
theorem dX12_meeting_103 : dc cX12_meeting 103 (.getfield 50) 3 106 := ⟨by decide +kernel, rfl⟩
theorem dX12_meeting_106 : dc cX12_meeting 106 (.iload 4) 2 108 := ⟨by decide +kernel, rfl⟩
theorem dX12_meeting_108 : dc cX12_meeting 108 (.iaload) 1 109 := ⟨by decide +kernel, rfl⟩
theorem dX12_meeting_109 : dc cX12_meeting 109 (.invokestatic 251) 3 112 := ⟨by decide +kernel, rfl⟩
theorem dX12_meeting_112 : dc cX12_meeting 112 (.iastore) 1 113 := ⟨by decide +kernel, rfl⟩
theorem dX12_meeting_113 : dc cX12_meeting 113 (.iload_n 3) 1 114 := ⟨by decide +kernel, rfl⟩
theorem dX12_meeting_114 : dc cX12_meeting 114 (.ifCond .lt 19) 3 117 := ⟨by decide +kernel, rfl⟩
theorem dX12_meeting_117 : dc cX12_meeting 117 (.aload_n 0) 1 118 := ⟨by decide +kernel, rfl⟩
theorem dX12_meeting_118 : dc cX12_meeting 118 (.getfield 47) 3 121 := ⟨by decide +kernel, rfl⟩
theorem dX12_meeting_121 : dc cX12_meeting 121 (.iload 4) 2 123 := ⟨by decide +kernel, rfl⟩
theorem dX12_meeting_123 : dc cX12_meeting 123 (.iaload) 1 124 := ⟨by decide +kernel, rfl⟩
theorem dX12_meeting_124 : dc cX12_meeting 124 (.aload_n 0) 1 125 := ⟨by decide +kernel, rfl⟩
theorem dX12_meeting_125 : dc cX12_meeting 125 (.getfield 47) 3 128 := ⟨by decide +kernel, rfl⟩
theorem dX12_meeting_128 : dc cX12_meeting 128 (.iload_n 3) 1 129 := ⟨by decide +kernel, rfl⟩
theorem dX12_meeting_129 : dc cX12_meeting 129 (.iaload) 1 130 := ⟨by decide +kernel, rfl⟩
theorem dX12_meeting_130 : dc cX12_meeting 130 (.if_icmp .ge 6) 3 133 := ⟨by decide +kernel, rfl⟩
theorem dX12_meeting_133 : dc cX12_meeting 133 (.iload 4) 2 135 := ⟨by decide +kernel, rfl⟩
theorem dX12_meeting_135 : dc cX12_meeting 135 (.istore_n 3) 1 136 := ⟨by decide +kernel, rfl⟩
theorem dX12_meeting_136 : dc cX12_meeting 136 (.iinc 4 1) 3 139 := ⟨by decide +kernel, rfl⟩
theorem dX12_meeting_139 : dc cX12_meeting 139 (.goto (-84)) 3 142 := ⟨by decide +kernel, rfl⟩
theorem dX12_meeting_142 : dc cX12_meeting 142 (.iload_n 3) 1 143 := ⟨by decide +kernel, rfl⟩
theorem dX12_meeting_143 : dc cX12_meeting 143 (.ireturn) 1 144 := ⟨by decide +kernel, rfl⟩
theorem nm_X12_meeting : (yX12_meeting).cls ≠ "java/lang/invoke/MethodHandle" ∧ (yX12_meeting).cls ≠ "java/lang/invoke/VarHandle" ∧ (parseMethodDescriptor (yX12_meeting).desc).map (fun d => d.parameters.length) = some 2 := ⟨by decide +kernel, by decide +kernel, by decide +kernel⟩
set_option maxRecDepth 100000 in
set_option maxHeartbeats 4000000 in
theorem s_X12_meeting_55 {ad : Nat → Nat} {cy : Nat → ClassId} {x : KX} (G : KG ad cy x cX12_meeting "NoonGuidesModel" 5 (some (some .int)) 6) {a0 : Nat} (h0 : kty a0 = 12) {y : (Int32 × KM)} : ∀ (n : Nat) (w3 : Int32) (w4 : Int32) (M : KM), lp_X12_meeting_55 n a0 w3 w4 M = some y → KV ad cy x (some (.int y.1), y.2) 55 [(0, .ref (ad a0)), (3, .int w3), (4, .int w4)] [] M := by
  intro n
  induction n with
  | zero =>
    intro w3 w4 M hf
    cases hf
  | succ n ih =>
    intro w3 w4 M hf
    rw [lp_X12_meeting_55] at hf
    refine v_iload G dX12_meeting_55 2 rfl ?_
    refine v_aload_n G dX12_meeting_57 0 rfl ?_
    refine gf_12_20 G h0 t_1511 (Or.inl rfl) dX12_meeting_58 ?_
    refine v_iconst (0 : Int32) G dX12_meeting_61 (by decide) ?_
    obtain ⟨g7, hf⟩ := gd_e hf
    refine al_36 G (kf_12_5 h0) g7 dX12_meeting_62 ?_
    refine v_icmp_ge 142 G dX12_meeting_63 (by decide) (fun h24 => ?_) (fun h24 => ?_)
    · replace hf := (if_pos h24).symm.trans hf
      refine v_iload_n G dX12_meeting_142 1 rfl ?_
      obtain rfl := Option.some.inj hf
      exact v_iret G dX12_meeting_143
    · replace hf := (if_neg h24).symm.trans hf
      refine v_aload_n G dX12_meeting_66 0 rfl ?_
      refine gf_12_30 G h0 t_1521 (Or.inl rfl) dX12_meeting_67 ?_
      refine v_iload G dX12_meeting_70 2 rfl ?_
      obtain ⟨g8, hf⟩ := gd_e hf
      refine al_28 G (kf_12_9 h0) g8 dX12_meeting_72 ?_
      obtain ⟨j136, ej136, hf⟩ := lt_j hf
      have hj136 : ∀ (x9 : Int32) (M10 : KM), j136 x9 M10 = some y → KV ad cy x (some (.int y.1), y.2) 136 [(0, .ref (ad a0)), (3, .int x9), (4, .int w4)] [] M10 := by
        intro x9 M10 hf
        rw [ej136] at hf
        obtain ⟨v11, ev11⟩ : ∃ q : Int32, q = w4 + (1 : Int32) := ⟨_, rfl⟩
        replace hf := lt_e hf ev11
        refine v_iinc v11 [(4, .int v11), (0, .ref (ad a0)), (3, .int x9)] G dX12_meeting_136 2 rfl (by rw [ev11]; rfl) (by decide) rfl ?_
        refine v_goto 55 G dX12_meeting_139 (by decide) ?_
        refine v_sub _ [1, 2, 0] rfl ?_
        exact ih x9 v11 M10 hf
      refine v_if_lt 136 G dX12_meeting_73 (by decide) (fun h23 => ?_) (fun h23 => ?_)
      · replace hf := (if_pos h23).symm.trans hf
        refine v_sub _ [0, 1, 2] rfl ?_
        exact hj136 w3 M hf
      · replace hf := (if_neg h23).symm.trans hf
        refine v_aload_n G dX12_meeting_76 0 rfl ?_
        refine gf_12_31 G h0 t_1522 (Or.inl rfl) dX12_meeting_77 ?_
        refine v_iload G dX12_meeting_80 2 rfl ?_
        obtain ⟨g12, hf⟩ := gd_e hf
        refine al_28 G (kf_12_10 h0) g12 dX12_meeting_82 ?_
        refine v_if_ge 89 G dX12_meeting_83 (by decide) (fun h22 => ?_) (fun h22 => ?_)
        · replace hf := (if_pos h22).symm.trans hf
          refine v_aload_n G dX12_meeting_89 0 rfl ?_
          refine gf_12_30 G h0 t_1521 (Or.inl rfl) dX12_meeting_90 ?_
          refine v_iload G dX12_meeting_93 2 rfl ?_
          refine v_aload_n G dX12_meeting_95 0 rfl ?_
          refine gf_12_30 G h0 t_1521 (Or.inl rfl) dX12_meeting_96 ?_
          refine v_iload G dX12_meeting_99 2 rfl ?_
          obtain ⟨g13, hf⟩ := gd_e hf
          refine al_28 G (kf_12_9 h0) g13 dX12_meeting_101 ?_
          refine v_aload_n G dX12_meeting_102 0 rfl ?_
          refine gf_12_31 G h0 t_1522 (Or.inl rfl) dX12_meeting_103 ?_
          refine v_iload G dX12_meeting_106 2 rfl ?_
          obtain ⟨g14, hf⟩ := gd_e hf
          refine al_28 G (kf_12_10 h0) g14 dX12_meeting_108 ?_
          refine v_mmax G (by decide) t_1868 t_1282 t_19 t_1283 (Nat.le_of_ble_eq_true rfl) dX12_meeting_109 ?_
          refine v_nmi (fun v15 ev15 => ?_)
          replace hf := lt_e hf ev15
          obtain ⟨g16, hf⟩ := gd_e hf
          refine as_28 G (kf_12_9 h0) g16 dX12_meeting_112 ?_
          refine v_nmM (fun M17 eM17 => ?_)
          replace hf := lt_e hf eM17
          refine v_iload_n G dX12_meeting_113 1 rfl ?_
          obtain ⟨j133, ej133, hf⟩ := lt_j hf
          have hj133 : j133 = some y → KV ad cy x (some (.int y.1), y.2) 133 [(0, .ref (ad a0)), (4, .int w4)] [] M17 := by
            intro hf
            rw [ej133] at hf
            refine v_iload G dX12_meeting_133 1 rfl ?_
            refine v_istore_n [(3, .int w4), (0, .ref (ad a0)), (4, .int w4)] G dX12_meeting_135 (by decide) rfl ?_
            refine v_sub _ [1, 0, 2] rfl ?_
            exact hj136 w4 M17 hf
          refine v_if_lt 133 G dX12_meeting_114 (by decide) (fun h21 => ?_) (fun h21 => ?_)
          · replace hf := (if_pos h21).symm.trans hf
            refine v_sub _ [0, 2] rfl ?_
            exact hj133 hf
          · replace hf := (if_neg h21).symm.trans hf
            refine v_aload_n G dX12_meeting_117 0 rfl ?_
            refine gf_12_30 G h0 t_1521 (Or.inl rfl) dX12_meeting_118 ?_
            refine v_iload G dX12_meeting_121 2 rfl ?_
            obtain ⟨g18, hf⟩ := gd_e hf
            refine al_28 G (kf_12_9 h0) g18 dX12_meeting_123 ?_
            refine v_aload_n G dX12_meeting_124 0 rfl ?_
            refine gf_12_30 G h0 t_1521 (Or.inl rfl) dX12_meeting_125 ?_
            refine v_iload_n G dX12_meeting_128 1 rfl ?_
            obtain ⟨g19, hf⟩ := gd_e hf
            refine al_28 G (kf_12_9 h0) g19 dX12_meeting_129 ?_
            refine v_icmp_ge 136 G dX12_meeting_130 (by decide) (fun h20 => ?_) (fun h20 => ?_)
            · replace hf := (if_pos h20).symm.trans hf
              refine v_sub _ [0, 1, 2] rfl ?_
              exact hj136 w3 M17 hf
            · replace hf := (if_neg h20).symm.trans hf
              refine v_sub _ [0, 2] rfl ?_
              exact hj133 hf
        · replace hf := (if_neg h22).symm.trans hf
          refine v_goto 136 G dX12_meeting_86 (by decide) ?_
          refine v_sub _ [0, 1, 2] rfl ?_
          exact hj136 w3 M hf
set_option maxRecDepth 100000 in
set_option maxHeartbeats 4000000 in
theorem c_X12_meeting {l : Launch} {ad : Nat → Nat} {cy : Nat → ClassId} {D : va_G} {z : Nat} (n : Nat) {a0 : Nat} {p1 : Int32} {p2 : Int32} {M : KM} {y : (Int32 × KM)} (h0 : kty a0 = 12) (hf : f_X12_meeting n a0 p1 p2 M = some y) : KC l ad cy D z yX12_meeting cX12_meeting 5 (some .int) 6 [.ref (ad a0), .int p1, .int p2] M (some (.int y.1), y.2) := by
  refine kv_enter (by decide +kernel) (Nat.le_of_ble_eq_true rfl) ?_
  intro x hl hD hz G
  subst hl hD hz
  unfold f_X12_meeting at hf
  have G : KG ad cy x cX12_meeting "NoonGuidesModel" 5 (some (some .int)) 6 := G
  show KV ad cy x (some (.int y.1), y.2) 0 [(0, .ref (ad a0)), (1, .int p1), (2, .int p2)] [] M
  refine v_aload_n G dX12_meeting_0 0 rfl ?_
  refine v_aload_n G dX12_meeting_1 0 rfl ?_
  refine gf_12_30 G h0 t_1521 (Or.inl rfl) dX12_meeting_2 ?_
  refine v_iload_n G dX12_meeting_5 1 rfl ?_
  refine v_iconst (-1 : Int32) G dX12_meeting_6 (by decide) ?_
  refine v_aload_n G dX12_meeting_7 0 rfl ?_
  refine gf_12_20 G h0 t_1511 (Or.inl rfl) dX12_meeting_8 ?_
  refine v_bipush (58 : Int32) G dX12_meeting_11 (by decide) ?_
  refine v_iload_n G dX12_meeting_13 1 rfl ?_
  refine v_iadd G dX12_meeting_14 ?_
  obtain ⟨g1, hf⟩ := gd_e hf
  refine al_36 G (kf_12_5 h0) g1 dX12_meeting_15 ?_
  refine v_aload_n G dX12_meeting_16 0 rfl ?_
  refine gf_12_20 G h0 t_1511 (Or.inl rfl) dX12_meeting_17 ?_
  refine v_iconst (5 : Int32) G dX12_meeting_20 (by decide) ?_
  obtain ⟨g2, hf⟩ := gd_e hf
  refine al_36 G (kf_12_5 h0) g2 dX12_meeting_21 ?_
  obtain ⟨v3, hcv3, hf⟩ := bd_e hf
  refine v_callV [.ref (ad (a0 + 9)), .int p1, .int (-1 : Int32), .int (M.1 (a0 + 5) (((58 : Int32) + p1)).toNatClampNeg), .int (M.1 (a0 + 5) ((5 : Int32)).toNatClampNeg)] G (c_X12_laysWhen n h0 (kf_12_9 h0) hcv3) h0 (by decide) rfl rfl rfl t_2136 t_2138 t_p135 t_17 t_2139 nm_X12_laysWhen (by decide) (by decide) rfl rfl (Nat.le_of_ble_eq_true rfl) dX12_meeting_22 (kv_rv ?_)
  refine v_aload_n G dX12_meeting_25 0 rfl ?_
  refine v_aload_n G dX12_meeting_26 0 rfl ?_
  refine gf_12_31 G h0 t_1522 (Or.inl rfl) dX12_meeting_27 ?_
  refine v_iload_n G dX12_meeting_30 2 rfl ?_
  refine v_iconst (-1 : Int32) G dX12_meeting_31 (by decide) ?_
  refine v_aload_n G dX12_meeting_32 0 rfl ?_
  refine gf_12_20 G h0 t_1511 (Or.inl rfl) dX12_meeting_33 ?_
  refine v_bipush (58 : Int32) G dX12_meeting_36 (by decide) ?_
  refine v_iload_n G dX12_meeting_38 2 rfl ?_
  refine v_iadd G dX12_meeting_39 ?_
  obtain ⟨g4, hf⟩ := gd_e hf
  refine al_36 G (kf_12_5 h0) g4 dX12_meeting_40 ?_
  refine v_aload_n G dX12_meeting_41 0 rfl ?_
  refine gf_12_20 G h0 t_1511 (Or.inl rfl) dX12_meeting_42 ?_
  refine v_iconst (5 : Int32) G dX12_meeting_45 (by decide) ?_
  obtain ⟨g5, hf⟩ := gd_e hf
  refine al_36 G (kf_12_5 h0) g5 dX12_meeting_46 ?_
  obtain ⟨v6, hcv6, hf⟩ := bd_e hf
  refine v_callV [.ref (ad (a0 + 10)), .int p2, .int (-1 : Int32), .int (v3.1 (a0 + 5) (((58 : Int32) + p2)).toNatClampNeg), .int (v3.1 (a0 + 5) ((5 : Int32)).toNatClampNeg)] G (c_X12_laysWhen n h0 (kf_12_10 h0) hcv6) h0 (by decide) rfl rfl rfl t_2136 t_2138 t_p135 t_17 t_2139 nm_X12_laysWhen (by decide) (by decide) rfl rfl (Nat.le_of_ble_eq_true rfl) dX12_meeting_47 (kv_rv ?_)
  refine v_iconst (-1 : Int32) G dX12_meeting_50 (by decide) ?_
  refine v_istore_n [(3, .int (-1 : Int32)), (0, .ref (ad a0)), (1, .int p1), (2, .int p2)] G dX12_meeting_51 (by decide) rfl ?_
  refine v_iconst (0 : Int32) G dX12_meeting_52 (by decide) ?_
  refine v_istore [(4, .int (0 : Int32)), (3, .int (-1 : Int32)), (0, .ref (ad a0)), (1, .int p1), (2, .int p2)] G dX12_meeting_53 (by decide) rfl ?_
  refine v_sub _ [2, 1, 0] rfl ?_
  refine s_X12_meeting_55 G h0 n (-1 : Int32) (0 : Int32) v6 hf
abbrev cX12_meet : ByteArray := prog_14_method_137_code
def yX12_meet : MethodName := ⟨RX12, "meet", "(II)I"⟩
theorem dX12_meet_0 : dc cX12_meet 0 (.aload_n 0) 1 1 := ⟨by decide +kernel, rfl⟩
theorem dX12_meet_1 : dc cX12_meet 1 (.iconst 0) 1 2 := ⟨by decide +kernel, rfl⟩
theorem dX12_meet_2 : dc cX12_meet 2 (.putfield 75) 3 5 := ⟨by decide +kernel, rfl⟩
theorem dX12_meet_5 : dc cX12_meet 5 (.aload_n 0) 1 6 := ⟨by decide +kernel, rfl⟩
theorem dX12_meet_6 : dc cX12_meet 6 (.aload_n 0) 1 7 := ⟨by decide +kernel, rfl⟩
theorem dX12_meet_7 : dc cX12_meet 7 (.iload_n 1) 1 8 := ⟨by decide +kernel, rfl⟩
theorem dX12_meet_8 : dc cX12_meet 8 (.iload_n 2) 1 9 := ⟨by decide +kernel, rfl⟩
theorem dX12_meet_9 : dc cX12_meet 9 (.invokevirtual 466) 3 12 := ⟨by decide +kernel, rfl⟩
theorem dX12_meet_12 : dc cX12_meet 12 (.putfield 78) 3 15 := ⟨by decide +kernel, rfl⟩
theorem dX12_meet_15 : dc cX12_meet 15 (.aload_n 0) 1 16 := ⟨by decide +kernel, rfl⟩
theorem dX12_meet_16 : dc cX12_meet 16 (.getfield 78) 3 19 := ⟨by decide +kernel, rfl⟩
theorem dX12_meet_19 : dc cX12_meet 19 (.ifCond .le 5) 3 22 := ⟨by decide +kernel, rfl⟩
theorem dX12_meet_22 : dc cX12_meet 22 (.iconst (-1)) 1 23 := ⟨by decide +kernel, rfl⟩
theorem dX12_meet_23 : dc cX12_meet 23 (.ireturn) 1 24 := ⟨by decide +kernel, rfl⟩
theorem dX12_meet_24 : dc cX12_meet 24 (.aload_n 0) 1 25 := ⟨by decide +kernel, rfl⟩
theorem dX12_meet_25 : dc cX12_meet 25 (.iload_n 1) 1 26 := ⟨by decide +kernel, rfl⟩
theorem dX12_meet_26 : dc cX12_meet 26 (.iload_n 2) 1 27 := ⟨by decide +kernel, rfl⟩
theorem dX12_meet_27 : dc cX12_meet 27 (.invokevirtual 469) 3 30 := ⟨by decide +kernel, rfl⟩
theorem dX12_meet_30 : dc cX12_meet 30 (.istore_n 3) 1 31 := ⟨by decide +kernel, rfl⟩
theorem dX12_meet_31 : dc cX12_meet 31 (.iload_n 3) 1 32 := ⟨by decide +kernel, rfl⟩
theorem dX12_meet_32 : dc cX12_meet 32 (.ifCond .ge 12) 3 35 := ⟨by decide +kernel, rfl⟩
theorem dX12_meet_35 : dc cX12_meet 35 (.aload_n 0) 1 36 := ⟨by decide +kernel, rfl⟩
theorem dX12_meet_36 : dc cX12_meet 36 (.bipush 8) 2 38 := ⟨by decide +kernel, rfl⟩
theorem dX12_meet_38 : dc cX12_meet 38 (.invokevirtual 355) 3 41 := ⟨by decide +kernel, rfl⟩
theorem dX12_meet_41 : dc cX12_meet 41 (.goto 4) 3 44 := ⟨by decide +kernel, rfl⟩
theorem dX12_meet_44 : dc cX12_meet 44 (.iload_n 3) 1 45 := ⟨by decide +kernel, rfl⟩
theorem dX12_meet_45 : dc cX12_meet 45 (.ireturn) 1 46 := ⟨by decide +kernel, rfl⟩
theorem nm_X12_meet : (yX12_meet).cls ≠ "java/lang/invoke/MethodHandle" ∧ (yX12_meet).cls ≠ "java/lang/invoke/VarHandle" ∧ (parseMethodDescriptor (yX12_meet).desc).map (fun d => d.parameters.length) = some 2 := ⟨by decide +kernel, by decide +kernel, by decide +kernel⟩
set_option maxRecDepth 100000 in
set_option maxHeartbeats 4000000 in
theorem c_X12_meet {l : Launch} {ad : Nat → Nat} {cy : Nat → ClassId} {D : va_G} {z : Nat} (n : Nat) {a0 : Nat} {p1 : Int32} {p2 : Int32} {M : KM} {y : (Int32 × KM)} (h0 : kty a0 = 12) (hf : f_X12_meet n a0 p1 p2 M = some y) : KC l ad cy D z yX12_meet cX12_meet 4 (some .int) 7 [.ref (ad a0), .int p1, .int p2] M (some (.int y.1), y.2) := by
  refine kv_enter (by decide +kernel) (Nat.le_of_ble_eq_true rfl) ?_
  intro x hl hD hz G
  subst hl hD hz
  unfold f_X12_meet at hf
  have G : KG ad cy x cX12_meet "NoonGuidesModel" 4 (some (some .int)) 7 := G
  show KV ad cy x (some (.int y.1), y.2) 0 [(0, .ref (ad a0)), (1, .int p1), (2, .int p2)] [] M
  refine v_aload_n G dX12_meet_0 0 rfl ?_
  refine v_iconst (0 : Int32) G dX12_meet_1 (by decide) ?_
  refine pf_12_1 G h0 t_1492 (Or.inl rfl) dX12_meet_2 ?_
  refine v_nmM (fun M1 eM1 => ?_)
  replace hf := lt_e hf eM1
  refine v_aload_n G dX12_meet_5 0 rfl ?_
  refine v_aload_n G dX12_meet_6 0 rfl ?_
  refine v_iload_n G dX12_meet_7 1 rfl ?_
  refine v_iload_n G dX12_meet_8 2 rfl ?_
  obtain ⟨v2, hcv2, hf⟩ := bd_e hf
  refine v_callV [.int p1, .int p2] G (c_X12_whyNotTwo n h0 hcv2) h0 (by decide) rfl rfl rfl t_2160 t_2162 t_p139 t_17 t_2163 nm_X12_whyNotTwo (by decide) (by decide) rfl rfl (Nat.le_of_ble_eq_true rfl) dX12_meet_9 (kv_ri ?_)
  refine pf_12_0 G h0 t_1491 (Or.inl rfl) dX12_meet_12 ?_
  refine v_nmM (fun M3 eM3 => ?_)
  replace hf := lt_e hf eM3
  refine v_aload_n G dX12_meet_15 0 rfl ?_
  refine gf_12_0 G h0 t_1491 (Or.inl rfl) dX12_meet_16 ?_
  refine v_if_le 24 G dX12_meet_19 (by decide) (fun h7 => ?_) (fun h7 => ?_)
  · replace hf := (if_pos h7).symm.trans hf
    refine v_aload_n G dX12_meet_24 0 rfl ?_
    refine v_iload_n G dX12_meet_25 1 rfl ?_
    refine v_iload_n G dX12_meet_26 2 rfl ?_
    obtain ⟨v4, hcv4, hf⟩ := bd_e hf
    refine v_callV [.int p1, .int p2] G (c_X12_meeting n h0 hcv4) h0 (by decide) rfl rfl rfl t_2168 t_2170 t_p140 t_17 t_2171 nm_X12_meeting (by decide) (by decide) rfl rfl (Nat.le_of_ble_eq_true rfl) dX12_meet_27 (kv_ri ?_)
    refine v_istore_n [(3, .int v4.1), (0, .ref (ad a0)), (1, .int p1), (2, .int p2)] G dX12_meet_30 (by decide) rfl ?_
    refine v_iload_n G dX12_meet_31 0 rfl ?_
    refine v_if_ge 44 G dX12_meet_32 (by decide) (fun h6 => ?_) (fun h6 => ?_)
    · replace hf := (if_pos h6).symm.trans hf
      refine v_iload_n G dX12_meet_44 0 rfl ?_
      obtain rfl := Option.some.inj hf
      exact v_iret G dX12_meet_45
    · replace hf := (if_neg h6).symm.trans hf
      refine v_aload_n G dX12_meet_35 1 rfl ?_
      refine v_bipush (8 : Int32) G dX12_meet_36 (by decide) ?_
      obtain ⟨v5, hcv5⟩ : ∃ q, f_X12_refuse a0 (8 : Int32) v4.2 = q := ⟨_, rfl⟩
      replace hf := lt_e hf hcv5.symm
      refine v_callV [.int (8 : Int32)] G (c_X12_refuse h0 hcv5) h0 (by decide) rfl rfl rfl t_1926 t_1928 t_p110 t_17 t_1929 nm_X12_refuse (by decide) (by decide) rfl rfl (Nat.le_of_ble_eq_true rfl) dX12_meet_38 (kv_ri ?_)
      refine v_goto 45 G dX12_meet_41 (by decide) ?_
      obtain rfl := Option.some.inj hf
      exact v_iret G dX12_meet_45
  · replace hf := (if_neg h7).symm.trans hf
    refine v_iconst (-1 : Int32) G dX12_meet_22 (by decide) ?_
    obtain rfl := Option.some.inj hf
    exact v_iret G dX12_meet_23
abbrev cX12_meetIn : ByteArray := prog_14_method_138_code
def yX12_meetIn : MethodName := ⟨RX12, "meetIn", "(II)I"⟩
theorem dX12_meetIn_0 : dc cX12_meetIn 0 (.aload_n 0) 1 1 := ⟨by decide +kernel, rfl⟩
theorem dX12_meetIn_1 : dc cX12_meetIn 1 (.iconst 0) 1 2 := ⟨by decide +kernel, rfl⟩
theorem dX12_meetIn_2 : dc cX12_meetIn 2 (.putfield 75) 3 5 := ⟨by decide +kernel, rfl⟩
theorem dX12_meetIn_5 : dc cX12_meetIn 5 (.aload_n 0) 1 6 := ⟨by decide +kernel, rfl⟩
theorem dX12_meetIn_6 : dc cX12_meetIn 6 (.aload_n 0) 1 7 := ⟨by decide +kernel, rfl⟩
theorem dX12_meetIn_7 : dc cX12_meetIn 7 (.iload_n 1) 1 8 := ⟨by decide +kernel, rfl⟩
theorem dX12_meetIn_8 : dc cX12_meetIn 8 (.iload_n 2) 1 9 := ⟨by decide +kernel, rfl⟩
theorem dX12_meetIn_9 : dc cX12_meetIn 9 (.invokevirtual 466) 3 12 := ⟨by decide +kernel, rfl⟩
theorem dX12_meetIn_12 : dc cX12_meetIn 12 (.putfield 78) 3 15 := ⟨by decide +kernel, rfl⟩
theorem dX12_meetIn_15 : dc cX12_meetIn 15 (.aload_n 0) 1 16 := ⟨by decide +kernel, rfl⟩
theorem dX12_meetIn_16 : dc cX12_meetIn 16 (.getfield 78) 3 19 := ⟨by decide +kernel, rfl⟩
theorem dX12_meetIn_19 : dc cX12_meetIn 19 (.ifCond .le 5) 3 22 := ⟨by decide +kernel, rfl⟩
theorem dX12_meetIn_22 : dc cX12_meetIn 22 (.iconst (-1)) 1 23 := ⟨by decide +kernel, rfl⟩
theorem dX12_meetIn_23 : dc cX12_meetIn 23 (.ireturn) 1 24 := ⟨by decide +kernel, rfl⟩
theorem dX12_meetIn_24 : dc cX12_meetIn 24 (.aload_n 0) 1 25 := ⟨by decide +kernel, rfl⟩
theorem dX12_meetIn_25 : dc cX12_meetIn 25 (.iload_n 1) 1 26 := ⟨by decide +kernel, rfl⟩
theorem dX12_meetIn_26 : dc cX12_meetIn 26 (.iload_n 2) 1 27 := ⟨by decide +kernel, rfl⟩
theorem dX12_meetIn_27 : dc cX12_meetIn 27 (.invokevirtual 469) 3 30 := ⟨by decide +kernel, rfl⟩
theorem dX12_meetIn_30 : dc cX12_meetIn 30 (.istore_n 3) 1 31 := ⟨by decide +kernel, rfl⟩
theorem dX12_meetIn_31 : dc cX12_meetIn 31 (.iload_n 3) 1 32 := ⟨by decide +kernel, rfl⟩
theorem dX12_meetIn_32 : dc cX12_meetIn 32 (.ifCond .ge 12) 3 35 := ⟨by decide +kernel, rfl⟩
theorem dX12_meetIn_35 : dc cX12_meetIn 35 (.aload_n 0) 1 36 := ⟨by decide +kernel, rfl⟩
theorem dX12_meetIn_36 : dc cX12_meetIn 36 (.bipush 8) 2 38 := ⟨by decide +kernel, rfl⟩
theorem dX12_meetIn_38 : dc cX12_meetIn 38 (.invokevirtual 355) 3 41 := ⟨by decide +kernel, rfl⟩
theorem dX12_meetIn_41 : dc cX12_meetIn 41 (.goto 16) 3 44 := ⟨by decide +kernel, rfl⟩
theorem dX12_meetIn_44 : dc cX12_meetIn 44 (.aload_n 0) 1 45 := ⟨by decide +kernel, rfl⟩
theorem dX12_meetIn_45 : dc cX12_meetIn 45 (.getfield 47) 3 48 := ⟨by decide +kernel, rfl⟩
theorem dX12_meetIn_48 : dc cX12_meetIn 48 (.iload_n 3) 1 49 := ⟨by decide +kernel, rfl⟩
theorem dX12_meetIn_49 : dc cX12_meetIn 49 (.iaload) 1 50 := ⟨by decide +kernel, rfl⟩
theorem dX12_meetIn_50 : dc cX12_meetIn 50 (.aload_n 0) 1 51 := ⟨by decide +kernel, rfl⟩
theorem dX12_meetIn_51 : dc cX12_meetIn 51 (.getfield 35) 3 54 := ⟨by decide +kernel, rfl⟩
theorem dX12_meetIn_54 : dc cX12_meetIn 54 (.iconst 5) 1 55 := ⟨by decide +kernel, rfl⟩
theorem dX12_meetIn_55 : dc cX12_meetIn 55 (.iaload) 1 56 := ⟨by decide +kernel, rfl⟩
theorem dX12_meetIn_56 : dc cX12_meetIn 56 (.isub) 1 57 := ⟨by decide +kernel, rfl⟩
theorem dX12_meetIn_57 : dc cX12_meetIn 57 (.ireturn) 1 58 := ⟨by decide +kernel, rfl⟩
theorem nm_X12_meetIn : (yX12_meetIn).cls ≠ "java/lang/invoke/MethodHandle" ∧ (yX12_meetIn).cls ≠ "java/lang/invoke/VarHandle" ∧ (parseMethodDescriptor (yX12_meetIn).desc).map (fun d => d.parameters.length) = some 2 := ⟨by decide +kernel, by decide +kernel, by decide +kernel⟩
set_option maxRecDepth 100000 in
set_option maxHeartbeats 4000000 in
theorem c_X12_meetIn {l : Launch} {ad : Nat → Nat} {cy : Nat → ClassId} {D : va_G} {z : Nat} (n : Nat) {a0 : Nat} {p1 : Int32} {p2 : Int32} {M : KM} {y : (Int32 × KM)} (h0 : kty a0 = 12) (hf : f_X12_meetIn n a0 p1 p2 M = some y) : KC l ad cy D z yX12_meetIn cX12_meetIn 4 (some .int) 7 [.ref (ad a0), .int p1, .int p2] M (some (.int y.1), y.2) := by
  refine kv_enter (by decide +kernel) (Nat.le_of_ble_eq_true rfl) ?_
  intro x hl hD hz G
  subst hl hD hz
  unfold f_X12_meetIn at hf
  have G : KG ad cy x cX12_meetIn "NoonGuidesModel" 4 (some (some .int)) 7 := G
  show KV ad cy x (some (.int y.1), y.2) 0 [(0, .ref (ad a0)), (1, .int p1), (2, .int p2)] [] M
  refine v_aload_n G dX12_meetIn_0 0 rfl ?_
  refine v_iconst (0 : Int32) G dX12_meetIn_1 (by decide) ?_
  refine pf_12_1 G h0 t_1492 (Or.inl rfl) dX12_meetIn_2 ?_
  refine v_nmM (fun M1 eM1 => ?_)
  replace hf := lt_e hf eM1
  refine v_aload_n G dX12_meetIn_5 0 rfl ?_
  refine v_aload_n G dX12_meetIn_6 0 rfl ?_
  refine v_iload_n G dX12_meetIn_7 1 rfl ?_
  refine v_iload_n G dX12_meetIn_8 2 rfl ?_
  obtain ⟨v2, hcv2, hf⟩ := bd_e hf
  refine v_callV [.int p1, .int p2] G (c_X12_whyNotTwo n h0 hcv2) h0 (by decide) rfl rfl rfl t_2160 t_2162 t_p139 t_17 t_2163 nm_X12_whyNotTwo (by decide) (by decide) rfl rfl (Nat.le_of_ble_eq_true rfl) dX12_meetIn_9 (kv_ri ?_)
  refine pf_12_0 G h0 t_1491 (Or.inl rfl) dX12_meetIn_12 ?_
  refine v_nmM (fun M3 eM3 => ?_)
  replace hf := lt_e hf eM3
  refine v_aload_n G dX12_meetIn_15 0 rfl ?_
  refine gf_12_0 G h0 t_1491 (Or.inl rfl) dX12_meetIn_16 ?_
  refine v_if_le 24 G dX12_meetIn_19 (by decide) (fun h9 => ?_) (fun h9 => ?_)
  · replace hf := (if_pos h9).symm.trans hf
    refine v_aload_n G dX12_meetIn_24 0 rfl ?_
    refine v_iload_n G dX12_meetIn_25 1 rfl ?_
    refine v_iload_n G dX12_meetIn_26 2 rfl ?_
    obtain ⟨v4, hcv4, hf⟩ := bd_e hf
    refine v_callV [.int p1, .int p2] G (c_X12_meeting n h0 hcv4) h0 (by decide) rfl rfl rfl t_2168 t_2170 t_p140 t_17 t_2171 nm_X12_meeting (by decide) (by decide) rfl rfl (Nat.le_of_ble_eq_true rfl) dX12_meetIn_27 (kv_ri ?_)
    refine v_istore_n [(3, .int v4.1), (0, .ref (ad a0)), (1, .int p1), (2, .int p2)] G dX12_meetIn_30 (by decide) rfl ?_
    refine v_iload_n G dX12_meetIn_31 0 rfl ?_
    refine v_if_ge 44 G dX12_meetIn_32 (by decide) (fun h8 => ?_) (fun h8 => ?_)
    · replace hf := (if_pos h8).symm.trans hf
      refine v_aload_n G dX12_meetIn_44 1 rfl ?_
      refine gf_12_30 G h0 t_1521 (Or.inl rfl) dX12_meetIn_45 ?_
      refine v_iload_n G dX12_meetIn_48 0 rfl ?_
      obtain ⟨g5, hf⟩ := gd_e hf
      refine al_28 G (kf_12_9 h0) g5 dX12_meetIn_49 ?_
      refine v_aload_n G dX12_meetIn_50 1 rfl ?_
      refine gf_12_20 G h0 t_1511 (Or.inl rfl) dX12_meetIn_51 ?_
      refine v_iconst (5 : Int32) G dX12_meetIn_54 (by decide) ?_
      obtain ⟨g6, hf⟩ := gd_e hf
      refine al_36 G (kf_12_5 h0) g6 dX12_meetIn_55 ?_
      refine v_isub G dX12_meetIn_56 ?_
      obtain rfl := Option.some.inj hf
      exact v_iret G dX12_meetIn_57
    · replace hf := (if_neg h8).symm.trans hf
      refine v_aload_n G dX12_meetIn_35 1 rfl ?_
      refine v_bipush (8 : Int32) G dX12_meetIn_36 (by decide) ?_
      obtain ⟨v7, hcv7⟩ : ∃ q, f_X12_refuse a0 (8 : Int32) v4.2 = q := ⟨_, rfl⟩
      replace hf := lt_e hf hcv7.symm
      refine v_callV [.int (8 : Int32)] G (c_X12_refuse h0 hcv7) h0 (by decide) rfl rfl rfl t_1926 t_1928 t_p110 t_17 t_1929 nm_X12_refuse (by decide) (by decide) rfl rfl (Nat.le_of_ble_eq_true rfl) dX12_meetIn_38 (kv_ri ?_)
      refine v_goto 57 G dX12_meetIn_41 (by decide) ?_
      obtain rfl := Option.some.inj hf
      exact v_iret G dX12_meetIn_57
  · replace hf := (if_neg h9).symm.trans hf
    refine v_iconst (-1 : Int32) G dX12_meetIn_22 (by decide) ?_
    obtain rfl := Option.some.inj hf
    exact v_iret G dX12_meetIn_23
abbrev cX12_comesBy : ByteArray := prog_14_method_139_code
def yX12_comesBy : MethodName := ⟨RX12, "comesBy", "(III)Z"⟩
theorem dX12_comesBy_0 : dc cX12_comesBy 0 (.iconst 1) 1 1 := ⟨by decide +kernel, rfl⟩
theorem dX12_comesBy_1 : dc cX12_comesBy 1 (.aload_n 0) 1 2 := ⟨by decide +kernel, rfl⟩
theorem dX12_comesBy_2 : dc cX12_comesBy 2 (.getfield 35) 3 5 := ⟨by decide +kernel, rfl⟩
theorem dX12_comesBy_5 : dc cX12_comesBy 5 (.bipush 58) 2 7 := ⟨by decide +kernel, rfl⟩
theorem dX12_comesBy_7 : dc cX12_comesBy 7 (.iload_n 1) 1 8 := ⟨by decide +kernel, rfl⟩
theorem dX12_comesBy_8 : dc cX12_comesBy 8 (.iadd) 1 9 := ⟨by decide +kernel, rfl⟩
theorem dX12_comesBy_9 : dc cX12_comesBy 9 (.iaload) 1 10 := ⟨by decide +kernel, rfl⟩
theorem dX12_comesBy_10 : dc cX12_comesBy 10 (.ishl) 1 11 := ⟨by decide +kernel, rfl⟩
theorem dX12_comesBy_11 : dc cX12_comesBy 11 (.istore 4) 2 13 := ⟨by decide +kernel, rfl⟩
theorem dX12_comesBy_13 : dc cX12_comesBy 13 (.iconst 0) 1 14 := ⟨by decide +kernel, rfl⟩
theorem dX12_comesBy_14 : dc cX12_comesBy 14 (.istore 5) 2 16 := ⟨by decide +kernel, rfl⟩
theorem dX12_comesBy_16 : dc cX12_comesBy 16 (.iload 5) 2 18 := ⟨by decide +kernel, rfl⟩
theorem dX12_comesBy_18 : dc cX12_comesBy 18 (.bipush 8) 2 20 := ⟨by decide +kernel, rfl⟩
theorem dX12_comesBy_20 : dc cX12_comesBy 20 (.if_icmp .ge 114) 3 23 := ⟨by decide +kernel, rfl⟩
theorem dX12_comesBy_23 : dc cX12_comesBy 23 (.iconst 0) 1 24 := ⟨by decide +kernel, rfl⟩
theorem dX12_comesBy_24 : dc cX12_comesBy 24 (.istore 6) 2 26 := ⟨by decide +kernel, rfl⟩
theorem dX12_comesBy_26 : dc cX12_comesBy 26 (.iload 6) 2 28 := ⟨by decide +kernel, rfl⟩
theorem dX12_comesBy_28 : dc cX12_comesBy 28 (.aload_n 0) 1 29 := ⟨by decide +kernel, rfl⟩
theorem dX12_comesBy_29 : dc cX12_comesBy 29 (.getfield 35) 3 32 := ⟨by decide +kernel, rfl⟩
theorem dX12_comesBy_32 : dc cX12_comesBy 32 (.iconst 1) 1 33 := ⟨by decide +kernel, rfl⟩
theorem dX12_comesBy_33 : dc cX12_comesBy 33 (.iaload) 1 34 := ⟨by decide +kernel, rfl⟩
theorem dX12_comesBy_34 : dc cX12_comesBy 34 (.if_icmp .ge 94) 3 37 := ⟨by decide +kernel, rfl⟩
theorem dX12_comesBy_37 : dc cX12_comesBy 37 (.iload_n 3) 1 38 := ⟨by decide +kernel, rfl⟩
theorem dX12_comesBy_38 : dc cX12_comesBy 38 (.iload 6) 2 40 := ⟨by decide +kernel, rfl⟩
theorem dX12_comesBy_40 : dc cX12_comesBy 40 (.invokestatic 114) 3 43 := ⟨by decide +kernel, rfl⟩
theorem dX12_comesBy_43 : dc cX12_comesBy 43 (.ifCond .ne 13) 3 46 := ⟨by decide +kernel, rfl⟩
theorem dX12_comesBy_46 : dc cX12_comesBy 46 (.aload_n 0) 1 47 := ⟨by decide +kernel, rfl⟩
theorem dX12_comesBy_47 : dc cX12_comesBy 47 (.iload_n 1) 1 48 := ⟨by decide +kernel, rfl⟩
theorem dX12_comesBy_48 : dc cX12_comesBy 48 (.iload 6) 2 50 := ⟨by decide +kernel, rfl⟩
theorem dX12_comesBy_50 : dc cX12_comesBy 50 (.invokevirtual 411) 3 53 := ⟨by decide +kernel, rfl⟩
theorem dX12_comesBy_53 : dc cX12_comesBy 53 (.ifCond .eq 69) 3 56 := ⟨by decide +kernel, rfl⟩
theorem dX12_comesBy_56 : dc cX12_comesBy 56 (.iload 4) 2 58 := ⟨by decide +kernel, rfl⟩
theorem dX12_comesBy_58 : dc cX12_comesBy 58 (.aload_n 0) 1 59 := ⟨by decide +kernel, rfl⟩
theorem dX12_comesBy_59 : dc cX12_comesBy 59 (.getfield 35) 3 62 := ⟨by decide +kernel, rfl⟩
theorem dX12_comesBy_62 : dc cX12_comesBy 62 (.bipush 10) 2 64 := ⟨by decide +kernel, rfl⟩
theorem dX12_comesBy_64 : dc cX12_comesBy 64 (.iload 6) 2 66 := ⟨by decide +kernel, rfl⟩
theorem dX12_comesBy_66 : dc cX12_comesBy 66 (.iadd) 1 67 := ⟨by decide +kernel, rfl⟩
theorem dX12_comesBy_67 : dc cX12_comesBy 67 (.iaload) 1 68 := ⟨by decide +kernel, rfl⟩
theorem dX12_comesBy_68 : dc cX12_comesBy 68 (.invokestatic 114) 3 71 := ⟨by decide +kernel, rfl⟩
theorem dX12_comesBy_71 : dc cX12_comesBy 71 (.ifCond .ne 21) 3 74 := ⟨by decide +kernel, rfl⟩
theorem dX12_comesBy_74 : dc cX12_comesBy 74 (.iload 4) 2 76 := ⟨by decide +kernel, rfl⟩
theorem dX12_comesBy_76 : dc cX12_comesBy 76 (.aload_n 0) 1 77 := ⟨by decide +kernel, rfl⟩
theorem dX12_comesBy_77 : dc cX12_comesBy 77 (.getfield 35) 3 80 := ⟨by decide +kernel, rfl⟩
theorem dX12_comesBy_80 : dc cX12_comesBy 80 (.bipush 22) 2 82 := ⟨by decide +kernel, rfl⟩
theorem dX12_comesBy_82 : dc cX12_comesBy 82 (.iload 6) 2 84 := ⟨by decide +kernel, rfl⟩
theorem dX12_comesBy_84 : dc cX12_comesBy 84 (.iadd) 1 85 := ⟨by decide +kernel, rfl⟩
theorem dX12_comesBy_85 : dc cX12_comesBy 85 (.iaload) 1 86 := ⟨by decide +kernel, rfl⟩
theorem dX12_comesBy_86 : dc cX12_comesBy 86 (.invokestatic 114) 3 89 := ⟨by decide +kernel, rfl⟩
theorem dX12_comesBy_89 : dc cX12_comesBy 89 (.ifCond .eq 33) 3 92 := ⟨by decide +kernel, rfl⟩
theorem dX12_comesBy_92 : dc cX12_comesBy 92 (.iload 4) 2 94 := ⟨by decide +kernel, rfl⟩
theorem dX12_comesBy_94 : dc cX12_comesBy 94 (.iconst 1) 1 95 := ⟨by decide +kernel, rfl⟩
theorem dX12_comesBy_95 : dc cX12_comesBy 95 (.aload_n 0) 1 96 := ⟨by decide +kernel, rfl⟩
theorem dX12_comesBy_96 : dc cX12_comesBy 96 (.getfield 35) 3 99 := ⟨by decide +kernel, rfl⟩
theorem dX12_comesBy_99 : dc cX12_comesBy 99 (.bipush 10) 2 101 := ⟨by decide +kernel, rfl⟩
theorem dX12_comesBy_101 : dc cX12_comesBy 101 (.iload 6) 2 103 := ⟨by decide +kernel, rfl⟩
theorem dX12_comesBy_103 : dc cX12_comesBy 103 (.iadd) 1 104 := ⟨by decide +kernel, rfl⟩
theorem dX12_comesBy_104 : dc cX12_comesBy 104 (.iaload) 1 105 := ⟨by decide +kernel, rfl⟩
theorem dX12_comesBy_105 : dc cX12_comesBy 105 (.ishl) 1 106 := ⟨by decide +kernel, rfl⟩
theorem dX12_comesBy_106 : dc cX12_comesBy 106 (.iconst 1) 1 107 := ⟨by decide +kernel, rfl⟩
theorem dX12_comesBy_107 : dc cX12_comesBy 107 (.aload_n 0) 1 108 := ⟨by decide +kernel, rfl⟩
theorem dX12_comesBy_108 : dc cX12_comesBy 108 (.getfield 35) 3 111 := ⟨by decide +kernel, rfl⟩
theorem dX12_comesBy_111 : dc cX12_comesBy 111 (.bipush 22) 2 113 := ⟨by decide +kernel, rfl⟩
theorem dX12_comesBy_113 : dc cX12_comesBy 113 (.iload 6) 2 115 := ⟨by decide +kernel, rfl⟩
theorem dX12_comesBy_115 : dc cX12_comesBy 115 (.iadd) 1 116 := ⟨by decide +kernel, rfl⟩
theorem dX12_comesBy_116 : dc cX12_comesBy 116 (.iaload) 1 117 := ⟨by decide +kernel, rfl⟩
theorem dX12_comesBy_117 : dc cX12_comesBy 117 (.ishl) 1 118 := ⟨by decide +kernel, rfl⟩
theorem dX12_comesBy_118 : dc cX12_comesBy 118 (.ior) 1 119 := ⟨by decide +kernel, rfl⟩
theorem dX12_comesBy_119 : dc cX12_comesBy 119 (.ior) 1 120 := ⟨by decide +kernel, rfl⟩
theorem dX12_comesBy_120 : dc cX12_comesBy 120 (.istore 4) 2 122 := ⟨by decide +kernel, rfl⟩
theorem dX12_comesBy_122 : dc cX12_comesBy 122 (.iinc 6 1) 3 125 := ⟨by decide +kernel, rfl⟩
theorem dX12_comesBy_125 : dc cX12_comesBy 125 (.goto (-99)) 3 128 := ⟨by decide +kernel, rfl⟩
theorem dX12_comesBy_128 : dc cX12_comesBy 128 (.iinc 5 1) 3 131 := ⟨by decide +kernel, rfl⟩
theorem dX12_comesBy_131 : dc cX12_comesBy 131 (.goto (-115)) 3 134 := ⟨by decide +kernel, rfl⟩
theorem dX12_comesBy_134 : dc cX12_comesBy 134 (.iload 4) 2 136 := ⟨by decide +kernel, rfl⟩
theorem dX12_comesBy_136 : dc cX12_comesBy 136 (.iload_n 2) 1 137 := ⟨by decide +kernel, rfl⟩
theorem dX12_comesBy_137 : dc cX12_comesBy 137 (.invokestatic 114) 3 140 := ⟨by decide +kernel, rfl⟩
theorem dX12_comesBy_140 : dc cX12_comesBy 140 (.ireturn) 1 141 := ⟨by decide +kernel, rfl⟩
theorem nm_X12_comesBy : (yX12_comesBy).cls ≠ "java/lang/invoke/MethodHandle" ∧ (yX12_comesBy).cls ≠ "java/lang/invoke/VarHandle" ∧ (parseMethodDescriptor (yX12_comesBy).desc).map (fun d => d.parameters.length) = some 3 := ⟨by decide +kernel, by decide +kernel, by decide +kernel⟩
theorem zs_X12_comesBy_26 {a0 : Nat} {c1 : Int32} {c2 : Int32} {c3 : Int32} {c5 : Int32} {M : KM} {k128 : Int32 → Option Int32} {y : Int32} (hk128 : ∀ (u4 : Int32), k128 u4 = some y → (y = 0 ∨ y = 1)) : ∀ (n : Nat) (w4 : Int32) (w6 : Int32), lp_X12_comesBy_26 n a0 c1 c2 c3 c5 M w4 w6 k128 = some y → (y = 0 ∨ y = 1) := by
  intro n
  induction n with
  | zero =>
    intro w4 w6 hf
    cases hf
  | succ n ih =>
    intro w4 w6 hf
    rw [lp_X12_comesBy_26] at hf
    obtain ⟨g3, hf⟩ := gd_e hf
    by_cases h19 : (M.1 (a0 + 5) ((1 : Int32)).toNatClampNeg) ≤ w6
    · replace hf := (if_pos h19).symm.trans hf
      exact hk128 w4 hf
    · replace hf := (if_neg h19).symm.trans hf
      obtain ⟨v4, hcv4⟩ : ∃ q, f_X12_has c3 w6 M = q := ⟨_, rfl⟩
      replace hf := lt_e hf hcv4.symm
      obtain ⟨j122, ej122, hf⟩ := lt_j hf
      have hj122 : ∀ (x5 : Int32), j122 x5 = some y → (y = 0 ∨ y = 1) := by
        intro x5 hf
        rw [ej122] at hf
        obtain ⟨v6, ev6⟩ : ∃ q : Int32, q = w6 + (1 : Int32) := ⟨_, rfl⟩
        replace hf := lt_e hf ev6
        exact ih x5 v6 hf
      obtain ⟨j56, ej56, hf⟩ := lt_j hf
      have hj56 : j56 = some y → (y = 0 ∨ y = 1) := by
        intro hf
        rw [ej56] at hf
        obtain ⟨g7, hf⟩ := gd_e hf
        obtain ⟨v8, hcv8⟩ : ∃ q, f_X12_has w4 (M.1 (a0 + 5) (((10 : Int32) + w6)).toNatClampNeg) M = q := ⟨_, rfl⟩
        replace hf := lt_e hf hcv8.symm
        obtain ⟨j92, ej92, hf⟩ := lt_j hf
        have hj92 : j92 = some y → (y = 0 ∨ y = 1) := by
          intro hf
          rw [ej92] at hf
          obtain ⟨g9, hf⟩ := gd_e hf
          obtain ⟨g10, hf⟩ := gd_e hf
          obtain ⟨v11, ev11⟩ : ∃ q, q = ((w4 ||| (((1 : Int32) <<< ((M.1 (a0 + 5) (((10 : Int32) + w6)).toNatClampNeg) &&& 31)) ||| ((1 : Int32) <<< ((M.1 (a0 + 5) (((22 : Int32) + w6)).toNatClampNeg) &&& 31)))) : Int32) := ⟨_, rfl⟩
          replace hf := lt_e hf ev11
          exact hj122 v11 hf
        by_cases h15 : v8 = 0
        · replace hf := (if_pos h15).symm.trans hf
          obtain ⟨g12, hf⟩ := gd_e hf
          obtain ⟨v13, hcv13⟩ : ∃ q, f_X12_has w4 (M.1 (a0 + 5) (((22 : Int32) + w6)).toNatClampNeg) M = q := ⟨_, rfl⟩
          replace hf := lt_e hf hcv13.symm
          by_cases h14 : v13 = 0
          · replace hf := (if_pos h14).symm.trans hf
            exact hj122 w4 hf
          · replace hf := (if_neg h14).symm.trans hf
            exact hj92 hf
        · replace hf := (if_neg h15).symm.trans hf
          exact hj92 hf
      by_cases h18 : v4 = 0
      · replace hf := (if_pos h18).symm.trans hf
        obtain ⟨v16, hcv16, hf⟩ := bd_e hf
        by_cases h17 : v16 = 0
        · replace hf := (if_pos h17).symm.trans hf
          exact hj122 w4 hf
        · replace hf := (if_neg h17).symm.trans hf
          exact hj56 hf
      · replace hf := (if_neg h18).symm.trans hf
        exact hj56 hf
theorem zs_X12_comesBy_16 {a0 : Nat} {c1 : Int32} {c2 : Int32} {c3 : Int32} {M : KM} {k134 : Int32 → Option Int32} {y : Int32} (hk134 : ∀ (u4 : Int32), k134 u4 = some y → (y = 0 ∨ y = 1)) : ∀ (n : Nat) (w4 : Int32) (w5 : Int32), lp_X12_comesBy_16 n a0 c1 c2 c3 M w4 w5 k134 = some y → (y = 0 ∨ y = 1) := by
  intro n
  induction n with
  | zero =>
    intro w4 w5 hf
    cases hf
  | succ n ih =>
    intro w4 w5 hf
    rw [lp_X12_comesBy_16] at hf
    by_cases h22 : (8 : Int32) ≤ w5
    · replace hf := (if_pos h22).symm.trans hf
      exact hk134 w4 hf
    · replace hf := (if_neg h22).symm.trans hf
      refine zs_X12_comesBy_26 (fun u20 hf => ?_) n w4 (0 : Int32) hf
      · obtain ⟨v21, ev21⟩ : ∃ q : Int32, q = w5 + (1 : Int32) := ⟨_, rfl⟩
        replace hf := lt_e hf ev21
        exact ih u20 v21 hf
set_option maxRecDepth 100000 in
theorem z_X12_comesBy (n : Nat) {a0 : Nat} {p1 : Int32} {p2 : Int32} {p3 : Int32} {M : KM} {y : Int32} (hf : f_X12_comesBy n a0 p1 p2 p3 M = some y) : (y = 0 ∨ y = 1) := by
  unfold f_X12_comesBy at hf
  obtain ⟨g1, hf⟩ := gd_e hf
  obtain ⟨v2, ev2⟩ : ∃ q, q = (((1 : Int32) <<< ((M.1 (a0 + 5) (((58 : Int32) + p1)).toNatClampNeg) &&& 31)) : Int32) := ⟨_, rfl⟩
  replace hf := lt_e hf ev2
  refine zs_X12_comesBy_16 (fun u23 hf => ?_) n v2 (0 : Int32) hf
  · obtain ⟨v24, hcv24⟩ : ∃ q, f_X12_has u23 p2 M = q := ⟨_, rfl⟩
    replace hf := lt_e hf hcv24.symm
    obtain rfl := Option.some.inj hf
    exact (z_X12_has hcv24)
set_option maxRecDepth 100000 in
set_option maxHeartbeats 4000000 in
theorem s_X12_comesBy_26 {ad : Nat → Nat} {cy : Nat → ClassId} {x : KX} (G : KG ad cy x cX12_comesBy "NoonGuidesModel" 7 (some (some .boolean)) 3) {a0 : Nat} {c1 : Int32} {c2 : Int32} {c3 : Int32} {c5 : Int32} {M : KM} (h0 : kty a0 = 12) {k128 : Int32 → Option Int32} {y : Int32} (hk128 : ∀ (u4 : Int32), k128 u4 = some y → KV ad cy x (some (.int y), M) 128 [(0, .ref (ad a0)), (1, .int c1), (2, .int c2), (3, .int c3), (4, .int u4), (5, .int c5)] [] M) : ∀ (n : Nat) (w4 : Int32) (w6 : Int32), lp_X12_comesBy_26 n a0 c1 c2 c3 c5 M w4 w6 k128 = some y → KV ad cy x (some (.int y), M) 26 [(0, .ref (ad a0)), (1, .int c1), (2, .int c2), (3, .int c3), (4, .int w4), (5, .int c5), (6, .int w6)] [] M := by
  intro n
  induction n with
  | zero =>
    intro w4 w6 hf
    cases hf
  | succ n ih =>
    intro w4 w6 hf
    rw [lp_X12_comesBy_26] at hf
    refine v_iload G dX12_comesBy_26 6 rfl ?_
    refine v_aload_n G dX12_comesBy_28 0 rfl ?_
    refine gf_12_20 G h0 t_1511 (Or.inl rfl) dX12_comesBy_29 ?_
    refine v_iconst (1 : Int32) G dX12_comesBy_32 (by decide) ?_
    obtain ⟨g3, hf⟩ := gd_e hf
    refine al_36 G (kf_12_5 h0) g3 dX12_comesBy_33 ?_
    refine v_icmp_ge 128 G dX12_comesBy_34 (by decide) (fun h19 => ?_) (fun h19 => ?_)
    · replace hf := (if_pos h19).symm.trans hf
      refine v_sub _ [0, 1, 2, 3, 4, 5] rfl ?_
      exact hk128 w4 hf
    · replace hf := (if_neg h19).symm.trans hf
      refine v_iload_n G dX12_comesBy_37 3 rfl ?_
      refine v_iload G dX12_comesBy_38 6 rfl ?_
      obtain ⟨v4, hcv4⟩ : ∃ q, f_X12_has c3 w6 M = q := ⟨_, rfl⟩
      replace hf := lt_e hf hcv4.symm
      refine v_callS [.int c3, .int w6] G (c_X12_has hcv4) t_1740 t_1741 t_17 t_1742 nm_X12_has (by decide) (by decide) rfl rfl (Nat.le_of_ble_eq_true rfl) dX12_comesBy_40 (kv_ri ?_)
      obtain ⟨j122, ej122, hf⟩ := lt_j hf
      have hj122 : ∀ (x5 : Int32), j122 x5 = some y → KV ad cy x (some (.int y), M) 122 [(0, .ref (ad a0)), (1, .int c1), (2, .int c2), (3, .int c3), (4, .int x5), (5, .int c5), (6, .int w6)] [] M := by
        intro x5 hf
        rw [ej122] at hf
        obtain ⟨v6, ev6⟩ : ∃ q : Int32, q = w6 + (1 : Int32) := ⟨_, rfl⟩
        replace hf := lt_e hf ev6
        refine v_iinc v6 [(6, .int v6), (0, .ref (ad a0)), (1, .int c1), (2, .int c2), (3, .int c3), (4, .int x5), (5, .int c5)] G dX12_comesBy_122 6 rfl (by rw [ev6]; rfl) (by decide) rfl ?_
        refine v_goto 26 G dX12_comesBy_125 (by decide) ?_
        refine v_sub _ [1, 2, 3, 4, 5, 6, 0] rfl ?_
        exact ih x5 v6 hf
      obtain ⟨j56, ej56, hf⟩ := lt_j hf
      have hj56 : j56 = some y → KV ad cy x (some (.int y), M) 56 [(0, .ref (ad a0)), (1, .int c1), (2, .int c2), (3, .int c3), (4, .int w4), (5, .int c5), (6, .int w6)] [] M := by
        intro hf
        rw [ej56] at hf
        refine v_iload G dX12_comesBy_56 4 rfl ?_
        refine v_aload_n G dX12_comesBy_58 0 rfl ?_
        refine gf_12_20 G h0 t_1511 (Or.inl rfl) dX12_comesBy_59 ?_
        refine v_bipush (10 : Int32) G dX12_comesBy_62 (by decide) ?_
        refine v_iload G dX12_comesBy_64 6 rfl ?_
        refine v_iadd G dX12_comesBy_66 ?_
        obtain ⟨g7, hf⟩ := gd_e hf
        refine al_36 G (kf_12_5 h0) g7 dX12_comesBy_67 ?_
        obtain ⟨v8, hcv8⟩ : ∃ q, f_X12_has w4 (M.1 (a0 + 5) (((10 : Int32) + w6)).toNatClampNeg) M = q := ⟨_, rfl⟩
        replace hf := lt_e hf hcv8.symm
        refine v_callS [.int w4, .int (M.1 (a0 + 5) (((10 : Int32) + w6)).toNatClampNeg)] G (c_X12_has hcv8) t_1740 t_1741 t_17 t_1742 nm_X12_has (by decide) (by decide) rfl rfl (Nat.le_of_ble_eq_true rfl) dX12_comesBy_68 (kv_ri ?_)
        obtain ⟨j92, ej92, hf⟩ := lt_j hf
        have hj92 : j92 = some y → KV ad cy x (some (.int y), M) 92 [(0, .ref (ad a0)), (1, .int c1), (2, .int c2), (3, .int c3), (4, .int w4), (5, .int c5), (6, .int w6)] [] M := by
          intro hf
          rw [ej92] at hf
          refine v_iload G dX12_comesBy_92 4 rfl ?_
          refine v_iconst (1 : Int32) G dX12_comesBy_94 (by decide) ?_
          refine v_aload_n G dX12_comesBy_95 0 rfl ?_
          refine gf_12_20 G h0 t_1511 (Or.inl rfl) dX12_comesBy_96 ?_
          refine v_bipush (10 : Int32) G dX12_comesBy_99 (by decide) ?_
          refine v_iload G dX12_comesBy_101 6 rfl ?_
          refine v_iadd G dX12_comesBy_103 ?_
          obtain ⟨g9, hf⟩ := gd_e hf
          refine al_36 G (kf_12_5 h0) g9 dX12_comesBy_104 ?_
          refine v_ishl G dX12_comesBy_105 ?_
          refine v_iconst (1 : Int32) G dX12_comesBy_106 (by decide) ?_
          refine v_aload_n G dX12_comesBy_107 0 rfl ?_
          refine gf_12_20 G h0 t_1511 (Or.inl rfl) dX12_comesBy_108 ?_
          refine v_bipush (22 : Int32) G dX12_comesBy_111 (by decide) ?_
          refine v_iload G dX12_comesBy_113 6 rfl ?_
          refine v_iadd G dX12_comesBy_115 ?_
          obtain ⟨g10, hf⟩ := gd_e hf
          refine al_36 G (kf_12_5 h0) g10 dX12_comesBy_116 ?_
          refine v_ishl G dX12_comesBy_117 ?_
          refine v_ior G dX12_comesBy_118 ?_
          refine v_ior G dX12_comesBy_119 ?_
          refine v_nmi (fun v11 ev11 => ?_)
          replace hf := lt_e hf ev11
          refine v_istore [(4, .int v11), (0, .ref (ad a0)), (1, .int c1), (2, .int c2), (3, .int c3), (5, .int c5), (6, .int w6)] G dX12_comesBy_120 (by decide) rfl ?_
          refine v_sub _ [1, 2, 3, 4, 0, 5, 6] rfl ?_
          exact hj122 v11 hf
        refine v_if_ne 92 G dX12_comesBy_71 (by decide) (fun h15 => ?_) (fun h15 => ?_)
        · replace hf := (if_neg h15).symm.trans hf
          refine v_sub _ [0, 1, 2, 3, 4, 5, 6] rfl ?_
          exact hj92 hf
        · replace hf := (if_pos h15).symm.trans hf
          refine v_iload G dX12_comesBy_74 4 rfl ?_
          refine v_aload_n G dX12_comesBy_76 0 rfl ?_
          refine gf_12_20 G h0 t_1511 (Or.inl rfl) dX12_comesBy_77 ?_
          refine v_bipush (22 : Int32) G dX12_comesBy_80 (by decide) ?_
          refine v_iload G dX12_comesBy_82 6 rfl ?_
          refine v_iadd G dX12_comesBy_84 ?_
          obtain ⟨g12, hf⟩ := gd_e hf
          refine al_36 G (kf_12_5 h0) g12 dX12_comesBy_85 ?_
          obtain ⟨v13, hcv13⟩ : ∃ q, f_X12_has w4 (M.1 (a0 + 5) (((22 : Int32) + w6)).toNatClampNeg) M = q := ⟨_, rfl⟩
          replace hf := lt_e hf hcv13.symm
          refine v_callS [.int w4, .int (M.1 (a0 + 5) (((22 : Int32) + w6)).toNatClampNeg)] G (c_X12_has hcv13) t_1740 t_1741 t_17 t_1742 nm_X12_has (by decide) (by decide) rfl rfl (Nat.le_of_ble_eq_true rfl) dX12_comesBy_86 (kv_ri ?_)
          refine v_if_eq 122 G dX12_comesBy_89 (by decide) (fun h14 => ?_) (fun h14 => ?_)
          · replace hf := (if_pos h14).symm.trans hf
            refine v_sub _ [0, 1, 2, 3, 4, 5, 6] rfl ?_
            exact hj122 w4 hf
          · replace hf := (if_neg h14).symm.trans hf
            refine v_sub _ [0, 1, 2, 3, 4, 5, 6] rfl ?_
            exact hj92 hf
      refine v_if_ne 56 G dX12_comesBy_43 (by decide) (fun h18 => ?_) (fun h18 => ?_)
      · replace hf := (if_neg h18).symm.trans hf
        refine v_sub _ [0, 1, 2, 3, 4, 5, 6] rfl ?_
        exact hj56 hf
      · replace hf := (if_pos h18).symm.trans hf
        refine v_aload_n G dX12_comesBy_46 0 rfl ?_
        refine v_iload_n G dX12_comesBy_47 1 rfl ?_
        refine v_iload G dX12_comesBy_48 6 rfl ?_
        obtain ⟨v16, hcv16, hf⟩ := bd_e hf
        refine v_callV [.int c1, .int w6] G (c_X12_canNow n h0 hcv16) h0 (by decide) rfl rfl rfl t_2039 t_2041 t_p128 t_17 t_2042 nm_X12_canNow (by decide) (by decide) rfl rfl (Nat.le_of_ble_eq_true rfl) dX12_comesBy_50 (kv_ri ?_)
        refine v_if_eq 122 G dX12_comesBy_53 (by decide) (fun h17 => ?_) (fun h17 => ?_)
        · replace hf := (if_pos h17).symm.trans hf
          refine v_sub _ [0, 1, 2, 3, 4, 5, 6] rfl ?_
          exact hj122 w4 hf
        · replace hf := (if_neg h17).symm.trans hf
          refine v_sub _ [0, 1, 2, 3, 4, 5, 6] rfl ?_
          exact hj56 hf
set_option maxRecDepth 100000 in
set_option maxHeartbeats 4000000 in
theorem s_X12_comesBy_16 {ad : Nat → Nat} {cy : Nat → ClassId} {x : KX} (G : KG ad cy x cX12_comesBy "NoonGuidesModel" 7 (some (some .boolean)) 3) {a0 : Nat} {c1 : Int32} {c2 : Int32} {c3 : Int32} {M : KM} (h0 : kty a0 = 12) {k134 : Int32 → Option Int32} {y : Int32} (hk134 : ∀ (u4 : Int32), k134 u4 = some y → KV ad cy x (some (.int y), M) 134 [(2, .int c2), (4, .int u4)] [] M) : ∀ (n : Nat) (w4 : Int32) (w5 : Int32), lp_X12_comesBy_16 n a0 c1 c2 c3 M w4 w5 k134 = some y → KV ad cy x (some (.int y), M) 16 [(0, .ref (ad a0)), (1, .int c1), (2, .int c2), (3, .int c3), (4, .int w4), (5, .int w5)] [] M := by
  intro n
  induction n with
  | zero =>
    intro w4 w5 hf
    cases hf
  | succ n ih =>
    intro w4 w5 hf
    rw [lp_X12_comesBy_16] at hf
    refine v_iload G dX12_comesBy_16 5 rfl ?_
    refine v_bipush (8 : Int32) G dX12_comesBy_18 (by decide) ?_
    refine v_icmp_ge 134 G dX12_comesBy_20 (by decide) (fun h22 => ?_) (fun h22 => ?_)
    · replace hf := (if_pos h22).symm.trans hf
      refine v_sub _ [2, 4] rfl ?_
      exact hk134 w4 hf
    · replace hf := (if_neg h22).symm.trans hf
      refine v_iconst (0 : Int32) G dX12_comesBy_23 (by decide) ?_
      refine v_istore [(6, .int (0 : Int32)), (0, .ref (ad a0)), (1, .int c1), (2, .int c2), (3, .int c3), (4, .int w4), (5, .int w5)] G dX12_comesBy_24 (by decide) rfl ?_
      refine v_sub _ [1, 2, 3, 4, 5, 6, 0] rfl ?_
      refine s_X12_comesBy_26 G h0 (fun u20 hf => ?_) n w4 (0 : Int32) hf
      · obtain ⟨v21, ev21⟩ : ∃ q : Int32, q = w5 + (1 : Int32) := ⟨_, rfl⟩
        replace hf := lt_e hf ev21
        refine v_iinc v21 [(5, .int v21), (0, .ref (ad a0)), (1, .int c1), (2, .int c2), (3, .int c3), (4, .int u20)] G dX12_comesBy_128 5 rfl (by rw [ev21]; rfl) (by decide) rfl ?_
        refine v_goto 16 G dX12_comesBy_131 (by decide) ?_
        refine v_sub _ [1, 2, 3, 4, 5, 0] rfl ?_
        exact ih u20 v21 hf
set_option maxRecDepth 100000 in
set_option maxHeartbeats 4000000 in
theorem c_X12_comesBy {l : Launch} {ad : Nat → Nat} {cy : Nat → ClassId} {D : va_G} {z : Nat} (n : Nat) {a0 : Nat} {p1 : Int32} {p2 : Int32} {p3 : Int32} {M : KM} {y : Int32} (h0 : kty a0 = 12) (hf : f_X12_comesBy n a0 p1 p2 p3 M = some y) : KC l ad cy D z yX12_comesBy cX12_comesBy 7 (some .boolean) 3 [.ref (ad a0), .int p1, .int p2, .int p3] M (some (.int y), M) := by
  refine kv_enter (by decide +kernel) (Nat.le_of_ble_eq_true rfl) ?_
  intro x hl hD hz G
  subst hl hD hz
  unfold f_X12_comesBy at hf
  have G : KG ad cy x cX12_comesBy "NoonGuidesModel" 7 (some (some .boolean)) 3 := G
  show KV ad cy x (some (.int y), M) 0 [(0, .ref (ad a0)), (1, .int p1), (2, .int p2), (3, .int p3)] [] M
  refine v_iconst (1 : Int32) G dX12_comesBy_0 (by decide) ?_
  refine v_aload_n G dX12_comesBy_1 0 rfl ?_
  refine gf_12_20 G h0 t_1511 (Or.inl rfl) dX12_comesBy_2 ?_
  refine v_bipush (58 : Int32) G dX12_comesBy_5 (by decide) ?_
  refine v_iload_n G dX12_comesBy_7 1 rfl ?_
  refine v_iadd G dX12_comesBy_8 ?_
  obtain ⟨g1, hf⟩ := gd_e hf
  refine al_36 G (kf_12_5 h0) g1 dX12_comesBy_9 ?_
  refine v_ishl G dX12_comesBy_10 ?_
  refine v_nmi (fun v2 ev2 => ?_)
  replace hf := lt_e hf ev2
  refine v_istore [(4, .int v2), (0, .ref (ad a0)), (1, .int p1), (2, .int p2), (3, .int p3)] G dX12_comesBy_11 (by decide) rfl ?_
  refine v_iconst (0 : Int32) G dX12_comesBy_13 (by decide) ?_
  refine v_istore [(5, .int (0 : Int32)), (4, .int v2), (0, .ref (ad a0)), (1, .int p1), (2, .int p2), (3, .int p3)] G dX12_comesBy_14 (by decide) rfl ?_
  refine v_sub _ [2, 3, 4, 5, 1, 0] rfl ?_
  refine s_X12_comesBy_16 G h0 (fun u23 hf => ?_) n v2 (0 : Int32) hf
  · refine v_iload G dX12_comesBy_134 1 rfl ?_
    refine v_iload_n G dX12_comesBy_136 0 rfl ?_
    obtain ⟨v24, hcv24⟩ : ∃ q, f_X12_has u23 p2 M = q := ⟨_, rfl⟩
    replace hf := lt_e hf hcv24.symm
    refine v_callS [.int u23, .int p2] G (c_X12_has hcv24) t_1740 t_1741 t_17 t_1742 nm_X12_has (by decide) (by decide) rfl rfl (Nat.le_of_ble_eq_true rfl) dX12_comesBy_137 (kv_ri ?_)
    obtain rfl := Option.some.inj hf
    exact v_zret G (z_X12_has hcv24) dX12_comesBy_140
