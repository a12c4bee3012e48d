abbrev cX12_roadBy : ByteArray := prog_14_method_67_code
def yX12_roadBy : MethodName := ⟨RX12, "roadBy", "(III)I"⟩
theorem dX12_roadBy_0 : dc cX12_roadBy 0 (.sipush 562) 3 3 := ⟨by decide +kernel, rfl⟩
theorem dX12_roadBy_3 : dc cX12_roadBy 3 (.iload_n 1) 1 4 := ⟨by decide +kernel, rfl⟩
theorem dX12_roadBy_4 : dc cX12_roadBy 4 (.imul) 1 5 := ⟨by decide +kernel, rfl⟩
theorem dX12_roadBy_5 : dc cX12_roadBy 5 (.istore 4) 2 7 := ⟨by decide +kernel, rfl⟩
theorem dX12_roadBy_7 : dc cX12_roadBy 7 (.iconst 0) 1 8 := ⟨by decide +kernel, rfl⟩
theorem dX12_roadBy_8 : dc cX12_roadBy 8 (.istore 5) 2 10 := ⟨by decide +kernel, rfl⟩
theorem dX12_roadBy_10 : dc cX12_roadBy 10 (.iload 5) 2 12 := ⟨by decide +kernel, rfl⟩
theorem dX12_roadBy_12 : dc cX12_roadBy 12 (.aload_n 0) 1 13 := ⟨by decide +kernel, rfl⟩
theorem dX12_roadBy_13 : dc cX12_roadBy 13 (.getfield 35) 3 16 := ⟨by decide +kernel, rfl⟩
theorem dX12_roadBy_16 : dc cX12_roadBy 16 (.iload 4) 2 18 := ⟨by decide +kernel, rfl⟩
theorem dX12_roadBy_18 : dc cX12_roadBy 18 (.iconst 1) 1 19 := ⟨by decide +kernel, rfl⟩
theorem dX12_roadBy_19 : dc cX12_roadBy 19 (.iadd) 1 20 := ⟨by decide +kernel, rfl⟩
theorem dX12_roadBy_20 : dc cX12_roadBy 20 (.iaload) 1 21 := ⟨by decide +kernel, rfl⟩
theorem dX12_roadBy_21 : dc cX12_roadBy 21 (.if_icmp .ge 80) 3 24 := ⟨by decide +kernel, rfl⟩
theorem dX12_roadBy_24 : dc cX12_roadBy 24 (.aload_n 0) 1 25 := ⟨by decide +kernel, rfl⟩
theorem dX12_roadBy_25 : dc cX12_roadBy 25 (.getfield 35) 3 28 := ⟨by decide +kernel, rfl⟩
theorem dX12_roadBy_28 : dc cX12_roadBy 28 (.iload 4) 2 30 := ⟨by decide +kernel, rfl⟩
theorem dX12_roadBy_30 : dc cX12_roadBy 30 (.bipush 10) 2 32 := ⟨by decide +kernel, rfl⟩
theorem dX12_roadBy_32 : dc cX12_roadBy 32 (.iadd) 1 33 := ⟨by decide +kernel, rfl⟩
theorem dX12_roadBy_33 : dc cX12_roadBy 33 (.iload 5) 2 35 := ⟨by decide +kernel, rfl⟩
theorem dX12_roadBy_35 : dc cX12_roadBy 35 (.iadd) 1 36 := ⟨by decide +kernel, rfl⟩
theorem dX12_roadBy_36 : dc cX12_roadBy 36 (.iaload) 1 37 := ⟨by decide +kernel, rfl⟩
theorem dX12_roadBy_37 : dc cX12_roadBy 37 (.iload_n 2) 1 38 := ⟨by decide +kernel, rfl⟩
theorem dX12_roadBy_38 : dc cX12_roadBy 38 (.if_icmp .ne 20) 3 41 := ⟨by decide +kernel, rfl⟩
theorem dX12_roadBy_41 : dc cX12_roadBy 41 (.aload_n 0) 1 42 := ⟨by decide +kernel, rfl⟩
theorem dX12_roadBy_42 : dc cX12_roadBy 42 (.getfield 35) 3 45 := ⟨by decide +kernel, rfl⟩
theorem dX12_roadBy_45 : dc cX12_roadBy 45 (.iload 4) 2 47 := ⟨by decide +kernel, rfl⟩
theorem dX12_roadBy_47 : dc cX12_roadBy 47 (.bipush 22) 2 49 := ⟨by decide +kernel, rfl⟩
theorem dX12_roadBy_49 : dc cX12_roadBy 49 (.iadd) 1 50 := ⟨by decide +kernel, rfl⟩
theorem dX12_roadBy_50 : dc cX12_roadBy 50 (.iload 5) 2 52 := ⟨by decide +kernel, rfl⟩
theorem dX12_roadBy_52 : dc cX12_roadBy 52 (.iadd) 1 53 := ⟨by decide +kernel, rfl⟩
theorem dX12_roadBy_53 : dc cX12_roadBy 53 (.iaload) 1 54 := ⟨by decide +kernel, rfl⟩
theorem dX12_roadBy_54 : dc cX12_roadBy 54 (.iload_n 3) 1 55 := ⟨by decide +kernel, rfl⟩
theorem dX12_roadBy_55 : dc cX12_roadBy 55 (.if_icmp .eq 37) 3 58 := ⟨by decide +kernel, rfl⟩
theorem dX12_roadBy_58 : dc cX12_roadBy 58 (.aload_n 0) 1 59 := ⟨by decide +kernel, rfl⟩
theorem dX12_roadBy_59 : dc cX12_roadBy 59 (.getfield 35) 3 62 := ⟨by decide +kernel, rfl⟩
theorem dX12_roadBy_62 : dc cX12_roadBy 62 (.iload 4) 2 64 := ⟨by decide +kernel, rfl⟩
theorem dX12_roadBy_64 : dc cX12_roadBy 64 (.bipush 10) 2 66 := ⟨by decide +kernel, rfl⟩
theorem dX12_roadBy_66 : dc cX12_roadBy 66 (.iadd) 1 67 := ⟨by decide +kernel, rfl⟩
theorem dX12_roadBy_67 : dc cX12_roadBy 67 (.iload 5) 2 69 := ⟨by decide +kernel, rfl⟩
theorem dX12_roadBy_69 : dc cX12_roadBy 69 (.iadd) 1 70 := ⟨by decide +kernel, rfl⟩
theorem dX12_roadBy_70 : dc cX12_roadBy 70 (.iaload) 1 71 := ⟨by decide +kernel, rfl⟩
theorem dX12_roadBy_71 : dc cX12_roadBy 71 (.iload_n 3) 1 72 := ⟨by decide +kernel, rfl⟩
theorem dX12_roadBy_72 : dc cX12_roadBy 72 (.if_icmp .ne 23) 3 75 := ⟨by decide +kernel, rfl⟩
theorem dX12_roadBy_75 : dc cX12_roadBy 75 (.aload_n 0) 1 76 := ⟨by decide +kernel, rfl⟩
theorem dX12_roadBy_76 : dc cX12_roadBy 76 (.getfield 35) 3 79 := ⟨by decide +kernel, rfl⟩
theorem dX12_roadBy_79 : dc cX12_roadBy 79 (.iload 4) 2 81 := ⟨by decide +kernel, rfl⟩
theorem dX12_roadBy_81 : dc cX12_roadBy 81 (.bipush 22) 2 83 := ⟨by decide +kernel, rfl⟩
theorem dX12_roadBy_83 : dc cX12_roadBy 83 (.iadd) 1 84 := ⟨by decide +kernel, rfl⟩
theorem dX12_roadBy_84 : dc cX12_roadBy 84 (.iload 5) 2 86 := ⟨by decide +kernel, rfl⟩
theorem dX12_roadBy_86 : dc cX12_roadBy 86 (.iadd) 1 87 := ⟨by decide +kernel, rfl⟩
theorem dX12_roadBy_87 : dc cX12_roadBy 87 (.iaload) 1 88 := ⟨by decide +kernel, rfl⟩
theorem dX12_roadBy_88 : dc cX12_roadBy 88 (.iload_n 2) 1 89 := ⟨by decide +kernel, rfl⟩
theorem dX12_roadBy_89 : dc cX12_roadBy 89 (.if_icmp .ne 6) 3 92 := ⟨by decide +kernel, rfl⟩
theorem dX12_roadBy_92 : dc cX12_roadBy 92 (.iload 5) 2 94 := ⟨by decide +kernel, rfl⟩
theorem dX12_roadBy_94 : dc cX12_roadBy 94 (.ireturn) 1 95 := ⟨by decide +kernel, rfl⟩
theorem dX12_roadBy_95 : dc cX12_roadBy 95 (.iinc 5 1) 3 98 := ⟨by decide +kernel, rfl⟩
theorem dX12_roadBy_98 : dc cX12_roadBy 98 (.goto (-88)) 3 101 := ⟨by decide +kernel, rfl⟩
theorem dX12_roadBy_101 : dc cX12_roadBy 101 (.iconst (-1)) 1 102 := ⟨by decide +kernel, rfl⟩
theorem dX12_roadBy_102 : dc cX12_roadBy 102 (.ireturn) 1 103 := ⟨by decide +kernel, rfl⟩
theorem nm_X12_roadBy : (yX12_roadBy).cls ≠ "java/lang/invoke/MethodHandle" ∧ (yX12_roadBy).cls ≠ "java/lang/invoke/VarHandle" ∧ (parseMethodDescriptor (yX12_roadBy).desc).map (fun d => d.parameters.length) = some 3 := ⟨by decide +kernel, by decide +kernel, by decide +kernel⟩
set_option maxRecDepth 100000 in
set_option maxHeartbeats 4000000 in
theorem s_X12_roadBy_10 {ad : Nat → Nat} {cy : Nat → ClassId} {x : KX} (G : KG ad cy x cX12_roadBy "NoonGuidesModel" 6 (some (some .int)) 1) {a0 : Nat} {c2 : Int32} {c3 : Int32} {c4 : Int32} {M : KM} (h0 : kty a0 = 12) {y : Int32} : ∀ (n : Nat) (w5 : Int32), lp_X12_roadBy_10 n a0 c2 c3 c4 M w5 = some y → KV ad cy x (some (.int y), M) 10 [(0, .ref (ad a0)), (2, .int c2), (3, .int c3), (4, .int c4), (5, .int w5)] [] M := by
  intro n
  induction n with
  | zero =>
    intro w5 hf
    cases hf
  | succ n ih =>
    intro w5 hf
    rw [lp_X12_roadBy_10] at hf
    refine v_iload G dX12_roadBy_10 4 rfl ?_
    refine v_aload_n G dX12_roadBy_12 0 rfl ?_
    refine gf_12_20 G h0 t_1511 (Or.inl rfl) dX12_roadBy_13 ?_
    refine v_iload G dX12_roadBy_16 3 rfl ?_
    refine v_iconst (1 : Int32) G dX12_roadBy_18 (by decide) ?_
    refine v_iadd G dX12_roadBy_19 ?_
    obtain ⟨g2, hf⟩ := gd_e hf
    refine al_36 G (kf_12_5 h0) g2 dX12_roadBy_20 ?_
    refine v_icmp_ge 101 G dX12_roadBy_21 (by decide) (fun h12 => ?_) (fun h12 => ?_)
    · replace hf := (if_pos h12).symm.trans hf
      refine v_iconst (-1 : Int32) G dX12_roadBy_101 (by decide) ?_
      obtain rfl := Option.some.inj hf
      exact v_iret G dX12_roadBy_102
    · replace hf := (if_neg h12).symm.trans hf
      refine v_aload_n G dX12_roadBy_24 0 rfl ?_
      refine gf_12_20 G h0 t_1511 (Or.inl rfl) dX12_roadBy_25 ?_
      refine v_iload G dX12_roadBy_28 3 rfl ?_
      refine v_bipush (10 : Int32) G dX12_roadBy_30 (by decide) ?_
      refine v_iadd G dX12_roadBy_32 ?_
      refine v_iload G dX12_roadBy_33 4 rfl ?_
      refine v_iadd G dX12_roadBy_35 ?_
      obtain ⟨g3, hf⟩ := gd_e hf
      refine al_36 G (kf_12_5 h0) g3 dX12_roadBy_36 ?_
      refine v_iload_n G dX12_roadBy_37 1 rfl ?_
      obtain ⟨j58, ej58, hf⟩ := lt_j hf
      have hj58 : j58 = some y → KV ad cy x (some (.int y), M) 58 [(0, .ref (ad a0)), (2, .int c2), (3, .int c3), (4, .int c4), (5, .int w5)] [] M := by
        intro hf
        rw [ej58] at hf
        refine v_aload_n G dX12_roadBy_58 0 rfl ?_
        refine gf_12_20 G h0 t_1511 (Or.inl rfl) dX12_roadBy_59 ?_
        refine v_iload G dX12_roadBy_62 3 rfl ?_
        refine v_bipush (10 : Int32) G dX12_roadBy_64 (by decide) ?_
        refine v_iadd G dX12_roadBy_66 ?_
        refine v_iload G dX12_roadBy_67 4 rfl ?_
        refine v_iadd G dX12_roadBy_69 ?_
        obtain ⟨g4, hf⟩ := gd_e hf
        refine al_36 G (kf_12_5 h0) g4 dX12_roadBy_70 ?_
        refine v_iload_n G dX12_roadBy_71 2 rfl ?_
        obtain ⟨j95, ej95, hf⟩ := lt_j hf
        have hj95 : j95 = some y → KV ad cy x (some (.int y), M) 95 [(0, .ref (ad a0)), (2, .int c2), (3, .int c3), (4, .int c4), (5, .int w5)] [] M := by
          intro hf
          rw [ej95] at hf
          obtain ⟨v5, ev5⟩ : ∃ q : Int32, q = w5 + (1 : Int32) := ⟨_, rfl⟩
          replace hf := lt_e hf ev5
          refine v_iinc v5 [(5, .int v5), (0, .ref (ad a0)), (2, .int c2), (3, .int c3), (4, .int c4)] G dX12_roadBy_95 4 rfl (by rw [ev5]; rfl) (by decide) rfl ?_
          refine v_goto 10 G dX12_roadBy_98 (by decide) ?_
          refine v_sub _ [1, 2, 3, 4, 0] rfl ?_
          exact ih v5 hf
        refine v_icmp_ne 95 G dX12_roadBy_72 (by decide) (fun h8 => ?_) (fun h8 => ?_)
        · replace hf := (if_neg h8).symm.trans hf
          refine v_sub _ [0, 1, 2, 3, 4] rfl ?_
          exact hj95 hf
        · replace hf := (if_pos h8).symm.trans hf
          refine v_aload_n G dX12_roadBy_75 0 rfl ?_
          refine gf_12_20 G h0 t_1511 (Or.inl rfl) dX12_roadBy_76 ?_
          refine v_iload G dX12_roadBy_79 3 rfl ?_
          refine v_bipush (22 : Int32) G dX12_roadBy_81 (by decide) ?_
          refine v_iadd G dX12_roadBy_83 ?_
          refine v_iload G dX12_roadBy_84 4 rfl ?_
          refine v_iadd G dX12_roadBy_86 ?_
          obtain ⟨g6, hf⟩ := gd_e hf
          refine al_36 G (kf_12_5 h0) g6 dX12_roadBy_87 ?_
          refine v_iload_n G dX12_roadBy_88 1 rfl ?_
          refine v_icmp_ne 95 G dX12_roadBy_89 (by decide) (fun h7 => ?_) (fun h7 => ?_)
          · replace hf := (if_neg h7).symm.trans hf
            refine v_sub _ [0, 1, 2, 3, 4] rfl ?_
            exact hj95 hf
          · replace hf := (if_pos h7).symm.trans hf
            refine v_iload G dX12_roadBy_92 4 rfl ?_
            obtain rfl := Option.some.inj hf
            exact v_iret G dX12_roadBy_94
      refine v_icmp_ne 58 G dX12_roadBy_38 (by decide) (fun h11 => ?_) (fun h11 => ?_)
      · replace hf := (if_neg h11).symm.trans hf
        refine v_sub _ [0, 1, 2, 3, 4] rfl ?_
        exact hj58 hf
      · replace hf := (if_pos h11).symm.trans hf
        refine v_aload_n G dX12_roadBy_41 0 rfl ?_
        refine gf_12_20 G h0 t_1511 (Or.inl rfl) dX12_roadBy_42 ?_
        refine v_iload G dX12_roadBy_45 3 rfl ?_
        refine v_bipush (22 : Int32) G dX12_roadBy_47 (by decide) ?_
        refine v_iadd G dX12_roadBy_49 ?_
        refine v_iload G dX12_roadBy_50 4 rfl ?_
        refine v_iadd G dX12_roadBy_52 ?_
        obtain ⟨g9, hf⟩ := gd_e hf
        refine al_36 G (kf_12_5 h0) g9 dX12_roadBy_53 ?_
        refine v_iload_n G dX12_roadBy_54 2 rfl ?_
        refine v_icmp_eq 92 G dX12_roadBy_55 (by decide) (fun h10 => ?_) (fun h10 => ?_)
        · replace hf := (if_pos h10).symm.trans hf
          refine v_iload G dX12_roadBy_92 4 rfl ?_
          obtain rfl := Option.some.inj hf
          exact v_iret G dX12_roadBy_94
        · replace hf := (if_neg h10).symm.trans hf
          refine v_sub _ [0, 1, 2, 3, 4] rfl ?_
          exact hj58 hf
set_option maxRecDepth 100000 in
set_option maxHeartbeats 4000000 in
theorem c_X12_roadBy {l : Launch} {ad : Nat → Nat} {cy : Nat → ClassId} {D : va_G} {z : Nat} (n : Nat) {a0 : Nat} {p1 : Int32} {p2 : Int32} {p3 : Int32} {M : KM} {y : Int32} (h0 : kty a0 = 12) (hf : f_X12_roadBy n a0 p1 p2 p3 M = some y) : KC l ad cy D z yX12_roadBy cX12_roadBy 6 (some .int) 1 [.ref (ad a0), .int p1, .int p2, .int p3] M (some (.int y), M) := by
  refine kv_enter (by decide +kernel) (Nat.le_of_ble_eq_true rfl) ?_
  intro x hl hD hz G
  subst hl hD hz
  unfold f_X12_roadBy at hf
  have G : KG ad cy x cX12_roadBy "NoonGuidesModel" 6 (some (some .int)) 1 := G
  show KV ad cy x (some (.int y), M) 0 [(0, .ref (ad a0)), (1, .int p1), (2, .int p2), (3, .int p3)] [] M
  refine v_sipush (562 : Int32) G dX12_roadBy_0 (by decide) ?_
  refine v_iload_n G dX12_roadBy_3 1 rfl ?_
  refine v_imul G dX12_roadBy_4 ?_
  refine v_nmi (fun v1 ev1 => ?_)
  replace hf := lt_e hf ev1
  refine v_istore [(4, .int v1), (0, .ref (ad a0)), (1, .int p1), (2, .int p2), (3, .int p3)] G dX12_roadBy_5 (by decide) rfl ?_
  refine v_iconst (0 : Int32) G dX12_roadBy_7 (by decide) ?_
  refine v_istore [(5, .int (0 : Int32)), (4, .int v1), (0, .ref (ad a0)), (1, .int p1), (2, .int p2), (3, .int p3)] G dX12_roadBy_8 (by decide) rfl ?_
  refine v_sub _ [2, 4, 5, 1, 0] rfl ?_
  refine s_X12_roadBy_10 G h0 n (0 : Int32) hf
abbrev cX12_readRoad : ByteArray := prog_14_method_68_code
def yX12_readRoad : MethodName := ⟨RX12, "readRoad", "()V"⟩
theorem dX12_readRoad_0 : dc cX12_readRoad 0 (.aload_n 0) 1 1 := ⟨by decide +kernel, rfl⟩
theorem dX12_readRoad_1 : dc cX12_readRoad 1 (.getfield 35) 3 4 := ⟨by decide +kernel, rfl⟩
theorem dX12_readRoad_4 : dc cX12_readRoad 4 (.sipush 2249) 3 7 := ⟨by decide +kernel, rfl⟩
theorem dX12_readRoad_7 : dc cX12_readRoad 7 (.iaload) 1 8 := ⟨by decide +kernel, rfl⟩
theorem dX12_readRoad_8 : dc cX12_readRoad 8 (.istore_n 1) 1 9 := ⟨by decide +kernel, rfl⟩
theorem dX12_readRoad_9 : dc cX12_readRoad 9 (.iload_n 1) 1 10 := ⟨by decide +kernel, rfl⟩
theorem dX12_readRoad_10 : dc cX12_readRoad 10 (.bipush 12) 2 12 := ⟨by decide +kernel, rfl⟩
theorem dX12_readRoad_12 : dc cX12_readRoad 12 (.if_icmp .ne 13) 3 15 := ⟨by decide +kernel, rfl⟩
theorem dX12_readRoad_15 : dc cX12_readRoad 15 (.aload_n 0) 1 16 := ⟨by decide +kernel, rfl⟩
theorem dX12_readRoad_16 : dc cX12_readRoad 16 (.bipush 6) 2 18 := ⟨by decide +kernel, rfl⟩
theorem dX12_readRoad_18 : dc cX12_readRoad 18 (.aload_n 0) 1 19 := ⟨by decide +kernel, rfl⟩
theorem dX12_readRoad_19 : dc cX12_readRoad 19 (.getfield 124) 3 22 := ⟨by decide +kernel, rfl⟩
theorem dX12_readRoad_22 : dc cX12_readRoad 22 (.invokevirtual 226) 3 25 := ⟨by decide +kernel, rfl⟩
theorem dX12_readRoad_25 : dc cX12_readRoad 25 (.aload_n 0) 1 26 := ⟨by decide +kernel, rfl⟩
theorem dX12_readRoad_26 : dc cX12_readRoad 26 (.getfield 220) 3 29 := ⟨by decide +kernel, rfl⟩
theorem dX12_readRoad_29 : dc cX12_readRoad 29 (.ifCond .le 4) 3 32 := ⟨by decide +kernel, rfl⟩
theorem dX12_readRoad_32 : dc cX12_readRoad 32 (.return_) 1 33 := ⟨by decide +kernel, rfl⟩
theorem dX12_readRoad_33 : dc cX12_readRoad 33 (.aload_n 0) 1 34 := ⟨by decide +kernel, rfl⟩
theorem dX12_readRoad_34 : dc cX12_readRoad 34 (.invokevirtual 230) 3 37 := ⟨by decide +kernel, rfl⟩
theorem dX12_readRoad_37 : dc cX12_readRoad 37 (.aload_n 0) 1 38 := ⟨by decide +kernel, rfl⟩
theorem dX12_readRoad_38 : dc cX12_readRoad 38 (.iconst 4) 1 39 := ⟨by decide +kernel, rfl⟩
theorem dX12_readRoad_39 : dc cX12_readRoad 39 (.iconst 0) 1 40 := ⟨by decide +kernel, rfl⟩
theorem dX12_readRoad_40 : dc cX12_readRoad 40 (.invokevirtual 281) 3 43 := ⟨by decide +kernel, rfl⟩
theorem dX12_readRoad_43 : dc cX12_readRoad 43 (.istore_n 2) 1 44 := ⟨by decide +kernel, rfl⟩
theorem dX12_readRoad_44 : dc cX12_readRoad 44 (.aload_n 0) 1 45 := ⟨by decide +kernel, rfl⟩
theorem dX12_readRoad_45 : dc cX12_readRoad 45 (.iconst 4) 1 46 := ⟨by decide +kernel, rfl⟩
theorem dX12_readRoad_46 : dc cX12_readRoad 46 (.iconst 0) 1 47 := ⟨by decide +kernel, rfl⟩
theorem dX12_readRoad_47 : dc cX12_readRoad 47 (.invokevirtual 254) 3 50 := ⟨by decide +kernel, rfl⟩
theorem dX12_readRoad_50 : dc cX12_readRoad 50 (.istore_n 3) 1 51 := ⟨by decide +kernel, rfl⟩
theorem dX12_readRoad_51 : dc cX12_readRoad 51 (.aload_n 0) 1 52 := ⟨by decide +kernel, rfl⟩
theorem dX12_readRoad_52 : dc cX12_readRoad 52 (.getfield 220) 3 55 := ⟨by decide +kernel, rfl⟩
theorem dX12_readRoad_55 : dc cX12_readRoad 55 (.ifCond .ne 27) 3 58 := ⟨by decide +kernel, rfl⟩
theorem dX12_readRoad_58 : dc cX12_readRoad 58 (.iload_n 2) 1 59 := ⟨by decide +kernel, rfl⟩
theorem dX12_readRoad_59 : dc cX12_readRoad 59 (.iload_n 3) 1 60 := ⟨by decide +kernel, rfl⟩
theorem dX12_readRoad_60 : dc cX12_readRoad 60 (.if_icmp .eq 13) 3 63 := ⟨by decide +kernel, rfl⟩
theorem dX12_readRoad_63 : dc cX12_readRoad 63 (.aload_n 0) 1 64 := ⟨by decide +kernel, rfl⟩
theorem dX12_readRoad_64 : dc cX12_readRoad 64 (.iconst 4) 1 65 := ⟨by decide +kernel, rfl⟩
theorem dX12_readRoad_65 : dc cX12_readRoad 65 (.iload_n 2) 1 66 := ⟨by decide +kernel, rfl⟩
theorem dX12_readRoad_66 : dc cX12_readRoad 66 (.iload_n 3) 1 67 := ⟨by decide +kernel, rfl⟩
theorem dX12_readRoad_67 : dc cX12_readRoad 67 (.invokevirtual 284) 3 70 := ⟨by decide +kernel, rfl⟩
theorem dX12_readRoad_70 : dc cX12_readRoad 70 (.ifCond .lt 12) 3 73 := ⟨by decide +kernel, rfl⟩
theorem dX12_readRoad_73 : dc cX12_readRoad 73 (.aload_n 0) 1 74 := ⟨by decide +kernel, rfl⟩
theorem dX12_readRoad_74 : dc cX12_readRoad 74 (.iconst 5) 1 75 := ⟨by decide +kernel, rfl⟩
theorem dX12_readRoad_75 : dc cX12_readRoad 75 (.aload_n 0) 1 76 := ⟨by decide +kernel, rfl⟩
theorem dX12_readRoad_76 : dc cX12_readRoad 76 (.getfield 124) 3 79 := ⟨by decide +kernel, rfl⟩
theorem dX12_readRoad_79 : dc cX12_readRoad 79 (.invokevirtual 226) 3 82 := ⟨by decide +kernel, rfl⟩
theorem dX12_readRoad_82 : dc cX12_readRoad 82 (.aload_n 0) 1 83 := ⟨by decide +kernel, rfl⟩
theorem dX12_readRoad_83 : dc cX12_readRoad 83 (.iconst 1) 1 84 := ⟨by decide +kernel, rfl⟩
theorem dX12_readRoad_84 : dc cX12_readRoad 84 (.invokevirtual 257) 3 87 := ⟨by decide +kernel, rfl⟩
theorem dX12_readRoad_87 : dc cX12_readRoad 87 (.aload_n 0) 1 88 := ⟨by decide +kernel, rfl⟩
theorem dX12_readRoad_88 : dc cX12_readRoad 88 (.aload_n 0) 1 89 := ⟨by decide +kernel, rfl⟩
theorem dX12_readRoad_89 : dc cX12_readRoad 89 (.invokevirtual 189) 3 92 := ⟨by decide +kernel, rfl⟩
theorem dX12_readRoad_92 : dc cX12_readRoad 92 (.invokevirtual 257) 3 95 := ⟨by decide +kernel, rfl⟩
theorem dX12_readRoad_95 : dc cX12_readRoad 95 (.aload_n 0) 1 96 := ⟨by decide +kernel, rfl⟩
theorem dX12_readRoad_96 : dc cX12_readRoad 96 (.getfield 35) 3 99 := ⟨by decide +kernel, rfl⟩
theorem dX12_readRoad_99 : dc cX12_readRoad 99 (.sipush 2258) 3 102 := ⟨by decide +kernel, rfl⟩
theorem dX12_readRoad_102 : dc cX12_readRoad 102 (.iload_n 1) 1 103 := ⟨by decide +kernel, rfl⟩
theorem dX12_readRoad_103 : dc cX12_readRoad 103 (.iadd) 1 104 := ⟨by decide +kernel, rfl⟩
theorem dX12_readRoad_104 : dc cX12_readRoad 104 (.iload_n 2) 1 105 := ⟨by decide +kernel, rfl⟩
theorem dX12_readRoad_105 : dc cX12_readRoad 105 (.iastore) 1 106 := ⟨by decide +kernel, rfl⟩
theorem dX12_readRoad_106 : dc cX12_readRoad 106 (.aload_n 0) 1 107 := ⟨by decide +kernel, rfl⟩
theorem dX12_readRoad_107 : dc cX12_readRoad 107 (.getfield 35) 3 110 := ⟨by decide +kernel, rfl⟩
theorem dX12_readRoad_110 : dc cX12_readRoad 110 (.sipush 2270) 3 113 := ⟨by decide +kernel, rfl⟩
theorem dX12_readRoad_113 : dc cX12_readRoad 113 (.iload_n 1) 1 114 := ⟨by decide +kernel, rfl⟩
theorem dX12_readRoad_114 : dc cX12_readRoad 114 (.iadd) 1 115 := ⟨by decide +kernel, rfl⟩
theorem dX12_readRoad_115 : dc cX12_readRoad 115 (.iload_n 3) 1 116 := ⟨by decide +kernel, rfl⟩
theorem dX12_readRoad_116 : dc cX12_readRoad 116 (.iastore) 1 117 := ⟨by decide +kernel, rfl⟩
theorem dX12_readRoad_117 : dc cX12_readRoad 117 (.aload_n 0) 1 118 := ⟨by decide +kernel, rfl⟩
theorem dX12_readRoad_118 : dc cX12_readRoad 118 (.getfield 35) 3 121 := ⟨by decide +kernel, rfl⟩
theorem dX12_readRoad_121 : dc cX12_readRoad 121 (.sipush 2282) 3 124 := ⟨by decide +kernel, rfl⟩
theorem dX12_readRoad_124 : dc cX12_readRoad 124 (.iload_n 1) 1 125 := ⟨by decide +kernel, rfl⟩
theorem dX12_readRoad_125 : dc cX12_readRoad 125 (.iadd) 1 126 := ⟨by decide +kernel, rfl⟩
theorem dX12_readRoad_126 : dc cX12_readRoad 126 (.aload_n 0) 1 127 := ⟨by decide +kernel, rfl⟩
theorem dX12_readRoad_127 : dc cX12_readRoad 127 (.iconst 1) 1 128 := ⟨by decide +kernel, rfl⟩
theorem dX12_readRoad_128 : dc cX12_readRoad 128 (.bipush 99) 2 130 := ⟨by decide +kernel, rfl⟩
theorem dX12_readRoad_130 : dc cX12_readRoad 130 (.invokevirtual 267) 3 133 := ⟨by decide +kernel, rfl⟩
theorem dX12_readRoad_133 : dc cX12_readRoad 133 (.iastore) 1 134 := ⟨by decide +kernel, rfl⟩
theorem dX12_readRoad_134 : dc cX12_readRoad 134 (.aload_n 0) 1 135 := ⟨by decide +kernel, rfl⟩
theorem dX12_readRoad_135 : dc cX12_readRoad 135 (.aload_n 0) 1 136 := ⟨by decide +kernel, rfl⟩
theorem dX12_readRoad_136 : dc cX12_readRoad 136 (.invokevirtual 192) 3 139 := ⟨by decide +kernel, rfl⟩
theorem dX12_readRoad_139 : dc cX12_readRoad 139 (.invokevirtual 288) 3 142 := ⟨by decide +kernel, rfl⟩
theorem dX12_readRoad_142 : dc cX12_readRoad 142 (.ifCond .eq 14) 3 145 := ⟨by decide +kernel, rfl⟩
theorem dX12_readRoad_145 : dc cX12_readRoad 145 (.aload_n 0) 1 146 := ⟨by decide +kernel, rfl⟩
theorem dX12_readRoad_146 : dc cX12_readRoad 146 (.getfield 35) 3 149 := ⟨by decide +kernel, rfl⟩
theorem dX12_readRoad_149 : dc cX12_readRoad 149 (.sipush 2294) 3 152 := ⟨by decide +kernel, rfl⟩
theorem dX12_readRoad_152 : dc cX12_readRoad 152 (.iload_n 1) 1 153 := ⟨by decide +kernel, rfl⟩
theorem dX12_readRoad_153 : dc cX12_readRoad 153 (.iadd) 1 154 := ⟨by decide +kernel, rfl⟩
theorem dX12_readRoad_154 : dc cX12_readRoad 154 (.iconst 1) 1 155 := ⟨by decide +kernel, rfl⟩
theorem dX12_readRoad_155 : dc cX12_readRoad 155 (.iastore) 1 156 := ⟨by decide +kernel, rfl⟩
theorem dX12_readRoad_156 : dc cX12_readRoad 156 (.aload_n 0) 1 157 := ⟨by decide +kernel, rfl⟩
theorem dX12_readRoad_157 : dc cX12_readRoad 157 (.getfield 220) 3 160 := ⟨by decide +kernel, rfl⟩
theorem dX12_readRoad_160 : dc cX12_readRoad 160 (.ifCond .ne 15) 3 163 := ⟨by decide +kernel, rfl⟩
theorem dX12_readRoad_163 : dc cX12_readRoad 163 (.aload_n 0) 1 164 := ⟨by decide +kernel, rfl⟩
theorem dX12_readRoad_164 : dc cX12_readRoad 164 (.getfield 35) 3 167 := ⟨by decide +kernel, rfl⟩
theorem dX12_readRoad_167 : dc cX12_readRoad 167 (.sipush 2249) 3 170 := ⟨by decide +kernel, rfl⟩
theorem dX12_readRoad_170 : dc cX12_readRoad 170 (.dup2) 1 171 := ⟨by decide +kernel, rfl⟩
theorem dX12_readRoad_171 : dc cX12_readRoad 171 (.iaload) 1 172 := ⟨by decide +kernel, rfl⟩
theorem dX12_readRoad_172 : dc cX12_readRoad 172 (.iconst 1) 1 173 := ⟨by decide +kernel, rfl⟩
theorem dX12_readRoad_173 : dc cX12_readRoad 173 (.iadd) 1 174 := ⟨by decide +kernel, rfl⟩
theorem dX12_readRoad_174 : dc cX12_readRoad 174 (.iastore) 1 175 := ⟨by decide +kernel, rfl⟩
theorem dX12_readRoad_175 : dc cX12_readRoad 175 (.return_) 1 176 := ⟨by decide +kernel, rfl⟩
theorem nm_X12_readRoad : (yX12_readRoad).cls ≠ "java/lang/invoke/MethodHandle" ∧ (yX12_readRoad).cls ≠ "java/lang/invoke/VarHandle" ∧ (parseMethodDescriptor (yX12_readRoad).desc).map (fun d => d.parameters.length) = some 0 := ⟨by decide +kernel, by decide +kernel, by decide +kernel⟩
set_option maxRecDepth 100000 in
set_option maxHeartbeats 4000000 in
theorem c_X12_readRoad {l : Launch} {ad : Nat → Nat} {cy : Nat → ClassId} {D : va_G} {z : Nat} (n : Nat) {a0 : Nat} {M : KM} {y : KM} (h0 : kty a0 = 12) (hf : f_X12_readRoad n a0 M = some y) : KC l ad cy D z yX12_readRoad cX12_readRoad 4 none 7 [.ref (ad a0)] M (none, y) := by
  refine kv_enter (by decide +kernel) (Nat.le_of_ble_eq_true rfl) ?_
  intro x hl hD hz G
  subst hl hD hz
  unfold f_X12_readRoad at hf
  have G : KG ad cy x cX12_readRoad "NoonGuidesModel" 4 (some none) 7 := G
  show KV ad cy x (none, y) 0 [(0, .ref (ad a0))] [] M
  refine v_aload_n G dX12_readRoad_0 0 rfl ?_
  refine gf_12_20 G h0 t_1511 (Or.inl rfl) dX12_readRoad_1 ?_
  refine v_sipush (2249 : Int32) G dX12_readRoad_4 (by decide) ?_
  obtain ⟨g1, hf⟩ := gd_e hf
  refine al_36 G (kf_12_5 h0) g1 dX12_readRoad_7 ?_
  refine v_nmi (fun v2 ev2 => ?_)
  replace hf := lt_e hf ev2
  refine v_istore_n [(1, .int v2), (0, .ref (ad a0))] G dX12_readRoad_8 (by decide) rfl ?_
  refine v_iload_n G dX12_readRoad_9 0 rfl ?_
  refine v_bipush (12 : Int32) G dX12_readRoad_10 (by decide) ?_
  obtain ⟨j25, ej25, hf⟩ := lt_j hf
  have hj25 : ∀ (M3 : KM), j25 M3 = some y → KV ad cy x (none, y) 25 [(0, .ref (ad a0)), (1, .int v2)] [] M3 := by
    intro M3 hf
    rw [ej25] at hf
    refine v_aload_n G dX12_readRoad_25 0 rfl ?_
    refine gf_12_12 G h0 t_1503 (Or.inl rfl) dX12_readRoad_26 ?_
    refine v_if_le 33 G dX12_readRoad_29 (by decide) (fun h33 => ?_) (fun h33 => ?_)
    · replace hf := (if_pos h33).symm.trans hf
      refine v_aload_n G dX12_readRoad_33 0 rfl ?_
      obtain ⟨v4, hcv4, hf⟩ := bd_e hf
      refine v_callV [] G (c_X12_advance n h0 hcv4) h0 (by decide) rfl rfl rfl t_1697 t_1699 t_p60 t_17 t_1700 nm_X12_advance (by decide) (by decide) rfl rfl (Nat.le_of_ble_eq_true rfl) dX12_readRoad_34 (kv_rv ?_)
      refine v_aload_n G dX12_readRoad_37 0 rfl ?_
      refine v_iconst (4 : Int32) G dX12_readRoad_38 (by decide) ?_
      refine v_iconst (0 : Int32) G dX12_readRoad_39 (by decide) ?_
      obtain ⟨v5, hcv5, hf⟩ := bd_e hf
      refine v_callV [.int (4 : Int32), .int (0 : Int32)] G (c_X12_readTold n h0 hcv5) h0 (by decide) rfl rfl rfl t_1860 t_1862 t_p96 t_17 t_1863 nm_X12_readTold (by decide) (by decide) rfl rfl (Nat.le_of_ble_eq_true rfl) dX12_readRoad_40 (kv_ri ?_)
      refine v_istore_n [(2, .int v5.1), (0, .ref (ad a0)), (1, .int v2)] G dX12_readRoad_43 (by decide) rfl ?_
      refine v_aload_n G dX12_readRoad_44 1 rfl ?_
      refine v_iconst (4 : Int32) G dX12_readRoad_45 (by decide) ?_
      refine v_iconst (0 : Int32) G dX12_readRoad_46 (by decide) ?_
      obtain ⟨v6, hcv6, hf⟩ := bd_e hf
      refine v_callV [.int (4 : Int32), .int (0 : Int32)] G (c_X12_told n h0 hcv6) h0 (by decide) rfl rfl rfl t_1864 t_1866 t_p97 t_17 t_1867 nm_X12_told (by decide) (by decide) rfl rfl (Nat.le_of_ble_eq_true rfl) dX12_readRoad_47 (kv_ri ?_)
      refine v_istore_n [(3, .int v6.1), (2, .int v5.1), (0, .ref (ad a0)), (1, .int v2)] G dX12_readRoad_50 (by decide) rfl ?_
      refine v_aload_n G dX12_readRoad_51 2 rfl ?_
      refine gf_12_12 G h0 t_1503 (Or.inl rfl) dX12_readRoad_52 ?_
      obtain ⟨j82, ej82, hf⟩ := lt_j hf
      have hj82 : ∀ (M7 : KM), j82 M7 = some y → KV ad cy x (none, y) 82 [(0, .ref (ad a0)), (1, .int v2), (2, .int v5.1), (3, .int v6.1)] [] M7 := by
        intro M7 hf
        rw [ej82] at hf
        refine v_aload_n G dX12_readRoad_82 0 rfl ?_
        refine v_iconst (1 : Int32) G dX12_readRoad_83 (by decide) ?_
        obtain ⟨v8, hcv8, hf⟩ := bd_e hf
        refine v_callV [.int (1 : Int32)] G (c_X12_must n h0 hcv8) h0 (by decide) rfl rfl rfl t_1762 t_1764 t_p72 t_17 t_1765 nm_X12_must (by decide) (by decide) rfl rfl (Nat.le_of_ble_eq_true rfl) dX12_readRoad_84 (kv_rv ?_)
        refine v_aload_n G dX12_readRoad_87 0 rfl ?_
        refine v_aload_n G dX12_readRoad_88 0 rfl ?_
        obtain ⟨v9, hcv9⟩ : ∃ q, f_X12_isMinutes a0 v8 = q := ⟨_, rfl⟩
        replace hf := lt_e hf hcv9.symm
        refine v_callV [] G (c_X12_isMinutes h0 hcv9) h0 (by decide) rfl rfl rfl t_1818 t_1820 t_p86 t_17 t_1821 nm_X12_isMinutes (by decide) (by decide) rfl rfl (Nat.le_of_ble_eq_true rfl) dX12_readRoad_89 (kv_ri ?_)
        obtain ⟨v10, hcv10, hf⟩ := bd_e hf
        refine v_callV [.int v9] G (c_X12_must n h0 hcv10) h0 (by decide) rfl rfl rfl t_1762 t_1764 t_p72 t_17 t_1765 nm_X12_must (by decide) (by decide) rfl rfl (Nat.le_of_ble_eq_true rfl) dX12_readRoad_92 (kv_rv ?_)
        refine v_aload_n G dX12_readRoad_95 0 rfl ?_
        refine gf_12_20 G h0 t_1511 (Or.inl rfl) dX12_readRoad_96 ?_
        refine v_sipush (2258 : Int32) G dX12_readRoad_99 (by decide) ?_
        refine v_iload_n G dX12_readRoad_102 1 rfl ?_
        refine v_iadd G dX12_readRoad_103 ?_
        refine v_iload_n G dX12_readRoad_104 2 rfl ?_
        obtain ⟨g11, hf⟩ := gd_e hf
        refine as_36 G (kf_12_5 h0) g11 dX12_readRoad_105 ?_
        refine v_nmM (fun M12 eM12 => ?_)
        replace hf := lt_e hf eM12
        refine v_aload_n G dX12_readRoad_106 0 rfl ?_
        refine gf_12_20 G h0 t_1511 (Or.inl rfl) dX12_readRoad_107 ?_
        refine v_sipush (2270 : Int32) G dX12_readRoad_110 (by decide) ?_
        refine v_iload_n G dX12_readRoad_113 1 rfl ?_
        refine v_iadd G dX12_readRoad_114 ?_
        refine v_iload_n G dX12_readRoad_115 3 rfl ?_
        obtain ⟨g13, hf⟩ := gd_e hf
        refine as_36 G (kf_12_5 h0) g13 dX12_readRoad_116 ?_
        refine v_nmM (fun M14 eM14 => ?_)
        replace hf := lt_e hf eM14
        refine v_aload_n G dX12_readRoad_117 0 rfl ?_
        refine gf_12_20 G h0 t_1511 (Or.inl rfl) dX12_readRoad_118 ?_
        refine v_sipush (2282 : Int32) G dX12_readRoad_121 (by decide) ?_
        refine v_iload_n G dX12_readRoad_124 1 rfl ?_
        refine v_iadd G dX12_readRoad_125 ?_
        refine v_aload_n G dX12_readRoad_126 0 rfl ?_
        refine v_iconst (1 : Int32) G dX12_readRoad_127 (by decide) ?_
        refine v_bipush (99 : Int32) G dX12_readRoad_128 (by decide) ?_
        obtain ⟨v15, hcv15, hf⟩ := bd_e hf
        refine v_callV [.int (1 : Int32), .int (99 : Int32)] G (c_X12_count n h0 hcv15) h0 (by decide) rfl rfl rfl t_1747 t_1749 t_p69 t_17 t_1750 nm_X12_count (by decide) (by decide) rfl rfl (Nat.le_of_ble_eq_true rfl) dX12_readRoad_130 (kv_ri ?_)
        obtain ⟨g16, hf⟩ := gd_e hf
        refine as_36 G (kf_12_5 h0) g16 dX12_readRoad_133 ?_
        refine v_nmM (fun M17 eM17 => ?_)
        replace hf := lt_e hf eM17
        refine v_aload_n G dX12_readRoad_134 0 rfl ?_
        refine v_aload_n G dX12_readRoad_135 0 rfl ?_
        obtain ⟨v18, hcv18⟩ : ∃ q, f_X12_isSmells a0 M17 = q := ⟨_, rfl⟩
        replace hf := lt_e hf hcv18.symm
        refine v_callV [] G (c_X12_isSmells h0 hcv18) h0 (by decide) rfl rfl rfl t_1823 t_1825 t_p87 t_17 t_1826 nm_X12_isSmells (by decide) (by decide) rfl rfl (Nat.le_of_ble_eq_true rfl) dX12_readRoad_136 (kv_ri ?_)
        obtain ⟨v19, hcv19, hf⟩ := bd_e hf
        refine v_callV [.int v18] G (c_X12_perhaps n h0 hcv19) h0 (by decide) rfl rfl rfl t_1873 t_1875 t_p99 t_17 t_1876 nm_X12_perhaps (by decide) (by decide) rfl rfl (Nat.le_of_ble_eq_true rfl) dX12_readRoad_139 (kv_ri ?_)
        obtain ⟨j156, ej156, hf⟩ := lt_j hf
        have hj156 : ∀ (M20 : KM), j156 M20 = some y → KV ad cy x (none, y) 156 [(0, .ref (ad a0))] [] M20 := by
          intro M20 hf
          rw [ej156] at hf
          refine v_aload_n G dX12_readRoad_156 0 rfl ?_
          refine gf_12_12 G h0 t_1503 (Or.inl rfl) dX12_readRoad_157 ?_
          refine v_if_ne 175 G dX12_readRoad_160 (by decide) (fun h24 => ?_) (fun h24 => ?_)
          · replace hf := (if_neg h24).symm.trans hf
            obtain rfl := Option.some.inj hf
            exact v_vret G dX12_readRoad_175
          · replace hf := (if_pos h24).symm.trans hf
            refine v_aload_n G dX12_readRoad_163 0 rfl ?_
            refine gf_12_20 G h0 t_1511 (Or.inl rfl) dX12_readRoad_164 ?_
            refine v_sipush (2249 : Int32) G dX12_readRoad_167 (by decide) ?_
            refine v_dup2 G dX12_readRoad_170 rfl rfl ?_
            obtain ⟨g21, hf⟩ := gd_e hf
            refine al_36 G (kf_12_5 h0) g21 dX12_readRoad_171 ?_
            refine v_iconst (1 : Int32) G dX12_readRoad_172 (by decide) ?_
            refine v_iadd G dX12_readRoad_173 ?_
            obtain ⟨g22, hf⟩ := gd_e hf
            refine as_36 G (kf_12_5 h0) g22 dX12_readRoad_174 ?_
            refine v_nmM (fun M23 eM23 => ?_)
            replace hf := lt_e hf eM23
            obtain rfl := Option.some.inj hf
            exact v_vret G dX12_readRoad_175
        refine v_if_eq 156 G dX12_readRoad_142 (by decide) (fun h27 => ?_) (fun h27 => ?_)
        · replace hf := (if_pos h27).symm.trans hf
          refine v_sub _ [0] rfl ?_
          exact hj156 v19.2 hf
        · replace hf := (if_neg h27).symm.trans hf
          refine v_aload_n G dX12_readRoad_145 0 rfl ?_
          refine gf_12_20 G h0 t_1511 (Or.inl rfl) dX12_readRoad_146 ?_
          refine v_sipush (2294 : Int32) G dX12_readRoad_149 (by decide) ?_
          refine v_iload_n G dX12_readRoad_152 1 rfl ?_
          refine v_iadd G dX12_readRoad_153 ?_
          refine v_iconst (1 : Int32) G dX12_readRoad_154 (by decide) ?_
          obtain ⟨g25, hf⟩ := gd_e hf
          refine as_36 G (kf_12_5 h0) g25 dX12_readRoad_155 ?_
          refine v_nmM (fun M26 eM26 => ?_)
          replace hf := lt_e hf eM26
          refine v_sub _ [0] rfl ?_
          exact hj156 M26 hf
      refine v_if_ne 82 G dX12_readRoad_55 (by decide) (fun h32 => ?_) (fun h32 => ?_)
      · replace hf := (if_neg h32).symm.trans hf
        refine v_sub _ [2, 3, 1, 0] rfl ?_
        exact hj82 v6.2 hf
      · replace hf := (if_pos h32).symm.trans hf
        refine v_iload_n G dX12_readRoad_58 1 rfl ?_
        refine v_iload_n G dX12_readRoad_59 0 rfl ?_
        obtain ⟨j73, ej73, hf⟩ := lt_j hf
        have hj73 : j73 = some y → KV ad cy x (none, y) 73 [(0, .ref (ad a0)), (1, .int v2), (2, .int v5.1), (3, .int v6.1)] [] v6.2 := by
          intro hf
          rw [ej73] at hf
          refine v_aload_n G dX12_readRoad_73 0 rfl ?_
          refine v_iconst (5 : Int32) G dX12_readRoad_74 (by decide) ?_
          refine v_aload_n G dX12_readRoad_75 0 rfl ?_
          refine gf_12_15 G h0 t_1506 (Or.inl rfl) dX12_readRoad_76 ?_
          obtain ⟨v28, hcv28⟩ : ∃ q, f_X12_fail a0 (5 : Int32) (v6.2.1 a0 15) v6.2 = q := ⟨_, rfl⟩
          replace hf := lt_e hf hcv28.symm
          refine v_callV [.int (5 : Int32), .int (v6.2.1 a0 15)] G (c_X12_fail h0 hcv28) h0 (by decide) rfl rfl rfl t_1743 t_1745 t_p68 t_17 t_1746 nm_X12_fail (by decide) (by decide) rfl rfl (Nat.le_of_ble_eq_true rfl) dX12_readRoad_79 (kv_rv ?_)
          refine v_sub _ [0, 1, 2, 3] rfl ?_
          exact hj82 v28 hf
        refine v_icmp_eq 73 G dX12_readRoad_60 (by decide) (fun h31 => ?_) (fun h31 => ?_)
        · replace hf := (if_pos h31).symm.trans hf
          refine v_sub _ [2, 3, 1, 0] rfl ?_
          exact hj73 hf
        · replace hf := (if_neg h31).symm.trans hf
          refine v_aload_n G dX12_readRoad_63 2 rfl ?_
          refine v_iconst (4 : Int32) G dX12_readRoad_64 (by decide) ?_
          refine v_iload_n G dX12_readRoad_65 1 rfl ?_
          refine v_iload_n G dX12_readRoad_66 0 rfl ?_
          obtain ⟨v29, hcv29, hf⟩ := bd_e hf
          refine v_callV [.int (4 : Int32), .int v5.1, .int v6.1] G (c_X12_roadBy n h0 hcv29) h0 (by decide) rfl rfl rfl t_1869 t_1871 t_p98 t_17 t_1872 nm_X12_roadBy (by decide) (by decide) rfl rfl (Nat.le_of_ble_eq_true rfl) dX12_readRoad_67 (kv_ri ?_)
          refine v_if_lt 82 G dX12_readRoad_70 (by decide) (fun h30 => ?_) (fun h30 => ?_)
          · replace hf := (if_pos h30).symm.trans hf
            refine v_sub _ [2, 3, 1, 0] rfl ?_
            exact hj82 v6.2 hf
          · replace hf := (if_neg h30).symm.trans hf
            refine v_sub _ [2, 3, 1, 0] rfl ?_
            exact hj73 hf
    · replace hf := (if_neg h33).symm.trans hf
      obtain rfl := Option.some.inj hf
      exact v_vret G dX12_readRoad_32
  refine v_icmp_ne 25 G dX12_readRoad_12 (by decide) (fun h35 => ?_) (fun h35 => ?_)
  · replace hf := (if_neg h35).symm.trans hf
    refine v_sub _ [1, 0] rfl ?_
    exact hj25 M hf
  · replace hf := (if_pos h35).symm.trans hf
    refine v_aload_n G dX12_readRoad_15 1 rfl ?_
    refine v_bipush (6 : Int32) G dX12_readRoad_16 (by decide) ?_
    refine v_aload_n G dX12_readRoad_18 1 rfl ?_
    refine gf_12_15 G h0 t_1506 (Or.inl rfl) dX12_readRoad_19 ?_
    obtain ⟨v34, hcv34⟩ : ∃ q, f_X12_fail a0 (6 : Int32) (M.1 a0 15) M = q := ⟨_, rfl⟩
    replace hf := lt_e hf hcv34.symm
    refine v_callV [.int (6 : Int32), .int (M.1 a0 15)] G (c_X12_fail h0 hcv34) h0 (by decide) rfl rfl rfl t_1743 t_1745 t_p68 t_17 t_1746 nm_X12_fail (by decide) (by decide) rfl rfl (Nat.le_of_ble_eq_true rfl) dX12_readRoad_22 (kv_rv ?_)
    refine v_sub _ [1, 0] rfl ?_
    exact hj25 v34 hf
abbrev cX12_readPerson : ByteArray := prog_14_method_69_code
def yX12_readPerson : MethodName := ⟨RX12, "readPerson", "(Z)V"⟩
theorem dX12_readPerson_0 : dc cX12_readPerson 0 (.aload_n 0) 1 1 := ⟨by decide +kernel, rfl⟩
theorem dX12_readPerson_1 : dc cX12_readPerson 1 (.iconst 1) 1 2 := ⟨by decide +kernel, rfl⟩
theorem dX12_readPerson_2 : dc cX12_readPerson 2 (.invokevirtual 278) 3 5 := ⟨by decide +kernel, rfl⟩
theorem dX12_readPerson_5 : dc cX12_readPerson 5 (.istore_n 2) 1 6 := ⟨by decide +kernel, rfl⟩
theorem dX12_readPerson_6 : dc cX12_readPerson 6 (.aload_n 0) 1 7 := ⟨by decide +kernel, rfl⟩
theorem dX12_readPerson_7 : dc cX12_readPerson 7 (.aload_n 0) 1 8 := ⟨by decide +kernel, rfl⟩
theorem dX12_readPerson_8 : dc cX12_readPerson 8 (.invokevirtual 211) 3 11 := ⟨by decide +kernel, rfl⟩
theorem dX12_readPerson_11 : dc cX12_readPerson 11 (.ifCond .ne 7) 3 14 := ⟨by decide +kernel, rfl⟩
theorem dX12_readPerson_14 : dc cX12_readPerson 14 (.iconst 1) 1 15 := ⟨by decide +kernel, rfl⟩
theorem dX12_readPerson_15 : dc cX12_readPerson 15 (.goto 4) 3 18 := ⟨by decide +kernel, rfl⟩
theorem dX12_readPerson_18 : dc cX12_readPerson 18 (.iconst 0) 1 19 := ⟨by decide +kernel, rfl⟩
theorem dX12_readPerson_19 : dc cX12_readPerson 19 (.invokevirtual 257) 3 22 := ⟨by decide +kernel, rfl⟩
theorem dX12_readPerson_22 : dc cX12_readPerson 22 (.aload_n 0) 1 23 := ⟨by decide +kernel, rfl⟩
theorem dX12_readPerson_23 : dc cX12_readPerson 23 (.getfield 35) 3 26 := ⟨by decide +kernel, rfl⟩
theorem dX12_readPerson_26 : dc cX12_readPerson 26 (.sipush 2306) 3 29 := ⟨by decide +kernel, rfl⟩
theorem dX12_readPerson_29 : dc cX12_readPerson 29 (.iload_n 2) 1 30 := ⟨by decide +kernel, rfl⟩
theorem dX12_readPerson_30 : dc cX12_readPerson 30 (.iadd) 1 31 := ⟨by decide +kernel, rfl⟩
theorem dX12_readPerson_31 : dc cX12_readPerson 31 (.aload_n 0) 1 32 := ⟨by decide +kernel, rfl⟩
theorem dX12_readPerson_32 : dc cX12_readPerson 32 (.iconst 4) 1 33 := ⟨by decide +kernel, rfl⟩
theorem dX12_readPerson_33 : dc cX12_readPerson 33 (.iconst 0) 1 34 := ⟨by decide +kernel, rfl⟩
theorem dX12_readPerson_34 : dc cX12_readPerson 34 (.invokevirtual 281) 3 37 := ⟨by decide +kernel, rfl⟩
theorem dX12_readPerson_37 : dc cX12_readPerson 37 (.iastore) 1 38 := ⟨by decide +kernel, rfl⟩
theorem dX12_readPerson_38 : dc cX12_readPerson 38 (.iload_n 1) 1 39 := ⟨by decide +kernel, rfl⟩
theorem dX12_readPerson_39 : dc cX12_readPerson 39 (.ifCond .eq 17) 3 42 := ⟨by decide +kernel, rfl⟩
theorem dX12_readPerson_42 : dc cX12_readPerson 42 (.aload_n 0) 1 43 := ⟨by decide +kernel, rfl⟩
theorem dX12_readPerson_43 : dc cX12_readPerson 43 (.getfield 35) 3 46 := ⟨by decide +kernel, rfl⟩
theorem dX12_readPerson_46 : dc cX12_readPerson 46 (.sipush 2354) 3 49 := ⟨by decide +kernel, rfl⟩
theorem dX12_readPerson_49 : dc cX12_readPerson 49 (.iload_n 2) 1 50 := ⟨by decide +kernel, rfl⟩
theorem dX12_readPerson_50 : dc cX12_readPerson 50 (.iadd) 1 51 := ⟨by decide +kernel, rfl⟩
theorem dX12_readPerson_51 : dc cX12_readPerson 51 (.iconst 1) 1 52 := ⟨by decide +kernel, rfl⟩
theorem dX12_readPerson_52 : dc cX12_readPerson 52 (.iastore) 1 53 := ⟨by decide +kernel, rfl⟩
theorem dX12_readPerson_53 : dc cX12_readPerson 53 (.goto 25) 3 56 := ⟨by decide +kernel, rfl⟩
theorem dX12_readPerson_56 : dc cX12_readPerson 56 (.aload_n 0) 1 57 := ⟨by decide +kernel, rfl⟩
theorem dX12_readPerson_57 : dc cX12_readPerson 57 (.aload_n 0) 1 58 := ⟨by decide +kernel, rfl⟩
theorem dX12_readPerson_58 : dc cX12_readPerson 58 (.invokevirtual 198) 3 61 := ⟨by decide +kernel, rfl⟩
theorem dX12_readPerson_61 : dc cX12_readPerson 61 (.invokevirtual 288) 3 64 := ⟨by decide +kernel, rfl⟩
theorem dX12_readPerson_64 : dc cX12_readPerson 64 (.ifCond .eq 14) 3 67 := ⟨by decide +kernel, rfl⟩
theorem dX12_readPerson_67 : dc cX12_readPerson 67 (.aload_n 0) 1 68 := ⟨by decide +kernel, rfl⟩
theorem dX12_readPerson_68 : dc cX12_readPerson 68 (.getfield 35) 3 71 := ⟨by decide +kernel, rfl⟩
theorem dX12_readPerson_71 : dc cX12_readPerson 71 (.sipush 2346) 3 74 := ⟨by decide +kernel, rfl⟩
theorem dX12_readPerson_74 : dc cX12_readPerson 74 (.iload_n 2) 1 75 := ⟨by decide +kernel, rfl⟩
theorem dX12_readPerson_75 : dc cX12_readPerson 75 (.iadd) 1 76 := ⟨by decide +kernel, rfl⟩
theorem dX12_readPerson_76 : dc cX12_readPerson 76 (.iconst 1) 1 77 := ⟨by decide +kernel, rfl⟩
theorem dX12_readPerson_77 : dc cX12_readPerson 77 (.iastore) 1 78 := ⟨by decide +kernel, rfl⟩
theorem dX12_readPerson_78 : dc cX12_readPerson 78 (.aload_n 0) 1 79 := ⟨by decide +kernel, rfl⟩
theorem dX12_readPerson_79 : dc cX12_readPerson 79 (.getfield 220) 3 82 := ⟨by decide +kernel, rfl⟩
theorem dX12_readPerson_82 : dc cX12_readPerson 82 (.ifCond .ne 15) 3 85 := ⟨by decide +kernel, rfl⟩
theorem dX12_readPerson_85 : dc cX12_readPerson 85 (.aload_n 0) 1 86 := ⟨by decide +kernel, rfl⟩
theorem dX12_readPerson_86 : dc cX12_readPerson 86 (.getfield 35) 3 89 := ⟨by decide +kernel, rfl⟩
theorem dX12_readPerson_89 : dc cX12_readPerson 89 (.sipush 2250) 3 92 := ⟨by decide +kernel, rfl⟩
theorem dX12_readPerson_92 : dc cX12_readPerson 92 (.dup2) 1 93 := ⟨by decide +kernel, rfl⟩
theorem dX12_readPerson_93 : dc cX12_readPerson 93 (.iaload) 1 94 := ⟨by decide +kernel, rfl⟩
theorem dX12_readPerson_94 : dc cX12_readPerson 94 (.iconst 1) 1 95 := ⟨by decide +kernel, rfl⟩
theorem dX12_readPerson_95 : dc cX12_readPerson 95 (.iadd) 1 96 := ⟨by decide +kernel, rfl⟩
theorem dX12_readPerson_96 : dc cX12_readPerson 96 (.iastore) 1 97 := ⟨by decide +kernel, rfl⟩
theorem dX12_readPerson_97 : dc cX12_readPerson 97 (.return_) 1 98 := ⟨by decide +kernel, rfl⟩
theorem nm_X12_readPerson : (yX12_readPerson).cls ≠ "java/lang/invoke/MethodHandle" ∧ (yX12_readPerson).cls ≠ "java/lang/invoke/VarHandle" ∧ (parseMethodDescriptor (yX12_readPerson).desc).map (fun d => d.parameters.length) = some 1 := ⟨by decide +kernel, by decide +kernel, by decide +kernel⟩
set_option maxRecDepth 100000 in
set_option maxHeartbeats 4000000 in
theorem c_X12_readPerson {l : Launch} {ad : Nat → Nat} {cy : Nat → ClassId} {D : va_G} {z : Nat} (n : Nat) {a0 : Nat} {p1 : Int32} {M : KM} {y : KM} (h0 : kty a0 = 12) (hf : f_X12_readPerson n a0 p1 M = some y) : KC l ad cy D z yX12_readPerson cX12_readPerson 3 none 7 [.ref (ad a0), .int p1] M (none, y) := by
  refine kv_enter (by decide +kernel) (Nat.le_of_ble_eq_true rfl) ?_
  intro x hl hD hz G
  subst hl hD hz
  unfold f_X12_readPerson at hf
  have G : KG ad cy x cX12_readPerson "NoonGuidesModel" 3 (some none) 7 := G
  show KV ad cy x (none, y) 0 [(0, .ref (ad a0)), (1, .int p1)] [] M
  refine v_aload_n G dX12_readPerson_0 0 rfl ?_
  refine v_iconst (1 : Int32) G dX12_readPerson_1 (by decide) ?_
  obtain ⟨v1, hcv1, hf⟩ := bd_e hf
  refine v_callV [.int (1 : Int32)] G (c_X12_readNew n h0 hcv1) h0 (by decide) rfl rfl rfl t_1798 t_1800 t_p81 t_17 t_1801 nm_X12_readNew (by decide) (by decide) rfl rfl (Nat.le_of_ble_eq_true rfl) dX12_readPerson_2 (kv_ri ?_)
  refine v_istore_n [(2, .int v1.1), (0, .ref (ad a0)), (1, .int p1)] G dX12_readPerson_5 (by decide) rfl ?_
  refine v_aload_n G dX12_readPerson_6 1 rfl ?_
  refine v_aload_n G dX12_readPerson_7 1 rfl ?_
  obtain ⟨v2, hcv2⟩ : ∃ q, f_X12_testWord a0 v1.2 = q := ⟨_, rfl⟩
  replace hf := lt_e hf hcv2.symm
  refine v_callV [] G (c_X12_testWord h0 hcv2) h0 (by decide) rfl rfl rfl t_1721 t_1723 t_p64 t_17 t_1724 nm_X12_testWord (by decide) (by decide) rfl rfl (Nat.le_of_ble_eq_true rfl) dX12_readPerson_8 (kv_ri ?_)
  obtain ⟨j19, ej19, hf⟩ := lt_j hf
  have hj19 : ∀ (x3 : Int32), j19 x3 = some y → KV ad cy x (none, y) 19 [(0, .ref (ad a0)), (1, .int p1), (2, .int v1.1)] [.int x3, .ref (ad a0)] v1.2 := by
    intro x3 hf
    rw [ej19] at hf
    obtain ⟨v4, hcv4, hf⟩ := bd_e hf
    refine v_callV [.int x3] G (c_X12_must n h0 hcv4) h0 (by decide) rfl rfl rfl t_1762 t_1764 t_p72 t_17 t_1765 nm_X12_must (by decide) (by decide) rfl rfl (Nat.le_of_ble_eq_true rfl) dX12_readPerson_19 (kv_rv ?_)
    refine v_aload_n G dX12_readPerson_22 0 rfl ?_
    refine gf_12_20 G h0 t_1511 (Or.inl rfl) dX12_readPerson_23 ?_
    refine v_sipush (2306 : Int32) G dX12_readPerson_26 (by decide) ?_
    refine v_iload_n G dX12_readPerson_29 2 rfl ?_
    refine v_iadd G dX12_readPerson_30 ?_
    refine v_aload_n G dX12_readPerson_31 0 rfl ?_
    refine v_iconst (4 : Int32) G dX12_readPerson_32 (by decide) ?_
    refine v_iconst (0 : Int32) G dX12_readPerson_33 (by decide) ?_
    obtain ⟨v5, hcv5, hf⟩ := bd_e hf
    refine v_callV [.int (4 : Int32), .int (0 : Int32)] G (c_X12_readTold n h0 hcv5) h0 (by decide) rfl rfl rfl t_1860 t_1862 t_p96 t_17 t_1863 nm_X12_readTold (by decide) (by decide) rfl rfl (Nat.le_of_ble_eq_true rfl) dX12_readPerson_34 (kv_ri ?_)
    obtain ⟨g6, hf⟩ := gd_e hf
    refine as_36 G (kf_12_5 h0) g6 dX12_readPerson_37 ?_
    refine v_nmM (fun M7 eM7 => ?_)
    replace hf := lt_e hf eM7
    refine v_iload_n G dX12_readPerson_38 1 rfl ?_
    obtain ⟨j78, ej78, hf⟩ := lt_j hf
    have hj78 : ∀ (M8 : KM), j78 M8 = some y → KV ad cy x (none, y) 78 [(0, .ref (ad a0))] [] M8 := by
      intro M8 hf
      rw [ej78] at hf
      refine v_aload_n G dX12_readPerson_78 0 rfl ?_
      refine gf_12_12 G h0 t_1503 (Or.inl rfl) dX12_readPerson_79 ?_
      refine v_if_ne 97 G dX12_readPerson_82 (by decide) (fun h12 => ?_) (fun h12 => ?_)
      · replace hf := (if_neg h12).symm.trans hf
        obtain rfl := Option.some.inj hf
        exact v_vret G dX12_readPerson_97
      · replace hf := (if_pos h12).symm.trans hf
        refine v_aload_n G dX12_readPerson_85 0 rfl ?_
        refine gf_12_20 G h0 t_1511 (Or.inl rfl) dX12_readPerson_86 ?_
        refine v_sipush (2250 : Int32) G dX12_readPerson_89 (by decide) ?_
        refine v_dup2 G dX12_readPerson_92 rfl rfl ?_
        obtain ⟨g9, hf⟩ := gd_e hf
        refine al_36 G (kf_12_5 h0) g9 dX12_readPerson_93 ?_
        refine v_iconst (1 : Int32) G dX12_readPerson_94 (by decide) ?_
        refine v_iadd G dX12_readPerson_95 ?_
        obtain ⟨g10, hf⟩ := gd_e hf
        refine as_36 G (kf_12_5 h0) g10 dX12_readPerson_96 ?_
        refine v_nmM (fun M11 eM11 => ?_)
        replace hf := lt_e hf eM11
        obtain rfl := Option.some.inj hf
        exact v_vret G dX12_readPerson_97
    refine v_if_eq 56 G dX12_readPerson_39 (by decide) (fun h20 => ?_) (fun h20 => ?_)
    · replace hf := (if_pos h20).symm.trans hf
      refine v_aload_n G dX12_readPerson_56 0 rfl ?_
      refine v_aload_n G dX12_readPerson_57 0 rfl ?_
      obtain ⟨v13, hcv13⟩ : ∃ q, f_X12_isGlasses a0 M7 = q := ⟨_, rfl⟩
      replace hf := lt_e hf hcv13.symm
      refine v_callV [] G (c_X12_isGlasses h0 hcv13) h0 (by decide) rfl rfl rfl t_1832 t_1834 t_p89 t_17 t_1835 nm_X12_isGlasses (by decide) (by decide) rfl rfl (Nat.le_of_ble_eq_true rfl) dX12_readPerson_58 (kv_ri ?_)
      obtain ⟨v14, hcv14, hf⟩ := bd_e hf
      refine v_callV [.int v13] G (c_X12_perhaps n h0 hcv14) h0 (by decide) rfl rfl rfl t_1873 t_1875 t_p99 t_17 t_1876 nm_X12_perhaps (by decide) (by decide) rfl rfl (Nat.le_of_ble_eq_true rfl) dX12_readPerson_61 (kv_ri ?_)
      refine v_if_eq 78 G dX12_readPerson_64 (by decide) (fun h17 => ?_) (fun h17 => ?_)
      · replace hf := (if_pos h17).symm.trans hf
        refine v_sub _ [0] rfl ?_
        exact hj78 v14.2 hf
      · replace hf := (if_neg h17).symm.trans hf
        refine v_aload_n G dX12_readPerson_67 0 rfl ?_
        refine gf_12_20 G h0 t_1511 (Or.inl rfl) dX12_readPerson_68 ?_
        refine v_sipush (2346 : Int32) G dX12_readPerson_71 (by decide) ?_
        refine v_iload_n G dX12_readPerson_74 2 rfl ?_
        refine v_iadd G dX12_readPerson_75 ?_
        refine v_iconst (1 : Int32) G dX12_readPerson_76 (by decide) ?_
        obtain ⟨g15, hf⟩ := gd_e hf
        refine as_36 G (kf_12_5 h0) g15 dX12_readPerson_77 ?_
        refine v_nmM (fun M16 eM16 => ?_)
        replace hf := lt_e hf eM16
        refine v_sub _ [0] rfl ?_
        exact hj78 M16 hf
    · replace hf := (if_neg h20).symm.trans hf
      refine v_aload_n G dX12_readPerson_42 0 rfl ?_
      refine gf_12_20 G h0 t_1511 (Or.inl rfl) dX12_readPerson_43 ?_
      refine v_sipush (2354 : Int32) G dX12_readPerson_46 (by decide) ?_
      refine v_iload_n G dX12_readPerson_49 2 rfl ?_
      refine v_iadd G dX12_readPerson_50 ?_
      refine v_iconst (1 : Int32) G dX12_readPerson_51 (by decide) ?_
      obtain ⟨g18, hf⟩ := gd_e hf
      refine as_36 G (kf_12_5 h0) g18 dX12_readPerson_52 ?_
      refine v_nmM (fun M19 eM19 => ?_)
      replace hf := lt_e hf eM19
      refine v_goto 78 G dX12_readPerson_53 (by decide) ?_
      refine v_sub _ [0] rfl ?_
      exact hj78 M19 hf
  refine v_if_ne 18 G dX12_readPerson_11 (by decide) (fun h21 => ?_) (fun h21 => ?_)
  · replace hf := (if_neg h21).symm.trans hf
    refine v_iconst (0 : Int32) G dX12_readPerson_18 (by decide) ?_
    refine v_sub _ [1, 2, 0] rfl ?_
    exact hj19 (0 : Int32) hf
  · replace hf := (if_pos h21).symm.trans hf
    refine v_iconst (1 : Int32) G dX12_readPerson_14 (by decide) ?_
    refine v_goto 19 G dX12_readPerson_15 (by decide) ?_
    refine v_sub _ [1, 2, 0] rfl ?_
    exact hj19 (1 : Int32) hf
abbrev cX12_readKnows : ByteArray := prog_14_method_70_code
def yX12_readKnows : MethodName := ⟨RX12, "readKnows", "()V"⟩
theorem dX12_readKnows_0 : dc cX12_readKnows 0 (.aload_n 0) 1 1 := ⟨by decide +kernel, rfl⟩
theorem dX12_readKnows_1 : dc cX12_readKnows 1 (.invokevirtual 230) 3 4 := ⟨by decide +kernel, rfl⟩
theorem dX12_readKnows_4 : dc cX12_readKnows 4 (.aload_n 0) 1 5 := ⟨by decide +kernel, rfl⟩
theorem dX12_readKnows_5 : dc cX12_readKnows 5 (.iconst 1) 1 6 := ⟨by decide +kernel, rfl⟩
theorem dX12_readKnows_6 : dc cX12_readKnows 6 (.putfield 270) 3 9 := ⟨by decide +kernel, rfl⟩
theorem dX12_readKnows_9 : dc cX12_readKnows 9 (.aload_n 0) 1 10 := ⟨by decide +kernel, rfl⟩
theorem dX12_readKnows_10 : dc cX12_readKnows 10 (.iconst 4) 1 11 := ⟨by decide +kernel, rfl⟩
theorem dX12_readKnows_11 : dc cX12_readKnows 11 (.iconst 1) 1 12 := ⟨by decide +kernel, rfl⟩
theorem dX12_readKnows_12 : dc cX12_readKnows 12 (.invokevirtual 281) 3 15 := ⟨by decide +kernel, rfl⟩
theorem dX12_readKnows_15 : dc cX12_readKnows 15 (.istore_n 1) 1 16 := ⟨by decide +kernel, rfl⟩
theorem dX12_readKnows_16 : dc cX12_readKnows 16 (.aload_n 0) 1 17 := ⟨by decide +kernel, rfl⟩
theorem dX12_readKnows_17 : dc cX12_readKnows 17 (.iconst 4) 1 18 := ⟨by decide +kernel, rfl⟩
theorem dX12_readKnows_18 : dc cX12_readKnows 18 (.iconst 0) 1 19 := ⟨by decide +kernel, rfl⟩
theorem dX12_readKnows_19 : dc cX12_readKnows 19 (.invokevirtual 281) 3 22 := ⟨by decide +kernel, rfl⟩
theorem dX12_readKnows_22 : dc cX12_readKnows 22 (.istore_n 2) 1 23 := ⟨by decide +kernel, rfl⟩
theorem dX12_readKnows_23 : dc cX12_readKnows 23 (.aload_n 0) 1 24 := ⟨by decide +kernel, rfl⟩
theorem dX12_readKnows_24 : dc cX12_readKnows 24 (.iconst 4) 1 25 := ⟨by decide +kernel, rfl⟩
theorem dX12_readKnows_25 : dc cX12_readKnows 25 (.iconst 0) 1 26 := ⟨by decide +kernel, rfl⟩
theorem dX12_readKnows_26 : dc cX12_readKnows 26 (.invokevirtual 254) 3 29 := ⟨by decide +kernel, rfl⟩
theorem dX12_readKnows_29 : dc cX12_readKnows 29 (.istore_n 3) 1 30 := ⟨by decide +kernel, rfl⟩
theorem dX12_readKnows_30 : dc cX12_readKnows 30 (.aload_n 0) 1 31 := ⟨by decide +kernel, rfl⟩
theorem dX12_readKnows_31 : dc cX12_readKnows 31 (.getfield 220) 3 34 := ⟨by decide +kernel, rfl⟩
theorem dX12_readKnows_34 : dc cX12_readKnows 34 (.ifCond .ne 13) 3 37 := ⟨by decide +kernel, rfl⟩
theorem dX12_readKnows_37 : dc cX12_readKnows 37 (.aload_n 0) 1 38 := ⟨by decide +kernel, rfl⟩
theorem dX12_readKnows_38 : dc cX12_readKnows 38 (.iconst 4) 1 39 := ⟨by decide +kernel, rfl⟩
theorem dX12_readKnows_39 : dc cX12_readKnows 39 (.iload_n 2) 1 40 := ⟨by decide +kernel, rfl⟩
theorem dX12_readKnows_40 : dc cX12_readKnows 40 (.iload_n 3) 1 41 := ⟨by decide +kernel, rfl⟩
theorem dX12_readKnows_41 : dc cX12_readKnows 41 (.invokevirtual 284) 3 44 := ⟨by decide +kernel, rfl⟩
theorem dX12_readKnows_44 : dc cX12_readKnows 44 (.goto 4) 3 47 := ⟨by decide +kernel, rfl⟩
theorem dX12_readKnows_47 : dc cX12_readKnows 47 (.iconst 0) 1 48 := ⟨by decide +kernel, rfl⟩
theorem dX12_readKnows_48 : dc cX12_readKnows 48 (.istore 4) 2 50 := ⟨by decide +kernel, rfl⟩
theorem dX12_readKnows_50 : dc cX12_readKnows 50 (.iload 4) 2 52 := ⟨by decide +kernel, rfl⟩
theorem dX12_readKnows_52 : dc cX12_readKnows 52 (.ifCond .ge 12) 3 55 := ⟨by decide +kernel, rfl⟩
theorem dX12_readKnows_55 : dc cX12_readKnows 55 (.aload_n 0) 1 56 := ⟨by decide +kernel, rfl⟩
theorem dX12_readKnows_56 : dc cX12_readKnows 56 (.iconst 3) 1 57 := ⟨by decide +kernel, rfl⟩
theorem dX12_readKnows_57 : dc cX12_readKnows 57 (.aload_n 0) 1 58 := ⟨by decide +kernel, rfl⟩
theorem dX12_readKnows_58 : dc cX12_readKnows 58 (.getfield 124) 3 61 := ⟨by decide +kernel, rfl⟩
theorem dX12_readKnows_61 : dc cX12_readKnows 61 (.invokevirtual 226) 3 64 := ⟨by decide +kernel, rfl⟩
theorem dX12_readKnows_64 : dc cX12_readKnows 64 (.aload_n 0) 1 65 := ⟨by decide +kernel, rfl⟩
theorem dX12_readKnows_65 : dc cX12_readKnows 65 (.iconst 1) 1 66 := ⟨by decide +kernel, rfl⟩
theorem dX12_readKnows_66 : dc cX12_readKnows 66 (.invokevirtual 257) 3 69 := ⟨by decide +kernel, rfl⟩
theorem dX12_readKnows_69 : dc cX12_readKnows 69 (.aload_n 0) 1 70 := ⟨by decide +kernel, rfl⟩
theorem dX12_readKnows_70 : dc cX12_readKnows 70 (.getfield 220) 3 73 := ⟨by decide +kernel, rfl⟩
theorem dX12_readKnows_73 : dc cX12_readKnows 73 (.ifCond .ne 27) 3 76 := ⟨by decide +kernel, rfl⟩
theorem dX12_readKnows_76 : dc cX12_readKnows 76 (.aload_n 0) 1 77 := ⟨by decide +kernel, rfl⟩
theorem dX12_readKnows_77 : dc cX12_readKnows 77 (.getfield 35) 3 80 := ⟨by decide +kernel, rfl⟩
theorem dX12_readKnows_80 : dc cX12_readKnows 80 (.sipush 2378) 3 83 := ⟨by decide +kernel, rfl⟩
theorem dX12_readKnows_83 : dc cX12_readKnows 83 (.bipush 12) 2 85 := ⟨by decide +kernel, rfl⟩
theorem dX12_readKnows_85 : dc cX12_readKnows 85 (.iload_n 1) 1 86 := ⟨by decide +kernel, rfl⟩
theorem dX12_readKnows_86 : dc cX12_readKnows 86 (.imul) 1 87 := ⟨by decide +kernel, rfl⟩
theorem dX12_readKnows_87 : dc cX12_readKnows 87 (.iadd) 1 88 := ⟨by decide +kernel, rfl⟩
theorem dX12_readKnows_88 : dc cX12_readKnows 88 (.iload 4) 2 90 := ⟨by decide +kernel, rfl⟩
theorem dX12_readKnows_90 : dc cX12_readKnows 90 (.iadd) 1 91 := ⟨by decide +kernel, rfl⟩
theorem dX12_readKnows_91 : dc cX12_readKnows 91 (.aload_n 0) 1 92 := ⟨by decide +kernel, rfl⟩
theorem dX12_readKnows_92 : dc cX12_readKnows 92 (.getfield 35) 3 95 := ⟨by decide +kernel, rfl⟩
theorem dX12_readKnows_95 : dc cX12_readKnows 95 (.sipush 2255) 3 98 := ⟨by decide +kernel, rfl⟩
theorem dX12_readKnows_98 : dc cX12_readKnows 98 (.iaload) 1 99 := ⟨by decide +kernel, rfl⟩
theorem dX12_readKnows_99 : dc cX12_readKnows 99 (.iastore) 1 100 := ⟨by decide +kernel, rfl⟩
theorem dX12_readKnows_100 : dc cX12_readKnows 100 (.return_) 1 101 := ⟨by decide +kernel, rfl⟩
theorem nm_X12_readKnows : (yX12_readKnows).cls ≠ "java/lang/invoke/MethodHandle" ∧ (yX12_readKnows).cls ≠ "java/lang/invoke/VarHandle" ∧ (parseMethodDescriptor (yX12_readKnows).desc).map (fun d => d.parameters.length) = some 0 := ⟨by decide +kernel, by decide +kernel, by decide +kernel⟩
set_option maxRecDepth 100000 in
set_option maxHeartbeats 4000000 in
theorem c_X12_readKnows {l : Launch} {ad : Nat → Nat} {cy : Nat → ClassId} {D : va_G} {z : Nat} (n : Nat) {a0 : Nat} {M : KM} {y : KM} (h0 : kty a0 = 12) (hf : f_X12_readKnows n a0 M = some y) : KC l ad cy D z yX12_readKnows cX12_readKnows 5 none 7 [.ref (ad a0)] M (none, y) := by
  refine kv_enter (by decide +kernel) (Nat.le_of_ble_eq_true rfl) ?_
  intro x hl hD hz G
  subst hl hD hz
  unfold f_X12_readKnows at hf
  have G : KG ad cy x cX12_readKnows "NoonGuidesModel" 5 (some none) 7 := G
  show KV ad cy x (none, y) 0 [(0, .ref (ad a0))] [] M
  refine v_aload_n G dX12_readKnows_0 0 rfl ?_
  obtain ⟨v1, hcv1, hf⟩ := bd_e hf
  refine v_callV [] G (c_X12_advance n h0 hcv1) h0 (by decide) rfl rfl rfl t_1697 t_1699 t_p60 t_17 t_1700 nm_X12_advance (by decide) (by decide) rfl rfl (Nat.le_of_ble_eq_true rfl) dX12_readKnows_1 (kv_rv ?_)
  refine v_aload_n G dX12_readKnows_4 0 rfl ?_
  refine v_iconst (1 : Int32) G dX12_readKnows_5 (by decide) ?_
  refine pf_12_26 G h0 (Or.inr rfl) t_1517 (Or.inl rfl) dX12_readKnows_6 ?_
  refine v_nmM (fun M2 eM2 => ?_)
  replace hf := lt_e hf eM2
  refine v_aload_n G dX12_readKnows_9 0 rfl ?_
  refine v_iconst (4 : Int32) G dX12_readKnows_10 (by decide) ?_
  refine v_iconst (1 : Int32) G dX12_readKnows_11 (by decide) ?_
  obtain ⟨v3, hcv3, hf⟩ := bd_e hf
  refine v_callV [.int (4 : Int32), .int (1 : Int32)] G (c_X12_readTold n h0 hcv3) h0 (by decide) rfl rfl rfl t_1860 t_1862 t_p96 t_17 t_1863 nm_X12_readTold (by decide) (by decide) rfl rfl (Nat.le_of_ble_eq_true rfl) dX12_readKnows_12 (kv_ri ?_)
  refine v_istore_n [(1, .int v3.1), (0, .ref (ad a0))] G dX12_readKnows_15 (by decide) rfl ?_
  refine v_aload_n G dX12_readKnows_16 1 rfl ?_
  refine v_iconst (4 : Int32) G dX12_readKnows_17 (by decide) ?_
  refine v_iconst (0 : Int32) G dX12_readKnows_18 (by decide) ?_
  obtain ⟨v4, hcv4, hf⟩ := bd_e hf
  refine v_callV [.int (4 : Int32), .int (0 : Int32)] G (c_X12_readTold n h0 hcv4) h0 (by decide) rfl rfl rfl t_1860 t_1862 t_p96 t_17 t_1863 nm_X12_readTold (by decide) (by decide) rfl rfl (Nat.le_of_ble_eq_true rfl) dX12_readKnows_19 (kv_ri ?_)
  refine v_istore_n [(2, .int v4.1), (1, .int v3.1), (0, .ref (ad a0))] G dX12_readKnows_22 (by decide) rfl ?_
  refine v_aload_n G dX12_readKnows_23 2 rfl ?_
  refine v_iconst (4 : Int32) G dX12_readKnows_24 (by decide) ?_
  refine v_iconst (0 : Int32) G dX12_readKnows_25 (by decide) ?_
  obtain ⟨v5, hcv5, hf⟩ := bd_e hf
  refine v_callV [.int (4 : Int32), .int (0 : Int32)] G (c_X12_told n h0 hcv5) h0 (by decide) rfl rfl rfl t_1864 t_1866 t_p97 t_17 t_1867 nm_X12_told (by decide) (by decide) rfl rfl (Nat.le_of_ble_eq_true rfl) dX12_readKnows_26 (kv_ri ?_)
  refine v_istore_n [(3, .int v5.1), (2, .int v4.1), (1, .int v3.1), (0, .ref (ad a0))] G dX12_readKnows_29 (by decide) rfl ?_
  refine v_aload_n G dX12_readKnows_30 3 rfl ?_
  refine gf_12_12 G h0 t_1503 (Or.inl rfl) dX12_readKnows_31 ?_
  obtain ⟨j48, ej48, hf⟩ := lt_j hf
  have hj48 : ∀ (x6 : Int32), j48 x6 = some y → KV ad cy x (none, y) 48 [(0, .ref (ad a0)), (1, .int v3.1)] [.int x6] v5.2 := by
    intro x6 hf
    rw [ej48] at hf
    refine v_istore [(4, .int x6), (0, .ref (ad a0)), (1, .int v3.1)] G dX12_readKnows_48 (by decide) rfl ?_
    refine v_iload G dX12_readKnows_50 0 rfl ?_
    obtain ⟨j64, ej64, hf⟩ := lt_j hf
    have hj64 : ∀ (M7 : KM), j64 M7 = some y → KV ad cy x (none, y) 64 [(0, .ref (ad a0)), (1, .int v3.1), (4, .int x6)] [] M7 := by
      intro M7 hf
      rw [ej64] at hf
      refine v_aload_n G dX12_readKnows_64 0 rfl ?_
      refine v_iconst (1 : Int32) G dX12_readKnows_65 (by decide) ?_
      obtain ⟨v8, hcv8, hf⟩ := bd_e hf
      refine v_callV [.int (1 : Int32)] G (c_X12_must n h0 hcv8) h0 (by decide) rfl rfl rfl t_1762 t_1764 t_p72 t_17 t_1765 nm_X12_must (by decide) (by decide) rfl rfl (Nat.le_of_ble_eq_true rfl) dX12_readKnows_66 (kv_rv ?_)
      refine v_aload_n G dX12_readKnows_69 0 rfl ?_
      refine gf_12_12 G h0 t_1503 (Or.inl rfl) dX12_readKnows_70 ?_
      refine v_if_ne 100 G dX12_readKnows_73 (by decide) (fun h12 => ?_) (fun h12 => ?_)
      · replace hf := (if_neg h12).symm.trans hf
        obtain rfl := Option.some.inj hf
        exact v_vret G dX12_readKnows_100
      · replace hf := (if_pos h12).symm.trans hf
        refine v_aload_n G dX12_readKnows_76 0 rfl ?_
        refine gf_12_20 G h0 t_1511 (Or.inl rfl) dX12_readKnows_77 ?_
        refine v_sipush (2378 : Int32) G dX12_readKnows_80 (by decide) ?_
        refine v_bipush (12 : Int32) G dX12_readKnows_83 (by decide) ?_
        refine v_iload_n G dX12_readKnows_85 1 rfl ?_
        refine v_imul G dX12_readKnows_86 ?_
        refine v_iadd G dX12_readKnows_87 ?_
        refine v_iload G dX12_readKnows_88 2 rfl ?_
        refine v_iadd G dX12_readKnows_90 ?_
        refine v_aload_n G dX12_readKnows_91 0 rfl ?_
        refine gf_12_20 G h0 t_1511 (Or.inl rfl) dX12_readKnows_92 ?_
        refine v_sipush (2255 : Int32) G dX12_readKnows_95 (by decide) ?_
        obtain ⟨g9, hf⟩ := gd_e hf
        refine al_36 G (kf_12_5 h0) g9 dX12_readKnows_98 ?_
        obtain ⟨g10, hf⟩ := gd_e hf
        refine as_36 G (kf_12_5 h0) g10 dX12_readKnows_99 ?_
        refine v_nmM (fun M11 eM11 => ?_)
        replace hf := lt_e hf eM11
        obtain rfl := Option.some.inj hf
        exact v_vret G dX12_readKnows_100
    refine v_if_ge 64 G dX12_readKnows_52 (by decide) (fun h14 => ?_) (fun h14 => ?_)
    · replace hf := (if_pos h14).symm.trans hf
      refine v_sub _ [1, 2, 0] rfl ?_
      exact hj64 v5.2 hf
    · replace hf := (if_neg h14).symm.trans hf
      refine v_aload_n G dX12_readKnows_55 1 rfl ?_
      refine v_iconst (3 : Int32) G dX12_readKnows_56 (by decide) ?_
      refine v_aload_n G dX12_readKnows_57 1 rfl ?_
      refine gf_12_15 G h0 t_1506 (Or.inl rfl) dX12_readKnows_58 ?_
      obtain ⟨v13, hcv13⟩ : ∃ q, f_X12_fail a0 (3 : Int32) (v5.2.1 a0 15) v5.2 = q := ⟨_, rfl⟩
      replace hf := lt_e hf hcv13.symm
      refine v_callV [.int (3 : Int32), .int (v5.2.1 a0 15)] G (c_X12_fail h0 hcv13) h0 (by decide) rfl rfl rfl t_1743 t_1745 t_p68 t_17 t_1746 nm_X12_fail (by decide) (by decide) rfl rfl (Nat.le_of_ble_eq_true rfl) dX12_readKnows_61 (kv_rv ?_)
      refine v_sub _ [1, 2, 0] rfl ?_
      exact hj64 v13 hf
  refine v_if_ne 47 G dX12_readKnows_34 (by decide) (fun h16 => ?_) (fun h16 => ?_)
  · replace hf := (if_neg h16).symm.trans hf
    refine v_iconst (0 : Int32) G dX12_readKnows_47 (by decide) ?_
    refine v_sub _ [3, 2] rfl ?_
    exact hj48 (0 : Int32) hf
  · replace hf := (if_pos h16).symm.trans hf
    refine v_aload_n G dX12_readKnows_37 3 rfl ?_
    refine v_iconst (4 : Int32) G dX12_readKnows_38 (by decide) ?_
    refine v_iload_n G dX12_readKnows_39 1 rfl ?_
    refine v_iload_n G dX12_readKnows_40 0 rfl ?_
    obtain ⟨v15, hcv15, hf⟩ := bd_e hf
    refine v_callV [.int (4 : Int32), .int v4.1, .int v5.1] G (c_X12_roadBy n h0 hcv15) h0 (by decide) rfl rfl rfl t_1869 t_1871 t_p98 t_17 t_1872 nm_X12_roadBy (by decide) (by decide) rfl rfl (Nat.le_of_ble_eq_true rfl) dX12_readKnows_41 (kv_ri ?_)
    refine v_goto 48 G dX12_readKnows_44 (by decide) ?_
    refine v_sub _ [3, 2] rfl ?_
    exact hj48 v15 hf
abbrev cX12_readPart : ByteArray := prog_14_method_71_code
def yX12_readPart : MethodName := ⟨RX12, "readPart", "()V"⟩
theorem dX12_readPart_0 : dc cX12_readPart 0 (.aload_n 0) 1 1 := ⟨by decide +kernel, rfl⟩
theorem dX12_readPart_1 : dc cX12_readPart 1 (.invokevirtual 211) 3 4 := ⟨by decide +kernel, rfl⟩
theorem dX12_readPart_4 : dc cX12_readPart 4 (.iconst 1) 1 5 := ⟨by decide +kernel, rfl⟩
theorem dX12_readPart_5 : dc cX12_readPart 5 (.if_icmp .ne 10) 3 8 := ⟨by decide +kernel, rfl⟩
theorem dX12_readPart_8 : dc cX12_readPart 8 (.aload_n 0) 1 9 := ⟨by decide +kernel, rfl⟩
theorem dX12_readPart_9 : dc cX12_readPart 9 (.invokevirtual 292) 3 12 := ⟨by decide +kernel, rfl⟩
theorem dX12_readPart_12 : dc cX12_readPart 12 (.goto 153) 3 15 := ⟨by decide +kernel, rfl⟩
theorem dX12_readPart_15 : dc cX12_readPart 15 (.aload_n 0) 1 16 := ⟨by decide +kernel, rfl⟩
theorem dX12_readPart_16 : dc cX12_readPart 16 (.invokevirtual 171) 3 19 := ⟨by decide +kernel, rfl⟩
theorem dX12_readPart_19 : dc cX12_readPart 19 (.ifCond .eq 16) 3 22 := ⟨by decide +kernel, rfl⟩
theorem dX12_readPart_22 : dc cX12_readPart 22 (.aload_n 0) 1 23 := ⟨by decide +kernel, rfl⟩
theorem dX12_readPart_23 : dc cX12_readPart 23 (.iconst 1) 1 24 := ⟨by decide +kernel, rfl⟩
theorem dX12_readPart_24 : dc cX12_readPart 24 (.iconst 5) 1 25 := ⟨by decide +kernel, rfl⟩
theorem dX12_readPart_25 : dc cX12_readPart 25 (.iconst 0) 1 26 := ⟨by decide +kernel, rfl⟩
theorem dX12_readPart_26 : dc cX12_readPart 26 (.sipush 1439) 3 29 := ⟨by decide +kernel, rfl⟩
theorem dX12_readPart_29 : dc cX12_readPart 29 (.invokevirtual 274) 3 32 := ⟨by decide +kernel, rfl⟩
theorem dX12_readPart_32 : dc cX12_readPart 32 (.goto 133) 3 35 := ⟨by decide +kernel, rfl⟩
theorem dX12_readPart_35 : dc cX12_readPart 35 (.aload_n 0) 1 36 := ⟨by decide +kernel, rfl⟩
theorem dX12_readPart_36 : dc cX12_readPart 36 (.invokevirtual 174) 3 39 := ⟨by decide +kernel, rfl⟩
theorem dX12_readPart_39 : dc cX12_readPart 39 (.ifCond .eq 16) 3 42 := ⟨by decide +kernel, rfl⟩
theorem dX12_readPart_42 : dc cX12_readPart 42 (.aload_n 0) 1 43 := ⟨by decide +kernel, rfl⟩
theorem dX12_readPart_43 : dc cX12_readPart 43 (.iconst 2) 1 44 := ⟨by decide +kernel, rfl⟩
theorem dX12_readPart_44 : dc cX12_readPart 44 (.bipush 6) 2 46 := ⟨by decide +kernel, rfl⟩
theorem dX12_readPart_46 : dc cX12_readPart 46 (.iconst 1) 1 47 := ⟨by decide +kernel, rfl⟩
theorem dX12_readPart_47 : dc cX12_readPart 47 (.bipush 9) 2 49 := ⟨by decide +kernel, rfl⟩
theorem dX12_readPart_49 : dc cX12_readPart 49 (.invokevirtual 274) 3 52 := ⟨by decide +kernel, rfl⟩
theorem dX12_readPart_52 : dc cX12_readPart 52 (.goto 113) 3 55 := ⟨by decide +kernel, rfl⟩
theorem dX12_readPart_55 : dc cX12_readPart 55 (.aload_n 0) 1 56 := ⟨by decide +kernel, rfl⟩
theorem dX12_readPart_56 : dc cX12_readPart 56 (.invokevirtual 177) 3 59 := ⟨by decide +kernel, rfl⟩
theorem dX12_readPart_59 : dc cX12_readPart 59 (.ifCond .eq 10) 3 62 := ⟨by decide +kernel, rfl⟩
theorem dX12_readPart_62 : dc cX12_readPart 62 (.aload_n 0) 1 63 := ⟨by decide +kernel, rfl⟩
theorem dX12_readPart_63 : dc cX12_readPart 63 (.invokevirtual 295) 3 66 := ⟨by decide +kernel, rfl⟩
theorem dX12_readPart_66 : dc cX12_readPart 66 (.goto 99) 3 69 := ⟨by decide +kernel, rfl⟩
theorem dX12_readPart_69 : dc cX12_readPart 69 (.aload_n 0) 1 70 := ⟨by decide +kernel, rfl⟩
theorem dX12_readPart_70 : dc cX12_readPart 70 (.invokevirtual 180) 3 73 := ⟨by decide +kernel, rfl⟩
theorem dX12_readPart_73 : dc cX12_readPart 73 (.ifCond .eq 16) 3 76 := ⟨by decide +kernel, rfl⟩
theorem dX12_readPart_76 : dc cX12_readPart 76 (.aload_n 0) 1 77 := ⟨by decide +kernel, rfl⟩
theorem dX12_readPart_77 : dc cX12_readPart 77 (.iconst 4) 1 78 := ⟨by decide +kernel, rfl⟩
theorem dX12_readPart_78 : dc cX12_readPart 78 (.bipush 8) 2 80 := ⟨by decide +kernel, rfl⟩
theorem dX12_readPart_80 : dc cX12_readPart 80 (.iconst 0) 1 81 := ⟨by decide +kernel, rfl⟩
theorem dX12_readPart_81 : dc cX12_readPart 81 (.bipush 16) 2 83 := ⟨by decide +kernel, rfl⟩
theorem dX12_readPart_83 : dc cX12_readPart 83 (.invokevirtual 274) 3 86 := ⟨by decide +kernel, rfl⟩
theorem dX12_readPart_86 : dc cX12_readPart 86 (.goto 79) 3 89 := ⟨by decide +kernel, rfl⟩
theorem dX12_readPart_89 : dc cX12_readPart 89 (.aload_n 0) 1 90 := ⟨by decide +kernel, rfl⟩
theorem dX12_readPart_90 : dc cX12_readPart 90 (.invokevirtual 183) 3 93 := ⟨by decide +kernel, rfl⟩
theorem dX12_readPart_93 : dc cX12_readPart 93 (.ifCond .eq 10) 3 96 := ⟨by decide +kernel, rfl⟩
theorem dX12_readPart_96 : dc cX12_readPart 96 (.aload_n 0) 1 97 := ⟨by decide +kernel, rfl⟩
theorem dX12_readPart_97 : dc cX12_readPart 97 (.invokevirtual 298) 3 100 := ⟨by decide +kernel, rfl⟩
theorem dX12_readPart_100 : dc cX12_readPart 100 (.goto 65) 3 103 := ⟨by decide +kernel, rfl⟩
theorem dX12_readPart_103 : dc cX12_readPart 103 (.aload_n 0) 1 104 := ⟨by decide +kernel, rfl⟩
theorem dX12_readPart_104 : dc cX12_readPart 104 (.invokevirtual 186) 3 107 := ⟨by decide +kernel, rfl⟩
theorem dX12_readPart_107 : dc cX12_readPart 107 (.ifCond .eq 10) 3 110 := ⟨by decide +kernel, rfl⟩
theorem dX12_readPart_110 : dc cX12_readPart 110 (.aload_n 0) 1 111 := ⟨by decide +kernel, rfl⟩
theorem dX12_readPart_111 : dc cX12_readPart 111 (.invokevirtual 301) 3 114 := ⟨by decide +kernel, rfl⟩
theorem dX12_readPart_114 : dc cX12_readPart 114 (.goto 51) 3 117 := ⟨by decide +kernel, rfl⟩
theorem dX12_readPart_117 : dc cX12_readPart 117 (.aload_n 0) 1 118 := ⟨by decide +kernel, rfl⟩
theorem dX12_readPart_118 : dc cX12_readPart 118 (.invokevirtual 195) 3 121 := ⟨by decide +kernel, rfl⟩
theorem dX12_readPart_121 : dc cX12_readPart 121 (.ifCond .eq 11) 3 124 := ⟨by decide +kernel, rfl⟩
theorem dX12_readPart_124 : dc cX12_readPart 124 (.aload_n 0) 1 125 := ⟨by decide +kernel, rfl⟩
theorem dX12_readPart_125 : dc cX12_readPart 125 (.iconst 0) 1 126 := ⟨by decide +kernel, rfl⟩
theorem dX12_readPart_126 : dc cX12_readPart 126 (.invokevirtual 304) 3 129 := ⟨by decide +kernel, rfl⟩
theorem dX12_readPart_129 : dc cX12_readPart 129 (.goto 36) 3 132 := ⟨by decide +kernel, rfl⟩
theorem dX12_readPart_132 : dc cX12_readPart 132 (.aload_n 0) 1 133 := ⟨by decide +kernel, rfl⟩
theorem dX12_readPart_133 : dc cX12_readPart 133 (.invokevirtual 201) 3 136 := ⟨by decide +kernel, rfl⟩
theorem dX12_readPart_136 : dc cX12_readPart 136 (.ifCond .eq 11) 3 139 := ⟨by decide +kernel, rfl⟩
theorem dX12_readPart_139 : dc cX12_readPart 139 (.aload_n 0) 1 140 := ⟨by decide +kernel, rfl⟩
theorem dX12_readPart_140 : dc cX12_readPart 140 (.iconst 1) 1 141 := ⟨by decide +kernel, rfl⟩
theorem dX12_readPart_141 : dc cX12_readPart 141 (.invokevirtual 304) 3 144 := ⟨by decide +kernel, rfl⟩
theorem dX12_readPart_144 : dc cX12_readPart 144 (.goto 21) 3 147 := ⟨by decide +kernel, rfl⟩
theorem dX12_readPart_147 : dc cX12_readPart 147 (.aload_n 0) 1 148 := ⟨by decide +kernel, rfl⟩
theorem dX12_readPart_148 : dc cX12_readPart 148 (.invokevirtual 204) 3 151 := ⟨by decide +kernel, rfl⟩
theorem dX12_readPart_151 : dc cX12_readPart 151 (.ifCond .eq 10) 3 154 := ⟨by decide +kernel, rfl⟩
theorem dX12_readPart_154 : dc cX12_readPart 154 (.aload_n 0) 1 155 := ⟨by decide +kernel, rfl⟩
theorem dX12_readPart_155 : dc cX12_readPart 155 (.invokevirtual 307) 3 158 := ⟨by decide +kernel, rfl⟩
theorem dX12_readPart_158 : dc cX12_readPart 158 (.goto 7) 3 161 := ⟨by decide +kernel, rfl⟩
theorem dX12_readPart_161 : dc cX12_readPart 161 (.aload_n 0) 1 162 := ⟨by decide +kernel, rfl⟩
theorem dX12_readPart_162 : dc cX12_readPart 162 (.invokevirtual 233) 3 165 := ⟨by decide +kernel, rfl⟩
theorem dX12_readPart_165 : dc cX12_readPart 165 (.return_) 1 166 := ⟨by decide +kernel, rfl⟩
theorem nm_X12_readPart : (yX12_readPart).cls ≠ "java/lang/invoke/MethodHandle" ∧ (yX12_readPart).cls ≠ "java/lang/invoke/VarHandle" ∧ (parseMethodDescriptor (yX12_readPart).desc).map (fun d => d.parameters.length) = some 0 := ⟨by decide +kernel, by decide +kernel, by decide +kernel⟩
set_option maxRecDepth 100000 in
set_option maxHeartbeats 4000000 in
theorem c_X12_readPart {l : Launch} {ad : Nat → Nat} {cy : Nat → ClassId} {D : va_G} {z : Nat} (n : Nat) {a0 : Nat} {M : KM} {y : KM} (h0 : kty a0 = 12) (hf : f_X12_readPart n a0 M = some y) : KC l ad cy D z yX12_readPart cX12_readPart 1 none 8 [.ref (ad a0)] M (none, y) := by
  refine kv_enter (by decide +kernel) (Nat.le_of_ble_eq_true rfl) ?_
  intro x hl hD hz G
  subst hl hD hz
  unfold f_X12_readPart at hf
  have G : KG ad cy x cX12_readPart "NoonGuidesModel" 1 (some none) 8 := G
  show KV ad cy x (none, y) 0 [(0, .ref (ad a0))] [] M
  refine v_aload_n G dX12_readPart_0 0 rfl ?_
  obtain ⟨v1, hcv1⟩ : ∃ q, f_X12_testWord a0 M = q := ⟨_, rfl⟩
  replace hf := lt_e hf hcv1.symm
  refine v_callV [] G (c_X12_testWord h0 hcv1) h0 (by decide) rfl rfl rfl t_1721 t_1723 t_p64 t_17 t_1724 nm_X12_testWord (by decide) (by decide) rfl rfl (Nat.le_of_ble_eq_true rfl) dX12_readPart_1 (kv_ri ?_)
  refine v_iconst (1 : Int32) G dX12_readPart_4 (by decide) ?_
  refine v_icmp_ne 15 G dX12_readPart_5 (by decide) (fun h31 => ?_) (fun h31 => ?_)
  · replace hf := (if_neg h31).symm.trans hf
    refine v_aload_n G dX12_readPart_15 0 rfl ?_
    obtain ⟨v2, hcv2⟩ : ∃ q, f_X12_isClock a0 M = q := ⟨_, rfl⟩
    replace hf := lt_e hf hcv2.symm
    refine v_callV [] G (c_X12_isClock h0 hcv2) h0 (by decide) rfl rfl rfl t_1766 t_1768 t_p73 t_17 t_1769 nm_X12_isClock (by decide) (by decide) rfl rfl (Nat.le_of_ble_eq_true rfl) dX12_readPart_16 (kv_ri ?_)
    refine v_if_eq 35 G dX12_readPart_19 (by decide) (fun h29 => ?_) (fun h29 => ?_)
    · replace hf := (if_pos h29).symm.trans hf
      refine v_aload_n G dX12_readPart_35 0 rfl ?_
      obtain ⟨v3, hcv3⟩ : ∃ q, f_X12_isRope a0 M = q := ⟨_, rfl⟩
      replace hf := lt_e hf hcv3.symm
      refine v_callV [] G (c_X12_isRope h0 hcv3) h0 (by decide) rfl rfl rfl t_1774 t_1776 t_p75 t_17 t_1777 nm_X12_isRope (by decide) (by decide) rfl rfl (Nat.le_of_ble_eq_true rfl) dX12_readPart_36 (kv_ri ?_)
      refine v_if_eq 55 G dX12_readPart_39 (by decide) (fun h27 => ?_) (fun h27 => ?_)
      · replace hf := (if_pos h27).symm.trans hf
        refine v_aload_n G dX12_readPart_55 0 rfl ?_
        obtain ⟨v4, hcv4⟩ : ∃ q, f_X12_isHabit a0 M = q := ⟨_, rfl⟩
        replace hf := lt_e hf hcv4.symm
        refine v_callV [] G (c_X12_isHabit h0 hcv4) h0 (by decide) rfl rfl rfl t_1778 t_1780 t_p76 t_17 t_1781 nm_X12_isHabit (by decide) (by decide) rfl rfl (Nat.le_of_ble_eq_true rfl) dX12_readPart_56 (kv_ri ?_)
        refine v_if_eq 69 G dX12_readPart_59 (by decide) (fun h25 => ?_) (fun h25 => ?_)
        · replace hf := (if_pos h25).symm.trans hf
          refine v_aload_n G dX12_readPart_69 0 rfl ?_
          obtain ⟨v5, hcv5⟩ : ∃ q, f_X12_isOdds a0 M = q := ⟨_, rfl⟩
          replace hf := lt_e hf hcv5.symm
          refine v_callV [] G (c_X12_isOdds h0 hcv5) h0 (by decide) rfl rfl rfl t_1786 t_1788 t_p78 t_17 t_1789 nm_X12_isOdds (by decide) (by decide) rfl rfl (Nat.le_of_ble_eq_true rfl) dX12_readPart_70 (kv_ri ?_)
          refine v_if_eq 89 G dX12_readPart_73 (by decide) (fun h23 => ?_) (fun h23 => ?_)
          · replace hf := (if_pos h23).symm.trans hf
            refine v_aload_n G dX12_readPart_89 0 rfl ?_
            obtain ⟨v6, hcv6⟩ : ∃ q, f_X12_isPlace a0 M = q := ⟨_, rfl⟩
            replace hf := lt_e hf hcv6.symm
            refine v_callV [] G (c_X12_isPlace h0 hcv6) h0 (by decide) rfl rfl rfl t_1790 t_1792 t_p79 t_17 t_1793 nm_X12_isPlace (by decide) (by decide) rfl rfl (Nat.le_of_ble_eq_true rfl) dX12_readPart_90 (kv_ri ?_)
            refine v_if_eq 103 G dX12_readPart_93 (by decide) (fun h21 => ?_) (fun h21 => ?_)
            · replace hf := (if_pos h21).symm.trans hf
              refine v_aload_n G dX12_readPart_103 0 rfl ?_
              obtain ⟨v7, hcv7⟩ : ∃ q, f_X12_isRoad a0 M = q := ⟨_, rfl⟩
              replace hf := lt_e hf hcv7.symm
              refine v_callV [] G (c_X12_isRoad h0 hcv7) h0 (by decide) rfl rfl rfl t_1814 t_1816 t_p85 t_17 t_1817 nm_X12_isRoad (by decide) (by decide) rfl rfl (Nat.le_of_ble_eq_true rfl) dX12_readPart_104 (kv_ri ?_)
              refine v_if_eq 117 G dX12_readPart_107 (by decide) (fun h19 => ?_) (fun h19 => ?_)
              · replace hf := (if_pos h19).symm.trans hf
                refine v_aload_n G dX12_readPart_117 0 rfl ?_
                obtain ⟨v8, hcv8⟩ : ∃ q, f_X12_isSighted a0 M = q := ⟨_, rfl⟩
                replace hf := lt_e hf hcv8.symm
                refine v_callV [] G (c_X12_isSighted h0 hcv8) h0 (by decide) rfl rfl rfl t_1827 t_1829 t_p88 t_17 t_1830 nm_X12_isSighted (by decide) (by decide) rfl rfl (Nat.le_of_ble_eq_true rfl) dX12_readPart_118 (kv_ri ?_)
                refine v_if_eq 132 G dX12_readPart_121 (by decide) (fun h17 => ?_) (fun h17 => ?_)
                · replace hf := (if_pos h17).symm.trans hf
                  refine v_aload_n G dX12_readPart_132 0 rfl ?_
                  obtain ⟨v9, hcv9⟩ : ∃ q, f_X12_isBlind a0 M = q := ⟨_, rfl⟩
                  replace hf := lt_e hf hcv9.symm
                  refine v_callV [] G (c_X12_isBlind h0 hcv9) h0 (by decide) rfl rfl rfl t_1836 t_1838 t_p90 t_17 t_1839 nm_X12_isBlind (by decide) (by decide) rfl rfl (Nat.le_of_ble_eq_true rfl) dX12_readPart_133 (kv_ri ?_)
                  refine v_if_eq 147 G dX12_readPart_136 (by decide) (fun h15 => ?_) (fun h15 => ?_)
                  · replace hf := (if_pos h15).symm.trans hf
                    refine v_aload_n G dX12_readPart_147 0 rfl ?_
                    obtain ⟨v10, hcv10⟩ : ∃ q, f_X12_isKnows a0 M = q := ⟨_, rfl⟩
                    replace hf := lt_e hf hcv10.symm
                    refine v_callV [] G (c_X12_isKnows h0 hcv10) h0 (by decide) rfl rfl rfl t_1840 t_1842 t_p91 t_17 t_1843 nm_X12_isKnows (by decide) (by decide) rfl rfl (Nat.le_of_ble_eq_true rfl) dX12_readPart_148 (kv_ri ?_)
                    refine v_if_eq 161 G dX12_readPart_151 (by decide) (fun h13 => ?_) (fun h13 => ?_)
                    · replace hf := (if_pos h13).symm.trans hf
                      refine v_aload_n G dX12_readPart_161 0 rfl ?_
                      obtain ⟨v11, hcv11⟩ : ∃ q, f_X12_amiss a0 M = q := ⟨_, rfl⟩
                      replace hf := lt_e hf hcv11.symm
                      refine v_callV [] G (c_X12_amiss h0 hcv11) h0 (by decide) rfl rfl rfl t_1751 t_1753 t_p70 t_17 t_1754 nm_X12_amiss (by decide) (by decide) rfl rfl (Nat.le_of_ble_eq_true rfl) dX12_readPart_162 (kv_rv ?_)
                      obtain rfl := Option.some.inj hf
                      exact v_vret G dX12_readPart_165
                    · replace hf := (if_neg h13).symm.trans hf
                      refine v_aload_n G dX12_readPart_154 0 rfl ?_
                      obtain ⟨v12, hcv12, hf⟩ := bd_e hf
                      refine v_callV [] G (c_X12_readKnows n h0 hcv12) h0 (by decide) rfl rfl rfl t_1881 t_1883 t_p101 t_17 t_1884 nm_X12_readKnows (by decide) (by decide) rfl rfl (Nat.le_of_ble_eq_true rfl) dX12_readPart_155 (kv_rv ?_)
                      refine v_goto 165 G dX12_readPart_158 (by decide) ?_
                      obtain rfl := Option.some.inj hf
                      exact v_vret G dX12_readPart_165
                  · replace hf := (if_neg h15).symm.trans hf
                    refine v_aload_n G dX12_readPart_139 0 rfl ?_
                    refine v_iconst (1 : Int32) G dX12_readPart_140 (by decide) ?_
                    obtain ⟨v14, hcv14, hf⟩ := bd_e hf
                    refine v_callV [.int (1 : Int32)] G (c_X12_readPerson n h0 hcv14) h0 (by decide) rfl rfl rfl t_1877 t_1879 t_p100 t_17 t_1880 nm_X12_readPerson (by decide) (by decide) rfl rfl (Nat.le_of_ble_eq_true rfl) dX12_readPart_141 (kv_rv ?_)
                    refine v_goto 165 G dX12_readPart_144 (by decide) ?_
                    obtain rfl := Option.some.inj hf
                    exact v_vret G dX12_readPart_165
                · replace hf := (if_neg h17).symm.trans hf
                  refine v_aload_n G dX12_readPart_124 0 rfl ?_
                  refine v_iconst (0 : Int32) G dX12_readPart_125 (by decide) ?_
                  obtain ⟨v16, hcv16, hf⟩ := bd_e hf
                  refine v_callV [.int (0 : Int32)] G (c_X12_readPerson n h0 hcv16) h0 (by decide) rfl rfl rfl t_1877 t_1879 t_p100 t_17 t_1880 nm_X12_readPerson (by decide) (by decide) rfl rfl (Nat.le_of_ble_eq_true rfl) dX12_readPart_126 (kv_rv ?_)
                  refine v_goto 165 G dX12_readPart_129 (by decide) ?_
                  obtain rfl := Option.some.inj hf
                  exact v_vret G dX12_readPart_165
              · replace hf := (if_neg h19).symm.trans hf
                refine v_aload_n G dX12_readPart_110 0 rfl ?_
                obtain ⟨v18, hcv18, hf⟩ := bd_e hf
                refine v_callV [] G (c_X12_readRoad n h0 hcv18) h0 (by decide) rfl rfl rfl t_1856 t_1858 t_p95 t_17 t_1859 nm_X12_readRoad (by decide) (by decide) rfl rfl (Nat.le_of_ble_eq_true rfl) dX12_readPart_111 (kv_rv ?_)
                refine v_goto 165 G dX12_readPart_114 (by decide) ?_
                obtain rfl := Option.some.inj hf
                exact v_vret G dX12_readPart_165
            · replace hf := (if_neg h21).symm.trans hf
              refine v_aload_n G dX12_readPart_96 0 rfl ?_
              obtain ⟨v20, hcv20, hf⟩ := bd_e hf
              refine v_callV [] G (c_X12_readPlace n h0 hcv20) h0 (by decide) rfl rfl rfl t_1794 t_1796 t_p80 t_17 t_1797 nm_X12_readPlace (by decide) (by decide) rfl rfl (Nat.le_of_ble_eq_true rfl) dX12_readPart_97 (kv_rv ?_)
              refine v_goto 165 G dX12_readPart_100 (by decide) ?_
              obtain rfl := Option.some.inj hf
              exact v_vret G dX12_readPart_165
          · replace hf := (if_neg h23).symm.trans hf
            refine v_aload_n G dX12_readPart_76 0 rfl ?_
            refine v_iconst (4 : Int32) G dX12_readPart_77 (by decide) ?_
            refine v_bipush (8 : Int32) G dX12_readPart_78 (by decide) ?_
            refine v_iconst (0 : Int32) G dX12_readPart_80 (by decide) ?_
            refine v_bipush (16 : Int32) G dX12_readPart_81 (by decide) ?_
            obtain ⟨v22, hcv22, hf⟩ := bd_e hf
            refine v_callV [.int (4 : Int32), .int (8 : Int32), .int (0 : Int32), .int (16 : Int32)] G (c_X12_readOnce n h0 hcv22) h0 (by decide) rfl rfl rfl t_1770 t_1772 t_p74 t_17 t_1773 nm_X12_readOnce (by decide) (by decide) rfl rfl (Nat.le_of_ble_eq_true rfl) dX12_readPart_83 (kv_rv ?_)
            refine v_goto 165 G dX12_readPart_86 (by decide) ?_
            obtain rfl := Option.some.inj hf
            exact v_vret G dX12_readPart_165
        · replace hf := (if_neg h25).symm.trans hf
          refine v_aload_n G dX12_readPart_62 0 rfl ?_
          obtain ⟨v24, hcv24, hf⟩ := bd_e hf
          refine v_callV [] G (c_X12_readHabit n h0 hcv24) h0 (by decide) rfl rfl rfl t_1782 t_1784 t_p77 t_17 t_1785 nm_X12_readHabit (by decide) (by decide) rfl rfl (Nat.le_of_ble_eq_true rfl) dX12_readPart_63 (kv_rv ?_)
          refine v_goto 165 G dX12_readPart_66 (by decide) ?_
          obtain rfl := Option.some.inj hf
          exact v_vret G dX12_readPart_165
      · replace hf := (if_neg h27).symm.trans hf
        refine v_aload_n G dX12_readPart_42 0 rfl ?_
        refine v_iconst (2 : Int32) G dX12_readPart_43 (by decide) ?_
        refine v_bipush (6 : Int32) G dX12_readPart_44 (by decide) ?_
        refine v_iconst (1 : Int32) G dX12_readPart_46 (by decide) ?_
        refine v_bipush (9 : Int32) G dX12_readPart_47 (by decide) ?_
        obtain ⟨v26, hcv26, hf⟩ := bd_e hf
        refine v_callV [.int (2 : Int32), .int (6 : Int32), .int (1 : Int32), .int (9 : Int32)] G (c_X12_readOnce n h0 hcv26) h0 (by decide) rfl rfl rfl t_1770 t_1772 t_p74 t_17 t_1773 nm_X12_readOnce (by decide) (by decide) rfl rfl (Nat.le_of_ble_eq_true rfl) dX12_readPart_49 (kv_rv ?_)
        refine v_goto 165 G dX12_readPart_52 (by decide) ?_
        obtain rfl := Option.some.inj hf
        exact v_vret G dX12_readPart_165
    · replace hf := (if_neg h29).symm.trans hf
      refine v_aload_n G dX12_readPart_22 0 rfl ?_
      refine v_iconst (1 : Int32) G dX12_readPart_23 (by decide) ?_
      refine v_iconst (5 : Int32) G dX12_readPart_24 (by decide) ?_
      refine v_iconst (0 : Int32) G dX12_readPart_25 (by decide) ?_
      refine v_sipush (1439 : Int32) G dX12_readPart_26 (by decide) ?_
      obtain ⟨v28, hcv28, hf⟩ := bd_e hf
      refine v_callV [.int (1 : Int32), .int (5 : Int32), .int (0 : Int32), .int (1439 : Int32)] G (c_X12_readOnce n h0 hcv28) h0 (by decide) rfl rfl rfl t_1770 t_1772 t_p74 t_17 t_1773 nm_X12_readOnce (by decide) (by decide) rfl rfl (Nat.le_of_ble_eq_true rfl) dX12_readPart_29 (kv_rv ?_)
      refine v_goto 165 G dX12_readPart_32 (by decide) ?_
      obtain rfl := Option.some.inj hf
      exact v_vret G dX12_readPart_165
  · replace hf := (if_pos h31).symm.trans hf
    refine v_aload_n G dX12_readPart_8 0 rfl ?_
    obtain ⟨v30, hcv30, hf⟩ := bd_e hf
    refine v_callV [] G (c_X12_readGlare n h0 hcv30) h0 (by decide) rfl rfl rfl t_1732 t_1734 t_p66 t_17 t_1735 nm_X12_readGlare (by decide) (by decide) rfl rfl (Nat.le_of_ble_eq_true rfl) dX12_readPart_9 (kv_rv ?_)
    refine v_goto 165 G dX12_readPart_12 (by decide) ?_
    obtain rfl := Option.some.inj hf
    exact v_vret G dX12_readPart_165
abbrev cX12_copy : ByteArray := prog_14_method_172_code
def yX12_copy : MethodName := ⟨RX12, "copy", "(II)V"⟩
theorem dX12_copy_0 : dc cX12_copy 0 (.iconst 0) 1 1 := ⟨by decide +kernel, rfl⟩
theorem dX12_copy_1 : dc cX12_copy 1 (.istore_n 3) 1 2 := ⟨by decide +kernel, rfl⟩
theorem dX12_copy_2 : dc cX12_copy 2 (.iload_n 3) 1 3 := ⟨by decide +kernel, rfl⟩
theorem dX12_copy_3 : dc cX12_copy 3 (.sipush 562) 3 6 := ⟨by decide +kernel, rfl⟩
theorem dX12_copy_6 : dc cX12_copy 6 (.if_icmp .ge 33) 3 9 := ⟨by decide +kernel, rfl⟩
theorem dX12_copy_9 : dc cX12_copy 9 (.aload_n 0) 1 10 := ⟨by decide +kernel, rfl⟩
theorem dX12_copy_10 : dc cX12_copy 10 (.getfield 35) 3 13 := ⟨by decide +kernel, rfl⟩
theorem dX12_copy_13 : dc cX12_copy 13 (.sipush 562) 3 16 := ⟨by decide +kernel, rfl⟩
theorem dX12_copy_16 : dc cX12_copy 16 (.iload_n 2) 1 17 := ⟨by decide +kernel, rfl⟩
theorem dX12_copy_17 : dc cX12_copy 17 (.imul) 1 18 := ⟨by decide +kernel, rfl⟩
theorem dX12_copy_18 : dc cX12_copy 18 (.iload_n 3) 1 19 := ⟨by decide +kernel, rfl⟩
theorem dX12_copy_19 : dc cX12_copy 19 (.iadd) 1 20 := ⟨by decide +kernel, rfl⟩
theorem dX12_copy_20 : dc cX12_copy 20 (.aload_n 0) 1 21 := ⟨by decide +kernel, rfl⟩
theorem dX12_copy_21 : dc cX12_copy 21 (.getfield 35) 3 24 := ⟨by decide +kernel, rfl⟩
theorem dX12_copy_24 : dc cX12_copy 24 (.sipush 562) 3 27 := ⟨by decide +kernel, rfl⟩
theorem dX12_copy_27 : dc cX12_copy 27 (.iload_n 1) 1 28 := ⟨by decide +kernel, rfl⟩
theorem dX12_copy_28 : dc cX12_copy 28 (.imul) 1 29 := ⟨by decide +kernel, rfl⟩
theorem dX12_copy_29 : dc cX12_copy 29 (.iload_n 3) 1 30 := ⟨by decide +kernel, rfl⟩
theorem dX12_copy_30 : dc cX12_copy 30 (.iadd) 1 31 := ⟨by decide +kernel, rfl⟩
theorem dX12_copy_31 : dc cX12_copy 31 (.iaload) 1 32 := ⟨by decide +kernel, rfl⟩
theorem dX12_copy_32 : dc cX12_copy 32 (.iastore) 1 33 := ⟨by decide +kernel, rfl⟩
theorem dX12_copy_33 : dc cX12_copy 33 (.iinc 3 1) 3 36 := ⟨by decide +kernel, rfl⟩
theorem dX12_copy_36 : dc cX12_copy 36 (.goto (-34)) 3 39 := ⟨by decide +kernel, rfl⟩
theorem dX12_copy_39 : dc cX12_copy 39 (.iconst 0) 1 40 := ⟨by decide +kernel, rfl⟩
theorem dX12_copy_40 : dc cX12_copy 40 (.istore_n 3) 1 41 := ⟨by decide +kernel, rfl⟩
theorem dX12_copy_41 : dc cX12_copy 41 (.iload_n 3) 1 42 := ⟨by decide +kernel, rfl⟩
theorem dX12_copy_42 : dc cX12_copy 42 (.bipush 16) 2 44 := ⟨by decide +kernel, rfl⟩
theorem dX12_copy_44 : dc cX12_copy 44 (.if_icmp .ge 31) 3 47 := ⟨by decide +kernel, rfl⟩
theorem dX12_copy_47 : dc cX12_copy 47 (.aload_n 0) 1 48 := ⟨by decide +kernel, rfl⟩
theorem dX12_copy_48 : dc cX12_copy 48 (.getfield 44) 3 51 := ⟨by decide +kernel, rfl⟩
theorem dX12_copy_51 : dc cX12_copy 51 (.bipush 16) 2 53 := ⟨by decide +kernel, rfl⟩
theorem dX12_copy_53 : dc cX12_copy 53 (.iload_n 2) 1 54 := ⟨by decide +kernel, rfl⟩
theorem dX12_copy_54 : dc cX12_copy 54 (.imul) 1 55 := ⟨by decide +kernel, rfl⟩
theorem dX12_copy_55 : dc cX12_copy 55 (.iload_n 3) 1 56 := ⟨by decide +kernel, rfl⟩
theorem dX12_copy_56 : dc cX12_copy 56 (.iadd) 1 57 := ⟨by decide +kernel, rfl⟩
theorem dX12_copy_57 : dc cX12_copy 57 (.aload_n 0) 1 58 := ⟨by decide +kernel, rfl⟩
theorem dX12_copy_58 : dc cX12_copy 58 (.getfield 44) 3 61 := ⟨by decide +kernel, rfl⟩
theorem dX12_copy_61 : dc cX12_copy 61 (.bipush 16) 2 63 := ⟨by decide +kernel, rfl⟩
theorem dX12_copy_63 : dc cX12_copy 63 (.iload_n 1) 1 64 := ⟨by decide +kernel, rfl⟩
theorem dX12_copy_64 : dc cX12_copy 64 (.imul) 1 65 := ⟨by decide +kernel, rfl⟩
theorem dX12_copy_65 : dc cX12_copy 65 (.iload_n 3) 1 66 := ⟨by decide +kernel, rfl⟩
theorem dX12_copy_66 : dc cX12_copy 66 (.iadd) 1 67 := ⟨by decide +kernel, rfl⟩
theorem dX12_copy_67 : dc cX12_copy 67 (.laload) 1 68 := ⟨by decide +kernel, rfl⟩
theorem dX12_copy_68 : dc cX12_copy 68 (.lastore) 1 69 := ⟨by decide +kernel, rfl⟩
theorem dX12_copy_69 : dc cX12_copy 69 (.iinc 3 1) 3 72 := ⟨by decide +kernel, rfl⟩
theorem dX12_copy_72 : dc cX12_copy 72 (.goto (-31)) 3 75 := ⟨by decide +kernel, rfl⟩
theorem dX12_copy_75 : dc cX12_copy 75 (.return_) 1 76 := ⟨by decide +kernel, rfl⟩
theorem nm_X12_copy : (yX12_copy).cls ≠ "java/lang/invoke/MethodHandle" ∧ (yX12_copy).cls ≠ "java/lang/invoke/VarHandle" ∧ (parseMethodDescriptor (yX12_copy).desc).map (fun d => d.parameters.length) = some 2 := ⟨by decide +kernel, by decide +kernel, by decide +kernel⟩
set_option maxRecDepth 100000 in
set_option maxHeartbeats 4000000 in
theorem s_X12_copy_2 {ad : Nat → Nat} {cy : Nat → ClassId} {x : KX} (G : KG ad cy x cX12_copy "NoonGuidesModel" 4 (some none) 1) {a0 : Nat} {c1 : Int32} {c2 : Int32} (h0 : kty a0 = 12) {k39 : KM → Option KM} {y : KM} (hk39 : ∀ (M : KM), k39 M = some y → KV ad cy x (none, y) 39 [(0, .ref (ad a0)), (1, .int c1), (2, .int c2)] [] M) : ∀ (n : Nat) (w3 : Int32) (M : KM), lp_X12_copy_2 n a0 c1 c2 w3 M k39 = some y → KV ad cy x (none, y) 2 [(0, .ref (ad a0)), (1, .int c1), (2, .int c2), (3, .int w3)] [] M := by
  intro n
  induction n with
  | zero =>
    intro w3 M hf
    cases hf
  | succ n ih =>
    intro w3 M hf
    rw [lp_X12_copy_2] at hf
    refine v_iload_n G dX12_copy_2 3 rfl ?_
    refine v_sipush (562 : Int32) G dX12_copy_3 (by decide) ?_
    refine v_icmp_ge 39 G dX12_copy_6 (by decide) (fun h5 => ?_) (fun h5 => ?_)
    · replace hf := (if_pos h5).symm.trans hf
      refine v_sub _ [0, 1, 2] rfl ?_
      exact hk39 M hf
    · replace hf := (if_neg h5).symm.trans hf
      refine v_aload_n G dX12_copy_9 0 rfl ?_
      refine gf_12_20 G h0 t_1511 (Or.inl rfl) dX12_copy_10 ?_
      refine v_sipush (562 : Int32) G dX12_copy_13 (by decide) ?_
      refine v_iload_n G dX12_copy_16 2 rfl ?_
      refine v_imul G dX12_copy_17 ?_
      refine v_iload_n G dX12_copy_18 3 rfl ?_
      refine v_iadd G dX12_copy_19 ?_
      refine v_aload_n G dX12_copy_20 0 rfl ?_
      refine gf_12_20 G h0 t_1511 (Or.inl rfl) dX12_copy_21 ?_
      refine v_sipush (562 : Int32) G dX12_copy_24 (by decide) ?_
      refine v_iload_n G dX12_copy_27 1 rfl ?_
      refine v_imul G dX12_copy_28 ?_
      refine v_iload_n G dX12_copy_29 3 rfl ?_
      refine v_iadd G dX12_copy_30 ?_
      obtain ⟨g1, hf⟩ := gd_e hf
      refine al_36 G (kf_12_5 h0) g1 dX12_copy_31 ?_
      obtain ⟨g2, hf⟩ := gd_e hf
      refine as_36 G (kf_12_5 h0) g2 dX12_copy_32 ?_
      refine v_nmM (fun M3 eM3 => ?_)
      replace hf := lt_e hf eM3
      obtain ⟨v4, ev4⟩ : ∃ q : Int32, q = w3 + (1 : Int32) := ⟨_, rfl⟩
      replace hf := lt_e hf ev4
      refine v_iinc v4 [(3, .int v4), (0, .ref (ad a0)), (1, .int c1), (2, .int c2)] G dX12_copy_33 3 rfl (by rw [ev4]; rfl) (by decide) rfl ?_
      refine v_goto 2 G dX12_copy_36 (by decide) ?_
      refine v_sub _ [1, 2, 3, 0] rfl ?_
      exact ih v4 M3 hf
set_option maxRecDepth 100000 in
set_option maxHeartbeats 4000000 in
theorem s_X12_copy_41 {ad : Nat → Nat} {cy : Nat → ClassId} {x : KX} (G : KG ad cy x cX12_copy "NoonGuidesModel" 4 (some none) 1) {a0 : Nat} {c1 : Int32} {c2 : Int32} (h0 : kty a0 = 12) {y : KM} : ∀ (n : Nat) (w3 : Int32) (M : KM), lp_X12_copy_41 n a0 c1 c2 w3 M = some y → KV ad cy x (none, y) 41 [(0, .ref (ad a0)), (1, .int c1), (2, .int c2), (3, .int w3)] [] M := by
  intro n
  induction n with
  | zero =>
    intro w3 M hf
    cases hf
  | succ n ih =>
    intro w3 M hf
    rw [lp_X12_copy_41] at hf
    refine v_iload_n G dX12_copy_41 3 rfl ?_
    refine v_bipush (16 : Int32) G dX12_copy_42 (by decide) ?_
    refine v_icmp_ge 75 G dX12_copy_44 (by decide) (fun h11 => ?_) (fun h11 => ?_)
    · replace hf := (if_pos h11).symm.trans hf
      obtain rfl := Option.some.inj hf
      exact v_vret G dX12_copy_75
    · replace hf := (if_neg h11).symm.trans hf
      refine v_aload_n G dX12_copy_47 0 rfl ?_
      refine gf_12_23 G h0 t_1514 (Or.inl rfl) dX12_copy_48 ?_
      refine v_bipush (16 : Int32) G dX12_copy_51 (by decide) ?_
      refine v_iload_n G dX12_copy_53 2 rfl ?_
      refine v_imul G dX12_copy_54 ?_
      refine v_iload_n G dX12_copy_55 3 rfl ?_
      refine v_iadd G dX12_copy_56 ?_
      refine v_aload_n G dX12_copy_57 0 rfl ?_
      refine gf_12_23 G h0 t_1514 (Or.inl rfl) dX12_copy_58 ?_
      refine v_bipush (16 : Int32) G dX12_copy_61 (by decide) ?_
      refine v_iload_n G dX12_copy_63 1 rfl ?_
      refine v_imul G dX12_copy_64 ?_
      refine v_iload_n G dX12_copy_65 3 rfl ?_
      refine v_iadd G dX12_copy_66 ?_
      obtain ⟨g7, hf⟩ := gd_e hf
      refine al_38 G (kf_12_8 h0) g7 dX12_copy_67 ?_
      obtain ⟨g8, hf⟩ := gd_e hf
      refine as_38 G (kf_12_8 h0) g8 dX12_copy_68 ?_
      refine v_nmM (fun M9 eM9 => ?_)
      replace hf := lt_e hf eM9
      obtain ⟨v10, ev10⟩ : ∃ q : Int32, q = w3 + (1 : Int32) := ⟨_, rfl⟩
      replace hf := lt_e hf ev10
      refine v_iinc v10 [(3, .int v10), (0, .ref (ad a0)), (1, .int c1), (2, .int c2)] G dX12_copy_69 3 rfl (by rw [ev10]; rfl) (by decide) rfl ?_
      refine v_goto 41 G dX12_copy_72 (by decide) ?_
      refine v_sub _ [1, 2, 3, 0] rfl ?_
      exact ih v10 M9 hf
set_option maxRecDepth 100000 in
set_option maxHeartbeats 4000000 in
theorem c_X12_copy {l : Launch} {ad : Nat → Nat} {cy : Nat → ClassId} {D : va_G} {z : Nat} (n : Nat) {a0 : Nat} {p1 : Int32} {p2 : Int32} {M : KM} {y : KM} (h0 : kty a0 = 12) (hf : f_X12_copy n a0 p1 p2 M = some y) : KC l ad cy D z yX12_copy cX12_copy 4 none 1 [.ref (ad a0), .int p1, .int p2] M (none, y) := by
  refine kv_enter (by decide +kernel) (Nat.le_of_ble_eq_true rfl) ?_
  intro x hl hD hz G
  subst hl hD hz
  unfold f_X12_copy at hf
  have G : KG ad cy x cX12_copy "NoonGuidesModel" 4 (some none) 1 := G
  show KV ad cy x (none, y) 0 [(0, .ref (ad a0)), (1, .int p1), (2, .int p2)] [] M
  refine v_iconst (0 : Int32) G dX12_copy_0 (by decide) ?_
  refine v_istore_n [(3, .int (0 : Int32)), (0, .ref (ad a0)), (1, .int p1), (2, .int p2)] G dX12_copy_1 (by decide) rfl ?_
  refine v_sub _ [1, 2, 3, 0] rfl ?_
  refine s_X12_copy_2 G h0 (fun M6 hf => ?_) n (0 : Int32) M hf
  · refine v_iconst (0 : Int32) G dX12_copy_39 (by decide) ?_
    refine v_istore_n [(3, .int (0 : Int32)), (0, .ref (ad a0)), (1, .int p1), (2, .int p2)] G dX12_copy_40 (by decide) rfl ?_
    refine v_sub _ [1, 2, 3, 0] rfl ?_
    refine s_X12_copy_41 G h0 n (0 : Int32) M6 hf
abbrev cX12_land : ByteArray := prog_14_method_72_code
def yX12_land : MethodName := ⟨RX12, "land", "(I)I"⟩
theorem dX12_land_0 : dc cX12_land 0 (.aload_n 0) 1 1 := ⟨by decide +kernel, rfl⟩
theorem dX12_land_1 : dc cX12_land 1 (.iconst 0) 1 2 := ⟨by decide +kernel, rfl⟩
theorem dX12_land_2 : dc cX12_land 2 (.putfield 75) 3 5 := ⟨by decide +kernel, rfl⟩
theorem dX12_land_5 : dc cX12_land 5 (.aload_n 0) 1 6 := ⟨by decide +kernel, rfl⟩
theorem dX12_land_6 : dc cX12_land 6 (.iconst 0) 1 7 := ⟨by decide +kernel, rfl⟩
theorem dX12_land_7 : dc cX12_land 7 (.putfield 78) 3 10 := ⟨by decide +kernel, rfl⟩
theorem dX12_land_10 : dc cX12_land 10 (.aload_n 0) 1 11 := ⟨by decide +kernel, rfl⟩
theorem dX12_land_11 : dc cX12_land 11 (.iload_n 1) 1 12 := ⟨by decide +kernel, rfl⟩
theorem dX12_land_12 : dc cX12_land 12 (.sipush 900) 3 15 := ⟨by decide +kernel, rfl⟩
theorem dX12_land_15 : dc cX12_land 15 (.invokevirtual 310) 3 18 := ⟨by decide +kernel, rfl⟩
theorem dX12_land_18 : dc cX12_land 18 (.ifCond .ne 5) 3 21 := ⟨by decide +kernel, rfl⟩
theorem dX12_land_21 : dc cX12_land 21 (.iconst (-1)) 1 22 := ⟨by decide +kernel, rfl⟩
theorem dX12_land_22 : dc cX12_land 22 (.ireturn) 1 23 := ⟨by decide +kernel, rfl⟩
theorem dX12_land_23 : dc cX12_land 23 (.aload_n 0) 1 24 := ⟨by decide +kernel, rfl⟩
theorem dX12_land_24 : dc cX12_land 24 (.iconst 4) 1 25 := ⟨by decide +kernel, rfl⟩
theorem dX12_land_25 : dc cX12_land 25 (.invokevirtual 71) 3 28 := ⟨by decide +kernel, rfl⟩
theorem dX12_land_28 : dc cX12_land 28 (.aload_n 0) 1 29 := ⟨by decide +kernel, rfl⟩
theorem dX12_land_29 : dc cX12_land 29 (.iconst 0) 1 30 := ⟨by decide +kernel, rfl⟩
theorem dX12_land_30 : dc cX12_land 30 (.putfield 261) 3 33 := ⟨by decide +kernel, rfl⟩
theorem dX12_land_33 : dc cX12_land 33 (.aload_n 0) 1 34 := ⟨by decide +kernel, rfl⟩
theorem dX12_land_34 : dc cX12_land 34 (.iconst 0) 1 35 := ⟨by decide +kernel, rfl⟩
theorem dX12_land_35 : dc cX12_land 35 (.putfield 270) 3 38 := ⟨by decide +kernel, rfl⟩
theorem dX12_land_38 : dc cX12_land 38 (.aload_n 0) 1 39 := ⟨by decide +kernel, rfl⟩
theorem dX12_land_39 : dc cX12_land 39 (.getfield 220) 3 42 := ⟨by decide +kernel, rfl⟩
theorem dX12_land_42 : dc cX12_land 42 (.ifCond .ne 27) 3 45 := ⟨by decide +kernel, rfl⟩
theorem dX12_land_45 : dc cX12_land 45 (.aload_n 0) 1 46 := ⟨by decide +kernel, rfl⟩
theorem dX12_land_46 : dc cX12_land 46 (.getfield 130) 3 49 := ⟨by decide +kernel, rfl⟩
theorem dX12_land_49 : dc cX12_land 49 (.ifCond .eq 20) 3 52 := ⟨by decide +kernel, rfl⟩
theorem dX12_land_52 : dc cX12_land 52 (.aload_n 0) 1 53 := ⟨by decide +kernel, rfl⟩
theorem dX12_land_53 : dc cX12_land 53 (.invokevirtual 313) 3 56 := ⟨by decide +kernel, rfl⟩
theorem dX12_land_56 : dc cX12_land 56 (.aload_n 0) 1 57 := ⟨by decide +kernel, rfl⟩
theorem dX12_land_57 : dc cX12_land 57 (.aload_n 0) 1 58 := ⟨by decide +kernel, rfl⟩
theorem dX12_land_58 : dc cX12_land 58 (.bipush 59) 2 60 := ⟨by decide +kernel, rfl⟩
theorem dX12_land_60 : dc cX12_land 60 (.invokevirtual 316) 3 63 := ⟨by decide +kernel, rfl⟩
theorem dX12_land_63 : dc cX12_land 63 (.invokevirtual 257) 3 66 := ⟨by decide +kernel, rfl⟩
theorem dX12_land_66 : dc cX12_land 66 (.goto (-28)) 3 69 := ⟨by decide +kernel, rfl⟩
theorem dX12_land_69 : dc cX12_land 69 (.aload_n 0) 1 70 := ⟨by decide +kernel, rfl⟩
theorem dX12_land_70 : dc cX12_land 70 (.invokevirtual 319) 3 73 := ⟨by decide +kernel, rfl⟩
theorem dX12_land_73 : dc cX12_land 73 (.ifCond .ne 5) 3 76 := ⟨by decide +kernel, rfl⟩
theorem dX12_land_76 : dc cX12_land 76 (.iconst (-1)) 1 77 := ⟨by decide +kernel, rfl⟩
theorem dX12_land_77 : dc cX12_land 77 (.ireturn) 1 78 := ⟨by decide +kernel, rfl⟩
theorem dX12_land_78 : dc cX12_land 78 (.aload_n 0) 1 79 := ⟨by decide +kernel, rfl⟩
theorem dX12_land_79 : dc cX12_land 79 (.iconst 4) 1 80 := ⟨by decide +kernel, rfl⟩
theorem dX12_land_80 : dc cX12_land 80 (.iconst 0) 1 81 := ⟨by decide +kernel, rfl⟩
theorem dX12_land_81 : dc cX12_land 81 (.invokevirtual 322) 3 84 := ⟨by decide +kernel, rfl⟩
theorem dX12_land_84 : dc cX12_land 84 (.aload_n 0) 1 85 := ⟨by decide +kernel, rfl⟩
theorem dX12_land_85 : dc cX12_land 85 (.getfield 35) 3 88 := ⟨by decide +kernel, rfl⟩
theorem dX12_land_88 : dc cX12_land 88 (.iconst 2) 1 89 := ⟨by decide +kernel, rfl⟩
theorem dX12_land_89 : dc cX12_land 89 (.iaload) 1 90 := ⟨by decide +kernel, rfl⟩
theorem dX12_land_90 : dc cX12_land 90 (.ireturn) 1 91 := ⟨by decide +kernel, rfl⟩
theorem nm_X12_land : (yX12_land).cls ≠ "java/lang/invoke/MethodHandle" ∧ (yX12_land).cls ≠ "java/lang/invoke/VarHandle" ∧ (parseMethodDescriptor (yX12_land).desc).map (fun d => d.parameters.length) = some 1 := ⟨by decide +kernel, by decide +kernel, by decide +kernel⟩
set_option maxRecDepth 100000 in
set_option maxHeartbeats 4000000 in
theorem s_X12_land_38 {ad : Nat → Nat} {cy : Nat → ClassId} {x : KX} (G : KG ad cy x cX12_land "NoonGuidesModel" 2 (some (some .int)) 9) {a0 : Nat} (h0 : kty a0 = 12) {k69 : KM → Option (Int32 × KM)} {y : (Int32 × KM)} (hk69 : ∀ (M : KM), k69 M = some y → KV ad cy x (some (.int y.1), y.2) 69 [(0, .ref (ad a0))] [] M) : ∀ (n : Nat) (M : KM), lp_X12_land_38 n a0 M k69 = some y → KV ad cy x (some (.int y.1), y.2) 38 [(0, .ref (ad a0))] [] M := by
  intro n
  induction n with
  | zero =>
    intro M hf
    cases hf
  | succ n ih =>
    intro M hf
    rw [lp_X12_land_38] at hf
    refine v_aload_n G dX12_land_38 0 rfl ?_
    refine gf_12_12 G h0 t_1503 (Or.inl rfl) dX12_land_39 ?_
    refine v_if_ne 69 G dX12_land_42 (by decide) (fun h11 => ?_) (fun h11 => ?_)
    · replace hf := (if_neg h11).symm.trans hf
      refine v_sub _ [0] rfl ?_
      exact hk69 M hf
    · replace hf := (if_pos h11).symm.trans hf
      refine v_aload_n G dX12_land_45 0 rfl ?_
      refine gf_12_14 G h0 t_1505 (Or.inl rfl) dX12_land_46 ?_
      refine v_if_eq 69 G dX12_land_49 (by decide) (fun h10 => ?_) (fun h10 => ?_)
      · replace hf := (if_pos h10).symm.trans hf
        refine v_sub _ [0] rfl ?_
        exact hk69 M hf
      · replace hf := (if_neg h10).symm.trans hf
        refine v_aload_n G dX12_land_52 0 rfl ?_
        obtain ⟨v7, hcv7, hf⟩ := bd_e hf
        refine v_callV [] G (c_X12_readPart n h0 hcv7) h0 (by decide) rfl rfl rfl t_1717 t_1719 t_p63 t_17 t_1720 nm_X12_readPart (by decide) (by decide) rfl rfl (Nat.le_of_ble_eq_true rfl) dX12_land_53 (kv_rv ?_)
        refine v_aload_n G dX12_land_56 0 rfl ?_
        refine v_aload_n G dX12_land_57 0 rfl ?_
        refine v_bipush (59 : Int32) G dX12_land_58 (by decide) ?_
        obtain ⟨v8, hcv8⟩ : ∃ q, f_X12_isSign a0 (59 : Int32) v7 = q := ⟨_, rfl⟩
        replace hf := lt_e hf hcv8.symm
        refine v_callV [.int (59 : Int32)] G (c_X12_isSign h0 hcv8) h0 (by decide) rfl rfl rfl t_1885 t_1887 t_p102 t_17 t_1888 nm_X12_isSign (by decide) (by decide) rfl rfl (Nat.le_of_ble_eq_true rfl) dX12_land_60 (kv_ri ?_)
        obtain ⟨v9, hcv9, hf⟩ := bd_e hf
        refine v_callV [.int v8] G (c_X12_must n h0 hcv9) h0 (by decide) rfl rfl rfl t_1762 t_1764 t_p72 t_17 t_1765 nm_X12_must (by decide) (by decide) rfl rfl (Nat.le_of_ble_eq_true rfl) dX12_land_63 (kv_rv ?_)
        refine v_goto 38 G dX12_land_66 (by decide) ?_
        refine v_sub _ [0] rfl ?_
        exact ih v9 hf
set_option maxRecDepth 100000 in
set_option maxHeartbeats 4000000 in
theorem c_X12_land {l : Launch} {ad : Nat → Nat} {cy : Nat → ClassId} {D : va_G} {z : Nat} (n : Nat) {a0 : Nat} {p1 : Int32} {M : KM} {y : (Int32 × KM)} (h0 : kty a0 = 12) (hf : f_X12_land n a0 p1 M = some y) : KC l ad cy D z yX12_land cX12_land 2 (some .int) 9 [.ref (ad a0), .int p1] M (some (.int y.1), y.2) := by
  refine kv_enter (by decide +kernel) (Nat.le_of_ble_eq_true rfl) ?_
  intro x hl hD hz G
  subst hl hD hz
  unfold f_X12_land at hf
  have G : KG ad cy x cX12_land "NoonGuidesModel" 2 (some (some .int)) 9 := G
  show KV ad cy x (some (.int y.1), y.2) 0 [(0, .ref (ad a0)), (1, .int p1)] [] M
  refine v_aload_n G dX12_land_0 0 rfl ?_
  refine v_iconst (0 : Int32) G dX12_land_1 (by decide) ?_
  refine pf_12_1 G h0 t_1492 (Or.inl rfl) dX12_land_2 ?_
  refine v_nmM (fun M1 eM1 => ?_)
  replace hf := lt_e hf eM1
  refine v_aload_n G dX12_land_5 0 rfl ?_
  refine v_iconst (0 : Int32) G dX12_land_6 (by decide) ?_
  refine pf_12_0 G h0 t_1491 (Or.inl rfl) dX12_land_7 ?_
  refine v_nmM (fun M2 eM2 => ?_)
  replace hf := lt_e hf eM2
  refine v_aload_n G dX12_land_10 0 rfl ?_
  refine v_iload_n G dX12_land_11 1 rfl ?_
  refine v_sipush (900 : Int32) G dX12_land_12 (by decide) ?_
  obtain ⟨v3, hcv3, hf⟩ := bd_e hf
  refine v_callV [.int p1, .int (900 : Int32)] G (c_X12_starts n h0 hcv3) h0 (by decide) rfl rfl rfl t_1693 t_1695 t_p59 t_17 t_1696 nm_X12_starts (by decide) (by decide) rfl rfl (Nat.le_of_ble_eq_true rfl) dX12_land_15 (kv_ri ?_)
  refine v_if_ne 23 G dX12_land_18 (by decide) (fun h17 => ?_) (fun h17 => ?_)
  · replace hf := (if_neg h17).symm.trans hf
    refine v_aload_n G dX12_land_23 0 rfl ?_
    refine v_iconst (4 : Int32) G dX12_land_24 (by decide) ?_
    obtain ⟨v4, hcv4, hf⟩ := bd_e hf
    refine v_callV [.int (4 : Int32)] G (c_X12_empties n h0 hcv4) h0 (by decide) rfl rfl rfl t_1487 t_1489 t_p54 t_17 t_1490 nm_X12_empties (by decide) (by decide) rfl rfl (Nat.le_of_ble_eq_true rfl) dX12_land_25 (kv_rv ?_)
    refine v_aload_n G dX12_land_28 0 rfl ?_
    refine v_iconst (0 : Int32) G dX12_land_29 (by decide) ?_
    refine pf_12_25 G h0 t_1516 (Or.inl rfl) dX12_land_30 ?_
    refine v_nmM (fun M5 eM5 => ?_)
    replace hf := lt_e hf eM5
    refine v_aload_n G dX12_land_33 0 rfl ?_
    refine v_iconst (0 : Int32) G dX12_land_34 (by decide) ?_
    refine pf_12_26 G h0 (Or.inl rfl) t_1517 (Or.inl rfl) dX12_land_35 ?_
    refine v_nmM (fun M6 eM6 => ?_)
    replace hf := lt_e hf eM6
    refine v_sub _ [0] rfl ?_
    refine s_X12_land_38 G h0 (fun M12 hf => ?_) n M6 hf
    · refine v_aload_n G dX12_land_69 0 rfl ?_
      obtain ⟨v13, hcv13⟩ : ∃ q, f_X12_isWell a0 M12 = q := ⟨_, rfl⟩
      replace hf := lt_e hf hcv13.symm
      refine v_callV [] G (c_X12_isWell h0 hcv13) h0 (by decide) rfl rfl rfl t_1889 t_1891 t_p103 t_17 t_1892 nm_X12_isWell (by decide) (by decide) rfl rfl (Nat.le_of_ble_eq_true rfl) dX12_land_70 (kv_ri ?_)
      refine v_if_ne 78 G dX12_land_73 (by decide) (fun h16 => ?_) (fun h16 => ?_)
      · replace hf := (if_neg h16).symm.trans hf
        refine v_aload_n G dX12_land_78 0 rfl ?_
        refine v_iconst (4 : Int32) G dX12_land_79 (by decide) ?_
        refine v_iconst (0 : Int32) G dX12_land_80 (by decide) ?_
        obtain ⟨v14, hcv14, hf⟩ := bd_e hf
        refine v_callV [.int (4 : Int32), .int (0 : Int32)] G (c_X12_copy n h0 hcv14) h0 (by decide) rfl rfl rfl t_1893 t_1895 t_p104 t_17 t_1896 nm_X12_copy (by decide) (by decide) rfl rfl (Nat.le_of_ble_eq_true rfl) dX12_land_81 (kv_rv ?_)
        refine v_aload_n G dX12_land_84 0 rfl ?_
        refine gf_12_20 G h0 t_1511 (Or.inl rfl) dX12_land_85 ?_
        refine v_iconst (2 : Int32) G dX12_land_88 (by decide) ?_
        obtain ⟨g15, hf⟩ := gd_e hf
        refine al_36 G (kf_12_5 h0) g15 dX12_land_89 ?_
        obtain rfl := Option.some.inj hf
        exact v_iret G dX12_land_90
      · replace hf := (if_pos h16).symm.trans hf
        refine v_iconst (-1 : Int32) G dX12_land_76 (by decide) ?_
        obtain rfl := Option.some.inj hf
        exact v_iret G dX12_land_77
  · replace hf := (if_pos h17).symm.trans hf
    refine v_iconst (-1 : Int32) G dX12_land_21 (by decide) ?_
    obtain rfl := Option.some.inj hf
    exact v_iret G dX12_land_22
abbrev cX12_readMany : ByteArray := prog_14_method_74_code
def yX12_readMany : MethodName := ⟨RX12, "readMany", "(I)V"⟩
theorem dX12_readMany_0 : dc cX12_readMany 0 (.aload_n 0) 1 1 := ⟨by decide +kernel, rfl⟩
theorem dX12_readMany_1 : dc cX12_readMany 1 (.getfield 220) 3 4 := ⟨by decide +kernel, rfl⟩
theorem dX12_readMany_4 : dc cX12_readMany 4 (.ifCond .le 4) 3 7 := ⟨by decide +kernel, rfl⟩
theorem dX12_readMany_7 : dc cX12_readMany 7 (.return_) 1 8 := ⟨by decide +kernel, rfl⟩
theorem dX12_readMany_8 : dc cX12_readMany 8 (.aload_n 0) 1 9 := ⟨by decide +kernel, rfl⟩
theorem dX12_readMany_9 : dc cX12_readMany 9 (.getfield 35) 3 12 := ⟨by decide +kernel, rfl⟩
theorem dX12_readMany_12 : dc cX12_readMany 12 (.iload_n 1) 1 13 := ⟨by decide +kernel, rfl⟩
theorem dX12_readMany_13 : dc cX12_readMany 13 (.bipush 7) 2 15 := ⟨by decide +kernel, rfl⟩
theorem dX12_readMany_15 : dc cX12_readMany 15 (.iadd) 1 16 := ⟨by decide +kernel, rfl⟩
theorem dX12_readMany_16 : dc cX12_readMany 16 (.aload_n 0) 1 17 := ⟨by decide +kernel, rfl⟩
theorem dX12_readMany_17 : dc cX12_readMany 17 (.getfield 130) 3 20 := ⟨by decide +kernel, rfl⟩
theorem dX12_readMany_20 : dc cX12_readMany 20 (.iconst 3) 1 21 := ⟨by decide +kernel, rfl⟩
theorem dX12_readMany_21 : dc cX12_readMany 21 (.if_icmp .ne 10) 3 24 := ⟨by decide +kernel, rfl⟩
theorem dX12_readMany_24 : dc cX12_readMany 24 (.aload_n 0) 1 25 := ⟨by decide +kernel, rfl⟩
theorem dX12_readMany_25 : dc cX12_readMany 25 (.getfield 149) 3 28 := ⟨by decide +kernel, rfl⟩
theorem dX12_readMany_28 : dc cX12_readMany 28 (.goto 4) 3 31 := ⟨by decide +kernel, rfl⟩
theorem dX12_readMany_31 : dc cX12_readMany 31 (.iconst 0) 1 32 := ⟨by decide +kernel, rfl⟩
theorem dX12_readMany_32 : dc cX12_readMany 32 (.iastore) 1 33 := ⟨by decide +kernel, rfl⟩
theorem dX12_readMany_33 : dc cX12_readMany 33 (.aload_n 0) 1 34 := ⟨by decide +kernel, rfl⟩
theorem dX12_readMany_34 : dc cX12_readMany 34 (.aload_n 0) 1 35 := ⟨by decide +kernel, rfl⟩
theorem dX12_readMany_35 : dc cX12_readMany 35 (.bipush 60) 2 37 := ⟨by decide +kernel, rfl⟩
theorem dX12_readMany_37 : dc cX12_readMany 37 (.invokevirtual 316) 3 40 := ⟨by decide +kernel, rfl⟩
theorem dX12_readMany_40 : dc cX12_readMany 40 (.ifCond .ne 21) 3 43 := ⟨by decide +kernel, rfl⟩
theorem dX12_readMany_43 : dc cX12_readMany 43 (.aload_n 0) 1 44 := ⟨by decide +kernel, rfl⟩
theorem dX12_readMany_44 : dc cX12_readMany 44 (.bipush 62) 2 46 := ⟨by decide +kernel, rfl⟩
theorem dX12_readMany_46 : dc cX12_readMany 46 (.invokevirtual 316) 3 49 := ⟨by decide +kernel, rfl⟩
theorem dX12_readMany_49 : dc cX12_readMany 49 (.ifCond .ne 12) 3 52 := ⟨by decide +kernel, rfl⟩
theorem dX12_readMany_52 : dc cX12_readMany 52 (.aload_n 0) 1 53 := ⟨by decide +kernel, rfl⟩
theorem dX12_readMany_53 : dc cX12_readMany 53 (.bipush 61) 2 55 := ⟨by decide +kernel, rfl⟩
theorem dX12_readMany_55 : dc cX12_readMany 55 (.invokevirtual 316) 3 58 := ⟨by decide +kernel, rfl⟩
theorem dX12_readMany_58 : dc cX12_readMany 58 (.ifCond .eq 7) 3 61 := ⟨by decide +kernel, rfl⟩
theorem dX12_readMany_61 : dc cX12_readMany 61 (.iconst 1) 1 62 := ⟨by decide +kernel, rfl⟩
theorem dX12_readMany_62 : dc cX12_readMany 62 (.goto 4) 3 65 := ⟨by decide +kernel, rfl⟩
theorem dX12_readMany_65 : dc cX12_readMany 65 (.iconst 0) 1 66 := ⟨by decide +kernel, rfl⟩
theorem dX12_readMany_66 : dc cX12_readMany 66 (.invokevirtual 257) 3 69 := ⟨by decide +kernel, rfl⟩
theorem dX12_readMany_69 : dc cX12_readMany 69 (.aload_n 0) 1 70 := ⟨by decide +kernel, rfl⟩
theorem dX12_readMany_70 : dc cX12_readMany 70 (.getfield 35) 3 73 := ⟨by decide +kernel, rfl⟩
theorem dX12_readMany_73 : dc cX12_readMany 73 (.iload_n 1) 1 74 := ⟨by decide +kernel, rfl⟩
theorem dX12_readMany_74 : dc cX12_readMany 74 (.iconst 2) 1 75 := ⟨by decide +kernel, rfl⟩
theorem dX12_readMany_75 : dc cX12_readMany 75 (.iadd) 1 76 := ⟨by decide +kernel, rfl⟩
theorem dX12_readMany_76 : dc cX12_readMany 76 (.aload_n 0) 1 77 := ⟨by decide +kernel, rfl⟩
theorem dX12_readMany_77 : dc cX12_readMany 77 (.iconst 0) 1 78 := ⟨by decide +kernel, rfl⟩
theorem dX12_readMany_78 : dc cX12_readMany 78 (.sipush 9999) 3 81 := ⟨by decide +kernel, rfl⟩
theorem dX12_readMany_81 : dc cX12_readMany 81 (.invokevirtual 267) 3 84 := ⟨by decide +kernel, rfl⟩
theorem dX12_readMany_84 : dc cX12_readMany 84 (.iastore) 1 85 := ⟨by decide +kernel, rfl⟩
theorem dX12_readMany_85 : dc cX12_readMany 85 (.return_) 1 86 := ⟨by decide +kernel, rfl⟩
theorem nm_X12_readMany : (yX12_readMany).cls ≠ "java/lang/invoke/MethodHandle" ∧ (yX12_readMany).cls ≠ "java/lang/invoke/VarHandle" ∧ (parseMethodDescriptor (yX12_readMany).desc).map (fun d => d.parameters.length) = some 1 := ⟨by decide +kernel, by decide +kernel, by decide +kernel⟩
set_option maxRecDepth 100000 in
set_option maxHeartbeats 4000000 in
theorem c_X12_readMany {l : Launch} {ad : Nat → Nat} {cy : Nat → ClassId} {D : va_G} {z : Nat} (n : Nat) {a0 : Nat} {p1 : Int32} {M : KM} {y : KM} (h0 : kty a0 = 12) (hf : f_X12_readMany n a0 p1 M = some y) : KC l ad cy D z yX12_readMany cX12_readMany 2 none 4 [.ref (ad a0), .int p1] M (none, y) := by
  refine kv_enter (by decide +kernel) (Nat.le_of_ble_eq_true rfl) ?_
  intro x hl hD hz G
  subst hl hD hz
  unfold f_X12_readMany at hf
  have G : KG ad cy x cX12_readMany "NoonGuidesModel" 2 (some none) 4 := G
  show KV ad cy x (none, y) 0 [(0, .ref (ad a0)), (1, .int p1)] [] M
  refine v_aload_n G dX12_readMany_0 0 rfl ?_
  refine gf_12_12 G h0 t_1503 (Or.inl rfl) dX12_readMany_1 ?_
  refine v_if_le 8 G dX12_readMany_4 (by decide) (fun h16 => ?_) (fun h16 => ?_)
  · replace hf := (if_pos h16).symm.trans hf
    refine v_aload_n G dX12_readMany_8 0 rfl ?_
    refine gf_12_20 G h0 t_1511 (Or.inl rfl) dX12_readMany_9 ?_
    refine v_iload_n G dX12_readMany_12 1 rfl ?_
    refine v_bipush (7 : Int32) G dX12_readMany_13 (by decide) ?_
    refine v_iadd G dX12_readMany_15 ?_
    refine v_aload_n G dX12_readMany_16 0 rfl ?_
    refine gf_12_14 G h0 t_1505 (Or.inl rfl) dX12_readMany_17 ?_
    refine v_iconst (3 : Int32) G dX12_readMany_20 (by decide) ?_
    obtain ⟨j32, ej32, hf⟩ := lt_j hf
    have hj32 : ∀ (x1 : Int32), j32 x1 = some y → KV ad cy x (none, y) 32 [(0, .ref (ad a0)), (1, .int p1)] [.int x1, .int (p1 + (7 : Int32)), .ref (ad (a0 + 5))] M := by
      intro x1 hf
      rw [ej32] at hf
      obtain ⟨g2, hf⟩ := gd_e hf
      refine as_36 G (kf_12_5 h0) g2 dX12_readMany_32 ?_
      refine v_nmM (fun M3 eM3 => ?_)
      replace hf := lt_e hf eM3
      refine v_aload_n G dX12_readMany_33 0 rfl ?_
      refine v_aload_n G dX12_readMany_34 0 rfl ?_
      refine v_bipush (60 : Int32) G dX12_readMany_35 (by decide) ?_
      obtain ⟨v4, hcv4⟩ : ∃ q, f_X12_isSign a0 (60 : Int32) M3 = q := ⟨_, rfl⟩
      replace hf := lt_e hf hcv4.symm
      refine v_callV [.int (60 : Int32)] G (c_X12_isSign h0 hcv4) h0 (by decide) rfl rfl rfl t_1885 t_1887 t_p102 t_17 t_1888 nm_X12_isSign (by decide) (by decide) rfl rfl (Nat.le_of_ble_eq_true rfl) dX12_readMany_37 (kv_ri ?_)
      obtain ⟨j66, ej66, hf⟩ := lt_j hf
      have hj66 : ∀ (x5 : Int32), j66 x5 = some y → KV ad cy x (none, y) 66 [(0, .ref (ad a0)), (1, .int p1)] [.int x5, .ref (ad a0)] M3 := by
        intro x5 hf
        rw [ej66] at hf
        obtain ⟨v6, hcv6, hf⟩ := bd_e hf
        refine v_callV [.int x5] G (c_X12_must n h0 hcv6) h0 (by decide) rfl rfl rfl t_1762 t_1764 t_p72 t_17 t_1765 nm_X12_must (by decide) (by decide) rfl rfl (Nat.le_of_ble_eq_true rfl) dX12_readMany_66 (kv_rv ?_)
        refine v_aload_n G dX12_readMany_69 0 rfl ?_
        refine gf_12_20 G h0 t_1511 (Or.inl rfl) dX12_readMany_70 ?_
        refine v_iload_n G dX12_readMany_73 1 rfl ?_
        refine v_iconst (2 : Int32) G dX12_readMany_74 (by decide) ?_
        refine v_iadd G dX12_readMany_75 ?_
        refine v_aload_n G dX12_readMany_76 0 rfl ?_
        refine v_iconst (0 : Int32) G dX12_readMany_77 (by decide) ?_
        refine v_sipush (9999 : Int32) G dX12_readMany_78 (by decide) ?_
        obtain ⟨v7, hcv7, hf⟩ := bd_e hf
        refine v_callV [.int (0 : Int32), .int (9999 : Int32)] G (c_X12_count n h0 hcv7) h0 (by decide) rfl rfl rfl t_1747 t_1749 t_p69 t_17 t_1750 nm_X12_count (by decide) (by decide) rfl rfl (Nat.le_of_ble_eq_true rfl) dX12_readMany_81 (kv_ri ?_)
        obtain ⟨g8, hf⟩ := gd_e hf
        refine as_36 G (kf_12_5 h0) g8 dX12_readMany_84 ?_
        refine v_nmM (fun M9 eM9 => ?_)
        replace hf := lt_e hf eM9
        obtain rfl := Option.some.inj hf
        exact v_vret G dX12_readMany_85
      obtain ⟨j61, ej61, hf⟩ := lt_j hf
      have hj61 : j61 = some y → KV ad cy x (none, y) 61 [(0, .ref (ad a0)), (1, .int p1)] [.ref (ad a0)] M3 := by
        intro hf
        rw [ej61] at hf
        refine v_iconst (1 : Int32) G dX12_readMany_61 (by decide) ?_
        refine v_goto 66 G dX12_readMany_62 (by decide) ?_
        refine v_sub _ [0, 1] rfl ?_
        exact hj66 (1 : Int32) hf
      refine v_if_ne 61 G dX12_readMany_40 (by decide) (fun h14 => ?_) (fun h14 => ?_)
      · replace hf := (if_neg h14).symm.trans hf
        refine v_sub _ [0, 1] rfl ?_
        exact hj61 hf
      · replace hf := (if_pos h14).symm.trans hf
        refine v_aload_n G dX12_readMany_43 0 rfl ?_
        refine v_bipush (62 : Int32) G dX12_readMany_44 (by decide) ?_
        obtain ⟨v10, hcv10⟩ : ∃ q, f_X12_isSign a0 (62 : Int32) M3 = q := ⟨_, rfl⟩
        replace hf := lt_e hf hcv10.symm
        refine v_callV [.int (62 : Int32)] G (c_X12_isSign h0 hcv10) h0 (by decide) rfl rfl rfl t_1885 t_1887 t_p102 t_17 t_1888 nm_X12_isSign (by decide) (by decide) rfl rfl (Nat.le_of_ble_eq_true rfl) dX12_readMany_46 (kv_ri ?_)
        refine v_if_ne 61 G dX12_readMany_49 (by decide) (fun h13 => ?_) (fun h13 => ?_)
        · replace hf := (if_neg h13).symm.trans hf
          refine v_sub _ [0, 1] rfl ?_
          exact hj61 hf
        · replace hf := (if_pos h13).symm.trans hf
          refine v_aload_n G dX12_readMany_52 0 rfl ?_
          refine v_bipush (61 : Int32) G dX12_readMany_53 (by decide) ?_
          obtain ⟨v11, hcv11⟩ : ∃ q, f_X12_isSign a0 (61 : Int32) M3 = q := ⟨_, rfl⟩
          replace hf := lt_e hf hcv11.symm
          refine v_callV [.int (61 : Int32)] G (c_X12_isSign h0 hcv11) h0 (by decide) rfl rfl rfl t_1885 t_1887 t_p102 t_17 t_1888 nm_X12_isSign (by decide) (by decide) rfl rfl (Nat.le_of_ble_eq_true rfl) dX12_readMany_55 (kv_ri ?_)
          refine v_if_eq 65 G dX12_readMany_58 (by decide) (fun h12 => ?_) (fun h12 => ?_)
          · replace hf := (if_pos h12).symm.trans hf
            refine v_iconst (0 : Int32) G dX12_readMany_65 (by decide) ?_
            refine v_sub _ [0, 1] rfl ?_
            exact hj66 (0 : Int32) hf
          · replace hf := (if_neg h12).symm.trans hf
            refine v_sub _ [0, 1] rfl ?_
            exact hj61 hf
    refine v_icmp_ne 31 G dX12_readMany_21 (by decide) (fun h15 => ?_) (fun h15 => ?_)
    · replace hf := (if_neg h15).symm.trans hf
      refine v_iconst (0 : Int32) G dX12_readMany_31 (by decide) ?_
      refine v_sub _ [0, 1] rfl ?_
      exact hj32 (0 : Int32) hf
    · replace hf := (if_pos h15).symm.trans hf
      refine v_aload_n G dX12_readMany_24 0 rfl ?_
      refine gf_12_17 G h0 t_1508 (Or.inl rfl) dX12_readMany_25 ?_
      refine v_goto 32 G dX12_readMany_28 (by decide) ?_
      refine v_sub _ [0, 1] rfl ?_
      exact hj32 (M.1 a0 17) hf
  · replace hf := (if_neg h16).symm.trans hf
    obtain rfl := Option.some.inj hf
    exact v_vret G dX12_readMany_7
abbrev cX12_readTest : ByteArray := prog_14_method_73_code
def yX12_readTest : MethodName := ⟨RX12, "readTest", "(I)V"⟩
theorem dX12_readTest_0 : dc cX12_readTest 0 (.aload_n 0) 1 1 := ⟨by decide +kernel, rfl⟩
theorem dX12_readTest_1 : dc cX12_readTest 1 (.invokevirtual 211) 3 4 := ⟨by decide +kernel, rfl⟩
theorem dX12_readTest_4 : dc cX12_readTest 4 (.istore_n 2) 1 5 := ⟨by decide +kernel, rfl⟩
theorem dX12_readTest_5 : dc cX12_readTest 5 (.aload_n 0) 1 6 := ⟨by decide +kernel, rfl⟩
theorem dX12_readTest_6 : dc cX12_readTest 6 (.iload_n 2) 1 7 := ⟨by decide +kernel, rfl⟩
theorem dX12_readTest_7 : dc cX12_readTest 7 (.ifCond .lt 7) 3 10 := ⟨by decide +kernel, rfl⟩
theorem dX12_readTest_10 : dc cX12_readTest 10 (.iconst 1) 1 11 := ⟨by decide +kernel, rfl⟩
theorem dX12_readTest_11 : dc cX12_readTest 11 (.goto 4) 3 14 := ⟨by decide +kernel, rfl⟩
theorem dX12_readTest_14 : dc cX12_readTest 14 (.iconst 0) 1 15 := ⟨by decide +kernel, rfl⟩
theorem dX12_readTest_15 : dc cX12_readTest 15 (.invokevirtual 257) 3 18 := ⟨by decide +kernel, rfl⟩
theorem dX12_readTest_18 : dc cX12_readTest 18 (.aload_n 0) 1 19 := ⟨by decide +kernel, rfl⟩
theorem dX12_readTest_19 : dc cX12_readTest 19 (.getfield 35) 3 22 := ⟨by decide +kernel, rfl⟩
theorem dX12_readTest_22 : dc cX12_readTest 22 (.iload_n 1) 1 23 := ⟨by decide +kernel, rfl⟩
theorem dX12_readTest_23 : dc cX12_readTest 23 (.bipush 6) 2 25 := ⟨by decide +kernel, rfl⟩
theorem dX12_readTest_25 : dc cX12_readTest 25 (.iadd) 1 26 := ⟨by decide +kernel, rfl⟩
theorem dX12_readTest_26 : dc cX12_readTest 26 (.iload_n 2) 1 27 := ⟨by decide +kernel, rfl⟩
theorem dX12_readTest_27 : dc cX12_readTest 27 (.iastore) 1 28 := ⟨by decide +kernel, rfl⟩
theorem dX12_readTest_28 : dc cX12_readTest 28 (.aload_n 0) 1 29 := ⟨by decide +kernel, rfl⟩
theorem dX12_readTest_29 : dc cX12_readTest 29 (.getfield 220) 3 32 := ⟨by decide +kernel, rfl⟩
theorem dX12_readTest_32 : dc cX12_readTest 32 (.ifCond .gt 8) 3 35 := ⟨by decide +kernel, rfl⟩
theorem dX12_readTest_35 : dc cX12_readTest 35 (.iload_n 2) 1 36 := ⟨by decide +kernel, rfl⟩
theorem dX12_readTest_36 : dc cX12_readTest 36 (.iconst 1) 1 37 := ⟨by decide +kernel, rfl⟩
theorem dX12_readTest_37 : dc cX12_readTest 37 (.if_icmp .ne 4) 3 40 := ⟨by decide +kernel, rfl⟩
theorem dX12_readTest_40 : dc cX12_readTest 40 (.return_) 1 41 := ⟨by decide +kernel, rfl⟩
theorem dX12_readTest_41 : dc cX12_readTest 41 (.aload_n 0) 1 42 := ⟨by decide +kernel, rfl⟩
theorem dX12_readTest_42 : dc cX12_readTest 42 (.getfield 35) 3 45 := ⟨by decide +kernel, rfl⟩
theorem dX12_readTest_45 : dc cX12_readTest 45 (.iload_n 1) 1 46 := ⟨by decide +kernel, rfl⟩
theorem dX12_readTest_46 : dc cX12_readTest 46 (.iconst 1) 1 47 := ⟨by decide +kernel, rfl⟩
theorem dX12_readTest_47 : dc cX12_readTest 47 (.iadd) 1 48 := ⟨by decide +kernel, rfl⟩
theorem dX12_readTest_48 : dc cX12_readTest 48 (.aload_n 0) 1 49 := ⟨by decide +kernel, rfl⟩
theorem dX12_readTest_49 : dc cX12_readTest 49 (.iconst 0) 1 50 := ⟨by decide +kernel, rfl⟩
theorem dX12_readTest_50 : dc cX12_readTest 50 (.iconst 1) 1 51 := ⟨by decide +kernel, rfl⟩
theorem dX12_readTest_51 : dc cX12_readTest 51 (.invokevirtual 281) 3 54 := ⟨by decide +kernel, rfl⟩
theorem dX12_readTest_54 : dc cX12_readTest 54 (.iastore) 1 55 := ⟨by decide +kernel, rfl⟩
theorem dX12_readTest_55 : dc cX12_readTest 55 (.iload_n 2) 1 56 := ⟨by decide +kernel, rfl⟩
theorem dX12_readTest_56 : dc cX12_readTest 56 (.ifCond .ne 20) 3 59 := ⟨by decide +kernel, rfl⟩
theorem dX12_readTest_59 : dc cX12_readTest 59 (.aload_n 0) 1 60 := ⟨by decide +kernel, rfl⟩
theorem dX12_readTest_60 : dc cX12_readTest 60 (.getfield 35) 3 63 := ⟨by decide +kernel, rfl⟩
theorem dX12_readTest_63 : dc cX12_readTest 63 (.iload_n 1) 1 64 := ⟨by decide +kernel, rfl⟩
theorem dX12_readTest_64 : dc cX12_readTest 64 (.iconst 2) 1 65 := ⟨by decide +kernel, rfl⟩
theorem dX12_readTest_65 : dc cX12_readTest 65 (.iadd) 1 66 := ⟨by decide +kernel, rfl⟩
theorem dX12_readTest_66 : dc cX12_readTest 66 (.aload_n 0) 1 67 := ⟨by decide +kernel, rfl⟩
theorem dX12_readTest_67 : dc cX12_readTest 67 (.iconst 0) 1 68 := ⟨by decide +kernel, rfl⟩
theorem dX12_readTest_68 : dc cX12_readTest 68 (.iconst 0) 1 69 := ⟨by decide +kernel, rfl⟩
theorem dX12_readTest_69 : dc cX12_readTest 69 (.invokevirtual 281) 3 72 := ⟨by decide +kernel, rfl⟩
theorem dX12_readTest_72 : dc cX12_readTest 72 (.iastore) 1 73 := ⟨by decide +kernel, rfl⟩
theorem dX12_readTest_73 : dc cX12_readTest 73 (.goto 8) 3 76 := ⟨by decide +kernel, rfl⟩
theorem dX12_readTest_76 : dc cX12_readTest 76 (.aload_n 0) 1 77 := ⟨by decide +kernel, rfl⟩
theorem dX12_readTest_77 : dc cX12_readTest 77 (.iload_n 1) 1 78 := ⟨by decide +kernel, rfl⟩
theorem dX12_readTest_78 : dc cX12_readTest 78 (.invokevirtual 325) 3 81 := ⟨by decide +kernel, rfl⟩
theorem dX12_readTest_81 : dc cX12_readTest 81 (.return_) 1 82 := ⟨by decide +kernel, rfl⟩
theorem nm_X12_readTest : (yX12_readTest).cls ≠ "java/lang/invoke/MethodHandle" ∧ (yX12_readTest).cls ≠ "java/lang/invoke/VarHandle" ∧ (parseMethodDescriptor (yX12_readTest).desc).map (fun d => d.parameters.length) = some 1 := ⟨by decide +kernel, by decide +kernel, by decide +kernel⟩
set_option maxRecDepth 100000 in
set_option maxHeartbeats 4000000 in
theorem c_X12_readTest {l : Launch} {ad : Nat → Nat} {cy : Nat → ClassId} {D : va_G} {z : Nat} (n : Nat) {a0 : Nat} {p1 : Int32} {M : KM} {y : KM} (h0 : kty a0 = 12) (hf : f_X12_readTest n a0 p1 M = some y) : KC l ad cy D z yX12_readTest cX12_readTest 3 none 7 [.ref (ad a0), .int p1] M (none, y) := by
  refine kv_enter (by decide +kernel) (Nat.le_of_ble_eq_true rfl) ?_
  intro x hl hD hz G
  subst hl hD hz
  unfold f_X12_readTest at hf
  have G : KG ad cy x cX12_readTest "NoonGuidesModel" 3 (some none) 7 := G
  show KV ad cy x (none, y) 0 [(0, .ref (ad a0)), (1, .int p1)] [] M
  refine v_aload_n G dX12_readTest_0 0 rfl ?_
  obtain ⟨v1, hcv1⟩ : ∃ q, f_X12_testWord a0 M = q := ⟨_, rfl⟩
  replace hf := lt_e hf hcv1.symm
  refine v_callV [] G (c_X12_testWord h0 hcv1) h0 (by decide) rfl rfl rfl t_1721 t_1723 t_p64 t_17 t_1724 nm_X12_testWord (by decide) (by decide) rfl rfl (Nat.le_of_ble_eq_true rfl) dX12_readTest_1 (kv_ri ?_)
  refine v_istore_n [(2, .int v1), (0, .ref (ad a0)), (1, .int p1)] G dX12_readTest_4 (by decide) rfl ?_
  refine v_aload_n G dX12_readTest_5 1 rfl ?_
  refine v_iload_n G dX12_readTest_6 0 rfl ?_
  obtain ⟨j15, ej15, hf⟩ := lt_j hf
  have hj15 : ∀ (x2 : Int32), j15 x2 = some y → KV ad cy x (none, y) 15 [(0, .ref (ad a0)), (1, .int p1), (2, .int v1)] [.int x2, .ref (ad a0)] M := by
    intro x2 hf
    rw [ej15] at hf
    obtain ⟨v3, hcv3, hf⟩ := bd_e hf
    refine v_callV [.int x2] G (c_X12_must n h0 hcv3) h0 (by decide) rfl rfl rfl t_1762 t_1764 t_p72 t_17 t_1765 nm_X12_must (by decide) (by decide) rfl rfl (Nat.le_of_ble_eq_true rfl) dX12_readTest_15 (kv_rv ?_)
    refine v_aload_n G dX12_readTest_18 0 rfl ?_
    refine gf_12_20 G h0 t_1511 (Or.inl rfl) dX12_readTest_19 ?_
    refine v_iload_n G dX12_readTest_22 1 rfl ?_
    refine v_bipush (6 : Int32) G dX12_readTest_23 (by decide) ?_
    refine v_iadd G dX12_readTest_25 ?_
    refine v_iload_n G dX12_readTest_26 2 rfl ?_
    obtain ⟨g4, hf⟩ := gd_e hf
    refine as_36 G (kf_12_5 h0) g4 dX12_readTest_27 ?_
    refine v_nmM (fun M5 eM5 => ?_)
    replace hf := lt_e hf eM5
    refine v_aload_n G dX12_readTest_28 0 rfl ?_
    refine gf_12_12 G h0 t_1503 (Or.inl rfl) dX12_readTest_29 ?_
    refine v_if_gt 40 G dX12_readTest_32 (by decide) (fun h15 => ?_) (fun h15 => ?_)
    · replace hf := (if_pos h15).symm.trans hf
      obtain rfl := Option.some.inj hf
      exact v_vret G dX12_readTest_40
    · replace hf := (if_neg h15).symm.trans hf
      refine v_iload_n G dX12_readTest_35 2 rfl ?_
      refine v_iconst (1 : Int32) G dX12_readTest_36 (by decide) ?_
      refine v_icmp_ne 41 G dX12_readTest_37 (by decide) (fun h14 => ?_) (fun h14 => ?_)
      · replace hf := (if_neg h14).symm.trans hf
        refine v_aload_n G dX12_readTest_41 0 rfl ?_
        refine gf_12_20 G h0 t_1511 (Or.inl rfl) dX12_readTest_42 ?_
        refine v_iload_n G dX12_readTest_45 1 rfl ?_
        refine v_iconst (1 : Int32) G dX12_readTest_46 (by decide) ?_
        refine v_iadd G dX12_readTest_47 ?_
        refine v_aload_n G dX12_readTest_48 0 rfl ?_
        refine v_iconst (0 : Int32) G dX12_readTest_49 (by decide) ?_
        refine v_iconst (1 : Int32) G dX12_readTest_50 (by decide) ?_
        obtain ⟨v6, hcv6, hf⟩ := bd_e hf
        refine v_callV [.int (0 : Int32), .int (1 : Int32)] G (c_X12_readTold n h0 hcv6) h0 (by decide) rfl rfl rfl t_1860 t_1862 t_p96 t_17 t_1863 nm_X12_readTold (by decide) (by decide) rfl rfl (Nat.le_of_ble_eq_true rfl) dX12_readTest_51 (kv_ri ?_)
        obtain ⟨g7, hf⟩ := gd_e hf
        refine as_36 G (kf_12_5 h0) g7 dX12_readTest_54 ?_
        refine v_nmM (fun M8 eM8 => ?_)
        replace hf := lt_e hf eM8
        refine v_iload_n G dX12_readTest_55 2 rfl ?_
        refine v_if_ne 76 G dX12_readTest_56 (by decide) (fun h13 => ?_) (fun h13 => ?_)
        · replace hf := (if_neg h13).symm.trans hf
          refine v_aload_n G dX12_readTest_76 0 rfl ?_
          refine v_iload_n G dX12_readTest_77 1 rfl ?_
          obtain ⟨v9, hcv9, hf⟩ := bd_e hf
          refine v_callV [.int p1] G (c_X12_readMany n h0 hcv9) h0 (by decide) rfl rfl rfl t_1913 t_1915 t_p108 t_17 t_1916 nm_X12_readMany (by decide) (by decide) rfl rfl (Nat.le_of_ble_eq_true rfl) dX12_readTest_78 (kv_rv ?_)
          obtain rfl := Option.some.inj hf
          exact v_vret G dX12_readTest_81
        · replace hf := (if_pos h13).symm.trans hf
          refine v_aload_n G dX12_readTest_59 0 rfl ?_
          refine gf_12_20 G h0 t_1511 (Or.inl rfl) dX12_readTest_60 ?_
          refine v_iload_n G dX12_readTest_63 1 rfl ?_
          refine v_iconst (2 : Int32) G dX12_readTest_64 (by decide) ?_
          refine v_iadd G dX12_readTest_65 ?_
          refine v_aload_n G dX12_readTest_66 0 rfl ?_
          refine v_iconst (0 : Int32) G dX12_readTest_67 (by decide) ?_
          refine v_iconst (0 : Int32) G dX12_readTest_68 (by decide) ?_
          obtain ⟨v10, hcv10, hf⟩ := bd_e hf
          refine v_callV [.int (0 : Int32), .int (0 : Int32)] G (c_X12_readTold n h0 hcv10) h0 (by decide) rfl rfl rfl t_1860 t_1862 t_p96 t_17 t_1863 nm_X12_readTold (by decide) (by decide) rfl rfl (Nat.le_of_ble_eq_true rfl) dX12_readTest_69 (kv_ri ?_)
          obtain ⟨g11, hf⟩ := gd_e hf
          refine as_36 G (kf_12_5 h0) g11 dX12_readTest_72 ?_
          refine v_nmM (fun M12 eM12 => ?_)
          replace hf := lt_e hf eM12
          refine v_goto 81 G dX12_readTest_73 (by decide) ?_
          obtain rfl := Option.some.inj hf
          exact v_vret G dX12_readTest_81
      · replace hf := (if_pos h14).symm.trans hf
        obtain rfl := Option.some.inj hf
        exact v_vret G dX12_readTest_40
  refine v_if_lt 14 G dX12_readTest_7 (by decide) (fun h16 => ?_) (fun h16 => ?_)
  · replace hf := (if_pos h16).symm.trans hf
    refine v_iconst (0 : Int32) G dX12_readTest_14 (by decide) ?_
    refine v_sub _ [1, 2, 0] rfl ?_
    exact hj15 (0 : Int32) hf
  · replace hf := (if_neg h16).symm.trans hf
    refine v_iconst (1 : Int32) G dX12_readTest_10 (by decide) ?_
    refine v_goto 15 G dX12_readTest_11 (by decide) ?_
    refine v_sub _ [1, 2, 0] rfl ?_
    exact hj15 (1 : Int32) hf
abbrev cX12_readOther : ByteArray := prog_14_method_75_code
def yX12_readOther : MethodName := ⟨RX12, "readOther", "(I)I"⟩
theorem dX12_readOther_0 : dc cX12_readOther 0 (.aload_n 0) 1 1 := ⟨by decide +kernel, rfl⟩
theorem dX12_readOther_1 : dc cX12_readOther 1 (.iconst 0) 1 2 := ⟨by decide +kernel, rfl⟩
theorem dX12_readOther_2 : dc cX12_readOther 2 (.iconst 1) 1 3 := ⟨by decide +kernel, rfl⟩
theorem dX12_readOther_3 : dc cX12_readOther 3 (.invokevirtual 254) 3 6 := ⟨by decide +kernel, rfl⟩
theorem dX12_readOther_6 : dc cX12_readOther 6 (.istore_n 2) 1 7 := ⟨by decide +kernel, rfl⟩
theorem dX12_readOther_7 : dc cX12_readOther 7 (.aload_n 0) 1 8 := ⟨by decide +kernel, rfl⟩
theorem dX12_readOther_8 : dc cX12_readOther 8 (.getfield 220) 3 11 := ⟨by decide +kernel, rfl⟩
theorem dX12_readOther_11 : dc cX12_readOther 11 (.ifCond .ne 17) 3 14 := ⟨by decide +kernel, rfl⟩
theorem dX12_readOther_14 : dc cX12_readOther 14 (.iload_n 1) 1 15 := ⟨by decide +kernel, rfl⟩
theorem dX12_readOther_15 : dc cX12_readOther 15 (.iload_n 2) 1 16 := ⟨by decide +kernel, rfl⟩
theorem dX12_readOther_16 : dc cX12_readOther 16 (.if_icmp .ne 12) 3 19 := ⟨by decide +kernel, rfl⟩
theorem dX12_readOther_19 : dc cX12_readOther 19 (.aload_n 0) 1 20 := ⟨by decide +kernel, rfl⟩
theorem dX12_readOther_20 : dc cX12_readOther 20 (.iconst 5) 1 21 := ⟨by decide +kernel, rfl⟩
theorem dX12_readOther_21 : dc cX12_readOther 21 (.aload_n 0) 1 22 := ⟨by decide +kernel, rfl⟩
theorem dX12_readOther_22 : dc cX12_readOther 22 (.getfield 124) 3 25 := ⟨by decide +kernel, rfl⟩
theorem dX12_readOther_25 : dc cX12_readOther 25 (.invokevirtual 226) 3 28 := ⟨by decide +kernel, rfl⟩
theorem dX12_readOther_28 : dc cX12_readOther 28 (.aload_n 0) 1 29 := ⟨by decide +kernel, rfl⟩
theorem dX12_readOther_29 : dc cX12_readOther 29 (.iconst 1) 1 30 := ⟨by decide +kernel, rfl⟩
theorem dX12_readOther_30 : dc cX12_readOther 30 (.invokevirtual 257) 3 33 := ⟨by decide +kernel, rfl⟩
theorem dX12_readOther_33 : dc cX12_readOther 33 (.iload_n 2) 1 34 := ⟨by decide +kernel, rfl⟩
theorem dX12_readOther_34 : dc cX12_readOther 34 (.ireturn) 1 35 := ⟨by decide +kernel, rfl⟩
theorem nm_X12_readOther : (yX12_readOther).cls ≠ "java/lang/invoke/MethodHandle" ∧ (yX12_readOther).cls ≠ "java/lang/invoke/VarHandle" ∧ (parseMethodDescriptor (yX12_readOther).desc).map (fun d => d.parameters.length) = some 1 := ⟨by decide +kernel, by decide +kernel, by decide +kernel⟩
set_option maxRecDepth 100000 in
set_option maxHeartbeats 4000000 in
theorem c_X12_readOther {l : Launch} {ad : Nat → Nat} {cy : Nat → ClassId} {D : va_G} {z : Nat} (n : Nat) {a0 : Nat} {p1 : Int32} {M : KM} {y : (Int32 × KM)} (h0 : kty a0 = 12) (hf : f_X12_readOther n a0 p1 M = some y) : KC l ad cy D z yX12_readOther cX12_readOther 3 (some .int) 6 [.ref (ad a0), .int p1] M (some (.int y.1), y.2) := by
  refine kv_enter (by decide +kernel) (Nat.le_of_ble_eq_true rfl) ?_
  intro x hl hD hz G
  subst hl hD hz
  unfold f_X12_readOther at hf
  have G : KG ad cy x cX12_readOther "NoonGuidesModel" 3 (some (some .int)) 6 := G
  show KV ad cy x (some (.int y.1), y.2) 0 [(0, .ref (ad a0)), (1, .int p1)] [] M
  refine v_aload_n G dX12_readOther_0 0 rfl ?_
  refine v_iconst (0 : Int32) G dX12_readOther_1 (by decide) ?_
  refine v_iconst (1 : Int32) G dX12_readOther_2 (by decide) ?_
  obtain ⟨v1, hcv1, hf⟩ := bd_e hf
  refine v_callV [.int (0 : Int32), .int (1 : Int32)] G (c_X12_told n h0 hcv1) h0 (by decide) rfl rfl rfl t_1864 t_1866 t_p97 t_17 t_1867 nm_X12_told (by decide) (by decide) rfl rfl (Nat.le_of_ble_eq_true rfl) dX12_readOther_3 (kv_ri ?_)
  refine v_istore_n [(2, .int v1.1), (0, .ref (ad a0)), (1, .int p1)] G dX12_readOther_6 (by decide) rfl ?_
  refine v_aload_n G dX12_readOther_7 1 rfl ?_
  refine gf_12_12 G h0 t_1503 (Or.inl rfl) dX12_readOther_8 ?_
  obtain ⟨j28, ej28, hf⟩ := lt_j hf
  have hj28 : ∀ (M2 : KM), j28 M2 = some y → KV ad cy x (some (.int y.1), y.2) 28 [(0, .ref (ad a0)), (2, .int v1.1)] [] M2 := by
    intro M2 hf
    rw [ej28] at hf
    refine v_aload_n G dX12_readOther_28 0 rfl ?_
    refine v_iconst (1 : Int32) G dX12_readOther_29 (by decide) ?_
    obtain ⟨v3, hcv3, hf⟩ := bd_e hf
    refine v_callV [.int (1 : Int32)] G (c_X12_must n h0 hcv3) h0 (by decide) rfl rfl rfl t_1762 t_1764 t_p72 t_17 t_1765 nm_X12_must (by decide) (by decide) rfl rfl (Nat.le_of_ble_eq_true rfl) dX12_readOther_30 (kv_rv ?_)
    refine v_iload_n G dX12_readOther_33 1 rfl ?_
    obtain rfl := Option.some.inj hf
    exact v_iret G dX12_readOther_34
  refine v_if_ne 28 G dX12_readOther_11 (by decide) (fun h6 => ?_) (fun h6 => ?_)
  · replace hf := (if_neg h6).symm.trans hf
    refine v_sub _ [1, 0] rfl ?_
    exact hj28 v1.2 hf
  · replace hf := (if_pos h6).symm.trans hf
    refine v_iload_n G dX12_readOther_14 2 rfl ?_
    refine v_iload_n G dX12_readOther_15 0 rfl ?_
    refine v_icmp_ne 28 G dX12_readOther_16 (by decide) (fun h5 => ?_) (fun h5 => ?_)
    · replace hf := (if_neg h5).symm.trans hf
      refine v_sub _ [1, 0] rfl ?_
      exact hj28 v1.2 hf
    · replace hf := (if_pos h5).symm.trans hf
      refine v_aload_n G dX12_readOther_19 1 rfl ?_
      refine v_iconst (5 : Int32) G dX12_readOther_20 (by decide) ?_
      refine v_aload_n G dX12_readOther_21 1 rfl ?_
      refine gf_12_15 G h0 t_1506 (Or.inl rfl) dX12_readOther_22 ?_
      obtain ⟨v4, hcv4⟩ : ∃ q, f_X12_fail a0 (5 : Int32) (v1.2.1 a0 15) v1.2 = q := ⟨_, rfl⟩
      replace hf := lt_e hf hcv4.symm
      refine v_callV [.int (5 : Int32), .int (v1.2.1 a0 15)] G (c_X12_fail h0 hcv4) h0 (by decide) rfl rfl rfl t_1743 t_1745 t_p68 t_17 t_1746 nm_X12_fail (by decide) (by decide) rfl rfl (Nat.le_of_ble_eq_true rfl) dX12_readOther_25 (kv_rv ?_)
      refine v_sub _ [1, 0] rfl ?_
      exact hj28 v4 hf
abbrev cX12_readRest : ByteArray := prog_14_method_76_code
def yX12_readRest : MethodName := ⟨RX12, "readRest", "(I)V"⟩
theorem dX12_readRest_0 : dc cX12_readRest 0 (.aload_n 0) 1 1 := ⟨by decide +kernel, rfl⟩
theorem dX12_readRest_1 : dc cX12_readRest 1 (.getfield 35) 3 4 := ⟨by decide +kernel, rfl⟩
theorem dX12_readRest_4 : dc cX12_readRest 4 (.iload_n 1) 1 5 := ⟨by decide +kernel, rfl⟩
theorem dX12_readRest_5 : dc cX12_readRest 5 (.iaload) 1 6 := ⟨by decide +kernel, rfl⟩
theorem dX12_readRest_6 : dc cX12_readRest 6 (.istore_n 2) 1 7 := ⟨by decide +kernel, rfl⟩
theorem dX12_readRest_7 : dc cX12_readRest 7 (.iload_n 2) 1 8 := ⟨by decide +kernel, rfl⟩
theorem dX12_readRest_8 : dc cX12_readRest 8 (.ifCond .ne 22) 3 11 := ⟨by decide +kernel, rfl⟩
theorem dX12_readRest_11 : dc cX12_readRest 11 (.aload_n 0) 1 12 := ⟨by decide +kernel, rfl⟩
theorem dX12_readRest_12 : dc cX12_readRest 12 (.getfield 35) 3 15 := ⟨by decide +kernel, rfl⟩
theorem dX12_readRest_15 : dc cX12_readRest 15 (.iload_n 1) 1 16 := ⟨by decide +kernel, rfl⟩
theorem dX12_readRest_16 : dc cX12_readRest 16 (.iconst 1) 1 17 := ⟨by decide +kernel, rfl⟩
theorem dX12_readRest_17 : dc cX12_readRest 17 (.iadd) 1 18 := ⟨by decide +kernel, rfl⟩
theorem dX12_readRest_18 : dc cX12_readRest 18 (.aload_n 0) 1 19 := ⟨by decide +kernel, rfl⟩
theorem dX12_readRest_19 : dc cX12_readRest 19 (.iconst 1) 1 20 := ⟨by decide +kernel, rfl⟩
theorem dX12_readRest_20 : dc cX12_readRest 20 (.sipush 600) 3 23 := ⟨by decide +kernel, rfl⟩
theorem dX12_readRest_23 : dc cX12_readRest 23 (.invokevirtual 267) 3 26 := ⟨by decide +kernel, rfl⟩
theorem dX12_readRest_26 : dc cX12_readRest 26 (.iastore) 1 27 := ⟨by decide +kernel, rfl⟩
theorem dX12_readRest_27 : dc cX12_readRest 27 (.goto 60) 3 30 := ⟨by decide +kernel, rfl⟩
theorem dX12_readRest_30 : dc cX12_readRest 30 (.iload_n 2) 1 31 := ⟨by decide +kernel, rfl⟩
theorem dX12_readRest_31 : dc cX12_readRest 31 (.bipush 7) 2 33 := ⟨by decide +kernel, rfl⟩
theorem dX12_readRest_33 : dc cX12_readRest 33 (.if_icmp .ne 21) 3 36 := ⟨by decide +kernel, rfl⟩
theorem dX12_readRest_36 : dc cX12_readRest 36 (.aload_n 0) 1 37 := ⟨by decide +kernel, rfl⟩
theorem dX12_readRest_37 : dc cX12_readRest 37 (.getfield 35) 3 40 := ⟨by decide +kernel, rfl⟩
theorem dX12_readRest_40 : dc cX12_readRest 40 (.iload_n 1) 1 41 := ⟨by decide +kernel, rfl⟩
theorem dX12_readRest_41 : dc cX12_readRest 41 (.iconst 1) 1 42 := ⟨by decide +kernel, rfl⟩
theorem dX12_readRest_42 : dc cX12_readRest 42 (.iadd) 1 43 := ⟨by decide +kernel, rfl⟩
theorem dX12_readRest_43 : dc cX12_readRest 43 (.aload_n 0) 1 44 := ⟨by decide +kernel, rfl⟩
theorem dX12_readRest_44 : dc cX12_readRest 44 (.iconst 1) 1 45 := ⟨by decide +kernel, rfl⟩
theorem dX12_readRest_45 : dc cX12_readRest 45 (.bipush 99) 2 47 := ⟨by decide +kernel, rfl⟩
theorem dX12_readRest_47 : dc cX12_readRest 47 (.invokevirtual 267) 3 50 := ⟨by decide +kernel, rfl⟩
theorem dX12_readRest_50 : dc cX12_readRest 50 (.iastore) 1 51 := ⟨by decide +kernel, rfl⟩
theorem dX12_readRest_51 : dc cX12_readRest 51 (.goto 36) 3 54 := ⟨by decide +kernel, rfl⟩
theorem dX12_readRest_54 : dc cX12_readRest 54 (.iload_n 2) 1 55 := ⟨by decide +kernel, rfl⟩
theorem dX12_readRest_55 : dc cX12_readRest 55 (.bipush 6) 2 57 := ⟨by decide +kernel, rfl⟩
theorem dX12_readRest_57 : dc cX12_readRest 57 (.if_icmp .ne 11) 3 60 := ⟨by decide +kernel, rfl⟩
theorem dX12_readRest_60 : dc cX12_readRest 60 (.aload_n 0) 1 61 := ⟨by decide +kernel, rfl⟩
theorem dX12_readRest_61 : dc cX12_readRest 61 (.iload_n 1) 1 62 := ⟨by decide +kernel, rfl⟩
theorem dX12_readRest_62 : dc cX12_readRest 62 (.invokevirtual 328) 3 65 := ⟨by decide +kernel, rfl⟩
theorem dX12_readRest_65 : dc cX12_readRest 65 (.goto 22) 3 68 := ⟨by decide +kernel, rfl⟩
theorem dX12_readRest_68 : dc cX12_readRest 68 (.iload_n 2) 1 69 := ⟨by decide +kernel, rfl⟩
theorem dX12_readRest_69 : dc cX12_readRest 69 (.iconst 3) 1 70 := ⟨by decide +kernel, rfl⟩
theorem dX12_readRest_70 : dc cX12_readRest 70 (.if_icmp .ge 17) 3 73 := ⟨by decide +kernel, rfl⟩
theorem dX12_readRest_73 : dc cX12_readRest 73 (.aload_n 0) 1 74 := ⟨by decide +kernel, rfl⟩
theorem dX12_readRest_74 : dc cX12_readRest 74 (.getfield 35) 3 77 := ⟨by decide +kernel, rfl⟩
theorem dX12_readRest_77 : dc cX12_readRest 77 (.iload_n 1) 1 78 := ⟨by decide +kernel, rfl⟩
theorem dX12_readRest_78 : dc cX12_readRest 78 (.iconst 1) 1 79 := ⟨by decide +kernel, rfl⟩
theorem dX12_readRest_79 : dc cX12_readRest 79 (.iadd) 1 80 := ⟨by decide +kernel, rfl⟩
theorem dX12_readRest_80 : dc cX12_readRest 80 (.aload_n 0) 1 81 := ⟨by decide +kernel, rfl⟩
theorem dX12_readRest_81 : dc cX12_readRest 81 (.iconst 0) 1 82 := ⟨by decide +kernel, rfl⟩
theorem dX12_readRest_82 : dc cX12_readRest 82 (.iconst 1) 1 83 := ⟨by decide +kernel, rfl⟩
theorem dX12_readRest_83 : dc cX12_readRest 83 (.invokevirtual 281) 3 86 := ⟨by decide +kernel, rfl⟩
theorem dX12_readRest_86 : dc cX12_readRest 86 (.iastore) 1 87 := ⟨by decide +kernel, rfl⟩
theorem dX12_readRest_87 : dc cX12_readRest 87 (.iload_n 2) 1 88 := ⟨by decide +kernel, rfl⟩
theorem dX12_readRest_88 : dc cX12_readRest 88 (.iconst 2) 1 89 := ⟨by decide +kernel, rfl⟩
theorem dX12_readRest_89 : dc cX12_readRest 89 (.if_icmp .ne 23) 3 92 := ⟨by decide +kernel, rfl⟩
theorem dX12_readRest_92 : dc cX12_readRest 92 (.aload_n 0) 1 93 := ⟨by decide +kernel, rfl⟩
theorem dX12_readRest_93 : dc cX12_readRest 93 (.getfield 35) 3 96 := ⟨by decide +kernel, rfl⟩
theorem dX12_readRest_96 : dc cX12_readRest 96 (.iload_n 1) 1 97 := ⟨by decide +kernel, rfl⟩
theorem dX12_readRest_97 : dc cX12_readRest 97 (.iconst 3) 1 98 := ⟨by decide +kernel, rfl⟩
theorem dX12_readRest_98 : dc cX12_readRest 98 (.iadd) 1 99 := ⟨by decide +kernel, rfl⟩
theorem dX12_readRest_99 : dc cX12_readRest 99 (.aload_n 0) 1 100 := ⟨by decide +kernel, rfl⟩
theorem dX12_readRest_100 : dc cX12_readRest 100 (.aload_n 0) 1 101 := ⟨by decide +kernel, rfl⟩
theorem dX12_readRest_101 : dc cX12_readRest 101 (.getfield 35) 3 104 := ⟨by decide +kernel, rfl⟩
theorem dX12_readRest_104 : dc cX12_readRest 104 (.iload_n 1) 1 105 := ⟨by decide +kernel, rfl⟩
theorem dX12_readRest_105 : dc cX12_readRest 105 (.iconst 1) 1 106 := ⟨by decide +kernel, rfl⟩
theorem dX12_readRest_106 : dc cX12_readRest 106 (.iadd) 1 107 := ⟨by decide +kernel, rfl⟩
theorem dX12_readRest_107 : dc cX12_readRest 107 (.iaload) 1 108 := ⟨by decide +kernel, rfl⟩
theorem dX12_readRest_108 : dc cX12_readRest 108 (.invokevirtual 331) 3 111 := ⟨by decide +kernel, rfl⟩
theorem dX12_readRest_111 : dc cX12_readRest 111 (.iastore) 1 112 := ⟨by decide +kernel, rfl⟩
theorem dX12_readRest_112 : dc cX12_readRest 112 (.iload_n 2) 1 113 := ⟨by decide +kernel, rfl⟩
theorem dX12_readRest_113 : dc cX12_readRest 113 (.iconst 1) 1 114 := ⟨by decide +kernel, rfl⟩
theorem dX12_readRest_114 : dc cX12_readRest 114 (.if_icmp .eq 8) 3 117 := ⟨by decide +kernel, rfl⟩
theorem dX12_readRest_117 : dc cX12_readRest 117 (.iload_n 2) 1 118 := ⟨by decide +kernel, rfl⟩
theorem dX12_readRest_118 : dc cX12_readRest 118 (.iconst 2) 1 119 := ⟨by decide +kernel, rfl⟩
theorem dX12_readRest_119 : dc cX12_readRest 119 (.if_icmp .ne 17) 3 122 := ⟨by decide +kernel, rfl⟩
theorem dX12_readRest_122 : dc cX12_readRest 122 (.aload_n 0) 1 123 := ⟨by decide +kernel, rfl⟩
theorem dX12_readRest_123 : dc cX12_readRest 123 (.getfield 35) 3 126 := ⟨by decide +kernel, rfl⟩
theorem dX12_readRest_126 : dc cX12_readRest 126 (.iload_n 1) 1 127 := ⟨by decide +kernel, rfl⟩
theorem dX12_readRest_127 : dc cX12_readRest 127 (.iconst 2) 1 128 := ⟨by decide +kernel, rfl⟩
theorem dX12_readRest_128 : dc cX12_readRest 128 (.iadd) 1 129 := ⟨by decide +kernel, rfl⟩
theorem dX12_readRest_129 : dc cX12_readRest 129 (.aload_n 0) 1 130 := ⟨by decide +kernel, rfl⟩
theorem dX12_readRest_130 : dc cX12_readRest 130 (.iconst 0) 1 131 := ⟨by decide +kernel, rfl⟩
theorem dX12_readRest_131 : dc cX12_readRest 131 (.iconst 0) 1 132 := ⟨by decide +kernel, rfl⟩
theorem dX12_readRest_132 : dc cX12_readRest 132 (.invokevirtual 281) 3 135 := ⟨by decide +kernel, rfl⟩
theorem dX12_readRest_135 : dc cX12_readRest 135 (.iastore) 1 136 := ⟨by decide +kernel, rfl⟩
theorem dX12_readRest_136 : dc cX12_readRest 136 (.return_) 1 137 := ⟨by decide +kernel, rfl⟩
theorem nm_X12_readRest : (yX12_readRest).cls ≠ "java/lang/invoke/MethodHandle" ∧ (yX12_readRest).cls ≠ "java/lang/invoke/VarHandle" ∧ (parseMethodDescriptor (yX12_readRest).desc).map (fun d => d.parameters.length) = some 1 := ⟨by decide +kernel, by decide +kernel, by decide +kernel⟩
set_option maxRecDepth 100000 in
set_option maxHeartbeats 4000000 in
theorem c_X12_readRest {l : Launch} {ad : Nat → Nat} {cy : Nat → ClassId} {D : va_G} {z : Nat} (n : Nat) {a0 : Nat} {p1 : Int32} {M : KM} {y : KM} (h0 : kty a0 = 12) (hf : f_X12_readRest n a0 p1 M = some y) : KC l ad cy D z yX12_readRest cX12_readRest 3 none 8 [.ref (ad a0), .int p1] M (none, y) := by
  refine kv_enter (by decide +kernel) (Nat.le_of_ble_eq_true rfl) ?_
  intro x hl hD hz G
  subst hl hD hz
  unfold f_X12_readRest at hf
  have G : KG ad cy x cX12_readRest "NoonGuidesModel" 3 (some none) 8 := G
  show KV ad cy x (none, y) 0 [(0, .ref (ad a0)), (1, .int p1)] [] M
  refine v_aload_n G dX12_readRest_0 0 rfl ?_
  refine gf_12_20 G h0 t_1511 (Or.inl rfl) dX12_readRest_1 ?_
  refine v_iload_n G dX12_readRest_4 1 rfl ?_
  obtain ⟨g1, hf⟩ := gd_e hf
  refine al_36 G (kf_12_5 h0) g1 dX12_readRest_5 ?_
  refine v_nmi (fun v2 ev2 => ?_)
  replace hf := lt_e hf ev2
  refine v_istore_n [(2, .int v2), (0, .ref (ad a0)), (1, .int p1)] G dX12_readRest_6 (by decide) rfl ?_
  refine v_iload_n G dX12_readRest_7 0 rfl ?_
  obtain ⟨j87, ej87, hf⟩ := lt_j hf
  have hj87 : ∀ (M3 : KM), j87 M3 = some y → KV ad cy x (none, y) 87 [(0, .ref (ad a0)), (1, .int p1), (2, .int v2)] [] M3 := by
    intro M3 hf
    rw [ej87] at hf
    refine v_iload_n G dX12_readRest_87 2 rfl ?_
    refine v_iconst (2 : Int32) G dX12_readRest_88 (by decide) ?_
    obtain ⟨j112, ej112, hf⟩ := lt_j hf
    have hj112 : ∀ (M4 : KM), j112 M4 = some y → KV ad cy x (none, y) 112 [(0, .ref (ad a0)), (1, .int p1), (2, .int v2)] [] M4 := by
      intro M4 hf
      rw [ej112] at hf
      refine v_iload_n G dX12_readRest_112 2 rfl ?_
      refine v_iconst (1 : Int32) G dX12_readRest_113 (by decide) ?_
      obtain ⟨j122, ej122, hf⟩ := lt_j hf
      have hj122 : j122 = some y → KV ad cy x (none, y) 122 [(0, .ref (ad a0)), (1, .int p1)] [] M4 := by
        intro hf
        rw [ej122] at hf
        refine v_aload_n G dX12_readRest_122 0 rfl ?_
        refine gf_12_20 G h0 t_1511 (Or.inl rfl) dX12_readRest_123 ?_
        refine v_iload_n G dX12_readRest_126 1 rfl ?_
        refine v_iconst (2 : Int32) G dX12_readRest_127 (by decide) ?_
        refine v_iadd G dX12_readRest_128 ?_
        refine v_aload_n G dX12_readRest_129 0 rfl ?_
        refine v_iconst (0 : Int32) G dX12_readRest_130 (by decide) ?_
        refine v_iconst (0 : Int32) G dX12_readRest_131 (by decide) ?_
        obtain ⟨v5, hcv5, hf⟩ := bd_e hf
        refine v_callV [.int (0 : Int32), .int (0 : Int32)] G (c_X12_readTold n h0 hcv5) h0 (by decide) rfl rfl rfl t_1860 t_1862 t_p96 t_17 t_1863 nm_X12_readTold (by decide) (by decide) rfl rfl (Nat.le_of_ble_eq_true rfl) dX12_readRest_132 (kv_ri ?_)
        obtain ⟨g6, hf⟩ := gd_e hf
        refine as_36 G (kf_12_5 h0) g6 dX12_readRest_135 ?_
        refine v_nmM (fun M7 eM7 => ?_)
        replace hf := lt_e hf eM7
        obtain rfl := Option.some.inj hf
        exact v_vret G dX12_readRest_136
      refine v_icmp_eq 122 G dX12_readRest_114 (by decide) (fun h9 => ?_) (fun h9 => ?_)
      · replace hf := (if_pos h9).symm.trans hf
        refine v_sub _ [0, 1] rfl ?_
        exact hj122 hf
      · replace hf := (if_neg h9).symm.trans hf
        refine v_iload_n G dX12_readRest_117 2 rfl ?_
        refine v_iconst (2 : Int32) G dX12_readRest_118 (by decide) ?_
        refine v_icmp_ne 136 G dX12_readRest_119 (by decide) (fun h8 => ?_) (fun h8 => ?_)
        · replace hf := (if_neg h8).symm.trans hf
          obtain rfl := Option.some.inj hf
          exact v_vret G dX12_readRest_136
        · replace hf := (if_pos h8).symm.trans hf
          refine v_sub _ [0, 1] rfl ?_
          exact hj122 hf
    refine v_icmp_ne 112 G dX12_readRest_89 (by decide) (fun h14 => ?_) (fun h14 => ?_)
    · replace hf := (if_neg h14).symm.trans hf
      refine v_sub _ [0, 1, 2] rfl ?_
      exact hj112 M3 hf
    · replace hf := (if_pos h14).symm.trans hf
      refine v_aload_n G dX12_readRest_92 0 rfl ?_
      refine gf_12_20 G h0 t_1511 (Or.inl rfl) dX12_readRest_93 ?_
      refine v_iload_n G dX12_readRest_96 1 rfl ?_
      refine v_iconst (3 : Int32) G dX12_readRest_97 (by decide) ?_
      refine v_iadd G dX12_readRest_98 ?_
      refine v_aload_n G dX12_readRest_99 0 rfl ?_
      refine v_aload_n G dX12_readRest_100 0 rfl ?_
      refine gf_12_20 G h0 t_1511 (Or.inl rfl) dX12_readRest_101 ?_
      refine v_iload_n G dX12_readRest_104 1 rfl ?_
      refine v_iconst (1 : Int32) G dX12_readRest_105 (by decide) ?_
      refine v_iadd G dX12_readRest_106 ?_
      obtain ⟨g10, hf⟩ := gd_e hf
      refine al_36 G (kf_12_5 h0) g10 dX12_readRest_107 ?_
      obtain ⟨v11, hcv11, hf⟩ := bd_e hf
      refine v_callV [.int (M3.1 (a0 + 5) ((p1 + (1 : Int32))).toNatClampNeg)] G (c_X12_readOther n h0 hcv11) h0 (by decide) rfl rfl rfl t_1917 t_1919 t_p109 t_17 t_1920 nm_X12_readOther (by decide) (by decide) rfl rfl (Nat.le_of_ble_eq_true rfl) dX12_readRest_108 (kv_ri ?_)
      obtain ⟨g12, hf⟩ := gd_e hf
      refine as_36 G (kf_12_5 h0) g12 dX12_readRest_111 ?_
      refine v_nmM (fun M13 eM13 => ?_)
      replace hf := lt_e hf eM13
      refine v_sub _ [0, 1, 2] rfl ?_
      exact hj112 M13 hf
  refine v_if_ne 30 G dX12_readRest_8 (by decide) (fun h28 => ?_) (fun h28 => ?_)
  · replace hf := (if_neg h28).symm.trans hf
    refine v_iload_n G dX12_readRest_30 0 rfl ?_
    refine v_bipush (7 : Int32) G dX12_readRest_31 (by decide) ?_
    refine v_icmp_ne 54 G dX12_readRest_33 (by decide) (fun h24 => ?_) (fun h24 => ?_)
    · replace hf := (if_neg h24).symm.trans hf
      refine v_iload_n G dX12_readRest_54 0 rfl ?_
      refine v_bipush (6 : Int32) G dX12_readRest_55 (by decide) ?_
      refine v_icmp_ne 68 G dX12_readRest_57 (by decide) (fun h20 => ?_) (fun h20 => ?_)
      · replace hf := (if_neg h20).symm.trans hf
        refine v_iload_n G dX12_readRest_68 0 rfl ?_
        refine v_iconst (3 : Int32) G dX12_readRest_69 (by decide) ?_
        refine v_icmp_ge 87 G dX12_readRest_70 (by decide) (fun h18 => ?_) (fun h18 => ?_)
        · replace hf := (if_pos h18).symm.trans hf
          refine v_sub _ [1, 2, 0] rfl ?_
          exact hj87 M hf
        · replace hf := (if_neg h18).symm.trans hf
          refine v_aload_n G dX12_readRest_73 1 rfl ?_
          refine gf_12_20 G h0 t_1511 (Or.inl rfl) dX12_readRest_74 ?_
          refine v_iload_n G dX12_readRest_77 2 rfl ?_
          refine v_iconst (1 : Int32) G dX12_readRest_78 (by decide) ?_
          refine v_iadd G dX12_readRest_79 ?_
          refine v_aload_n G dX12_readRest_80 1 rfl ?_
          refine v_iconst (0 : Int32) G dX12_readRest_81 (by decide) ?_
          refine v_iconst (1 : Int32) G dX12_readRest_82 (by decide) ?_
          obtain ⟨v15, hcv15, hf⟩ := bd_e hf
          refine v_callV [.int (0 : Int32), .int (1 : Int32)] G (c_X12_readTold n h0 hcv15) h0 (by decide) rfl rfl rfl t_1860 t_1862 t_p96 t_17 t_1863 nm_X12_readTold (by decide) (by decide) rfl rfl (Nat.le_of_ble_eq_true rfl) dX12_readRest_83 (kv_ri ?_)
          obtain ⟨g16, hf⟩ := gd_e hf
          refine as_36 G (kf_12_5 h0) g16 dX12_readRest_86 ?_
          refine v_nmM (fun M17 eM17 => ?_)
          replace hf := lt_e hf eM17
          refine v_sub _ [1, 2, 0] rfl ?_
          exact hj87 M17 hf
      · replace hf := (if_pos h20).symm.trans hf
        refine v_aload_n G dX12_readRest_60 1 rfl ?_
        refine v_iload_n G dX12_readRest_61 2 rfl ?_
        obtain ⟨v19, hcv19, hf⟩ := bd_e hf
        refine v_callV [.int p1] G (c_X12_readTest n h0 hcv19) h0 (by decide) rfl rfl rfl t_1909 t_1911 t_p107 t_17 t_1912 nm_X12_readTest (by decide) (by decide) rfl rfl (Nat.le_of_ble_eq_true rfl) dX12_readRest_62 (kv_rv ?_)
        refine v_goto 87 G dX12_readRest_65 (by decide) ?_
        refine v_sub _ [1, 2, 0] rfl ?_
        exact hj87 v19 hf
    · replace hf := (if_pos h24).symm.trans hf
      refine v_aload_n G dX12_readRest_36 1 rfl ?_
      refine gf_12_20 G h0 t_1511 (Or.inl rfl) dX12_readRest_37 ?_
      refine v_iload_n G dX12_readRest_40 2 rfl ?_
      refine v_iconst (1 : Int32) G dX12_readRest_41 (by decide) ?_
      refine v_iadd G dX12_readRest_42 ?_
      refine v_aload_n G dX12_readRest_43 1 rfl ?_
      refine v_iconst (1 : Int32) G dX12_readRest_44 (by decide) ?_
      refine v_bipush (99 : Int32) G dX12_readRest_45 (by decide) ?_
      obtain ⟨v21, hcv21, hf⟩ := bd_e hf
      refine v_callV [.int (1 : Int32), .int (99 : Int32)] G (c_X12_count n h0 hcv21) h0 (by decide) rfl rfl rfl t_1747 t_1749 t_p69 t_17 t_1750 nm_X12_count (by decide) (by decide) rfl rfl (Nat.le_of_ble_eq_true rfl) dX12_readRest_47 (kv_ri ?_)
      obtain ⟨g22, hf⟩ := gd_e hf
      refine as_36 G (kf_12_5 h0) g22 dX12_readRest_50 ?_
      refine v_nmM (fun M23 eM23 => ?_)
      replace hf := lt_e hf eM23
      refine v_goto 87 G dX12_readRest_51 (by decide) ?_
      refine v_sub _ [1, 2, 0] rfl ?_
      exact hj87 M23 hf
  · replace hf := (if_pos h28).symm.trans hf
    refine v_aload_n G dX12_readRest_11 1 rfl ?_
    refine gf_12_20 G h0 t_1511 (Or.inl rfl) dX12_readRest_12 ?_
    refine v_iload_n G dX12_readRest_15 2 rfl ?_
    refine v_iconst (1 : Int32) G dX12_readRest_16 (by decide) ?_
    refine v_iadd G dX12_readRest_17 ?_
    refine v_aload_n G dX12_readRest_18 1 rfl ?_
    refine v_iconst (1 : Int32) G dX12_readRest_19 (by decide) ?_
    refine v_sipush (600 : Int32) G dX12_readRest_20 (by decide) ?_
    obtain ⟨v25, hcv25, hf⟩ := bd_e hf
    refine v_callV [.int (1 : Int32), .int (600 : Int32)] G (c_X12_count n h0 hcv25) h0 (by decide) rfl rfl rfl t_1747 t_1749 t_p69 t_17 t_1750 nm_X12_count (by decide) (by decide) rfl rfl (Nat.le_of_ble_eq_true rfl) dX12_readRest_23 (kv_ri ?_)
    obtain ⟨g26, hf⟩ := gd_e hf
    refine as_36 G (kf_12_5 h0) g26 dX12_readRest_26 ?_
    refine v_nmM (fun M27 eM27 => ?_)
    replace hf := lt_e hf eM27
    refine v_goto 87 G dX12_readRest_27 (by decide) ?_
    refine v_sub _ [1, 2, 0] rfl ?_
    exact hj87 M27 hf
abbrev cX12_readStep : ByteArray := prog_14_method_77_code
def yX12_readStep : MethodName := ⟨RX12, "readStep", "(I)V"⟩
theorem dX12_readStep_0 : dc cX12_readStep 0 (.aload_n 0) 1 1 := ⟨by decide +kernel, rfl⟩
theorem dX12_readStep_1 : dc cX12_readStep 1 (.invokevirtual 207) 3 4 := ⟨by decide +kernel, rfl⟩
theorem dX12_readStep_4 : dc cX12_readStep 4 (.istore_n 2) 1 5 := ⟨by decide +kernel, rfl⟩
theorem dX12_readStep_5 : dc cX12_readStep 5 (.iload_n 2) 1 6 := ⟨by decide +kernel, rfl⟩
theorem dX12_readStep_6 : dc cX12_readStep 6 (.bipush 6) 2 8 := ⟨by decide +kernel, rfl⟩
theorem dX12_readStep_8 : dc cX12_readStep 8 (.if_icmp .eq 9) 3 11 := ⟨by decide +kernel, rfl⟩
theorem dX12_readStep_11 : dc cX12_readStep 11 (.iload_n 2) 1 12 := ⟨by decide +kernel, rfl⟩
theorem dX12_readStep_12 : dc cX12_readStep 12 (.bipush 7) 2 14 := ⟨by decide +kernel, rfl⟩
theorem dX12_readStep_14 : dc cX12_readStep 14 (.if_icmp .ne 7) 3 17 := ⟨by decide +kernel, rfl⟩
theorem dX12_readStep_17 : dc cX12_readStep 17 (.iconst 1) 1 18 := ⟨by decide +kernel, rfl⟩
theorem dX12_readStep_18 : dc cX12_readStep 18 (.goto 4) 3 21 := ⟨by decide +kernel, rfl⟩
theorem dX12_readStep_21 : dc cX12_readStep 21 (.iconst 0) 1 22 := ⟨by decide +kernel, rfl⟩
theorem dX12_readStep_22 : dc cX12_readStep 22 (.istore_n 3) 1 23 := ⟨by decide +kernel, rfl⟩
theorem dX12_readStep_23 : dc cX12_readStep 23 (.iload_n 2) 1 24 := ⟨by decide +kernel, rfl⟩
theorem dX12_readStep_24 : dc cX12_readStep 24 (.ifCond .ge 7) 3 27 := ⟨by decide +kernel, rfl⟩
theorem dX12_readStep_27 : dc cX12_readStep 27 (.aload_n 0) 1 28 := ⟨by decide +kernel, rfl⟩
theorem dX12_readStep_28 : dc cX12_readStep 28 (.invokevirtual 233) 3 31 := ⟨by decide +kernel, rfl⟩
theorem dX12_readStep_31 : dc cX12_readStep 31 (.aload_n 0) 1 32 := ⟨by decide +kernel, rfl⟩
theorem dX12_readStep_32 : dc cX12_readStep 32 (.getfield 220) 3 35 := ⟨by decide +kernel, rfl⟩
theorem dX12_readStep_35 : dc cX12_readStep 35 (.ifCond .ne 22) 3 38 := ⟨by decide +kernel, rfl⟩
theorem dX12_readStep_38 : dc cX12_readStep 38 (.aload_n 0) 1 39 := ⟨by decide +kernel, rfl⟩
theorem dX12_readStep_39 : dc cX12_readStep 39 (.getfield 334) 3 42 := ⟨by decide +kernel, rfl⟩
theorem dX12_readStep_42 : dc cX12_readStep 42 (.bipush 30) 2 44 := ⟨by decide +kernel, rfl⟩
theorem dX12_readStep_44 : dc cX12_readStep 44 (.if_icmp .ne 13) 3 47 := ⟨by decide +kernel, rfl⟩
theorem dX12_readStep_47 : dc cX12_readStep 47 (.aload_n 0) 1 48 := ⟨by decide +kernel, rfl⟩
theorem dX12_readStep_48 : dc cX12_readStep 48 (.bipush 6) 2 50 := ⟨by decide +kernel, rfl⟩
theorem dX12_readStep_50 : dc cX12_readStep 50 (.aload_n 0) 1 51 := ⟨by decide +kernel, rfl⟩
theorem dX12_readStep_51 : dc cX12_readStep 51 (.getfield 124) 3 54 := ⟨by decide +kernel, rfl⟩
theorem dX12_readStep_54 : dc cX12_readStep 54 (.invokevirtual 226) 3 57 := ⟨by decide +kernel, rfl⟩
theorem dX12_readStep_57 : dc cX12_readStep 57 (.aload_n 0) 1 58 := ⟨by decide +kernel, rfl⟩
theorem dX12_readStep_58 : dc cX12_readStep 58 (.getfield 220) 3 61 := ⟨by decide +kernel, rfl⟩
theorem dX12_readStep_61 : dc cX12_readStep 61 (.ifCond .ne 22) 3 64 := ⟨by decide +kernel, rfl⟩
theorem dX12_readStep_64 : dc cX12_readStep 64 (.iload_n 3) 1 65 := ⟨by decide +kernel, rfl⟩
theorem dX12_readStep_65 : dc cX12_readStep 65 (.ifCond .eq 18) 3 68 := ⟨by decide +kernel, rfl⟩
theorem dX12_readStep_68 : dc cX12_readStep 68 (.iload_n 1) 1 69 := ⟨by decide +kernel, rfl⟩
theorem dX12_readStep_69 : dc cX12_readStep 69 (.iconst 3) 1 70 := ⟨by decide +kernel, rfl⟩
theorem dX12_readStep_70 : dc cX12_readStep 70 (.if_icmp .ne 13) 3 73 := ⟨by decide +kernel, rfl⟩
theorem dX12_readStep_73 : dc cX12_readStep 73 (.aload_n 0) 1 74 := ⟨by decide +kernel, rfl⟩
theorem dX12_readStep_74 : dc cX12_readStep 74 (.bipush 7) 2 76 := ⟨by decide +kernel, rfl⟩
theorem dX12_readStep_76 : dc cX12_readStep 76 (.aload_n 0) 1 77 := ⟨by decide +kernel, rfl⟩
theorem dX12_readStep_77 : dc cX12_readStep 77 (.getfield 124) 3 80 := ⟨by decide +kernel, rfl⟩
theorem dX12_readStep_80 : dc cX12_readStep 80 (.invokevirtual 226) 3 83 := ⟨by decide +kernel, rfl⟩
theorem dX12_readStep_83 : dc cX12_readStep 83 (.aload_n 0) 1 84 := ⟨by decide +kernel, rfl⟩
theorem dX12_readStep_84 : dc cX12_readStep 84 (.getfield 220) 3 87 := ⟨by decide +kernel, rfl⟩
theorem dX12_readStep_87 : dc cX12_readStep 87 (.ifCond .le 4) 3 90 := ⟨by decide +kernel, rfl⟩
theorem dX12_readStep_90 : dc cX12_readStep 90 (.return_) 1 91 := ⟨by decide +kernel, rfl⟩
theorem dX12_readStep_91 : dc cX12_readStep 91 (.sipush 2540) 3 94 := ⟨by decide +kernel, rfl⟩
theorem dX12_readStep_94 : dc cX12_readStep 94 (.bipush 9) 2 96 := ⟨by decide +kernel, rfl⟩
theorem dX12_readStep_96 : dc cX12_readStep 96 (.aload_n 0) 1 97 := ⟨by decide +kernel, rfl⟩
theorem dX12_readStep_97 : dc cX12_readStep 97 (.getfield 334) 3 100 := ⟨by decide +kernel, rfl⟩
theorem dX12_readStep_100 : dc cX12_readStep 100 (.imul) 1 101 := ⟨by decide +kernel, rfl⟩
theorem dX12_readStep_101 : dc cX12_readStep 101 (.iadd) 1 102 := ⟨by decide +kernel, rfl⟩
theorem dX12_readStep_102 : dc cX12_readStep 102 (.istore 4) 2 104 := ⟨by decide +kernel, rfl⟩
theorem dX12_readStep_104 : dc cX12_readStep 104 (.aload_n 0) 1 105 := ⟨by decide +kernel, rfl⟩
theorem dX12_readStep_105 : dc cX12_readStep 105 (.dup) 1 106 := ⟨by decide +kernel, rfl⟩
theorem dX12_readStep_106 : dc cX12_readStep 106 (.getfield 334) 3 109 := ⟨by decide +kernel, rfl⟩
theorem dX12_readStep_109 : dc cX12_readStep 109 (.iconst 1) 1 110 := ⟨by decide +kernel, rfl⟩
theorem dX12_readStep_110 : dc cX12_readStep 110 (.iadd) 1 111 := ⟨by decide +kernel, rfl⟩
theorem dX12_readStep_111 : dc cX12_readStep 111 (.putfield 334) 3 114 := ⟨by decide +kernel, rfl⟩
theorem dX12_readStep_114 : dc cX12_readStep 114 (.aload_n 0) 1 115 := ⟨by decide +kernel, rfl⟩
theorem dX12_readStep_115 : dc cX12_readStep 115 (.invokevirtual 230) 3 118 := ⟨by decide +kernel, rfl⟩
theorem dX12_readStep_118 : dc cX12_readStep 118 (.aload_n 0) 1 119 := ⟨by decide +kernel, rfl⟩
theorem dX12_readStep_119 : dc cX12_readStep 119 (.getfield 35) 3 122 := ⟨by decide +kernel, rfl⟩
theorem dX12_readStep_122 : dc cX12_readStep 122 (.iload 4) 2 124 := ⟨by decide +kernel, rfl⟩
theorem dX12_readStep_124 : dc cX12_readStep 124 (.iload_n 2) 1 125 := ⟨by decide +kernel, rfl⟩
theorem dX12_readStep_125 : dc cX12_readStep 125 (.iastore) 1 126 := ⟨by decide +kernel, rfl⟩
theorem dX12_readStep_126 : dc cX12_readStep 126 (.aload_n 0) 1 127 := ⟨by decide +kernel, rfl⟩
theorem dX12_readStep_127 : dc cX12_readStep 127 (.iload 4) 2 129 := ⟨by decide +kernel, rfl⟩
theorem dX12_readStep_129 : dc cX12_readStep 129 (.invokevirtual 337) 3 132 := ⟨by decide +kernel, rfl⟩
theorem dX12_readStep_132 : dc cX12_readStep 132 (.aload_n 0) 1 133 := ⟨by decide +kernel, rfl⟩
theorem dX12_readStep_133 : dc cX12_readStep 133 (.aload_n 0) 1 134 := ⟨by decide +kernel, rfl⟩
theorem dX12_readStep_134 : dc cX12_readStep 134 (.bipush 59) 2 136 := ⟨by decide +kernel, rfl⟩
theorem dX12_readStep_136 : dc cX12_readStep 136 (.invokevirtual 316) 3 139 := ⟨by decide +kernel, rfl⟩
theorem dX12_readStep_139 : dc cX12_readStep 139 (.invokevirtual 257) 3 142 := ⟨by decide +kernel, rfl⟩
theorem dX12_readStep_142 : dc cX12_readStep 142 (.iload_n 3) 1 143 := ⟨by decide +kernel, rfl⟩
theorem dX12_readStep_143 : dc cX12_readStep 143 (.ifCond .eq 27) 3 146 := ⟨by decide +kernel, rfl⟩
theorem dX12_readStep_146 : dc cX12_readStep 146 (.aload_n 0) 1 147 := ⟨by decide +kernel, rfl⟩
theorem dX12_readStep_147 : dc cX12_readStep 147 (.getfield 220) 3 150 := ⟨by decide +kernel, rfl⟩
theorem dX12_readStep_150 : dc cX12_readStep 150 (.ifCond .ne 20) 3 153 := ⟨by decide +kernel, rfl⟩
theorem dX12_readStep_153 : dc cX12_readStep 153 (.aload_n 0) 1 154 := ⟨by decide +kernel, rfl⟩
theorem dX12_readStep_154 : dc cX12_readStep 154 (.invokevirtual 214) 3 157 := ⟨by decide +kernel, rfl⟩
theorem dX12_readStep_157 : dc cX12_readStep 157 (.ifCond .ne 13) 3 160 := ⟨by decide +kernel, rfl⟩
theorem dX12_readStep_160 : dc cX12_readStep 160 (.aload_n 0) 1 161 := ⟨by decide +kernel, rfl⟩
theorem dX12_readStep_161 : dc cX12_readStep 161 (.iload_n 1) 1 162 := ⟨by decide +kernel, rfl⟩
theorem dX12_readStep_162 : dc cX12_readStep 162 (.iconst 1) 1 163 := ⟨by decide +kernel, rfl⟩
theorem dX12_readStep_163 : dc cX12_readStep 163 (.iadd) 1 164 := ⟨by decide +kernel, rfl⟩
theorem dX12_readStep_164 : dc cX12_readStep 164 (.invokevirtual 340) 3 167 := ⟨by decide +kernel, rfl⟩
theorem dX12_readStep_167 : dc cX12_readStep 167 (.goto (-25)) 3 170 := ⟨by decide +kernel, rfl⟩
theorem dX12_readStep_170 : dc cX12_readStep 170 (.iload_n 3) 1 171 := ⟨by decide +kernel, rfl⟩
theorem dX12_readStep_171 : dc cX12_readStep 171 (.ifCond .eq 21) 3 174 := ⟨by decide +kernel, rfl⟩
theorem dX12_readStep_174 : dc cX12_readStep 174 (.aload_n 0) 1 175 := ⟨by decide +kernel, rfl⟩
theorem dX12_readStep_175 : dc cX12_readStep 175 (.aload_n 0) 1 176 := ⟨by decide +kernel, rfl⟩
theorem dX12_readStep_176 : dc cX12_readStep 176 (.invokevirtual 214) 3 179 := ⟨by decide +kernel, rfl⟩
theorem dX12_readStep_179 : dc cX12_readStep 179 (.invokevirtual 257) 3 182 := ⟨by decide +kernel, rfl⟩
theorem dX12_readStep_182 : dc cX12_readStep 182 (.aload_n 0) 1 183 := ⟨by decide +kernel, rfl⟩
theorem dX12_readStep_183 : dc cX12_readStep 183 (.aload_n 0) 1 184 := ⟨by decide +kernel, rfl⟩
theorem dX12_readStep_184 : dc cX12_readStep 184 (.bipush 59) 2 186 := ⟨by decide +kernel, rfl⟩
theorem dX12_readStep_186 : dc cX12_readStep 186 (.invokevirtual 316) 3 189 := ⟨by decide +kernel, rfl⟩
theorem dX12_readStep_189 : dc cX12_readStep 189 (.invokevirtual 257) 3 192 := ⟨by decide +kernel, rfl⟩
theorem dX12_readStep_192 : dc cX12_readStep 192 (.aload_n 0) 1 193 := ⟨by decide +kernel, rfl⟩
theorem dX12_readStep_193 : dc cX12_readStep 193 (.getfield 35) 3 196 := ⟨by decide +kernel, rfl⟩
theorem dX12_readStep_196 : dc cX12_readStep 196 (.iload 4) 2 198 := ⟨by decide +kernel, rfl⟩
theorem dX12_readStep_198 : dc cX12_readStep 198 (.bipush 8) 2 200 := ⟨by decide +kernel, rfl⟩
theorem dX12_readStep_200 : dc cX12_readStep 200 (.iadd) 1 201 := ⟨by decide +kernel, rfl⟩
theorem dX12_readStep_201 : dc cX12_readStep 201 (.aload_n 0) 1 202 := ⟨by decide +kernel, rfl⟩
theorem dX12_readStep_202 : dc cX12_readStep 202 (.getfield 334) 3 205 := ⟨by decide +kernel, rfl⟩
theorem dX12_readStep_205 : dc cX12_readStep 205 (.iastore) 1 206 := ⟨by decide +kernel, rfl⟩
theorem dX12_readStep_206 : dc cX12_readStep 206 (.return_) 1 207 := ⟨by decide +kernel, rfl⟩
theorem nm_X12_readStep : (yX12_readStep).cls ≠ "java/lang/invoke/MethodHandle" ∧ (yX12_readStep).cls ≠ "java/lang/invoke/VarHandle" ∧ (parseMethodDescriptor (yX12_readStep).desc).map (fun d => d.parameters.length) = some 1 := ⟨by decide +kernel, by decide +kernel, by decide +kernel⟩
set_option maxRecDepth 100000 in
set_option maxHeartbeats 4000000 in
theorem s_X12_readStep_142 {ad : Nat → Nat} {cy : Nat → ClassId} {x : KX} {d d2 : Nat} (G : KG ad cy x cX12_readStep "NoonGuidesModel" 5 (some none) d) (r_X12_readStep : Int32 → KM → Option KM) {a0 : Nat} {c1 : Int32} {c3 : Int32} {c4 : Int32} (hdd : 9 ≤ d) (hd2 : d2 < d) (hr_X12_readStep : ∀ {q0 : Int32} {M y : KM}, r_X12_readStep q0 M = some y → KC (KXl x) ad cy (KXD x) (KXz x) yX12_readStep cX12_readStep 5 none d2 [.ref (ad a0), .int q0] M (none, y)) (h0 : kty a0 = 12) {k170 : KM → Option KM} {y : KM} (hk170 : ∀ (M : KM), k170 M = some y → KV ad cy x (none, y) 170 [(0, .ref (ad a0)), (3, .int c3), (4, .int c4)] [] M) : ∀ (n : Nat) (M : KM), lp_X12_readStep_142 n r_X12_readStep a0 c1 c3 c4 M k170 = some y → KV ad cy x (none, y) 142 [(0, .ref (ad a0)), (1, .int c1), (3, .int c3), (4, .int c4)] [] M := by
  intro n
  induction n with
  | zero =>
    intro M hf
    cases hf
  | succ n ih =>
    intro M hf
    rw [lp_X12_readStep_142] at hf
    refine v_iload_n G dX12_readStep_142 2 rfl ?_
    refine v_if_eq 170 G dX12_readStep_143 (by decide) (fun h18 => ?_) (fun h18 => ?_)
    · replace hf := (if_pos h18).symm.trans hf
      refine v_sub _ [0, 2, 3] rfl ?_
      exact hk170 M hf
    · replace hf := (if_neg h18).symm.trans hf
      refine v_aload_n G dX12_readStep_146 0 rfl ?_
      refine gf_12_12 G h0 t_1503 (Or.inl rfl) dX12_readStep_147 ?_
      refine v_if_ne 170 G dX12_readStep_150 (by decide) (fun h17 => ?_) (fun h17 => ?_)
      · replace hf := (if_neg h17).symm.trans hf
        refine v_sub _ [0, 2, 3] rfl ?_
        exact hk170 M hf
      · replace hf := (if_pos h17).symm.trans hf
        refine v_aload_n G dX12_readStep_153 0 rfl ?_
        obtain ⟨v14, hcv14⟩ : ∃ q, f_X12_isEnd a0 M = q := ⟨_, rfl⟩
        replace hf := lt_e hf hcv14.symm
        refine v_callV [] G (c_X12_isEnd h0 hcv14) h0 (by decide) rfl rfl rfl t_1848 t_1850 t_p93 t_17 t_1851 nm_X12_isEnd (Nat.lt_of_lt_of_le (by decide) hdd) (by decide) rfl rfl (Nat.le_of_ble_eq_true rfl) dX12_readStep_154 (kv_ri ?_)
        refine v_if_ne 170 G dX12_readStep_157 (by decide) (fun h16 => ?_) (fun h16 => ?_)
        · replace hf := (if_neg h16).symm.trans hf
          refine v_sub _ [0, 2, 3] rfl ?_
          exact hk170 M hf
        · replace hf := (if_pos h16).symm.trans hf
          refine v_aload_n G dX12_readStep_160 0 rfl ?_
          refine v_iload_n G dX12_readStep_161 1 rfl ?_
          refine v_iconst (1 : Int32) G dX12_readStep_162 (by decide) ?_
          refine v_iadd G dX12_readStep_163 ?_
          obtain ⟨v15, hcv15, hf⟩ := bd_e hf
          refine v_callV [.int (c1 + (1 : Int32))] G (hr_X12_readStep hcv15) h0 (by decide) rfl rfl rfl t_1901 t_1903 t_p105 t_17 t_1904 nm_X12_readStep hd2 (by decide) rfl rfl (Nat.le_of_ble_eq_true rfl) dX12_readStep_164 (kv_rv ?_)
          refine v_goto 142 G dX12_readStep_167 (by decide) ?_
          refine v_sub _ [0, 1, 2, 3] rfl ?_
          exact ih v15 hf
set_option maxRecDepth 100000 in
set_option maxHeartbeats 4000000 in
theorem c_X12_readStep_G {l : Launch} {ad : Nat → Nat} {cy : Nat → ClassId} {D : va_G} {z : Nat} (r_X12_readStep : Int32 → KM → Option KM) (n : Nat) {a0 : Nat} {p1 : Int32} {d d2 : Nat} (hdd : 9 ≤ d) (hd2 : d2 < d) (hr_X12_readStep : ∀ {q0 : Int32} {M y : KM}, r_X12_readStep q0 M = some y → KC l ad cy D z yX12_readStep cX12_readStep 5 none d2 [.ref (ad a0), .int q0] M (none, y)) {M : KM} {y : KM} (h0 : kty a0 = 12) (hf : f_X12_readStep_G r_X12_readStep n a0 p1 M = some y) : KC l ad cy D z yX12_readStep cX12_readStep 5 none d [.ref (ad a0), .int p1] M (none, y) := by
  refine kv_enter (by decide +kernel) (Nat.le_of_ble_eq_true rfl) ?_
  intro x hl hD hz G
  subst hl hD hz
  unfold f_X12_readStep_G at hf
  have G : KG ad cy x cX12_readStep "NoonGuidesModel" 5 (some none) d := G
  show KV ad cy x (none, y) 0 [(0, .ref (ad a0)), (1, .int p1)] [] M
  refine v_aload_n G dX12_readStep_0 0 rfl ?_
  obtain ⟨v1, hcv1⟩ : ∃ q, f_X12_stepWord a0 M = q := ⟨_, rfl⟩
  replace hf := lt_e hf hcv1.symm
  refine v_callV [] G (c_X12_stepWord h0 hcv1) h0 (by decide) rfl rfl rfl t_1844 t_1846 t_p92 t_17 t_1847 nm_X12_stepWord (Nat.lt_of_lt_of_le (by decide) hdd) (by decide) rfl rfl (Nat.le_of_ble_eq_true rfl) dX12_readStep_1 (kv_ri ?_)
  refine v_istore_n [(2, .int v1), (0, .ref (ad a0)), (1, .int p1)] G dX12_readStep_4 (by decide) rfl ?_
  refine v_iload_n G dX12_readStep_5 0 rfl ?_
  refine v_bipush (6 : Int32) G dX12_readStep_6 (by decide) ?_
  obtain ⟨j22, ej22, hf⟩ := lt_j hf
  have hj22 : ∀ (x2 : Int32), j22 x2 = some y → KV ad cy x (none, y) 22 [(0, .ref (ad a0)), (1, .int p1), (2, .int v1)] [.int x2] M := by
    intro x2 hf
    rw [ej22] at hf
    refine v_istore_n [(3, .int x2), (0, .ref (ad a0)), (1, .int p1), (2, .int v1)] G dX12_readStep_22 (by decide) rfl ?_
    refine v_iload_n G dX12_readStep_23 3 rfl ?_
    obtain ⟨j31, ej31, hf⟩ := lt_j hf
    have hj31 : ∀ (M3 : KM), j31 M3 = some y → KV ad cy x (none, y) 31 [(0, .ref (ad a0)), (1, .int p1), (2, .int v1), (3, .int x2)] [] M3 := by
      intro M3 hf
      rw [ej31] at hf
      refine v_aload_n G dX12_readStep_31 0 rfl ?_
      refine gf_12_12 G h0 t_1503 (Or.inl rfl) dX12_readStep_32 ?_
      obtain ⟨j57, ej57, hf⟩ := lt_j hf
      have hj57 : ∀ (M4 : KM), j57 M4 = some y → KV ad cy x (none, y) 57 [(0, .ref (ad a0)), (1, .int p1), (2, .int v1), (3, .int x2)] [] M4 := by
        intro M4 hf
        rw [ej57] at hf
        refine v_aload_n G dX12_readStep_57 0 rfl ?_
        refine gf_12_12 G h0 t_1503 (Or.inl rfl) dX12_readStep_58 ?_
        obtain ⟨j83, ej83, hf⟩ := lt_j hf
        have hj83 : ∀ (M5 : KM), j83 M5 = some y → KV ad cy x (none, y) 83 [(0, .ref (ad a0)), (1, .int p1), (2, .int v1), (3, .int x2)] [] M5 := by
          intro M5 hf
          rw [ej83] at hf
          refine v_aload_n G dX12_readStep_83 0 rfl ?_
          refine gf_12_12 G h0 t_1503 (Or.inl rfl) dX12_readStep_84 ?_
          refine v_if_le 91 G dX12_readStep_87 (by decide) (fun h28 => ?_) (fun h28 => ?_)
          · replace hf := (if_pos h28).symm.trans hf
            refine v_sipush (2540 : Int32) G dX12_readStep_91 (by decide) ?_
            refine v_bipush (9 : Int32) G dX12_readStep_94 (by decide) ?_
            refine v_aload_n G dX12_readStep_96 0 rfl ?_
            refine gf_12_27 G h0 t_1518 (Or.inl rfl) dX12_readStep_97 ?_
            refine v_imul G dX12_readStep_100 ?_
            refine v_iadd G dX12_readStep_101 ?_
            refine v_nmi (fun v6 ev6 => ?_)
            replace hf := lt_e hf ev6
            refine v_istore [(4, .int v6), (0, .ref (ad a0)), (1, .int p1), (2, .int v1), (3, .int x2)] G dX12_readStep_102 (by decide) rfl ?_
            refine v_aload_n G dX12_readStep_104 1 rfl ?_
            refine v_dup G dX12_readStep_105 rfl ?_
            refine gf_12_27 G h0 t_1518 (Or.inl rfl) dX12_readStep_106 ?_
            refine v_iconst (1 : Int32) G dX12_readStep_109 (by decide) ?_
            refine v_iadd G dX12_readStep_110 ?_
            refine pf_12_27 G h0 t_1518 (Or.inl rfl) dX12_readStep_111 ?_
            refine v_nmM (fun M7 eM7 => ?_)
            replace hf := lt_e hf eM7
            refine v_aload_n G dX12_readStep_114 1 rfl ?_
            obtain ⟨v8, hcv8, hf⟩ := bd_e hf
            refine v_callV [] G (c_X12_advance n h0 hcv8) h0 (by decide) rfl rfl rfl t_1697 t_1699 t_p60 t_17 t_1700 nm_X12_advance (Nat.lt_of_lt_of_le (by decide) hdd) (by decide) rfl rfl (Nat.le_of_ble_eq_true rfl) dX12_readStep_115 (kv_rv ?_)
            refine v_aload_n G dX12_readStep_118 1 rfl ?_
            refine gf_12_20 G h0 t_1511 (Or.inl rfl) dX12_readStep_119 ?_
            refine v_iload G dX12_readStep_122 0 rfl ?_
            refine v_iload_n G dX12_readStep_124 3 rfl ?_
            obtain ⟨g9, hf⟩ := gd_e hf
            refine as_36 G (kf_12_5 h0) g9 dX12_readStep_125 ?_
            refine v_nmM (fun M10 eM10 => ?_)
            replace hf := lt_e hf eM10
            refine v_aload_n G dX12_readStep_126 1 rfl ?_
            refine v_iload G dX12_readStep_127 0 rfl ?_
            obtain ⟨v11, hcv11, hf⟩ := bd_e hf
            refine v_callV [.int v6] G (c_X12_readRest n h0 hcv11) h0 (by decide) rfl rfl rfl t_1905 t_1907 t_p106 t_17 t_1908 nm_X12_readRest (Nat.lt_of_lt_of_le (by decide) hdd) (by decide) rfl rfl (Nat.le_of_ble_eq_true rfl) dX12_readStep_129 (kv_rv ?_)
            refine v_aload_n G dX12_readStep_132 1 rfl ?_
            refine v_aload_n G dX12_readStep_133 1 rfl ?_
            refine v_bipush (59 : Int32) G dX12_readStep_134 (by decide) ?_
            obtain ⟨v12, hcv12⟩ : ∃ q, f_X12_isSign a0 (59 : Int32) v11 = q := ⟨_, rfl⟩
            replace hf := lt_e hf hcv12.symm
            refine v_callV [.int (59 : Int32)] G (c_X12_isSign h0 hcv12) h0 (by decide) rfl rfl rfl t_1885 t_1887 t_p102 t_17 t_1888 nm_X12_isSign (Nat.lt_of_lt_of_le (by decide) hdd) (by decide) rfl rfl (Nat.le_of_ble_eq_true rfl) dX12_readStep_136 (kv_ri ?_)
            obtain ⟨v13, hcv13, hf⟩ := bd_e hf
            refine v_callV [.int v12] G (c_X12_must n h0 hcv13) h0 (by decide) rfl rfl rfl t_1762 t_1764 t_p72 t_17 t_1765 nm_X12_must (Nat.lt_of_lt_of_le (by decide) hdd) (by decide) rfl rfl (Nat.le_of_ble_eq_true rfl) dX12_readStep_139 (kv_rv ?_)
            refine v_sub _ [1, 2, 4, 0] rfl ?_
            refine s_X12_readStep_142 G r_X12_readStep hdd hd2 hr_X12_readStep h0 (fun M19 hf => ?_) n v13 hf
            · refine v_iload_n G dX12_readStep_170 1 rfl ?_
              obtain ⟨j192, ej192, hf⟩ := lt_j hf
              have hj192 : ∀ (M20 : KM), j192 M20 = some y → KV ad cy x (none, y) 192 [(0, .ref (ad a0)), (4, .int v6)] [] M20 := by
                intro M20 hf
                rw [ej192] at hf
                refine v_aload_n G dX12_readStep_192 0 rfl ?_
                refine gf_12_20 G h0 t_1511 (Or.inl rfl) dX12_readStep_193 ?_
                refine v_iload G dX12_readStep_196 1 rfl ?_
                refine v_bipush (8 : Int32) G dX12_readStep_198 (by decide) ?_
                refine v_iadd G dX12_readStep_200 ?_
                refine v_aload_n G dX12_readStep_201 0 rfl ?_
                refine gf_12_27 G h0 t_1518 (Or.inl rfl) dX12_readStep_202 ?_
                obtain ⟨g21, hf⟩ := gd_e hf
                refine as_36 G (kf_12_5 h0) g21 dX12_readStep_205 ?_
                refine v_nmM (fun M22 eM22 => ?_)
                replace hf := lt_e hf eM22
                obtain rfl := Option.some.inj hf
                exact v_vret G dX12_readStep_206
              refine v_if_eq 192 G dX12_readStep_171 (by decide) (fun h27 => ?_) (fun h27 => ?_)
              · replace hf := (if_pos h27).symm.trans hf
                refine v_sub _ [0, 2] rfl ?_
                exact hj192 M19 hf
              · replace hf := (if_neg h27).symm.trans hf
                refine v_aload_n G dX12_readStep_174 0 rfl ?_
                refine v_aload_n G dX12_readStep_175 0 rfl ?_
                obtain ⟨v23, hcv23⟩ : ∃ q, f_X12_isEnd a0 M19 = q := ⟨_, rfl⟩
                replace hf := lt_e hf hcv23.symm
                refine v_callV [] G (c_X12_isEnd h0 hcv23) h0 (by decide) rfl rfl rfl t_1848 t_1850 t_p93 t_17 t_1851 nm_X12_isEnd (Nat.lt_of_lt_of_le (by decide) hdd) (by decide) rfl rfl (Nat.le_of_ble_eq_true rfl) dX12_readStep_176 (kv_ri ?_)
                obtain ⟨v24, hcv24, hf⟩ := bd_e hf
                refine v_callV [.int v23] G (c_X12_must n h0 hcv24) h0 (by decide) rfl rfl rfl t_1762 t_1764 t_p72 t_17 t_1765 nm_X12_must (Nat.lt_of_lt_of_le (by decide) hdd) (by decide) rfl rfl (Nat.le_of_ble_eq_true rfl) dX12_readStep_179 (kv_rv ?_)
                refine v_aload_n G dX12_readStep_182 0 rfl ?_
                refine v_aload_n G dX12_readStep_183 0 rfl ?_
                refine v_bipush (59 : Int32) G dX12_readStep_184 (by decide) ?_
                obtain ⟨v25, hcv25⟩ : ∃ q, f_X12_isSign a0 (59 : Int32) v24 = q := ⟨_, rfl⟩
                replace hf := lt_e hf hcv25.symm
                refine v_callV [.int (59 : Int32)] G (c_X12_isSign h0 hcv25) h0 (by decide) rfl rfl rfl t_1885 t_1887 t_p102 t_17 t_1888 nm_X12_isSign (Nat.lt_of_lt_of_le (by decide) hdd) (by decide) rfl rfl (Nat.le_of_ble_eq_true rfl) dX12_readStep_186 (kv_ri ?_)
                obtain ⟨v26, hcv26, hf⟩ := bd_e hf
                refine v_callV [.int v25] G (c_X12_must n h0 hcv26) h0 (by decide) rfl rfl rfl t_1762 t_1764 t_p72 t_17 t_1765 nm_X12_must (Nat.lt_of_lt_of_le (by decide) hdd) (by decide) rfl rfl (Nat.le_of_ble_eq_true rfl) dX12_readStep_189 (kv_rv ?_)
                refine v_sub _ [0, 2] rfl ?_
                exact hj192 v26 hf
          · replace hf := (if_neg h28).symm.trans hf
            obtain rfl := Option.some.inj hf
            exact v_vret G dX12_readStep_90
        refine v_if_ne 83 G dX12_readStep_61 (by decide) (fun h32 => ?_) (fun h32 => ?_)
        · replace hf := (if_neg h32).symm.trans hf
          refine v_sub _ [0, 1, 2, 3] rfl ?_
          exact hj83 M4 hf
        · replace hf := (if_pos h32).symm.trans hf
          refine v_iload_n G dX12_readStep_64 3 rfl ?_
          refine v_if_eq 83 G dX12_readStep_65 (by decide) (fun h31 => ?_) (fun h31 => ?_)
          · replace hf := (if_pos h31).symm.trans hf
            refine v_sub _ [0, 1, 2, 3] rfl ?_
            exact hj83 M4 hf
          · replace hf := (if_neg h31).symm.trans hf
            refine v_iload_n G dX12_readStep_68 1 rfl ?_
            refine v_iconst (3 : Int32) G dX12_readStep_69 (by decide) ?_
            refine v_icmp_ne 83 G dX12_readStep_70 (by decide) (fun h30 => ?_) (fun h30 => ?_)
            · replace hf := (if_neg h30).symm.trans hf
              refine v_sub _ [0, 1, 2, 3] rfl ?_
              exact hj83 M4 hf
            · replace hf := (if_pos h30).symm.trans hf
              refine v_aload_n G dX12_readStep_73 0 rfl ?_
              refine v_bipush (7 : Int32) G dX12_readStep_74 (by decide) ?_
              refine v_aload_n G dX12_readStep_76 0 rfl ?_
              refine gf_12_15 G h0 t_1506 (Or.inl rfl) dX12_readStep_77 ?_
              obtain ⟨v29, hcv29⟩ : ∃ q, f_X12_fail a0 (7 : Int32) (M4.1 a0 15) M4 = q := ⟨_, rfl⟩
              replace hf := lt_e hf hcv29.symm
              refine v_callV [.int (7 : Int32), .int (M4.1 a0 15)] G (c_X12_fail h0 hcv29) h0 (by decide) rfl rfl rfl t_1743 t_1745 t_p68 t_17 t_1746 nm_X12_fail (Nat.lt_of_lt_of_le (by decide) hdd) (by decide) rfl rfl (Nat.le_of_ble_eq_true rfl) dX12_readStep_80 (kv_rv ?_)
              refine v_sub _ [0, 1, 2, 3] rfl ?_
              exact hj83 v29 hf
      refine v_if_ne 57 G dX12_readStep_35 (by decide) (fun h35 => ?_) (fun h35 => ?_)
      · replace hf := (if_neg h35).symm.trans hf
        refine v_sub _ [0, 1, 2, 3] rfl ?_
        exact hj57 M3 hf
      · replace hf := (if_pos h35).symm.trans hf
        refine v_aload_n G dX12_readStep_38 0 rfl ?_
        refine gf_12_27 G h0 t_1518 (Or.inl rfl) dX12_readStep_39 ?_
        refine v_bipush (30 : Int32) G dX12_readStep_42 (by decide) ?_
        refine v_icmp_ne 57 G dX12_readStep_44 (by decide) (fun h34 => ?_) (fun h34 => ?_)
        · replace hf := (if_neg h34).symm.trans hf
          refine v_sub _ [0, 1, 2, 3] rfl ?_
          exact hj57 M3 hf
        · replace hf := (if_pos h34).symm.trans hf
          refine v_aload_n G dX12_readStep_47 0 rfl ?_
          refine v_bipush (6 : Int32) G dX12_readStep_48 (by decide) ?_
          refine v_aload_n G dX12_readStep_50 0 rfl ?_
          refine gf_12_15 G h0 t_1506 (Or.inl rfl) dX12_readStep_51 ?_
          obtain ⟨v33, hcv33⟩ : ∃ q, f_X12_fail a0 (6 : Int32) (M3.1 a0 15) M3 = q := ⟨_, rfl⟩
          replace hf := lt_e hf hcv33.symm
          refine v_callV [.int (6 : Int32), .int (M3.1 a0 15)] G (c_X12_fail h0 hcv33) h0 (by decide) rfl rfl rfl t_1743 t_1745 t_p68 t_17 t_1746 nm_X12_fail (Nat.lt_of_lt_of_le (by decide) hdd) (by decide) rfl rfl (Nat.le_of_ble_eq_true rfl) dX12_readStep_54 (kv_rv ?_)
          refine v_sub _ [0, 1, 2, 3] rfl ?_
          exact hj57 v33 hf
    refine v_if_ge 31 G dX12_readStep_24 (by decide) (fun h37 => ?_) (fun h37 => ?_)
    · replace hf := (if_pos h37).symm.trans hf
      refine v_sub _ [1, 2, 3, 0] rfl ?_
      exact hj31 M hf
    · replace hf := (if_neg h37).symm.trans hf
      refine v_aload_n G dX12_readStep_27 1 rfl ?_
      obtain ⟨v36, hcv36⟩ : ∃ q, f_X12_amiss a0 M = q := ⟨_, rfl⟩
      replace hf := lt_e hf hcv36.symm
      refine v_callV [] G (c_X12_amiss h0 hcv36) h0 (by decide) rfl rfl rfl t_1751 t_1753 t_p70 t_17 t_1754 nm_X12_amiss (Nat.lt_of_lt_of_le (by decide) hdd) (by decide) rfl rfl (Nat.le_of_ble_eq_true rfl) dX12_readStep_28 (kv_rv ?_)
      refine v_sub _ [1, 2, 3, 0] rfl ?_
      exact hj31 v36 hf
  obtain ⟨j17, ej17, hf⟩ := lt_j hf
  have hj17 : j17 = some y → KV ad cy x (none, y) 17 [(0, .ref (ad a0)), (1, .int p1), (2, .int v1)] [] M := by
    intro hf
    rw [ej17] at hf
    refine v_iconst (1 : Int32) G dX12_readStep_17 (by decide) ?_
    refine v_goto 22 G dX12_readStep_18 (by decide) ?_
    refine v_sub _ [0, 1, 2] rfl ?_
    exact hj22 (1 : Int32) hf
  refine v_icmp_eq 17 G dX12_readStep_8 (by decide) (fun h39 => ?_) (fun h39 => ?_)
  · replace hf := (if_pos h39).symm.trans hf
    refine v_sub _ [1, 2, 0] rfl ?_
    exact hj17 hf
  · replace hf := (if_neg h39).symm.trans hf
    refine v_iload_n G dX12_readStep_11 0 rfl ?_
    refine v_bipush (7 : Int32) G dX12_readStep_12 (by decide) ?_
    refine v_icmp_ne 21 G dX12_readStep_14 (by decide) (fun h38 => ?_) (fun h38 => ?_)
    · replace hf := (if_neg h38).symm.trans hf
      refine v_iconst (0 : Int32) G dX12_readStep_21 (by decide) ?_
      refine v_sub _ [1, 2, 0] rfl ?_
      exact hj22 (0 : Int32) hf
    · replace hf := (if_pos h38).symm.trans hf
      refine v_sub _ [1, 2, 0] rfl ?_
      exact hj17 hf
theorem crs_X12 {l : Launch} {ad : Nat → Nat} {cy : Nat → ClassId} {D : va_G} {z : Nat} (n : Nat) {a0 : Nat} (h0 : kty a0 = 12) : ∀ (e : Nat) {p1 : Int32} {M y : KM}, rs_X12 e n a0 p1 M = some y → KC l ad cy D z yX12_readStep cX12_readStep 5 none (32 + e) [.ref (ad a0), .int p1] M (none, y) := by
  intro e
  induction e with
  | zero => intro p1 M y hf; cases hf
  | succ e ih => intro p1 M y hf; exact c_X12_readStep_G _ n (d := 32 + (e + 1)) (d2 := 32 + e) (by omega) (by omega) (fun hf => ih hf) h0 hf
theorem c_X12_readStep {l : Launch} {ad : Nat → Nat} {cy : Nat → ClassId} {D : va_G} {z : Nat} (n : Nat) {a0 : Nat} {p1 : Int32} {M y : KM} (h0 : kty a0 = 12) (hf : f_X12_readStep n a0 p1 M = some y) : KC l ad cy D z yX12_readStep cX12_readStep 5 none 40 [.ref (ad a0), .int p1] M (none, y) := crs_X12 n h0 8 hf
abbrev cX12_days : ByteArray := prog_14_method_78_code
def yX12_days : MethodName := ⟨RX12, "days", "(I)I"⟩
theorem dX12_days_0 : dc cX12_days 0 (.aload_n 0) 1 1 := ⟨by decide +kernel, rfl⟩
theorem dX12_days_1 : dc cX12_days 1 (.iconst 0) 1 2 := ⟨by decide +kernel, rfl⟩
theorem dX12_days_2 : dc cX12_days 2 (.putfield 75) 3 5 := ⟨by decide +kernel, rfl⟩
theorem dX12_days_5 : dc cX12_days 5 (.aload_n 0) 1 6 := ⟨by decide +kernel, rfl⟩
theorem dX12_days_6 : dc cX12_days 6 (.iconst 0) 1 7 := ⟨by decide +kernel, rfl⟩
theorem dX12_days_7 : dc cX12_days 7 (.putfield 78) 3 10 := ⟨by decide +kernel, rfl⟩
theorem dX12_days_10 : dc cX12_days 10 (.aload_n 0) 1 11 := ⟨by decide +kernel, rfl⟩
theorem dX12_days_11 : dc cX12_days 11 (.iload_n 1) 1 12 := ⟨by decide +kernel, rfl⟩
theorem dX12_days_12 : dc cX12_days 12 (.sipush 300) 3 15 := ⟨by decide +kernel, rfl⟩
theorem dX12_days_15 : dc cX12_days 15 (.invokevirtual 310) 3 18 := ⟨by decide +kernel, rfl⟩
theorem dX12_days_18 : dc cX12_days 18 (.ifCond .ne 5) 3 21 := ⟨by decide +kernel, rfl⟩
theorem dX12_days_21 : dc cX12_days 21 (.iconst (-1)) 1 22 := ⟨by decide +kernel, rfl⟩
theorem dX12_days_22 : dc cX12_days 22 (.ireturn) 1 23 := ⟨by decide +kernel, rfl⟩
theorem dX12_days_23 : dc cX12_days 23 (.aload_n 0) 1 24 := ⟨by decide +kernel, rfl⟩
theorem dX12_days_24 : dc cX12_days 24 (.iconst 0) 1 25 := ⟨by decide +kernel, rfl⟩
theorem dX12_days_25 : dc cX12_days 25 (.putfield 334) 3 28 := ⟨by decide +kernel, rfl⟩
theorem dX12_days_28 : dc cX12_days 28 (.aload_n 0) 1 29 := ⟨by decide +kernel, rfl⟩
theorem dX12_days_29 : dc cX12_days 29 (.getfield 220) 3 32 := ⟨by decide +kernel, rfl⟩
theorem dX12_days_32 : dc cX12_days 32 (.ifCond .ne 18) 3 35 := ⟨by decide +kernel, rfl⟩
theorem dX12_days_35 : dc cX12_days 35 (.aload_n 0) 1 36 := ⟨by decide +kernel, rfl⟩
theorem dX12_days_36 : dc cX12_days 36 (.getfield 130) 3 39 := ⟨by decide +kernel, rfl⟩
theorem dX12_days_39 : dc cX12_days 39 (.ifCond .eq 11) 3 42 := ⟨by decide +kernel, rfl⟩
theorem dX12_days_42 : dc cX12_days 42 (.aload_n 0) 1 43 := ⟨by decide +kernel, rfl⟩
theorem dX12_days_43 : dc cX12_days 43 (.iconst 0) 1 44 := ⟨by decide +kernel, rfl⟩
theorem dX12_days_44 : dc cX12_days 44 (.invokevirtual 340) 3 47 := ⟨by decide +kernel, rfl⟩
theorem dX12_days_47 : dc cX12_days 47 (.goto (-19)) 3 50 := ⟨by decide +kernel, rfl⟩
theorem dX12_days_50 : dc cX12_days 50 (.aload_n 0) 1 51 := ⟨by decide +kernel, rfl⟩
theorem dX12_days_51 : dc cX12_days 51 (.invokevirtual 319) 3 54 := ⟨by decide +kernel, rfl⟩
theorem dX12_days_54 : dc cX12_days 54 (.ifCond .ne 5) 3 57 := ⟨by decide +kernel, rfl⟩
theorem dX12_days_57 : dc cX12_days 57 (.iconst (-1)) 1 58 := ⟨by decide +kernel, rfl⟩
theorem dX12_days_58 : dc cX12_days 58 (.ireturn) 1 59 := ⟨by decide +kernel, rfl⟩
theorem dX12_days_59 : dc cX12_days 59 (.aload_n 0) 1 60 := ⟨by decide +kernel, rfl⟩
theorem dX12_days_60 : dc cX12_days 60 (.getfield 35) 3 63 := ⟨by decide +kernel, rfl⟩
theorem dX12_days_63 : dc cX12_days 63 (.sipush 290) 3 66 := ⟨by decide +kernel, rfl⟩
theorem dX12_days_66 : dc cX12_days 66 (.iconst 1) 1 67 := ⟨by decide +kernel, rfl⟩
theorem dX12_days_67 : dc cX12_days 67 (.iastore) 1 68 := ⟨by decide +kernel, rfl⟩
theorem dX12_days_68 : dc cX12_days 68 (.aload_n 0) 1 69 := ⟨by decide +kernel, rfl⟩
theorem dX12_days_69 : dc cX12_days 69 (.getfield 35) 3 72 := ⟨by decide +kernel, rfl⟩
theorem dX12_days_72 : dc cX12_days 72 (.sipush 291) 3 75 := ⟨by decide +kernel, rfl⟩
theorem dX12_days_75 : dc cX12_days 75 (.aload_n 0) 1 76 := ⟨by decide +kernel, rfl⟩
theorem dX12_days_76 : dc cX12_days 76 (.getfield 334) 3 79 := ⟨by decide +kernel, rfl⟩
theorem dX12_days_79 : dc cX12_days 79 (.iastore) 1 80 := ⟨by decide +kernel, rfl⟩
theorem dX12_days_80 : dc cX12_days 80 (.iconst 0) 1 81 := ⟨by decide +kernel, rfl⟩
theorem dX12_days_81 : dc cX12_days 81 (.istore_n 2) 1 82 := ⟨by decide +kernel, rfl⟩
theorem dX12_days_82 : dc cX12_days 82 (.iload_n 2) 1 83 := ⟨by decide +kernel, rfl⟩
theorem dX12_days_83 : dc cX12_days 83 (.bipush 9) 2 85 := ⟨by decide +kernel, rfl⟩
theorem dX12_days_85 : dc cX12_days 85 (.aload_n 0) 1 86 := ⟨by decide +kernel, rfl⟩
theorem dX12_days_86 : dc cX12_days 86 (.getfield 334) 3 89 := ⟨by decide +kernel, rfl⟩
theorem dX12_days_89 : dc cX12_days 89 (.imul) 1 90 := ⟨by decide +kernel, rfl⟩
theorem dX12_days_90 : dc cX12_days 90 (.if_icmp .ge 29) 3 93 := ⟨by decide +kernel, rfl⟩
theorem dX12_days_93 : dc cX12_days 93 (.aload_n 0) 1 94 := ⟨by decide +kernel, rfl⟩
theorem dX12_days_94 : dc cX12_days 94 (.getfield 35) 3 97 := ⟨by decide +kernel, rfl⟩
theorem dX12_days_97 : dc cX12_days 97 (.sipush 292) 3 100 := ⟨by decide +kernel, rfl⟩
theorem dX12_days_100 : dc cX12_days 100 (.iload_n 2) 1 101 := ⟨by decide +kernel, rfl⟩
theorem dX12_days_101 : dc cX12_days 101 (.iadd) 1 102 := ⟨by decide +kernel, rfl⟩
theorem dX12_days_102 : dc cX12_days 102 (.aload_n 0) 1 103 := ⟨by decide +kernel, rfl⟩
theorem dX12_days_103 : dc cX12_days 103 (.getfield 35) 3 106 := ⟨by decide +kernel, rfl⟩
theorem dX12_days_106 : dc cX12_days 106 (.sipush 2540) 3 109 := ⟨by decide +kernel, rfl⟩
theorem dX12_days_109 : dc cX12_days 109 (.iload_n 2) 1 110 := ⟨by decide +kernel, rfl⟩
theorem dX12_days_110 : dc cX12_days 110 (.iadd) 1 111 := ⟨by decide +kernel, rfl⟩
theorem dX12_days_111 : dc cX12_days 111 (.iaload) 1 112 := ⟨by decide +kernel, rfl⟩
theorem dX12_days_112 : dc cX12_days 112 (.iastore) 1 113 := ⟨by decide +kernel, rfl⟩
theorem dX12_days_113 : dc cX12_days 113 (.iinc 2 1) 3 116 := ⟨by decide +kernel, rfl⟩
theorem dX12_days_116 : dc cX12_days 116 (.goto (-34)) 3 119 := ⟨by decide +kernel, rfl⟩
theorem dX12_days_119 : dc cX12_days 119 (.aload_n 0) 1 120 := ⟨by decide +kernel, rfl⟩
theorem dX12_days_120 : dc cX12_days 120 (.getfield 334) 3 123 := ⟨by decide +kernel, rfl⟩
theorem dX12_days_123 : dc cX12_days 123 (.ireturn) 1 124 := ⟨by decide +kernel, rfl⟩
theorem nm_X12_days : (yX12_days).cls ≠ "java/lang/invoke/MethodHandle" ∧ (yX12_days).cls ≠ "java/lang/invoke/VarHandle" ∧ (parseMethodDescriptor (yX12_days).desc).map (fun d => d.parameters.length) = some 1 := ⟨by decide +kernel, by decide +kernel, by decide +kernel⟩
set_option maxRecDepth 100000 in
set_option maxHeartbeats 4000000 in
theorem s_X12_days_28 {ad : Nat → Nat} {cy : Nat → ClassId} {x : KX} (G : KG ad cy x cX12_days "NoonGuidesModel" 3 (some (some .int)) 41) {a0 : Nat} (h0 : kty a0 = 12) {k50 : KM → Option (Int32 × KM)} {y : (Int32 × KM)} (hk50 : ∀ (M : KM), k50 M = some y → KV ad cy x (some (.int y.1), y.2) 50 [(0, .ref (ad a0))] [] M) : ∀ (n : Nat) (M : KM), lp_X12_days_28 n a0 M k50 = some y → KV ad cy x (some (.int y.1), y.2) 28 [(0, .ref (ad a0))] [] M := by
  intro n
  induction n with
  | zero =>
    intro M hf
    cases hf
  | succ n ih =>
    intro M hf
    rw [lp_X12_days_28] at hf
    refine v_aload_n G dX12_days_28 0 rfl ?_
    refine gf_12_12 G h0 t_1503 (Or.inl rfl) dX12_days_29 ?_
    refine v_if_ne 50 G dX12_days_32 (by decide) (fun h7 => ?_) (fun h7 => ?_)
    · replace hf := (if_neg h7).symm.trans hf
      refine v_sub _ [0] rfl ?_
      exact hk50 M hf
    · replace hf := (if_pos h7).symm.trans hf
      refine v_aload_n G dX12_days_35 0 rfl ?_
      refine gf_12_14 G h0 t_1505 (Or.inl rfl) dX12_days_36 ?_
      refine v_if_eq 50 G dX12_days_39 (by decide) (fun h6 => ?_) (fun h6 => ?_)
      · replace hf := (if_pos h6).symm.trans hf
        refine v_sub _ [0] rfl ?_
        exact hk50 M hf
      · replace hf := (if_neg h6).symm.trans hf
        refine v_aload_n G dX12_days_42 0 rfl ?_
        refine v_iconst (0 : Int32) G dX12_days_43 (by decide) ?_
        obtain ⟨v5, hcv5, hf⟩ := bd_e hf
        refine v_callV [.int (0 : Int32)] G (c_X12_readStep n h0 hcv5) h0 (by decide) rfl rfl rfl t_1901 t_1903 t_p105 t_17 t_1904 nm_X12_readStep (by decide) (by decide) rfl rfl (Nat.le_of_ble_eq_true rfl) dX12_days_44 (kv_rv ?_)
        refine v_goto 28 G dX12_days_47 (by decide) ?_
        refine v_sub _ [0] rfl ?_
        exact ih v5 hf
set_option maxRecDepth 100000 in
set_option maxHeartbeats 4000000 in
theorem s_X12_days_82 {ad : Nat → Nat} {cy : Nat → ClassId} {x : KX} (G : KG ad cy x cX12_days "NoonGuidesModel" 3 (some (some .int)) 41) {a0 : Nat} (h0 : kty a0 = 12) {y : (Int32 × KM)} : ∀ (n : Nat) (w2 : Int32) (M : KM), lp_X12_days_82 n a0 w2 M = some y → KV ad cy x (some (.int y.1), y.2) 82 [(0, .ref (ad a0)), (2, .int w2)] [] M := by
  intro n
  induction n with
  | zero =>
    intro w2 M hf
    cases hf
  | succ n ih =>
    intro w2 M hf
    rw [lp_X12_days_82] at hf
    refine v_iload_n G dX12_days_82 1 rfl ?_
    refine v_bipush (9 : Int32) G dX12_days_83 (by decide) ?_
    refine v_aload_n G dX12_days_85 0 rfl ?_
    refine gf_12_27 G h0 t_1518 (Or.inl rfl) dX12_days_86 ?_
    refine v_imul G dX12_days_89 ?_
    refine v_icmp_ge 119 G dX12_days_90 (by decide) (fun h18 => ?_) (fun h18 => ?_)
    · replace hf := (if_pos h18).symm.trans hf
      refine v_aload_n G dX12_days_119 0 rfl ?_
      refine gf_12_27 G h0 t_1518 (Or.inl rfl) dX12_days_120 ?_
      obtain rfl := Option.some.inj hf
      exact v_iret G dX12_days_123
    · replace hf := (if_neg h18).symm.trans hf
      refine v_aload_n G dX12_days_93 0 rfl ?_
      refine gf_12_20 G h0 t_1511 (Or.inl rfl) dX12_days_94 ?_
      refine v_sipush (292 : Int32) G dX12_days_97 (by decide) ?_
      refine v_iload_n G dX12_days_100 1 rfl ?_
      refine v_iadd G dX12_days_101 ?_
      refine v_aload_n G dX12_days_102 0 rfl ?_
      refine gf_12_20 G h0 t_1511 (Or.inl rfl) dX12_days_103 ?_
      refine v_sipush (2540 : Int32) G dX12_days_106 (by decide) ?_
      refine v_iload_n G dX12_days_109 1 rfl ?_
      refine v_iadd G dX12_days_110 ?_
      obtain ⟨g14, hf⟩ := gd_e hf
      refine al_36 G (kf_12_5 h0) g14 dX12_days_111 ?_
      obtain ⟨g15, hf⟩ := gd_e hf
      refine as_36 G (kf_12_5 h0) g15 dX12_days_112 ?_
      refine v_nmM (fun M16 eM16 => ?_)
      replace hf := lt_e hf eM16
      obtain ⟨v17, ev17⟩ : ∃ q : Int32, q = w2 + (1 : Int32) := ⟨_, rfl⟩
      replace hf := lt_e hf ev17
      refine v_iinc v17 [(2, .int v17), (0, .ref (ad a0))] G dX12_days_113 1 rfl (by rw [ev17]; rfl) (by decide) rfl ?_
      refine v_goto 82 G dX12_days_116 (by decide) ?_
      refine v_sub _ [1, 0] rfl ?_
      exact ih v17 M16 hf
set_option maxRecDepth 100000 in
set_option maxHeartbeats 4000000 in
theorem c_X12_days {l : Launch} {ad : Nat → Nat} {cy : Nat → ClassId} {D : va_G} {z : Nat} (n : Nat) {a0 : Nat} {p1 : Int32} {M : KM} {y : (Int32 × KM)} (h0 : kty a0 = 12) (hf : f_X12_days n a0 p1 M = some y) : KC l ad cy D z yX12_days cX12_days 3 (some .int) 41 [.ref (ad a0), .int p1] M (some (.int y.1), y.2) := by
  refine kv_enter (by decide +kernel) (Nat.le_of_ble_eq_true rfl) ?_
  intro x hl hD hz G
  subst hl hD hz
  unfold f_X12_days at hf
  have G : KG ad cy x cX12_days "NoonGuidesModel" 3 (some (some .int)) 41 := G
  show KV ad cy x (some (.int y.1), y.2) 0 [(0, .ref (ad a0)), (1, .int p1)] [] M
  refine v_aload_n G dX12_days_0 0 rfl ?_
  refine v_iconst (0 : Int32) G dX12_days_1 (by decide) ?_
  refine pf_12_1 G h0 t_1492 (Or.inl rfl) dX12_days_2 ?_
  refine v_nmM (fun M1 eM1 => ?_)
  replace hf := lt_e hf eM1
  refine v_aload_n G dX12_days_5 0 rfl ?_
  refine v_iconst (0 : Int32) G dX12_days_6 (by decide) ?_
  refine pf_12_0 G h0 t_1491 (Or.inl rfl) dX12_days_7 ?_
  refine v_nmM (fun M2 eM2 => ?_)
  replace hf := lt_e hf eM2
  refine v_aload_n G dX12_days_10 0 rfl ?_
  refine v_iload_n G dX12_days_11 1 rfl ?_
  refine v_sipush (300 : Int32) G dX12_days_12 (by decide) ?_
  obtain ⟨v3, hcv3, hf⟩ := bd_e hf
  refine v_callV [.int p1, .int (300 : Int32)] G (c_X12_starts n h0 hcv3) h0 (by decide) rfl rfl rfl t_1693 t_1695 t_p59 t_17 t_1696 nm_X12_starts (by decide) (by decide) rfl rfl (Nat.le_of_ble_eq_true rfl) dX12_days_15 (kv_ri ?_)
  refine v_if_ne 23 G dX12_days_18 (by decide) (fun h20 => ?_) (fun h20 => ?_)
  · replace hf := (if_neg h20).symm.trans hf
    refine v_aload_n G dX12_days_23 0 rfl ?_
    refine v_iconst (0 : Int32) G dX12_days_24 (by decide) ?_
    refine pf_12_27 G h0 t_1518 (Or.inl rfl) dX12_days_25 ?_
    refine v_nmM (fun M4 eM4 => ?_)
    replace hf := lt_e hf eM4
    refine v_sub _ [0] rfl ?_
    refine s_X12_days_28 G h0 (fun M8 hf => ?_) n M4 hf
    · refine v_aload_n G dX12_days_50 0 rfl ?_
      obtain ⟨v9, hcv9⟩ : ∃ q, f_X12_isWell a0 M8 = q := ⟨_, rfl⟩
      replace hf := lt_e hf hcv9.symm
      refine v_callV [] G (c_X12_isWell h0 hcv9) h0 (by decide) rfl rfl rfl t_1889 t_1891 t_p103 t_17 t_1892 nm_X12_isWell (by decide) (by decide) rfl rfl (Nat.le_of_ble_eq_true rfl) dX12_days_51 (kv_ri ?_)
      refine v_if_ne 59 G dX12_days_54 (by decide) (fun h19 => ?_) (fun h19 => ?_)
      · replace hf := (if_neg h19).symm.trans hf
        refine v_aload_n G dX12_days_59 0 rfl ?_
        refine gf_12_20 G h0 t_1511 (Or.inl rfl) dX12_days_60 ?_
        refine v_sipush (290 : Int32) G dX12_days_63 (by decide) ?_
        refine v_iconst (1 : Int32) G dX12_days_66 (by decide) ?_
        obtain ⟨g10, hf⟩ := gd_e hf
        refine as_36 G (kf_12_5 h0) g10 dX12_days_67 ?_
        refine v_nmM (fun M11 eM11 => ?_)
        replace hf := lt_e hf eM11
        refine v_aload_n G dX12_days_68 0 rfl ?_
        refine gf_12_20 G h0 t_1511 (Or.inl rfl) dX12_days_69 ?_
        refine v_sipush (291 : Int32) G dX12_days_72 (by decide) ?_
        refine v_aload_n G dX12_days_75 0 rfl ?_
        refine gf_12_27 G h0 t_1518 (Or.inl rfl) dX12_days_76 ?_
        obtain ⟨g12, hf⟩ := gd_e hf
        refine as_36 G (kf_12_5 h0) g12 dX12_days_79 ?_
        refine v_nmM (fun M13 eM13 => ?_)
        replace hf := lt_e hf eM13
        refine v_iconst (0 : Int32) G dX12_days_80 (by decide) ?_
        refine v_istore_n [(2, .int (0 : Int32)), (0, .ref (ad a0))] G dX12_days_81 (by decide) rfl ?_
        refine v_sub _ [1, 0] rfl ?_
        refine s_X12_days_82 G h0 n (0 : Int32) M13 hf
      · replace hf := (if_pos h19).symm.trans hf
        refine v_iconst (-1 : Int32) G dX12_days_57 (by decide) ?_
        obtain rfl := Option.some.inj hf
        exact v_iret G dX12_days_58
  · replace hf := (if_pos h20).symm.trans hf
    refine v_iconst (-1 : Int32) G dX12_days_21 (by decide) ?_
    obtain rfl := Option.some.inj hf
    exact v_iret G dX12_days_22
abbrev cX12_isPlaceAt : ByteArray := prog_14_method_79_code
def yX12_isPlaceAt : MethodName := ⟨RX12, "isPlaceAt", "(I)Z"⟩
theorem dX12_isPlaceAt_0 : dc cX12_isPlaceAt 0 (.iload_n 1) 1 1 := ⟨by decide +kernel, rfl⟩
theorem dX12_isPlaceAt_1 : dc cX12_isPlaceAt 1 (.i2l) 1 2 := ⟨by decide +kernel, rfl⟩
theorem dX12_isPlaceAt_2 : dc cX12_isPlaceAt 2 (.lconst 0) 1 3 := ⟨by decide +kernel, rfl⟩
theorem dX12_isPlaceAt_3 : dc cX12_isPlaceAt 3 (.aload_n 0) 1 4 := ⟨by decide +kernel, rfl⟩
theorem dX12_isPlaceAt_4 : dc cX12_isPlaceAt 4 (.getfield 35) 3 7 := ⟨by decide +kernel, rfl⟩
theorem dX12_isPlaceAt_7 : dc cX12_isPlaceAt 7 (.iconst 0) 1 8 := ⟨by decide +kernel, rfl⟩
theorem dX12_isPlaceAt_8 : dc cX12_isPlaceAt 8 (.iaload) 1 9 := ⟨by decide +kernel, rfl⟩
theorem dX12_isPlaceAt_9 : dc cX12_isPlaceAt 9 (.iconst 1) 1 10 := ⟨by decide +kernel, rfl⟩
theorem dX12_isPlaceAt_10 : dc cX12_isPlaceAt 10 (.isub) 1 11 := ⟨by decide +kernel, rfl⟩
theorem dX12_isPlaceAt_11 : dc cX12_isPlaceAt 11 (.i2l) 1 12 := ⟨by decide +kernel, rfl⟩
theorem dX12_isPlaceAt_12 : dc cX12_isPlaceAt 12 (.invokestatic 110) 3 15 := ⟨by decide +kernel, rfl⟩
theorem dX12_isPlaceAt_15 : dc cX12_isPlaceAt 15 (.ireturn) 1 16 := ⟨by decide +kernel, rfl⟩
theorem nm_X12_isPlaceAt : (yX12_isPlaceAt).cls ≠ "java/lang/invoke/MethodHandle" ∧ (yX12_isPlaceAt).cls ≠ "java/lang/invoke/VarHandle" ∧ (parseMethodDescriptor (yX12_isPlaceAt).desc).map (fun d => d.parameters.length) = some 1 := ⟨by decide +kernel, by decide +kernel, by decide +kernel⟩
set_option maxRecDepth 100000 in
theorem z_X12_isPlaceAt (n : Nat) {a0 : Nat} {p1 : Int32} {M : KM} {y : Int32} (hf : f_X12_isPlaceAt n a0 p1 M = some y) : (y = 0 ∨ y = 1) := by
  unfold f_X12_isPlaceAt at hf
  obtain ⟨g1, hf⟩ := gd_e hf
  obtain ⟨v2, hcv2⟩ : ∃ q, f_X12_isIn (p1).toInt64 (0 : Int64) (((M.1 (a0 + 5) ((0 : Int32)).toNatClampNeg) - (1 : Int32))).toInt64 M = q := ⟨_, rfl⟩
  replace hf := lt_e hf hcv2.symm
  obtain rfl := Option.some.inj hf
  exact (z_X12_isIn hcv2)
set_option maxRecDepth 100000 in
set_option maxHeartbeats 4000000 in
theorem c_X12_isPlaceAt {l : Launch} {ad : Nat → Nat} {cy : Nat → ClassId} {D : va_G} {z : Nat} (n : Nat) {a0 : Nat} {p1 : Int32} {M : KM} {y : Int32} (h0 : kty a0 = 12) (hf : f_X12_isPlaceAt n a0 p1 M = some y) : KC l ad cy D z yX12_isPlaceAt cX12_isPlaceAt 2 (some .boolean) 2 [.ref (ad a0), .int p1] M (some (.int y), M) := by
  refine kv_enter (by decide +kernel) (Nat.le_of_ble_eq_true rfl) ?_
  intro x hl hD hz G
  subst hl hD hz
  unfold f_X12_isPlaceAt at hf
  have G : KG ad cy x cX12_isPlaceAt "NoonGuidesModel" 2 (some (some .boolean)) 2 := G
  show KV ad cy x (some (.int y), M) 0 [(0, .ref (ad a0)), (1, .int p1)] [] M
  refine v_iload_n G dX12_isPlaceAt_0 1 rfl ?_
  refine v_i2l G dX12_isPlaceAt_1 ?_
  refine v_lconst (0 : Int64) G dX12_isPlaceAt_2 (by decide) ?_
  refine v_aload_n G dX12_isPlaceAt_3 0 rfl ?_
  refine gf_12_20 G h0 t_1511 (Or.inl rfl) dX12_isPlaceAt_4 ?_
  refine v_iconst (0 : Int32) G dX12_isPlaceAt_7 (by decide) ?_
  obtain ⟨g1, hf⟩ := gd_e hf
  refine al_36 G (kf_12_5 h0) g1 dX12_isPlaceAt_8 ?_
  refine v_iconst (1 : Int32) G dX12_isPlaceAt_9 (by decide) ?_
  refine v_isub G dX12_isPlaceAt_10 ?_
  refine v_i2l G dX12_isPlaceAt_11 ?_
  obtain ⟨v2, hcv2⟩ : ∃ q, f_X12_isIn (p1).toInt64 (0 : Int64) (((M.1 (a0 + 5) ((0 : Int32)).toNatClampNeg) - (1 : Int32))).toInt64 M = q := ⟨_, rfl⟩
  replace hf := lt_e hf hcv2.symm
  refine v_callS [.long (p1).toInt64, .long (0 : Int64), .long (((M.1 (a0 + 5) ((0 : Int32)).toNatClampNeg) - (1 : Int32))).toInt64] G (c_X12_isIn hcv2) t_1755 t_1756 t_17 t_1757 nm_X12_isIn (by decide) (by decide) rfl rfl (Nat.le_of_ble_eq_true rfl) dX12_isPlaceAt_12 (kv_ri ?_)
  obtain rfl := Option.some.inj hf
  exact v_zret G (z_X12_isIn hcv2) dX12_isPlaceAt_15
abbrev cX12_isRoadAt : ByteArray := prog_14_method_80_code
def yX12_isRoadAt : MethodName := ⟨RX12, "isRoadAt", "(I)Z"⟩
theorem dX12_isRoadAt_0 : dc cX12_isRoadAt 0 (.iload_n 1) 1 1 := ⟨by decide +kernel, rfl⟩
theorem dX12_isRoadAt_1 : dc cX12_isRoadAt 1 (.i2l) 1 2 := ⟨by decide +kernel, rfl⟩
theorem dX12_isRoadAt_2 : dc cX12_isRoadAt 2 (.lconst 0) 1 3 := ⟨by decide +kernel, rfl⟩
theorem dX12_isRoadAt_3 : dc cX12_isRoadAt 3 (.aload_n 0) 1 4 := ⟨by decide +kernel, rfl⟩
theorem dX12_isRoadAt_4 : dc cX12_isRoadAt 4 (.getfield 35) 3 7 := ⟨by decide +kernel, rfl⟩
theorem dX12_isRoadAt_7 : dc cX12_isRoadAt 7 (.iconst 1) 1 8 := ⟨by decide +kernel, rfl⟩
theorem dX12_isRoadAt_8 : dc cX12_isRoadAt 8 (.iaload) 1 9 := ⟨by decide +kernel, rfl⟩
theorem dX12_isRoadAt_9 : dc cX12_isRoadAt 9 (.iconst 1) 1 10 := ⟨by decide +kernel, rfl⟩
theorem dX12_isRoadAt_10 : dc cX12_isRoadAt 10 (.isub) 1 11 := ⟨by decide +kernel, rfl⟩
theorem dX12_isRoadAt_11 : dc cX12_isRoadAt 11 (.i2l) 1 12 := ⟨by decide +kernel, rfl⟩
theorem dX12_isRoadAt_12 : dc cX12_isRoadAt 12 (.invokestatic 110) 3 15 := ⟨by decide +kernel, rfl⟩
theorem dX12_isRoadAt_15 : dc cX12_isRoadAt 15 (.ireturn) 1 16 := ⟨by decide +kernel, rfl⟩
theorem nm_X12_isRoadAt : (yX12_isRoadAt).cls ≠ "java/lang/invoke/MethodHandle" ∧ (yX12_isRoadAt).cls ≠ "java/lang/invoke/VarHandle" ∧ (parseMethodDescriptor (yX12_isRoadAt).desc).map (fun d => d.parameters.length) = some 1 := ⟨by decide +kernel, by decide +kernel, by decide +kernel⟩
set_option maxRecDepth 100000 in
theorem z_X12_isRoadAt (n : Nat) {a0 : Nat} {p1 : Int32} {M : KM} {y : Int32} (hf : f_X12_isRoadAt n a0 p1 M = some y) : (y = 0 ∨ y = 1) := by
  unfold f_X12_isRoadAt at hf
  obtain ⟨g1, hf⟩ := gd_e hf
  obtain ⟨v2, hcv2⟩ : ∃ q, f_X12_isIn (p1).toInt64 (0 : Int64) (((M.1 (a0 + 5) ((1 : Int32)).toNatClampNeg) - (1 : Int32))).toInt64 M = q := ⟨_, rfl⟩
  replace hf := lt_e hf hcv2.symm
  obtain rfl := Option.some.inj hf
  exact (z_X12_isIn hcv2)
set_option maxRecDepth 100000 in
set_option maxHeartbeats 4000000 in
theorem c_X12_isRoadAt {l : Launch} {ad : Nat → Nat} {cy : Nat → ClassId} {D : va_G} {z : Nat} (n : Nat) {a0 : Nat} {p1 : Int32} {M : KM} {y : Int32} (h0 : kty a0 = 12) (hf : f_X12_isRoadAt n a0 p1 M = some y) : KC l ad cy D z yX12_isRoadAt cX12_isRoadAt 2 (some .boolean) 2 [.ref (ad a0), .int p1] M (some (.int y), M) := by
  refine kv_enter (by decide +kernel) (Nat.le_of_ble_eq_true rfl) ?_
  intro x hl hD hz G
  subst hl hD hz
  unfold f_X12_isRoadAt at hf
  have G : KG ad cy x cX12_isRoadAt "NoonGuidesModel" 2 (some (some .boolean)) 2 := G
  show KV ad cy x (some (.int y), M) 0 [(0, .ref (ad a0)), (1, .int p1)] [] M
  refine v_iload_n G dX12_isRoadAt_0 1 rfl ?_
  refine v_i2l G dX12_isRoadAt_1 ?_
  refine v_lconst (0 : Int64) G dX12_isRoadAt_2 (by decide) ?_
  refine v_aload_n G dX12_isRoadAt_3 0 rfl ?_
  refine gf_12_20 G h0 t_1511 (Or.inl rfl) dX12_isRoadAt_4 ?_
  refine v_iconst (1 : Int32) G dX12_isRoadAt_7 (by decide) ?_
  obtain ⟨g1, hf⟩ := gd_e hf
  refine al_36 G (kf_12_5 h0) g1 dX12_isRoadAt_8 ?_
  refine v_iconst (1 : Int32) G dX12_isRoadAt_9 (by decide) ?_
  refine v_isub G dX12_isRoadAt_10 ?_
  refine v_i2l G dX12_isRoadAt_11 ?_
  obtain ⟨v2, hcv2⟩ : ∃ q, f_X12_isIn (p1).toInt64 (0 : Int64) (((M.1 (a0 + 5) ((1 : Int32)).toNatClampNeg) - (1 : Int32))).toInt64 M = q := ⟨_, rfl⟩
  replace hf := lt_e hf hcv2.symm
  refine v_callS [.long (p1).toInt64, .long (0 : Int64), .long (((M.1 (a0 + 5) ((1 : Int32)).toNatClampNeg) - (1 : Int32))).toInt64] G (c_X12_isIn hcv2) t_1755 t_1756 t_17 t_1757 nm_X12_isIn (by decide) (by decide) rfl rfl (Nat.le_of_ble_eq_true rfl) dX12_isRoadAt_12 (kv_ri ?_)
  obtain rfl := Option.some.inj hf
  exact v_zret G (z_X12_isIn hcv2) dX12_isRoadAt_15
abbrev cX12_isPerson : ByteArray := prog_14_method_81_code
def yX12_isPerson : MethodName := ⟨RX12, "isPerson", "(I)Z"⟩
theorem dX12_isPerson_0 : dc cX12_isPerson 0 (.iload_n 1) 1 1 := ⟨by decide +kernel, rfl⟩
theorem dX12_isPerson_1 : dc cX12_isPerson 1 (.i2l) 1 2 := ⟨by decide +kernel, rfl⟩
theorem dX12_isPerson_2 : dc cX12_isPerson 2 (.lconst 0) 1 3 := ⟨by decide +kernel, rfl⟩
theorem dX12_isPerson_3 : dc cX12_isPerson 3 (.aload_n 0) 1 4 := ⟨by decide +kernel, rfl⟩
theorem dX12_isPerson_4 : dc cX12_isPerson 4 (.getfield 35) 3 7 := ⟨by decide +kernel, rfl⟩
theorem dX12_isPerson_7 : dc cX12_isPerson 7 (.iconst 2) 1 8 := ⟨by decide +kernel, rfl⟩
theorem dX12_isPerson_8 : dc cX12_isPerson 8 (.iaload) 1 9 := ⟨by decide +kernel, rfl⟩
theorem dX12_isPerson_9 : dc cX12_isPerson 9 (.iconst 1) 1 10 := ⟨by decide +kernel, rfl⟩
theorem dX12_isPerson_10 : dc cX12_isPerson 10 (.isub) 1 11 := ⟨by decide +kernel, rfl⟩
theorem dX12_isPerson_11 : dc cX12_isPerson 11 (.i2l) 1 12 := ⟨by decide +kernel, rfl⟩
theorem dX12_isPerson_12 : dc cX12_isPerson 12 (.invokestatic 110) 3 15 := ⟨by decide +kernel, rfl⟩
theorem dX12_isPerson_15 : dc cX12_isPerson 15 (.ireturn) 1 16 := ⟨by decide +kernel, rfl⟩
theorem nm_X12_isPerson : (yX12_isPerson).cls ≠ "java/lang/invoke/MethodHandle" ∧ (yX12_isPerson).cls ≠ "java/lang/invoke/VarHandle" ∧ (parseMethodDescriptor (yX12_isPerson).desc).map (fun d => d.parameters.length) = some 1 := ⟨by decide +kernel, by decide +kernel, by decide +kernel⟩
set_option maxRecDepth 100000 in
theorem z_X12_isPerson (n : Nat) {a0 : Nat} {p1 : Int32} {M : KM} {y : Int32} (hf : f_X12_isPerson n a0 p1 M = some y) : (y = 0 ∨ y = 1) := by
  unfold f_X12_isPerson at hf
  obtain ⟨g1, hf⟩ := gd_e hf
  obtain ⟨v2, hcv2⟩ : ∃ q, f_X12_isIn (p1).toInt64 (0 : Int64) (((M.1 (a0 + 5) ((2 : Int32)).toNatClampNeg) - (1 : Int32))).toInt64 M = q := ⟨_, rfl⟩
  replace hf := lt_e hf hcv2.symm
  obtain rfl := Option.some.inj hf
  exact (z_X12_isIn hcv2)
set_option maxRecDepth 100000 in
set_option maxHeartbeats 4000000 in
theorem c_X12_isPerson {l : Launch} {ad : Nat → Nat} {cy : Nat → ClassId} {D : va_G} {z : Nat} (n : Nat) {a0 : Nat} {p1 : Int32} {M : KM} {y : Int32} (h0 : kty a0 = 12) (hf : f_X12_isPerson n a0 p1 M = some y) : KC l ad cy D z yX12_isPerson cX12_isPerson 2 (some .boolean) 2 [.ref (ad a0), .int p1] M (some (.int y), M) := by
  refine kv_enter (by decide +kernel) (Nat.le_of_ble_eq_true rfl) ?_
  intro x hl hD hz G
  subst hl hD hz
  unfold f_X12_isPerson at hf
  have G : KG ad cy x cX12_isPerson "NoonGuidesModel" 2 (some (some .boolean)) 2 := G
  show KV ad cy x (some (.int y), M) 0 [(0, .ref (ad a0)), (1, .int p1)] [] M
  refine v_iload_n G dX12_isPerson_0 1 rfl ?_
  refine v_i2l G dX12_isPerson_1 ?_
  refine v_lconst (0 : Int64) G dX12_isPerson_2 (by decide) ?_
  refine v_aload_n G dX12_isPerson_3 0 rfl ?_
  refine gf_12_20 G h0 t_1511 (Or.inl rfl) dX12_isPerson_4 ?_
  refine v_iconst (2 : Int32) G dX12_isPerson_7 (by decide) ?_
  obtain ⟨g1, hf⟩ := gd_e hf
  refine al_36 G (kf_12_5 h0) g1 dX12_isPerson_8 ?_
  refine v_iconst (1 : Int32) G dX12_isPerson_9 (by decide) ?_
  refine v_isub G dX12_isPerson_10 ?_
  refine v_i2l G dX12_isPerson_11 ?_
  obtain ⟨v2, hcv2⟩ : ∃ q, f_X12_isIn (p1).toInt64 (0 : Int64) (((M.1 (a0 + 5) ((2 : Int32)).toNatClampNeg) - (1 : Int32))).toInt64 M = q := ⟨_, rfl⟩
  replace hf := lt_e hf hcv2.symm
  refine v_callS [.long (p1).toInt64, .long (0 : Int64), .long (((M.1 (a0 + 5) ((2 : Int32)).toNatClampNeg) - (1 : Int32))).toInt64] G (c_X12_isIn hcv2) t_1755 t_1756 t_17 t_1757 nm_X12_isIn (by decide) (by decide) rfl rfl (Nat.le_of_ble_eq_true rfl) dX12_isPerson_12 (kv_ri ?_)
  obtain rfl := Option.some.inj hf
  exact v_zret G (z_X12_isIn hcv2) dX12_isPerson_15
abbrev cX12_isGoing : ByteArray := prog_14_method_82_code
def yX12_isGoing : MethodName := ⟨RX12, "isGoing", "(I)Z"⟩
theorem dX12_isGoing_0 : dc cX12_isGoing 0 (.aload_n 0) 1 1 := ⟨by decide +kernel, rfl⟩
theorem dX12_isGoing_1 : dc cX12_isGoing 1 (.getfield 35) 3 4 := ⟨by decide +kernel, rfl⟩
theorem dX12_isGoing_4 : dc cX12_isGoing 4 (.bipush 66) 2 6 := ⟨by decide +kernel, rfl⟩
theorem dX12_isGoing_6 : dc cX12_isGoing 6 (.iload_n 1) 1 7 := ⟨by decide +kernel, rfl⟩
theorem dX12_isGoing_7 : dc cX12_isGoing 7 (.iadd) 1 8 := ⟨by decide +kernel, rfl⟩
theorem dX12_isGoing_8 : dc cX12_isGoing 8 (.iaload) 1 9 := ⟨by decide +kernel, rfl⟩
theorem dX12_isGoing_9 : dc cX12_isGoing 9 (.ifCond .lt 7) 3 12 := ⟨by decide +kernel, rfl⟩
theorem dX12_isGoing_12 : dc cX12_isGoing 12 (.iconst 1) 1 13 := ⟨by decide +kernel, rfl⟩
theorem dX12_isGoing_13 : dc cX12_isGoing 13 (.goto 4) 3 16 := ⟨by decide +kernel, rfl⟩
theorem dX12_isGoing_16 : dc cX12_isGoing 16 (.iconst 0) 1 17 := ⟨by decide +kernel, rfl⟩
theorem dX12_isGoing_17 : dc cX12_isGoing 17 (.ireturn) 1 18 := ⟨by decide +kernel, rfl⟩
theorem nm_X12_isGoing : (yX12_isGoing).cls ≠ "java/lang/invoke/MethodHandle" ∧ (yX12_isGoing).cls ≠ "java/lang/invoke/VarHandle" ∧ (parseMethodDescriptor (yX12_isGoing).desc).map (fun d => d.parameters.length) = some 1 := ⟨by decide +kernel, by decide +kernel, by decide +kernel⟩
set_option maxRecDepth 100000 in
theorem z_X12_isGoing (n : Nat) {a0 : Nat} {p1 : Int32} {M : KM} {y : Int32} (hf : f_X12_isGoing n a0 p1 M = some y) : (y = 0 ∨ y = 1) := by
  unfold f_X12_isGoing at hf
  obtain ⟨g1, hf⟩ := gd_e hf
  by_cases h2 : (M.1 (a0 + 5) (((66 : Int32) + p1)).toNatClampNeg) < 0
  · replace hf := (if_pos h2).symm.trans hf
    obtain rfl := Option.some.inj hf
    exact (Or.inl rfl)
  · replace hf := (if_neg h2).symm.trans hf
    obtain rfl := Option.some.inj hf
    exact (Or.inr rfl)
set_option maxRecDepth 100000 in
set_option maxHeartbeats 4000000 in
theorem c_X12_isGoing {l : Launch} {ad : Nat → Nat} {cy : Nat → ClassId} {D : va_G} {z : Nat} (n : Nat) {a0 : Nat} {p1 : Int32} {M : KM} {y : Int32} (h0 : kty a0 = 12) (hf : f_X12_isGoing n a0 p1 M = some y) : KC l ad cy D z yX12_isGoing cX12_isGoing 2 (some .boolean) 1 [.ref (ad a0), .int p1] M (some (.int y), M) := by
  refine kv_enter (by decide +kernel) (Nat.le_of_ble_eq_true rfl) ?_
  intro x hl hD hz G
  subst hl hD hz
  unfold f_X12_isGoing at hf
  have G : KG ad cy x cX12_isGoing "NoonGuidesModel" 2 (some (some .boolean)) 1 := G
  show KV ad cy x (some (.int y), M) 0 [(0, .ref (ad a0)), (1, .int p1)] [] M
  refine v_aload_n G dX12_isGoing_0 0 rfl ?_
  refine gf_12_20 G h0 t_1511 (Or.inl rfl) dX12_isGoing_1 ?_
  refine v_bipush (66 : Int32) G dX12_isGoing_4 (by decide) ?_
  refine v_iload_n G dX12_isGoing_6 1 rfl ?_
  refine v_iadd G dX12_isGoing_7 ?_
  obtain ⟨g1, hf⟩ := gd_e hf
  refine al_36 G (kf_12_5 h0) g1 dX12_isGoing_8 ?_
  refine v_if_lt 16 G dX12_isGoing_9 (by decide) (fun h2 => ?_) (fun h2 => ?_)
  · replace hf := (if_pos h2).symm.trans hf
    refine v_iconst (0 : Int32) G dX12_isGoing_16 (by decide) ?_
    obtain rfl := Option.some.inj hf
    exact v_zret G (Or.inl rfl) dX12_isGoing_17
  · replace hf := (if_neg h2).symm.trans hf
    refine v_iconst (1 : Int32) G dX12_isGoing_12 (by decide) ?_
    refine v_goto 17 G dX12_isGoing_13 (by decide) ?_
    obtain rfl := Option.some.inj hf
    exact v_zret G (Or.inr rfl) dX12_isGoing_17
abbrev cX12_glares : ByteArray := prog_14_method_83_code
def yX12_glares : MethodName := ⟨RX12, "glares", "(I)Z"⟩
theorem dX12_glares_0 : dc cX12_glares 0 (.iload_n 1) 1 1 := ⟨by decide +kernel, rfl⟩
theorem dX12_glares_1 : dc cX12_glares 1 (.bipush 60) 2 3 := ⟨by decide +kernel, rfl⟩
theorem dX12_glares_3 : dc cX12_glares 3 (.idiv) 1 4 := ⟨by decide +kernel, rfl⟩
theorem dX12_glares_4 : dc cX12_glares 4 (.bipush 24) 2 6 := ⟨by decide +kernel, rfl⟩
theorem dX12_glares_6 : dc cX12_glares 6 (.irem) 1 7 := ⟨by decide +kernel, rfl⟩
theorem dX12_glares_7 : dc cX12_glares 7 (.istore_n 2) 1 8 := ⟨by decide +kernel, rfl⟩
theorem dX12_glares_8 : dc cX12_glares 8 (.aload_n 0) 1 9 := ⟨by decide +kernel, rfl⟩
theorem dX12_glares_9 : dc cX12_glares 9 (.getfield 35) 3 12 := ⟨by decide +kernel, rfl⟩
theorem dX12_glares_12 : dc cX12_glares 12 (.bipush 9) 2 14 := ⟨by decide +kernel, rfl⟩
theorem dX12_glares_14 : dc cX12_glares 14 (.iaload) 1 15 := ⟨by decide +kernel, rfl⟩
theorem dX12_glares_15 : dc cX12_glares 15 (.ifCond .ne 27) 3 18 := ⟨by decide +kernel, rfl⟩
theorem dX12_glares_18 : dc cX12_glares 18 (.iload_n 2) 1 19 := ⟨by decide +kernel, rfl⟩
theorem dX12_glares_19 : dc cX12_glares 19 (.aload_n 0) 1 20 := ⟨by decide +kernel, rfl⟩
theorem dX12_glares_20 : dc cX12_glares 20 (.getfield 35) 3 23 := ⟨by decide +kernel, rfl⟩
theorem dX12_glares_23 : dc cX12_glares 23 (.iconst 3) 1 24 := ⟨by decide +kernel, rfl⟩
theorem dX12_glares_24 : dc cX12_glares 24 (.iaload) 1 25 := ⟨by decide +kernel, rfl⟩
theorem dX12_glares_25 : dc cX12_glares 25 (.if_icmp .lt 17) 3 28 := ⟨by decide +kernel, rfl⟩
theorem dX12_glares_28 : dc cX12_glares 28 (.iload_n 2) 1 29 := ⟨by decide +kernel, rfl⟩
theorem dX12_glares_29 : dc cX12_glares 29 (.aload_n 0) 1 30 := ⟨by decide +kernel, rfl⟩
theorem dX12_glares_30 : dc cX12_glares 30 (.getfield 35) 3 33 := ⟨by decide +kernel, rfl⟩
theorem dX12_glares_33 : dc cX12_glares 33 (.iconst 4) 1 34 := ⟨by decide +kernel, rfl⟩
theorem dX12_glares_34 : dc cX12_glares 34 (.iaload) 1 35 := ⟨by decide +kernel, rfl⟩
theorem dX12_glares_35 : dc cX12_glares 35 (.if_icmp .ge 7) 3 38 := ⟨by decide +kernel, rfl⟩
theorem dX12_glares_38 : dc cX12_glares 38 (.iconst 1) 1 39 := ⟨by decide +kernel, rfl⟩
theorem dX12_glares_39 : dc cX12_glares 39 (.goto 4) 3 42 := ⟨by decide +kernel, rfl⟩
theorem dX12_glares_42 : dc cX12_glares 42 (.iconst 0) 1 43 := ⟨by decide +kernel, rfl⟩
theorem dX12_glares_43 : dc cX12_glares 43 (.ireturn) 1 44 := ⟨by decide +kernel, rfl⟩
theorem nm_X12_glares : (yX12_glares).cls ≠ "java/lang/invoke/MethodHandle" ∧ (yX12_glares).cls ≠ "java/lang/invoke/VarHandle" ∧ (parseMethodDescriptor (yX12_glares).desc).map (fun d => d.parameters.length) = some 1 := ⟨by decide +kernel, by decide +kernel, by decide +kernel⟩
set_option maxRecDepth 100000 in
theorem z_X12_glares (n : Nat) {a0 : Nat} {p1 : Int32} {M : KM} {y : Int32} (hf : f_X12_glares n a0 p1 M = some y) : (y = 0 ∨ y = 1) := by
  unfold f_X12_glares at hf
  obtain ⟨v1, ev1⟩ : ∃ q, q = (((p1 / (60 : Int32)) - (p1 / (60 : Int32)) / (24 : Int32) * (24 : Int32)) : Int32) := ⟨_, rfl⟩
  replace hf := lt_e hf ev1
  obtain ⟨g2, hf⟩ := gd_e hf
  by_cases h7 : (M.1 (a0 + 5) ((9 : Int32)).toNatClampNeg) = 0
  · replace hf := (if_pos h7).symm.trans hf
    obtain ⟨g3, hf⟩ := gd_e hf
    by_cases h6 : v1 < (M.1 (a0 + 5) ((3 : Int32)).toNatClampNeg)
    · replace hf := (if_pos h6).symm.trans hf
      obtain rfl := Option.some.inj hf
      exact (Or.inl rfl)
    · replace hf := (if_neg h6).symm.trans hf
      obtain ⟨g4, hf⟩ := gd_e hf
      by_cases h5 : (M.1 (a0 + 5) ((4 : Int32)).toNatClampNeg) ≤ v1
      · replace hf := (if_pos h5).symm.trans hf
        obtain rfl := Option.some.inj hf
        exact (Or.inl rfl)
      · replace hf := (if_neg h5).symm.trans hf
        obtain rfl := Option.some.inj hf
        exact (Or.inr rfl)
  · replace hf := (if_neg h7).symm.trans hf
    obtain rfl := Option.some.inj hf
    exact (Or.inl rfl)
set_option maxRecDepth 100000 in
set_option maxHeartbeats 4000000 in
theorem c_X12_glares {l : Launch} {ad : Nat → Nat} {cy : Nat → ClassId} {D : va_G} {z : Nat} (n : Nat) {a0 : Nat} {p1 : Int32} {M : KM} {y : Int32} (h0 : kty a0 = 12) (hf : f_X12_glares n a0 p1 M = some y) : KC l ad cy D z yX12_glares cX12_glares 3 (some .boolean) 1 [.ref (ad a0), .int p1] M (some (.int y), M) := by
  refine kv_enter (by decide +kernel) (Nat.le_of_ble_eq_true rfl) ?_
  intro x hl hD hz G
  subst hl hD hz
  unfold f_X12_glares at hf
  have G : KG ad cy x cX12_glares "NoonGuidesModel" 3 (some (some .boolean)) 1 := G
  show KV ad cy x (some (.int y), M) 0 [(0, .ref (ad a0)), (1, .int p1)] [] M
  refine v_iload_n G dX12_glares_0 1 rfl ?_
  refine v_bipush (60 : Int32) G dX12_glares_1 (by decide) ?_
  refine v_idiv G dX12_glares_3 (by decide) ?_
  refine v_bipush (24 : Int32) G dX12_glares_4 (by decide) ?_
  refine v_irem G dX12_glares_6 (by decide) ?_
  refine v_nmi (fun v1 ev1 => ?_)
  replace hf := lt_e hf ev1
  refine v_istore_n [(2, .int v1), (0, .ref (ad a0)), (1, .int p1)] G dX12_glares_7 (by decide) rfl ?_
  refine v_aload_n G dX12_glares_8 1 rfl ?_
  refine gf_12_20 G h0 t_1511 (Or.inl rfl) dX12_glares_9 ?_
  refine v_bipush (9 : Int32) G dX12_glares_12 (by decide) ?_
  obtain ⟨g2, hf⟩ := gd_e hf
  refine al_36 G (kf_12_5 h0) g2 dX12_glares_14 ?_
  refine v_if_ne 42 G dX12_glares_15 (by decide) (fun h7 => ?_) (fun h7 => ?_)
  · replace hf := (if_neg h7).symm.trans hf
    refine v_iconst (0 : Int32) G dX12_glares_42 (by decide) ?_
    obtain rfl := Option.some.inj hf
    exact v_zret G (Or.inl rfl) dX12_glares_43
  · replace hf := (if_pos h7).symm.trans hf
    refine v_iload_n G dX12_glares_18 0 rfl ?_
    refine v_aload_n G dX12_glares_19 1 rfl ?_
    refine gf_12_20 G h0 t_1511 (Or.inl rfl) dX12_glares_20 ?_
    refine v_iconst (3 : Int32) G dX12_glares_23 (by decide) ?_
    obtain ⟨g3, hf⟩ := gd_e hf
    refine al_36 G (kf_12_5 h0) g3 dX12_glares_24 ?_
    refine v_icmp_lt 42 G dX12_glares_25 (by decide) (fun h6 => ?_) (fun h6 => ?_)
    · replace hf := (if_pos h6).symm.trans hf
      refine v_iconst (0 : Int32) G dX12_glares_42 (by decide) ?_
      obtain rfl := Option.some.inj hf
      exact v_zret G (Or.inl rfl) dX12_glares_43
    · replace hf := (if_neg h6).symm.trans hf
      refine v_iload_n G dX12_glares_28 0 rfl ?_
      refine v_aload_n G dX12_glares_29 1 rfl ?_
      refine gf_12_20 G h0 t_1511 (Or.inl rfl) dX12_glares_30 ?_
      refine v_iconst (4 : Int32) G dX12_glares_33 (by decide) ?_
      obtain ⟨g4, hf⟩ := gd_e hf
      refine al_36 G (kf_12_5 h0) g4 dX12_glares_34 ?_
      refine v_icmp_ge 42 G dX12_glares_35 (by decide) (fun h5 => ?_) (fun h5 => ?_)
      · replace hf := (if_pos h5).symm.trans hf
        refine v_iconst (0 : Int32) G dX12_glares_42 (by decide) ?_
        obtain rfl := Option.some.inj hf
        exact v_zret G (Or.inl rfl) dX12_glares_43
      · replace hf := (if_neg h5).symm.trans hf
        refine v_iconst (1 : Int32) G dX12_glares_38 (by decide) ?_
        refine v_goto 43 G dX12_glares_39 (by decide) ?_
        obtain rfl := Option.some.inj hf
        exact v_zret G (Or.inr rfl) dX12_glares_43
abbrev cX12_canGo : ByteArray := prog_14_method_84_code
def yX12_canGo : MethodName := ⟨RX12, "canGo", "(IIZ)Z"⟩
theorem dX12_canGo_0 : dc cX12_canGo 0 (.aload_n 0) 1 1 := ⟨by decide +kernel, rfl⟩
theorem dX12_canGo_1 : dc cX12_canGo 1 (.getfield 35) 3 4 := ⟨by decide +kernel, rfl⟩
theorem dX12_canGo_4 : dc cX12_canGo 4 (.bipush 106) 2 6 := ⟨by decide +kernel, rfl⟩
theorem dX12_canGo_6 : dc cX12_canGo 6 (.iload_n 1) 1 7 := ⟨by decide +kernel, rfl⟩
theorem dX12_canGo_7 : dc cX12_canGo 7 (.iadd) 1 8 := ⟨by decide +kernel, rfl⟩
theorem dX12_canGo_8 : dc cX12_canGo 8 (.iaload) 1 9 := ⟨by decide +kernel, rfl⟩
theorem dX12_canGo_9 : dc cX12_canGo 9 (.iconst 1) 1 10 := ⟨by decide +kernel, rfl⟩
theorem dX12_canGo_10 : dc cX12_canGo 10 (.if_icmp .ne 47) 3 13 := ⟨by decide +kernel, rfl⟩
theorem dX12_canGo_13 : dc cX12_canGo 13 (.aload_n 0) 1 14 := ⟨by decide +kernel, rfl⟩
theorem dX12_canGo_14 : dc cX12_canGo 14 (.getfield 35) 3 17 := ⟨by decide +kernel, rfl⟩
theorem dX12_canGo_17 : dc cX12_canGo 17 (.bipush 46) 2 19 := ⟨by decide +kernel, rfl⟩
theorem dX12_canGo_19 : dc cX12_canGo 19 (.iload_n 2) 1 20 := ⟨by decide +kernel, rfl⟩
theorem dX12_canGo_20 : dc cX12_canGo 20 (.iadd) 1 21 := ⟨by decide +kernel, rfl⟩
theorem dX12_canGo_21 : dc cX12_canGo 21 (.iaload) 1 22 := ⟨by decide +kernel, rfl⟩
theorem dX12_canGo_22 : dc cX12_canGo 22 (.iconst 1) 1 23 := ⟨by decide +kernel, rfl⟩
theorem dX12_canGo_23 : dc cX12_canGo 23 (.if_icmp .eq 28) 3 26 := ⟨by decide +kernel, rfl⟩
theorem dX12_canGo_26 : dc cX12_canGo 26 (.aload_n 0) 1 27 := ⟨by decide +kernel, rfl⟩
theorem dX12_canGo_27 : dc cX12_canGo 27 (.getfield 35) 3 30 := ⟨by decide +kernel, rfl⟩
theorem dX12_canGo_30 : dc cX12_canGo 30 (.sipush 130) 3 33 := ⟨by decide +kernel, rfl⟩
theorem dX12_canGo_33 : dc cX12_canGo 33 (.bipush 12) 2 35 := ⟨by decide +kernel, rfl⟩
theorem dX12_canGo_35 : dc cX12_canGo 35 (.iload_n 1) 1 36 := ⟨by decide +kernel, rfl⟩
theorem dX12_canGo_36 : dc cX12_canGo 36 (.imul) 1 37 := ⟨by decide +kernel, rfl⟩
theorem dX12_canGo_37 : dc cX12_canGo 37 (.iadd) 1 38 := ⟨by decide +kernel, rfl⟩
theorem dX12_canGo_38 : dc cX12_canGo 38 (.iload_n 2) 1 39 := ⟨by decide +kernel, rfl⟩
theorem dX12_canGo_39 : dc cX12_canGo 39 (.iadd) 1 40 := ⟨by decide +kernel, rfl⟩
theorem dX12_canGo_40 : dc cX12_canGo 40 (.iaload) 1 41 := ⟨by decide +kernel, rfl⟩
theorem dX12_canGo_41 : dc cX12_canGo 41 (.aload_n 0) 1 42 := ⟨by decide +kernel, rfl⟩
theorem dX12_canGo_42 : dc cX12_canGo 42 (.getfield 35) 3 45 := ⟨by decide +kernel, rfl⟩
theorem dX12_canGo_45 : dc cX12_canGo 45 (.bipush 7) 2 47 := ⟨by decide +kernel, rfl⟩
theorem dX12_canGo_47 : dc cX12_canGo 47 (.iaload) 1 48 := ⟨by decide +kernel, rfl⟩
theorem dX12_canGo_48 : dc cX12_canGo 48 (.if_icmp .lt 7) 3 51 := ⟨by decide +kernel, rfl⟩
theorem dX12_canGo_51 : dc cX12_canGo 51 (.iconst 1) 1 52 := ⟨by decide +kernel, rfl⟩
theorem dX12_canGo_52 : dc cX12_canGo 52 (.goto 4) 3 55 := ⟨by decide +kernel, rfl⟩
theorem dX12_canGo_55 : dc cX12_canGo 55 (.iconst 0) 1 56 := ⟨by decide +kernel, rfl⟩
theorem dX12_canGo_56 : dc cX12_canGo 56 (.ireturn) 1 57 := ⟨by decide +kernel, rfl⟩
theorem dX12_canGo_57 : dc cX12_canGo 57 (.iload_n 3) 1 58 := ⟨by decide +kernel, rfl⟩
theorem dX12_canGo_58 : dc cX12_canGo 58 (.ifCond .eq 16) 3 61 := ⟨by decide +kernel, rfl⟩
theorem dX12_canGo_61 : dc cX12_canGo 61 (.aload_n 0) 1 62 := ⟨by decide +kernel, rfl⟩
theorem dX12_canGo_62 : dc cX12_canGo 62 (.getfield 35) 3 65 := ⟨by decide +kernel, rfl⟩
theorem dX12_canGo_65 : dc cX12_canGo 65 (.bipush 98) 2 67 := ⟨by decide +kernel, rfl⟩
theorem dX12_canGo_67 : dc cX12_canGo 67 (.iload_n 1) 1 68 := ⟨by decide +kernel, rfl⟩
theorem dX12_canGo_68 : dc cX12_canGo 68 (.iadd) 1 69 := ⟨by decide +kernel, rfl⟩
theorem dX12_canGo_69 : dc cX12_canGo 69 (.iaload) 1 70 := ⟨by decide +kernel, rfl⟩
theorem dX12_canGo_70 : dc cX12_canGo 70 (.iconst 1) 1 71 := ⟨by decide +kernel, rfl⟩
theorem dX12_canGo_71 : dc cX12_canGo 71 (.if_icmp .ne 7) 3 74 := ⟨by decide +kernel, rfl⟩
theorem dX12_canGo_74 : dc cX12_canGo 74 (.iconst 1) 1 75 := ⟨by decide +kernel, rfl⟩
theorem dX12_canGo_75 : dc cX12_canGo 75 (.goto 4) 3 78 := ⟨by decide +kernel, rfl⟩
theorem dX12_canGo_78 : dc cX12_canGo 78 (.iconst 0) 1 79 := ⟨by decide +kernel, rfl⟩
theorem dX12_canGo_79 : dc cX12_canGo 79 (.ireturn) 1 80 := ⟨by decide +kernel, rfl⟩
theorem nm_X12_canGo : (yX12_canGo).cls ≠ "java/lang/invoke/MethodHandle" ∧ (yX12_canGo).cls ≠ "java/lang/invoke/VarHandle" ∧ (parseMethodDescriptor (yX12_canGo).desc).map (fun d => d.parameters.length) = some 3 := ⟨by decide +kernel, by decide +kernel, by decide +kernel⟩
set_option maxRecDepth 100000 in
theorem z_X12_canGo (n : Nat) {a0 : Nat} {p1 : Int32} {p2 : Int32} {p3 : Int32} {M : KM} {y : Int32} (hf : f_X12_canGo n a0 p1 p2 p3 M = some y) : (y = 0 ∨ y = 1) := by
  unfold f_X12_canGo at hf
  obtain ⟨g1, hf⟩ := gd_e hf
  by_cases h10 : (M.1 (a0 + 5) (((106 : Int32) + p1)).toNatClampNeg) = (1 : Int32)
  · replace hf := (if_pos h10).symm.trans hf
    obtain ⟨g5, hf⟩ := gd_e hf
    obtain ⟨j51, ej51, hf⟩ := lt_j hf
    have hj51 : j51 = some y → (y = 0 ∨ y = 1) := by
      intro hf
      rw [ej51] at hf
      obtain rfl := Option.some.inj hf
      exact (Or.inr rfl)
    by_cases h9 : (M.1 (a0 + 5) (((46 : Int32) + p2)).toNatClampNeg) = (1 : Int32)
    · replace hf := (if_pos h9).symm.trans hf
      exact hj51 hf
    · replace hf := (if_neg h9).symm.trans hf
      obtain ⟨g6, hf⟩ := gd_e hf
      obtain ⟨g7, hf⟩ := gd_e hf
      by_cases h8 : (M.1 (a0 + 5) ((((130 : Int32) + ((12 : Int32) * p1)) + p2)).toNatClampNeg) < (M.1 (a0 + 5) ((7 : Int32)).toNatClampNeg)
      · replace hf := (if_pos h8).symm.trans hf
        obtain rfl := Option.some.inj hf
        exact (Or.inl rfl)
      · replace hf := (if_neg h8).symm.trans hf
        exact hj51 hf
  · replace hf := (if_neg h10).symm.trans hf
    obtain ⟨j74, ej74, hf⟩ := lt_j hf
    have hj74 : j74 = some y → (y = 0 ∨ y = 1) := by
      intro hf
      rw [ej74] at hf
      obtain rfl := Option.some.inj hf
      exact (Or.inr rfl)
    by_cases h4 : p3 = 0
    · replace hf := (if_pos h4).symm.trans hf
      exact hj74 hf
    · replace hf := (if_neg h4).symm.trans hf
      obtain ⟨g2, hf⟩ := gd_e hf
      by_cases h3 : (M.1 (a0 + 5) (((98 : Int32) + p1)).toNatClampNeg) = (1 : Int32)
      · replace hf := (if_pos h3).symm.trans hf
        exact hj74 hf
      · replace hf := (if_neg h3).symm.trans hf
        obtain rfl := Option.some.inj hf
        exact (Or.inl rfl)
set_option maxRecDepth 100000 in
set_option maxHeartbeats 4000000 in
theorem c_X12_canGo {l : Launch} {ad : Nat → Nat} {cy : Nat → ClassId} {D : va_G} {z : Nat} (n : Nat) {a0 : Nat} {p1 : Int32} {p2 : Int32} {p3 : Int32} {M : KM} {y : Int32} (h0 : kty a0 = 12) (hf : f_X12_canGo n a0 p1 p2 p3 M = some y) : KC l ad cy D z yX12_canGo cX12_canGo 4 (some .boolean) 1 [.ref (ad a0), .int p1, .int p2, .int p3] M (some (.int y), M) := by
  refine kv_enter (by decide +kernel) (Nat.le_of_ble_eq_true rfl) ?_
  intro x hl hD hz G
  subst hl hD hz
  unfold f_X12_canGo at hf
  have G : KG ad cy x cX12_canGo "NoonGuidesModel" 4 (some (some .boolean)) 1 := G
  show KV ad cy x (some (.int y), M) 0 [(0, .ref (ad a0)), (1, .int p1), (2, .int p2), (3, .int p3)] [] M
  refine v_aload_n G dX12_canGo_0 0 rfl ?_
  refine gf_12_20 G h0 t_1511 (Or.inl rfl) dX12_canGo_1 ?_
  refine v_bipush (106 : Int32) G dX12_canGo_4 (by decide) ?_
  refine v_iload_n G dX12_canGo_6 1 rfl ?_
  refine v_iadd G dX12_canGo_7 ?_
  obtain ⟨g1, hf⟩ := gd_e hf
  refine al_36 G (kf_12_5 h0) g1 dX12_canGo_8 ?_
  refine v_iconst (1 : Int32) G dX12_canGo_9 (by decide) ?_
  refine v_icmp_ne 57 G dX12_canGo_10 (by decide) (fun h10 => ?_) (fun h10 => ?_)
  · replace hf := (if_neg h10).symm.trans hf
    refine v_iload_n G dX12_canGo_57 3 rfl ?_
    obtain ⟨j74, ej74, hf⟩ := lt_j hf
    have hj74 : j74 = some y → KV ad cy x (some (.int y), M) 74 [] [] M := by
      intro hf
      rw [ej74] at hf
      refine v_iconst (1 : Int32) G dX12_canGo_74 (by decide) ?_
      refine v_goto 79 G dX12_canGo_75 (by decide) ?_
      obtain rfl := Option.some.inj hf
      exact v_zret G (Or.inr rfl) dX12_canGo_79
    refine v_if_eq 74 G dX12_canGo_58 (by decide) (fun h4 => ?_) (fun h4 => ?_)
    · replace hf := (if_pos h4).symm.trans hf
      refine v_sub _ [] rfl ?_
      exact hj74 hf
    · replace hf := (if_neg h4).symm.trans hf
      refine v_aload_n G dX12_canGo_61 0 rfl ?_
      refine gf_12_20 G h0 t_1511 (Or.inl rfl) dX12_canGo_62 ?_
      refine v_bipush (98 : Int32) G dX12_canGo_65 (by decide) ?_
      refine v_iload_n G dX12_canGo_67 1 rfl ?_
      refine v_iadd G dX12_canGo_68 ?_
      obtain ⟨g2, hf⟩ := gd_e hf
      refine al_36 G (kf_12_5 h0) g2 dX12_canGo_69 ?_
      refine v_iconst (1 : Int32) G dX12_canGo_70 (by decide) ?_
      refine v_icmp_ne 78 G dX12_canGo_71 (by decide) (fun h3 => ?_) (fun h3 => ?_)
      · replace hf := (if_neg h3).symm.trans hf
        refine v_iconst (0 : Int32) G dX12_canGo_78 (by decide) ?_
        obtain rfl := Option.some.inj hf
        exact v_zret G (Or.inl rfl) dX12_canGo_79
      · replace hf := (if_pos h3).symm.trans hf
        refine v_sub _ [] rfl ?_
        exact hj74 hf
  · replace hf := (if_pos h10).symm.trans hf
    refine v_aload_n G dX12_canGo_13 0 rfl ?_
    refine gf_12_20 G h0 t_1511 (Or.inl rfl) dX12_canGo_14 ?_
    refine v_bipush (46 : Int32) G dX12_canGo_17 (by decide) ?_
    refine v_iload_n G dX12_canGo_19 2 rfl ?_
    refine v_iadd G dX12_canGo_20 ?_
    obtain ⟨g5, hf⟩ := gd_e hf
    refine al_36 G (kf_12_5 h0) g5 dX12_canGo_21 ?_
    refine v_iconst (1 : Int32) G dX12_canGo_22 (by decide) ?_
    obtain ⟨j51, ej51, hf⟩ := lt_j hf
    have hj51 : j51 = some y → KV ad cy x (some (.int y), M) 51 [] [] M := by
      intro hf
      rw [ej51] at hf
      refine v_iconst (1 : Int32) G dX12_canGo_51 (by decide) ?_
      refine v_goto 56 G dX12_canGo_52 (by decide) ?_
      obtain rfl := Option.some.inj hf
      exact v_zret G (Or.inr rfl) dX12_canGo_56
    refine v_icmp_eq 51 G dX12_canGo_23 (by decide) (fun h9 => ?_) (fun h9 => ?_)
    · replace hf := (if_pos h9).symm.trans hf
      refine v_sub _ [] rfl ?_
      exact hj51 hf
    · replace hf := (if_neg h9).symm.trans hf
      refine v_aload_n G dX12_canGo_26 0 rfl ?_
      refine gf_12_20 G h0 t_1511 (Or.inl rfl) dX12_canGo_27 ?_
      refine v_sipush (130 : Int32) G dX12_canGo_30 (by decide) ?_
      refine v_bipush (12 : Int32) G dX12_canGo_33 (by decide) ?_
      refine v_iload_n G dX12_canGo_35 1 rfl ?_
      refine v_imul G dX12_canGo_36 ?_
      refine v_iadd G dX12_canGo_37 ?_
      refine v_iload_n G dX12_canGo_38 2 rfl ?_
      refine v_iadd G dX12_canGo_39 ?_
      obtain ⟨g6, hf⟩ := gd_e hf
      refine al_36 G (kf_12_5 h0) g6 dX12_canGo_40 ?_
      refine v_aload_n G dX12_canGo_41 0 rfl ?_
      refine gf_12_20 G h0 t_1511 (Or.inl rfl) dX12_canGo_42 ?_
      refine v_bipush (7 : Int32) G dX12_canGo_45 (by decide) ?_
      obtain ⟨g7, hf⟩ := gd_e hf
      refine al_36 G (kf_12_5 h0) g7 dX12_canGo_47 ?_
      refine v_icmp_lt 55 G dX12_canGo_48 (by decide) (fun h8 => ?_) (fun h8 => ?_)
      · replace hf := (if_pos h8).symm.trans hf
        refine v_iconst (0 : Int32) G dX12_canGo_55 (by decide) ?_
        obtain rfl := Option.some.inj hf
        exact v_zret G (Or.inl rfl) dX12_canGo_56
      · replace hf := (if_neg h8).symm.trans hf
        refine v_sub _ [] rfl ?_
        exact hj51 hf
abbrev cX12_canNow : ByteArray := prog_14_method_85_code
def yX12_canNow : MethodName := ⟨RX12, "canNow", "(II)Z"⟩
theorem dX12_canNow_0 : dc cX12_canNow 0 (.aload_n 0) 1 1 := ⟨by decide +kernel, rfl⟩
theorem dX12_canNow_1 : dc cX12_canNow 1 (.iload_n 1) 1 2 := ⟨by decide +kernel, rfl⟩
theorem dX12_canNow_2 : dc cX12_canNow 2 (.iload_n 2) 1 3 := ⟨by decide +kernel, rfl⟩
theorem dX12_canNow_3 : dc cX12_canNow 3 (.aload_n 0) 1 4 := ⟨by decide +kernel, rfl⟩
theorem dX12_canNow_4 : dc cX12_canNow 4 (.aload_n 0) 1 5 := ⟨by decide +kernel, rfl⟩
theorem dX12_canNow_5 : dc cX12_canNow 5 (.getfield 35) 3 8 := ⟨by decide +kernel, rfl⟩
theorem dX12_canNow_8 : dc cX12_canNow 8 (.iconst 5) 1 9 := ⟨by decide +kernel, rfl⟩
theorem dX12_canNow_9 : dc cX12_canNow 9 (.iaload) 1 10 := ⟨by decide +kernel, rfl⟩
theorem dX12_canNow_10 : dc cX12_canNow 10 (.invokevirtual 343) 3 13 := ⟨by decide +kernel, rfl⟩
theorem dX12_canNow_13 : dc cX12_canNow 13 (.invokevirtual 346) 3 16 := ⟨by decide +kernel, rfl⟩
theorem dX12_canNow_16 : dc cX12_canNow 16 (.ireturn) 1 17 := ⟨by decide +kernel, rfl⟩
theorem nm_X12_canNow : (yX12_canNow).cls ≠ "java/lang/invoke/MethodHandle" ∧ (yX12_canNow).cls ≠ "java/lang/invoke/VarHandle" ∧ (parseMethodDescriptor (yX12_canNow).desc).map (fun d => d.parameters.length) = some 2 := ⟨by decide +kernel, by decide +kernel, by decide +kernel⟩
set_option maxRecDepth 100000 in
theorem z_X12_canNow (n : Nat) {a0 : Nat} {p1 : Int32} {p2 : Int32} {M : KM} {y : Int32} (hf : f_X12_canNow n a0 p1 p2 M = some y) : (y = 0 ∨ y = 1) := by
  unfold f_X12_canNow at hf
  obtain ⟨g1, hf⟩ := gd_e hf
  obtain ⟨v2, hcv2, hf⟩ := bd_e hf
  obtain ⟨v3, hcv3, hf⟩ := bd_e hf
  obtain rfl := Option.some.inj hf
  exact (z_X12_canGo n hcv3)
set_option maxRecDepth 100000 in
set_option maxHeartbeats 4000000 in
theorem c_X12_canNow {l : Launch} {ad : Nat → Nat} {cy : Nat → ClassId} {D : va_G} {z : Nat} (n : Nat) {a0 : Nat} {p1 : Int32} {p2 : Int32} {M : KM} {y : Int32} (h0 : kty a0 = 12) (hf : f_X12_canNow n a0 p1 p2 M = some y) : KC l ad cy D z yX12_canNow cX12_canNow 3 (some .boolean) 2 [.ref (ad a0), .int p1, .int p2] M (some (.int y), M) := by
  refine kv_enter (by decide +kernel) (Nat.le_of_ble_eq_true rfl) ?_
  intro x hl hD hz G
  subst hl hD hz
  unfold f_X12_canNow at hf
  have G : KG ad cy x cX12_canNow "NoonGuidesModel" 3 (some (some .boolean)) 2 := G
  show KV ad cy x (some (.int y), M) 0 [(0, .ref (ad a0)), (1, .int p1), (2, .int p2)] [] M
  refine v_aload_n G dX12_canNow_0 0 rfl ?_
  refine v_iload_n G dX12_canNow_1 1 rfl ?_
  refine v_iload_n G dX12_canNow_2 2 rfl ?_
  refine v_aload_n G dX12_canNow_3 0 rfl ?_
  refine v_aload_n G dX12_canNow_4 0 rfl ?_
  refine gf_12_20 G h0 t_1511 (Or.inl rfl) dX12_canNow_5 ?_
  refine v_iconst (5 : Int32) G dX12_canNow_8 (by decide) ?_
  obtain ⟨g1, hf⟩ := gd_e hf
  refine al_36 G (kf_12_5 h0) g1 dX12_canNow_9 ?_
  obtain ⟨v2, hcv2, hf⟩ := bd_e hf
  refine v_callV [.int (M.1 (a0 + 5) ((5 : Int32)).toNatClampNeg)] G (c_X12_glares n h0 hcv2) h0 (by decide) rfl rfl rfl t_1930 t_1932 t_p111 t_17 t_1933 nm_X12_glares (by decide) (by decide) rfl rfl (Nat.le_of_ble_eq_true rfl) dX12_canNow_10 (kv_ri ?_)
  obtain ⟨v3, hcv3, hf⟩ := bd_e hf
  refine v_callV [.int p1, .int p2, .int v2] G (c_X12_canGo n h0 hcv3) h0 (by decide) rfl rfl rfl t_2006 t_2008 t_p121 t_17 t_2009 nm_X12_canGo (by decide) (by decide) rfl rfl (Nat.le_of_ble_eq_true rfl) dX12_canNow_13 (kv_ri ?_)
  obtain rfl := Option.some.inj hf
  exact v_zret G (z_X12_canGo n hcv3) dX12_canNow_16
abbrev cX12_allLost : ByteArray := prog_14_method_86_code
def yX12_allLost : MethodName := ⟨RX12, "allLost", "()I"⟩
theorem dX12_allLost_0 : dc cX12_allLost 0 (.iconst 0) 1 1 := ⟨by decide +kernel, rfl⟩
theorem dX12_allLost_1 : dc cX12_allLost 1 (.istore_n 1) 1 2 := ⟨by decide +kernel, rfl⟩
theorem dX12_allLost_2 : dc cX12_allLost 2 (.iconst 0) 1 3 := ⟨by decide +kernel, rfl⟩
theorem dX12_allLost_3 : dc cX12_allLost 3 (.istore_n 2) 1 4 := ⟨by decide +kernel, rfl⟩
theorem dX12_allLost_4 : dc cX12_allLost 4 (.iload_n 2) 1 5 := ⟨by decide +kernel, rfl⟩
theorem dX12_allLost_5 : dc cX12_allLost 5 (.aload_n 0) 1 6 := ⟨by decide +kernel, rfl⟩
theorem dX12_allLost_6 : dc cX12_allLost 6 (.getfield 35) 3 9 := ⟨by decide +kernel, rfl⟩
theorem dX12_allLost_9 : dc cX12_allLost 9 (.iconst 2) 1 10 := ⟨by decide +kernel, rfl⟩
theorem dX12_allLost_10 : dc cX12_allLost 10 (.iaload) 1 11 := ⟨by decide +kernel, rfl⟩
theorem dX12_allLost_11 : dc cX12_allLost 11 (.if_icmp .ge 21) 3 14 := ⟨by decide +kernel, rfl⟩
theorem dX12_allLost_14 : dc cX12_allLost 14 (.iload_n 1) 1 15 := ⟨by decide +kernel, rfl⟩
theorem dX12_allLost_15 : dc cX12_allLost 15 (.aload_n 0) 1 16 := ⟨by decide +kernel, rfl⟩
theorem dX12_allLost_16 : dc cX12_allLost 16 (.getfield 35) 3 19 := ⟨by decide +kernel, rfl⟩
theorem dX12_allLost_19 : dc cX12_allLost 19 (.bipush 90) 2 21 := ⟨by decide +kernel, rfl⟩
theorem dX12_allLost_21 : dc cX12_allLost 21 (.iload_n 2) 1 22 := ⟨by decide +kernel, rfl⟩
theorem dX12_allLost_22 : dc cX12_allLost 22 (.iadd) 1 23 := ⟨by decide +kernel, rfl⟩
theorem dX12_allLost_23 : dc cX12_allLost 23 (.iaload) 1 24 := ⟨by decide +kernel, rfl⟩
theorem dX12_allLost_24 : dc cX12_allLost 24 (.iadd) 1 25 := ⟨by decide +kernel, rfl⟩
theorem dX12_allLost_25 : dc cX12_allLost 25 (.istore_n 1) 1 26 := ⟨by decide +kernel, rfl⟩
theorem dX12_allLost_26 : dc cX12_allLost 26 (.iinc 2 1) 3 29 := ⟨by decide +kernel, rfl⟩
theorem dX12_allLost_29 : dc cX12_allLost 29 (.goto (-25)) 3 32 := ⟨by decide +kernel, rfl⟩
theorem dX12_allLost_32 : dc cX12_allLost 32 (.iload_n 1) 1 33 := ⟨by decide +kernel, rfl⟩
theorem dX12_allLost_33 : dc cX12_allLost 33 (.ireturn) 1 34 := ⟨by decide +kernel, rfl⟩
theorem nm_X12_allLost : (yX12_allLost).cls ≠ "java/lang/invoke/MethodHandle" ∧ (yX12_allLost).cls ≠ "java/lang/invoke/VarHandle" ∧ (parseMethodDescriptor (yX12_allLost).desc).map (fun d => d.parameters.length) = some 0 := ⟨by decide +kernel, by decide +kernel, by decide +kernel⟩
set_option maxRecDepth 100000 in
set_option maxHeartbeats 4000000 in
theorem s_X12_allLost_4 {ad : Nat → Nat} {cy : Nat → ClassId} {x : KX} (G : KG ad cy x cX12_allLost "NoonGuidesModel" 3 (some (some .int)) 1) {a0 : Nat} {M : KM} (h0 : kty a0 = 12) {y : Int32} : ∀ (n : Nat) (w1 : Int32) (w2 : Int32), lp_X12_allLost_4 n a0 M w1 w2 = some y → KV ad cy x (some (.int y), M) 4 [(0, .ref (ad a0)), (1, .int w1), (2, .int w2)] [] M := by
  intro n
  induction n with
  | zero =>
    intro w1 w2 hf
    cases hf
  | succ n ih =>
    intro w1 w2 hf
    rw [lp_X12_allLost_4] at hf
    refine v_iload_n G dX12_allLost_4 2 rfl ?_
    refine v_aload_n G dX12_allLost_5 0 rfl ?_
    refine gf_12_20 G h0 t_1511 (Or.inl rfl) dX12_allLost_6 ?_
    refine v_iconst (2 : Int32) G dX12_allLost_9 (by decide) ?_
    obtain ⟨g1, hf⟩ := gd_e hf
    refine al_36 G (kf_12_5 h0) g1 dX12_allLost_10 ?_
    refine v_icmp_ge 32 G dX12_allLost_11 (by decide) (fun h5 => ?_) (fun h5 => ?_)
    · replace hf := (if_pos h5).symm.trans hf
      refine v_iload_n G dX12_allLost_32 1 rfl ?_
      obtain rfl := Option.some.inj hf
      exact v_iret G dX12_allLost_33
    · replace hf := (if_neg h5).symm.trans hf
      refine v_iload_n G dX12_allLost_14 1 rfl ?_
      refine v_aload_n G dX12_allLost_15 0 rfl ?_
      refine gf_12_20 G h0 t_1511 (Or.inl rfl) dX12_allLost_16 ?_
      refine v_bipush (90 : Int32) G dX12_allLost_19 (by decide) ?_
      refine v_iload_n G dX12_allLost_21 2 rfl ?_
      refine v_iadd G dX12_allLost_22 ?_
      obtain ⟨g2, hf⟩ := gd_e hf
      refine al_36 G (kf_12_5 h0) g2 dX12_allLost_23 ?_
      refine v_iadd G dX12_allLost_24 ?_
      refine v_nmi (fun v3 ev3 => ?_)
      replace hf := lt_e hf ev3
      refine v_istore_n [(1, .int v3), (0, .ref (ad a0)), (2, .int w2)] G dX12_allLost_25 (by decide) rfl ?_
      obtain ⟨v4, ev4⟩ : ∃ q : Int32, q = w2 + (1 : Int32) := ⟨_, rfl⟩
      replace hf := lt_e hf ev4
      refine v_iinc v4 [(2, .int v4), (1, .int v3), (0, .ref (ad a0))] G dX12_allLost_26 2 rfl (by rw [ev4]; rfl) (by decide) rfl ?_
      refine v_goto 4 G dX12_allLost_29 (by decide) ?_
      refine v_sub _ [2, 1, 0] rfl ?_
      exact ih v3 v4 hf
set_option maxRecDepth 100000 in
set_option maxHeartbeats 4000000 in
theorem c_X12_allLost {l : Launch} {ad : Nat → Nat} {cy : Nat → ClassId} {D : va_G} {z : Nat} (n : Nat) {a0 : Nat} {M : KM} {y : Int32} (h0 : kty a0 = 12) (hf : f_X12_allLost n a0 M = some y) : KC l ad cy D z yX12_allLost cX12_allLost 3 (some .int) 1 [.ref (ad a0)] M (some (.int y), M) := by
  refine kv_enter (by decide +kernel) (Nat.le_of_ble_eq_true rfl) ?_
  intro x hl hD hz G
  subst hl hD hz
  unfold f_X12_allLost at hf
  have G : KG ad cy x cX12_allLost "NoonGuidesModel" 3 (some (some .int)) 1 := G
  show KV ad cy x (some (.int y), M) 0 [(0, .ref (ad a0))] [] M
  refine v_iconst (0 : Int32) G dX12_allLost_0 (by decide) ?_
  refine v_istore_n [(1, .int (0 : Int32)), (0, .ref (ad a0))] G dX12_allLost_1 (by decide) rfl ?_
  refine v_iconst (0 : Int32) G dX12_allLost_2 (by decide) ?_
  refine v_istore_n [(2, .int (0 : Int32)), (1, .int (0 : Int32)), (0, .ref (ad a0))] G dX12_allLost_3 (by decide) rfl ?_
  refine v_sub _ [2, 1, 0] rfl ?_
  refine s_X12_allLost_4 G h0 n (0 : Int32) (0 : Int32) hf
abbrev cX12_peopleThat : ByteArray := prog_14_method_87_code
def yX12_peopleThat : MethodName := ⟨RX12, "peopleThat", "(I)I"⟩
theorem dX12_peopleThat_0 : dc cX12_peopleThat 0 (.iconst 0) 1 1 := ⟨by decide +kernel, rfl⟩
theorem dX12_peopleThat_1 : dc cX12_peopleThat 1 (.istore_n 2) 1 2 := ⟨by decide +kernel, rfl⟩
theorem dX12_peopleThat_2 : dc cX12_peopleThat 2 (.iconst 0) 1 3 := ⟨by decide +kernel, rfl⟩
theorem dX12_peopleThat_3 : dc cX12_peopleThat 3 (.istore_n 3) 1 4 := ⟨by decide +kernel, rfl⟩
theorem dX12_peopleThat_4 : dc cX12_peopleThat 4 (.iload_n 3) 1 5 := ⟨by decide +kernel, rfl⟩
theorem dX12_peopleThat_5 : dc cX12_peopleThat 5 (.aload_n 0) 1 6 := ⟨by decide +kernel, rfl⟩
theorem dX12_peopleThat_6 : dc cX12_peopleThat 6 (.getfield 35) 3 9 := ⟨by decide +kernel, rfl⟩
theorem dX12_peopleThat_9 : dc cX12_peopleThat 9 (.iconst 2) 1 10 := ⟨by decide +kernel, rfl⟩
theorem dX12_peopleThat_10 : dc cX12_peopleThat 10 (.iaload) 1 11 := ⟨by decide +kernel, rfl⟩
theorem dX12_peopleThat_11 : dc cX12_peopleThat 11 (.if_icmp .ge 67) 3 14 := ⟨by decide +kernel, rfl⟩
theorem dX12_peopleThat_14 : dc cX12_peopleThat 14 (.iload_n 2) 1 15 := ⟨by decide +kernel, rfl⟩
theorem dX12_peopleThat_15 : dc cX12_peopleThat 15 (.iload_n 1) 1 16 := ⟨by decide +kernel, rfl⟩
theorem dX12_peopleThat_16 : dc cX12_peopleThat 16 (.ifCond .ne 19) 3 19 := ⟨by decide +kernel, rfl⟩
theorem dX12_peopleThat_19 : dc cX12_peopleThat 19 (.aload_n 0) 1 20 := ⟨by decide +kernel, rfl⟩
theorem dX12_peopleThat_20 : dc cX12_peopleThat 20 (.getfield 35) 3 23 := ⟨by decide +kernel, rfl⟩
theorem dX12_peopleThat_23 : dc cX12_peopleThat 23 (.bipush 106) 2 25 := ⟨by decide +kernel, rfl⟩
theorem dX12_peopleThat_25 : dc cX12_peopleThat 25 (.iload_n 3) 1 26 := ⟨by decide +kernel, rfl⟩
theorem dX12_peopleThat_26 : dc cX12_peopleThat 26 (.iadd) 1 27 := ⟨by decide +kernel, rfl⟩
theorem dX12_peopleThat_27 : dc cX12_peopleThat 27 (.iaload) 1 28 := ⟨by decide +kernel, rfl⟩
theorem dX12_peopleThat_28 : dc cX12_peopleThat 28 (.iconst 1) 1 29 := ⟨by decide +kernel, rfl⟩
theorem dX12_peopleThat_29 : dc cX12_peopleThat 29 (.if_icmp .ne 40) 3 32 := ⟨by decide +kernel, rfl⟩
theorem dX12_peopleThat_32 : dc cX12_peopleThat 32 (.goto 31) 3 35 := ⟨by decide +kernel, rfl⟩
theorem dX12_peopleThat_35 : dc cX12_peopleThat 35 (.iload_n 1) 1 36 := ⟨by decide +kernel, rfl⟩
theorem dX12_peopleThat_36 : dc cX12_peopleThat 36 (.iconst 1) 1 37 := ⟨by decide +kernel, rfl⟩
theorem dX12_peopleThat_37 : dc cX12_peopleThat 37 (.if_icmp .ne 14) 3 40 := ⟨by decide +kernel, rfl⟩
theorem dX12_peopleThat_40 : dc cX12_peopleThat 40 (.aload_n 0) 1 41 := ⟨by decide +kernel, rfl⟩
theorem dX12_peopleThat_41 : dc cX12_peopleThat 41 (.iload_n 3) 1 42 := ⟨by decide +kernel, rfl⟩
theorem dX12_peopleThat_42 : dc cX12_peopleThat 42 (.invokevirtual 350) 3 45 := ⟨by decide +kernel, rfl⟩
theorem dX12_peopleThat_45 : dc cX12_peopleThat 45 (.ifCond .eq 24) 3 48 := ⟨by decide +kernel, rfl⟩
theorem dX12_peopleThat_48 : dc cX12_peopleThat 48 (.goto 15) 3 51 := ⟨by decide +kernel, rfl⟩
theorem dX12_peopleThat_51 : dc cX12_peopleThat 51 (.aload_n 0) 1 52 := ⟨by decide +kernel, rfl⟩
theorem dX12_peopleThat_52 : dc cX12_peopleThat 52 (.getfield 35) 3 55 := ⟨by decide +kernel, rfl⟩
theorem dX12_peopleThat_55 : dc cX12_peopleThat 55 (.bipush 82) 2 57 := ⟨by decide +kernel, rfl⟩
theorem dX12_peopleThat_57 : dc cX12_peopleThat 57 (.iload_n 3) 1 58 := ⟨by decide +kernel, rfl⟩
theorem dX12_peopleThat_58 : dc cX12_peopleThat 58 (.iadd) 1 59 := ⟨by decide +kernel, rfl⟩
theorem dX12_peopleThat_59 : dc cX12_peopleThat 59 (.iaload) 1 60 := ⟨by decide +kernel, rfl⟩
theorem dX12_peopleThat_60 : dc cX12_peopleThat 60 (.ifCond .lt 9) 3 63 := ⟨by decide +kernel, rfl⟩
theorem dX12_peopleThat_63 : dc cX12_peopleThat 63 (.iconst 1) 1 64 := ⟨by decide +kernel, rfl⟩
theorem dX12_peopleThat_64 : dc cX12_peopleThat 64 (.iload_n 3) 1 65 := ⟨by decide +kernel, rfl⟩
theorem dX12_peopleThat_65 : dc cX12_peopleThat 65 (.ishl) 1 66 := ⟨by decide +kernel, rfl⟩
theorem dX12_peopleThat_66 : dc cX12_peopleThat 66 (.goto 4) 3 69 := ⟨by decide +kernel, rfl⟩
theorem dX12_peopleThat_69 : dc cX12_peopleThat 69 (.iconst 0) 1 70 := ⟨by decide +kernel, rfl⟩
theorem dX12_peopleThat_70 : dc cX12_peopleThat 70 (.ior) 1 71 := ⟨by decide +kernel, rfl⟩
theorem dX12_peopleThat_71 : dc cX12_peopleThat 71 (.istore_n 2) 1 72 := ⟨by decide +kernel, rfl⟩
theorem dX12_peopleThat_72 : dc cX12_peopleThat 72 (.iinc 3 1) 3 75 := ⟨by decide +kernel, rfl⟩
theorem dX12_peopleThat_75 : dc cX12_peopleThat 75 (.goto (-71)) 3 78 := ⟨by decide +kernel, rfl⟩
theorem dX12_peopleThat_78 : dc cX12_peopleThat 78 (.iload_n 2) 1 79 := ⟨by decide +kernel, rfl⟩
theorem dX12_peopleThat_79 : dc cX12_peopleThat 79 (.ireturn) 1 80 := ⟨by decide +kernel, rfl⟩
theorem nm_X12_peopleThat : (yX12_peopleThat).cls ≠ "java/lang/invoke/MethodHandle" ∧ (yX12_peopleThat).cls ≠ "java/lang/invoke/VarHandle" ∧ (parseMethodDescriptor (yX12_peopleThat).desc).map (fun d => d.parameters.length) = some 1 := ⟨by decide +kernel, by decide +kernel, by decide +kernel⟩
set_option maxRecDepth 100000 in
set_option maxHeartbeats 4000000 in
theorem s_X12_peopleThat_4 {ad : Nat → Nat} {cy : Nat → ClassId} {x : KX} (G : KG ad cy x cX12_peopleThat "NoonGuidesModel" 4 (some (some .int)) 2) {a0 : Nat} {c1 : Int32} {M : KM} (h0 : kty a0 = 12) {y : Int32} : ∀ (n : Nat) (w2 : Int32) (w3 : Int32), lp_X12_peopleThat_4 n a0 c1 M w2 w3 = some y → KV ad cy x (some (.int y), M) 4 [(0, .ref (ad a0)), (1, .int c1), (2, .int w2), (3, .int w3)] [] M := by
  intro n
  induction n with
  | zero =>
    intro w2 w3 hf
    cases hf
  | succ n ih =>
    intro w2 w3 hf
    rw [lp_X12_peopleThat_4] at hf
    refine v_iload_n G dX12_peopleThat_4 3 rfl ?_
    refine v_aload_n G dX12_peopleThat_5 0 rfl ?_
    refine gf_12_20 G h0 t_1511 (Or.inl rfl) dX12_peopleThat_6 ?_
    refine v_iconst (2 : Int32) G dX12_peopleThat_9 (by decide) ?_
    obtain ⟨g1, hf⟩ := gd_e hf
    refine al_36 G (kf_12_5 h0) g1 dX12_peopleThat_10 ?_
    refine v_icmp_ge 78 G dX12_peopleThat_11 (by decide) (fun h13 => ?_) (fun h13 => ?_)
    · replace hf := (if_pos h13).symm.trans hf
      refine v_iload_n G dX12_peopleThat_78 2 rfl ?_
      obtain rfl := Option.some.inj hf
      exact v_iret G dX12_peopleThat_79
    · replace hf := (if_neg h13).symm.trans hf
      refine v_iload_n G dX12_peopleThat_14 2 rfl ?_
      refine v_iload_n G dX12_peopleThat_15 1 rfl ?_
      obtain ⟨j70, ej70, hf⟩ := lt_j hf
      have hj70 : ∀ (x2 : Int32), j70 x2 = some y → KV ad cy x (some (.int y), M) 70 [(0, .ref (ad a0)), (1, .int c1), (3, .int w3)] [.int x2, .int w2] M := by
        intro x2 hf
        rw [ej70] at hf
        refine v_ior G dX12_peopleThat_70 ?_
        refine v_nmi (fun v3 ev3 => ?_)
        replace hf := lt_e hf ev3
        refine v_istore_n [(2, .int v3), (0, .ref (ad a0)), (1, .int c1), (3, .int w3)] G dX12_peopleThat_71 (by decide) rfl ?_
        obtain ⟨v4, ev4⟩ : ∃ q : Int32, q = w3 + (1 : Int32) := ⟨_, rfl⟩
        replace hf := lt_e hf ev4
        refine v_iinc v4 [(3, .int v4), (2, .int v3), (0, .ref (ad a0)), (1, .int c1)] G dX12_peopleThat_72 3 rfl (by rw [ev4]; rfl) (by decide) rfl ?_
        refine v_goto 4 G dX12_peopleThat_75 (by decide) ?_
        refine v_sub _ [2, 3, 1, 0] rfl ?_
        exact ih v3 v4 hf
      obtain ⟨j69, ej69, hf⟩ := lt_j hf
      have hj69 : j69 = some y → KV ad cy x (some (.int y), M) 69 [(0, .ref (ad a0)), (1, .int c1), (3, .int w3)] [.int w2] M := by
        intro hf
        rw [ej69] at hf
        refine v_iconst (0 : Int32) G dX12_peopleThat_69 (by decide) ?_
        refine v_sub _ [0, 1, 2] rfl ?_
        exact hj70 (0 : Int32) hf
      obtain ⟨j63, ej63, hf⟩ := lt_j hf
      have hj63 : j63 = some y → KV ad cy x (some (.int y), M) 63 [(0, .ref (ad a0)), (1, .int c1), (3, .int w3)] [.int w2] M := by
        intro hf
        rw [ej63] at hf
        refine v_iconst (1 : Int32) G dX12_peopleThat_63 (by decide) ?_
        refine v_iload_n G dX12_peopleThat_64 2 rfl ?_
        refine v_ishl G dX12_peopleThat_65 ?_
        refine v_goto 70 G dX12_peopleThat_66 (by decide) ?_
        refine v_sub _ [0, 1, 2] rfl ?_
        exact hj70 ((1 : Int32) <<< (w3 &&& 31)) hf
      refine v_if_ne 35 G dX12_peopleThat_16 (by decide) (fun h12 => ?_) (fun h12 => ?_)
      · replace hf := (if_neg h12).symm.trans hf
        refine v_iload_n G dX12_peopleThat_35 1 rfl ?_
        refine v_iconst (1 : Int32) G dX12_peopleThat_36 (by decide) ?_
        refine v_icmp_ne 51 G dX12_peopleThat_37 (by decide) (fun h9 => ?_) (fun h9 => ?_)
        · replace hf := (if_neg h9).symm.trans hf
          refine v_aload_n G dX12_peopleThat_51 0 rfl ?_
          refine gf_12_20 G h0 t_1511 (Or.inl rfl) dX12_peopleThat_52 ?_
          refine v_bipush (82 : Int32) G dX12_peopleThat_55 (by decide) ?_
          refine v_iload_n G dX12_peopleThat_57 3 rfl ?_
          refine v_iadd G dX12_peopleThat_58 ?_
          obtain ⟨g5, hf⟩ := gd_e hf
          refine al_36 G (kf_12_5 h0) g5 dX12_peopleThat_59 ?_
          refine v_if_lt 69 G dX12_peopleThat_60 (by decide) (fun h6 => ?_) (fun h6 => ?_)
          · replace hf := (if_pos h6).symm.trans hf
            refine v_sub _ [0, 1, 3] rfl ?_
            exact hj69 hf
          · replace hf := (if_neg h6).symm.trans hf
            refine v_sub _ [0, 1, 3] rfl ?_
            exact hj63 hf
        · replace hf := (if_pos h9).symm.trans hf
          refine v_aload_n G dX12_peopleThat_40 0 rfl ?_
          refine v_iload_n G dX12_peopleThat_41 3 rfl ?_
          obtain ⟨v7, hcv7, hf⟩ := bd_e hf
          refine v_callV [.int w3] G (c_X12_isGoing n h0 hcv7) h0 (by decide) rfl rfl rfl t_1942 t_1944 t_p114 t_17 t_1945 nm_X12_isGoing (by decide) (by decide) rfl rfl (Nat.le_of_ble_eq_true rfl) dX12_peopleThat_42 (kv_ri ?_)
          refine v_if_eq 69 G dX12_peopleThat_45 (by decide) (fun h8 => ?_) (fun h8 => ?_)
          · replace hf := (if_pos h8).symm.trans hf
            refine v_sub _ [0, 1, 3] rfl ?_
            exact hj69 hf
          · replace hf := (if_neg h8).symm.trans hf
            refine v_goto 63 G dX12_peopleThat_48 (by decide) ?_
            refine v_sub _ [0, 1, 3] rfl ?_
            exact hj63 hf
      · replace hf := (if_pos h12).symm.trans hf
        refine v_aload_n G dX12_peopleThat_19 0 rfl ?_
        refine gf_12_20 G h0 t_1511 (Or.inl rfl) dX12_peopleThat_20 ?_
        refine v_bipush (106 : Int32) G dX12_peopleThat_23 (by decide) ?_
        refine v_iload_n G dX12_peopleThat_25 3 rfl ?_
        refine v_iadd G dX12_peopleThat_26 ?_
        obtain ⟨g10, hf⟩ := gd_e hf
        refine al_36 G (kf_12_5 h0) g10 dX12_peopleThat_27 ?_
        refine v_iconst (1 : Int32) G dX12_peopleThat_28 (by decide) ?_
        refine v_icmp_ne 69 G dX12_peopleThat_29 (by decide) (fun h11 => ?_) (fun h11 => ?_)
        · replace hf := (if_neg h11).symm.trans hf
          refine v_sub _ [0, 1, 3] rfl ?_
          exact hj69 hf
        · replace hf := (if_pos h11).symm.trans hf
          refine v_goto 63 G dX12_peopleThat_32 (by decide) ?_
          refine v_sub _ [0, 1, 3] rfl ?_
          exact hj63 hf
set_option maxRecDepth 100000 in
set_option maxHeartbeats 4000000 in
theorem c_X12_peopleThat {l : Launch} {ad : Nat → Nat} {cy : Nat → ClassId} {D : va_G} {z : Nat} (n : Nat) {a0 : Nat} {p1 : Int32} {M : KM} {y : Int32} (h0 : kty a0 = 12) (hf : f_X12_peopleThat n a0 p1 M = some y) : KC l ad cy D z yX12_peopleThat cX12_peopleThat 4 (some .int) 2 [.ref (ad a0), .int p1] M (some (.int y), M) := by
  refine kv_enter (by decide +kernel) (Nat.le_of_ble_eq_true rfl) ?_
  intro x hl hD hz G
  subst hl hD hz
  unfold f_X12_peopleThat at hf
  have G : KG ad cy x cX12_peopleThat "NoonGuidesModel" 4 (some (some .int)) 2 := G
  show KV ad cy x (some (.int y), M) 0 [(0, .ref (ad a0)), (1, .int p1)] [] M
  refine v_iconst (0 : Int32) G dX12_peopleThat_0 (by decide) ?_
  refine v_istore_n [(2, .int (0 : Int32)), (0, .ref (ad a0)), (1, .int p1)] G dX12_peopleThat_1 (by decide) rfl ?_
  refine v_iconst (0 : Int32) G dX12_peopleThat_2 (by decide) ?_
  refine v_istore_n [(3, .int (0 : Int32)), (2, .int (0 : Int32)), (0, .ref (ad a0)), (1, .int p1)] G dX12_peopleThat_3 (by decide) rfl ?_
  refine v_sub _ [2, 3, 1, 0] rfl ?_
  refine s_X12_peopleThat_4 G h0 n (0 : Int32) (0 : Int32) hf
abbrev cX12_many : ByteArray := prog_14_method_88_code
def yX12_many : MethodName := ⟨RX12, "many", "(I)I"⟩
theorem dX12_many_0 : dc cX12_many 0 (.aload_n 0) 1 1 := ⟨by decide +kernel, rfl⟩
theorem dX12_many_1 : dc cX12_many 1 (.iconst 0) 1 2 := ⟨by decide +kernel, rfl⟩
theorem dX12_many_2 : dc cX12_many 2 (.putfield 75) 3 5 := ⟨by decide +kernel, rfl⟩
theorem dX12_many_5 : dc cX12_many 5 (.aload_n 0) 1 6 := ⟨by decide +kernel, rfl⟩
theorem dX12_many_6 : dc cX12_many 6 (.iconst 0) 1 7 := ⟨by decide +kernel, rfl⟩
theorem dX12_many_7 : dc cX12_many 7 (.putfield 78) 3 10 := ⟨by decide +kernel, rfl⟩
theorem dX12_many_10 : dc cX12_many 10 (.iload_n 1) 1 11 := ⟨by decide +kernel, rfl⟩
theorem dX12_many_11 : dc cX12_many 11 (.i2l) 1 12 := ⟨by decide +kernel, rfl⟩
theorem dX12_many_12 : dc cX12_many 12 (.lconst 0) 1 13 := ⟨by decide +kernel, rfl⟩
theorem dX12_many_13 : dc cX12_many 13 (.ldc2_w 353) 3 16 := ⟨by decide +kernel, rfl⟩
theorem dX12_many_16 : dc cX12_many 16 (.invokestatic 110) 3 19 := ⟨by decide +kernel, rfl⟩
theorem dX12_many_19 : dc cX12_many 19 (.ifCond .ne 9) 3 22 := ⟨by decide +kernel, rfl⟩
theorem dX12_many_22 : dc cX12_many 22 (.aload_n 0) 1 23 := ⟨by decide +kernel, rfl⟩
theorem dX12_many_23 : dc cX12_many 23 (.iconst 5) 1 24 := ⟨by decide +kernel, rfl⟩
theorem dX12_many_24 : dc cX12_many 24 (.invokevirtual 355) 3 27 := ⟨by decide +kernel, rfl⟩
theorem dX12_many_27 : dc cX12_many 27 (.ireturn) 1 28 := ⟨by decide +kernel, rfl⟩
theorem dX12_many_28 : dc cX12_many 28 (.iload_n 1) 1 29 := ⟨by decide +kernel, rfl⟩
theorem dX12_many_29 : dc cX12_many 29 (.bipush 9) 2 31 := ⟨by decide +kernel, rfl⟩
theorem dX12_many_31 : dc cX12_many 31 (.if_icmp .ge 10) 3 34 := ⟨by decide +kernel, rfl⟩
theorem dX12_many_34 : dc cX12_many 34 (.aload_n 0) 1 35 := ⟨by decide +kernel, rfl⟩
theorem dX12_many_35 : dc cX12_many 35 (.getfield 35) 3 38 := ⟨by decide +kernel, rfl⟩
theorem dX12_many_38 : dc cX12_many 38 (.iload_n 1) 1 39 := ⟨by decide +kernel, rfl⟩
theorem dX12_many_39 : dc cX12_many 39 (.iaload) 1 40 := ⟨by decide +kernel, rfl⟩
theorem dX12_many_40 : dc cX12_many 40 (.ireturn) 1 41 := ⟨by decide +kernel, rfl⟩
theorem dX12_many_41 : dc cX12_many 41 (.iload_n 1) 1 42 := ⟨by decide +kernel, rfl⟩
theorem dX12_many_42 : dc cX12_many 42 (.bipush 9) 2 44 := ⟨by decide +kernel, rfl⟩
theorem dX12_many_44 : dc cX12_many 44 (.if_icmp .ne 22) 3 47 := ⟨by decide +kernel, rfl⟩
theorem dX12_many_47 : dc cX12_many 47 (.aload_n 0) 1 48 := ⟨by decide +kernel, rfl⟩
theorem dX12_many_48 : dc cX12_many 48 (.aload_n 0) 1 49 := ⟨by decide +kernel, rfl⟩
theorem dX12_many_49 : dc cX12_many 49 (.getfield 35) 3 52 := ⟨by decide +kernel, rfl⟩
theorem dX12_many_52 : dc cX12_many 52 (.iconst 5) 1 53 := ⟨by decide +kernel, rfl⟩
theorem dX12_many_53 : dc cX12_many 53 (.iaload) 1 54 := ⟨by decide +kernel, rfl⟩
theorem dX12_many_54 : dc cX12_many 54 (.invokevirtual 343) 3 57 := ⟨by decide +kernel, rfl⟩
theorem dX12_many_57 : dc cX12_many 57 (.ifCond .eq 7) 3 60 := ⟨by decide +kernel, rfl⟩
theorem dX12_many_60 : dc cX12_many 60 (.iconst 1) 1 61 := ⟨by decide +kernel, rfl⟩
theorem dX12_many_61 : dc cX12_many 61 (.goto 4) 3 64 := ⟨by decide +kernel, rfl⟩
theorem dX12_many_64 : dc cX12_many 64 (.iconst 0) 1 65 := ⟨by decide +kernel, rfl⟩
theorem dX12_many_65 : dc cX12_many 65 (.ireturn) 1 66 := ⟨by decide +kernel, rfl⟩
theorem dX12_many_66 : dc cX12_many 66 (.iload_n 1) 1 67 := ⟨by decide +kernel, rfl⟩
theorem dX12_many_67 : dc cX12_many 67 (.bipush 10) 2 69 := ⟨by decide +kernel, rfl⟩
theorem dX12_many_69 : dc cX12_many 69 (.if_icmp .ne 13) 3 72 := ⟨by decide +kernel, rfl⟩
theorem dX12_many_72 : dc cX12_many 72 (.aload_n 0) 1 73 := ⟨by decide +kernel, rfl⟩
theorem dX12_many_73 : dc cX12_many 73 (.getfield 35) 3 76 := ⟨by decide +kernel, rfl⟩
theorem dX12_many_76 : dc cX12_many 76 (.bipush 9) 2 78 := ⟨by decide +kernel, rfl⟩
theorem dX12_many_78 : dc cX12_many 78 (.iaload) 1 79 := ⟨by decide +kernel, rfl⟩
theorem dX12_many_79 : dc cX12_many 79 (.goto 24) 3 82 := ⟨by decide +kernel, rfl⟩
theorem dX12_many_82 : dc cX12_many 82 (.iload_n 1) 1 83 := ⟨by decide +kernel, rfl⟩
theorem dX12_many_83 : dc cX12_many 83 (.bipush 14) 2 85 := ⟨by decide +kernel, rfl⟩
theorem dX12_many_85 : dc cX12_many 85 (.if_icmp .ne 10) 3 88 := ⟨by decide +kernel, rfl⟩
theorem dX12_many_88 : dc cX12_many 88 (.aload_n 0) 1 89 := ⟨by decide +kernel, rfl⟩
theorem dX12_many_89 : dc cX12_many 89 (.invokevirtual 358) 3 92 := ⟨by decide +kernel, rfl⟩
theorem dX12_many_92 : dc cX12_many 92 (.goto 11) 3 95 := ⟨by decide +kernel, rfl⟩
theorem dX12_many_95 : dc cX12_many 95 (.aload_n 0) 1 96 := ⟨by decide +kernel, rfl⟩
theorem dX12_many_96 : dc cX12_many 96 (.iload_n 1) 1 97 := ⟨by decide +kernel, rfl⟩
theorem dX12_many_97 : dc cX12_many 97 (.bipush 11) 2 99 := ⟨by decide +kernel, rfl⟩
theorem dX12_many_99 : dc cX12_many 99 (.isub) 1 100 := ⟨by decide +kernel, rfl⟩
theorem dX12_many_100 : dc cX12_many 100 (.invokevirtual 361) 3 103 := ⟨by decide +kernel, rfl⟩
theorem dX12_many_103 : dc cX12_many 103 (.ireturn) 1 104 := ⟨by decide +kernel, rfl⟩
theorem nm_X12_many : (yX12_many).cls ≠ "java/lang/invoke/MethodHandle" ∧ (yX12_many).cls ≠ "java/lang/invoke/VarHandle" ∧ (parseMethodDescriptor (yX12_many).desc).map (fun d => d.parameters.length) = some 1 := ⟨by decide +kernel, by decide +kernel, by decide +kernel⟩
set_option maxRecDepth 100000 in
set_option maxHeartbeats 4000000 in
theorem c_X12_many {l : Launch} {ad : Nat → Nat} {cy : Nat → ClassId} {D : va_G} {z : Nat} (n : Nat) {a0 : Nat} {p1 : Int32} {M : KM} {y : (Int32 × KM)} (h0 : kty a0 = 12) (hf : f_X12_many n a0 p1 M = some y) : KC l ad cy D z yX12_many cX12_many 2 (some .int) 3 [.ref (ad a0), .int p1] M (some (.int y.1), y.2) := by
  refine kv_enter (by decide +kernel) (Nat.le_of_ble_eq_true rfl) ?_
  intro x hl hD hz G
  subst hl hD hz
  unfold f_X12_many at hf
  have G : KG ad cy x cX12_many "NoonGuidesModel" 2 (some (some .int)) 3 := G
  show KV ad cy x (some (.int y.1), y.2) 0 [(0, .ref (ad a0)), (1, .int p1)] [] M
  refine v_aload_n G dX12_many_0 0 rfl ?_
  refine v_iconst (0 : Int32) G dX12_many_1 (by decide) ?_
  refine pf_12_1 G h0 t_1492 (Or.inl rfl) dX12_many_2 ?_
  refine v_nmM (fun M1 eM1 => ?_)
  replace hf := lt_e hf eM1
  refine v_aload_n G dX12_many_5 0 rfl ?_
  refine v_iconst (0 : Int32) G dX12_many_6 (by decide) ?_
  refine pf_12_0 G h0 t_1491 (Or.inl rfl) dX12_many_7 ?_
  refine v_nmM (fun M2 eM2 => ?_)
  replace hf := lt_e hf eM2
  refine v_iload_n G dX12_many_10 1 rfl ?_
  refine v_i2l G dX12_many_11 ?_
  refine v_lconst (0 : Int64) G dX12_many_12 (by decide) ?_
  refine v_ldc2 G dX12_many_13 t_1925 ?_
  obtain ⟨v3, hcv3⟩ : ∃ q, f_X12_isIn (p1).toInt64 (0 : Int64) (14 : Int64) M2 = q := ⟨_, rfl⟩
  replace hf := lt_e hf hcv3.symm
  refine v_callS [.long (p1).toInt64, .long (0 : Int64), .long (14 : Int64)] G (c_X12_isIn hcv3) t_1755 t_1756 t_17 t_1757 nm_X12_isIn (by decide) (by decide) rfl rfl (Nat.le_of_ble_eq_true rfl) dX12_many_16 (kv_ri ?_)
  refine v_if_ne 28 G dX12_many_19 (by decide) (fun h16 => ?_) (fun h16 => ?_)
  · replace hf := (if_neg h16).symm.trans hf
    refine v_iload_n G dX12_many_28 1 rfl ?_
    refine v_bipush (9 : Int32) G dX12_many_29 (by decide) ?_
    refine v_icmp_ge 41 G dX12_many_31 (by decide) (fun h14 => ?_) (fun h14 => ?_)
    · replace hf := (if_pos h14).symm.trans hf
      refine v_iload_n G dX12_many_41 1 rfl ?_
      refine v_bipush (9 : Int32) G dX12_many_42 (by decide) ?_
      refine v_icmp_ne 66 G dX12_many_44 (by decide) (fun h12 => ?_) (fun h12 => ?_)
      · replace hf := (if_neg h12).symm.trans hf
        refine v_iload_n G dX12_many_66 1 rfl ?_
        refine v_bipush (10 : Int32) G dX12_many_67 (by decide) ?_
        refine v_icmp_ne 82 G dX12_many_69 (by decide) (fun h8 => ?_) (fun h8 => ?_)
        · replace hf := (if_neg h8).symm.trans hf
          refine v_iload_n G dX12_many_82 1 rfl ?_
          refine v_bipush (14 : Int32) G dX12_many_83 (by decide) ?_
          refine v_icmp_ne 95 G dX12_many_85 (by decide) (fun h6 => ?_) (fun h6 => ?_)
          · replace hf := (if_neg h6).symm.trans hf
            refine v_aload_n G dX12_many_95 0 rfl ?_
            refine v_iload_n G dX12_many_96 1 rfl ?_
            refine v_bipush (11 : Int32) G dX12_many_97 (by decide) ?_
            refine v_isub G dX12_many_99 ?_
            obtain ⟨v4, hcv4, hf⟩ := bd_e hf
            refine v_callV [.int (p1 - (11 : Int32))] G (c_X12_peopleThat n h0 hcv4) h0 (by decide) rfl rfl rfl t_1938 t_1940 t_p113 t_17 t_1941 nm_X12_peopleThat (by decide) (by decide) rfl rfl (Nat.le_of_ble_eq_true rfl) dX12_many_100 (kv_ri ?_)
            obtain rfl := Option.some.inj hf
            exact v_iret G dX12_many_103
          · replace hf := (if_pos h6).symm.trans hf
            refine v_aload_n G dX12_many_88 0 rfl ?_
            obtain ⟨v5, hcv5, hf⟩ := bd_e hf
            refine v_callV [] G (c_X12_allLost n h0 hcv5) h0 (by decide) rfl rfl rfl t_1934 t_1936 t_p112 t_17 t_1937 nm_X12_allLost (by decide) (by decide) rfl rfl (Nat.le_of_ble_eq_true rfl) dX12_many_89 (kv_ri ?_)
            refine v_goto 103 G dX12_many_92 (by decide) ?_
            obtain rfl := Option.some.inj hf
            exact v_iret G dX12_many_103
        · replace hf := (if_pos h8).symm.trans hf
          refine v_aload_n G dX12_many_72 0 rfl ?_
          refine gf_12_20 G h0 t_1511 (Or.inl rfl) dX12_many_73 ?_
          refine v_bipush (9 : Int32) G dX12_many_76 (by decide) ?_
          obtain ⟨g7, hf⟩ := gd_e hf
          refine al_36 G (kf_12_5 h0) g7 dX12_many_78 ?_
          refine v_goto 103 G dX12_many_79 (by decide) ?_
          obtain rfl := Option.some.inj hf
          exact v_iret G dX12_many_103
      · replace hf := (if_pos h12).symm.trans hf
        refine v_aload_n G dX12_many_47 0 rfl ?_
        refine v_aload_n G dX12_many_48 0 rfl ?_
        refine gf_12_20 G h0 t_1511 (Or.inl rfl) dX12_many_49 ?_
        refine v_iconst (5 : Int32) G dX12_many_52 (by decide) ?_
        obtain ⟨g9, hf⟩ := gd_e hf
        refine al_36 G (kf_12_5 h0) g9 dX12_many_53 ?_
        obtain ⟨v10, hcv10, hf⟩ := bd_e hf
        refine v_callV [.int (M2.1 (a0 + 5) ((5 : Int32)).toNatClampNeg)] G (c_X12_glares n h0 hcv10) h0 (by decide) rfl rfl rfl t_1930 t_1932 t_p111 t_17 t_1933 nm_X12_glares (by decide) (by decide) rfl rfl (Nat.le_of_ble_eq_true rfl) dX12_many_54 (kv_ri ?_)
        refine v_if_eq 64 G dX12_many_57 (by decide) (fun h11 => ?_) (fun h11 => ?_)
        · replace hf := (if_pos h11).symm.trans hf
          refine v_iconst (0 : Int32) G dX12_many_64 (by decide) ?_
          obtain rfl := Option.some.inj hf
          exact v_iret G dX12_many_65
        · replace hf := (if_neg h11).symm.trans hf
          refine v_iconst (1 : Int32) G dX12_many_60 (by decide) ?_
          refine v_goto 65 G dX12_many_61 (by decide) ?_
          obtain rfl := Option.some.inj hf
          exact v_iret G dX12_many_65
    · replace hf := (if_neg h14).symm.trans hf
      refine v_aload_n G dX12_many_34 0 rfl ?_
      refine gf_12_20 G h0 t_1511 (Or.inl rfl) dX12_many_35 ?_
      refine v_iload_n G dX12_many_38 1 rfl ?_
      obtain ⟨g13, hf⟩ := gd_e hf
      refine al_36 G (kf_12_5 h0) g13 dX12_many_39 ?_
      obtain rfl := Option.some.inj hf
      exact v_iret G dX12_many_40
  · replace hf := (if_pos h16).symm.trans hf
    refine v_aload_n G dX12_many_22 0 rfl ?_
    refine v_iconst (5 : Int32) G dX12_many_23 (by decide) ?_
    obtain ⟨v15, hcv15⟩ : ∃ q, f_X12_refuse a0 (5 : Int32) M2 = q := ⟨_, rfl⟩
    replace hf := lt_e hf hcv15.symm
    refine v_callV [.int (5 : Int32)] G (c_X12_refuse h0 hcv15) h0 (by decide) rfl rfl rfl t_1926 t_1928 t_p110 t_17 t_1929 nm_X12_refuse (by decide) (by decide) rfl rfl (Nat.le_of_ble_eq_true rfl) dX12_many_24 (kv_ri ?_)
    obtain rfl := Option.some.inj hf
    exact v_iret G dX12_many_27
abbrev cX12_road : ByteArray := prog_14_method_89_code
def yX12_road : MethodName := ⟨RX12, "road", "(II)I"⟩
theorem dX12_road_0 : dc cX12_road 0 (.aload_n 0) 1 1 := ⟨by decide +kernel, rfl⟩
theorem dX12_road_1 : dc cX12_road 1 (.iconst 0) 1 2 := ⟨by decide +kernel, rfl⟩
theorem dX12_road_2 : dc cX12_road 2 (.putfield 75) 3 5 := ⟨by decide +kernel, rfl⟩
theorem dX12_road_5 : dc cX12_road 5 (.aload_n 0) 1 6 := ⟨by decide +kernel, rfl⟩
theorem dX12_road_6 : dc cX12_road 6 (.iconst 0) 1 7 := ⟨by decide +kernel, rfl⟩
theorem dX12_road_7 : dc cX12_road 7 (.putfield 78) 3 10 := ⟨by decide +kernel, rfl⟩
theorem dX12_road_10 : dc cX12_road 10 (.aload_n 0) 1 11 := ⟨by decide +kernel, rfl⟩
theorem dX12_road_11 : dc cX12_road 11 (.iload_n 1) 1 12 := ⟨by decide +kernel, rfl⟩
theorem dX12_road_12 : dc cX12_road 12 (.invokevirtual 364) 3 15 := ⟨by decide +kernel, rfl⟩
theorem dX12_road_15 : dc cX12_road 15 (.ifCond .ne 9) 3 18 := ⟨by decide +kernel, rfl⟩
theorem dX12_road_18 : dc cX12_road 18 (.aload_n 0) 1 19 := ⟨by decide +kernel, rfl⟩
theorem dX12_road_19 : dc cX12_road 19 (.iconst 2) 1 20 := ⟨by decide +kernel, rfl⟩
theorem dX12_road_20 : dc cX12_road 20 (.invokevirtual 355) 3 23 := ⟨by decide +kernel, rfl⟩
theorem dX12_road_23 : dc cX12_road 23 (.ireturn) 1 24 := ⟨by decide +kernel, rfl⟩
theorem dX12_road_24 : dc cX12_road 24 (.iload_n 2) 1 25 := ⟨by decide +kernel, rfl⟩
theorem dX12_road_25 : dc cX12_road 25 (.i2l) 1 26 := ⟨by decide +kernel, rfl⟩
theorem dX12_road_26 : dc cX12_road 26 (.lconst 0) 1 27 := ⟨by decide +kernel, rfl⟩
theorem dX12_road_27 : dc cX12_road 27 (.ldc2_w 108) 3 30 := ⟨by decide +kernel, rfl⟩
theorem dX12_road_30 : dc cX12_road 30 (.invokestatic 110) 3 33 := ⟨by decide +kernel, rfl⟩
theorem dX12_road_33 : dc cX12_road 33 (.ifCond .eq 20) 3 36 := ⟨by decide +kernel, rfl⟩
theorem dX12_road_36 : dc cX12_road 36 (.aload_n 0) 1 37 := ⟨by decide +kernel, rfl⟩
theorem dX12_road_37 : dc cX12_road 37 (.getfield 35) 3 40 := ⟨by decide +kernel, rfl⟩
theorem dX12_road_40 : dc cX12_road 40 (.bipush 10) 2 42 := ⟨by decide +kernel, rfl⟩
theorem dX12_road_42 : dc cX12_road 42 (.bipush 12) 2 44 := ⟨by decide +kernel, rfl⟩
theorem dX12_road_44 : dc cX12_road 44 (.iload_n 2) 1 45 := ⟨by decide +kernel, rfl⟩
theorem dX12_road_45 : dc cX12_road 45 (.imul) 1 46 := ⟨by decide +kernel, rfl⟩
theorem dX12_road_46 : dc cX12_road 46 (.iadd) 1 47 := ⟨by decide +kernel, rfl⟩
theorem dX12_road_47 : dc cX12_road 47 (.iload_n 1) 1 48 := ⟨by decide +kernel, rfl⟩
theorem dX12_road_48 : dc cX12_road 48 (.iadd) 1 49 := ⟨by decide +kernel, rfl⟩
theorem dX12_road_49 : dc cX12_road 49 (.iaload) 1 50 := ⟨by decide +kernel, rfl⟩
theorem dX12_road_50 : dc cX12_road 50 (.goto 8) 3 53 := ⟨by decide +kernel, rfl⟩
theorem dX12_road_53 : dc cX12_road 53 (.aload_n 0) 1 54 := ⟨by decide +kernel, rfl⟩
theorem dX12_road_54 : dc cX12_road 54 (.iconst 5) 1 55 := ⟨by decide +kernel, rfl⟩
theorem dX12_road_55 : dc cX12_road 55 (.invokevirtual 355) 3 58 := ⟨by decide +kernel, rfl⟩
theorem dX12_road_58 : dc cX12_road 58 (.ireturn) 1 59 := ⟨by decide +kernel, rfl⟩
theorem nm_X12_road : (yX12_road).cls ≠ "java/lang/invoke/MethodHandle" ∧ (yX12_road).cls ≠ "java/lang/invoke/VarHandle" ∧ (parseMethodDescriptor (yX12_road).desc).map (fun d => d.parameters.length) = some 2 := ⟨by decide +kernel, by decide +kernel, by decide +kernel⟩
set_option maxRecDepth 100000 in
set_option maxHeartbeats 4000000 in
theorem c_X12_road {l : Launch} {ad : Nat → Nat} {cy : Nat → ClassId} {D : va_G} {z : Nat} (n : Nat) {a0 : Nat} {p1 : Int32} {p2 : Int32} {M : KM} {y : (Int32 × KM)} (h0 : kty a0 = 12) (hf : f_X12_road n a0 p1 p2 M = some y) : KC l ad cy D z yX12_road cX12_road 3 (some .int) 3 [.ref (ad a0), .int p1, .int p2] M (some (.int y.1), y.2) := by
  refine kv_enter (by decide +kernel) (Nat.le_of_ble_eq_true rfl) ?_
  intro x hl hD hz G
  subst hl hD hz
  unfold f_X12_road at hf
  have G : KG ad cy x cX12_road "NoonGuidesModel" 3 (some (some .int)) 3 := G
  show KV ad cy x (some (.int y.1), y.2) 0 [(0, .ref (ad a0)), (1, .int p1), (2, .int p2)] [] M
  refine v_aload_n G dX12_road_0 0 rfl ?_
  refine v_iconst (0 : Int32) G dX12_road_1 (by decide) ?_
  refine pf_12_1 G h0 t_1492 (Or.inl rfl) dX12_road_2 ?_
  refine v_nmM (fun M1 eM1 => ?_)
  replace hf := lt_e hf eM1
  refine v_aload_n G dX12_road_5 0 rfl ?_
  refine v_iconst (0 : Int32) G dX12_road_6 (by decide) ?_
  refine pf_12_0 G h0 t_1491 (Or.inl rfl) dX12_road_7 ?_
  refine v_nmM (fun M2 eM2 => ?_)
  replace hf := lt_e hf eM2
  refine v_aload_n G dX12_road_10 0 rfl ?_
  refine v_iload_n G dX12_road_11 1 rfl ?_
  obtain ⟨v3, hcv3, hf⟩ := bd_e hf
  refine v_callV [.int p1] G (c_X12_isRoadAt n h0 hcv3) h0 (by decide) rfl rfl rfl t_1950 t_1952 t_p115 t_17 t_1953 nm_X12_isRoadAt (by decide) (by decide) rfl rfl (Nat.le_of_ble_eq_true rfl) dX12_road_12 (kv_ri ?_)
  refine v_if_ne 24 G dX12_road_15 (by decide) (fun h9 => ?_) (fun h9 => ?_)
  · replace hf := (if_neg h9).symm.trans hf
    refine v_iload_n G dX12_road_24 2 rfl ?_
    refine v_i2l G dX12_road_25 ?_
    refine v_lconst (0 : Int64) G dX12_road_26 (by decide) ?_
    refine v_ldc2 G dX12_road_27 t_1954 ?_
    obtain ⟨v4, hcv4⟩ : ∃ q, f_X12_isIn (p2).toInt64 (0 : Int64) (3 : Int64) M2 = q := ⟨_, rfl⟩
    replace hf := lt_e hf hcv4.symm
    refine v_callS [.long (p2).toInt64, .long (0 : Int64), .long (3 : Int64)] G (c_X12_isIn hcv4) t_1755 t_1756 t_17 t_1757 nm_X12_isIn (by decide) (by decide) rfl rfl (Nat.le_of_ble_eq_true rfl) dX12_road_30 (kv_ri ?_)
    refine v_if_eq 53 G dX12_road_33 (by decide) (fun h7 => ?_) (fun h7 => ?_)
    · replace hf := (if_pos h7).symm.trans hf
      refine v_aload_n G dX12_road_53 0 rfl ?_
      refine v_iconst (5 : Int32) G dX12_road_54 (by decide) ?_
      obtain ⟨v5, hcv5⟩ : ∃ q, f_X12_refuse a0 (5 : Int32) M2 = q := ⟨_, rfl⟩
      replace hf := lt_e hf hcv5.symm
      refine v_callV [.int (5 : Int32)] G (c_X12_refuse h0 hcv5) h0 (by decide) rfl rfl rfl t_1926 t_1928 t_p110 t_17 t_1929 nm_X12_refuse (by decide) (by decide) rfl rfl (Nat.le_of_ble_eq_true rfl) dX12_road_55 (kv_ri ?_)
      obtain rfl := Option.some.inj hf
      exact v_iret G dX12_road_58
    · replace hf := (if_neg h7).symm.trans hf
      refine v_aload_n G dX12_road_36 0 rfl ?_
      refine gf_12_20 G h0 t_1511 (Or.inl rfl) dX12_road_37 ?_
      refine v_bipush (10 : Int32) G dX12_road_40 (by decide) ?_
      refine v_bipush (12 : Int32) G dX12_road_42 (by decide) ?_
      refine v_iload_n G dX12_road_44 2 rfl ?_
      refine v_imul G dX12_road_45 ?_
      refine v_iadd G dX12_road_46 ?_
      refine v_iload_n G dX12_road_47 1 rfl ?_
      refine v_iadd G dX12_road_48 ?_
      obtain ⟨g6, hf⟩ := gd_e hf
      refine al_36 G (kf_12_5 h0) g6 dX12_road_49 ?_
      refine v_goto 58 G dX12_road_50 (by decide) ?_
      obtain rfl := Option.some.inj hf
      exact v_iret G dX12_road_58
  · replace hf := (if_pos h9).symm.trans hf
    refine v_aload_n G dX12_road_18 0 rfl ?_
    refine v_iconst (2 : Int32) G dX12_road_19 (by decide) ?_
    obtain ⟨v8, hcv8⟩ : ∃ q, f_X12_refuse a0 (2 : Int32) M2 = q := ⟨_, rfl⟩
    replace hf := lt_e hf hcv8.symm
    refine v_callV [.int (2 : Int32)] G (c_X12_refuse h0 hcv8) h0 (by decide) rfl rfl rfl t_1926 t_1928 t_p110 t_17 t_1929 nm_X12_refuse (by decide) (by decide) rfl rfl (Nat.le_of_ble_eq_true rfl) dX12_road_20 (kv_ri ?_)
    obtain rfl := Option.some.inj hf
    exact v_iret G dX12_road_23
abbrev cX12_between : ByteArray := prog_14_method_90_code
def yX12_between : MethodName := ⟨RX12, "between", "(II)I"⟩
theorem dX12_between_0 : dc cX12_between 0 (.iload_n 1) 1 1 := ⟨by decide +kernel, rfl⟩
theorem dX12_between_1 : dc cX12_between 1 (.iload_n 2) 1 2 := ⟨by decide +kernel, rfl⟩
theorem dX12_between_2 : dc cX12_between 2 (.if_icmp .ne 7) 3 5 := ⟨by decide +kernel, rfl⟩
theorem dX12_between_5 : dc cX12_between 5 (.iconst (-1)) 1 6 := ⟨by decide +kernel, rfl⟩
theorem dX12_between_6 : dc cX12_between 6 (.goto 10) 3 9 := ⟨by decide +kernel, rfl⟩
theorem dX12_between_9 : dc cX12_between 9 (.aload_n 0) 1 10 := ⟨by decide +kernel, rfl⟩
theorem dX12_between_10 : dc cX12_between 10 (.iconst 0) 1 11 := ⟨by decide +kernel, rfl⟩
theorem dX12_between_11 : dc cX12_between 11 (.iload_n 1) 1 12 := ⟨by decide +kernel, rfl⟩
theorem dX12_between_12 : dc cX12_between 12 (.iload_n 2) 1 13 := ⟨by decide +kernel, rfl⟩
theorem dX12_between_13 : dc cX12_between 13 (.invokevirtual 284) 3 16 := ⟨by decide +kernel, rfl⟩
theorem dX12_between_16 : dc cX12_between 16 (.ireturn) 1 17 := ⟨by decide +kernel, rfl⟩
theorem nm_X12_between : (yX12_between).cls ≠ "java/lang/invoke/MethodHandle" ∧ (yX12_between).cls ≠ "java/lang/invoke/VarHandle" ∧ (parseMethodDescriptor (yX12_between).desc).map (fun d => d.parameters.length) = some 2 := ⟨by decide +kernel, by decide +kernel, by decide +kernel⟩
set_option maxRecDepth 100000 in
set_option maxHeartbeats 4000000 in
theorem c_X12_between {l : Launch} {ad : Nat → Nat} {cy : Nat → ClassId} {D : va_G} {z : Nat} (n : Nat) {a0 : Nat} {p1 : Int32} {p2 : Int32} {M : KM} {y : Int32} (h0 : kty a0 = 12) (hf : f_X12_between n a0 p1 p2 M = some y) : KC l ad cy D z yX12_between cX12_between 3 (some .int) 2 [.ref (ad a0), .int p1, .int p2] M (some (.int y), M) := by
  refine kv_enter (by decide +kernel) (Nat.le_of_ble_eq_true rfl) ?_
  intro x hl hD hz G
  subst hl hD hz
  unfold f_X12_between at hf
  have G : KG ad cy x cX12_between "NoonGuidesModel" 3 (some (some .int)) 2 := G
  show KV ad cy x (some (.int y), M) 0 [(0, .ref (ad a0)), (1, .int p1), (2, .int p2)] [] M
  refine v_iload_n G dX12_between_0 1 rfl ?_
  refine v_iload_n G dX12_between_1 2 rfl ?_
  refine v_icmp_ne 9 G dX12_between_2 (by decide) (fun h2 => ?_) (fun h2 => ?_)
  · replace hf := (if_neg h2).symm.trans hf
    refine v_aload_n G dX12_between_9 0 rfl ?_
    refine v_iconst (0 : Int32) G dX12_between_10 (by decide) ?_
    refine v_iload_n G dX12_between_11 1 rfl ?_
    refine v_iload_n G dX12_between_12 2 rfl ?_
    obtain ⟨v1, hcv1, hf⟩ := bd_e hf
    refine v_callV [.int (0 : Int32), .int p1, .int p2] G (c_X12_roadBy n h0 hcv1) h0 (by decide) rfl rfl rfl t_1869 t_1871 t_p98 t_17 t_1872 nm_X12_roadBy (by decide) (by decide) rfl rfl (Nat.le_of_ble_eq_true rfl) dX12_between_13 (kv_ri ?_)
    obtain rfl := Option.some.inj hf
    exact v_iret G dX12_between_16
  · replace hf := (if_pos h2).symm.trans hf
    refine v_iconst (-1 : Int32) G dX12_between_5 (by decide) ?_
    refine v_goto 16 G dX12_between_6 (by decide) ?_
    obtain rfl := Option.some.inj hf
    exact v_iret G dX12_between_16
abbrev cX12_roadOf : ByteArray := prog_14_method_91_code
def yX12_roadOf : MethodName := ⟨RX12, "roadOf", "(II)I"⟩
theorem dX12_roadOf_0 : dc cX12_roadOf 0 (.aload_n 0) 1 1 := ⟨by decide +kernel, rfl⟩
theorem dX12_roadOf_1 : dc cX12_roadOf 1 (.iconst 0) 1 2 := ⟨by decide +kernel, rfl⟩
theorem dX12_roadOf_2 : dc cX12_roadOf 2 (.putfield 75) 3 5 := ⟨by decide +kernel, rfl⟩
theorem dX12_roadOf_5 : dc cX12_roadOf 5 (.aload_n 0) 1 6 := ⟨by decide +kernel, rfl⟩
theorem dX12_roadOf_6 : dc cX12_roadOf 6 (.iconst 0) 1 7 := ⟨by decide +kernel, rfl⟩
theorem dX12_roadOf_7 : dc cX12_roadOf 7 (.putfield 78) 3 10 := ⟨by decide +kernel, rfl⟩
theorem dX12_roadOf_10 : dc cX12_roadOf 10 (.aload_n 0) 1 11 := ⟨by decide +kernel, rfl⟩
theorem dX12_roadOf_11 : dc cX12_roadOf 11 (.iload_n 1) 1 12 := ⟨by decide +kernel, rfl⟩
theorem dX12_roadOf_12 : dc cX12_roadOf 12 (.invokevirtual 367) 3 15 := ⟨by decide +kernel, rfl⟩
theorem dX12_roadOf_15 : dc cX12_roadOf 15 (.ifCond .eq 11) 3 18 := ⟨by decide +kernel, rfl⟩
theorem dX12_roadOf_18 : dc cX12_roadOf 18 (.aload_n 0) 1 19 := ⟨by decide +kernel, rfl⟩
theorem dX12_roadOf_19 : dc cX12_roadOf 19 (.iload_n 2) 1 20 := ⟨by decide +kernel, rfl⟩
theorem dX12_roadOf_20 : dc cX12_roadOf 20 (.invokevirtual 367) 3 23 := ⟨by decide +kernel, rfl⟩
theorem dX12_roadOf_23 : dc cX12_roadOf 23 (.ifCond .ne 9) 3 26 := ⟨by decide +kernel, rfl⟩
theorem dX12_roadOf_26 : dc cX12_roadOf 26 (.aload_n 0) 1 27 := ⟨by decide +kernel, rfl⟩
theorem dX12_roadOf_27 : dc cX12_roadOf 27 (.iconst 2) 1 28 := ⟨by decide +kernel, rfl⟩
theorem dX12_roadOf_28 : dc cX12_roadOf 28 (.invokevirtual 355) 3 31 := ⟨by decide +kernel, rfl⟩
theorem dX12_roadOf_31 : dc cX12_roadOf 31 (.ireturn) 1 32 := ⟨by decide +kernel, rfl⟩
theorem dX12_roadOf_32 : dc cX12_roadOf 32 (.aload_n 0) 1 33 := ⟨by decide +kernel, rfl⟩
theorem dX12_roadOf_33 : dc cX12_roadOf 33 (.iload_n 1) 1 34 := ⟨by decide +kernel, rfl⟩
theorem dX12_roadOf_34 : dc cX12_roadOf 34 (.iload_n 2) 1 35 := ⟨by decide +kernel, rfl⟩
theorem dX12_roadOf_35 : dc cX12_roadOf 35 (.invokevirtual 370) 3 38 := ⟨by decide +kernel, rfl⟩
theorem dX12_roadOf_38 : dc cX12_roadOf 38 (.istore_n 3) 1 39 := ⟨by decide +kernel, rfl⟩
theorem dX12_roadOf_39 : dc cX12_roadOf 39 (.iload_n 3) 1 40 := ⟨by decide +kernel, rfl⟩
theorem dX12_roadOf_40 : dc cX12_roadOf 40 (.ifCond .ge 12) 3 43 := ⟨by decide +kernel, rfl⟩
theorem dX12_roadOf_43 : dc cX12_roadOf 43 (.aload_n 0) 1 44 := ⟨by decide +kernel, rfl⟩
theorem dX12_roadOf_44 : dc cX12_roadOf 44 (.bipush 8) 2 46 := ⟨by decide +kernel, rfl⟩
theorem dX12_roadOf_46 : dc cX12_roadOf 46 (.invokevirtual 355) 3 49 := ⟨by decide +kernel, rfl⟩
theorem dX12_roadOf_49 : dc cX12_roadOf 49 (.goto 4) 3 52 := ⟨by decide +kernel, rfl⟩
theorem dX12_roadOf_52 : dc cX12_roadOf 52 (.iload_n 3) 1 53 := ⟨by decide +kernel, rfl⟩
theorem dX12_roadOf_53 : dc cX12_roadOf 53 (.ireturn) 1 54 := ⟨by decide +kernel, rfl⟩
theorem nm_X12_roadOf : (yX12_roadOf).cls ≠ "java/lang/invoke/MethodHandle" ∧ (yX12_roadOf).cls ≠ "java/lang/invoke/VarHandle" ∧ (parseMethodDescriptor (yX12_roadOf).desc).map (fun d => d.parameters.length) = some 2 := ⟨by decide +kernel, by decide +kernel, by decide +kernel⟩
set_option maxRecDepth 100000 in
set_option maxHeartbeats 4000000 in
theorem c_X12_roadOf {l : Launch} {ad : Nat → Nat} {cy : Nat → ClassId} {D : va_G} {z : Nat} (n : Nat) {a0 : Nat} {p1 : Int32} {p2 : Int32} {M : KM} {y : (Int32 × KM)} (h0 : kty a0 = 12) (hf : f_X12_roadOf n a0 p1 p2 M = some y) : KC l ad cy D z yX12_roadOf cX12_roadOf 4 (some .int) 3 [.ref (ad a0), .int p1, .int p2] M (some (.int y.1), y.2) := by
  refine kv_enter (by decide +kernel) (Nat.le_of_ble_eq_true rfl) ?_
  intro x hl hD hz G
  subst hl hD hz
  unfold f_X12_roadOf at hf
  have G : KG ad cy x cX12_roadOf "NoonGuidesModel" 4 (some (some .int)) 3 := G
  show KV ad cy x (some (.int y.1), y.2) 0 [(0, .ref (ad a0)), (1, .int p1), (2, .int p2)] [] M
  refine v_aload_n G dX12_roadOf_0 0 rfl ?_
  refine v_iconst (0 : Int32) G dX12_roadOf_1 (by decide) ?_
  refine pf_12_1 G h0 t_1492 (Or.inl rfl) dX12_roadOf_2 ?_
  refine v_nmM (fun M1 eM1 => ?_)
  replace hf := lt_e hf eM1
  refine v_aload_n G dX12_roadOf_5 0 rfl ?_
  refine v_iconst (0 : Int32) G dX12_roadOf_6 (by decide) ?_
  refine pf_12_0 G h0 t_1491 (Or.inl rfl) dX12_roadOf_7 ?_
  refine v_nmM (fun M2 eM2 => ?_)
  replace hf := lt_e hf eM2
  refine v_aload_n G dX12_roadOf_10 0 rfl ?_
  refine v_iload_n G dX12_roadOf_11 1 rfl ?_
  obtain ⟨v3, hcv3, hf⟩ := bd_e hf
  refine v_callV [.int p1] G (c_X12_isPlaceAt n h0 hcv3) h0 (by decide) rfl rfl rfl t_1959 t_1961 t_p116 t_17 t_1962 nm_X12_isPlaceAt (by decide) (by decide) rfl rfl (Nat.le_of_ble_eq_true rfl) dX12_roadOf_12 (kv_ri ?_)
  obtain ⟨j26, ej26, hf⟩ := lt_j hf
  have hj26 : j26 = some y → KV ad cy x (some (.int y.1), y.2) 26 [(0, .ref (ad a0))] [] M2 := by
    intro hf
    rw [ej26] at hf
    refine v_aload_n G dX12_roadOf_26 0 rfl ?_
    refine v_iconst (2 : Int32) G dX12_roadOf_27 (by decide) ?_
    obtain ⟨v4, hcv4⟩ : ∃ q, f_X12_refuse a0 (2 : Int32) M2 = q := ⟨_, rfl⟩
    replace hf := lt_e hf hcv4.symm
    refine v_callV [.int (2 : Int32)] G (c_X12_refuse h0 hcv4) h0 (by decide) rfl rfl rfl t_1926 t_1928 t_p110 t_17 t_1929 nm_X12_refuse (by decide) (by decide) rfl rfl (Nat.le_of_ble_eq_true rfl) dX12_roadOf_28 (kv_ri ?_)
    obtain rfl := Option.some.inj hf
    exact v_iret G dX12_roadOf_31
  refine v_if_eq 26 G dX12_roadOf_15 (by decide) (fun h10 => ?_) (fun h10 => ?_)
  · replace hf := (if_pos h10).symm.trans hf
    refine v_sub _ [0] rfl ?_
    exact hj26 hf
  · replace hf := (if_neg h10).symm.trans hf
    refine v_aload_n G dX12_roadOf_18 0 rfl ?_
    refine v_iload_n G dX12_roadOf_19 2 rfl ?_
    obtain ⟨v5, hcv5, hf⟩ := bd_e hf
    refine v_callV [.int p2] G (c_X12_isPlaceAt n h0 hcv5) h0 (by decide) rfl rfl rfl t_1959 t_1961 t_p116 t_17 t_1962 nm_X12_isPlaceAt (by decide) (by decide) rfl rfl (Nat.le_of_ble_eq_true rfl) dX12_roadOf_20 (kv_ri ?_)
    refine v_if_ne 32 G dX12_roadOf_23 (by decide) (fun h9 => ?_) (fun h9 => ?_)
    · replace hf := (if_neg h9).symm.trans hf
      refine v_aload_n G dX12_roadOf_32 0 rfl ?_
      refine v_iload_n G dX12_roadOf_33 1 rfl ?_
      refine v_iload_n G dX12_roadOf_34 2 rfl ?_
      obtain ⟨v6, hcv6, hf⟩ := bd_e hf
      refine v_callV [.int p1, .int p2] G (c_X12_between n h0 hcv6) h0 (by decide) rfl rfl rfl t_1963 t_1965 t_p117 t_17 t_1966 nm_X12_between (by decide) (by decide) rfl rfl (Nat.le_of_ble_eq_true rfl) dX12_roadOf_35 (kv_ri ?_)
      refine v_istore_n [(3, .int v6), (0, .ref (ad a0)), (1, .int p1), (2, .int p2)] G dX12_roadOf_38 (by decide) rfl ?_
      refine v_iload_n G dX12_roadOf_39 0 rfl ?_
      refine v_if_ge 52 G dX12_roadOf_40 (by decide) (fun h8 => ?_) (fun h8 => ?_)
      · replace hf := (if_pos h8).symm.trans hf
        refine v_iload_n G dX12_roadOf_52 0 rfl ?_
        obtain rfl := Option.some.inj hf
        exact v_iret G dX12_roadOf_53
      · replace hf := (if_neg h8).symm.trans hf
        refine v_aload_n G dX12_roadOf_43 1 rfl ?_
        refine v_bipush (8 : Int32) G dX12_roadOf_44 (by decide) ?_
        obtain ⟨v7, hcv7⟩ : ∃ q, f_X12_refuse a0 (8 : Int32) M2 = q := ⟨_, rfl⟩
        replace hf := lt_e hf hcv7.symm
        refine v_callV [.int (8 : Int32)] G (c_X12_refuse h0 hcv7) h0 (by decide) rfl rfl rfl t_1926 t_1928 t_p110 t_17 t_1929 nm_X12_refuse (by decide) (by decide) rfl rfl (Nat.le_of_ble_eq_true rfl) dX12_roadOf_46 (kv_ri ?_)
        refine v_goto 53 G dX12_roadOf_49 (by decide) ?_
        obtain rfl := Option.some.inj hf
        exact v_iret G dX12_roadOf_53
    · replace hf := (if_pos h9).symm.trans hf
      refine v_sub _ [0] rfl ?_
      exact hj26 hf
abbrev cX12_person : ByteArray := prog_14_method_92_code
def yX12_person : MethodName := ⟨RX12, "person", "(II)I"⟩
theorem dX12_person_0 : dc cX12_person 0 (.aload_n 0) 1 1 := ⟨by decide +kernel, rfl⟩
theorem dX12_person_1 : dc cX12_person 1 (.iconst 0) 1 2 := ⟨by decide +kernel, rfl⟩
theorem dX12_person_2 : dc cX12_person 2 (.putfield 75) 3 5 := ⟨by decide +kernel, rfl⟩
theorem dX12_person_5 : dc cX12_person 5 (.aload_n 0) 1 6 := ⟨by decide +kernel, rfl⟩
theorem dX12_person_6 : dc cX12_person 6 (.iconst 0) 1 7 := ⟨by decide +kernel, rfl⟩
theorem dX12_person_7 : dc cX12_person 7 (.putfield 78) 3 10 := ⟨by decide +kernel, rfl⟩
theorem dX12_person_10 : dc cX12_person 10 (.aload_n 0) 1 11 := ⟨by decide +kernel, rfl⟩
theorem dX12_person_11 : dc cX12_person 11 (.iload_n 1) 1 12 := ⟨by decide +kernel, rfl⟩
theorem dX12_person_12 : dc cX12_person 12 (.invokevirtual 373) 3 15 := ⟨by decide +kernel, rfl⟩
theorem dX12_person_15 : dc cX12_person 15 (.ifCond .ne 9) 3 18 := ⟨by decide +kernel, rfl⟩
theorem dX12_person_18 : dc cX12_person 18 (.aload_n 0) 1 19 := ⟨by decide +kernel, rfl⟩
theorem dX12_person_19 : dc cX12_person 19 (.iconst 2) 1 20 := ⟨by decide +kernel, rfl⟩
theorem dX12_person_20 : dc cX12_person 20 (.invokevirtual 355) 3 23 := ⟨by decide +kernel, rfl⟩
theorem dX12_person_23 : dc cX12_person 23 (.ireturn) 1 24 := ⟨by decide +kernel, rfl⟩
theorem dX12_person_24 : dc cX12_person 24 (.iload_n 2) 1 25 := ⟨by decide +kernel, rfl⟩
theorem dX12_person_25 : dc cX12_person 25 (.i2l) 1 26 := ⟨by decide +kernel, rfl⟩
theorem dX12_person_26 : dc cX12_person 26 (.lconst 0) 1 27 := ⟨by decide +kernel, rfl⟩
theorem dX12_person_27 : dc cX12_person 27 (.ldc2_w 376) 3 30 := ⟨by decide +kernel, rfl⟩
theorem dX12_person_30 : dc cX12_person 30 (.invokestatic 110) 3 33 := ⟨by decide +kernel, rfl⟩
theorem dX12_person_33 : dc cX12_person 33 (.ifCond .ne 9) 3 36 := ⟨by decide +kernel, rfl⟩
theorem dX12_person_36 : dc cX12_person 36 (.aload_n 0) 1 37 := ⟨by decide +kernel, rfl⟩
theorem dX12_person_37 : dc cX12_person 37 (.iconst 5) 1 38 := ⟨by decide +kernel, rfl⟩
theorem dX12_person_38 : dc cX12_person 38 (.invokevirtual 355) 3 41 := ⟨by decide +kernel, rfl⟩
theorem dX12_person_41 : dc cX12_person 41 (.ireturn) 1 42 := ⟨by decide +kernel, rfl⟩
theorem dX12_person_42 : dc cX12_person 42 (.iload_n 2) 1 43 := ⟨by decide +kernel, rfl⟩
theorem dX12_person_43 : dc cX12_person 43 (.ifCond .ne 18) 3 46 := ⟨by decide +kernel, rfl⟩
theorem dX12_person_46 : dc cX12_person 46 (.aload_n 0) 1 47 := ⟨by decide +kernel, rfl⟩
theorem dX12_person_47 : dc cX12_person 47 (.iload_n 1) 1 48 := ⟨by decide +kernel, rfl⟩
theorem dX12_person_48 : dc cX12_person 48 (.invokevirtual 350) 3 51 := ⟨by decide +kernel, rfl⟩
theorem dX12_person_51 : dc cX12_person 51 (.ifCond .eq 10) 3 54 := ⟨by decide +kernel, rfl⟩
theorem dX12_person_54 : dc cX12_person 54 (.aload_n 0) 1 55 := ⟨by decide +kernel, rfl⟩
theorem dX12_person_55 : dc cX12_person 55 (.bipush 8) 2 57 := ⟨by decide +kernel, rfl⟩
theorem dX12_person_57 : dc cX12_person 57 (.invokevirtual 355) 3 60 := ⟨by decide +kernel, rfl⟩
theorem dX12_person_60 : dc cX12_person 60 (.ireturn) 1 61 := ⟨by decide +kernel, rfl⟩
theorem dX12_person_61 : dc cX12_person 61 (.aload_n 0) 1 62 := ⟨by decide +kernel, rfl⟩
theorem dX12_person_62 : dc cX12_person 62 (.getfield 35) 3 65 := ⟨by decide +kernel, rfl⟩
theorem dX12_person_65 : dc cX12_person 65 (.bipush 58) 2 67 := ⟨by decide +kernel, rfl⟩
theorem dX12_person_67 : dc cX12_person 67 (.bipush 8) 2 69 := ⟨by decide +kernel, rfl⟩
theorem dX12_person_69 : dc cX12_person 69 (.iload_n 2) 1 70 := ⟨by decide +kernel, rfl⟩
theorem dX12_person_70 : dc cX12_person 70 (.imul) 1 71 := ⟨by decide +kernel, rfl⟩
theorem dX12_person_71 : dc cX12_person 71 (.iadd) 1 72 := ⟨by decide +kernel, rfl⟩
theorem dX12_person_72 : dc cX12_person 72 (.iload_n 1) 1 73 := ⟨by decide +kernel, rfl⟩
theorem dX12_person_73 : dc cX12_person 73 (.iadd) 1 74 := ⟨by decide +kernel, rfl⟩
theorem dX12_person_74 : dc cX12_person 74 (.iaload) 1 75 := ⟨by decide +kernel, rfl⟩
theorem dX12_person_75 : dc cX12_person 75 (.istore_n 3) 1 76 := ⟨by decide +kernel, rfl⟩
theorem dX12_person_76 : dc cX12_person 76 (.iload_n 3) 1 77 := ⟨by decide +kernel, rfl⟩
theorem dX12_person_77 : dc cX12_person 77 (.ifCond .ge 12) 3 80 := ⟨by decide +kernel, rfl⟩
theorem dX12_person_80 : dc cX12_person 80 (.aload_n 0) 1 81 := ⟨by decide +kernel, rfl⟩
theorem dX12_person_81 : dc cX12_person 81 (.bipush 8) 2 83 := ⟨by decide +kernel, rfl⟩
theorem dX12_person_83 : dc cX12_person 83 (.invokevirtual 355) 3 86 := ⟨by decide +kernel, rfl⟩
theorem dX12_person_86 : dc cX12_person 86 (.goto 4) 3 89 := ⟨by decide +kernel, rfl⟩
theorem dX12_person_89 : dc cX12_person 89 (.iload_n 3) 1 90 := ⟨by decide +kernel, rfl⟩
theorem dX12_person_90 : dc cX12_person 90 (.ireturn) 1 91 := ⟨by decide +kernel, rfl⟩
theorem nm_X12_person : (yX12_person).cls ≠ "java/lang/invoke/MethodHandle" ∧ (yX12_person).cls ≠ "java/lang/invoke/VarHandle" ∧ (parseMethodDescriptor (yX12_person).desc).map (fun d => d.parameters.length) = some 2 := ⟨by decide +kernel, by decide +kernel, by decide +kernel⟩
set_option maxRecDepth 100000 in
set_option maxHeartbeats 4000000 in
theorem c_X12_person {l : Launch} {ad : Nat → Nat} {cy : Nat → ClassId} {D : va_G} {z : Nat} (n : Nat) {a0 : Nat} {p1 : Int32} {p2 : Int32} {M : KM} {y : (Int32 × KM)} (h0 : kty a0 = 12) (hf : f_X12_person n a0 p1 p2 M = some y) : KC l ad cy D z yX12_person cX12_person 4 (some .int) 3 [.ref (ad a0), .int p1, .int p2] M (some (.int y.1), y.2) := by
  refine kv_enter (by decide +kernel) (Nat.le_of_ble_eq_true rfl) ?_
  intro x hl hD hz G
  subst hl hD hz
  unfold f_X12_person at hf
  have G : KG ad cy x cX12_person "NoonGuidesModel" 4 (some (some .int)) 3 := G
  show KV ad cy x (some (.int y.1), y.2) 0 [(0, .ref (ad a0)), (1, .int p1), (2, .int p2)] [] M
  refine v_aload_n G dX12_person_0 0 rfl ?_
  refine v_iconst (0 : Int32) G dX12_person_1 (by decide) ?_
  refine pf_12_1 G h0 t_1492 (Or.inl rfl) dX12_person_2 ?_
  refine v_nmM (fun M1 eM1 => ?_)
  replace hf := lt_e hf eM1
  refine v_aload_n G dX12_person_5 0 rfl ?_
  refine v_iconst (0 : Int32) G dX12_person_6 (by decide) ?_
  refine pf_12_0 G h0 t_1491 (Or.inl rfl) dX12_person_7 ?_
  refine v_nmM (fun M2 eM2 => ?_)
  replace hf := lt_e hf eM2
  refine v_aload_n G dX12_person_10 0 rfl ?_
  refine v_iload_n G dX12_person_11 1 rfl ?_
  obtain ⟨v3, hcv3, hf⟩ := bd_e hf
  refine v_callV [.int p1] G (c_X12_isPerson n h0 hcv3) h0 (by decide) rfl rfl rfl t_1971 t_1973 t_p118 t_17 t_1974 nm_X12_isPerson (by decide) (by decide) rfl rfl (Nat.le_of_ble_eq_true rfl) dX12_person_12 (kv_ri ?_)
  refine v_if_ne 24 G dX12_person_15 (by decide) (fun h16 => ?_) (fun h16 => ?_)
  · replace hf := (if_neg h16).symm.trans hf
    refine v_iload_n G dX12_person_24 2 rfl ?_
    refine v_i2l G dX12_person_25 ?_
    refine v_lconst (0 : Int64) G dX12_person_26 (by decide) ?_
    refine v_ldc2 G dX12_person_27 t_1975 ?_
    obtain ⟨v4, hcv4⟩ : ∃ q, f_X12_isIn (p2).toInt64 (0 : Int64) (5 : Int64) M2 = q := ⟨_, rfl⟩
    replace hf := lt_e hf hcv4.symm
    refine v_callS [.long (p2).toInt64, .long (0 : Int64), .long (5 : Int64)] G (c_X12_isIn hcv4) t_1755 t_1756 t_17 t_1757 nm_X12_isIn (by decide) (by decide) rfl rfl (Nat.le_of_ble_eq_true rfl) dX12_person_30 (kv_ri ?_)
    refine v_if_ne 42 G dX12_person_33 (by decide) (fun h14 => ?_) (fun h14 => ?_)
    · replace hf := (if_neg h14).symm.trans hf
      refine v_iload_n G dX12_person_42 2 rfl ?_
      obtain ⟨j61, ej61, hf⟩ := lt_j hf
      have hj61 : j61 = some y → KV ad cy x (some (.int y.1), y.2) 61 [(0, .ref (ad a0)), (1, .int p1), (2, .int p2)] [] M2 := by
        intro hf
        rw [ej61] at hf
        refine v_aload_n G dX12_person_61 0 rfl ?_
        refine gf_12_20 G h0 t_1511 (Or.inl rfl) dX12_person_62 ?_
        refine v_bipush (58 : Int32) G dX12_person_65 (by decide) ?_
        refine v_bipush (8 : Int32) G dX12_person_67 (by decide) ?_
        refine v_iload_n G dX12_person_69 2 rfl ?_
        refine v_imul G dX12_person_70 ?_
        refine v_iadd G dX12_person_71 ?_
        refine v_iload_n G dX12_person_72 1 rfl ?_
        refine v_iadd G dX12_person_73 ?_
        obtain ⟨g5, hf⟩ := gd_e hf
        refine al_36 G (kf_12_5 h0) g5 dX12_person_74 ?_
        refine v_nmi (fun v6 ev6 => ?_)
        replace hf := lt_e hf ev6
        refine v_istore_n [(3, .int v6), (0, .ref (ad a0)), (1, .int p1), (2, .int p2)] G dX12_person_75 (by decide) rfl ?_
        refine v_iload_n G dX12_person_76 0 rfl ?_
        refine v_if_ge 89 G dX12_person_77 (by decide) (fun h8 => ?_) (fun h8 => ?_)
        · replace hf := (if_pos h8).symm.trans hf
          refine v_iload_n G dX12_person_89 0 rfl ?_
          obtain rfl := Option.some.inj hf
          exact v_iret G dX12_person_90
        · replace hf := (if_neg h8).symm.trans hf
          refine v_aload_n G dX12_person_80 1 rfl ?_
          refine v_bipush (8 : Int32) G dX12_person_81 (by decide) ?_
          obtain ⟨v7, hcv7⟩ : ∃ q, f_X12_refuse a0 (8 : Int32) M2 = q := ⟨_, rfl⟩
          replace hf := lt_e hf hcv7.symm
          refine v_callV [.int (8 : Int32)] G (c_X12_refuse h0 hcv7) h0 (by decide) rfl rfl rfl t_1926 t_1928 t_p110 t_17 t_1929 nm_X12_refuse (by decide) (by decide) rfl rfl (Nat.le_of_ble_eq_true rfl) dX12_person_83 (kv_ri ?_)
          refine v_goto 90 G dX12_person_86 (by decide) ?_
          obtain rfl := Option.some.inj hf
          exact v_iret G dX12_person_90
      refine v_if_ne 61 G dX12_person_43 (by decide) (fun h12 => ?_) (fun h12 => ?_)
      · replace hf := (if_neg h12).symm.trans hf
        refine v_sub _ [0, 1, 2] rfl ?_
        exact hj61 hf
      · replace hf := (if_pos h12).symm.trans hf
        refine v_aload_n G dX12_person_46 0 rfl ?_
        refine v_iload_n G dX12_person_47 1 rfl ?_
        obtain ⟨v9, hcv9, hf⟩ := bd_e hf
        refine v_callV [.int p1] G (c_X12_isGoing n h0 hcv9) h0 (by decide) rfl rfl rfl t_1942 t_1944 t_p114 t_17 t_1945 nm_X12_isGoing (by decide) (by decide) rfl rfl (Nat.le_of_ble_eq_true rfl) dX12_person_48 (kv_ri ?_)
        refine v_if_eq 61 G dX12_person_51 (by decide) (fun h11 => ?_) (fun h11 => ?_)
        · replace hf := (if_pos h11).symm.trans hf
          refine v_sub _ [0, 1, 2] rfl ?_
          exact hj61 hf
        · replace hf := (if_neg h11).symm.trans hf
          refine v_aload_n G dX12_person_54 0 rfl ?_
          refine v_bipush (8 : Int32) G dX12_person_55 (by decide) ?_
          obtain ⟨v10, hcv10⟩ : ∃ q, f_X12_refuse a0 (8 : Int32) M2 = q := ⟨_, rfl⟩
          replace hf := lt_e hf hcv10.symm
          refine v_callV [.int (8 : Int32)] G (c_X12_refuse h0 hcv10) h0 (by decide) rfl rfl rfl t_1926 t_1928 t_p110 t_17 t_1929 nm_X12_refuse (by decide) (by decide) rfl rfl (Nat.le_of_ble_eq_true rfl) dX12_person_57 (kv_ri ?_)
          obtain rfl := Option.some.inj hf
          exact v_iret G dX12_person_60
    · replace hf := (if_pos h14).symm.trans hf
      refine v_aload_n G dX12_person_36 0 rfl ?_
      refine v_iconst (5 : Int32) G dX12_person_37 (by decide) ?_
      obtain ⟨v13, hcv13⟩ : ∃ q, f_X12_refuse a0 (5 : Int32) M2 = q := ⟨_, rfl⟩
      replace hf := lt_e hf hcv13.symm
      refine v_callV [.int (5 : Int32)] G (c_X12_refuse h0 hcv13) h0 (by decide) rfl rfl rfl t_1926 t_1928 t_p110 t_17 t_1929 nm_X12_refuse (by decide) (by decide) rfl rfl (Nat.le_of_ble_eq_true rfl) dX12_person_38 (kv_ri ?_)
      obtain rfl := Option.some.inj hf
      exact v_iret G dX12_person_41
  · replace hf := (if_pos h16).symm.trans hf
    refine v_aload_n G dX12_person_18 0 rfl ?_
    refine v_iconst (2 : Int32) G dX12_person_19 (by decide) ?_
    obtain ⟨v15, hcv15⟩ : ∃ q, f_X12_refuse a0 (2 : Int32) M2 = q := ⟨_, rfl⟩
    replace hf := lt_e hf hcv15.symm
    refine v_callV [.int (2 : Int32)] G (c_X12_refuse h0 hcv15) h0 (by decide) rfl rfl rfl t_1926 t_1928 t_p110 t_17 t_1929 nm_X12_refuse (by decide) (by decide) rfl rfl (Nat.le_of_ble_eq_true rfl) dX12_person_20 (kv_ri ?_)
    obtain rfl := Option.some.inj hf
    exact v_iret G dX12_person_23
abbrev cX12_gone : ByteArray := prog_14_method_93_code
def yX12_gone : MethodName := ⟨RX12, "gone", "(II)I"⟩
theorem dX12_gone_0 : dc cX12_gone 0 (.aload_n 0) 1 1 := ⟨by decide +kernel, rfl⟩
theorem dX12_gone_1 : dc cX12_gone 1 (.iconst 0) 1 2 := ⟨by decide +kernel, rfl⟩
theorem dX12_gone_2 : dc cX12_gone 2 (.putfield 75) 3 5 := ⟨by decide +kernel, rfl⟩
theorem dX12_gone_5 : dc cX12_gone 5 (.aload_n 0) 1 6 := ⟨by decide +kernel, rfl⟩
theorem dX12_gone_6 : dc cX12_gone 6 (.iconst 0) 1 7 := ⟨by decide +kernel, rfl⟩
theorem dX12_gone_7 : dc cX12_gone 7 (.putfield 78) 3 10 := ⟨by decide +kernel, rfl⟩
theorem dX12_gone_10 : dc cX12_gone 10 (.aload_n 0) 1 11 := ⟨by decide +kernel, rfl⟩
theorem dX12_gone_11 : dc cX12_gone 11 (.iload_n 1) 1 12 := ⟨by decide +kernel, rfl⟩
theorem dX12_gone_12 : dc cX12_gone 12 (.invokevirtual 373) 3 15 := ⟨by decide +kernel, rfl⟩
theorem dX12_gone_15 : dc cX12_gone 15 (.ifCond .eq 29) 3 18 := ⟨by decide +kernel, rfl⟩
theorem dX12_gone_18 : dc cX12_gone 18 (.aload_n 0) 1 19 := ⟨by decide +kernel, rfl⟩
theorem dX12_gone_19 : dc cX12_gone 19 (.iload_n 2) 1 20 := ⟨by decide +kernel, rfl⟩
theorem dX12_gone_20 : dc cX12_gone 20 (.invokevirtual 364) 3 23 := ⟨by decide +kernel, rfl⟩
theorem dX12_gone_23 : dc cX12_gone 23 (.ifCond .eq 21) 3 26 := ⟨by decide +kernel, rfl⟩
theorem dX12_gone_26 : dc cX12_gone 26 (.aload_n 0) 1 27 := ⟨by decide +kernel, rfl⟩
theorem dX12_gone_27 : dc cX12_gone 27 (.getfield 35) 3 30 := ⟨by decide +kernel, rfl⟩
theorem dX12_gone_30 : dc cX12_gone 30 (.sipush 130) 3 33 := ⟨by decide +kernel, rfl⟩
theorem dX12_gone_33 : dc cX12_gone 33 (.bipush 12) 2 35 := ⟨by decide +kernel, rfl⟩
theorem dX12_gone_35 : dc cX12_gone 35 (.iload_n 1) 1 36 := ⟨by decide +kernel, rfl⟩
theorem dX12_gone_36 : dc cX12_gone 36 (.imul) 1 37 := ⟨by decide +kernel, rfl⟩
theorem dX12_gone_37 : dc cX12_gone 37 (.iadd) 1 38 := ⟨by decide +kernel, rfl⟩
theorem dX12_gone_38 : dc cX12_gone 38 (.iload_n 2) 1 39 := ⟨by decide +kernel, rfl⟩
theorem dX12_gone_39 : dc cX12_gone 39 (.iadd) 1 40 := ⟨by decide +kernel, rfl⟩
theorem dX12_gone_40 : dc cX12_gone 40 (.iaload) 1 41 := ⟨by decide +kernel, rfl⟩
theorem dX12_gone_41 : dc cX12_gone 41 (.goto 8) 3 44 := ⟨by decide +kernel, rfl⟩
theorem dX12_gone_44 : dc cX12_gone 44 (.aload_n 0) 1 45 := ⟨by decide +kernel, rfl⟩
theorem dX12_gone_45 : dc cX12_gone 45 (.iconst 2) 1 46 := ⟨by decide +kernel, rfl⟩
theorem dX12_gone_46 : dc cX12_gone 46 (.invokevirtual 355) 3 49 := ⟨by decide +kernel, rfl⟩
theorem dX12_gone_49 : dc cX12_gone 49 (.ireturn) 1 50 := ⟨by decide +kernel, rfl⟩
theorem nm_X12_gone : (yX12_gone).cls ≠ "java/lang/invoke/MethodHandle" ∧ (yX12_gone).cls ≠ "java/lang/invoke/VarHandle" ∧ (parseMethodDescriptor (yX12_gone).desc).map (fun d => d.parameters.length) = some 2 := ⟨by decide +kernel, by decide +kernel, by decide +kernel⟩
set_option maxRecDepth 100000 in
set_option maxHeartbeats 4000000 in
theorem c_X12_gone {l : Launch} {ad : Nat → Nat} {cy : Nat → ClassId} {D : va_G} {z : Nat} (n : Nat) {a0 : Nat} {p1 : Int32} {p2 : Int32} {M : KM} {y : (Int32 × KM)} (h0 : kty a0 = 12) (hf : f_X12_gone n a0 p1 p2 M = some y) : KC l ad cy D z yX12_gone cX12_gone 3 (some .int) 3 [.ref (ad a0), .int p1, .int p2] M (some (.int y.1), y.2) := by
  refine kv_enter (by decide +kernel) (Nat.le_of_ble_eq_true rfl) ?_
  intro x hl hD hz G
  subst hl hD hz
  unfold f_X12_gone at hf
  have G : KG ad cy x cX12_gone "NoonGuidesModel" 3 (some (some .int)) 3 := G
  show KV ad cy x (some (.int y.1), y.2) 0 [(0, .ref (ad a0)), (1, .int p1), (2, .int p2)] [] M
  refine v_aload_n G dX12_gone_0 0 rfl ?_
  refine v_iconst (0 : Int32) G dX12_gone_1 (by decide) ?_
  refine pf_12_1 G h0 t_1492 (Or.inl rfl) dX12_gone_2 ?_
  refine v_nmM (fun M1 eM1 => ?_)
  replace hf := lt_e hf eM1
  refine v_aload_n G dX12_gone_5 0 rfl ?_
  refine v_iconst (0 : Int32) G dX12_gone_6 (by decide) ?_
  refine pf_12_0 G h0 t_1491 (Or.inl rfl) dX12_gone_7 ?_
  refine v_nmM (fun M2 eM2 => ?_)
  replace hf := lt_e hf eM2
  refine v_aload_n G dX12_gone_10 0 rfl ?_
  refine v_iload_n G dX12_gone_11 1 rfl ?_
  obtain ⟨v3, hcv3, hf⟩ := bd_e hf
  refine v_callV [.int p1] G (c_X12_isPerson n h0 hcv3) h0 (by decide) rfl rfl rfl t_1971 t_1973 t_p118 t_17 t_1974 nm_X12_isPerson (by decide) (by decide) rfl rfl (Nat.le_of_ble_eq_true rfl) dX12_gone_12 (kv_ri ?_)
  obtain ⟨j44, ej44, hf⟩ := lt_j hf
  have hj44 : j44 = some y → KV ad cy x (some (.int y.1), y.2) 44 [(0, .ref (ad a0))] [] M2 := by
    intro hf
    rw [ej44] at hf
    refine v_aload_n G dX12_gone_44 0 rfl ?_
    refine v_iconst (2 : Int32) G dX12_gone_45 (by decide) ?_
    obtain ⟨v4, hcv4⟩ : ∃ q, f_X12_refuse a0 (2 : Int32) M2 = q := ⟨_, rfl⟩
    replace hf := lt_e hf hcv4.symm
    refine v_callV [.int (2 : Int32)] G (c_X12_refuse h0 hcv4) h0 (by decide) rfl rfl rfl t_1926 t_1928 t_p110 t_17 t_1929 nm_X12_refuse (by decide) (by decide) rfl rfl (Nat.le_of_ble_eq_true rfl) dX12_gone_46 (kv_ri ?_)
    obtain rfl := Option.some.inj hf
    exact v_iret G dX12_gone_49
  refine v_if_eq 44 G dX12_gone_15 (by decide) (fun h8 => ?_) (fun h8 => ?_)
  · replace hf := (if_pos h8).symm.trans hf
    refine v_sub _ [0] rfl ?_
    exact hj44 hf
  · replace hf := (if_neg h8).symm.trans hf
    refine v_aload_n G dX12_gone_18 0 rfl ?_
    refine v_iload_n G dX12_gone_19 2 rfl ?_
    obtain ⟨v5, hcv5, hf⟩ := bd_e hf
    refine v_callV [.int p2] G (c_X12_isRoadAt n h0 hcv5) h0 (by decide) rfl rfl rfl t_1950 t_1952 t_p115 t_17 t_1953 nm_X12_isRoadAt (by decide) (by decide) rfl rfl (Nat.le_of_ble_eq_true rfl) dX12_gone_20 (kv_ri ?_)
    refine v_if_eq 44 G dX12_gone_23 (by decide) (fun h7 => ?_) (fun h7 => ?_)
    · replace hf := (if_pos h7).symm.trans hf
      refine v_sub _ [0] rfl ?_
      exact hj44 hf
    · replace hf := (if_neg h7).symm.trans hf
      refine v_aload_n G dX12_gone_26 0 rfl ?_
      refine gf_12_20 G h0 t_1511 (Or.inl rfl) dX12_gone_27 ?_
      refine v_sipush (130 : Int32) G dX12_gone_30 (by decide) ?_
      refine v_bipush (12 : Int32) G dX12_gone_33 (by decide) ?_
      refine v_iload_n G dX12_gone_35 1 rfl ?_
      refine v_imul G dX12_gone_36 ?_
      refine v_iadd G dX12_gone_37 ?_
      refine v_iload_n G dX12_gone_38 2 rfl ?_
      refine v_iadd G dX12_gone_39 ?_
      obtain ⟨g6, hf⟩ := gd_e hf
      refine al_36 G (kf_12_5 h0) g6 dX12_gone_40 ?_
      refine v_goto 49 G dX12_gone_41 (by decide) ?_
      obtain rfl := Option.some.inj hf
      exact v_iret G dX12_gone_49
abbrev cX12_owes : ByteArray := prog_14_method_94_code
def yX12_owes : MethodName := ⟨RX12, "owes", "(II)I"⟩
theorem dX12_owes_0 : dc cX12_owes 0 (.aload_n 0) 1 1 := ⟨by decide +kernel, rfl⟩
theorem dX12_owes_1 : dc cX12_owes 1 (.iconst 0) 1 2 := ⟨by decide +kernel, rfl⟩
theorem dX12_owes_2 : dc cX12_owes 2 (.putfield 75) 3 5 := ⟨by decide +kernel, rfl⟩
theorem dX12_owes_5 : dc cX12_owes 5 (.aload_n 0) 1 6 := ⟨by decide +kernel, rfl⟩
theorem dX12_owes_6 : dc cX12_owes 6 (.iconst 0) 1 7 := ⟨by decide +kernel, rfl⟩
theorem dX12_owes_7 : dc cX12_owes 7 (.putfield 78) 3 10 := ⟨by decide +kernel, rfl⟩
theorem dX12_owes_10 : dc cX12_owes 10 (.aload_n 0) 1 11 := ⟨by decide +kernel, rfl⟩
theorem dX12_owes_11 : dc cX12_owes 11 (.iload_n 1) 1 12 := ⟨by decide +kernel, rfl⟩
theorem dX12_owes_12 : dc cX12_owes 12 (.invokevirtual 373) 3 15 := ⟨by decide +kernel, rfl⟩
theorem dX12_owes_15 : dc cX12_owes 15 (.ifCond .eq 11) 3 18 := ⟨by decide +kernel, rfl⟩
theorem dX12_owes_18 : dc cX12_owes 18 (.aload_n 0) 1 19 := ⟨by decide +kernel, rfl⟩
theorem dX12_owes_19 : dc cX12_owes 19 (.iload_n 2) 1 20 := ⟨by decide +kernel, rfl⟩
theorem dX12_owes_20 : dc cX12_owes 20 (.invokevirtual 373) 3 23 := ⟨by decide +kernel, rfl⟩
theorem dX12_owes_23 : dc cX12_owes 23 (.ifCond .ne 9) 3 26 := ⟨by decide +kernel, rfl⟩
theorem dX12_owes_26 : dc cX12_owes 26 (.aload_n 0) 1 27 := ⟨by decide +kernel, rfl⟩
theorem dX12_owes_27 : dc cX12_owes 27 (.iconst 2) 1 28 := ⟨by decide +kernel, rfl⟩
theorem dX12_owes_28 : dc cX12_owes 28 (.invokevirtual 355) 3 31 := ⟨by decide +kernel, rfl⟩
theorem dX12_owes_31 : dc cX12_owes 31 (.ireturn) 1 32 := ⟨by decide +kernel, rfl⟩
theorem dX12_owes_32 : dc cX12_owes 32 (.iload_n 1) 1 33 := ⟨by decide +kernel, rfl⟩
theorem dX12_owes_33 : dc cX12_owes 33 (.iload_n 2) 1 34 := ⟨by decide +kernel, rfl⟩
theorem dX12_owes_34 : dc cX12_owes 34 (.if_icmp .ne 12) 3 37 := ⟨by decide +kernel, rfl⟩
theorem dX12_owes_37 : dc cX12_owes 37 (.aload_n 0) 1 38 := ⟨by decide +kernel, rfl⟩
theorem dX12_owes_38 : dc cX12_owes 38 (.bipush 9) 2 40 := ⟨by decide +kernel, rfl⟩
theorem dX12_owes_40 : dc cX12_owes 40 (.invokevirtual 355) 3 43 := ⟨by decide +kernel, rfl⟩
theorem dX12_owes_43 : dc cX12_owes 43 (.goto 18) 3 46 := ⟨by decide +kernel, rfl⟩
theorem dX12_owes_46 : dc cX12_owes 46 (.aload_n 0) 1 47 := ⟨by decide +kernel, rfl⟩
theorem dX12_owes_47 : dc cX12_owes 47 (.getfield 35) 3 50 := ⟨by decide +kernel, rfl⟩
theorem dX12_owes_50 : dc cX12_owes 50 (.sipush 226) 3 53 := ⟨by decide +kernel, rfl⟩
theorem dX12_owes_53 : dc cX12_owes 53 (.bipush 8) 2 55 := ⟨by decide +kernel, rfl⟩
theorem dX12_owes_55 : dc cX12_owes 55 (.iload_n 1) 1 56 := ⟨by decide +kernel, rfl⟩
theorem dX12_owes_56 : dc cX12_owes 56 (.imul) 1 57 := ⟨by decide +kernel, rfl⟩
theorem dX12_owes_57 : dc cX12_owes 57 (.iadd) 1 58 := ⟨by decide +kernel, rfl⟩
theorem dX12_owes_58 : dc cX12_owes 58 (.iload_n 2) 1 59 := ⟨by decide +kernel, rfl⟩
theorem dX12_owes_59 : dc cX12_owes 59 (.iadd) 1 60 := ⟨by decide +kernel, rfl⟩
theorem dX12_owes_60 : dc cX12_owes 60 (.iaload) 1 61 := ⟨by decide +kernel, rfl⟩
theorem dX12_owes_61 : dc cX12_owes 61 (.ireturn) 1 62 := ⟨by decide +kernel, rfl⟩
theorem nm_X12_owes : (yX12_owes).cls ≠ "java/lang/invoke/MethodHandle" ∧ (yX12_owes).cls ≠ "java/lang/invoke/VarHandle" ∧ (parseMethodDescriptor (yX12_owes).desc).map (fun d => d.parameters.length) = some 2 := ⟨by decide +kernel, by decide +kernel, by decide +kernel⟩
set_option maxRecDepth 100000 in
set_option maxHeartbeats 4000000 in
theorem c_X12_owes {l : Launch} {ad : Nat → Nat} {cy : Nat → ClassId} {D : va_G} {z : Nat} (n : Nat) {a0 : Nat} {p1 : Int32} {p2 : Int32} {M : KM} {y : (Int32 × KM)} (h0 : kty a0 = 12) (hf : f_X12_owes n a0 p1 p2 M = some y) : KC l ad cy D z yX12_owes cX12_owes 3 (some .int) 3 [.ref (ad a0), .int p1, .int p2] M (some (.int y.1), y.2) := by
  refine kv_enter (by decide +kernel) (Nat.le_of_ble_eq_true rfl) ?_
  intro x hl hD hz G
  subst hl hD hz
  unfold f_X12_owes at hf
  have G : KG ad cy x cX12_owes "NoonGuidesModel" 3 (some (some .int)) 3 := G
  show KV ad cy x (some (.int y.1), y.2) 0 [(0, .ref (ad a0)), (1, .int p1), (2, .int p2)] [] M
  refine v_aload_n G dX12_owes_0 0 rfl ?_
  refine v_iconst (0 : Int32) G dX12_owes_1 (by decide) ?_
  refine pf_12_1 G h0 t_1492 (Or.inl rfl) dX12_owes_2 ?_
  refine v_nmM (fun M1 eM1 => ?_)
  replace hf := lt_e hf eM1
  refine v_aload_n G dX12_owes_5 0 rfl ?_
  refine v_iconst (0 : Int32) G dX12_owes_6 (by decide) ?_
  refine pf_12_0 G h0 t_1491 (Or.inl rfl) dX12_owes_7 ?_
  refine v_nmM (fun M2 eM2 => ?_)
  replace hf := lt_e hf eM2
  refine v_aload_n G dX12_owes_10 0 rfl ?_
  refine v_iload_n G dX12_owes_11 1 rfl ?_
  obtain ⟨v3, hcv3, hf⟩ := bd_e hf
  refine v_callV [.int p1] G (c_X12_isPerson n h0 hcv3) h0 (by decide) rfl rfl rfl t_1971 t_1973 t_p118 t_17 t_1974 nm_X12_isPerson (by decide) (by decide) rfl rfl (Nat.le_of_ble_eq_true rfl) dX12_owes_12 (kv_ri ?_)
  obtain ⟨j26, ej26, hf⟩ := lt_j hf
  have hj26 : j26 = some y → KV ad cy x (some (.int y.1), y.2) 26 [(0, .ref (ad a0))] [] M2 := by
    intro hf
    rw [ej26] at hf
    refine v_aload_n G dX12_owes_26 0 rfl ?_
    refine v_iconst (2 : Int32) G dX12_owes_27 (by decide) ?_
    obtain ⟨v4, hcv4⟩ : ∃ q, f_X12_refuse a0 (2 : Int32) M2 = q := ⟨_, rfl⟩
    replace hf := lt_e hf hcv4.symm
    refine v_callV [.int (2 : Int32)] G (c_X12_refuse h0 hcv4) h0 (by decide) rfl rfl rfl t_1926 t_1928 t_p110 t_17 t_1929 nm_X12_refuse (by decide) (by decide) rfl rfl (Nat.le_of_ble_eq_true rfl) dX12_owes_28 (kv_ri ?_)
    obtain rfl := Option.some.inj hf
    exact v_iret G dX12_owes_31
  refine v_if_eq 26 G dX12_owes_15 (by decide) (fun h10 => ?_) (fun h10 => ?_)
  · replace hf := (if_pos h10).symm.trans hf
    refine v_sub _ [0] rfl ?_
    exact hj26 hf
  · replace hf := (if_neg h10).symm.trans hf
    refine v_aload_n G dX12_owes_18 0 rfl ?_
    refine v_iload_n G dX12_owes_19 2 rfl ?_
    obtain ⟨v5, hcv5, hf⟩ := bd_e hf
    refine v_callV [.int p2] G (c_X12_isPerson n h0 hcv5) h0 (by decide) rfl rfl rfl t_1971 t_1973 t_p118 t_17 t_1974 nm_X12_isPerson (by decide) (by decide) rfl rfl (Nat.le_of_ble_eq_true rfl) dX12_owes_20 (kv_ri ?_)
    refine v_if_ne 32 G dX12_owes_23 (by decide) (fun h9 => ?_) (fun h9 => ?_)
    · replace hf := (if_neg h9).symm.trans hf
      refine v_iload_n G dX12_owes_32 1 rfl ?_
      refine v_iload_n G dX12_owes_33 2 rfl ?_
      refine v_icmp_ne 46 G dX12_owes_34 (by decide) (fun h8 => ?_) (fun h8 => ?_)
      · replace hf := (if_neg h8).symm.trans hf
        refine v_aload_n G dX12_owes_46 0 rfl ?_
        refine gf_12_20 G h0 t_1511 (Or.inl rfl) dX12_owes_47 ?_
        refine v_sipush (226 : Int32) G dX12_owes_50 (by decide) ?_
        refine v_bipush (8 : Int32) G dX12_owes_53 (by decide) ?_
        refine v_iload_n G dX12_owes_55 1 rfl ?_
        refine v_imul G dX12_owes_56 ?_
        refine v_iadd G dX12_owes_57 ?_
        refine v_iload_n G dX12_owes_58 2 rfl ?_
        refine v_iadd G dX12_owes_59 ?_
        obtain ⟨g6, hf⟩ := gd_e hf
        refine al_36 G (kf_12_5 h0) g6 dX12_owes_60 ?_
        obtain rfl := Option.some.inj hf
        exact v_iret G dX12_owes_61
      · replace hf := (if_pos h8).symm.trans hf
        refine v_aload_n G dX12_owes_37 0 rfl ?_
        refine v_bipush (9 : Int32) G dX12_owes_38 (by decide) ?_
        obtain ⟨v7, hcv7⟩ : ∃ q, f_X12_refuse a0 (9 : Int32) M2 = q := ⟨_, rfl⟩
        replace hf := lt_e hf hcv7.symm
        refine v_callV [.int (9 : Int32)] G (c_X12_refuse h0 hcv7) h0 (by decide) rfl rfl rfl t_1926 t_1928 t_p110 t_17 t_1929 nm_X12_refuse (by decide) (by decide) rfl rfl (Nat.le_of_ble_eq_true rfl) dX12_owes_40 (kv_ri ?_)
        refine v_goto 61 G dX12_owes_43 (by decide) ?_
        obtain rfl := Option.some.inj hf
        exact v_iret G dX12_owes_61
    · replace hf := (if_pos h9).symm.trans hf
      refine v_sub _ [0] rfl ?_
      exact hj26 hf
abbrev cX12_net : ByteArray := prog_14_method_95_code
def yX12_net : MethodName := ⟨RX12, "net", "(I)I"⟩
theorem dX12_net_0 : dc cX12_net 0 (.aload_n 0) 1 1 := ⟨by decide +kernel, rfl⟩
theorem dX12_net_1 : dc cX12_net 1 (.iconst 0) 1 2 := ⟨by decide +kernel, rfl⟩
theorem dX12_net_2 : dc cX12_net 2 (.putfield 75) 3 5 := ⟨by decide +kernel, rfl⟩
theorem dX12_net_5 : dc cX12_net 5 (.aload_n 0) 1 6 := ⟨by decide +kernel, rfl⟩
theorem dX12_net_6 : dc cX12_net 6 (.iconst 0) 1 7 := ⟨by decide +kernel, rfl⟩
theorem dX12_net_7 : dc cX12_net 7 (.putfield 78) 3 10 := ⟨by decide +kernel, rfl⟩
theorem dX12_net_10 : dc cX12_net 10 (.aload_n 0) 1 11 := ⟨by decide +kernel, rfl⟩
theorem dX12_net_11 : dc cX12_net 11 (.iload_n 1) 1 12 := ⟨by decide +kernel, rfl⟩
theorem dX12_net_12 : dc cX12_net 12 (.invokevirtual 373) 3 15 := ⟨by decide +kernel, rfl⟩
theorem dX12_net_15 : dc cX12_net 15 (.ifCond .ne 9) 3 18 := ⟨by decide +kernel, rfl⟩
theorem dX12_net_18 : dc cX12_net 18 (.aload_n 0) 1 19 := ⟨by decide +kernel, rfl⟩
theorem dX12_net_19 : dc cX12_net 19 (.iconst 2) 1 20 := ⟨by decide +kernel, rfl⟩
theorem dX12_net_20 : dc cX12_net 20 (.invokevirtual 355) 3 23 := ⟨by decide +kernel, rfl⟩
theorem dX12_net_23 : dc cX12_net 23 (.ireturn) 1 24 := ⟨by decide +kernel, rfl⟩
theorem dX12_net_24 : dc cX12_net 24 (.iconst 0) 1 25 := ⟨by decide +kernel, rfl⟩
theorem dX12_net_25 : dc cX12_net 25 (.istore_n 2) 1 26 := ⟨by decide +kernel, rfl⟩
theorem dX12_net_26 : dc cX12_net 26 (.iconst 0) 1 27 := ⟨by decide +kernel, rfl⟩
theorem dX12_net_27 : dc cX12_net 27 (.istore_n 3) 1 28 := ⟨by decide +kernel, rfl⟩
theorem dX12_net_28 : dc cX12_net 28 (.iload_n 3) 1 29 := ⟨by decide +kernel, rfl⟩
theorem dX12_net_29 : dc cX12_net 29 (.aload_n 0) 1 30 := ⟨by decide +kernel, rfl⟩
theorem dX12_net_30 : dc cX12_net 30 (.getfield 35) 3 33 := ⟨by decide +kernel, rfl⟩
theorem dX12_net_33 : dc cX12_net 33 (.iconst 2) 1 34 := ⟨by decide +kernel, rfl⟩
theorem dX12_net_34 : dc cX12_net 34 (.iaload) 1 35 := ⟨by decide +kernel, rfl⟩
theorem dX12_net_35 : dc cX12_net 35 (.if_icmp .ge 27) 3 38 := ⟨by decide +kernel, rfl⟩
theorem dX12_net_38 : dc cX12_net 38 (.iload_n 2) 1 39 := ⟨by decide +kernel, rfl⟩
theorem dX12_net_39 : dc cX12_net 39 (.aload_n 0) 1 40 := ⟨by decide +kernel, rfl⟩
theorem dX12_net_40 : dc cX12_net 40 (.getfield 35) 3 43 := ⟨by decide +kernel, rfl⟩
theorem dX12_net_43 : dc cX12_net 43 (.sipush 226) 3 46 := ⟨by decide +kernel, rfl⟩
theorem dX12_net_46 : dc cX12_net 46 (.bipush 8) 2 48 := ⟨by decide +kernel, rfl⟩
theorem dX12_net_48 : dc cX12_net 48 (.iload_n 3) 1 49 := ⟨by decide +kernel, rfl⟩
theorem dX12_net_49 : dc cX12_net 49 (.imul) 1 50 := ⟨by decide +kernel, rfl⟩
theorem dX12_net_50 : dc cX12_net 50 (.iadd) 1 51 := ⟨by decide +kernel, rfl⟩
theorem dX12_net_51 : dc cX12_net 51 (.iload_n 1) 1 52 := ⟨by decide +kernel, rfl⟩
theorem dX12_net_52 : dc cX12_net 52 (.iadd) 1 53 := ⟨by decide +kernel, rfl⟩
theorem dX12_net_53 : dc cX12_net 53 (.iaload) 1 54 := ⟨by decide +kernel, rfl⟩
theorem dX12_net_54 : dc cX12_net 54 (.iadd) 1 55 := ⟨by decide +kernel, rfl⟩
theorem dX12_net_55 : dc cX12_net 55 (.istore_n 2) 1 56 := ⟨by decide +kernel, rfl⟩
theorem dX12_net_56 : dc cX12_net 56 (.iinc 3 1) 3 59 := ⟨by decide +kernel, rfl⟩
theorem dX12_net_59 : dc cX12_net 59 (.goto (-31)) 3 62 := ⟨by decide +kernel, rfl⟩
theorem dX12_net_62 : dc cX12_net 62 (.iload_n 2) 1 63 := ⟨by decide +kernel, rfl⟩
theorem dX12_net_63 : dc cX12_net 63 (.ireturn) 1 64 := ⟨by decide +kernel, rfl⟩
theorem nm_X12_net : (yX12_net).cls ≠ "java/lang/invoke/MethodHandle" ∧ (yX12_net).cls ≠ "java/lang/invoke/VarHandle" ∧ (parseMethodDescriptor (yX12_net).desc).map (fun d => d.parameters.length) = some 1 := ⟨by decide +kernel, by decide +kernel, by decide +kernel⟩
set_option maxRecDepth 100000 in
set_option maxHeartbeats 4000000 in
theorem s_X12_net_28 {ad : Nat → Nat} {cy : Nat → ClassId} {x : KX} (G : KG ad cy x cX12_net "NoonGuidesModel" 4 (some (some .int)) 3) {a0 : Nat} {c1 : Int32} {M : KM} (h0 : kty a0 = 12) {y : (Int32 × KM)} : ∀ (n : Nat) (w2 : Int32) (w3 : Int32), lp_X12_net_28 n a0 c1 M w2 w3 = some y → KV ad cy x (some (.int y.1), y.2) 28 [(0, .ref (ad a0)), (1, .int c1), (2, .int w2), (3, .int w3)] [] M := by
  intro n
  induction n with
  | zero =>
    intro w2 w3 hf
    cases hf
  | succ n ih =>
    intro w2 w3 hf
    rw [lp_X12_net_28] at hf
    refine v_iload_n G dX12_net_28 3 rfl ?_
    refine v_aload_n G dX12_net_29 0 rfl ?_
    refine gf_12_20 G h0 t_1511 (Or.inl rfl) dX12_net_30 ?_
    refine v_iconst (2 : Int32) G dX12_net_33 (by decide) ?_
    obtain ⟨g4, hf⟩ := gd_e hf
    refine al_36 G (kf_12_5 h0) g4 dX12_net_34 ?_
    refine v_icmp_ge 62 G dX12_net_35 (by decide) (fun h8 => ?_) (fun h8 => ?_)
    · replace hf := (if_pos h8).symm.trans hf
      refine v_iload_n G dX12_net_62 2 rfl ?_
      obtain rfl := Option.some.inj hf
      exact v_iret G dX12_net_63
    · replace hf := (if_neg h8).symm.trans hf
      refine v_iload_n G dX12_net_38 2 rfl ?_
      refine v_aload_n G dX12_net_39 0 rfl ?_
      refine gf_12_20 G h0 t_1511 (Or.inl rfl) dX12_net_40 ?_
      refine v_sipush (226 : Int32) G dX12_net_43 (by decide) ?_
      refine v_bipush (8 : Int32) G dX12_net_46 (by decide) ?_
      refine v_iload_n G dX12_net_48 3 rfl ?_
      refine v_imul G dX12_net_49 ?_
      refine v_iadd G dX12_net_50 ?_
      refine v_iload_n G dX12_net_51 1 rfl ?_
      refine v_iadd G dX12_net_52 ?_
      obtain ⟨g5, hf⟩ := gd_e hf
      refine al_36 G (kf_12_5 h0) g5 dX12_net_53 ?_
      refine v_iadd G dX12_net_54 ?_
      refine v_nmi (fun v6 ev6 => ?_)
      replace hf := lt_e hf ev6
      refine v_istore_n [(2, .int v6), (0, .ref (ad a0)), (1, .int c1), (3, .int w3)] G dX12_net_55 (by decide) rfl ?_
      obtain ⟨v7, ev7⟩ : ∃ q : Int32, q = w3 + (1 : Int32) := ⟨_, rfl⟩
      replace hf := lt_e hf ev7
      refine v_iinc v7 [(3, .int v7), (2, .int v6), (0, .ref (ad a0)), (1, .int c1)] G dX12_net_56 3 rfl (by rw [ev7]; rfl) (by decide) rfl ?_
      refine v_goto 28 G dX12_net_59 (by decide) ?_
      refine v_sub _ [2, 3, 1, 0] rfl ?_
      exact ih v6 v7 hf
set_option maxRecDepth 100000 in
set_option maxHeartbeats 4000000 in
theorem c_X12_net {l : Launch} {ad : Nat → Nat} {cy : Nat → ClassId} {D : va_G} {z : Nat} (n : Nat) {a0 : Nat} {p1 : Int32} {M : KM} {y : (Int32 × KM)} (h0 : kty a0 = 12) (hf : f_X12_net n a0 p1 M = some y) : KC l ad cy D z yX12_net cX12_net 4 (some .int) 3 [.ref (ad a0), .int p1] M (some (.int y.1), y.2) := by
  refine kv_enter (by decide +kernel) (Nat.le_of_ble_eq_true rfl) ?_
  intro x hl hD hz G
  subst hl hD hz
  unfold f_X12_net at hf
  have G : KG ad cy x cX12_net "NoonGuidesModel" 4 (some (some .int)) 3 := G
  show KV ad cy x (some (.int y.1), y.2) 0 [(0, .ref (ad a0)), (1, .int p1)] [] M
  refine v_aload_n G dX12_net_0 0 rfl ?_
  refine v_iconst (0 : Int32) G dX12_net_1 (by decide) ?_
  refine pf_12_1 G h0 t_1492 (Or.inl rfl) dX12_net_2 ?_
  refine v_nmM (fun M1 eM1 => ?_)
  replace hf := lt_e hf eM1
  refine v_aload_n G dX12_net_5 0 rfl ?_
  refine v_iconst (0 : Int32) G dX12_net_6 (by decide) ?_
  refine pf_12_0 G h0 t_1491 (Or.inl rfl) dX12_net_7 ?_
  refine v_nmM (fun M2 eM2 => ?_)
  replace hf := lt_e hf eM2
  refine v_aload_n G dX12_net_10 0 rfl ?_
  refine v_iload_n G dX12_net_11 1 rfl ?_
  obtain ⟨v3, hcv3, hf⟩ := bd_e hf
  refine v_callV [.int p1] G (c_X12_isPerson n h0 hcv3) h0 (by decide) rfl rfl rfl t_1971 t_1973 t_p118 t_17 t_1974 nm_X12_isPerson (by decide) (by decide) rfl rfl (Nat.le_of_ble_eq_true rfl) dX12_net_12 (kv_ri ?_)
  refine v_if_ne 24 G dX12_net_15 (by decide) (fun h10 => ?_) (fun h10 => ?_)
  · replace hf := (if_neg h10).symm.trans hf
    refine v_iconst (0 : Int32) G dX12_net_24 (by decide) ?_
    refine v_istore_n [(2, .int (0 : Int32)), (0, .ref (ad a0)), (1, .int p1)] G dX12_net_25 (by decide) rfl ?_
    refine v_iconst (0 : Int32) G dX12_net_26 (by decide) ?_
    refine v_istore_n [(3, .int (0 : Int32)), (2, .int (0 : Int32)), (0, .ref (ad a0)), (1, .int p1)] G dX12_net_27 (by decide) rfl ?_
    refine v_sub _ [2, 3, 1, 0] rfl ?_
    refine s_X12_net_28 G h0 n (0 : Int32) (0 : Int32) hf
  · replace hf := (if_pos h10).symm.trans hf
    refine v_aload_n G dX12_net_18 0 rfl ?_
    refine v_iconst (2 : Int32) G dX12_net_19 (by decide) ?_
    obtain ⟨v9, hcv9⟩ : ∃ q, f_X12_refuse a0 (2 : Int32) M2 = q := ⟨_, rfl⟩
    replace hf := lt_e hf hcv9.symm
    refine v_callV [.int (2 : Int32)] G (c_X12_refuse h0 hcv9) h0 (by decide) rfl rfl rfl t_1926 t_1928 t_p110 t_17 t_1929 nm_X12_refuse (by decide) (by decide) rfl rfl (Nat.le_of_ble_eq_true rfl) dX12_net_20 (kv_ri ?_)
    obtain rfl := Option.some.inj hf
    exact v_iret G dX12_net_23
abbrev cX12_copyPlaces : ByteArray := prog_14_method_96_code
def yX12_copyPlaces : MethodName := ⟨RX12, "copyPlaces", "(I)I"⟩
theorem dX12_copyPlaces_0 : dc cX12_copyPlaces 0 (.aload_n 0) 1 1 := ⟨by decide +kernel, rfl⟩
theorem dX12_copyPlaces_1 : dc cX12_copyPlaces 1 (.iconst 0) 1 2 := ⟨by decide +kernel, rfl⟩
theorem dX12_copyPlaces_2 : dc cX12_copyPlaces 2 (.putfield 75) 3 5 := ⟨by decide +kernel, rfl⟩
theorem dX12_copyPlaces_5 : dc cX12_copyPlaces 5 (.aload_n 0) 1 6 := ⟨by decide +kernel, rfl⟩
theorem dX12_copyPlaces_6 : dc cX12_copyPlaces 6 (.iconst 0) 1 7 := ⟨by decide +kernel, rfl⟩
theorem dX12_copyPlaces_7 : dc cX12_copyPlaces 7 (.putfield 78) 3 10 := ⟨by decide +kernel, rfl⟩
theorem dX12_copyPlaces_10 : dc cX12_copyPlaces 10 (.aload_n 0) 1 11 := ⟨by decide +kernel, rfl⟩
theorem dX12_copyPlaces_11 : dc cX12_copyPlaces 11 (.iload_n 1) 1 12 := ⟨by decide +kernel, rfl⟩
theorem dX12_copyPlaces_12 : dc cX12_copyPlaces 12 (.invokevirtual 378) 3 15 := ⟨by decide +kernel, rfl⟩
theorem dX12_copyPlaces_15 : dc cX12_copyPlaces 15 (.ifCond .ne 9) 3 18 := ⟨by decide +kernel, rfl⟩
theorem dX12_copyPlaces_18 : dc cX12_copyPlaces 18 (.aload_n 0) 1 19 := ⟨by decide +kernel, rfl⟩
theorem dX12_copyPlaces_19 : dc cX12_copyPlaces 19 (.iconst 1) 1 20 := ⟨by decide +kernel, rfl⟩
theorem dX12_copyPlaces_20 : dc cX12_copyPlaces 20 (.invokevirtual 355) 3 23 := ⟨by decide +kernel, rfl⟩
theorem dX12_copyPlaces_23 : dc cX12_copyPlaces 23 (.ireturn) 1 24 := ⟨by decide +kernel, rfl⟩
theorem dX12_copyPlaces_24 : dc cX12_copyPlaces 24 (.aload_n 0) 1 25 := ⟨by decide +kernel, rfl⟩
theorem dX12_copyPlaces_25 : dc cX12_copyPlaces 25 (.getfield 17) 3 28 := ⟨by decide +kernel, rfl⟩
theorem dX12_copyPlaces_28 : dc cX12_copyPlaces 28 (.iload_n 1) 1 29 := ⟨by decide +kernel, rfl⟩
theorem dX12_copyPlaces_29 : dc cX12_copyPlaces 29 (.iaload) 1 30 := ⟨by decide +kernel, rfl⟩
theorem dX12_copyPlaces_30 : dc cX12_copyPlaces 30 (.ifCond .ge 9) 3 33 := ⟨by decide +kernel, rfl⟩
theorem dX12_copyPlaces_33 : dc cX12_copyPlaces 33 (.aload_n 0) 1 34 := ⟨by decide +kernel, rfl⟩
theorem dX12_copyPlaces_34 : dc cX12_copyPlaces 34 (.iconst 3) 1 35 := ⟨by decide +kernel, rfl⟩
theorem dX12_copyPlaces_35 : dc cX12_copyPlaces 35 (.invokevirtual 355) 3 38 := ⟨by decide +kernel, rfl⟩
theorem dX12_copyPlaces_38 : dc cX12_copyPlaces 38 (.ireturn) 1 39 := ⟨by decide +kernel, rfl⟩
theorem dX12_copyPlaces_39 : dc cX12_copyPlaces 39 (.aload_n 0) 1 40 := ⟨by decide +kernel, rfl⟩
theorem dX12_copyPlaces_40 : dc cX12_copyPlaces 40 (.getfield 17) 3 43 := ⟨by decide +kernel, rfl⟩
theorem dX12_copyPlaces_43 : dc cX12_copyPlaces 43 (.iload_n 1) 1 44 := ⟨by decide +kernel, rfl⟩
theorem dX12_copyPlaces_44 : dc cX12_copyPlaces 44 (.iaload) 1 45 := ⟨by decide +kernel, rfl⟩
theorem dX12_copyPlaces_45 : dc cX12_copyPlaces 45 (.aload_n 0) 1 46 := ⟨by decide +kernel, rfl⟩
theorem dX12_copyPlaces_46 : dc cX12_copyPlaces 46 (.getfield 35) 3 49 := ⟨by decide +kernel, rfl⟩
theorem dX12_copyPlaces_49 : dc cX12_copyPlaces 49 (.iconst 2) 1 50 := ⟨by decide +kernel, rfl⟩
theorem dX12_copyPlaces_50 : dc cX12_copyPlaces 50 (.iaload) 1 51 := ⟨by decide +kernel, rfl⟩
theorem dX12_copyPlaces_51 : dc cX12_copyPlaces 51 (.if_icmp .ge 9) 3 54 := ⟨by decide +kernel, rfl⟩
theorem dX12_copyPlaces_54 : dc cX12_copyPlaces 54 (.aload_n 0) 1 55 := ⟨by decide +kernel, rfl⟩
theorem dX12_copyPlaces_55 : dc cX12_copyPlaces 55 (.iconst 4) 1 56 := ⟨by decide +kernel, rfl⟩
theorem dX12_copyPlaces_56 : dc cX12_copyPlaces 56 (.invokevirtual 355) 3 59 := ⟨by decide +kernel, rfl⟩
theorem dX12_copyPlaces_59 : dc cX12_copyPlaces 59 (.ireturn) 1 60 := ⟨by decide +kernel, rfl⟩
theorem dX12_copyPlaces_60 : dc cX12_copyPlaces 60 (.iconst 0) 1 61 := ⟨by decide +kernel, rfl⟩
theorem dX12_copyPlaces_61 : dc cX12_copyPlaces 61 (.istore_n 2) 1 62 := ⟨by decide +kernel, rfl⟩
theorem dX12_copyPlaces_62 : dc cX12_copyPlaces 62 (.iload_n 2) 1 63 := ⟨by decide +kernel, rfl⟩
theorem dX12_copyPlaces_63 : dc cX12_copyPlaces 63 (.aload_n 0) 1 64 := ⟨by decide +kernel, rfl⟩
theorem dX12_copyPlaces_64 : dc cX12_copyPlaces 64 (.getfield 35) 3 67 := ⟨by decide +kernel, rfl⟩
theorem dX12_copyPlaces_67 : dc cX12_copyPlaces 67 (.iconst 2) 1 68 := ⟨by decide +kernel, rfl⟩
theorem dX12_copyPlaces_68 : dc cX12_copyPlaces 68 (.iaload) 1 69 := ⟨by decide +kernel, rfl⟩
theorem dX12_copyPlaces_69 : dc cX12_copyPlaces 69 (.if_icmp .ge 44) 3 72 := ⟨by decide +kernel, rfl⟩
theorem dX12_copyPlaces_72 : dc cX12_copyPlaces 72 (.aload_n 0) 1 73 := ⟨by decide +kernel, rfl⟩
theorem dX12_copyPlaces_73 : dc cX12_copyPlaces 73 (.getfield 20) 3 76 := ⟨by decide +kernel, rfl⟩
theorem dX12_copyPlaces_76 : dc cX12_copyPlaces 76 (.bipush 60) 2 78 := ⟨by decide +kernel, rfl⟩
theorem dX12_copyPlaces_78 : dc cX12_copyPlaces 78 (.iload_n 1) 1 79 := ⟨by decide +kernel, rfl⟩
theorem dX12_copyPlaces_79 : dc cX12_copyPlaces 79 (.imul) 1 80 := ⟨by decide +kernel, rfl⟩
theorem dX12_copyPlaces_80 : dc cX12_copyPlaces 80 (.iload_n 2) 1 81 := ⟨by decide +kernel, rfl⟩
theorem dX12_copyPlaces_81 : dc cX12_copyPlaces 81 (.iadd) 1 82 := ⟨by decide +kernel, rfl⟩
theorem dX12_copyPlaces_82 : dc cX12_copyPlaces 82 (.aload_n 0) 1 83 := ⟨by decide +kernel, rfl⟩
theorem dX12_copyPlaces_83 : dc cX12_copyPlaces 83 (.iload_n 2) 1 84 := ⟨by decide +kernel, rfl⟩
theorem dX12_copyPlaces_84 : dc cX12_copyPlaces 84 (.invokevirtual 350) 3 87 := ⟨by decide +kernel, rfl⟩
theorem dX12_copyPlaces_87 : dc cX12_copyPlaces 87 (.ifCond .eq 9) 3 90 := ⟨by decide +kernel, rfl⟩
theorem dX12_copyPlaces_90 : dc cX12_copyPlaces 90 (.ldc2_w 106) 3 93 := ⟨by decide +kernel, rfl⟩
theorem dX12_copyPlaces_93 : dc cX12_copyPlaces 93 (.goto 13) 3 96 := ⟨by decide +kernel, rfl⟩
theorem dX12_copyPlaces_96 : dc cX12_copyPlaces 96 (.aload_n 0) 1 97 := ⟨by decide +kernel, rfl⟩
theorem dX12_copyPlaces_97 : dc cX12_copyPlaces 97 (.getfield 35) 3 100 := ⟨by decide +kernel, rfl⟩
theorem dX12_copyPlaces_100 : dc cX12_copyPlaces 100 (.bipush 58) 2 102 := ⟨by decide +kernel, rfl⟩
theorem dX12_copyPlaces_102 : dc cX12_copyPlaces 102 (.iload_n 2) 1 103 := ⟨by decide +kernel, rfl⟩
theorem dX12_copyPlaces_103 : dc cX12_copyPlaces 103 (.iadd) 1 104 := ⟨by decide +kernel, rfl⟩
theorem dX12_copyPlaces_104 : dc cX12_copyPlaces 104 (.iaload) 1 105 := ⟨by decide +kernel, rfl⟩
theorem dX12_copyPlaces_105 : dc cX12_copyPlaces 105 (.i2l) 1 106 := ⟨by decide +kernel, rfl⟩
theorem dX12_copyPlaces_106 : dc cX12_copyPlaces 106 (.lastore) 1 107 := ⟨by decide +kernel, rfl⟩
theorem dX12_copyPlaces_107 : dc cX12_copyPlaces 107 (.iinc 2 1) 3 110 := ⟨by decide +kernel, rfl⟩
theorem dX12_copyPlaces_110 : dc cX12_copyPlaces 110 (.goto (-48)) 3 113 := ⟨by decide +kernel, rfl⟩
theorem dX12_copyPlaces_113 : dc cX12_copyPlaces 113 (.aload_n 0) 1 114 := ⟨by decide +kernel, rfl⟩
theorem dX12_copyPlaces_114 : dc cX12_copyPlaces 114 (.getfield 35) 3 117 := ⟨by decide +kernel, rfl⟩
theorem dX12_copyPlaces_117 : dc cX12_copyPlaces 117 (.iconst 2) 1 118 := ⟨by decide +kernel, rfl⟩
theorem dX12_copyPlaces_118 : dc cX12_copyPlaces 118 (.iaload) 1 119 := ⟨by decide +kernel, rfl⟩
theorem dX12_copyPlaces_119 : dc cX12_copyPlaces 119 (.ireturn) 1 120 := ⟨by decide +kernel, rfl⟩
theorem nm_X12_copyPlaces : (yX12_copyPlaces).cls ≠ "java/lang/invoke/MethodHandle" ∧ (yX12_copyPlaces).cls ≠ "java/lang/invoke/VarHandle" ∧ (parseMethodDescriptor (yX12_copyPlaces).desc).map (fun d => d.parameters.length) = some 1 := ⟨by decide +kernel, by decide +kernel, by decide +kernel⟩
set_option maxRecDepth 100000 in
set_option maxHeartbeats 4000000 in
theorem s_X12_copyPlaces_62 {ad : Nat → Nat} {cy : Nat → ClassId} {x : KX} (G : KG ad cy x cX12_copyPlaces "NoonGuidesModel" 3 (some (some .int)) 3) {a0 : Nat} {c1 : Int32} (h0 : kty a0 = 12) {y : (Int32 × KM)} : ∀ (n : Nat) (w2 : Int32) (M : KM), lp_X12_copyPlaces_62 n a0 c1 w2 M = some y → KV ad cy x (some (.int y.1), y.2) 62 [(0, .ref (ad a0)), (1, .int c1), (2, .int w2)] [] M := by
  intro n
  induction n with
  | zero =>
    intro w2 M hf
    cases hf
  | succ n ih =>
    intro w2 M hf
    rw [lp_X12_copyPlaces_62] at hf
    refine v_iload_n G dX12_copyPlaces_62 2 rfl ?_
    refine v_aload_n G dX12_copyPlaces_63 0 rfl ?_
    refine gf_12_20 G h0 t_1511 (Or.inl rfl) dX12_copyPlaces_64 ?_
    refine v_iconst (2 : Int32) G dX12_copyPlaces_67 (by decide) ?_
    obtain ⟨g7, hf⟩ := gd_e hf
    refine al_36 G (kf_12_5 h0) g7 dX12_copyPlaces_68 ?_
    refine v_icmp_ge 113 G dX12_copyPlaces_69 (by decide) (fun h16 => ?_) (fun h16 => ?_)
    · replace hf := (if_pos h16).symm.trans hf
      refine v_aload_n G dX12_copyPlaces_113 0 rfl ?_
      refine gf_12_20 G h0 t_1511 (Or.inl rfl) dX12_copyPlaces_114 ?_
      refine v_iconst (2 : Int32) G dX12_copyPlaces_117 (by decide) ?_
      obtain ⟨g8, hf⟩ := gd_e hf
      refine al_36 G (kf_12_5 h0) g8 dX12_copyPlaces_118 ?_
      obtain rfl := Option.some.inj hf
      exact v_iret G dX12_copyPlaces_119
    · replace hf := (if_neg h16).symm.trans hf
      refine v_aload_n G dX12_copyPlaces_72 0 rfl ?_
      refine gf_12_6 G h0 t_1497 (Or.inl rfl) dX12_copyPlaces_73 ?_
      refine v_bipush (60 : Int32) G dX12_copyPlaces_76 (by decide) ?_
      refine v_iload_n G dX12_copyPlaces_78 1 rfl ?_
      refine v_imul G dX12_copyPlaces_79 ?_
      refine v_iload_n G dX12_copyPlaces_80 2 rfl ?_
      refine v_iadd G dX12_copyPlaces_81 ?_
      refine v_aload_n G dX12_copyPlaces_82 0 rfl ?_
      refine v_iload_n G dX12_copyPlaces_83 2 rfl ?_
      obtain ⟨v9, hcv9, hf⟩ := bd_e hf
      refine v_callV [.int w2] G (c_X12_isGoing n h0 hcv9) h0 (by decide) rfl rfl rfl t_1942 t_1944 t_p114 t_17 t_1945 nm_X12_isGoing (by decide) (by decide) rfl rfl (Nat.le_of_ble_eq_true rfl) dX12_copyPlaces_84 (kv_ri ?_)
      obtain ⟨j106, ej106, hf⟩ := lt_j hf
      have hj106 : ∀ (x10 : Int64), j106 x10 = some y → KV ad cy x (some (.int y.1), y.2) 106 [(0, .ref (ad a0)), (1, .int c1), (2, .int w2)] [.long x10, .int (((60 : Int32) * c1) + w2), .ref (ad (a0 + 3))] M := by
        intro x10 hf
        rw [ej106] at hf
        obtain ⟨g11, hf⟩ := gd_e hf
        refine as_35 G (kf_12_3 h0) g11 dX12_copyPlaces_106 ?_
        refine v_nmM (fun M12 eM12 => ?_)
        replace hf := lt_e hf eM12
        obtain ⟨v13, ev13⟩ : ∃ q : Int32, q = w2 + (1 : Int32) := ⟨_, rfl⟩
        replace hf := lt_e hf ev13
        refine v_iinc v13 [(2, .int v13), (0, .ref (ad a0)), (1, .int c1)] G dX12_copyPlaces_107 2 rfl (by rw [ev13]; rfl) (by decide) rfl ?_
        refine v_goto 62 G dX12_copyPlaces_110 (by decide) ?_
        refine v_sub _ [1, 2, 0] rfl ?_
        exact ih v13 M12 hf
      refine v_if_eq 96 G dX12_copyPlaces_87 (by decide) (fun h15 => ?_) (fun h15 => ?_)
      · replace hf := (if_pos h15).symm.trans hf
        refine v_aload_n G dX12_copyPlaces_96 0 rfl ?_
        refine gf_12_20 G h0 t_1511 (Or.inl rfl) dX12_copyPlaces_97 ?_
        refine v_bipush (58 : Int32) G dX12_copyPlaces_100 (by decide) ?_
        refine v_iload_n G dX12_copyPlaces_102 2 rfl ?_
        refine v_iadd G dX12_copyPlaces_103 ?_
        obtain ⟨g14, hf⟩ := gd_e hf
        refine al_36 G (kf_12_5 h0) g14 dX12_copyPlaces_104 ?_
        refine v_i2l G dX12_copyPlaces_105 ?_
        refine v_sub _ [0, 1, 2] rfl ?_
        exact hj106 ((M.1 (a0 + 5) (((58 : Int32) + w2)).toNatClampNeg)).toInt64 hf
      · replace hf := (if_neg h15).symm.trans hf
        refine v_ldc2 G dX12_copyPlaces_90 t_1672 ?_
        refine v_goto 106 G dX12_copyPlaces_93 (by decide) ?_
        refine v_sub _ [0, 1, 2] rfl ?_
        exact hj106 (-1 : Int64) hf
set_option maxRecDepth 100000 in
set_option maxHeartbeats 4000000 in
theorem c_X12_copyPlaces {l : Launch} {ad : Nat → Nat} {cy : Nat → ClassId} {D : va_G} {z : Nat} (n : Nat) {a0 : Nat} {p1 : Int32} {M : KM} {y : (Int32 × KM)} (h0 : kty a0 = 12) (hf : f_X12_copyPlaces n a0 p1 M = some y) : KC l ad cy D z yX12_copyPlaces cX12_copyPlaces 3 (some .int) 3 [.ref (ad a0), .int p1] M (some (.int y.1), y.2) := by
  refine kv_enter (by decide +kernel) (Nat.le_of_ble_eq_true rfl) ?_
  intro x hl hD hz G
  subst hl hD hz
  unfold f_X12_copyPlaces at hf
  have G : KG ad cy x cX12_copyPlaces "NoonGuidesModel" 3 (some (some .int)) 3 := G
  show KV ad cy x (some (.int y.1), y.2) 0 [(0, .ref (ad a0)), (1, .int p1)] [] M
  refine v_aload_n G dX12_copyPlaces_0 0 rfl ?_
  refine v_iconst (0 : Int32) G dX12_copyPlaces_1 (by decide) ?_
  refine pf_12_1 G h0 t_1492 (Or.inl rfl) dX12_copyPlaces_2 ?_
  refine v_nmM (fun M1 eM1 => ?_)
  replace hf := lt_e hf eM1
  refine v_aload_n G dX12_copyPlaces_5 0 rfl ?_
  refine v_iconst (0 : Int32) G dX12_copyPlaces_6 (by decide) ?_
  refine pf_12_0 G h0 t_1491 (Or.inl rfl) dX12_copyPlaces_7 ?_
  refine v_nmM (fun M2 eM2 => ?_)
  replace hf := lt_e hf eM2
  refine v_aload_n G dX12_copyPlaces_10 0 rfl ?_
  refine v_iload_n G dX12_copyPlaces_11 1 rfl ?_
  obtain ⟨v3, hcv3⟩ : ∃ q, f_X12_isTray a0 p1 M2 = q := ⟨_, rfl⟩
  replace hf := lt_e hf hcv3.symm
  refine v_callV [.int p1] G (c_X12_isTray h0 hcv3) h0 (by decide) rfl rfl rfl t_1992 t_1994 t_p119 t_17 t_1995 nm_X12_isTray (by decide) (by decide) rfl rfl (Nat.le_of_ble_eq_true rfl) dX12_copyPlaces_12 (kv_ri ?_)
  refine v_if_ne 24 G dX12_copyPlaces_15 (by decide) (fun h22 => ?_) (fun h22 => ?_)
  · replace hf := (if_neg h22).symm.trans hf
    refine v_aload_n G dX12_copyPlaces_24 0 rfl ?_
    refine gf_12_5 G h0 t_1496 (Or.inl rfl) dX12_copyPlaces_25 ?_
    refine v_iload_n G dX12_copyPlaces_28 1 rfl ?_
    obtain ⟨g4, hf⟩ := gd_e hf
    refine al_34 G (kf_12_2 h0) g4 dX12_copyPlaces_29 ?_
    refine v_if_ge 39 G dX12_copyPlaces_30 (by decide) (fun h20 => ?_) (fun h20 => ?_)
    · replace hf := (if_pos h20).symm.trans hf
      refine v_aload_n G dX12_copyPlaces_39 0 rfl ?_
      refine gf_12_5 G h0 t_1496 (Or.inl rfl) dX12_copyPlaces_40 ?_
      refine v_iload_n G dX12_copyPlaces_43 1 rfl ?_
      obtain ⟨g5, hf⟩ := gd_e hf
      refine al_34 G (kf_12_2 h0) g5 dX12_copyPlaces_44 ?_
      refine v_aload_n G dX12_copyPlaces_45 0 rfl ?_
      refine gf_12_20 G h0 t_1511 (Or.inl rfl) dX12_copyPlaces_46 ?_
      refine v_iconst (2 : Int32) G dX12_copyPlaces_49 (by decide) ?_
      obtain ⟨g6, hf⟩ := gd_e hf
      refine al_36 G (kf_12_5 h0) g6 dX12_copyPlaces_50 ?_
      refine v_icmp_ge 60 G dX12_copyPlaces_51 (by decide) (fun h18 => ?_) (fun h18 => ?_)
      · replace hf := (if_pos h18).symm.trans hf
        refine v_iconst (0 : Int32) G dX12_copyPlaces_60 (by decide) ?_
        refine v_istore_n [(2, .int (0 : Int32)), (0, .ref (ad a0)), (1, .int p1)] G dX12_copyPlaces_61 (by decide) rfl ?_
        refine v_sub _ [1, 2, 0] rfl ?_
        refine s_X12_copyPlaces_62 G h0 n (0 : Int32) M2 hf
      · replace hf := (if_neg h18).symm.trans hf
        refine v_aload_n G dX12_copyPlaces_54 0 rfl ?_
        refine v_iconst (4 : Int32) G dX12_copyPlaces_55 (by decide) ?_
        obtain ⟨v17, hcv17⟩ : ∃ q, f_X12_refuse a0 (4 : Int32) M2 = q := ⟨_, rfl⟩
        replace hf := lt_e hf hcv17.symm
        refine v_callV [.int (4 : Int32)] G (c_X12_refuse h0 hcv17) h0 (by decide) rfl rfl rfl t_1926 t_1928 t_p110 t_17 t_1929 nm_X12_refuse (by decide) (by decide) rfl rfl (Nat.le_of_ble_eq_true rfl) dX12_copyPlaces_56 (kv_ri ?_)
        obtain rfl := Option.some.inj hf
        exact v_iret G dX12_copyPlaces_59
    · replace hf := (if_neg h20).symm.trans hf
      refine v_aload_n G dX12_copyPlaces_33 0 rfl ?_
      refine v_iconst (3 : Int32) G dX12_copyPlaces_34 (by decide) ?_
      obtain ⟨v19, hcv19⟩ : ∃ q, f_X12_refuse a0 (3 : Int32) M2 = q := ⟨_, rfl⟩
      replace hf := lt_e hf hcv19.symm
      refine v_callV [.int (3 : Int32)] G (c_X12_refuse h0 hcv19) h0 (by decide) rfl rfl rfl t_1926 t_1928 t_p110 t_17 t_1929 nm_X12_refuse (by decide) (by decide) rfl rfl (Nat.le_of_ble_eq_true rfl) dX12_copyPlaces_35 (kv_ri ?_)
      obtain rfl := Option.some.inj hf
      exact v_iret G dX12_copyPlaces_38
  · replace hf := (if_pos h22).symm.trans hf
    refine v_aload_n G dX12_copyPlaces_18 0 rfl ?_
    refine v_iconst (1 : Int32) G dX12_copyPlaces_19 (by decide) ?_
    obtain ⟨v21, hcv21⟩ : ∃ q, f_X12_refuse a0 (1 : Int32) M2 = q := ⟨_, rfl⟩
    replace hf := lt_e hf hcv21.symm
    refine v_callV [.int (1 : Int32)] G (c_X12_refuse h0 hcv21) h0 (by decide) rfl rfl rfl t_1926 t_1928 t_p110 t_17 t_1929 nm_X12_refuse (by decide) (by decide) rfl rfl (Nat.le_of_ble_eq_true rfl) dX12_copyPlaces_20 (kv_ri ?_)
    obtain rfl := Option.some.inj hf
    exact v_iret G dX12_copyPlaces_23
abbrev cX12_isWith : ByteArray := prog_14_method_97_code
def yX12_isWith : MethodName := ⟨RX12, "isWith", "(II)Z"⟩
theorem dX12_isWith_0 : dc cX12_isWith 0 (.iload_n 1) 1 1 := ⟨by decide +kernel, rfl⟩
theorem dX12_isWith_1 : dc cX12_isWith 1 (.iload_n 2) 1 2 := ⟨by decide +kernel, rfl⟩
theorem dX12_isWith_2 : dc cX12_isWith 2 (.if_icmp .eq 16) 3 5 := ⟨by decide +kernel, rfl⟩
theorem dX12_isWith_5 : dc cX12_isWith 5 (.aload_n 0) 1 6 := ⟨by decide +kernel, rfl⟩
theorem dX12_isWith_6 : dc cX12_isWith 6 (.getfield 35) 3 9 := ⟨by decide +kernel, rfl⟩
theorem dX12_isWith_9 : dc cX12_isWith 9 (.bipush 82) 2 11 := ⟨by decide +kernel, rfl⟩
theorem dX12_isWith_11 : dc cX12_isWith 11 (.iload_n 1) 1 12 := ⟨by decide +kernel, rfl⟩
theorem dX12_isWith_12 : dc cX12_isWith 12 (.iadd) 1 13 := ⟨by decide +kernel, rfl⟩
theorem dX12_isWith_13 : dc cX12_isWith 13 (.iaload) 1 14 := ⟨by decide +kernel, rfl⟩
theorem dX12_isWith_14 : dc cX12_isWith 14 (.iload_n 2) 1 15 := ⟨by decide +kernel, rfl⟩
theorem dX12_isWith_15 : dc cX12_isWith 15 (.if_icmp .ne 7) 3 18 := ⟨by decide +kernel, rfl⟩
theorem dX12_isWith_18 : dc cX12_isWith 18 (.iconst 1) 1 19 := ⟨by decide +kernel, rfl⟩
theorem dX12_isWith_19 : dc cX12_isWith 19 (.goto 4) 3 22 := ⟨by decide +kernel, rfl⟩
theorem dX12_isWith_22 : dc cX12_isWith 22 (.iconst 0) 1 23 := ⟨by decide +kernel, rfl⟩
theorem dX12_isWith_23 : dc cX12_isWith 23 (.ireturn) 1 24 := ⟨by decide +kernel, rfl⟩
theorem nm_X12_isWith : (yX12_isWith).cls ≠ "java/lang/invoke/MethodHandle" ∧ (yX12_isWith).cls ≠ "java/lang/invoke/VarHandle" ∧ (parseMethodDescriptor (yX12_isWith).desc).map (fun d => d.parameters.length) = some 2 := ⟨by decide +kernel, by decide +kernel, by decide +kernel⟩
set_option maxRecDepth 100000 in
theorem z_X12_isWith (n : Nat) {a0 : Nat} {p1 : Int32} {p2 : Int32} {M : KM} {y : Int32} (hf : f_X12_isWith n a0 p1 p2 M = some y) : (y = 0 ∨ y = 1) := by
  unfold f_X12_isWith at hf
  obtain ⟨j18, ej18, hf⟩ := lt_j hf
  have hj18 : j18 = some y → (y = 0 ∨ y = 1) := by
    intro hf
    rw [ej18] at hf
    obtain rfl := Option.some.inj hf
    exact (Or.inr rfl)
  by_cases h3 : p1 = p2
  · replace hf := (if_pos h3).symm.trans hf
    exact hj18 hf
  · replace hf := (if_neg h3).symm.trans hf
    obtain ⟨g1, hf⟩ := gd_e hf
    by_cases h2 : (M.1 (a0 + 5) (((82 : Int32) + p1)).toNatClampNeg) = p2
    · replace hf := (if_pos h2).symm.trans hf
      exact hj18 hf
    · replace hf := (if_neg h2).symm.trans hf
      obtain rfl := Option.some.inj hf
      exact (Or.inl rfl)
set_option maxRecDepth 100000 in
set_option maxHeartbeats 4000000 in
theorem c_X12_isWith {l : Launch} {ad : Nat → Nat} {cy : Nat → ClassId} {D : va_G} {z : Nat} (n : Nat) {a0 : Nat} {p1 : Int32} {p2 : Int32} {M : KM} {y : Int32} (h0 : kty a0 = 12) (hf : f_X12_isWith n a0 p1 p2 M = some y) : KC l ad cy D z yX12_isWith cX12_isWith 3 (some .boolean) 1 [.ref (ad a0), .int p1, .int p2] M (some (.int y), M) := by
  refine kv_enter (by decide +kernel) (Nat.le_of_ble_eq_true rfl) ?_
  intro x hl hD hz G
  subst hl hD hz
  unfold f_X12_isWith at hf
  have G : KG ad cy x cX12_isWith "NoonGuidesModel" 3 (some (some .boolean)) 1 := G
  show KV ad cy x (some (.int y), M) 0 [(0, .ref (ad a0)), (1, .int p1), (2, .int p2)] [] M
  refine v_iload_n G dX12_isWith_0 1 rfl ?_
  refine v_iload_n G dX12_isWith_1 2 rfl ?_
  obtain ⟨j18, ej18, hf⟩ := lt_j hf
  have hj18 : j18 = some y → KV ad cy x (some (.int y), M) 18 [] [] M := by
    intro hf
    rw [ej18] at hf
    refine v_iconst (1 : Int32) G dX12_isWith_18 (by decide) ?_
    refine v_goto 23 G dX12_isWith_19 (by decide) ?_
    obtain rfl := Option.some.inj hf
    exact v_zret G (Or.inr rfl) dX12_isWith_23
  refine v_icmp_eq 18 G dX12_isWith_2 (by decide) (fun h3 => ?_) (fun h3 => ?_)
  · replace hf := (if_pos h3).symm.trans hf
    refine v_sub _ [] rfl ?_
    exact hj18 hf
  · replace hf := (if_neg h3).symm.trans hf
    refine v_aload_n G dX12_isWith_5 0 rfl ?_
    refine gf_12_20 G h0 t_1511 (Or.inl rfl) dX12_isWith_6 ?_
    refine v_bipush (82 : Int32) G dX12_isWith_9 (by decide) ?_
    refine v_iload_n G dX12_isWith_11 1 rfl ?_
    refine v_iadd G dX12_isWith_12 ?_
    obtain ⟨g1, hf⟩ := gd_e hf
    refine al_36 G (kf_12_5 h0) g1 dX12_isWith_13 ?_
    refine v_iload_n G dX12_isWith_14 2 rfl ?_
    refine v_icmp_ne 22 G dX12_isWith_15 (by decide) (fun h2 => ?_) (fun h2 => ?_)
    · replace hf := (if_neg h2).symm.trans hf
      refine v_iconst (0 : Int32) G dX12_isWith_22 (by decide) ?_
      obtain rfl := Option.some.inj hf
      exact v_zret G (Or.inl rfl) dX12_isWith_23
    · replace hf := (if_pos h2).symm.trans hf
      refine v_sub _ [] rfl ?_
      exact hj18 hf
abbrev cX12_owe : ByteArray := prog_14_method_98_code
def yX12_owe : MethodName := ⟨RX12, "owe", "(III)V"⟩
theorem dX12_owe_0 : dc cX12_owe 0 (.sipush (-9999)) 3 3 := ⟨by decide +kernel, rfl⟩
theorem dX12_owe_3 : dc cX12_owe 3 (.sipush 9999) 3 6 := ⟨by decide +kernel, rfl⟩
theorem dX12_owe_6 : dc cX12_owe 6 (.aload_n 0) 1 7 := ⟨by decide +kernel, rfl⟩
theorem dX12_owe_7 : dc cX12_owe 7 (.getfield 35) 3 10 := ⟨by decide +kernel, rfl⟩
theorem dX12_owe_10 : dc cX12_owe 10 (.sipush 226) 3 13 := ⟨by decide +kernel, rfl⟩
theorem dX12_owe_13 : dc cX12_owe 13 (.bipush 8) 2 15 := ⟨by decide +kernel, rfl⟩
theorem dX12_owe_15 : dc cX12_owe 15 (.iload_n 1) 1 16 := ⟨by decide +kernel, rfl⟩
theorem dX12_owe_16 : dc cX12_owe 16 (.imul) 1 17 := ⟨by decide +kernel, rfl⟩
theorem dX12_owe_17 : dc cX12_owe 17 (.iadd) 1 18 := ⟨by decide +kernel, rfl⟩
theorem dX12_owe_18 : dc cX12_owe 18 (.iload_n 2) 1 19 := ⟨by decide +kernel, rfl⟩
theorem dX12_owe_19 : dc cX12_owe 19 (.iadd) 1 20 := ⟨by decide +kernel, rfl⟩
theorem dX12_owe_20 : dc cX12_owe 20 (.iaload) 1 21 := ⟨by decide +kernel, rfl⟩
theorem dX12_owe_21 : dc cX12_owe 21 (.iload_n 3) 1 22 := ⟨by decide +kernel, rfl⟩
theorem dX12_owe_22 : dc cX12_owe 22 (.iadd) 1 23 := ⟨by decide +kernel, rfl⟩
theorem dX12_owe_23 : dc cX12_owe 23 (.invokestatic 381) 3 26 := ⟨by decide +kernel, rfl⟩
theorem dX12_owe_26 : dc cX12_owe 26 (.invokestatic 251) 3 29 := ⟨by decide +kernel, rfl⟩
theorem dX12_owe_29 : dc cX12_owe 29 (.istore 4) 2 31 := ⟨by decide +kernel, rfl⟩
theorem dX12_owe_31 : dc cX12_owe 31 (.aload_n 0) 1 32 := ⟨by decide +kernel, rfl⟩
theorem dX12_owe_32 : dc cX12_owe 32 (.getfield 35) 3 35 := ⟨by decide +kernel, rfl⟩
theorem dX12_owe_35 : dc cX12_owe 35 (.sipush 226) 3 38 := ⟨by decide +kernel, rfl⟩
theorem dX12_owe_38 : dc cX12_owe 38 (.bipush 8) 2 40 := ⟨by decide +kernel, rfl⟩
theorem dX12_owe_40 : dc cX12_owe 40 (.iload_n 1) 1 41 := ⟨by decide +kernel, rfl⟩
theorem dX12_owe_41 : dc cX12_owe 41 (.imul) 1 42 := ⟨by decide +kernel, rfl⟩
theorem dX12_owe_42 : dc cX12_owe 42 (.iadd) 1 43 := ⟨by decide +kernel, rfl⟩
theorem dX12_owe_43 : dc cX12_owe 43 (.iload_n 2) 1 44 := ⟨by decide +kernel, rfl⟩
theorem dX12_owe_44 : dc cX12_owe 44 (.iadd) 1 45 := ⟨by decide +kernel, rfl⟩
theorem dX12_owe_45 : dc cX12_owe 45 (.iload 4) 2 47 := ⟨by decide +kernel, rfl⟩
theorem dX12_owe_47 : dc cX12_owe 47 (.iastore) 1 48 := ⟨by decide +kernel, rfl⟩
theorem dX12_owe_48 : dc cX12_owe 48 (.aload_n 0) 1 49 := ⟨by decide +kernel, rfl⟩
theorem dX12_owe_49 : dc cX12_owe 49 (.getfield 35) 3 52 := ⟨by decide +kernel, rfl⟩
theorem dX12_owe_52 : dc cX12_owe 52 (.sipush 226) 3 55 := ⟨by decide +kernel, rfl⟩
theorem dX12_owe_55 : dc cX12_owe 55 (.bipush 8) 2 57 := ⟨by decide +kernel, rfl⟩
theorem dX12_owe_57 : dc cX12_owe 57 (.iload_n 2) 1 58 := ⟨by decide +kernel, rfl⟩
theorem dX12_owe_58 : dc cX12_owe 58 (.imul) 1 59 := ⟨by decide +kernel, rfl⟩
theorem dX12_owe_59 : dc cX12_owe 59 (.iadd) 1 60 := ⟨by decide +kernel, rfl⟩
theorem dX12_owe_60 : dc cX12_owe 60 (.iload_n 1) 1 61 := ⟨by decide +kernel, rfl⟩
theorem dX12_owe_61 : dc cX12_owe 61 (.iadd) 1 62 := ⟨by decide +kernel, rfl⟩
theorem dX12_owe_62 : dc cX12_owe 62 (.iload 4) 2 64 := ⟨by decide +kernel, rfl⟩
theorem dX12_owe_64 : dc cX12_owe 64 (.ineg) 1 65 := ⟨by decide +kernel, rfl⟩
theorem dX12_owe_65 : dc cX12_owe 65 (.iastore) 1 66 := ⟨by decide +kernel, rfl⟩
theorem dX12_owe_66 : dc cX12_owe 66 (.return_) 1 67 := ⟨by decide +kernel, rfl⟩
theorem nm_X12_owe : (yX12_owe).cls ≠ "java/lang/invoke/MethodHandle" ∧ (yX12_owe).cls ≠ "java/lang/invoke/VarHandle" ∧ (parseMethodDescriptor (yX12_owe).desc).map (fun d => d.parameters.length) = some 3 := ⟨by decide +kernel, by decide +kernel, by decide +kernel⟩
set_option maxRecDepth 100000 in
set_option maxHeartbeats 4000000 in
theorem c_X12_owe {l : Launch} {ad : Nat → Nat} {cy : Nat → ClassId} {D : va_G} {z : Nat} (n : Nat) {a0 : Nat} {p1 : Int32} {p2 : Int32} {p3 : Int32} {M : KM} {y : KM} (h0 : kty a0 = 12) (hf : f_X12_owe n a0 p1 p2 p3 M = some y) : KC l ad cy D z yX12_owe cX12_owe 5 none 1 [.ref (ad a0), .int p1, .int p2, .int p3] M (none, y) := by
  refine kv_enter (by decide +kernel) (Nat.le_of_ble_eq_true rfl) ?_
  intro x hl hD hz G
  subst hl hD hz
  unfold f_X12_owe at hf
  have G : KG ad cy x cX12_owe "NoonGuidesModel" 5 (some none) 1 := G
  show KV ad cy x (none, y) 0 [(0, .ref (ad a0)), (1, .int p1), (2, .int p2), (3, .int p3)] [] M
  refine v_sipush (-9999 : Int32) G dX12_owe_0 (by decide) ?_
  refine v_sipush (9999 : Int32) G dX12_owe_3 (by decide) ?_
  refine v_aload_n G dX12_owe_6 0 rfl ?_
  refine gf_12_20 G h0 t_1511 (Or.inl rfl) dX12_owe_7 ?_
  refine v_sipush (226 : Int32) G dX12_owe_10 (by decide) ?_
  refine v_bipush (8 : Int32) G dX12_owe_13 (by decide) ?_
  refine v_iload_n G dX12_owe_15 1 rfl ?_
  refine v_imul G dX12_owe_16 ?_
  refine v_iadd G dX12_owe_17 ?_
  refine v_iload_n G dX12_owe_18 2 rfl ?_
  refine v_iadd G dX12_owe_19 ?_
  obtain ⟨g1, hf⟩ := gd_e hf
  refine al_36 G (kf_12_5 h0) g1 dX12_owe_20 ?_
  refine v_iload_n G dX12_owe_21 3 rfl ?_
  refine v_iadd G dX12_owe_22 ?_
  refine v_mmin G (by decide) t_2022 t_658 t_19 t_659 (Nat.le_of_ble_eq_true rfl) dX12_owe_23 ?_
  refine v_nmi (fun v2 ev2 => ?_)
  replace hf := lt_e hf ev2
  refine v_mmax G (by decide) t_1868 t_1282 t_19 t_1283 (Nat.le_of_ble_eq_true rfl) dX12_owe_26 ?_
  refine v_nmi (fun v3 ev3 => ?_)
  replace hf := lt_e hf ev3
  refine v_istore [(4, .int v3), (0, .ref (ad a0)), (1, .int p1), (2, .int p2), (3, .int p3)] G dX12_owe_29 (by decide) rfl ?_
  refine v_aload_n G dX12_owe_31 1 rfl ?_
  refine gf_12_20 G h0 t_1511 (Or.inl rfl) dX12_owe_32 ?_
  refine v_sipush (226 : Int32) G dX12_owe_35 (by decide) ?_
  refine v_bipush (8 : Int32) G dX12_owe_38 (by decide) ?_
  refine v_iload_n G dX12_owe_40 2 rfl ?_
  refine v_imul G dX12_owe_41 ?_
  refine v_iadd G dX12_owe_42 ?_
  refine v_iload_n G dX12_owe_43 3 rfl ?_
  refine v_iadd G dX12_owe_44 ?_
  refine v_iload G dX12_owe_45 0 rfl ?_
  obtain ⟨g4, hf⟩ := gd_e hf
  refine as_36 G (kf_12_5 h0) g4 dX12_owe_47 ?_
  refine v_nmM (fun M5 eM5 => ?_)
  replace hf := lt_e hf eM5
  refine v_aload_n G dX12_owe_48 1 rfl ?_
  refine gf_12_20 G h0 t_1511 (Or.inl rfl) dX12_owe_49 ?_
  refine v_sipush (226 : Int32) G dX12_owe_52 (by decide) ?_
  refine v_bipush (8 : Int32) G dX12_owe_55 (by decide) ?_
  refine v_iload_n G dX12_owe_57 3 rfl ?_
  refine v_imul G dX12_owe_58 ?_
  refine v_iadd G dX12_owe_59 ?_
  refine v_iload_n G dX12_owe_60 2 rfl ?_
  refine v_iadd G dX12_owe_61 ?_
  refine v_iload G dX12_owe_62 0 rfl ?_
  refine v_ineg G dX12_owe_64 ?_
  obtain ⟨g6, hf⟩ := gd_e hf
  refine as_36 G (kf_12_5 h0) g6 dX12_owe_65 ?_
  refine v_nmM (fun M7 eM7 => ?_)
  replace hf := lt_e hf eM7
  obtain rfl := Option.some.inj hf
  exact v_vret G dX12_owe_66
abbrev cX12_comes : ByteArray := prog_14_method_99_code
def yX12_comes : MethodName := ⟨RX12, "comes", "(II)V"⟩
theorem dX12_comes_0 : dc cX12_comes 0 (.aload_n 0) 1 1 := ⟨by decide +kernel, rfl⟩
theorem dX12_comes_1 : dc cX12_comes 1 (.getfield 35) 3 4 := ⟨by decide +kernel, rfl⟩
theorem dX12_comes_4 : dc cX12_comes 4 (.bipush 122) 2 6 := ⟨by decide +kernel, rfl⟩
theorem dX12_comes_6 : dc cX12_comes 6 (.iload_n 2) 1 7 := ⟨by decide +kernel, rfl⟩
theorem dX12_comes_7 : dc cX12_comes 7 (.iadd) 1 8 := ⟨by decide +kernel, rfl⟩
theorem dX12_comes_8 : dc cX12_comes 8 (.iaload) 1 9 := ⟨by decide +kernel, rfl⟩
theorem dX12_comes_9 : dc cX12_comes 9 (.istore_n 3) 1 10 := ⟨by decide +kernel, rfl⟩
theorem dX12_comes_10 : dc cX12_comes 10 (.aload_n 0) 1 11 := ⟨by decide +kernel, rfl⟩
theorem dX12_comes_11 : dc cX12_comes 11 (.getfield 35) 3 14 := ⟨by decide +kernel, rfl⟩
theorem dX12_comes_14 : dc cX12_comes 14 (.bipush 58) 2 16 := ⟨by decide +kernel, rfl⟩
theorem dX12_comes_16 : dc cX12_comes 16 (.iload_n 1) 1 17 := ⟨by decide +kernel, rfl⟩
theorem dX12_comes_17 : dc cX12_comes 17 (.iadd) 1 18 := ⟨by decide +kernel, rfl⟩
theorem dX12_comes_18 : dc cX12_comes 18 (.aload_n 0) 1 19 := ⟨by decide +kernel, rfl⟩
theorem dX12_comes_19 : dc cX12_comes 19 (.getfield 35) 3 22 := ⟨by decide +kernel, rfl⟩
theorem dX12_comes_22 : dc cX12_comes 22 (.bipush 66) 2 24 := ⟨by decide +kernel, rfl⟩
theorem dX12_comes_24 : dc cX12_comes 24 (.iload_n 1) 1 25 := ⟨by decide +kernel, rfl⟩
theorem dX12_comes_25 : dc cX12_comes 25 (.iadd) 1 26 := ⟨by decide +kernel, rfl⟩
theorem dX12_comes_26 : dc cX12_comes 26 (.iaload) 1 27 := ⟨by decide +kernel, rfl⟩
theorem dX12_comes_27 : dc cX12_comes 27 (.iastore) 1 28 := ⟨by decide +kernel, rfl⟩
theorem dX12_comes_28 : dc cX12_comes 28 (.aload_n 0) 1 29 := ⟨by decide +kernel, rfl⟩
theorem dX12_comes_29 : dc cX12_comes 29 (.getfield 35) 3 32 := ⟨by decide +kernel, rfl⟩
theorem dX12_comes_32 : dc cX12_comes 32 (.bipush 66) 2 34 := ⟨by decide +kernel, rfl⟩
theorem dX12_comes_34 : dc cX12_comes 34 (.iload_n 1) 1 35 := ⟨by decide +kernel, rfl⟩
theorem dX12_comes_35 : dc cX12_comes 35 (.iadd) 1 36 := ⟨by decide +kernel, rfl⟩
theorem dX12_comes_36 : dc cX12_comes 36 (.iconst (-1)) 1 37 := ⟨by decide +kernel, rfl⟩
theorem dX12_comes_37 : dc cX12_comes 37 (.iastore) 1 38 := ⟨by decide +kernel, rfl⟩
theorem dX12_comes_38 : dc cX12_comes 38 (.aload_n 0) 1 39 := ⟨by decide +kernel, rfl⟩
theorem dX12_comes_39 : dc cX12_comes 39 (.getfield 35) 3 42 := ⟨by decide +kernel, rfl⟩
theorem dX12_comes_42 : dc cX12_comes 42 (.bipush 74) 2 44 := ⟨by decide +kernel, rfl⟩
theorem dX12_comes_44 : dc cX12_comes 44 (.iload_n 1) 1 45 := ⟨by decide +kernel, rfl⟩
theorem dX12_comes_45 : dc cX12_comes 45 (.iadd) 1 46 := ⟨by decide +kernel, rfl⟩
theorem dX12_comes_46 : dc cX12_comes 46 (.iconst 0) 1 47 := ⟨by decide +kernel, rfl⟩
theorem dX12_comes_47 : dc cX12_comes 47 (.iastore) 1 48 := ⟨by decide +kernel, rfl⟩
theorem dX12_comes_48 : dc cX12_comes 48 (.aload_n 0) 1 49 := ⟨by decide +kernel, rfl⟩
theorem dX12_comes_49 : dc cX12_comes 49 (.getfield 35) 3 52 := ⟨by decide +kernel, rfl⟩
theorem dX12_comes_52 : dc cX12_comes 52 (.sipush 130) 3 55 := ⟨by decide +kernel, rfl⟩
theorem dX12_comes_55 : dc cX12_comes 55 (.bipush 12) 2 57 := ⟨by decide +kernel, rfl⟩
theorem dX12_comes_57 : dc cX12_comes 57 (.iload_n 1) 1 58 := ⟨by decide +kernel, rfl⟩
theorem dX12_comes_58 : dc cX12_comes 58 (.imul) 1 59 := ⟨by decide +kernel, rfl⟩
theorem dX12_comes_59 : dc cX12_comes 59 (.iadd) 1 60 := ⟨by decide +kernel, rfl⟩
theorem dX12_comes_60 : dc cX12_comes 60 (.iload_n 3) 1 61 := ⟨by decide +kernel, rfl⟩
theorem dX12_comes_61 : dc cX12_comes 61 (.iadd) 1 62 := ⟨by decide +kernel, rfl⟩
theorem dX12_comes_62 : dc cX12_comes 62 (.bipush 99) 2 64 := ⟨by decide +kernel, rfl⟩
theorem dX12_comes_64 : dc cX12_comes 64 (.aload_n 0) 1 65 := ⟨by decide +kernel, rfl⟩
theorem dX12_comes_65 : dc cX12_comes 65 (.getfield 35) 3 68 := ⟨by decide +kernel, rfl⟩
theorem dX12_comes_68 : dc cX12_comes 68 (.sipush 130) 3 71 := ⟨by decide +kernel, rfl⟩
theorem dX12_comes_71 : dc cX12_comes 71 (.bipush 12) 2 73 := ⟨by decide +kernel, rfl⟩
theorem dX12_comes_73 : dc cX12_comes 73 (.iload_n 1) 1 74 := ⟨by decide +kernel, rfl⟩
theorem dX12_comes_74 : dc cX12_comes 74 (.imul) 1 75 := ⟨by decide +kernel, rfl⟩
theorem dX12_comes_75 : dc cX12_comes 75 (.iadd) 1 76 := ⟨by decide +kernel, rfl⟩
theorem dX12_comes_76 : dc cX12_comes 76 (.iload_n 3) 1 77 := ⟨by decide +kernel, rfl⟩
theorem dX12_comes_77 : dc cX12_comes 77 (.iadd) 1 78 := ⟨by decide +kernel, rfl⟩
theorem dX12_comes_78 : dc cX12_comes 78 (.iaload) 1 79 := ⟨by decide +kernel, rfl⟩
theorem dX12_comes_79 : dc cX12_comes 79 (.iconst 1) 1 80 := ⟨by decide +kernel, rfl⟩
theorem dX12_comes_80 : dc cX12_comes 80 (.iadd) 1 81 := ⟨by decide +kernel, rfl⟩
theorem dX12_comes_81 : dc cX12_comes 81 (.invokestatic 381) 3 84 := ⟨by decide +kernel, rfl⟩
theorem dX12_comes_84 : dc cX12_comes 84 (.iastore) 1 85 := ⟨by decide +kernel, rfl⟩
theorem dX12_comes_85 : dc cX12_comes 85 (.aload_n 0) 1 86 := ⟨by decide +kernel, rfl⟩
theorem dX12_comes_86 : dc cX12_comes 86 (.dup) 1 87 := ⟨by decide +kernel, rfl⟩
theorem dX12_comes_87 : dc cX12_comes 87 (.getfield 384) 3 90 := ⟨by decide +kernel, rfl⟩
theorem dX12_comes_90 : dc cX12_comes 90 (.iconst 1) 1 91 := ⟨by decide +kernel, rfl⟩
theorem dX12_comes_91 : dc cX12_comes 91 (.iload_n 1) 1 92 := ⟨by decide +kernel, rfl⟩
theorem dX12_comes_92 : dc cX12_comes 92 (.ishl) 1 93 := ⟨by decide +kernel, rfl⟩
theorem dX12_comes_93 : dc cX12_comes 93 (.ior) 1 94 := ⟨by decide +kernel, rfl⟩
theorem dX12_comes_94 : dc cX12_comes 94 (.putfield 384) 3 97 := ⟨by decide +kernel, rfl⟩
theorem dX12_comes_97 : dc cX12_comes 97 (.iload_n 1) 1 98 := ⟨by decide +kernel, rfl⟩
theorem dX12_comes_98 : dc cX12_comes 98 (.iload_n 2) 1 99 := ⟨by decide +kernel, rfl⟩
theorem dX12_comes_99 : dc cX12_comes 99 (.if_icmp .ne 4) 3 102 := ⟨by decide +kernel, rfl⟩
theorem dX12_comes_102 : dc cX12_comes 102 (.return_) 1 103 := ⟨by decide +kernel, rfl⟩
theorem dX12_comes_103 : dc cX12_comes 103 (.aload_n 0) 1 104 := ⟨by decide +kernel, rfl⟩
theorem dX12_comes_104 : dc cX12_comes 104 (.getfield 35) 3 107 := ⟨by decide +kernel, rfl⟩
theorem dX12_comes_107 : dc cX12_comes 107 (.bipush 82) 2 109 := ⟨by decide +kernel, rfl⟩
theorem dX12_comes_109 : dc cX12_comes 109 (.iload_n 1) 1 110 := ⟨by decide +kernel, rfl⟩
theorem dX12_comes_110 : dc cX12_comes 110 (.iadd) 1 111 := ⟨by decide +kernel, rfl⟩
theorem dX12_comes_111 : dc cX12_comes 111 (.iconst (-1)) 1 112 := ⟨by decide +kernel, rfl⟩
theorem dX12_comes_112 : dc cX12_comes 112 (.iastore) 1 113 := ⟨by decide +kernel, rfl⟩
theorem dX12_comes_113 : dc cX12_comes 113 (.aload_n 0) 1 114 := ⟨by decide +kernel, rfl⟩
theorem dX12_comes_114 : dc cX12_comes 114 (.iload_n 1) 1 115 := ⟨by decide +kernel, rfl⟩
theorem dX12_comes_115 : dc cX12_comes 115 (.iload_n 2) 1 116 := ⟨by decide +kernel, rfl⟩
theorem dX12_comes_116 : dc cX12_comes 116 (.aload_n 0) 1 117 := ⟨by decide +kernel, rfl⟩
theorem dX12_comes_117 : dc cX12_comes 117 (.getfield 35) 3 120 := ⟨by decide +kernel, rfl⟩
theorem dX12_comes_120 : dc cX12_comes 120 (.bipush 34) 2 122 := ⟨by decide +kernel, rfl⟩
theorem dX12_comes_122 : dc cX12_comes 122 (.iload_n 3) 1 123 := ⟨by decide +kernel, rfl⟩
theorem dX12_comes_123 : dc cX12_comes 123 (.iadd) 1 124 := ⟨by decide +kernel, rfl⟩
theorem dX12_comes_124 : dc cX12_comes 124 (.iaload) 1 125 := ⟨by decide +kernel, rfl⟩
theorem dX12_comes_125 : dc cX12_comes 125 (.invokevirtual 387) 3 128 := ⟨by decide +kernel, rfl⟩
theorem dX12_comes_128 : dc cX12_comes 128 (.return_) 1 129 := ⟨by decide +kernel, rfl⟩
theorem nm_X12_comes : (yX12_comes).cls ≠ "java/lang/invoke/MethodHandle" ∧ (yX12_comes).cls ≠ "java/lang/invoke/VarHandle" ∧ (parseMethodDescriptor (yX12_comes).desc).map (fun d => d.parameters.length) = some 2 := ⟨by decide +kernel, by decide +kernel, by decide +kernel⟩
set_option maxRecDepth 100000 in
set_option maxHeartbeats 4000000 in
theorem c_X12_comes {l : Launch} {ad : Nat → Nat} {cy : Nat → ClassId} {D : va_G} {z : Nat} (n : Nat) {a0 : Nat} {p1 : Int32} {p2 : Int32} {M : KM} {y : KM} (h0 : kty a0 = 12) (hf : f_X12_comes n a0 p1 p2 M = some y) : KC l ad cy D z yX12_comes cX12_comes 4 none 2 [.ref (ad a0), .int p1, .int p2] M (none, y) := by
  refine kv_enter (by decide +kernel) (Nat.le_of_ble_eq_true rfl) ?_
  intro x hl hD hz G
  subst hl hD hz
  unfold f_X12_comes at hf
  have G : KG ad cy x cX12_comes "NoonGuidesModel" 4 (some none) 2 := G
  show KV ad cy x (none, y) 0 [(0, .ref (ad a0)), (1, .int p1), (2, .int p2)] [] M
  refine v_aload_n G dX12_comes_0 0 rfl ?_
  refine gf_12_20 G h0 t_1511 (Or.inl rfl) dX12_comes_1 ?_
  refine v_bipush (122 : Int32) G dX12_comes_4 (by decide) ?_
  refine v_iload_n G dX12_comes_6 2 rfl ?_
  refine v_iadd G dX12_comes_7 ?_
  obtain ⟨g1, hf⟩ := gd_e hf
  refine al_36 G (kf_12_5 h0) g1 dX12_comes_8 ?_
  refine v_nmi (fun v2 ev2 => ?_)
  replace hf := lt_e hf ev2
  refine v_istore_n [(3, .int v2), (0, .ref (ad a0)), (1, .int p1), (2, .int p2)] G dX12_comes_9 (by decide) rfl ?_
  refine v_aload_n G dX12_comes_10 1 rfl ?_
  refine gf_12_20 G h0 t_1511 (Or.inl rfl) dX12_comes_11 ?_
  refine v_bipush (58 : Int32) G dX12_comes_14 (by decide) ?_
  refine v_iload_n G dX12_comes_16 2 rfl ?_
  refine v_iadd G dX12_comes_17 ?_
  refine v_aload_n G dX12_comes_18 1 rfl ?_
  refine gf_12_20 G h0 t_1511 (Or.inl rfl) dX12_comes_19 ?_
  refine v_bipush (66 : Int32) G dX12_comes_22 (by decide) ?_
  refine v_iload_n G dX12_comes_24 2 rfl ?_
  refine v_iadd G dX12_comes_25 ?_
  obtain ⟨g3, hf⟩ := gd_e hf
  refine al_36 G (kf_12_5 h0) g3 dX12_comes_26 ?_
  obtain ⟨g4, hf⟩ := gd_e hf
  refine as_36 G (kf_12_5 h0) g4 dX12_comes_27 ?_
  refine v_nmM (fun M5 eM5 => ?_)
  replace hf := lt_e hf eM5
  refine v_aload_n G dX12_comes_28 1 rfl ?_
  refine gf_12_20 G h0 t_1511 (Or.inl rfl) dX12_comes_29 ?_
  refine v_bipush (66 : Int32) G dX12_comes_32 (by decide) ?_
  refine v_iload_n G dX12_comes_34 2 rfl ?_
  refine v_iadd G dX12_comes_35 ?_
  refine v_iconst (-1 : Int32) G dX12_comes_36 (by decide) ?_
  obtain ⟨g6, hf⟩ := gd_e hf
  refine as_36 G (kf_12_5 h0) g6 dX12_comes_37 ?_
  refine v_nmM (fun M7 eM7 => ?_)
  replace hf := lt_e hf eM7
  refine v_aload_n G dX12_comes_38 1 rfl ?_
  refine gf_12_20 G h0 t_1511 (Or.inl rfl) dX12_comes_39 ?_
  refine v_bipush (74 : Int32) G dX12_comes_42 (by decide) ?_
  refine v_iload_n G dX12_comes_44 2 rfl ?_
  refine v_iadd G dX12_comes_45 ?_
  refine v_iconst (0 : Int32) G dX12_comes_46 (by decide) ?_
  obtain ⟨g8, hf⟩ := gd_e hf
  refine as_36 G (kf_12_5 h0) g8 dX12_comes_47 ?_
  refine v_nmM (fun M9 eM9 => ?_)
  replace hf := lt_e hf eM9
  refine v_aload_n G dX12_comes_48 1 rfl ?_
  refine gf_12_20 G h0 t_1511 (Or.inl rfl) dX12_comes_49 ?_
  refine v_sipush (130 : Int32) G dX12_comes_52 (by decide) ?_
  refine v_bipush (12 : Int32) G dX12_comes_55 (by decide) ?_
  refine v_iload_n G dX12_comes_57 2 rfl ?_
  refine v_imul G dX12_comes_58 ?_
  refine v_iadd G dX12_comes_59 ?_
  refine v_iload_n G dX12_comes_60 0 rfl ?_
  refine v_iadd G dX12_comes_61 ?_
  refine v_bipush (99 : Int32) G dX12_comes_62 (by decide) ?_
  refine v_aload_n G dX12_comes_64 1 rfl ?_
  refine gf_12_20 G h0 t_1511 (Or.inl rfl) dX12_comes_65 ?_
  refine v_sipush (130 : Int32) G dX12_comes_68 (by decide) ?_
  refine v_bipush (12 : Int32) G dX12_comes_71 (by decide) ?_
  refine v_iload_n G dX12_comes_73 2 rfl ?_
  refine v_imul G dX12_comes_74 ?_
  refine v_iadd G dX12_comes_75 ?_
  refine v_iload_n G dX12_comes_76 0 rfl ?_
  refine v_iadd G dX12_comes_77 ?_
  obtain ⟨g10, hf⟩ := gd_e hf
  refine al_36 G (kf_12_5 h0) g10 dX12_comes_78 ?_
  refine v_iconst (1 : Int32) G dX12_comes_79 (by decide) ?_
  refine v_iadd G dX12_comes_80 ?_
  refine v_mmin G (by decide) t_2022 t_658 t_19 t_659 (Nat.le_of_ble_eq_true rfl) dX12_comes_81 ?_
  refine v_nmi (fun v11 ev11 => ?_)
  replace hf := lt_e hf ev11
  obtain ⟨g12, hf⟩ := gd_e hf
  refine as_36 G (kf_12_5 h0) g12 dX12_comes_84 ?_
  refine v_nmM (fun M13 eM13 => ?_)
  replace hf := lt_e hf eM13
  refine v_aload_n G dX12_comes_85 1 rfl ?_
  refine v_dup G dX12_comes_86 rfl ?_
  refine gf_12_28 G h0 t_1519 (Or.inl rfl) dX12_comes_87 ?_
  refine v_iconst (1 : Int32) G dX12_comes_90 (by decide) ?_
  refine v_iload_n G dX12_comes_91 2 rfl ?_
  refine v_ishl G dX12_comes_92 ?_
  refine v_ior G dX12_comes_93 ?_
  refine pf_12_28 G h0 t_1519 (Or.inl rfl) dX12_comes_94 ?_
  refine v_nmM (fun M14 eM14 => ?_)
  replace hf := lt_e hf eM14
  refine v_iload_n G dX12_comes_97 2 rfl ?_
  refine v_iload_n G dX12_comes_98 3 rfl ?_
  refine v_icmp_ne 103 G dX12_comes_99 (by decide) (fun h19 => ?_) (fun h19 => ?_)
  · replace hf := (if_neg h19).symm.trans hf
    refine v_aload_n G dX12_comes_103 1 rfl ?_
    refine gf_12_20 G h0 t_1511 (Or.inl rfl) dX12_comes_104 ?_
    refine v_bipush (82 : Int32) G dX12_comes_107 (by decide) ?_
    refine v_iload_n G dX12_comes_109 2 rfl ?_
    refine v_iadd G dX12_comes_110 ?_
    refine v_iconst (-1 : Int32) G dX12_comes_111 (by decide) ?_
    obtain ⟨g15, hf⟩ := gd_e hf
    refine as_36 G (kf_12_5 h0) g15 dX12_comes_112 ?_
    refine v_nmM (fun M16 eM16 => ?_)
    replace hf := lt_e hf eM16
    refine v_aload_n G dX12_comes_113 1 rfl ?_
    refine v_iload_n G dX12_comes_114 2 rfl ?_
    refine v_iload_n G dX12_comes_115 3 rfl ?_
    refine v_aload_n G dX12_comes_116 1 rfl ?_
    refine gf_12_20 G h0 t_1511 (Or.inl rfl) dX12_comes_117 ?_
    refine v_bipush (34 : Int32) G dX12_comes_120 (by decide) ?_
    refine v_iload_n G dX12_comes_122 0 rfl ?_
    refine v_iadd G dX12_comes_123 ?_
    obtain ⟨g17, hf⟩ := gd_e hf
    refine al_36 G (kf_12_5 h0) g17 dX12_comes_124 ?_
    obtain ⟨v18, hcv18, hf⟩ := bd_e hf
    refine v_callV [.int p1, .int p2, .int (M16.1 (a0 + 5) (((34 : Int32) + v2)).toNatClampNeg)] G (c_X12_owe n h0 hcv18) h0 (by decide) rfl rfl rfl t_2023 t_2025 t_p125 t_17 t_2026 nm_X12_owe (by decide) (by decide) rfl rfl (Nat.le_of_ble_eq_true rfl) dX12_comes_125 (kv_rv ?_)
    obtain rfl := Option.some.inj hf
    exact v_vret G dX12_comes_128
  · replace hf := (if_pos h19).symm.trans hf
    obtain rfl := Option.some.inj hf
    exact v_vret G dX12_comes_102
abbrev cX12_moves : ByteArray := prog_14_method_102_code
def yX12_moves : MethodName := ⟨RX12, "moves", "(IIZZ)V"⟩
theorem dX12_moves_0 : dc cX12_moves 0 (.iload_n 3) 1 1 := ⟨by decide +kernel, rfl⟩
theorem dX12_moves_1 : dc cX12_moves 1 (.ifCond .ne 29) 3 4 := ⟨by decide +kernel, rfl⟩
theorem dX12_moves_4 : dc cX12_moves 4 (.aload_n 0) 1 5 := ⟨by decide +kernel, rfl⟩
theorem dX12_moves_5 : dc cX12_moves 5 (.getfield 35) 3 8 := ⟨by decide +kernel, rfl⟩
theorem dX12_moves_8 : dc cX12_moves 8 (.bipush 90) 2 10 := ⟨by decide +kernel, rfl⟩
theorem dX12_moves_10 : dc cX12_moves 10 (.iload_n 1) 1 11 := ⟨by decide +kernel, rfl⟩
theorem dX12_moves_11 : dc cX12_moves 11 (.iadd) 1 12 := ⟨by decide +kernel, rfl⟩
theorem dX12_moves_12 : dc cX12_moves 12 (.dup2) 1 13 := ⟨by decide +kernel, rfl⟩
theorem dX12_moves_13 : dc cX12_moves 13 (.iaload) 1 14 := ⟨by decide +kernel, rfl⟩
theorem dX12_moves_14 : dc cX12_moves 14 (.iconst 1) 1 15 := ⟨by decide +kernel, rfl⟩
theorem dX12_moves_15 : dc cX12_moves 15 (.iadd) 1 16 := ⟨by decide +kernel, rfl⟩
theorem dX12_moves_16 : dc cX12_moves 16 (.iastore) 1 17 := ⟨by decide +kernel, rfl⟩
theorem dX12_moves_17 : dc cX12_moves 17 (.aload_n 0) 1 18 := ⟨by decide +kernel, rfl⟩
theorem dX12_moves_18 : dc cX12_moves 18 (.dup) 1 19 := ⟨by decide +kernel, rfl⟩
theorem dX12_moves_19 : dc cX12_moves 19 (.getfield 391) 3 22 := ⟨by decide +kernel, rfl⟩
theorem dX12_moves_22 : dc cX12_moves 22 (.iconst 1) 1 23 := ⟨by decide +kernel, rfl⟩
theorem dX12_moves_23 : dc cX12_moves 23 (.iadd) 1 24 := ⟨by decide +kernel, rfl⟩
theorem dX12_moves_24 : dc cX12_moves 24 (.putfield 391) 3 27 := ⟨by decide +kernel, rfl⟩
theorem dX12_moves_27 : dc cX12_moves 27 (.goto 30) 3 30 := ⟨by decide +kernel, rfl⟩
theorem dX12_moves_30 : dc cX12_moves 30 (.iload 4) 2 32 := ⟨by decide +kernel, rfl⟩
theorem dX12_moves_32 : dc cX12_moves 32 (.ifCond .eq 12) 3 35 := ⟨by decide +kernel, rfl⟩
theorem dX12_moves_35 : dc cX12_moves 35 (.aload_n 0) 1 36 := ⟨by decide +kernel, rfl⟩
theorem dX12_moves_36 : dc cX12_moves 36 (.iload_n 1) 1 37 := ⟨by decide +kernel, rfl⟩
theorem dX12_moves_37 : dc cX12_moves 37 (.iload_n 2) 1 38 := ⟨by decide +kernel, rfl⟩
theorem dX12_moves_38 : dc cX12_moves 38 (.invokevirtual 402) 3 41 := ⟨by decide +kernel, rfl⟩
theorem dX12_moves_41 : dc cX12_moves 41 (.goto 16) 3 44 := ⟨by decide +kernel, rfl⟩
theorem dX12_moves_44 : dc cX12_moves 44 (.aload_n 0) 1 45 := ⟨by decide +kernel, rfl⟩
theorem dX12_moves_45 : dc cX12_moves 45 (.getfield 35) 3 48 := ⟨by decide +kernel, rfl⟩
theorem dX12_moves_48 : dc cX12_moves 48 (.bipush 74) 2 50 := ⟨by decide +kernel, rfl⟩
theorem dX12_moves_50 : dc cX12_moves 50 (.iload_n 1) 1 51 := ⟨by decide +kernel, rfl⟩
theorem dX12_moves_51 : dc cX12_moves 51 (.iadd) 1 52 := ⟨by decide +kernel, rfl⟩
theorem dX12_moves_52 : dc cX12_moves 52 (.dup2) 1 53 := ⟨by decide +kernel, rfl⟩
theorem dX12_moves_53 : dc cX12_moves 53 (.iaload) 1 54 := ⟨by decide +kernel, rfl⟩
theorem dX12_moves_54 : dc cX12_moves 54 (.iconst 1) 1 55 := ⟨by decide +kernel, rfl⟩
theorem dX12_moves_55 : dc cX12_moves 55 (.isub) 1 56 := ⟨by decide +kernel, rfl⟩
theorem dX12_moves_56 : dc cX12_moves 56 (.iastore) 1 57 := ⟨by decide +kernel, rfl⟩
theorem dX12_moves_57 : dc cX12_moves 57 (.return_) 1 58 := ⟨by decide +kernel, rfl⟩
theorem nm_X12_moves : (yX12_moves).cls ≠ "java/lang/invoke/MethodHandle" ∧ (yX12_moves).cls ≠ "java/lang/invoke/VarHandle" ∧ (parseMethodDescriptor (yX12_moves).desc).map (fun d => d.parameters.length) = some 4 := ⟨by decide +kernel, by decide +kernel, by decide +kernel⟩
set_option maxRecDepth 100000 in
set_option maxHeartbeats 4000000 in
theorem c_X12_moves {l : Launch} {ad : Nat → Nat} {cy : Nat → ClassId} {D : va_G} {z : Nat} (n : Nat) {a0 : Nat} {p1 : Int32} {p2 : Int32} {p3 : Int32} {p4 : Int32} {M : KM} {y : KM} (h0 : kty a0 = 12) (hf : f_X12_moves n a0 p1 p2 p3 p4 M = some y) : KC l ad cy D z yX12_moves cX12_moves 5 none 3 [.ref (ad a0), .int p1, .int p2, .int p3, .int p4] M (none, y) := by
  refine kv_enter (by decide +kernel) (Nat.le_of_ble_eq_true rfl) ?_
  intro x hl hD hz G
  subst hl hD hz
  unfold f_X12_moves at hf
  have G : KG ad cy x cX12_moves "NoonGuidesModel" 5 (some none) 3 := G
  show KV ad cy x (none, y) 0 [(0, .ref (ad a0)), (1, .int p1), (2, .int p2), (3, .int p3), (4, .int p4)] [] M
  refine v_iload_n G dX12_moves_0 3 rfl ?_
  refine v_if_ne 30 G dX12_moves_1 (by decide) (fun h12 => ?_) (fun h12 => ?_)
  · replace hf := (if_neg h12).symm.trans hf
    refine v_iload G dX12_moves_30 4 rfl ?_
    refine v_if_eq 44 G dX12_moves_32 (by decide) (fun h6 => ?_) (fun h6 => ?_)
    · replace hf := (if_pos h6).symm.trans hf
      refine v_aload_n G dX12_moves_44 0 rfl ?_
      refine gf_12_20 G h0 t_1511 (Or.inl rfl) dX12_moves_45 ?_
      refine v_bipush (74 : Int32) G dX12_moves_48 (by decide) ?_
      refine v_iload_n G dX12_moves_50 1 rfl ?_
      refine v_iadd G dX12_moves_51 ?_
      refine v_nmi (fun v1 ev1 => ?_)
      replace hf := lt_e hf ev1
      refine v_dup2 G dX12_moves_52 rfl rfl ?_
      obtain ⟨g2, hf⟩ := gd_e hf
      refine al_36 G (kf_12_5 h0) g2 dX12_moves_53 ?_
      refine v_iconst (1 : Int32) G dX12_moves_54 (by decide) ?_
      refine v_isub G dX12_moves_55 ?_
      obtain ⟨g3, hf⟩ := gd_e hf
      refine as_36 G (kf_12_5 h0) g3 dX12_moves_56 ?_
      refine v_nmM (fun M4 eM4 => ?_)
      replace hf := lt_e hf eM4
      obtain rfl := Option.some.inj hf
      exact v_vret G dX12_moves_57
    · replace hf := (if_neg h6).symm.trans hf
      refine v_aload_n G dX12_moves_35 0 rfl ?_
      refine v_iload_n G dX12_moves_36 1 rfl ?_
      refine v_iload_n G dX12_moves_37 2 rfl ?_
      obtain ⟨v5, hcv5, hf⟩ := bd_e hf
      refine v_callV [.int p1, .int p2] G (c_X12_comes n h0 hcv5) h0 (by decide) rfl rfl rfl t_2018 t_2020 t_p124 t_17 t_2021 nm_X12_comes (by decide) (by decide) rfl rfl (Nat.le_of_ble_eq_true rfl) dX12_moves_38 (kv_rv ?_)
      refine v_goto 57 G dX12_moves_41 (by decide) ?_
      obtain rfl := Option.some.inj hf
      exact v_vret G dX12_moves_57
  · replace hf := (if_pos h12).symm.trans hf
    refine v_aload_n G dX12_moves_4 0 rfl ?_
    refine gf_12_20 G h0 t_1511 (Or.inl rfl) dX12_moves_5 ?_
    refine v_bipush (90 : Int32) G dX12_moves_8 (by decide) ?_
    refine v_iload_n G dX12_moves_10 1 rfl ?_
    refine v_iadd G dX12_moves_11 ?_
    refine v_nmi (fun v7 ev7 => ?_)
    replace hf := lt_e hf ev7
    refine v_dup2 G dX12_moves_12 rfl rfl ?_
    obtain ⟨g8, hf⟩ := gd_e hf
    refine al_36 G (kf_12_5 h0) g8 dX12_moves_13 ?_
    refine v_iconst (1 : Int32) G dX12_moves_14 (by decide) ?_
    refine v_iadd G dX12_moves_15 ?_
    obtain ⟨g9, hf⟩ := gd_e hf
    refine as_36 G (kf_12_5 h0) g9 dX12_moves_16 ?_
    refine v_nmM (fun M10 eM10 => ?_)
    replace hf := lt_e hf eM10
    refine v_aload_n G dX12_moves_17 0 rfl ?_
    refine v_dup G dX12_moves_18 rfl ?_
    refine gf_12_29 G h0 t_1520 (Or.inl rfl) dX12_moves_19 ?_
    refine v_iconst (1 : Int32) G dX12_moves_22 (by decide) ?_
    refine v_iadd G dX12_moves_23 ?_
    refine pf_12_29 G h0 t_1520 (Or.inl rfl) dX12_moves_24 ?_
    refine v_nmM (fun M11 eM11 => ?_)
    replace hf := lt_e hf eM11
    refine v_goto 57 G dX12_moves_27 (by decide) ?_
    obtain rfl := Option.some.inj hf
    exact v_vret G dX12_moves_57
abbrev cX12_goesOne : ByteArray := prog_14_method_101_code
def yX12_goesOne : MethodName := ⟨RX12, "goesOne", "(IZ)V"⟩
theorem dX12_goesOne_0 : dc cX12_goesOne 0 (.iload_n 2) 1 1 := ⟨by decide +kernel, rfl⟩
theorem dX12_goesOne_1 : dc cX12_goesOne 1 (.ifCond .eq 20) 3 4 := ⟨by decide +kernel, rfl⟩
theorem dX12_goesOne_4 : dc cX12_goesOne 4 (.aload_n 0) 1 5 := ⟨by decide +kernel, rfl⟩
theorem dX12_goesOne_5 : dc cX12_goesOne 5 (.getfield 35) 3 8 := ⟨by decide +kernel, rfl⟩
theorem dX12_goesOne_8 : dc cX12_goesOne 8 (.bipush 74) 2 10 := ⟨by decide +kernel, rfl⟩
theorem dX12_goesOne_10 : dc cX12_goesOne 10 (.iload_n 1) 1 11 := ⟨by decide +kernel, rfl⟩
theorem dX12_goesOne_11 : dc cX12_goesOne 11 (.iadd) 1 12 := ⟨by decide +kernel, rfl⟩
theorem dX12_goesOne_12 : dc cX12_goesOne 12 (.iaload) 1 13 := ⟨by decide +kernel, rfl⟩
theorem dX12_goesOne_13 : dc cX12_goesOne 13 (.iconst 1) 1 14 := ⟨by decide +kernel, rfl⟩
theorem dX12_goesOne_14 : dc cX12_goesOne 14 (.if_icmp .ne 7) 3 17 := ⟨by decide +kernel, rfl⟩
theorem dX12_goesOne_17 : dc cX12_goesOne 17 (.iconst 1) 1 18 := ⟨by decide +kernel, rfl⟩
theorem dX12_goesOne_18 : dc cX12_goesOne 18 (.goto 4) 3 21 := ⟨by decide +kernel, rfl⟩
theorem dX12_goesOne_21 : dc cX12_goesOne 21 (.iconst 0) 1 22 := ⟨by decide +kernel, rfl⟩
theorem dX12_goesOne_22 : dc cX12_goesOne 22 (.istore_n 3) 1 23 := ⟨by decide +kernel, rfl⟩
theorem dX12_goesOne_23 : dc cX12_goesOne 23 (.iconst 0) 1 24 := ⟨by decide +kernel, rfl⟩
theorem dX12_goesOne_24 : dc cX12_goesOne 24 (.istore 4) 2 26 := ⟨by decide +kernel, rfl⟩
theorem dX12_goesOne_26 : dc cX12_goesOne 26 (.iload 4) 2 28 := ⟨by decide +kernel, rfl⟩
theorem dX12_goesOne_28 : dc cX12_goesOne 28 (.aload_n 0) 1 29 := ⟨by decide +kernel, rfl⟩
theorem dX12_goesOne_29 : dc cX12_goesOne 29 (.getfield 35) 3 32 := ⟨by decide +kernel, rfl⟩
theorem dX12_goesOne_32 : dc cX12_goesOne 32 (.iconst 2) 1 33 := ⟨by decide +kernel, rfl⟩
theorem dX12_goesOne_33 : dc cX12_goesOne 33 (.iaload) 1 34 := ⟨by decide +kernel, rfl⟩
theorem dX12_goesOne_34 : dc cX12_goesOne 34 (.if_icmp .ge 41) 3 37 := ⟨by decide +kernel, rfl⟩
theorem dX12_goesOne_37 : dc cX12_goesOne 37 (.iload 4) 2 39 := ⟨by decide +kernel, rfl⟩
theorem dX12_goesOne_39 : dc cX12_goesOne 39 (.iload_n 1) 1 40 := ⟨by decide +kernel, rfl⟩
theorem dX12_goesOne_40 : dc cX12_goesOne 40 (.if_icmp .eq 29) 3 43 := ⟨by decide +kernel, rfl⟩
theorem dX12_goesOne_43 : dc cX12_goesOne 43 (.aload_n 0) 1 44 := ⟨by decide +kernel, rfl⟩
theorem dX12_goesOne_44 : dc cX12_goesOne 44 (.getfield 35) 3 47 := ⟨by decide +kernel, rfl⟩
theorem dX12_goesOne_47 : dc cX12_goesOne 47 (.bipush 82) 2 49 := ⟨by decide +kernel, rfl⟩
theorem dX12_goesOne_49 : dc cX12_goesOne 49 (.iload 4) 2 51 := ⟨by decide +kernel, rfl⟩
theorem dX12_goesOne_51 : dc cX12_goesOne 51 (.iadd) 1 52 := ⟨by decide +kernel, rfl⟩
theorem dX12_goesOne_52 : dc cX12_goesOne 52 (.iaload) 1 53 := ⟨by decide +kernel, rfl⟩
theorem dX12_goesOne_53 : dc cX12_goesOne 53 (.iload_n 1) 1 54 := ⟨by decide +kernel, rfl⟩
theorem dX12_goesOne_54 : dc cX12_goesOne 54 (.if_icmp .eq 6) 3 57 := ⟨by decide +kernel, rfl⟩
theorem dX12_goesOne_57 : dc cX12_goesOne 57 (.goto 12) 3 60 := ⟨by decide +kernel, rfl⟩
theorem dX12_goesOne_60 : dc cX12_goesOne 60 (.aload_n 0) 1 61 := ⟨by decide +kernel, rfl⟩
theorem dX12_goesOne_61 : dc cX12_goesOne 61 (.iload 4) 2 63 := ⟨by decide +kernel, rfl⟩
theorem dX12_goesOne_63 : dc cX12_goesOne 63 (.iload_n 1) 1 64 := ⟨by decide +kernel, rfl⟩
theorem dX12_goesOne_64 : dc cX12_goesOne 64 (.iload_n 2) 1 65 := ⟨by decide +kernel, rfl⟩
theorem dX12_goesOne_65 : dc cX12_goesOne 65 (.iload_n 3) 1 66 := ⟨by decide +kernel, rfl⟩
theorem dX12_goesOne_66 : dc cX12_goesOne 66 (.invokevirtual 398) 3 69 := ⟨by decide +kernel, rfl⟩
theorem dX12_goesOne_69 : dc cX12_goesOne 69 (.iinc 4 1) 3 72 := ⟨by decide +kernel, rfl⟩
theorem dX12_goesOne_72 : dc cX12_goesOne 72 (.goto (-46)) 3 75 := ⟨by decide +kernel, rfl⟩
theorem dX12_goesOne_75 : dc cX12_goesOne 75 (.aload_n 0) 1 76 := ⟨by decide +kernel, rfl⟩
theorem dX12_goesOne_76 : dc cX12_goesOne 76 (.iload_n 1) 1 77 := ⟨by decide +kernel, rfl⟩
theorem dX12_goesOne_77 : dc cX12_goesOne 77 (.iload_n 1) 1 78 := ⟨by decide +kernel, rfl⟩
theorem dX12_goesOne_78 : dc cX12_goesOne 78 (.iload_n 2) 1 79 := ⟨by decide +kernel, rfl⟩
theorem dX12_goesOne_79 : dc cX12_goesOne 79 (.iload_n 3) 1 80 := ⟨by decide +kernel, rfl⟩
theorem dX12_goesOne_80 : dc cX12_goesOne 80 (.invokevirtual 398) 3 83 := ⟨by decide +kernel, rfl⟩
theorem dX12_goesOne_83 : dc cX12_goesOne 83 (.return_) 1 84 := ⟨by decide +kernel, rfl⟩
theorem nm_X12_goesOne : (yX12_goesOne).cls ≠ "java/lang/invoke/MethodHandle" ∧ (yX12_goesOne).cls ≠ "java/lang/invoke/VarHandle" ∧ (parseMethodDescriptor (yX12_goesOne).desc).map (fun d => d.parameters.length) = some 2 := ⟨by decide +kernel, by decide +kernel, by decide +kernel⟩
set_option maxRecDepth 100000 in
set_option maxHeartbeats 4000000 in
theorem s_X12_goesOne_26 {ad : Nat → Nat} {cy : Nat → ClassId} {x : KX} (G : KG ad cy x cX12_goesOne "NoonGuidesModel" 5 (some none) 4) {a0 : Nat} {c1 : Int32} {c2 : Int32} {c3 : Int32} (h0 : kty a0 = 12) {k75 : KM → Option KM} {y : KM} (hk75 : ∀ (M : KM), k75 M = some y → KV ad cy x (none, y) 75 [(0, .ref (ad a0)), (1, .int c1), (2, .int c2), (3, .int c3)] [] M) : ∀ (n : Nat) (w4 : Int32) (M : KM), lp_X12_goesOne_26 n a0 c1 c2 c3 w4 M k75 = some y → KV ad cy x (none, y) 26 [(0, .ref (ad a0)), (1, .int c1), (2, .int c2), (3, .int c3), (4, .int w4)] [] M := by
  intro n
  induction n with
  | zero =>
    intro w4 M hf
    cases hf
  | succ n ih =>
    intro w4 M hf
    rw [lp_X12_goesOne_26] at hf
    refine v_iload G dX12_goesOne_26 4 rfl ?_
    refine v_aload_n G dX12_goesOne_28 0 rfl ?_
    refine gf_12_20 G h0 t_1511 (Or.inl rfl) dX12_goesOne_29 ?_
    refine v_iconst (2 : Int32) G dX12_goesOne_32 (by decide) ?_
    obtain ⟨g2, hf⟩ := gd_e hf
    refine al_36 G (kf_12_5 h0) g2 dX12_goesOne_33 ?_
    refine v_icmp_ge 75 G dX12_goesOne_34 (by decide) (fun h9 => ?_) (fun h9 => ?_)
    · replace hf := (if_pos h9).symm.trans hf
      refine v_sub _ [0, 1, 2, 3] rfl ?_
      exact hk75 M hf
    · replace hf := (if_neg h9).symm.trans hf
      refine v_iload G dX12_goesOne_37 4 rfl ?_
      refine v_iload_n G dX12_goesOne_39 1 rfl ?_
      obtain ⟨j69, ej69, hf⟩ := lt_j hf
      have hj69 : ∀ (M3 : KM), j69 M3 = some y → KV ad cy x (none, y) 69 [(0, .ref (ad a0)), (1, .int c1), (2, .int c2), (3, .int c3), (4, .int w4)] [] M3 := by
        intro M3 hf
        rw [ej69] at hf
        obtain ⟨v4, ev4⟩ : ∃ q : Int32, q = w4 + (1 : Int32) := ⟨_, rfl⟩
        replace hf := lt_e hf ev4
        refine v_iinc v4 [(4, .int v4), (0, .ref (ad a0)), (1, .int c1), (2, .int c2), (3, .int c3)] G dX12_goesOne_69 4 rfl (by rw [ev4]; rfl) (by decide) rfl ?_
        refine v_goto 26 G dX12_goesOne_72 (by decide) ?_
        refine v_sub _ [1, 2, 3, 4, 0] rfl ?_
        exact ih v4 M3 hf
      refine v_icmp_eq 69 G dX12_goesOne_40 (by decide) (fun h8 => ?_) (fun h8 => ?_)
      · replace hf := (if_pos h8).symm.trans hf
        refine v_sub _ [0, 1, 2, 3, 4] rfl ?_
        exact hj69 M hf
      · replace hf := (if_neg h8).symm.trans hf
        refine v_aload_n G dX12_goesOne_43 0 rfl ?_
        refine gf_12_20 G h0 t_1511 (Or.inl rfl) dX12_goesOne_44 ?_
        refine v_bipush (82 : Int32) G dX12_goesOne_47 (by decide) ?_
        refine v_iload G dX12_goesOne_49 4 rfl ?_
        refine v_iadd G dX12_goesOne_51 ?_
        obtain ⟨g5, hf⟩ := gd_e hf
        refine al_36 G (kf_12_5 h0) g5 dX12_goesOne_52 ?_
        refine v_iload_n G dX12_goesOne_53 1 rfl ?_
        refine v_icmp_eq 60 G dX12_goesOne_54 (by decide) (fun h7 => ?_) (fun h7 => ?_)
        · replace hf := (if_pos h7).symm.trans hf
          refine v_aload_n G dX12_goesOne_60 0 rfl ?_
          refine v_iload G dX12_goesOne_61 4 rfl ?_
          refine v_iload_n G dX12_goesOne_63 1 rfl ?_
          refine v_iload_n G dX12_goesOne_64 2 rfl ?_
          refine v_iload_n G dX12_goesOne_65 3 rfl ?_
          obtain ⟨v6, hcv6, hf⟩ := bd_e hf
          refine v_callV [.int w4, .int c1, .int c2, .int c3] G (c_X12_moves n h0 hcv6) h0 (by decide) rfl rfl rfl t_2014 t_2016 t_p123 t_17 t_2017 nm_X12_moves (by decide) (by decide) rfl rfl (Nat.le_of_ble_eq_true rfl) dX12_goesOne_66 (kv_rv ?_)
          refine v_sub _ [0, 1, 2, 3, 4] rfl ?_
          exact hj69 v6 hf
        · replace hf := (if_neg h7).symm.trans hf
          refine v_goto 69 G dX12_goesOne_57 (by decide) ?_
          refine v_sub _ [0, 1, 2, 3, 4] rfl ?_
          exact hj69 M hf
set_option maxRecDepth 100000 in
set_option maxHeartbeats 4000000 in
theorem c_X12_goesOne {l : Launch} {ad : Nat → Nat} {cy : Nat → ClassId} {D : va_G} {z : Nat} (n : Nat) {a0 : Nat} {p1 : Int32} {p2 : Int32} {M : KM} {y : KM} (h0 : kty a0 = 12) (hf : f_X12_goesOne n a0 p1 p2 M = some y) : KC l ad cy D z yX12_goesOne cX12_goesOne 5 none 4 [.ref (ad a0), .int p1, .int p2] M (none, y) := by
  refine kv_enter (by decide +kernel) (Nat.le_of_ble_eq_true rfl) ?_
  intro x hl hD hz G
  subst hl hD hz
  unfold f_X12_goesOne at hf
  have G : KG ad cy x cX12_goesOne "NoonGuidesModel" 5 (some none) 4 := G
  show KV ad cy x (none, y) 0 [(0, .ref (ad a0)), (1, .int p1), (2, .int p2)] [] M
  refine v_iload_n G dX12_goesOne_0 2 rfl ?_
  obtain ⟨j22, ej22, hf⟩ := lt_j hf
  have hj22 : ∀ (x1 : Int32), j22 x1 = some y → KV ad cy x (none, y) 22 [(0, .ref (ad a0)), (1, .int p1), (2, .int p2)] [.int x1] M := by
    intro x1 hf
    rw [ej22] at hf
    refine v_istore_n [(3, .int x1), (0, .ref (ad a0)), (1, .int p1), (2, .int p2)] G dX12_goesOne_22 (by decide) rfl ?_
    refine v_iconst (0 : Int32) G dX12_goesOne_23 (by decide) ?_
    refine v_istore [(4, .int (0 : Int32)), (3, .int x1), (0, .ref (ad a0)), (1, .int p1), (2, .int p2)] G dX12_goesOne_24 (by decide) rfl ?_
    refine v_sub _ [2, 3, 4, 1, 0] rfl ?_
    refine s_X12_goesOne_26 G h0 (fun M10 hf => ?_) n (0 : Int32) M hf
    · refine v_aload_n G dX12_goesOne_75 0 rfl ?_
      refine v_iload_n G dX12_goesOne_76 1 rfl ?_
      refine v_iload_n G dX12_goesOne_77 1 rfl ?_
      refine v_iload_n G dX12_goesOne_78 2 rfl ?_
      refine v_iload_n G dX12_goesOne_79 3 rfl ?_
      obtain ⟨v11, hcv11, hf⟩ := bd_e hf
      refine v_callV [.int p1, .int p1, .int p2, .int x1] G (c_X12_moves n h0 hcv11) h0 (by decide) rfl rfl rfl t_2014 t_2016 t_p123 t_17 t_2017 nm_X12_moves (by decide) (by decide) rfl rfl (Nat.le_of_ble_eq_true rfl) dX12_goesOne_80 (kv_rv ?_)
      obtain rfl := Option.some.inj hf
      exact v_vret G dX12_goesOne_83
  obtain ⟨j21, ej21, hf⟩ := lt_j hf
  have hj21 : j21 = some y → KV ad cy x (none, y) 21 [(0, .ref (ad a0)), (1, .int p1), (2, .int p2)] [] M := by
    intro hf
    rw [ej21] at hf
    refine v_iconst (0 : Int32) G dX12_goesOne_21 (by decide) ?_
    refine v_sub _ [0, 1, 2] rfl ?_
    exact hj22 (0 : Int32) hf
  refine v_if_eq 21 G dX12_goesOne_1 (by decide) (fun h14 => ?_) (fun h14 => ?_)
  · replace hf := (if_pos h14).symm.trans hf
    refine v_sub _ [0, 1, 2] rfl ?_
    exact hj21 hf
  · replace hf := (if_neg h14).symm.trans hf
    refine v_aload_n G dX12_goesOne_4 0 rfl ?_
    refine gf_12_20 G h0 t_1511 (Or.inl rfl) dX12_goesOne_5 ?_
    refine v_bipush (74 : Int32) G dX12_goesOne_8 (by decide) ?_
    refine v_iload_n G dX12_goesOne_10 1 rfl ?_
    refine v_iadd G dX12_goesOne_11 ?_
    obtain ⟨g12, hf⟩ := gd_e hf
    refine al_36 G (kf_12_5 h0) g12 dX12_goesOne_12 ?_
    refine v_iconst (1 : Int32) G dX12_goesOne_13 (by decide) ?_
    refine v_icmp_ne 21 G dX12_goesOne_14 (by decide) (fun h13 => ?_) (fun h13 => ?_)
    · replace hf := (if_neg h13).symm.trans hf
      refine v_sub _ [0, 1, 2] rfl ?_
      exact hj21 hf
    · replace hf := (if_pos h13).symm.trans hf
      refine v_iconst (1 : Int32) G dX12_goesOne_17 (by decide) ?_
      refine v_goto 22 G dX12_goesOne_18 (by decide) ?_
      refine v_sub _ [0, 1, 2] rfl ?_
      exact hj22 (1 : Int32) hf
abbrev cX12_goesMinute : ByteArray := prog_14_method_100_code
def yX12_goesMinute : MethodName := ⟨RX12, "goesMinute", "()V"⟩
theorem dX12_goesMinute_0 : dc cX12_goesMinute 0 (.aload_n 0) 1 1 := ⟨by decide +kernel, rfl⟩
theorem dX12_goesMinute_1 : dc cX12_goesMinute 1 (.aload_n 0) 1 2 := ⟨by decide +kernel, rfl⟩
theorem dX12_goesMinute_2 : dc cX12_goesMinute 2 (.getfield 35) 3 5 := ⟨by decide +kernel, rfl⟩
theorem dX12_goesMinute_5 : dc cX12_goesMinute 5 (.iconst 5) 1 6 := ⟨by decide +kernel, rfl⟩
theorem dX12_goesMinute_6 : dc cX12_goesMinute 6 (.iaload) 1 7 := ⟨by decide +kernel, rfl⟩
theorem dX12_goesMinute_7 : dc cX12_goesMinute 7 (.invokevirtual 343) 3 10 := ⟨by decide +kernel, rfl⟩
theorem dX12_goesMinute_10 : dc cX12_goesMinute 10 (.istore_n 1) 1 11 := ⟨by decide +kernel, rfl⟩
theorem dX12_goesMinute_11 : dc cX12_goesMinute 11 (.aload_n 0) 1 12 := ⟨by decide +kernel, rfl⟩
theorem dX12_goesMinute_12 : dc cX12_goesMinute 12 (.iconst 0) 1 13 := ⟨by decide +kernel, rfl⟩
theorem dX12_goesMinute_13 : dc cX12_goesMinute 13 (.putfield 384) 3 16 := ⟨by decide +kernel, rfl⟩
theorem dX12_goesMinute_16 : dc cX12_goesMinute 16 (.aload_n 0) 1 17 := ⟨by decide +kernel, rfl⟩
theorem dX12_goesMinute_17 : dc cX12_goesMinute 17 (.iconst 0) 1 18 := ⟨by decide +kernel, rfl⟩
theorem dX12_goesMinute_18 : dc cX12_goesMinute 18 (.putfield 391) 3 21 := ⟨by decide +kernel, rfl⟩
theorem dX12_goesMinute_21 : dc cX12_goesMinute 21 (.iconst 0) 1 22 := ⟨by decide +kernel, rfl⟩
theorem dX12_goesMinute_22 : dc cX12_goesMinute 22 (.istore_n 2) 1 23 := ⟨by decide +kernel, rfl⟩
theorem dX12_goesMinute_23 : dc cX12_goesMinute 23 (.iload_n 2) 1 24 := ⟨by decide +kernel, rfl⟩
theorem dX12_goesMinute_24 : dc cX12_goesMinute 24 (.aload_n 0) 1 25 := ⟨by decide +kernel, rfl⟩
theorem dX12_goesMinute_25 : dc cX12_goesMinute 25 (.getfield 35) 3 28 := ⟨by decide +kernel, rfl⟩
theorem dX12_goesMinute_28 : dc cX12_goesMinute 28 (.iconst 2) 1 29 := ⟨by decide +kernel, rfl⟩
theorem dX12_goesMinute_29 : dc cX12_goesMinute 29 (.iaload) 1 30 := ⟨by decide +kernel, rfl⟩
theorem dX12_goesMinute_30 : dc cX12_goesMinute 30 (.if_icmp .ge 49) 3 33 := ⟨by decide +kernel, rfl⟩
theorem dX12_goesMinute_33 : dc cX12_goesMinute 33 (.aload_n 0) 1 34 := ⟨by decide +kernel, rfl⟩
theorem dX12_goesMinute_34 : dc cX12_goesMinute 34 (.iload_n 2) 1 35 := ⟨by decide +kernel, rfl⟩
theorem dX12_goesMinute_35 : dc cX12_goesMinute 35 (.invokevirtual 350) 3 38 := ⟨by decide +kernel, rfl⟩
theorem dX12_goesMinute_38 : dc cX12_goesMinute 38 (.ifCond .eq 35) 3 41 := ⟨by decide +kernel, rfl⟩
theorem dX12_goesMinute_41 : dc cX12_goesMinute 41 (.aload_n 0) 1 42 := ⟨by decide +kernel, rfl⟩
theorem dX12_goesMinute_42 : dc cX12_goesMinute 42 (.getfield 35) 3 45 := ⟨by decide +kernel, rfl⟩
theorem dX12_goesMinute_45 : dc cX12_goesMinute 45 (.bipush 82) 2 47 := ⟨by decide +kernel, rfl⟩
theorem dX12_goesMinute_47 : dc cX12_goesMinute 47 (.iload_n 2) 1 48 := ⟨by decide +kernel, rfl⟩
theorem dX12_goesMinute_48 : dc cX12_goesMinute 48 (.iadd) 1 49 := ⟨by decide +kernel, rfl⟩
theorem dX12_goesMinute_49 : dc cX12_goesMinute 49 (.iaload) 1 50 := ⟨by decide +kernel, rfl⟩
theorem dX12_goesMinute_50 : dc cX12_goesMinute 50 (.ifCond .ge 23) 3 53 := ⟨by decide +kernel, rfl⟩
theorem dX12_goesMinute_53 : dc cX12_goesMinute 53 (.aload_n 0) 1 54 := ⟨by decide +kernel, rfl⟩
theorem dX12_goesMinute_54 : dc cX12_goesMinute 54 (.iload_n 2) 1 55 := ⟨by decide +kernel, rfl⟩
theorem dX12_goesMinute_55 : dc cX12_goesMinute 55 (.aload_n 0) 1 56 := ⟨by decide +kernel, rfl⟩
theorem dX12_goesMinute_56 : dc cX12_goesMinute 56 (.iload_n 2) 1 57 := ⟨by decide +kernel, rfl⟩
theorem dX12_goesMinute_57 : dc cX12_goesMinute 57 (.aload_n 0) 1 58 := ⟨by decide +kernel, rfl⟩
theorem dX12_goesMinute_58 : dc cX12_goesMinute 58 (.getfield 35) 3 61 := ⟨by decide +kernel, rfl⟩
theorem dX12_goesMinute_61 : dc cX12_goesMinute 61 (.bipush 122) 2 63 := ⟨by decide +kernel, rfl⟩
theorem dX12_goesMinute_63 : dc cX12_goesMinute 63 (.iload_n 2) 1 64 := ⟨by decide +kernel, rfl⟩
theorem dX12_goesMinute_64 : dc cX12_goesMinute 64 (.iadd) 1 65 := ⟨by decide +kernel, rfl⟩
theorem dX12_goesMinute_65 : dc cX12_goesMinute 65 (.iaload) 1 66 := ⟨by decide +kernel, rfl⟩
theorem dX12_goesMinute_66 : dc cX12_goesMinute 66 (.iload_n 1) 1 67 := ⟨by decide +kernel, rfl⟩
theorem dX12_goesMinute_67 : dc cX12_goesMinute 67 (.invokevirtual 346) 3 70 := ⟨by decide +kernel, rfl⟩
theorem dX12_goesMinute_70 : dc cX12_goesMinute 70 (.invokevirtual 394) 3 73 := ⟨by decide +kernel, rfl⟩
theorem dX12_goesMinute_73 : dc cX12_goesMinute 73 (.iinc 2 1) 3 76 := ⟨by decide +kernel, rfl⟩
theorem dX12_goesMinute_76 : dc cX12_goesMinute 76 (.goto (-53)) 3 79 := ⟨by decide +kernel, rfl⟩
theorem dX12_goesMinute_79 : dc cX12_goesMinute 79 (.aload_n 0) 1 80 := ⟨by decide +kernel, rfl⟩
theorem dX12_goesMinute_80 : dc cX12_goesMinute 80 (.getfield 35) 3 83 := ⟨by decide +kernel, rfl⟩
theorem dX12_goesMinute_83 : dc cX12_goesMinute 83 (.iconst 5) 1 84 := ⟨by decide +kernel, rfl⟩
theorem dX12_goesMinute_84 : dc cX12_goesMinute 84 (.dup2) 1 85 := ⟨by decide +kernel, rfl⟩
theorem dX12_goesMinute_85 : dc cX12_goesMinute 85 (.iaload) 1 86 := ⟨by decide +kernel, rfl⟩
theorem dX12_goesMinute_86 : dc cX12_goesMinute 86 (.iconst 1) 1 87 := ⟨by decide +kernel, rfl⟩
theorem dX12_goesMinute_87 : dc cX12_goesMinute 87 (.iadd) 1 88 := ⟨by decide +kernel, rfl⟩
theorem dX12_goesMinute_88 : dc cX12_goesMinute 88 (.iastore) 1 89 := ⟨by decide +kernel, rfl⟩
theorem dX12_goesMinute_89 : dc cX12_goesMinute 89 (.return_) 1 90 := ⟨by decide +kernel, rfl⟩
theorem nm_X12_goesMinute : (yX12_goesMinute).cls ≠ "java/lang/invoke/MethodHandle" ∧ (yX12_goesMinute).cls ≠ "java/lang/invoke/VarHandle" ∧ (parseMethodDescriptor (yX12_goesMinute).desc).map (fun d => d.parameters.length) = some 0 := ⟨by decide +kernel, by decide +kernel, by decide +kernel⟩
set_option maxRecDepth 100000 in
set_option maxHeartbeats 4000000 in
theorem s_X12_goesMinute_23 {ad : Nat → Nat} {cy : Nat → ClassId} {x : KX} (G : KG ad cy x cX12_goesMinute "NoonGuidesModel" 3 (some none) 5) {a0 : Nat} {c1 : Int32} (h0 : kty a0 = 12) {k79 : KM → Option KM} {y : KM} (hk79 : ∀ (M : KM), k79 M = some y → KV ad cy x (none, y) 79 [(0, .ref (ad a0))] [] M) : ∀ (n : Nat) (w2 : Int32) (M : KM), lp_X12_goesMinute_23 n a0 c1 w2 M k79 = some y → KV ad cy x (none, y) 23 [(0, .ref (ad a0)), (1, .int c1), (2, .int w2)] [] M := by
  intro n
  induction n with
  | zero =>
    intro w2 M hf
    cases hf
  | succ n ih =>
    intro w2 M hf
    rw [lp_X12_goesMinute_23] at hf
    refine v_iload_n G dX12_goesMinute_23 2 rfl ?_
    refine v_aload_n G dX12_goesMinute_24 0 rfl ?_
    refine gf_12_20 G h0 t_1511 (Or.inl rfl) dX12_goesMinute_25 ?_
    refine v_iconst (2 : Int32) G dX12_goesMinute_28 (by decide) ?_
    obtain ⟨g5, hf⟩ := gd_e hf
    refine al_36 G (kf_12_5 h0) g5 dX12_goesMinute_29 ?_
    refine v_icmp_ge 79 G dX12_goesMinute_30 (by decide) (fun h15 => ?_) (fun h15 => ?_)
    · replace hf := (if_pos h15).symm.trans hf
      refine v_sub _ [0] rfl ?_
      exact hk79 M hf
    · replace hf := (if_neg h15).symm.trans hf
      refine v_aload_n G dX12_goesMinute_33 0 rfl ?_
      refine v_iload_n G dX12_goesMinute_34 2 rfl ?_
      obtain ⟨v6, hcv6, hf⟩ := bd_e hf
      refine v_callV [.int w2] G (c_X12_isGoing n h0 hcv6) h0 (by decide) rfl rfl rfl t_1942 t_1944 t_p114 t_17 t_1945 nm_X12_isGoing (by decide) (by decide) rfl rfl (Nat.le_of_ble_eq_true rfl) dX12_goesMinute_35 (kv_ri ?_)
      obtain ⟨j73, ej73, hf⟩ := lt_j hf
      have hj73 : ∀ (M7 : KM), j73 M7 = some y → KV ad cy x (none, y) 73 [(0, .ref (ad a0)), (1, .int c1), (2, .int w2)] [] M7 := by
        intro M7 hf
        rw [ej73] at hf
        obtain ⟨v8, ev8⟩ : ∃ q : Int32, q = w2 + (1 : Int32) := ⟨_, rfl⟩
        replace hf := lt_e hf ev8
        refine v_iinc v8 [(2, .int v8), (0, .ref (ad a0)), (1, .int c1)] G dX12_goesMinute_73 2 rfl (by rw [ev8]; rfl) (by decide) rfl ?_
        refine v_goto 23 G dX12_goesMinute_76 (by decide) ?_
        refine v_sub _ [1, 2, 0] rfl ?_
        exact ih v8 M7 hf
      refine v_if_eq 73 G dX12_goesMinute_38 (by decide) (fun h14 => ?_) (fun h14 => ?_)
      · replace hf := (if_pos h14).symm.trans hf
        refine v_sub _ [0, 1, 2] rfl ?_
        exact hj73 M hf
      · replace hf := (if_neg h14).symm.trans hf
        refine v_aload_n G dX12_goesMinute_41 0 rfl ?_
        refine gf_12_20 G h0 t_1511 (Or.inl rfl) dX12_goesMinute_42 ?_
        refine v_bipush (82 : Int32) G dX12_goesMinute_45 (by decide) ?_
        refine v_iload_n G dX12_goesMinute_47 2 rfl ?_
        refine v_iadd G dX12_goesMinute_48 ?_
        obtain ⟨g9, hf⟩ := gd_e hf
        refine al_36 G (kf_12_5 h0) g9 dX12_goesMinute_49 ?_
        refine v_if_ge 73 G dX12_goesMinute_50 (by decide) (fun h13 => ?_) (fun h13 => ?_)
        · replace hf := (if_pos h13).symm.trans hf
          refine v_sub _ [0, 1, 2] rfl ?_
          exact hj73 M hf
        · replace hf := (if_neg h13).symm.trans hf
          refine v_aload_n G dX12_goesMinute_53 0 rfl ?_
          refine v_iload_n G dX12_goesMinute_54 2 rfl ?_
          refine v_aload_n G dX12_goesMinute_55 0 rfl ?_
          refine v_iload_n G dX12_goesMinute_56 2 rfl ?_
          refine v_aload_n G dX12_goesMinute_57 0 rfl ?_
          refine gf_12_20 G h0 t_1511 (Or.inl rfl) dX12_goesMinute_58 ?_
          refine v_bipush (122 : Int32) G dX12_goesMinute_61 (by decide) ?_
          refine v_iload_n G dX12_goesMinute_63 2 rfl ?_
          refine v_iadd G dX12_goesMinute_64 ?_
          obtain ⟨g10, hf⟩ := gd_e hf
          refine al_36 G (kf_12_5 h0) g10 dX12_goesMinute_65 ?_
          refine v_iload_n G dX12_goesMinute_66 1 rfl ?_
          obtain ⟨v11, hcv11, hf⟩ := bd_e hf
          refine v_callV [.int w2, .int (M.1 (a0 + 5) (((122 : Int32) + w2)).toNatClampNeg), .int c1] G (c_X12_canGo n h0 hcv11) h0 (by decide) rfl rfl rfl t_2006 t_2008 t_p121 t_17 t_2009 nm_X12_canGo (by decide) (by decide) rfl rfl (Nat.le_of_ble_eq_true rfl) dX12_goesMinute_67 (kv_ri ?_)
          obtain ⟨v12, hcv12, hf⟩ := bd_e hf
          refine v_callV [.int w2, .int v11] G (c_X12_goesOne n h0 hcv12) h0 (by decide) rfl rfl rfl t_2010 t_2012 t_p122 t_17 t_2013 nm_X12_goesOne (by decide) (by decide) rfl rfl (Nat.le_of_ble_eq_true rfl) dX12_goesMinute_70 (kv_rv ?_)
          refine v_sub _ [0, 1, 2] rfl ?_
          exact hj73 v12 hf
set_option maxRecDepth 100000 in
set_option maxHeartbeats 4000000 in
theorem c_X12_goesMinute {l : Launch} {ad : Nat → Nat} {cy : Nat → ClassId} {D : va_G} {z : Nat} (n : Nat) {a0 : Nat} {M : KM} {y : KM} (h0 : kty a0 = 12) (hf : f_X12_goesMinute n a0 M = some y) : KC l ad cy D z yX12_goesMinute cX12_goesMinute 3 none 5 [.ref (ad a0)] M (none, y) := by
  refine kv_enter (by decide +kernel) (Nat.le_of_ble_eq_true rfl) ?_
  intro x hl hD hz G
  subst hl hD hz
  unfold f_X12_goesMinute at hf
  have G : KG ad cy x cX12_goesMinute "NoonGuidesModel" 3 (some none) 5 := G
  show KV ad cy x (none, y) 0 [(0, .ref (ad a0))] [] M
  refine v_aload_n G dX12_goesMinute_0 0 rfl ?_
  refine v_aload_n G dX12_goesMinute_1 0 rfl ?_
  refine gf_12_20 G h0 t_1511 (Or.inl rfl) dX12_goesMinute_2 ?_
  refine v_iconst (5 : Int32) G dX12_goesMinute_5 (by decide) ?_
  obtain ⟨g1, hf⟩ := gd_e hf
  refine al_36 G (kf_12_5 h0) g1 dX12_goesMinute_6 ?_
  obtain ⟨v2, hcv2, hf⟩ := bd_e hf
  refine v_callV [.int (M.1 (a0 + 5) ((5 : Int32)).toNatClampNeg)] G (c_X12_glares n h0 hcv2) h0 (by decide) rfl rfl rfl t_1930 t_1932 t_p111 t_17 t_1933 nm_X12_glares (by decide) (by decide) rfl rfl (Nat.le_of_ble_eq_true rfl) dX12_goesMinute_7 (kv_ri ?_)
  refine v_istore_n [(1, .int v2), (0, .ref (ad a0))] G dX12_goesMinute_10 (by decide) rfl ?_
  refine v_aload_n G dX12_goesMinute_11 1 rfl ?_
  refine v_iconst (0 : Int32) G dX12_goesMinute_12 (by decide) ?_
  refine pf_12_28 G h0 t_1519 (Or.inl rfl) dX12_goesMinute_13 ?_
  refine v_nmM (fun M3 eM3 => ?_)
  replace hf := lt_e hf eM3
  refine v_aload_n G dX12_goesMinute_16 1 rfl ?_
  refine v_iconst (0 : Int32) G dX12_goesMinute_17 (by decide) ?_
  refine pf_12_29 G h0 t_1520 (Or.inl rfl) dX12_goesMinute_18 ?_
  refine v_nmM (fun M4 eM4 => ?_)
  replace hf := lt_e hf eM4
  refine v_iconst (0 : Int32) G dX12_goesMinute_21 (by decide) ?_
  refine v_istore_n [(2, .int (0 : Int32)), (1, .int v2), (0, .ref (ad a0))] G dX12_goesMinute_22 (by decide) rfl ?_
  refine v_sub _ [2, 1, 0] rfl ?_
  refine s_X12_goesMinute_23 G h0 (fun M16 hf => ?_) n (0 : Int32) M4 hf
  · refine v_aload_n G dX12_goesMinute_79 0 rfl ?_
    refine gf_12_20 G h0 t_1511 (Or.inl rfl) dX12_goesMinute_80 ?_
    refine v_iconst (5 : Int32) G dX12_goesMinute_83 (by decide) ?_
    refine v_dup2 G dX12_goesMinute_84 rfl rfl ?_
    obtain ⟨g17, hf⟩ := gd_e hf
    refine al_36 G (kf_12_5 h0) g17 dX12_goesMinute_85 ?_
    refine v_iconst (1 : Int32) G dX12_goesMinute_86 (by decide) ?_
    refine v_iadd G dX12_goesMinute_87 ?_
    obtain ⟨g18, hf⟩ := gd_e hf
    refine as_36 G (kf_12_5 h0) g18 dX12_goesMinute_88 ?_
    refine v_nmM (fun M19 eM19 => ?_)
    replace hf := lt_e hf eM19
    obtain rfl := Option.some.inj hf
    exact v_vret G dX12_goesMinute_89
abbrev cX12_passes : ByteArray := prog_14_method_103_code
def yX12_passes : MethodName := ⟨RX12, "passes", "(I)I"⟩
theorem dX12_passes_0 : dc cX12_passes 0 (.aload_n 0) 1 1 := ⟨by decide +kernel, rfl⟩
theorem dX12_passes_1 : dc cX12_passes 1 (.iconst 0) 1 2 := ⟨by decide +kernel, rfl⟩
theorem dX12_passes_2 : dc cX12_passes 2 (.putfield 75) 3 5 := ⟨by decide +kernel, rfl⟩
theorem dX12_passes_5 : dc cX12_passes 5 (.aload_n 0) 1 6 := ⟨by decide +kernel, rfl⟩
theorem dX12_passes_6 : dc cX12_passes 6 (.iconst 0) 1 7 := ⟨by decide +kernel, rfl⟩
theorem dX12_passes_7 : dc cX12_passes 7 (.putfield 78) 3 10 := ⟨by decide +kernel, rfl⟩
theorem dX12_passes_10 : dc cX12_passes 10 (.iload_n 1) 1 11 := ⟨by decide +kernel, rfl⟩
theorem dX12_passes_11 : dc cX12_passes 11 (.i2l) 1 12 := ⟨by decide +kernel, rfl⟩
theorem dX12_passes_12 : dc cX12_passes 12 (.lconst 1) 1 13 := ⟨by decide +kernel, rfl⟩
theorem dX12_passes_13 : dc cX12_passes 13 (.ldc2_w 405) 3 16 := ⟨by decide +kernel, rfl⟩
theorem dX12_passes_16 : dc cX12_passes 16 (.invokestatic 110) 3 19 := ⟨by decide +kernel, rfl⟩
theorem dX12_passes_19 : dc cX12_passes 19 (.ifCond .ne 9) 3 22 := ⟨by decide +kernel, rfl⟩
theorem dX12_passes_22 : dc cX12_passes 22 (.aload_n 0) 1 23 := ⟨by decide +kernel, rfl⟩
theorem dX12_passes_23 : dc cX12_passes 23 (.iconst 5) 1 24 := ⟨by decide +kernel, rfl⟩
theorem dX12_passes_24 : dc cX12_passes 24 (.invokevirtual 355) 3 27 := ⟨by decide +kernel, rfl⟩
theorem dX12_passes_27 : dc cX12_passes 27 (.ireturn) 1 28 := ⟨by decide +kernel, rfl⟩
theorem dX12_passes_28 : dc cX12_passes 28 (.aload_n 0) 1 29 := ⟨by decide +kernel, rfl⟩
theorem dX12_passes_29 : dc cX12_passes 29 (.getfield 35) 3 32 := ⟨by decide +kernel, rfl⟩
theorem dX12_passes_32 : dc cX12_passes 32 (.iconst 5) 1 33 := ⟨by decide +kernel, rfl⟩
theorem dX12_passes_33 : dc cX12_passes 33 (.iaload) 1 34 := ⟨by decide +kernel, rfl⟩
theorem dX12_passes_34 : dc cX12_passes 34 (.iload_n 1) 1 35 := ⟨by decide +kernel, rfl⟩
theorem dX12_passes_35 : dc cX12_passes 35 (.iadd) 1 36 := ⟨by decide +kernel, rfl⟩
theorem dX12_passes_36 : dc cX12_passes 36 (.ldc_w 407) 3 39 := ⟨by decide +kernel, rfl⟩
theorem dX12_passes_39 : dc cX12_passes 39 (.if_icmp .le 10) 3 42 := ⟨by decide +kernel, rfl⟩
theorem dX12_passes_42 : dc cX12_passes 42 (.aload_n 0) 1 43 := ⟨by decide +kernel, rfl⟩
theorem dX12_passes_43 : dc cX12_passes 43 (.bipush 7) 2 45 := ⟨by decide +kernel, rfl⟩
theorem dX12_passes_45 : dc cX12_passes 45 (.invokevirtual 355) 3 48 := ⟨by decide +kernel, rfl⟩
theorem dX12_passes_48 : dc cX12_passes 48 (.ireturn) 1 49 := ⟨by decide +kernel, rfl⟩
theorem dX12_passes_49 : dc cX12_passes 49 (.iconst 0) 1 50 := ⟨by decide +kernel, rfl⟩
theorem dX12_passes_50 : dc cX12_passes 50 (.istore_n 2) 1 51 := ⟨by decide +kernel, rfl⟩
theorem dX12_passes_51 : dc cX12_passes 51 (.iconst 0) 1 52 := ⟨by decide +kernel, rfl⟩
theorem dX12_passes_52 : dc cX12_passes 52 (.istore_n 3) 1 53 := ⟨by decide +kernel, rfl⟩
theorem dX12_passes_53 : dc cX12_passes 53 (.iload_n 3) 1 54 := ⟨by decide +kernel, rfl⟩
theorem dX12_passes_54 : dc cX12_passes 54 (.iload_n 1) 1 55 := ⟨by decide +kernel, rfl⟩
theorem dX12_passes_55 : dc cX12_passes 55 (.if_icmp .ge 20) 3 58 := ⟨by decide +kernel, rfl⟩
theorem dX12_passes_58 : dc cX12_passes 58 (.aload_n 0) 1 59 := ⟨by decide +kernel, rfl⟩
theorem dX12_passes_59 : dc cX12_passes 59 (.invokevirtual 408) 3 62 := ⟨by decide +kernel, rfl⟩
theorem dX12_passes_62 : dc cX12_passes 62 (.iload_n 2) 1 63 := ⟨by decide +kernel, rfl⟩
theorem dX12_passes_63 : dc cX12_passes 63 (.aload_n 0) 1 64 := ⟨by decide +kernel, rfl⟩
theorem dX12_passes_64 : dc cX12_passes 64 (.getfield 384) 3 67 := ⟨by decide +kernel, rfl⟩
theorem dX12_passes_67 : dc cX12_passes 67 (.ior) 1 68 := ⟨by decide +kernel, rfl⟩
theorem dX12_passes_68 : dc cX12_passes 68 (.istore_n 2) 1 69 := ⟨by decide +kernel, rfl⟩
theorem dX12_passes_69 : dc cX12_passes 69 (.iinc 3 1) 3 72 := ⟨by decide +kernel, rfl⟩
theorem dX12_passes_72 : dc cX12_passes 72 (.goto (-19)) 3 75 := ⟨by decide +kernel, rfl⟩
theorem dX12_passes_75 : dc cX12_passes 75 (.iload_n 2) 1 76 := ⟨by decide +kernel, rfl⟩
theorem dX12_passes_76 : dc cX12_passes 76 (.ireturn) 1 77 := ⟨by decide +kernel, rfl⟩
theorem nm_X12_passes : (yX12_passes).cls ≠ "java/lang/invoke/MethodHandle" ∧ (yX12_passes).cls ≠ "java/lang/invoke/VarHandle" ∧ (parseMethodDescriptor (yX12_passes).desc).map (fun d => d.parameters.length) = some 1 := ⟨by decide +kernel, by decide +kernel, by decide +kernel⟩
set_option maxRecDepth 100000 in
set_option maxHeartbeats 4000000 in
theorem s_X12_passes_53 {ad : Nat → Nat} {cy : Nat → ClassId} {x : KX} (G : KG ad cy x cX12_passes "NoonGuidesModel" 4 (some (some .int)) 6) {a0 : Nat} {c1 : Int32} (h0 : kty a0 = 12) {y : (Int32 × KM)} : ∀ (n : Nat) (w2 : Int32) (w3 : Int32) (M : KM), lp_X12_passes_53 n a0 c1 w2 w3 M = some y → KV ad cy x (some (.int y.1), y.2) 53 [(0, .ref (ad a0)), (1, .int c1), (2, .int w2), (3, .int w3)] [] M := by
  intro n
  induction n with
  | zero =>
    intro w2 w3 M hf
    cases hf
  | succ n ih =>
    intro w2 w3 M hf
    rw [lp_X12_passes_53] at hf
    refine v_iload_n G dX12_passes_53 3 rfl ?_
    refine v_iload_n G dX12_passes_54 1 rfl ?_
    refine v_icmp_ge 75 G dX12_passes_55 (by decide) (fun h8 => ?_) (fun h8 => ?_)
    · replace hf := (if_pos h8).symm.trans hf
      refine v_iload_n G dX12_passes_75 2 rfl ?_
      obtain rfl := Option.some.inj hf
      exact v_iret G dX12_passes_76
    · replace hf := (if_neg h8).symm.trans hf
      refine v_aload_n G dX12_passes_58 0 rfl ?_
      obtain ⟨v5, hcv5, hf⟩ := bd_e hf
      refine v_callV [] G (c_X12_goesMinute n h0 hcv5) h0 (by decide) rfl rfl rfl t_2002 t_2004 t_p120 t_17 t_2005 nm_X12_goesMinute (by decide) (by decide) rfl rfl (Nat.le_of_ble_eq_true rfl) dX12_passes_59 (kv_rv ?_)
      refine v_iload_n G dX12_passes_62 2 rfl ?_
      refine v_aload_n G dX12_passes_63 0 rfl ?_
      refine gf_12_28 G h0 t_1519 (Or.inl rfl) dX12_passes_64 ?_
      refine v_ior G dX12_passes_67 ?_
      refine v_nmi (fun v6 ev6 => ?_)
      replace hf := lt_e hf ev6
      refine v_istore_n [(2, .int v6), (0, .ref (ad a0)), (1, .int c1), (3, .int w3)] G dX12_passes_68 (by decide) rfl ?_
      obtain ⟨v7, ev7⟩ : ∃ q : Int32, q = w3 + (1 : Int32) := ⟨_, rfl⟩
      replace hf := lt_e hf ev7
      refine v_iinc v7 [(3, .int v7), (2, .int v6), (0, .ref (ad a0)), (1, .int c1)] G dX12_passes_69 3 rfl (by rw [ev7]; rfl) (by decide) rfl ?_
      refine v_goto 53 G dX12_passes_72 (by decide) ?_
      refine v_sub _ [2, 3, 1, 0] rfl ?_
      exact ih v6 v7 v5 hf
set_option maxRecDepth 100000 in
set_option maxHeartbeats 4000000 in
theorem c_X12_passes {l : Launch} {ad : Nat → Nat} {cy : Nat → ClassId} {D : va_G} {z : Nat} (n : Nat) {a0 : Nat} {p1 : Int32} {M : KM} {y : (Int32 × KM)} (h0 : kty a0 = 12) (hf : f_X12_passes n a0 p1 M = some y) : KC l ad cy D z yX12_passes cX12_passes 4 (some .int) 6 [.ref (ad a0), .int p1] M (some (.int y.1), y.2) := by
  refine kv_enter (by decide +kernel) (Nat.le_of_ble_eq_true rfl) ?_
  intro x hl hD hz G
  subst hl hD hz
  unfold f_X12_passes at hf
  have G : KG ad cy x cX12_passes "NoonGuidesModel" 4 (some (some .int)) 6 := G
  show KV ad cy x (some (.int y.1), y.2) 0 [(0, .ref (ad a0)), (1, .int p1)] [] M
  refine v_aload_n G dX12_passes_0 0 rfl ?_
  refine v_iconst (0 : Int32) G dX12_passes_1 (by decide) ?_
  refine pf_12_1 G h0 t_1492 (Or.inl rfl) dX12_passes_2 ?_
  refine v_nmM (fun M1 eM1 => ?_)
  replace hf := lt_e hf eM1
  refine v_aload_n G dX12_passes_5 0 rfl ?_
  refine v_iconst (0 : Int32) G dX12_passes_6 (by decide) ?_
  refine pf_12_0 G h0 t_1491 (Or.inl rfl) dX12_passes_7 ?_
  refine v_nmM (fun M2 eM2 => ?_)
  replace hf := lt_e hf eM2
  refine v_iload_n G dX12_passes_10 1 rfl ?_
  refine v_i2l G dX12_passes_11 ?_
  refine v_lconst (1 : Int64) G dX12_passes_12 (by decide) ?_
  refine v_ldc2 G dX12_passes_13 t_2000 ?_
  obtain ⟨v3, hcv3⟩ : ∃ q, f_X12_isIn (p1).toInt64 (1 : Int64) (999 : Int64) M2 = q := ⟨_, rfl⟩
  replace hf := lt_e hf hcv3.symm
  refine v_callS [.long (p1).toInt64, .long (1 : Int64), .long (999 : Int64)] G (c_X12_isIn hcv3) t_1755 t_1756 t_17 t_1757 nm_X12_isIn (by decide) (by decide) rfl rfl (Nat.le_of_ble_eq_true rfl) dX12_passes_16 (kv_ri ?_)
  refine v_if_ne 28 G dX12_passes_19 (by decide) (fun h12 => ?_) (fun h12 => ?_)
  · replace hf := (if_neg h12).symm.trans hf
    refine v_aload_n G dX12_passes_28 0 rfl ?_
    refine gf_12_20 G h0 t_1511 (Or.inl rfl) dX12_passes_29 ?_
    refine v_iconst (5 : Int32) G dX12_passes_32 (by decide) ?_
    obtain ⟨g4, hf⟩ := gd_e hf
    refine al_36 G (kf_12_5 h0) g4 dX12_passes_33 ?_
    refine v_iload_n G dX12_passes_34 1 rfl ?_
    refine v_iadd G dX12_passes_35 ?_
    refine v_ldcw G dX12_passes_36 t_2001 ?_
    refine v_icmp_le 49 G dX12_passes_39 (by decide) (fun h10 => ?_) (fun h10 => ?_)
    · replace hf := (if_pos h10).symm.trans hf
      refine v_iconst (0 : Int32) G dX12_passes_49 (by decide) ?_
      refine v_istore_n [(2, .int (0 : Int32)), (0, .ref (ad a0)), (1, .int p1)] G dX12_passes_50 (by decide) rfl ?_
      refine v_iconst (0 : Int32) G dX12_passes_51 (by decide) ?_
      refine v_istore_n [(3, .int (0 : Int32)), (2, .int (0 : Int32)), (0, .ref (ad a0)), (1, .int p1)] G dX12_passes_52 (by decide) rfl ?_
      refine v_sub _ [2, 3, 1, 0] rfl ?_
      refine s_X12_passes_53 G h0 n (0 : Int32) (0 : Int32) M2 hf
    · replace hf := (if_neg h10).symm.trans hf
      refine v_aload_n G dX12_passes_42 0 rfl ?_
      refine v_bipush (7 : Int32) G dX12_passes_43 (by decide) ?_
      obtain ⟨v9, hcv9⟩ : ∃ q, f_X12_refuse a0 (7 : Int32) M2 = q := ⟨_, rfl⟩
      replace hf := lt_e hf hcv9.symm
      refine v_callV [.int (7 : Int32)] G (c_X12_refuse h0 hcv9) h0 (by decide) rfl rfl rfl t_1926 t_1928 t_p110 t_17 t_1929 nm_X12_refuse (by decide) (by decide) rfl rfl (Nat.le_of_ble_eq_true rfl) dX12_passes_45 (kv_ri ?_)
      obtain rfl := Option.some.inj hf
      exact v_iret G dX12_passes_48
  · replace hf := (if_pos h12).symm.trans hf
    refine v_aload_n G dX12_passes_22 0 rfl ?_
    refine v_iconst (5 : Int32) G dX12_passes_23 (by decide) ?_
    obtain ⟨v11, hcv11⟩ : ∃ q, f_X12_refuse a0 (5 : Int32) M2 = q := ⟨_, rfl⟩
    replace hf := lt_e hf hcv11.symm
    refine v_callV [.int (5 : Int32)] G (c_X12_refuse h0 hcv11) h0 (by decide) rfl rfl rfl t_1926 t_1928 t_p110 t_17 t_1929 nm_X12_refuse (by decide) (by decide) rfl rfl (Nat.le_of_ble_eq_true rfl) dX12_passes_24 (kv_ri ?_)
    obtain rfl := Option.some.inj hf
    exact v_iret G dX12_passes_27
