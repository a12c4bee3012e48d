abbrev cX6_startAt : ByteArray := prog_8_method_4_code
def yX6_startAt : MethodName := ⟨RX6, "startAt", "(LNoonGuides$Land;II)V"⟩
theorem dX6_startAt_0 : dc cX6_startAt 0 (.iconst 0) 1 1 := ⟨by decide +kernel, rfl⟩
theorem dX6_startAt_1 : dc cX6_startAt 1 (.istore 4) 2 3 := ⟨by decide +kernel, rfl⟩
theorem dX6_startAt_3 : dc cX6_startAt 3 (.iload 4) 2 5 := ⟨by decide +kernel, rfl⟩
theorem dX6_startAt_5 : dc cX6_startAt 5 (.bipush 8) 2 7 := ⟨by decide +kernel, rfl⟩
theorem dX6_startAt_7 : dc cX6_startAt 7 (.if_icmp .ge 18) 3 10 := ⟨by decide +kernel, rfl⟩
theorem dX6_startAt_10 : dc cX6_startAt 10 (.aload_n 0) 1 11 := ⟨by decide +kernel, rfl⟩
theorem dX6_startAt_11 : dc cX6_startAt 11 (.getfield 9) 3 14 := ⟨by decide +kernel, rfl⟩
theorem dX6_startAt_14 : dc cX6_startAt 14 (.iload 4) 2 16 := ⟨by decide +kernel, rfl⟩
theorem dX6_startAt_16 : dc cX6_startAt 16 (.ldc 48) 2 18 := ⟨by decide +kernel, rfl⟩
theorem dX6_startAt_18 : dc cX6_startAt 18 (.iastore) 1 19 := ⟨by decide +kernel, rfl⟩
theorem dX6_startAt_19 : dc cX6_startAt 19 (.iinc 4 1) 3 22 := ⟨by decide +kernel, rfl⟩
theorem dX6_startAt_22 : dc cX6_startAt 22 (.goto (-19)) 3 25 := ⟨by decide +kernel, rfl⟩
theorem dX6_startAt_25 : dc cX6_startAt 25 (.aload_n 1) 1 26 := ⟨by decide +kernel, rfl⟩
theorem dX6_startAt_26 : dc cX6_startAt 26 (.iload_n 2) 1 27 := ⟨by decide +kernel, rfl⟩
theorem dX6_startAt_27 : dc cX6_startAt 27 (.invokevirtual 49) 3 30 := ⟨by decide +kernel, rfl⟩
theorem dX6_startAt_30 : dc cX6_startAt 30 (.ifCond .eq 10) 3 33 := ⟨by decide +kernel, rfl⟩
theorem dX6_startAt_33 : dc cX6_startAt 33 (.aload_n 0) 1 34 := ⟨by decide +kernel, rfl⟩
theorem dX6_startAt_34 : dc cX6_startAt 34 (.getfield 9) 3 37 := ⟨by decide +kernel, rfl⟩
theorem dX6_startAt_37 : dc cX6_startAt 37 (.iload_n 2) 1 38 := ⟨by decide +kernel, rfl⟩
theorem dX6_startAt_38 : dc cX6_startAt 38 (.iload_n 3) 1 39 := ⟨by decide +kernel, rfl⟩
theorem dX6_startAt_39 : dc cX6_startAt 39 (.iastore) 1 40 := ⟨by decide +kernel, rfl⟩
theorem dX6_startAt_40 : dc cX6_startAt 40 (.return_) 1 41 := ⟨by decide +kernel, rfl⟩
theorem nm_X6_startAt : (yX6_startAt).cls ≠ "java/lang/invoke/MethodHandle" ∧ (yX6_startAt).cls ≠ "java/lang/invoke/VarHandle" ∧ (parseMethodDescriptor (yX6_startAt).desc).map (fun d => d.parameters.length) = some 3 := ⟨by decide +kernel, by decide +kernel, by decide +kernel⟩
set_option maxRecDepth 100000 in
set_option maxHeartbeats 4000000 in
theorem s_X6_startAt_3 {ad : Nat → Nat} {cy : Nat → ClassId} {x : KX} (G : KG ad cy x cX6_startAt "NoonGuides$Paths" 5 (some none) 2) {a0 : Nat} {a1 : Nat} {c2 : Int32} {c3 : Int32} (h0 : kty a0 = 7) (h1 : kty a1 = 3) {k25 : KM → Option KM} {y : KM} (hk25 : ∀ (M : KM), k25 M = some y → KV ad cy x (none, y) 25 [(0, .ref (ad a0)), (1, .ref (ad a1)), (2, .int c2), (3, .int c3)] [] M) : ∀ (n : Nat) (w4 : Int32) (M : KM), lp_X6_startAt_3 n a0 a1 c2 c3 w4 M k25 = some y → KV ad cy x (none, y) 3 [(0, .ref (ad a0)), (1, .ref (ad a1)), (2, .int c2), (3, .int c3), (4, .int w4)] [] M := by
  intro n
  induction n with
  | zero =>
    intro w4 M hf
    cases hf
  | succ n ih =>
    intro w4 M hf
    rw [lp_X6_startAt_3] at hf
    refine v_iload G dX6_startAt_3 4 rfl ?_
    refine v_bipush (8 : Int32) G dX6_startAt_5 (by decide) ?_
    refine v_icmp_ge 25 G dX6_startAt_7 (by decide) (fun h4 => ?_) (fun h4 => ?_)
    · replace hf := (if_pos h4).symm.trans hf
      refine v_sub _ [0, 1, 2, 3] rfl ?_
      exact hk25 M hf
    · replace hf := (if_neg h4).symm.trans hf
      refine v_aload_n G dX6_startAt_10 0 rfl ?_
      refine gf_6_0 G h0 t_199 (Or.inl rfl) dX6_startAt_11 ?_
      refine v_iload G dX6_startAt_14 4 rfl ?_
      refine v_ldc G dX6_startAt_16 t_783 ?_
      obtain ⟨g1, hf⟩ := gd_e hf
      refine as_28 G (kf_6_1 h0) g1 dX6_startAt_18 ?_
      refine v_nmM (fun M2 eM2 => ?_)
      replace hf := lt_e hf eM2
      obtain ⟨v3, ev3⟩ : ∃ q : Int32, q = w4 + (1 : Int32) := ⟨_, rfl⟩
      replace hf := lt_e hf ev3
      refine v_iinc v3 [(4, .int v3), (0, .ref (ad a0)), (1, .ref (ad a1)), (2, .int c2), (3, .int c3)] G dX6_startAt_19 4 rfl (by rw [ev3]; rfl) (by decide) rfl ?_
      refine v_goto 3 G dX6_startAt_22 (by decide) ?_
      refine v_sub _ [1, 2, 3, 4, 0] rfl ?_
      exact ih v3 M2 hf
set_option maxRecDepth 100000 in
set_option maxHeartbeats 4000000 in
theorem c_X6_startAt {l : Launch} {ad : Nat → Nat} {cy : Nat → ClassId} {D : va_G} {z : Nat} (n : Nat) {a0 : Nat} {a1 : Nat} {p2 : Int32} {p3 : Int32} {M : KM} {y : KM} (h0 : kty a0 = 7) (h1 : kty a1 = 3) (hf : f_X6_startAt n a0 a1 p2 p3 M = some y) : KC l ad cy D z yX6_startAt cX6_startAt 5 none 2 [.ref (ad a0), .ref (ad a1), .int p2, .int p3] M (none, y) := by
  refine kv_enter (by decide +kernel) (Nat.le_of_ble_eq_true rfl) ?_
  intro x hl hD hz G
  subst hl hD hz
  unfold f_X6_startAt at hf
  have G : KG ad cy x cX6_startAt "NoonGuides$Paths" 5 (some none) 2 := G
  show KV ad cy x (none, y) 0 [(0, .ref (ad a0)), (1, .ref (ad a1)), (2, .int p2), (3, .int p3)] [] M
  refine v_iconst (0 : Int32) G dX6_startAt_0 (by decide) ?_
  refine v_istore [(4, .int (0 : Int32)), (0, .ref (ad a0)), (1, .ref (ad a1)), (2, .int p2), (3, .int p3)] G dX6_startAt_1 (by decide) rfl ?_
  refine v_sub _ [1, 2, 3, 4, 0] rfl ?_
  refine s_X6_startAt_3 G h0 h1 (fun M5 hf => ?_) n (0 : Int32) M hf
  · refine v_aload_n G dX6_startAt_25 1 rfl ?_
    refine v_iload_n G dX6_startAt_26 2 rfl ?_
    obtain ⟨v6, hcv6⟩ : ∃ q, f_X2_hasPlace a1 p2 M5 = q := ⟨_, rfl⟩
    replace hf := lt_e hf hcv6.symm
    refine v_callV [.int p2] G (c_X2_hasPlace h1 hcv6) h1 (by decide) rfl rfl rfl t_784 t_566 t_567 t_13 t_568 nm_X2_hasPlace (by decide) (by decide) rfl rfl (Nat.le_of_ble_eq_true rfl) dX6_startAt_27 (kv_ri ?_)
    refine v_if_eq 40 G dX6_startAt_30 (by decide) (fun h9 => ?_) (fun h9 => ?_)
    · replace hf := (if_pos h9).symm.trans hf
      obtain rfl := Option.some.inj hf
      exact v_vret G dX6_startAt_40
    · replace hf := (if_neg h9).symm.trans hf
      refine v_aload_n G dX6_startAt_33 0 rfl ?_
      refine gf_6_0 G h0 t_199 (Or.inl rfl) dX6_startAt_34 ?_
      refine v_iload_n G dX6_startAt_37 2 rfl ?_
      refine v_iload_n G dX6_startAt_38 3 rfl ?_
      obtain ⟨g7, hf⟩ := gd_e hf
      refine as_28 G (kf_6_1 h0) g7 dX6_startAt_39 ?_
      refine v_nmM (fun M8 eM8 => ?_)
      replace hf := lt_e hf eM8
      obtain rfl := Option.some.inj hf
      exact v_vret G dX6_startAt_40
abbrev cX6_arrival : ByteArray := prog_8_method_6_code
def yX6_arrival : MethodName := ⟨RX6, "arrival", "(LNoonGuides$Land;IIII)I"⟩
theorem dX6_arrival_0 : dc cX6_arrival 0 (.aload_n 0) 1 1 := ⟨by decide +kernel, rfl⟩
theorem dX6_arrival_1 : dc cX6_arrival 1 (.iload_n 1) 1 2 := ⟨by decide +kernel, rfl⟩
theorem dX6_arrival_2 : dc cX6_arrival 2 (.iload_n 3) 1 3 := ⟨by decide +kernel, rfl⟩
theorem dX6_arrival_3 : dc cX6_arrival 3 (.iload 4) 2 5 := ⟨by decide +kernel, rfl⟩
theorem dX6_arrival_5 : dc cX6_arrival 5 (.invokevirtual 78) 3 8 := ⟨by decide +kernel, rfl⟩
theorem dX6_arrival_8 : dc cX6_arrival 8 (.istore 5) 2 10 := ⟨by decide +kernel, rfl⟩
theorem dX6_arrival_10 : dc cX6_arrival 10 (.iload_n 2) 1 11 := ⟨by decide +kernel, rfl⟩
theorem dX6_arrival_11 : dc cX6_arrival 11 (.iconst (-1)) 1 12 := ⟨by decide +kernel, rfl⟩
theorem dX6_arrival_12 : dc cX6_arrival 12 (.if_icmp .ne 8) 3 15 := ⟨by decide +kernel, rfl⟩
theorem dX6_arrival_15 : dc cX6_arrival 15 (.iload 5) 2 17 := ⟨by decide +kernel, rfl⟩
theorem dX6_arrival_17 : dc cX6_arrival 17 (.goto 16) 3 20 := ⟨by decide +kernel, rfl⟩
theorem dX6_arrival_20 : dc cX6_arrival 20 (.iload 5) 2 22 := ⟨by decide +kernel, rfl⟩
theorem dX6_arrival_22 : dc cX6_arrival 22 (.aload_n 0) 1 23 := ⟨by decide +kernel, rfl⟩
theorem dX6_arrival_23 : dc cX6_arrival 23 (.iload_n 2) 1 24 := ⟨by decide +kernel, rfl⟩
theorem dX6_arrival_24 : dc cX6_arrival 24 (.iload_n 3) 1 25 := ⟨by decide +kernel, rfl⟩
theorem dX6_arrival_25 : dc cX6_arrival 25 (.iload 4) 2 27 := ⟨by decide +kernel, rfl⟩
theorem dX6_arrival_27 : dc cX6_arrival 27 (.invokevirtual 78) 3 30 := ⟨by decide +kernel, rfl⟩
theorem dX6_arrival_30 : dc cX6_arrival 30 (.invokestatic 73) 3 33 := ⟨by decide +kernel, rfl⟩
theorem dX6_arrival_33 : dc cX6_arrival 33 (.ireturn) 1 34 := ⟨by decide +kernel, rfl⟩
theorem nm_X6_arrival : (yX6_arrival).cls ≠ "java/lang/invoke/MethodHandle" ∧ (yX6_arrival).cls ≠ "java/lang/invoke/VarHandle" ∧ (parseMethodDescriptor (yX6_arrival).desc).map (fun d => d.parameters.length) = some 5 := ⟨by decide +kernel, by decide +kernel, by decide +kernel⟩
set_option maxRecDepth 100000 in
set_option maxHeartbeats 4000000 in
theorem c_X6_arrival {l : Launch} {ad : Nat → Nat} {cy : Nat → ClassId} {D : va_G} {z : Nat} (n : Nat) {a0 : Nat} {p1 : Int32} {p2 : Int32} {p3 : Int32} {p4 : Int32} {M : KM} {y : Int32} (h0 : kty a0 = 3) (hf : f_X6_arrival n a0 p1 p2 p3 p4 M = some y) : KC l ad cy D z yX6_arrival cX6_arrival 6 (some .int) 4 [.ref (ad a0), .int p1, .int p2, .int p3, .int p4] M (some (.int y), M) := by
  refine kv_enter (by decide +kernel) (Nat.le_of_ble_eq_true rfl) ?_
  intro x hl hD hz G
  subst hl hD hz
  unfold f_X6_arrival at hf
  have G : KG ad cy x cX6_arrival "NoonGuides$Paths" 6 (some (some .int)) 4 := G
  show KV ad cy x (some (.int y), M) 0 [(0, .ref (ad a0)), (1, .int p1), (2, .int p2), (3, .int p3), (4, .int p4)] [] M
  refine v_aload_n G dX6_arrival_0 0 rfl ?_
  refine v_iload_n G dX6_arrival_1 1 rfl ?_
  refine v_iload_n G dX6_arrival_2 3 rfl ?_
  refine v_iload G dX6_arrival_3 4 rfl ?_
  obtain ⟨v1, hcv1, hf⟩ := bd_e hf
  refine v_callV [.int p1, .int p3, .int p4] G (c_X2_arrivalBy n h0 hcv1) h0 (by decide) rfl rfl rfl t_788 t_789 t_790 t_13 t_791 nm_X2_arrivalBy (by decide) (by decide) rfl rfl (Nat.le_of_ble_eq_true rfl) dX6_arrival_5 (kv_ri ?_)
  refine v_istore [(5, .int v1), (0, .ref (ad a0)), (1, .int p1), (2, .int p2), (3, .int p3), (4, .int p4)] G dX6_arrival_8 (by decide) rfl ?_
  refine v_iload_n G dX6_arrival_10 3 rfl ?_
  refine v_iconst (-1 : Int32) G dX6_arrival_11 (by decide) ?_
  refine v_icmp_ne 20 G dX6_arrival_12 (by decide) (fun h4 => ?_) (fun h4 => ?_)
  · replace hf := (if_neg h4).symm.trans hf
    refine v_iload G dX6_arrival_20 0 rfl ?_
    refine v_aload_n G dX6_arrival_22 1 rfl ?_
    refine v_iload_n G dX6_arrival_23 3 rfl ?_
    refine v_iload_n G dX6_arrival_24 4 rfl ?_
    refine v_iload G dX6_arrival_25 5 rfl ?_
    obtain ⟨v2, hcv2, hf⟩ := bd_e hf
    refine v_callV [.int p2, .int p3, .int p4] G (c_X2_arrivalBy n h0 hcv2) h0 (by decide) rfl rfl rfl t_788 t_789 t_790 t_13 t_791 nm_X2_arrivalBy (by decide) (by decide) rfl rfl (Nat.le_of_ble_eq_true rfl) dX6_arrival_27 (kv_ri ?_)
    refine v_mmin G (by decide) t_792 t_666 t_17 t_667 (Nat.le_of_ble_eq_true rfl) dX6_arrival_30 ?_
    refine v_nmi (fun v3 ev3 => ?_)
    replace hf := lt_e hf ev3
    obtain rfl := Option.some.inj hf
    exact v_iret G dX6_arrival_33
  · replace hf := (if_pos h4).symm.trans hf
    refine v_iload G dX6_arrival_15 0 rfl ?_
    refine v_goto 33 G dX6_arrival_17 (by decide) ?_
    obtain rfl := Option.some.inj hf
    exact v_iret G dX6_arrival_33
abbrev cX6_findTimes : ByteArray := prog_8_method_5_code
def yX6_findTimes : MethodName := ⟨RX6, "findTimes", "(LNoonGuides$Land;IIII)V"⟩
theorem dX6_findTimes_0 : dc cX6_findTimes 0 (.aload_n 0) 1 1 := ⟨by decide +kernel, rfl⟩
theorem dX6_findTimes_1 : dc cX6_findTimes 1 (.aload_n 1) 1 2 := ⟨by decide +kernel, rfl⟩
theorem dX6_findTimes_2 : dc cX6_findTimes 2 (.iload 4) 2 4 := ⟨by decide +kernel, rfl⟩
theorem dX6_findTimes_4 : dc cX6_findTimes 4 (.iload 5) 2 6 := ⟨by decide +kernel, rfl⟩
theorem dX6_findTimes_6 : dc cX6_findTimes 6 (.invokevirtual 53) 3 9 := ⟨by decide +kernel, rfl⟩
theorem dX6_findTimes_9 : dc cX6_findTimes 9 (.iconst 1) 1 10 := ⟨by decide +kernel, rfl⟩
theorem dX6_findTimes_10 : dc cX6_findTimes 10 (.istore 6) 2 12 := ⟨by decide +kernel, rfl⟩
theorem dX6_findTimes_12 : dc cX6_findTimes 12 (.iload 6) 2 14 := ⟨by decide +kernel, rfl⟩
theorem dX6_findTimes_14 : dc cX6_findTimes 14 (.aload_n 1) 1 15 := ⟨by decide +kernel, rfl⟩
theorem dX6_findTimes_15 : dc cX6_findTimes 15 (.getfield 57) 3 18 := ⟨by decide +kernel, rfl⟩
theorem dX6_findTimes_18 : dc cX6_findTimes 18 (.if_icmp .ge 109) 3 21 := ⟨by decide +kernel, rfl⟩
theorem dX6_findTimes_21 : dc cX6_findTimes 21 (.iconst 0) 1 22 := ⟨by decide +kernel, rfl⟩
theorem dX6_findTimes_22 : dc cX6_findTimes 22 (.istore 7) 2 24 := ⟨by decide +kernel, rfl⟩
theorem dX6_findTimes_24 : dc cX6_findTimes 24 (.iload 7) 2 26 := ⟨by decide +kernel, rfl⟩
theorem dX6_findTimes_26 : dc cX6_findTimes 26 (.aload_n 1) 1 27 := ⟨by decide +kernel, rfl⟩
theorem dX6_findTimes_27 : dc cX6_findTimes 27 (.getfield 60) 3 30 := ⟨by decide +kernel, rfl⟩
theorem dX6_findTimes_30 : dc cX6_findTimes 30 (.if_icmp .ge 91) 3 33 := ⟨by decide +kernel, rfl⟩
theorem dX6_findTimes_33 : dc cX6_findTimes 33 (.aload_n 1) 1 34 := ⟨by decide +kernel, rfl⟩
theorem dX6_findTimes_34 : dc cX6_findTimes 34 (.getfield 63) 3 37 := ⟨by decide +kernel, rfl⟩
theorem dX6_findTimes_37 : dc cX6_findTimes 37 (.iload 7) 2 39 := ⟨by decide +kernel, rfl⟩
theorem dX6_findTimes_39 : dc cX6_findTimes 39 (.iaload) 1 40 := ⟨by decide +kernel, rfl⟩
theorem dX6_findTimes_40 : dc cX6_findTimes 40 (.istore 8) 2 42 := ⟨by decide +kernel, rfl⟩
theorem dX6_findTimes_42 : dc cX6_findTimes 42 (.aload_n 1) 1 43 := ⟨by decide +kernel, rfl⟩
theorem dX6_findTimes_43 : dc cX6_findTimes 43 (.getfield 66) 3 46 := ⟨by decide +kernel, rfl⟩
theorem dX6_findTimes_46 : dc cX6_findTimes 46 (.iload 7) 2 48 := ⟨by decide +kernel, rfl⟩
theorem dX6_findTimes_48 : dc cX6_findTimes 48 (.iaload) 1 49 := ⟨by decide +kernel, rfl⟩
theorem dX6_findTimes_49 : dc cX6_findTimes 49 (.istore 9) 2 51 := ⟨by decide +kernel, rfl⟩
theorem dX6_findTimes_51 : dc cX6_findTimes 51 (.aload_n 0) 1 52 := ⟨by decide +kernel, rfl⟩
theorem dX6_findTimes_52 : dc cX6_findTimes 52 (.getfield 9) 3 55 := ⟨by decide +kernel, rfl⟩
theorem dX6_findTimes_55 : dc cX6_findTimes 55 (.iload 9) 2 57 := ⟨by decide +kernel, rfl⟩
theorem dX6_findTimes_57 : dc cX6_findTimes 57 (.aload_n 0) 1 58 := ⟨by decide +kernel, rfl⟩
theorem dX6_findTimes_58 : dc cX6_findTimes 58 (.getfield 9) 3 61 := ⟨by decide +kernel, rfl⟩
theorem dX6_findTimes_61 : dc cX6_findTimes 61 (.iload 9) 2 63 := ⟨by decide +kernel, rfl⟩
theorem dX6_findTimes_63 : dc cX6_findTimes 63 (.iaload) 1 64 := ⟨by decide +kernel, rfl⟩
theorem dX6_findTimes_64 : dc cX6_findTimes 64 (.aload_n 1) 1 65 := ⟨by decide +kernel, rfl⟩
theorem dX6_findTimes_65 : dc cX6_findTimes 65 (.iload_n 2) 1 66 := ⟨by decide +kernel, rfl⟩
theorem dX6_findTimes_66 : dc cX6_findTimes 66 (.iload_n 3) 1 67 := ⟨by decide +kernel, rfl⟩
theorem dX6_findTimes_67 : dc cX6_findTimes 67 (.iload 7) 2 69 := ⟨by decide +kernel, rfl⟩
theorem dX6_findTimes_69 : dc cX6_findTimes 69 (.aload_n 0) 1 70 := ⟨by decide +kernel, rfl⟩
theorem dX6_findTimes_70 : dc cX6_findTimes 70 (.getfield 9) 3 73 := ⟨by decide +kernel, rfl⟩
theorem dX6_findTimes_73 : dc cX6_findTimes 73 (.iload 8) 2 75 := ⟨by decide +kernel, rfl⟩
theorem dX6_findTimes_75 : dc cX6_findTimes 75 (.iaload) 1 76 := ⟨by decide +kernel, rfl⟩
theorem dX6_findTimes_76 : dc cX6_findTimes 76 (.invokestatic 69) 3 79 := ⟨by decide +kernel, rfl⟩
theorem dX6_findTimes_79 : dc cX6_findTimes 79 (.invokestatic 73) 3 82 := ⟨by decide +kernel, rfl⟩
theorem dX6_findTimes_82 : dc cX6_findTimes 82 (.iastore) 1 83 := ⟨by decide +kernel, rfl⟩
theorem dX6_findTimes_83 : dc cX6_findTimes 83 (.aload_n 0) 1 84 := ⟨by decide +kernel, rfl⟩
theorem dX6_findTimes_84 : dc cX6_findTimes 84 (.getfield 9) 3 87 := ⟨by decide +kernel, rfl⟩
theorem dX6_findTimes_87 : dc cX6_findTimes 87 (.iload 8) 2 89 := ⟨by decide +kernel, rfl⟩
theorem dX6_findTimes_89 : dc cX6_findTimes 89 (.aload_n 0) 1 90 := ⟨by decide +kernel, rfl⟩
theorem dX6_findTimes_90 : dc cX6_findTimes 90 (.getfield 9) 3 93 := ⟨by decide +kernel, rfl⟩
theorem dX6_findTimes_93 : dc cX6_findTimes 93 (.iload 8) 2 95 := ⟨by decide +kernel, rfl⟩
theorem dX6_findTimes_95 : dc cX6_findTimes 95 (.iaload) 1 96 := ⟨by decide +kernel, rfl⟩
theorem dX6_findTimes_96 : dc cX6_findTimes 96 (.aload_n 1) 1 97 := ⟨by decide +kernel, rfl⟩
theorem dX6_findTimes_97 : dc cX6_findTimes 97 (.iload_n 2) 1 98 := ⟨by decide +kernel, rfl⟩
theorem dX6_findTimes_98 : dc cX6_findTimes 98 (.iload_n 3) 1 99 := ⟨by decide +kernel, rfl⟩
theorem dX6_findTimes_99 : dc cX6_findTimes 99 (.iload 7) 2 101 := ⟨by decide +kernel, rfl⟩
theorem dX6_findTimes_101 : dc cX6_findTimes 101 (.aload_n 0) 1 102 := ⟨by decide +kernel, rfl⟩
theorem dX6_findTimes_102 : dc cX6_findTimes 102 (.getfield 9) 3 105 := ⟨by decide +kernel, rfl⟩
theorem dX6_findTimes_105 : dc cX6_findTimes 105 (.iload 9) 2 107 := ⟨by decide +kernel, rfl⟩
theorem dX6_findTimes_107 : dc cX6_findTimes 107 (.iaload) 1 108 := ⟨by decide +kernel, rfl⟩
theorem dX6_findTimes_108 : dc cX6_findTimes 108 (.invokestatic 69) 3 111 := ⟨by decide +kernel, rfl⟩
theorem dX6_findTimes_111 : dc cX6_findTimes 111 (.invokestatic 73) 3 114 := ⟨by decide +kernel, rfl⟩
theorem dX6_findTimes_114 : dc cX6_findTimes 114 (.iastore) 1 115 := ⟨by decide +kernel, rfl⟩
theorem dX6_findTimes_115 : dc cX6_findTimes 115 (.iinc 7 1) 3 118 := ⟨by decide +kernel, rfl⟩
theorem dX6_findTimes_118 : dc cX6_findTimes 118 (.goto (-94)) 3 121 := ⟨by decide +kernel, rfl⟩
theorem dX6_findTimes_121 : dc cX6_findTimes 121 (.iinc 6 1) 3 124 := ⟨by decide +kernel, rfl⟩
theorem dX6_findTimes_124 : dc cX6_findTimes 124 (.goto (-112)) 3 127 := ⟨by decide +kernel, rfl⟩
theorem dX6_findTimes_127 : dc cX6_findTimes 127 (.return_) 1 128 := ⟨by decide +kernel, rfl⟩
theorem nm_X6_findTimes : (yX6_findTimes).cls ≠ "java/lang/invoke/MethodHandle" ∧ (yX6_findTimes).cls ≠ "java/lang/invoke/VarHandle" ∧ (parseMethodDescriptor (yX6_findTimes).desc).map (fun d => d.parameters.length) = some 5 := ⟨by decide +kernel, by decide +kernel, by decide +kernel⟩
set_option maxRecDepth 100000 in
set_option maxHeartbeats 4000000 in
theorem s_X6_findTimes_24 {ad : Nat → Nat} {cy : Nat → ClassId} {x : KX} (G : KG ad cy x cX6_findTimes "NoonGuides$Paths" 10 (some none) 5) {a0 : Nat} {a1 : Nat} {c2 : Int32} {c3 : Int32} {c6 : Int32} (h0 : kty a0 = 7) (h1 : kty a1 = 3) {k121 : KM → Option KM} {y : KM} (hk121 : ∀ (M : KM), k121 M = some y → KV ad cy x (none, y) 121 [(0, .ref (ad a0)), (1, .ref (ad a1)), (2, .int c2), (3, .int c3), (6, .int c6)] [] M) : ∀ (n : Nat) (w7 : Int32) (M : KM), lp_X6_findTimes_24 n a0 a1 c2 c3 c6 w7 M k121 = some y → KV ad cy x (none, y) 24 [(0, .ref (ad a0)), (1, .ref (ad a1)), (2, .int c2), (3, .int c3), (6, .int c6), (7, .int w7)] [] M := by
  intro n
  induction n with
  | zero =>
    intro w7 M hf
    cases hf
  | succ n ih =>
    intro w7 M hf
    rw [lp_X6_findTimes_24] at hf
    refine v_iload G dX6_findTimes_24 5 rfl ?_
    refine v_aload_n G dX6_findTimes_26 1 rfl ?_
    refine gf_2_9 G h1 t_387 (Or.inl rfl) dX6_findTimes_27 ?_
    refine v_icmp_ge 121 G dX6_findTimes_30 (by decide) (fun h19 => ?_) (fun h19 => ?_)
    · replace hf := (if_pos h19).symm.trans hf
      refine v_sub _ [0, 1, 2, 3, 4] rfl ?_
      exact hk121 M hf
    · replace hf := (if_neg h19).symm.trans hf
      refine v_aload_n G dX6_findTimes_33 1 rfl ?_
      refine gf_2_1 G h1 t_365 (Or.inl rfl) dX6_findTimes_34 ?_
      refine v_iload G dX6_findTimes_37 5 rfl ?_
      obtain ⟨g2, hf⟩ := gd_e hf
      refine al_30 G (kf_2_2 h1) g2 dX6_findTimes_39 ?_
      refine v_nmi (fun v3 ev3 => ?_)
      replace hf := lt_e hf ev3
      refine v_istore [(8, .int v3), (0, .ref (ad a0)), (1, .ref (ad a1)), (2, .int c2), (3, .int c3), (6, .int c6), (7, .int w7)] G dX6_findTimes_40 (by decide) rfl ?_
      refine v_aload_n G dX6_findTimes_42 2 rfl ?_
      refine gf_2_2 G h1 t_367 (Or.inl rfl) dX6_findTimes_43 ?_
      refine v_iload G dX6_findTimes_46 6 rfl ?_
      obtain ⟨g4, hf⟩ := gd_e hf
      refine al_30 G (kf_2_3 h1) g4 dX6_findTimes_48 ?_
      refine v_nmi (fun v5 ev5 => ?_)
      replace hf := lt_e hf ev5
      refine v_istore [(9, .int v5), (8, .int v3), (0, .ref (ad a0)), (1, .ref (ad a1)), (2, .int c2), (3, .int c3), (6, .int c6), (7, .int w7)] G dX6_findTimes_49 (by decide) rfl ?_
      refine v_aload_n G dX6_findTimes_51 2 rfl ?_
      refine gf_6_0 G h0 t_199 (Or.inl rfl) dX6_findTimes_52 ?_
      refine v_iload G dX6_findTimes_55 0 rfl ?_
      refine v_aload_n G dX6_findTimes_57 2 rfl ?_
      refine gf_6_0 G h0 t_199 (Or.inl rfl) dX6_findTimes_58 ?_
      refine v_iload G dX6_findTimes_61 0 rfl ?_
      obtain ⟨g6, hf⟩ := gd_e hf
      refine al_28 G (kf_6_1 h0) g6 dX6_findTimes_63 ?_
      refine v_aload_n G dX6_findTimes_64 3 rfl ?_
      refine v_iload_n G dX6_findTimes_65 4 rfl ?_
      refine v_iload_n G dX6_findTimes_66 5 rfl ?_
      refine v_iload G dX6_findTimes_67 7 rfl ?_
      refine v_aload_n G dX6_findTimes_69 2 rfl ?_
      refine gf_6_0 G h0 t_199 (Or.inl rfl) dX6_findTimes_70 ?_
      refine v_iload G dX6_findTimes_73 1 rfl ?_
      obtain ⟨g7, hf⟩ := gd_e hf
      refine al_28 G (kf_6_1 h0) g7 dX6_findTimes_75 ?_
      obtain ⟨v8, hcv8, hf⟩ := bd_e hf
      refine v_callS [.ref (ad a1), .int c2, .int c3, .int w7, .int (M.1 (a0 + 1) (v3).toNatClampNeg)] G (c_X6_arrival n h1 hcv8) t_785 t_786 t_10 t_787 nm_X6_arrival (by decide) (by decide) rfl rfl (Nat.le_of_ble_eq_true rfl) dX6_findTimes_76 (kv_ri ?_)
      refine v_mmin G (by decide) t_792 t_666 t_17 t_667 (Nat.le_of_ble_eq_true rfl) dX6_findTimes_79 ?_
      refine v_nmi (fun v9 ev9 => ?_)
      replace hf := lt_e hf ev9
      obtain ⟨g10, hf⟩ := gd_e hf
      refine as_28 G (kf_6_1 h0) g10 dX6_findTimes_82 ?_
      refine v_nmM (fun M11 eM11 => ?_)
      replace hf := lt_e hf eM11
      refine v_aload_n G dX6_findTimes_83 2 rfl ?_
      refine gf_6_0 G h0 t_199 (Or.inl rfl) dX6_findTimes_84 ?_
      refine v_iload G dX6_findTimes_87 1 rfl ?_
      refine v_aload_n G dX6_findTimes_89 2 rfl ?_
      refine gf_6_0 G h0 t_199 (Or.inl rfl) dX6_findTimes_90 ?_
      refine v_iload G dX6_findTimes_93 1 rfl ?_
      obtain ⟨g12, hf⟩ := gd_e hf
      refine al_28 G (kf_6_1 h0) g12 dX6_findTimes_95 ?_
      refine v_aload_n G dX6_findTimes_96 3 rfl ?_
      refine v_iload_n G dX6_findTimes_97 4 rfl ?_
      refine v_iload_n G dX6_findTimes_98 5 rfl ?_
      refine v_iload G dX6_findTimes_99 7 rfl ?_
      refine v_aload_n G dX6_findTimes_101 2 rfl ?_
      refine gf_6_0 G h0 t_199 (Or.inl rfl) dX6_findTimes_102 ?_
      refine v_iload G dX6_findTimes_105 0 rfl ?_
      obtain ⟨g13, hf⟩ := gd_e hf
      refine al_28 G (kf_6_1 h0) g13 dX6_findTimes_107 ?_
      obtain ⟨v14, hcv14, hf⟩ := bd_e hf
      refine v_callS [.ref (ad a1), .int c2, .int c3, .int w7, .int (M11.1 (a0 + 1) (v5).toNatClampNeg)] G (c_X6_arrival n h1 hcv14) t_785 t_786 t_10 t_787 nm_X6_arrival (by decide) (by decide) rfl rfl (Nat.le_of_ble_eq_true rfl) dX6_findTimes_108 (kv_ri ?_)
      refine v_mmin G (by decide) t_792 t_666 t_17 t_667 (Nat.le_of_ble_eq_true rfl) dX6_findTimes_111 ?_
      refine v_nmi (fun v15 ev15 => ?_)
      replace hf := lt_e hf ev15
      obtain ⟨g16, hf⟩ := gd_e hf
      refine as_28 G (kf_6_1 h0) g16 dX6_findTimes_114 ?_
      refine v_nmM (fun M17 eM17 => ?_)
      replace hf := lt_e hf eM17
      obtain ⟨v18, ev18⟩ : ∃ q : Int32, q = w7 + (1 : Int32) := ⟨_, rfl⟩
      replace hf := lt_e hf ev18
      refine v_iinc v18 [(7, .int v18), (9, .int v5), (8, .int v3), (0, .ref (ad a0)), (1, .ref (ad a1)), (2, .int c2), (3, .int c3), (6, .int c6)] G dX6_findTimes_115 7 rfl (by rw [ev18]; rfl) (by decide) rfl ?_
      refine v_goto 24 G dX6_findTimes_118 (by decide) ?_
      refine v_sub _ [3, 4, 5, 6, 7, 0] rfl ?_
      exact ih v18 M17 hf
set_option maxRecDepth 100000 in
set_option maxHeartbeats 4000000 in
theorem s_X6_findTimes_12 {ad : Nat → Nat} {cy : Nat → ClassId} {x : KX} (G : KG ad cy x cX6_findTimes "NoonGuides$Paths" 10 (some none) 5) {a0 : Nat} {a1 : Nat} {c2 : Int32} {c3 : Int32} (h0 : kty a0 = 7) (h1 : kty a1 = 3) {y : KM} : ∀ (n : Nat) (w6 : Int32) (M : KM), lp_X6_findTimes_12 n a0 a1 c2 c3 w6 M = some y → KV ad cy x (none, y) 12 [(0, .ref (ad a0)), (1, .ref (ad a1)), (2, .int c2), (3, .int c3), (6, .int w6)] [] M := by
  intro n
  induction n with
  | zero =>
    intro w6 M hf
    cases hf
  | succ n ih =>
    intro w6 M hf
    rw [lp_X6_findTimes_12] at hf
    refine v_iload G dX6_findTimes_12 4 rfl ?_
    refine v_aload_n G dX6_findTimes_14 1 rfl ?_
    refine gf_2_8 G h1 t_383 (Or.inl rfl) dX6_findTimes_15 ?_
    refine v_icmp_ge 127 G dX6_findTimes_18 (by decide) (fun h22 => ?_) (fun h22 => ?_)
    · replace hf := (if_pos h22).symm.trans hf
      obtain rfl := Option.some.inj hf
      exact v_vret G dX6_findTimes_127
    · replace hf := (if_neg h22).symm.trans hf
      refine v_iconst (0 : Int32) G dX6_findTimes_21 (by decide) ?_
      refine v_istore [(7, .int (0 : Int32)), (0, .ref (ad a0)), (1, .ref (ad a1)), (2, .int c2), (3, .int c3), (6, .int w6)] G dX6_findTimes_22 (by decide) rfl ?_
      refine v_sub _ [1, 2, 3, 4, 5, 0] rfl ?_
      refine s_X6_findTimes_24 G h0 h1 (fun M20 hf => ?_) n (0 : Int32) M hf
      · obtain ⟨v21, ev21⟩ : ∃ q : Int32, q = w6 + (1 : Int32) := ⟨_, rfl⟩
        replace hf := lt_e hf ev21
        refine v_iinc v21 [(6, .int v21), (0, .ref (ad a0)), (1, .ref (ad a1)), (2, .int c2), (3, .int c3)] G dX6_findTimes_121 4 rfl (by rw [ev21]; rfl) (by decide) rfl ?_
        refine v_goto 12 G dX6_findTimes_124 (by decide) ?_
        refine v_sub _ [1, 2, 3, 4, 0] rfl ?_
        exact ih v21 M20 hf
set_option maxRecDepth 100000 in
set_option maxHeartbeats 4000000 in
theorem c_X6_findTimes {l : Launch} {ad : Nat → Nat} {cy : Nat → ClassId} {D : va_G} {z : Nat} (n : Nat) {a0 : Nat} {a1 : Nat} {p2 : Int32} {p3 : Int32} {p4 : Int32} {p5 : Int32} {M : KM} {y : KM} (h0 : kty a0 = 7) (h1 : kty a1 = 3) (hf : f_X6_findTimes n a0 a1 p2 p3 p4 p5 M = some y) : KC l ad cy D z yX6_findTimes cX6_findTimes 10 none 5 [.ref (ad a0), .ref (ad a1), .int p2, .int p3, .int p4, .int p5] M (none, y) := by
  refine kv_enter (by decide +kernel) (Nat.le_of_ble_eq_true rfl) ?_
  intro x hl hD hz G
  subst hl hD hz
  unfold f_X6_findTimes at hf
  have G : KG ad cy x cX6_findTimes "NoonGuides$Paths" 10 (some none) 5 := G
  show KV ad cy x (none, y) 0 [(0, .ref (ad a0)), (1, .ref (ad a1)), (2, .int p2), (3, .int p3), (4, .int p4), (5, .int p5)] [] M
  refine v_aload_n G dX6_findTimes_0 0 rfl ?_
  refine v_aload_n G dX6_findTimes_1 1 rfl ?_
  refine v_iload G dX6_findTimes_2 4 rfl ?_
  refine v_iload G dX6_findTimes_4 5 rfl ?_
  obtain ⟨v1, hcv1, hf⟩ := bd_e hf
  refine v_callV [.ref (ad a1), .int p4, .int p5] G (c_X6_startAt n h0 h1 hcv1) h0 (by decide) rfl rfl rfl t_779 t_781 t_p18 t_10 t_782 nm_X6_startAt (by decide) (by decide) rfl rfl (Nat.le_of_ble_eq_true rfl) dX6_findTimes_6 (kv_rv ?_)
  refine v_iconst (1 : Int32) G dX6_findTimes_9 (by decide) ?_
  refine v_istore [(6, .int (1 : Int32)), (0, .ref (ad a0)), (1, .ref (ad a1)), (2, .int p2), (3, .int p3), (4, .int p4), (5, .int p5)] G dX6_findTimes_10 (by decide) rfl ?_
  refine v_sub _ [1, 2, 3, 4, 0] rfl ?_
  refine s_X6_findTimes_12 G h0 h1 n (1 : Int32) v1 hf
abbrev cX6_minutesFrom : ByteArray := prog_8_method_3_code
def yX6_minutesFrom : MethodName := ⟨RX6, "minutesFrom", "(II)I"⟩
theorem dX6_minutesFrom_0 : dc cX6_minutesFrom 0 (.iload_n 0) 1 1 := ⟨by decide +kernel, rfl⟩
theorem dX6_minutesFrom_1 : dc cX6_minutesFrom 1 (.ldc 48) 2 3 := ⟨by decide +kernel, rfl⟩
theorem dX6_minutesFrom_3 : dc cX6_minutesFrom 3 (.if_icmp .lt 8) 3 6 := ⟨by decide +kernel, rfl⟩
theorem dX6_minutesFrom_6 : dc cX6_minutesFrom 6 (.ldc 48) 2 8 := ⟨by decide +kernel, rfl⟩
theorem dX6_minutesFrom_8 : dc cX6_minutesFrom 8 (.goto 6) 3 11 := ⟨by decide +kernel, rfl⟩
theorem dX6_minutesFrom_11 : dc cX6_minutesFrom 11 (.iload_n 0) 1 12 := ⟨by decide +kernel, rfl⟩
theorem dX6_minutesFrom_12 : dc cX6_minutesFrom 12 (.iload_n 1) 1 13 := ⟨by decide +kernel, rfl⟩
theorem dX6_minutesFrom_13 : dc cX6_minutesFrom 13 (.isub) 1 14 := ⟨by decide +kernel, rfl⟩
theorem dX6_minutesFrom_14 : dc cX6_minutesFrom 14 (.ireturn) 1 15 := ⟨by decide +kernel, rfl⟩
theorem nm_X6_minutesFrom : (yX6_minutesFrom).cls ≠ "java/lang/invoke/MethodHandle" ∧ (yX6_minutesFrom).cls ≠ "java/lang/invoke/VarHandle" ∧ (parseMethodDescriptor (yX6_minutesFrom).desc).map (fun d => d.parameters.length) = some 2 := ⟨by decide +kernel, by decide +kernel, by decide +kernel⟩
set_option maxRecDepth 100000 in
set_option maxHeartbeats 4000000 in
theorem c_X6_minutesFrom {l : Launch} {ad : Nat → Nat} {cy : Nat → ClassId} {D : va_G} {z : Nat} {p0 : Int32} {p1 : Int32} {M : KM} {y : Int32} (hf : f_X6_minutesFrom p0 p1 M = y) : KC l ad cy D z yX6_minutesFrom cX6_minutesFrom 2 (some .int) 1 [.int p0, .int p1] M (some (.int y), M) := by
  refine kv_enter (by decide +kernel) (Nat.le_of_ble_eq_true rfl) ?_
  intro x hl hD hz G
  subst hl hD hz
  unfold f_X6_minutesFrom at hf
  have G : KG ad cy x cX6_minutesFrom "NoonGuides$Paths" 2 (some (some .int)) 1 := G
  show KV ad cy x (some (.int y), M) 0 [(0, .int p0), (1, .int p1)] [] M
  refine v_iload_n G dX6_minutesFrom_0 0 rfl ?_
  refine v_ldc G dX6_minutesFrom_1 t_783 ?_
  refine v_icmp_lt 11 G dX6_minutesFrom_3 (by decide) (fun h1 => ?_) (fun h1 => ?_)
  · replace hf := (if_pos h1).symm.trans hf
    refine v_iload_n G dX6_minutesFrom_11 0 rfl ?_
    refine v_iload_n G dX6_minutesFrom_12 1 rfl ?_
    refine v_isub G dX6_minutesFrom_13 ?_
    obtain rfl := hf
    exact v_iret G dX6_minutesFrom_14
  · replace hf := (if_neg h1).symm.trans hf
    refine v_ldc G dX6_minutesFrom_6 t_783 ?_
    refine v_goto 14 G dX6_minutesFrom_8 (by decide) ?_
    obtain rfl := hf
    exact v_iret G dX6_minutesFrom_14
abbrev cX6_minutesTo : ByteArray := prog_8_method_2_code
def yX6_minutesTo : MethodName := ⟨RX6, "minutesTo", "(LNoonGuides$Land;III)I"⟩
theorem dX6_minutesTo_0 : dc cX6_minutesTo 0 (.aload_n 1) 1 1 := ⟨by decide +kernel, rfl⟩
theorem dX6_minutesTo_1 : dc cX6_minutesTo 1 (.getfield 25) 3 4 := ⟨by decide +kernel, rfl⟩
theorem dX6_minutesTo_4 : dc cX6_minutesTo 4 (.iload_n 2) 1 5 := ⟨by decide +kernel, rfl⟩
theorem dX6_minutesTo_5 : dc cX6_minutesTo 5 (.aaload) 1 6 := ⟨by decide +kernel, rfl⟩
theorem dX6_minutesTo_6 : dc cX6_minutesTo 6 (.getfield 31) 3 9 := ⟨by decide +kernel, rfl⟩
theorem dX6_minutesTo_9 : dc cX6_minutesTo 9 (.istore 5) 2 11 := ⟨by decide +kernel, rfl⟩
theorem dX6_minutesTo_11 : dc cX6_minutesTo 11 (.aload_n 0) 1 12 := ⟨by decide +kernel, rfl⟩
theorem dX6_minutesTo_12 : dc cX6_minutesTo 12 (.aload_n 1) 1 13 := ⟨by decide +kernel, rfl⟩
theorem dX6_minutesTo_13 : dc cX6_minutesTo 13 (.iload_n 2) 1 14 := ⟨by decide +kernel, rfl⟩
theorem dX6_minutesTo_14 : dc cX6_minutesTo 14 (.iload_n 3) 1 15 := ⟨by decide +kernel, rfl⟩
theorem dX6_minutesTo_15 : dc cX6_minutesTo 15 (.iload 5) 2 17 := ⟨by decide +kernel, rfl⟩
theorem dX6_minutesTo_17 : dc cX6_minutesTo 17 (.aload_n 1) 1 18 := ⟨by decide +kernel, rfl⟩
theorem dX6_minutesTo_18 : dc cX6_minutesTo 18 (.getfield 37) 3 21 := ⟨by decide +kernel, rfl⟩
theorem dX6_minutesTo_21 : dc cX6_minutesTo 21 (.invokevirtual 40) 3 24 := ⟨by decide +kernel, rfl⟩
theorem dX6_minutesTo_24 : dc cX6_minutesTo 24 (.aload_n 0) 1 25 := ⟨by decide +kernel, rfl⟩
theorem dX6_minutesTo_25 : dc cX6_minutesTo 25 (.getfield 9) 3 28 := ⟨by decide +kernel, rfl⟩
theorem dX6_minutesTo_28 : dc cX6_minutesTo 28 (.iload 4) 2 30 := ⟨by decide +kernel, rfl⟩
theorem dX6_minutesTo_30 : dc cX6_minutesTo 30 (.iaload) 1 31 := ⟨by decide +kernel, rfl⟩
theorem dX6_minutesTo_31 : dc cX6_minutesTo 31 (.aload_n 1) 1 32 := ⟨by decide +kernel, rfl⟩
theorem dX6_minutesTo_32 : dc cX6_minutesTo 32 (.getfield 37) 3 35 := ⟨by decide +kernel, rfl⟩
theorem dX6_minutesTo_35 : dc cX6_minutesTo 35 (.invokestatic 44) 3 38 := ⟨by decide +kernel, rfl⟩
theorem dX6_minutesTo_38 : dc cX6_minutesTo 38 (.ireturn) 1 39 := ⟨by decide +kernel, rfl⟩
theorem nm_X6_minutesTo : (yX6_minutesTo).cls ≠ "java/lang/invoke/MethodHandle" ∧ (yX6_minutesTo).cls ≠ "java/lang/invoke/VarHandle" ∧ (parseMethodDescriptor (yX6_minutesTo).desc).map (fun d => d.parameters.length) = some 4 := ⟨by decide +kernel, by decide +kernel, by decide +kernel⟩
set_option maxRecDepth 100000 in
set_option maxHeartbeats 4000000 in
theorem c_X6_minutesTo {l : Launch} {ad : Nat → Nat} {cy : Nat → ClassId} {D : va_G} {z : Nat} (n : Nat) {a0 : Nat} {a1 : Nat} {p2 : Int32} {p3 : Int32} {p4 : Int32} {M : KM} {y : (Int32 × KM)} (h0 : kty a0 = 7) (h1 : kty a1 = 3) (hf : f_X6_minutesTo n a0 a1 p2 p3 p4 M = some y) : KC l ad cy D z yX6_minutesTo cX6_minutesTo 6 (some .int) 6 [.ref (ad a0), .ref (ad a1), .int p2, .int p3, .int p4] M (some (.int y.1), y.2) := by
  refine kv_enter (by decide +kernel) (Nat.le_of_ble_eq_true rfl) ?_
  intro x hl hD hz G
  subst hl hD hz
  unfold f_X6_minutesTo at hf
  have G : KG ad cy x cX6_minutesTo "NoonGuides$Paths" 6 (some (some .int)) 6 := G
  show KV ad cy x (some (.int y.1), y.2) 0 [(0, .ref (ad a0)), (1, .ref (ad a1)), (2, .int p2), (3, .int p3), (4, .int p4)] [] M
  refine v_aload_n G dX6_minutesTo_0 1 rfl ?_
  refine gf_2_5 G h1 t_372 (Or.inl rfl) dX6_minutesTo_1 ?_
  refine v_iload_n G dX6_minutesTo_4 2 rfl ?_
  obtain ⟨g1, hf⟩ := gd_e hf
  refine al_Person G (kf_2_6 h1) g1 dX6_minutesTo_5 ?_
  refine gf_7_5 G (ke_Person (kf_2_6 h1) (ix_lt g1)) t_321 (Or.inl rfl) dX6_minutesTo_6 ?_
  refine v_nmi (fun v2 ev2 => ?_)
  replace hf := lt_e hf ev2
  refine v_istore [(5, .int v2), (0, .ref (ad a0)), (1, .ref (ad a1)), (2, .int p2), (3, .int p3), (4, .int p4)] G dX6_minutesTo_9 (by decide) rfl ?_
  refine v_aload_n G dX6_minutesTo_11 1 rfl ?_
  refine v_aload_n G dX6_minutesTo_12 2 rfl ?_
  refine v_iload_n G dX6_minutesTo_13 3 rfl ?_
  refine v_iload_n G dX6_minutesTo_14 4 rfl ?_
  refine v_iload G dX6_minutesTo_15 0 rfl ?_
  refine v_aload_n G dX6_minutesTo_17 2 rfl ?_
  refine gf_2_11 G h1 t_394 (Or.inl rfl) dX6_minutesTo_18 ?_
  obtain ⟨v3, hcv3, hf⟩ := bd_e hf
  refine v_callV [.ref (ad a1), .int p2, .int p3, .int v2, .int (M.1 a1 11)] G (c_X6_findTimes n h0 h1 hcv3) h0 (by decide) rfl rfl rfl t_775 t_777 t_p17 t_10 t_778 nm_X6_findTimes (by decide) (by decide) rfl rfl (Nat.le_of_ble_eq_true rfl) dX6_minutesTo_21 (kv_rv ?_)
  refine v_aload_n G dX6_minutesTo_24 1 rfl ?_
  refine gf_6_0 G h0 t_199 (Or.inl rfl) dX6_minutesTo_25 ?_
  refine v_iload G dX6_minutesTo_28 5 rfl ?_
  obtain ⟨g4, hf⟩ := gd_e hf
  refine al_28 G (kf_6_1 h0) g4 dX6_minutesTo_30 ?_
  refine v_aload_n G dX6_minutesTo_31 2 rfl ?_
  refine gf_2_11 G h1 t_394 (Or.inl rfl) dX6_minutesTo_32 ?_
  obtain ⟨v5, hcv5⟩ : ∃ q, f_X6_minutesFrom (v3.1 (a0 + 1) (p4).toNatClampNeg) (v3.1 a1 11) v3 = q := ⟨_, rfl⟩
  replace hf := lt_e hf hcv5.symm
  refine v_callS [.int (v3.1 (a0 + 1) (p4).toNatClampNeg), .int (v3.1 a1 11)] G (c_X6_minutesFrom hcv5) t_793 t_794 t_10 t_795 nm_X6_minutesFrom (by decide) (by decide) rfl rfl (Nat.le_of_ble_eq_true rfl) dX6_minutesTo_35 (kv_ri ?_)
  obtain rfl := Option.some.inj hf
  exact v_iret G dX6_minutesTo_38
abbrev cX6_firstPlaceTo : ByteArray := prog_8_method_7_code
def yX6_firstPlaceTo : MethodName := ⟨RX6, "firstPlaceTo", "(LNoonGuides$Land;II)I"⟩
theorem dX6_firstPlaceTo_0 : dc cX6_firstPlaceTo 0 (.aload_n 1) 1 1 := ⟨by decide +kernel, rfl⟩
theorem dX6_firstPlaceTo_1 : dc cX6_firstPlaceTo 1 (.getfield 25) 3 4 := ⟨by decide +kernel, rfl⟩
theorem dX6_firstPlaceTo_4 : dc cX6_firstPlaceTo 4 (.iload_n 2) 1 5 := ⟨by decide +kernel, rfl⟩
theorem dX6_firstPlaceTo_5 : dc cX6_firstPlaceTo 5 (.aaload) 1 6 := ⟨by decide +kernel, rfl⟩
theorem dX6_firstPlaceTo_6 : dc cX6_firstPlaceTo 6 (.getfield 31) 3 9 := ⟨by decide +kernel, rfl⟩
theorem dX6_firstPlaceTo_9 : dc cX6_firstPlaceTo 9 (.istore 4) 2 11 := ⟨by decide +kernel, rfl⟩
theorem dX6_firstPlaceTo_11 : dc cX6_firstPlaceTo 11 (.aload_n 0) 1 12 := ⟨by decide +kernel, rfl⟩
theorem dX6_firstPlaceTo_12 : dc cX6_firstPlaceTo 12 (.aload_n 1) 1 13 := ⟨by decide +kernel, rfl⟩
theorem dX6_firstPlaceTo_13 : dc cX6_firstPlaceTo 13 (.iload_n 2) 1 14 := ⟨by decide +kernel, rfl⟩
theorem dX6_firstPlaceTo_14 : dc cX6_firstPlaceTo 14 (.iconst (-1)) 1 15 := ⟨by decide +kernel, rfl⟩
theorem dX6_firstPlaceTo_15 : dc cX6_firstPlaceTo 15 (.iload_n 3) 1 16 := ⟨by decide +kernel, rfl⟩
theorem dX6_firstPlaceTo_16 : dc cX6_firstPlaceTo 16 (.invokevirtual 82) 3 19 := ⟨by decide +kernel, rfl⟩
theorem dX6_firstPlaceTo_19 : dc cX6_firstPlaceTo 19 (.istore 5) 2 21 := ⟨by decide +kernel, rfl⟩
theorem dX6_firstPlaceTo_21 : dc cX6_firstPlaceTo 21 (.iconst 0) 1 22 := ⟨by decide +kernel, rfl⟩
theorem dX6_firstPlaceTo_22 : dc cX6_firstPlaceTo 22 (.istore 6) 2 24 := ⟨by decide +kernel, rfl⟩
theorem dX6_firstPlaceTo_24 : dc cX6_firstPlaceTo 24 (.iload 6) 2 26 := ⟨by decide +kernel, rfl⟩
theorem dX6_firstPlaceTo_26 : dc cX6_firstPlaceTo 26 (.aload_n 1) 1 27 := ⟨by decide +kernel, rfl⟩
theorem dX6_firstPlaceTo_27 : dc cX6_firstPlaceTo 27 (.getfield 57) 3 30 := ⟨by decide +kernel, rfl⟩
theorem dX6_firstPlaceTo_30 : dc cX6_firstPlaceTo 30 (.if_icmp .ge 73) 3 33 := ⟨by decide +kernel, rfl⟩
theorem dX6_firstPlaceTo_33 : dc cX6_firstPlaceTo 33 (.iload 5) 2 35 := ⟨by decide +kernel, rfl⟩
theorem dX6_firstPlaceTo_35 : dc cX6_firstPlaceTo 35 (.ldc 48) 2 37 := ⟨by decide +kernel, rfl⟩
theorem dX6_firstPlaceTo_37 : dc cX6_firstPlaceTo 37 (.if_icmp .ge 66) 3 40 := ⟨by decide +kernel, rfl⟩
theorem dX6_firstPlaceTo_40 : dc cX6_firstPlaceTo 40 (.aload_n 1) 1 41 := ⟨by decide +kernel, rfl⟩
theorem dX6_firstPlaceTo_41 : dc cX6_firstPlaceTo 41 (.iload 4) 2 43 := ⟨by decide +kernel, rfl⟩
theorem dX6_firstPlaceTo_43 : dc cX6_firstPlaceTo 43 (.iload 6) 2 45 := ⟨by decide +kernel, rfl⟩
theorem dX6_firstPlaceTo_45 : dc cX6_firstPlaceTo 45 (.invokevirtual 86) 3 48 := ⟨by decide +kernel, rfl⟩
theorem dX6_firstPlaceTo_48 : dc cX6_firstPlaceTo 48 (.istore 7) 2 50 := ⟨by decide +kernel, rfl⟩
theorem dX6_firstPlaceTo_50 : dc cX6_firstPlaceTo 50 (.iload 7) 2 52 := ⟨by decide +kernel, rfl⟩
theorem dX6_firstPlaceTo_52 : dc cX6_firstPlaceTo 52 (.iconst (-1)) 1 53 := ⟨by decide +kernel, rfl⟩
theorem dX6_firstPlaceTo_53 : dc cX6_firstPlaceTo 53 (.if_icmp .eq 44) 3 56 := ⟨by decide +kernel, rfl⟩
theorem dX6_firstPlaceTo_56 : dc cX6_firstPlaceTo 56 (.aload_n 0) 1 57 := ⟨by decide +kernel, rfl⟩
theorem dX6_firstPlaceTo_57 : dc cX6_firstPlaceTo 57 (.aload_n 1) 1 58 := ⟨by decide +kernel, rfl⟩
theorem dX6_firstPlaceTo_58 : dc cX6_firstPlaceTo 58 (.iload_n 2) 1 59 := ⟨by decide +kernel, rfl⟩
theorem dX6_firstPlaceTo_59 : dc cX6_firstPlaceTo 59 (.iconst (-1)) 1 60 := ⟨by decide +kernel, rfl⟩
theorem dX6_firstPlaceTo_60 : dc cX6_firstPlaceTo 60 (.iload 6) 2 62 := ⟨by decide +kernel, rfl⟩
theorem dX6_firstPlaceTo_62 : dc cX6_firstPlaceTo 62 (.aload_n 1) 1 63 := ⟨by decide +kernel, rfl⟩
theorem dX6_firstPlaceTo_63 : dc cX6_firstPlaceTo 63 (.iload_n 2) 1 64 := ⟨by decide +kernel, rfl⟩
theorem dX6_firstPlaceTo_64 : dc cX6_firstPlaceTo 64 (.iload 7) 2 66 := ⟨by decide +kernel, rfl⟩
theorem dX6_firstPlaceTo_66 : dc cX6_firstPlaceTo 66 (.aload_n 1) 1 67 := ⟨by decide +kernel, rfl⟩
theorem dX6_firstPlaceTo_67 : dc cX6_firstPlaceTo 67 (.getfield 37) 3 70 := ⟨by decide +kernel, rfl⟩
theorem dX6_firstPlaceTo_70 : dc cX6_firstPlaceTo 70 (.invokevirtual 78) 3 73 := ⟨by decide +kernel, rfl⟩
theorem dX6_firstPlaceTo_73 : dc cX6_firstPlaceTo 73 (.invokevirtual 40) 3 76 := ⟨by decide +kernel, rfl⟩
theorem dX6_firstPlaceTo_76 : dc cX6_firstPlaceTo 76 (.aload_n 0) 1 77 := ⟨by decide +kernel, rfl⟩
theorem dX6_firstPlaceTo_77 : dc cX6_firstPlaceTo 77 (.getfield 9) 3 80 := ⟨by decide +kernel, rfl⟩
theorem dX6_firstPlaceTo_80 : dc cX6_firstPlaceTo 80 (.iload_n 3) 1 81 := ⟨by decide +kernel, rfl⟩
theorem dX6_firstPlaceTo_81 : dc cX6_firstPlaceTo 81 (.iaload) 1 82 := ⟨by decide +kernel, rfl⟩
theorem dX6_firstPlaceTo_82 : dc cX6_firstPlaceTo 82 (.aload_n 1) 1 83 := ⟨by decide +kernel, rfl⟩
theorem dX6_firstPlaceTo_83 : dc cX6_firstPlaceTo 83 (.getfield 37) 3 86 := ⟨by decide +kernel, rfl⟩
theorem dX6_firstPlaceTo_86 : dc cX6_firstPlaceTo 86 (.invokestatic 44) 3 89 := ⟨by decide +kernel, rfl⟩
theorem dX6_firstPlaceTo_89 : dc cX6_firstPlaceTo 89 (.iload 5) 2 91 := ⟨by decide +kernel, rfl⟩
theorem dX6_firstPlaceTo_91 : dc cX6_firstPlaceTo 91 (.if_icmp .ne 6) 3 94 := ⟨by decide +kernel, rfl⟩
theorem dX6_firstPlaceTo_94 : dc cX6_firstPlaceTo 94 (.iload 6) 2 96 := ⟨by decide +kernel, rfl⟩
theorem dX6_firstPlaceTo_96 : dc cX6_firstPlaceTo 96 (.ireturn) 1 97 := ⟨by decide +kernel, rfl⟩
theorem dX6_firstPlaceTo_97 : dc cX6_firstPlaceTo 97 (.iinc 6 1) 3 100 := ⟨by decide +kernel, rfl⟩
theorem dX6_firstPlaceTo_100 : dc cX6_firstPlaceTo 100 (.goto (-76)) 3 103 := ⟨by decide +kernel, rfl⟩
theorem dX6_firstPlaceTo_103 : dc cX6_firstPlaceTo 103 (.iconst (-1)) 1 104 := ⟨by decide +kernel, rfl⟩
theorem dX6_firstPlaceTo_104 : dc cX6_firstPlaceTo 104 (.ireturn) 1 105 := ⟨by decide +kernel, rfl⟩
theorem nm_X6_firstPlaceTo : (yX6_firstPlaceTo).cls ≠ "java/lang/invoke/MethodHandle" ∧ (yX6_firstPlaceTo).cls ≠ "java/lang/invoke/VarHandle" ∧ (parseMethodDescriptor (yX6_firstPlaceTo).desc).map (fun d => d.parameters.length) = some 3 := ⟨by decide +kernel, by decide +kernel, by decide +kernel⟩
set_option maxRecDepth 100000 in
set_option maxHeartbeats 4000000 in
theorem s_X6_firstPlaceTo_24 {ad : Nat → Nat} {cy : Nat → ClassId} {x : KX} (G : KG ad cy x cX6_firstPlaceTo "NoonGuides$Paths" 8 (some (some .int)) 7) {a0 : Nat} {a1 : Nat} {c2 : Int32} {c3 : Int32} {c4 : Int32} {c5 : Int32} (h0 : kty a0 = 7) (h1 : kty a1 = 3) {y : (Int32 × KM)} : ∀ (n : Nat) (w6 : Int32) (M : KM), lp_X6_firstPlaceTo_24 n a0 a1 c2 c3 c4 c5 w6 M = some y → KV ad cy x (some (.int y.1), y.2) 24 [(0, .ref (ad a0)), (1, .ref (ad a1)), (2, .int c2), (3, .int c3), (4, .int c4), (5, .int c5), (6, .int w6)] [] M := by
  intro n
  induction n with
  | zero =>
    intro w6 M hf
    cases hf
  | succ n ih =>
    intro w6 M hf
    rw [lp_X6_firstPlaceTo_24] at hf
    refine v_iload G dX6_firstPlaceTo_24 6 rfl ?_
    refine v_aload_n G dX6_firstPlaceTo_26 1 rfl ?_
    refine gf_2_8 G h1 t_383 (Or.inl rfl) dX6_firstPlaceTo_27 ?_
    refine v_icmp_ge 103 G dX6_firstPlaceTo_30 (by decide) (fun h14 => ?_) (fun h14 => ?_)
    · replace hf := (if_pos h14).symm.trans hf
      refine v_iconst (-1 : Int32) G dX6_firstPlaceTo_103 (by decide) ?_
      obtain rfl := Option.some.inj hf
      exact v_iret G dX6_firstPlaceTo_104
    · replace hf := (if_neg h14).symm.trans hf
      refine v_iload G dX6_firstPlaceTo_33 5 rfl ?_
      refine v_ldc G dX6_firstPlaceTo_35 t_783 ?_
      refine v_icmp_ge 103 G dX6_firstPlaceTo_37 (by decide) (fun h13 => ?_) (fun h13 => ?_)
      · replace hf := (if_pos h13).symm.trans hf
        refine v_iconst (-1 : Int32) G dX6_firstPlaceTo_103 (by decide) ?_
        obtain rfl := Option.some.inj hf
        exact v_iret G dX6_firstPlaceTo_104
      · replace hf := (if_neg h13).symm.trans hf
        refine v_aload_n G dX6_firstPlaceTo_40 1 rfl ?_
        refine v_iload G dX6_firstPlaceTo_41 4 rfl ?_
        refine v_iload G dX6_firstPlaceTo_43 6 rfl ?_
        obtain ⟨v4, hcv4, hf⟩ := bd_e hf
        refine v_callV [.int c4, .int w6] G (c_X2_roadBetween n h1 hcv4) h1 (by decide) rfl rfl rfl t_810 t_570 t_571 t_13 t_572 nm_X2_roadBetween (by decide) (by decide) rfl rfl (Nat.le_of_ble_eq_true rfl) dX6_firstPlaceTo_45 (kv_ri ?_)
        refine v_istore [(7, .int v4), (0, .ref (ad a0)), (1, .ref (ad a1)), (2, .int c2), (3, .int c3), (4, .int c4), (5, .int c5), (6, .int w6)] G dX6_firstPlaceTo_48 (by decide) rfl ?_
        refine v_iload G dX6_firstPlaceTo_50 0 rfl ?_
        refine v_iconst (-1 : Int32) G dX6_firstPlaceTo_52 (by decide) ?_
        obtain ⟨j97, ej97, hf⟩ := lt_j hf
        have hj97 : ∀ (M5 : KM), j97 M5 = some y → KV ad cy x (some (.int y.1), y.2) 97 [(0, .ref (ad a0)), (1, .ref (ad a1)), (2, .int c2), (3, .int c3), (4, .int c4), (5, .int c5), (6, .int w6)] [] M5 := by
          intro M5 hf
          rw [ej97] at hf
          obtain ⟨v6, ev6⟩ : ∃ q : Int32, q = w6 + (1 : Int32) := ⟨_, rfl⟩
          replace hf := lt_e hf ev6
          refine v_iinc v6 [(6, .int v6), (0, .ref (ad a0)), (1, .ref (ad a1)), (2, .int c2), (3, .int c3), (4, .int c4), (5, .int c5)] G dX6_firstPlaceTo_97 6 rfl (by rw [ev6]; rfl) (by decide) rfl ?_
          refine v_goto 24 G dX6_firstPlaceTo_100 (by decide) ?_
          refine v_sub _ [1, 2, 3, 4, 5, 6, 0] rfl ?_
          exact ih v6 M5 hf
        refine v_icmp_eq 97 G dX6_firstPlaceTo_53 (by decide) (fun h12 => ?_) (fun h12 => ?_)
        · replace hf := (if_pos h12).symm.trans hf
          refine v_sub _ [1, 2, 3, 4, 5, 6, 7] rfl ?_
          exact hj97 M hf
        · replace hf := (if_neg h12).symm.trans hf
          refine v_aload_n G dX6_firstPlaceTo_56 1 rfl ?_
          refine v_aload_n G dX6_firstPlaceTo_57 2 rfl ?_
          refine v_iload_n G dX6_firstPlaceTo_58 3 rfl ?_
          refine v_iconst (-1 : Int32) G dX6_firstPlaceTo_59 (by decide) ?_
          refine v_iload G dX6_firstPlaceTo_60 7 rfl ?_
          refine v_aload_n G dX6_firstPlaceTo_62 2 rfl ?_
          refine v_iload_n G dX6_firstPlaceTo_63 3 rfl ?_
          refine v_iload G dX6_firstPlaceTo_64 0 rfl ?_
          refine v_aload_n G dX6_firstPlaceTo_66 2 rfl ?_
          refine gf_2_11 G h1 t_394 (Or.inl rfl) dX6_firstPlaceTo_67 ?_
          obtain ⟨v7, hcv7, hf⟩ := bd_e hf
          refine v_callV [.int c2, .int v4, .int (M.1 a1 11)] G (c_X2_arrivalBy n h1 hcv7) h1 (by decide) rfl rfl rfl t_788 t_789 t_790 t_13 t_791 nm_X2_arrivalBy (by decide) (by decide) rfl rfl (Nat.le_of_ble_eq_true rfl) dX6_firstPlaceTo_70 (kv_ri ?_)
          obtain ⟨v8, hcv8, hf⟩ := bd_e hf
          refine v_callV [.ref (ad a1), .int c2, .int (-1 : Int32), .int w6, .int v7] G (c_X6_findTimes n h0 h1 hcv8) h0 (by decide) rfl rfl rfl t_775 t_777 t_p17 t_10 t_778 nm_X6_findTimes (by decide) (by decide) rfl rfl (Nat.le_of_ble_eq_true rfl) dX6_firstPlaceTo_73 (kv_rv ?_)
          refine v_aload_n G dX6_firstPlaceTo_76 1 rfl ?_
          refine gf_6_0 G h0 t_199 (Or.inl rfl) dX6_firstPlaceTo_77 ?_
          refine v_iload_n G dX6_firstPlaceTo_80 4 rfl ?_
          obtain ⟨g9, hf⟩ := gd_e hf
          refine al_28 G (kf_6_1 h0) g9 dX6_firstPlaceTo_81 ?_
          refine v_aload_n G dX6_firstPlaceTo_82 2 rfl ?_
          refine gf_2_11 G h1 t_394 (Or.inl rfl) dX6_firstPlaceTo_83 ?_
          obtain ⟨v10, hcv10⟩ : ∃ q, f_X6_minutesFrom (v8.1 (a0 + 1) (c3).toNatClampNeg) (v8.1 a1 11) v8 = q := ⟨_, rfl⟩
          replace hf := lt_e hf hcv10.symm
          refine v_callS [.int (v8.1 (a0 + 1) (c3).toNatClampNeg), .int (v8.1 a1 11)] G (c_X6_minutesFrom hcv10) t_793 t_794 t_10 t_795 nm_X6_minutesFrom (by decide) (by decide) rfl rfl (Nat.le_of_ble_eq_true rfl) dX6_firstPlaceTo_86 (kv_ri ?_)
          refine v_iload G dX6_firstPlaceTo_89 6 rfl ?_
          refine v_icmp_ne 97 G dX6_firstPlaceTo_91 (by decide) (fun h11 => ?_) (fun h11 => ?_)
          · replace hf := (if_neg h11).symm.trans hf
            refine v_sub _ [1, 2, 3, 4, 5, 6, 7] rfl ?_
            exact hj97 v8 hf
          · replace hf := (if_pos h11).symm.trans hf
            refine v_iload G dX6_firstPlaceTo_94 7 rfl ?_
            obtain rfl := Option.some.inj hf
            exact v_iret G dX6_firstPlaceTo_96
set_option maxRecDepth 100000 in
set_option maxHeartbeats 4000000 in
theorem c_X6_firstPlaceTo {l : Launch} {ad : Nat → Nat} {cy : Nat → ClassId} {D : va_G} {z : Nat} (n : Nat) {a0 : Nat} {a1 : Nat} {p2 : Int32} {p3 : Int32} {M : KM} {y : (Int32 × KM)} (h0 : kty a0 = 7) (h1 : kty a1 = 3) (hf : f_X6_firstPlaceTo n a0 a1 p2 p3 M = some y) : KC l ad cy D z yX6_firstPlaceTo cX6_firstPlaceTo 8 (some .int) 7 [.ref (ad a0), .ref (ad a1), .int p2, .int p3] M (some (.int y.1), y.2) := by
  refine kv_enter (by decide +kernel) (Nat.le_of_ble_eq_true rfl) ?_
  intro x hl hD hz G
  subst hl hD hz
  unfold f_X6_firstPlaceTo at hf
  have G : KG ad cy x cX6_firstPlaceTo "NoonGuides$Paths" 8 (some (some .int)) 7 := G
  show KV ad cy x (some (.int y.1), y.2) 0 [(0, .ref (ad a0)), (1, .ref (ad a1)), (2, .int p2), (3, .int p3)] [] M
  refine v_aload_n G dX6_firstPlaceTo_0 1 rfl ?_
  refine gf_2_5 G h1 t_372 (Or.inl rfl) dX6_firstPlaceTo_1 ?_
  refine v_iload_n G dX6_firstPlaceTo_4 2 rfl ?_
  obtain ⟨g1, hf⟩ := gd_e hf
  refine al_Person G (kf_2_6 h1) g1 dX6_firstPlaceTo_5 ?_
  refine gf_7_5 G (ke_Person (kf_2_6 h1) (ix_lt g1)) t_321 (Or.inl rfl) dX6_firstPlaceTo_6 ?_
  refine v_nmi (fun v2 ev2 => ?_)
  replace hf := lt_e hf ev2
  refine v_istore [(4, .int v2), (0, .ref (ad a0)), (1, .ref (ad a1)), (2, .int p2), (3, .int p3)] G dX6_firstPlaceTo_9 (by decide) rfl ?_
  refine v_aload_n G dX6_firstPlaceTo_11 1 rfl ?_
  refine v_aload_n G dX6_firstPlaceTo_12 2 rfl ?_
  refine v_iload_n G dX6_firstPlaceTo_13 3 rfl ?_
  refine v_iconst (-1 : Int32) G dX6_firstPlaceTo_14 (by decide) ?_
  refine v_iload_n G dX6_firstPlaceTo_15 4 rfl ?_
  obtain ⟨v3, hcv3, hf⟩ := bd_e hf
  refine v_callV [.ref (ad a1), .int p2, .int (-1 : Int32), .int p3] G (c_X6_minutesTo n h0 h1 hcv3) h0 (by decide) rfl rfl rfl t_809 t_772 t_773 t_10 t_774 nm_X6_minutesTo (by decide) (by decide) rfl rfl (Nat.le_of_ble_eq_true rfl) dX6_firstPlaceTo_16 (kv_ri ?_)
  refine v_istore [(5, .int v3.1), (4, .int v2), (0, .ref (ad a0)), (1, .ref (ad a1)), (2, .int p2), (3, .int p3)] G dX6_firstPlaceTo_19 (by decide) rfl ?_
  refine v_iconst (0 : Int32) G dX6_firstPlaceTo_21 (by decide) ?_
  refine v_istore [(6, .int (0 : Int32)), (5, .int v3.1), (4, .int v2), (0, .ref (ad a0)), (1, .ref (ad a1)), (2, .int p2), (3, .int p3)] G dX6_firstPlaceTo_22 (by decide) rfl ?_
  refine v_sub _ [3, 4, 5, 6, 2, 1, 0] rfl ?_
  refine s_X6_firstPlaceTo_24 G h0 h1 n (0 : Int32) v3.2 hf
abbrev cX6_findMeeting : ByteArray := prog_8_method_8_code
def yX6_findMeeting : MethodName := ⟨RX6, "findMeeting", "(LNoonGuides$Land;II)V"⟩
theorem dX6_findMeeting_0 : dc cX6_findMeeting 0 (.aload_n 0) 1 1 := ⟨by decide +kernel, rfl⟩
theorem dX6_findMeeting_1 : dc cX6_findMeeting 1 (.aload_n 1) 1 2 := ⟨by decide +kernel, rfl⟩
theorem dX6_findMeeting_2 : dc cX6_findMeeting 2 (.iload_n 3) 1 3 := ⟨by decide +kernel, rfl⟩
theorem dX6_findMeeting_3 : dc cX6_findMeeting 3 (.iconst (-1)) 1 4 := ⟨by decide +kernel, rfl⟩
theorem dX6_findMeeting_4 : dc cX6_findMeeting 4 (.aload_n 1) 1 5 := ⟨by decide +kernel, rfl⟩
theorem dX6_findMeeting_5 : dc cX6_findMeeting 5 (.getfield 25) 3 8 := ⟨by decide +kernel, rfl⟩
theorem dX6_findMeeting_8 : dc cX6_findMeeting 8 (.iload_n 3) 1 9 := ⟨by decide +kernel, rfl⟩
theorem dX6_findMeeting_9 : dc cX6_findMeeting 9 (.aaload) 1 10 := ⟨by decide +kernel, rfl⟩
theorem dX6_findMeeting_10 : dc cX6_findMeeting 10 (.getfield 31) 3 13 := ⟨by decide +kernel, rfl⟩
theorem dX6_findMeeting_13 : dc cX6_findMeeting 13 (.aload_n 1) 1 14 := ⟨by decide +kernel, rfl⟩
theorem dX6_findMeeting_14 : dc cX6_findMeeting 14 (.getfield 37) 3 17 := ⟨by decide +kernel, rfl⟩
theorem dX6_findMeeting_17 : dc cX6_findMeeting 17 (.invokevirtual 40) 3 20 := ⟨by decide +kernel, rfl⟩
theorem dX6_findMeeting_20 : dc cX6_findMeeting 20 (.aload_n 0) 1 21 := ⟨by decide +kernel, rfl⟩
theorem dX6_findMeeting_21 : dc cX6_findMeeting 21 (.getfield 9) 3 24 := ⟨by decide +kernel, rfl⟩
theorem dX6_findMeeting_24 : dc cX6_findMeeting 24 (.iconst 0) 1 25 := ⟨by decide +kernel, rfl⟩
theorem dX6_findMeeting_25 : dc cX6_findMeeting 25 (.aload_n 0) 1 26 := ⟨by decide +kernel, rfl⟩
theorem dX6_findMeeting_26 : dc cX6_findMeeting 26 (.getfield 15) 3 29 := ⟨by decide +kernel, rfl⟩
theorem dX6_findMeeting_29 : dc cX6_findMeeting 29 (.iconst 0) 1 30 := ⟨by decide +kernel, rfl⟩
theorem dX6_findMeeting_30 : dc cX6_findMeeting 30 (.bipush 8) 2 32 := ⟨by decide +kernel, rfl⟩
theorem dX6_findMeeting_32 : dc cX6_findMeeting 32 (.invokestatic 89) 3 35 := ⟨by decide +kernel, rfl⟩
theorem dX6_findMeeting_35 : dc cX6_findMeeting 35 (.aload_n 0) 1 36 := ⟨by decide +kernel, rfl⟩
theorem dX6_findMeeting_36 : dc cX6_findMeeting 36 (.aload_n 1) 1 37 := ⟨by decide +kernel, rfl⟩
theorem dX6_findMeeting_37 : dc cX6_findMeeting 37 (.iload_n 2) 1 38 := ⟨by decide +kernel, rfl⟩
theorem dX6_findMeeting_38 : dc cX6_findMeeting 38 (.iconst (-1)) 1 39 := ⟨by decide +kernel, rfl⟩
theorem dX6_findMeeting_39 : dc cX6_findMeeting 39 (.aload_n 1) 1 40 := ⟨by decide +kernel, rfl⟩
theorem dX6_findMeeting_40 : dc cX6_findMeeting 40 (.getfield 25) 3 43 := ⟨by decide +kernel, rfl⟩
theorem dX6_findMeeting_43 : dc cX6_findMeeting 43 (.iload_n 2) 1 44 := ⟨by decide +kernel, rfl⟩
theorem dX6_findMeeting_44 : dc cX6_findMeeting 44 (.aaload) 1 45 := ⟨by decide +kernel, rfl⟩
theorem dX6_findMeeting_45 : dc cX6_findMeeting 45 (.getfield 31) 3 48 := ⟨by decide +kernel, rfl⟩
theorem dX6_findMeeting_48 : dc cX6_findMeeting 48 (.aload_n 1) 1 49 := ⟨by decide +kernel, rfl⟩
theorem dX6_findMeeting_49 : dc cX6_findMeeting 49 (.getfield 37) 3 52 := ⟨by decide +kernel, rfl⟩
theorem dX6_findMeeting_52 : dc cX6_findMeeting 52 (.invokevirtual 40) 3 55 := ⟨by decide +kernel, rfl⟩
theorem dX6_findMeeting_55 : dc cX6_findMeeting 55 (.aload_n 0) 1 56 := ⟨by decide +kernel, rfl⟩
theorem dX6_findMeeting_56 : dc cX6_findMeeting 56 (.iconst (-1)) 1 57 := ⟨by decide +kernel, rfl⟩
theorem dX6_findMeeting_57 : dc cX6_findMeeting 57 (.putfield 95) 3 60 := ⟨by decide +kernel, rfl⟩
theorem dX6_findMeeting_60 : dc cX6_findMeeting 60 (.aload_n 0) 1 61 := ⟨by decide +kernel, rfl⟩
theorem dX6_findMeeting_61 : dc cX6_findMeeting 61 (.ldc 48) 2 63 := ⟨by decide +kernel, rfl⟩
theorem dX6_findMeeting_63 : dc cX6_findMeeting 63 (.putfield 98) 3 66 := ⟨by decide +kernel, rfl⟩
theorem dX6_findMeeting_66 : dc cX6_findMeeting 66 (.iconst 0) 1 67 := ⟨by decide +kernel, rfl⟩
theorem dX6_findMeeting_67 : dc cX6_findMeeting 67 (.istore 4) 2 69 := ⟨by decide +kernel, rfl⟩
theorem dX6_findMeeting_69 : dc cX6_findMeeting 69 (.iload 4) 2 71 := ⟨by decide +kernel, rfl⟩
theorem dX6_findMeeting_71 : dc cX6_findMeeting 71 (.aload_n 1) 1 72 := ⟨by decide +kernel, rfl⟩
theorem dX6_findMeeting_72 : dc cX6_findMeeting 72 (.getfield 57) 3 75 := ⟨by decide +kernel, rfl⟩
theorem dX6_findMeeting_75 : dc cX6_findMeeting 75 (.if_icmp .ge 56) 3 78 := ⟨by decide +kernel, rfl⟩
theorem dX6_findMeeting_78 : dc cX6_findMeeting 78 (.aload_n 0) 1 79 := ⟨by decide +kernel, rfl⟩
theorem dX6_findMeeting_79 : dc cX6_findMeeting 79 (.getfield 9) 3 82 := ⟨by decide +kernel, rfl⟩
theorem dX6_findMeeting_82 : dc cX6_findMeeting 82 (.iload 4) 2 84 := ⟨by decide +kernel, rfl⟩
theorem dX6_findMeeting_84 : dc cX6_findMeeting 84 (.iaload) 1 85 := ⟨by decide +kernel, rfl⟩
theorem dX6_findMeeting_85 : dc cX6_findMeeting 85 (.aload_n 0) 1 86 := ⟨by decide +kernel, rfl⟩
theorem dX6_findMeeting_86 : dc cX6_findMeeting 86 (.getfield 15) 3 89 := ⟨by decide +kernel, rfl⟩
theorem dX6_findMeeting_89 : dc cX6_findMeeting 89 (.iload 4) 2 91 := ⟨by decide +kernel, rfl⟩
theorem dX6_findMeeting_91 : dc cX6_findMeeting 91 (.iaload) 1 92 := ⟨by decide +kernel, rfl⟩
theorem dX6_findMeeting_92 : dc cX6_findMeeting 92 (.invokestatic 101) 3 95 := ⟨by decide +kernel, rfl⟩
theorem dX6_findMeeting_95 : dc cX6_findMeeting 95 (.aload_n 1) 1 96 := ⟨by decide +kernel, rfl⟩
theorem dX6_findMeeting_96 : dc cX6_findMeeting 96 (.getfield 37) 3 99 := ⟨by decide +kernel, rfl⟩
theorem dX6_findMeeting_99 : dc cX6_findMeeting 99 (.invokestatic 44) 3 102 := ⟨by decide +kernel, rfl⟩
theorem dX6_findMeeting_102 : dc cX6_findMeeting 102 (.istore 5) 2 104 := ⟨by decide +kernel, rfl⟩
theorem dX6_findMeeting_104 : dc cX6_findMeeting 104 (.iload 5) 2 106 := ⟨by decide +kernel, rfl⟩
theorem dX6_findMeeting_106 : dc cX6_findMeeting 106 (.aload_n 0) 1 107 := ⟨by decide +kernel, rfl⟩
theorem dX6_findMeeting_107 : dc cX6_findMeeting 107 (.getfield 98) 3 110 := ⟨by decide +kernel, rfl⟩
theorem dX6_findMeeting_110 : dc cX6_findMeeting 110 (.if_icmp .ge 15) 3 113 := ⟨by decide +kernel, rfl⟩
theorem dX6_findMeeting_113 : dc cX6_findMeeting 113 (.aload_n 0) 1 114 := ⟨by decide +kernel, rfl⟩
theorem dX6_findMeeting_114 : dc cX6_findMeeting 114 (.iload 5) 2 116 := ⟨by decide +kernel, rfl⟩
theorem dX6_findMeeting_116 : dc cX6_findMeeting 116 (.putfield 98) 3 119 := ⟨by decide +kernel, rfl⟩
theorem dX6_findMeeting_119 : dc cX6_findMeeting 119 (.aload_n 0) 1 120 := ⟨by decide +kernel, rfl⟩
theorem dX6_findMeeting_120 : dc cX6_findMeeting 120 (.iload 4) 2 122 := ⟨by decide +kernel, rfl⟩
theorem dX6_findMeeting_122 : dc cX6_findMeeting 122 (.putfield 95) 3 125 := ⟨by decide +kernel, rfl⟩
theorem dX6_findMeeting_125 : dc cX6_findMeeting 125 (.iinc 4 1) 3 128 := ⟨by decide +kernel, rfl⟩
theorem dX6_findMeeting_128 : dc cX6_findMeeting 128 (.goto (-59)) 3 131 := ⟨by decide +kernel, rfl⟩
theorem dX6_findMeeting_131 : dc cX6_findMeeting 131 (.return_) 1 132 := ⟨by decide +kernel, rfl⟩
theorem nm_X6_findMeeting : (yX6_findMeeting).cls ≠ "java/lang/invoke/MethodHandle" ∧ (yX6_findMeeting).cls ≠ "java/lang/invoke/VarHandle" ∧ (parseMethodDescriptor (yX6_findMeeting).desc).map (fun d => d.parameters.length) = some 3 := ⟨by decide +kernel, by decide +kernel, by decide +kernel⟩
set_option maxRecDepth 100000 in
set_option maxHeartbeats 4000000 in
theorem s_X6_findMeeting_69 {ad : Nat → Nat} {cy : Nat → ClassId} {x : KX} (G : KG ad cy x cX6_findMeeting "NoonGuides$Paths" 6 (some none) 6) {a0 : Nat} {a1 : Nat} (h0 : kty a0 = 7) (h1 : kty a1 = 3) {y : KM} : ∀ (n : Nat) (w4 : Int32) (M : KM), lp_X6_findMeeting_69 n a0 a1 w4 M = some y → KV ad cy x (none, y) 69 [(0, .ref (ad a0)), (1, .ref (ad a1)), (4, .int w4)] [] M := by
  intro n
  induction n with
  | zero =>
    intro w4 M hf
    cases hf
  | succ n ih =>
    intro w4 M hf
    rw [lp_X6_findMeeting_69] at hf
    refine v_iload G dX6_findMeeting_69 2 rfl ?_
    refine v_aload_n G dX6_findMeeting_71 1 rfl ?_
    refine gf_2_8 G h1 t_383 (Or.inl rfl) dX6_findMeeting_72 ?_
    refine v_icmp_ge 131 G dX6_findMeeting_75 (by decide) (fun h18 => ?_) (fun h18 => ?_)
    · replace hf := (if_pos h18).symm.trans hf
      obtain rfl := Option.some.inj hf
      exact v_vret G dX6_findMeeting_131
    · replace hf := (if_neg h18).symm.trans hf
      refine v_aload_n G dX6_findMeeting_78 0 rfl ?_
      refine gf_6_0 G h0 t_199 (Or.inl rfl) dX6_findMeeting_79 ?_
      refine v_iload G dX6_findMeeting_82 2 rfl ?_
      obtain ⟨g9, hf⟩ := gd_e hf
      refine al_28 G (kf_6_1 h0) g9 dX6_findMeeting_84 ?_
      refine v_aload_n G dX6_findMeeting_85 0 rfl ?_
      refine gf_6_1 G h0 t_200 (Or.inl rfl) dX6_findMeeting_86 ?_
      refine v_iload G dX6_findMeeting_89 2 rfl ?_
      obtain ⟨g10, hf⟩ := gd_e hf
      refine al_28 G (kf_6_2 h0) g10 dX6_findMeeting_91 ?_
      refine v_mmax G (by decide) t_833 t_820 t_17 t_821 (Nat.le_of_ble_eq_true rfl) dX6_findMeeting_92 ?_
      refine v_nmi (fun v11 ev11 => ?_)
      replace hf := lt_e hf ev11
      refine v_aload_n G dX6_findMeeting_95 1 rfl ?_
      refine gf_2_11 G h1 t_394 (Or.inl rfl) dX6_findMeeting_96 ?_
      obtain ⟨v12, hcv12⟩ : ∃ q, f_X6_minutesFrom v11 (M.1 a1 11) M = q := ⟨_, rfl⟩
      replace hf := lt_e hf hcv12.symm
      refine v_callS [.int v11, .int (M.1 a1 11)] G (c_X6_minutesFrom hcv12) t_793 t_794 t_10 t_795 nm_X6_minutesFrom (by decide) (by decide) rfl rfl (Nat.le_of_ble_eq_true rfl) dX6_findMeeting_99 (kv_ri ?_)
      refine v_istore [(5, .int v12), (0, .ref (ad a0)), (1, .ref (ad a1)), (4, .int w4)] G dX6_findMeeting_102 (by decide) rfl ?_
      refine v_iload G dX6_findMeeting_104 0 rfl ?_
      refine v_aload_n G dX6_findMeeting_106 1 rfl ?_
      refine gf_6_5 G h0 t_205 (Or.inl rfl) dX6_findMeeting_107 ?_
      obtain ⟨j125, ej125, hf⟩ := lt_j hf
      have hj125 : ∀ (M13 : KM), j125 M13 = some y → KV ad cy x (none, y) 125 [(0, .ref (ad a0)), (1, .ref (ad a1)), (4, .int w4)] [] M13 := by
        intro M13 hf
        rw [ej125] at hf
        obtain ⟨v14, ev14⟩ : ∃ q : Int32, q = w4 + (1 : Int32) := ⟨_, rfl⟩
        replace hf := lt_e hf ev14
        refine v_iinc v14 [(4, .int v14), (0, .ref (ad a0)), (1, .ref (ad a1))] G dX6_findMeeting_125 2 rfl (by rw [ev14]; rfl) (by decide) rfl ?_
        refine v_goto 69 G dX6_findMeeting_128 (by decide) ?_
        refine v_sub _ [1, 2, 0] rfl ?_
        exact ih v14 M13 hf
      refine v_icmp_ge 125 G dX6_findMeeting_110 (by decide) (fun h17 => ?_) (fun h17 => ?_)
      · replace hf := (if_pos h17).symm.trans hf
        refine v_sub _ [1, 2, 3] rfl ?_
        exact hj125 M hf
      · replace hf := (if_neg h17).symm.trans hf
        refine v_aload_n G dX6_findMeeting_113 1 rfl ?_
        refine v_iload G dX6_findMeeting_114 0 rfl ?_
        refine pf_6_5 G h0 t_205 (Or.inl rfl) dX6_findMeeting_116 ?_
        refine v_nmM (fun M15 eM15 => ?_)
        replace hf := lt_e hf eM15
        refine v_aload_n G dX6_findMeeting_119 1 rfl ?_
        refine v_iload G dX6_findMeeting_120 3 rfl ?_
        refine pf_6_4 G h0 t_203 (Or.inl rfl) dX6_findMeeting_122 ?_
        refine v_nmM (fun M16 eM16 => ?_)
        replace hf := lt_e hf eM16
        refine v_sub _ [1, 2, 3] rfl ?_
        exact hj125 M16 hf
set_option maxRecDepth 100000 in
set_option maxHeartbeats 4000000 in
theorem c_X6_findMeeting {l : Launch} {ad : Nat → Nat} {cy : Nat → ClassId} {D : va_G} {z : Nat} (n : Nat) {a0 : Nat} {a1 : Nat} {p2 : Int32} {p3 : Int32} {M : KM} {y : KM} (h0 : kty a0 = 7) (h1 : kty a1 = 3) (hf : f_X6_findMeeting n a0 a1 p2 p3 M = some y) : KC l ad cy D z yX6_findMeeting cX6_findMeeting 6 none 6 [.ref (ad a0), .ref (ad a1), .int p2, .int p3] M (none, y) := by
  refine kv_enter (by decide +kernel) (Nat.le_of_ble_eq_true rfl) ?_
  intro x hl hD hz G
  subst hl hD hz
  unfold f_X6_findMeeting at hf
  have G : KG ad cy x cX6_findMeeting "NoonGuides$Paths" 6 (some none) 6 := G
  show KV ad cy x (none, y) 0 [(0, .ref (ad a0)), (1, .ref (ad a1)), (2, .int p2), (3, .int p3)] [] M
  refine v_aload_n G dX6_findMeeting_0 0 rfl ?_
  refine v_aload_n G dX6_findMeeting_1 1 rfl ?_
  refine v_iload_n G dX6_findMeeting_2 3 rfl ?_
  refine v_iconst (-1 : Int32) G dX6_findMeeting_3 (by decide) ?_
  refine v_aload_n G dX6_findMeeting_4 1 rfl ?_
  refine gf_2_5 G h1 t_372 (Or.inl rfl) dX6_findMeeting_5 ?_
  refine v_iload_n G dX6_findMeeting_8 3 rfl ?_
  obtain ⟨g1, hf⟩ := gd_e hf
  refine al_Person G (kf_2_6 h1) g1 dX6_findMeeting_9 ?_
  refine gf_7_5 G (ke_Person (kf_2_6 h1) (ix_lt g1)) t_321 (Or.inl rfl) dX6_findMeeting_10 ?_
  refine v_aload_n G dX6_findMeeting_13 1 rfl ?_
  refine gf_2_11 G h1 t_394 (Or.inl rfl) dX6_findMeeting_14 ?_
  obtain ⟨v2, hcv2, hf⟩ := bd_e hf
  refine v_callV [.ref (ad a1), .int p3, .int (-1 : Int32), .int (M.1 ((a1 + 6) + 8 + 3 * (p3).toNatClampNeg) 5), .int (M.1 a1 11)] G (c_X6_findTimes n h0 h1 hcv2) h0 (by decide) rfl rfl rfl t_775 t_777 t_p17 t_10 t_778 nm_X6_findTimes (by decide) (by decide) rfl rfl (Nat.le_of_ble_eq_true rfl) dX6_findMeeting_17 (kv_rv ?_)
  refine v_aload_n G dX6_findMeeting_20 0 rfl ?_
  refine gf_6_0 G h0 t_199 (Or.inl rfl) dX6_findMeeting_21 ?_
  refine v_iconst (0 : Int32) G dX6_findMeeting_24 (by decide) ?_
  refine v_aload_n G dX6_findMeeting_25 0 rfl ?_
  refine gf_6_1 G h0 t_200 (Or.inl rfl) dX6_findMeeting_26 ?_
  refine v_iconst (0 : Int32) G dX6_findMeeting_29 (by decide) ?_
  refine v_bipush (8 : Int32) G dX6_findMeeting_30 (by decide) ?_
  obtain ⟨g3, hf⟩ := gd_e hf
  refine v_copyI G (by decide) (kf_6_1 h0) (kf_6_2 h0) (by decide) (by decide) rfl (fun _ => rfl) t_830 t_832 t_831 t_18 g3 (Nat.le_of_ble_eq_true rfl) dX6_findMeeting_32 ?_
  refine v_nmM (fun M4 eM4 => ?_)
  replace hf := lt_e hf eM4
  refine v_aload_n G dX6_findMeeting_35 0 rfl ?_
  refine v_aload_n G dX6_findMeeting_36 1 rfl ?_
  refine v_iload_n G dX6_findMeeting_37 2 rfl ?_
  refine v_iconst (-1 : Int32) G dX6_findMeeting_38 (by decide) ?_
  refine v_aload_n G dX6_findMeeting_39 1 rfl ?_
  refine gf_2_5 G h1 t_372 (Or.inl rfl) dX6_findMeeting_40 ?_
  refine v_iload_n G dX6_findMeeting_43 2 rfl ?_
  obtain ⟨g5, hf⟩ := gd_e hf
  refine al_Person G (kf_2_6 h1) g5 dX6_findMeeting_44 ?_
  refine gf_7_5 G (ke_Person (kf_2_6 h1) (ix_lt g5)) t_321 (Or.inl rfl) dX6_findMeeting_45 ?_
  refine v_aload_n G dX6_findMeeting_48 1 rfl ?_
  refine gf_2_11 G h1 t_394 (Or.inl rfl) dX6_findMeeting_49 ?_
  obtain ⟨v6, hcv6, hf⟩ := bd_e hf
  refine v_callV [.ref (ad a1), .int p2, .int (-1 : Int32), .int (M4.1 ((a1 + 6) + 8 + 3 * (p2).toNatClampNeg) 5), .int (M4.1 a1 11)] G (c_X6_findTimes n h0 h1 hcv6) h0 (by decide) rfl rfl rfl t_775 t_777 t_p17 t_10 t_778 nm_X6_findTimes (by decide) (by decide) rfl rfl (Nat.le_of_ble_eq_true rfl) dX6_findMeeting_52 (kv_rv ?_)
  refine v_aload_n G dX6_findMeeting_55 0 rfl ?_
  refine v_iconst (-1 : Int32) G dX6_findMeeting_56 (by decide) ?_
  refine pf_6_4 G h0 t_203 (Or.inl rfl) dX6_findMeeting_57 ?_
  refine v_nmM (fun M7 eM7 => ?_)
  replace hf := lt_e hf eM7
  refine v_aload_n G dX6_findMeeting_60 0 rfl ?_
  refine v_ldc G dX6_findMeeting_61 t_783 ?_
  refine pf_6_5 G h0 t_205 (Or.inl rfl) dX6_findMeeting_63 ?_
  refine v_nmM (fun M8 eM8 => ?_)
  replace hf := lt_e hf eM8
  refine v_iconst (0 : Int32) G dX6_findMeeting_66 (by decide) ?_
  refine v_istore [(4, .int (0 : Int32)), (0, .ref (ad a0)), (1, .ref (ad a1)), (2, .int p2), (3, .int p3)] G dX6_findMeeting_67 (by decide) rfl ?_
  refine v_sub _ [1, 2, 0] rfl ?_
  refine s_X6_findMeeting_69 G h0 h1 n (0 : Int32) M8 hf
abbrev cX6_plantingCost : ByteArray := prog_8_method_9_code
def yX6_plantingCost : MethodName := ⟨RX6, "plantingCost", "(LNoonGuides$Land;II)I"⟩
theorem dX6_plantingCost_0 : dc cX6_plantingCost 0 (.aload_n 0) 1 1 := ⟨by decide +kernel, rfl⟩
theorem dX6_plantingCost_1 : dc cX6_plantingCost 1 (.aload_n 1) 1 2 := ⟨by decide +kernel, rfl⟩
theorem dX6_plantingCost_2 : dc cX6_plantingCost 2 (.aload_n 1) 1 3 := ⟨by decide +kernel, rfl⟩
theorem dX6_plantingCost_3 : dc cX6_plantingCost 3 (.getfield 25) 3 6 := ⟨by decide +kernel, rfl⟩
theorem dX6_plantingCost_6 : dc cX6_plantingCost 6 (.iload_n 2) 1 7 := ⟨by decide +kernel, rfl⟩
theorem dX6_plantingCost_7 : dc cX6_plantingCost 7 (.aaload) 1 8 := ⟨by decide +kernel, rfl⟩
theorem dX6_plantingCost_8 : dc cX6_plantingCost 8 (.getfield 31) 3 11 := ⟨by decide +kernel, rfl⟩
theorem dX6_plantingCost_11 : dc cX6_plantingCost 11 (.iconst 0) 1 12 := ⟨by decide +kernel, rfl⟩
theorem dX6_plantingCost_12 : dc cX6_plantingCost 12 (.invokevirtual 53) 3 15 := ⟨by decide +kernel, rfl⟩
theorem dX6_plantingCost_15 : dc cX6_plantingCost 15 (.iconst 1) 1 16 := ⟨by decide +kernel, rfl⟩
theorem dX6_plantingCost_16 : dc cX6_plantingCost 16 (.istore 4) 2 18 := ⟨by decide +kernel, rfl⟩
theorem dX6_plantingCost_18 : dc cX6_plantingCost 18 (.iload 4) 2 20 := ⟨by decide +kernel, rfl⟩
theorem dX6_plantingCost_20 : dc cX6_plantingCost 20 (.aload_n 1) 1 21 := ⟨by decide +kernel, rfl⟩
theorem dX6_plantingCost_21 : dc cX6_plantingCost 21 (.getfield 57) 3 24 := ⟨by decide +kernel, rfl⟩
theorem dX6_plantingCost_24 : dc cX6_plantingCost 24 (.if_icmp .ge 136) 3 27 := ⟨by decide +kernel, rfl⟩
theorem dX6_plantingCost_27 : dc cX6_plantingCost 27 (.iconst 0) 1 28 := ⟨by decide +kernel, rfl⟩
theorem dX6_plantingCost_28 : dc cX6_plantingCost 28 (.istore 5) 2 30 := ⟨by decide +kernel, rfl⟩
theorem dX6_plantingCost_30 : dc cX6_plantingCost 30 (.iload 5) 2 32 := ⟨by decide +kernel, rfl⟩
theorem dX6_plantingCost_32 : dc cX6_plantingCost 32 (.aload_n 1) 1 33 := ⟨by decide +kernel, rfl⟩
theorem dX6_plantingCost_33 : dc cX6_plantingCost 33 (.getfield 60) 3 36 := ⟨by decide +kernel, rfl⟩
theorem dX6_plantingCost_36 : dc cX6_plantingCost 36 (.if_icmp .ge 118) 3 39 := ⟨by decide +kernel, rfl⟩
theorem dX6_plantingCost_39 : dc cX6_plantingCost 39 (.aload_n 1) 1 40 := ⟨by decide +kernel, rfl⟩
theorem dX6_plantingCost_40 : dc cX6_plantingCost 40 (.iload_n 2) 1 41 := ⟨by decide +kernel, rfl⟩
theorem dX6_plantingCost_41 : dc cX6_plantingCost 41 (.iload 5) 2 43 := ⟨by decide +kernel, rfl⟩
theorem dX6_plantingCost_43 : dc cX6_plantingCost 43 (.invokevirtual 104) 3 46 := ⟨by decide +kernel, rfl⟩
theorem dX6_plantingCost_46 : dc cX6_plantingCost 46 (.iconst 2) 1 47 := ⟨by decide +kernel, rfl⟩
theorem dX6_plantingCost_47 : dc cX6_plantingCost 47 (.if_icmp .eq 7) 3 50 := ⟨by decide +kernel, rfl⟩
theorem dX6_plantingCost_50 : dc cX6_plantingCost 50 (.iconst 1) 1 51 := ⟨by decide +kernel, rfl⟩
theorem dX6_plantingCost_51 : dc cX6_plantingCost 51 (.goto 4) 3 54 := ⟨by decide +kernel, rfl⟩
theorem dX6_plantingCost_54 : dc cX6_plantingCost 54 (.iconst 0) 1 55 := ⟨by decide +kernel, rfl⟩
theorem dX6_plantingCost_55 : dc cX6_plantingCost 55 (.istore 6) 2 57 := ⟨by decide +kernel, rfl⟩
theorem dX6_plantingCost_57 : dc cX6_plantingCost 57 (.iload 6) 2 59 := ⟨by decide +kernel, rfl⟩
theorem dX6_plantingCost_59 : dc cX6_plantingCost 59 (.ifCond .eq 7) 3 62 := ⟨by decide +kernel, rfl⟩
theorem dX6_plantingCost_62 : dc cX6_plantingCost 62 (.iconst 0) 1 63 := ⟨by decide +kernel, rfl⟩
theorem dX6_plantingCost_63 : dc cX6_plantingCost 63 (.goto 11) 3 66 := ⟨by decide +kernel, rfl⟩
theorem dX6_plantingCost_66 : dc cX6_plantingCost 66 (.sipush 4096) 3 69 := ⟨by decide +kernel, rfl⟩
theorem dX6_plantingCost_69 : dc cX6_plantingCost 69 (.iconst 1) 1 70 := ⟨by decide +kernel, rfl⟩
theorem dX6_plantingCost_70 : dc cX6_plantingCost 70 (.iload 5) 2 72 := ⟨by decide +kernel, rfl⟩
theorem dX6_plantingCost_72 : dc cX6_plantingCost 72 (.ishl) 1 73 := ⟨by decide +kernel, rfl⟩
theorem dX6_plantingCost_73 : dc cX6_plantingCost 73 (.iadd) 1 74 := ⟨by decide +kernel, rfl⟩
theorem dX6_plantingCost_74 : dc cX6_plantingCost 74 (.istore 7) 2 76 := ⟨by decide +kernel, rfl⟩
theorem dX6_plantingCost_76 : dc cX6_plantingCost 76 (.aload_n 1) 1 77 := ⟨by decide +kernel, rfl⟩
theorem dX6_plantingCost_77 : dc cX6_plantingCost 77 (.getfield 63) 3 80 := ⟨by decide +kernel, rfl⟩
theorem dX6_plantingCost_80 : dc cX6_plantingCost 80 (.iload 5) 2 82 := ⟨by decide +kernel, rfl⟩
theorem dX6_plantingCost_82 : dc cX6_plantingCost 82 (.iaload) 1 83 := ⟨by decide +kernel, rfl⟩
theorem dX6_plantingCost_83 : dc cX6_plantingCost 83 (.istore 8) 2 85 := ⟨by decide +kernel, rfl⟩
theorem dX6_plantingCost_85 : dc cX6_plantingCost 85 (.aload_n 1) 1 86 := ⟨by decide +kernel, rfl⟩
theorem dX6_plantingCost_86 : dc cX6_plantingCost 86 (.getfield 66) 3 89 := ⟨by decide +kernel, rfl⟩
theorem dX6_plantingCost_89 : dc cX6_plantingCost 89 (.iload 5) 2 91 := ⟨by decide +kernel, rfl⟩
theorem dX6_plantingCost_91 : dc cX6_plantingCost 91 (.iaload) 1 92 := ⟨by decide +kernel, rfl⟩
theorem dX6_plantingCost_92 : dc cX6_plantingCost 92 (.istore 9) 2 94 := ⟨by decide +kernel, rfl⟩
theorem dX6_plantingCost_94 : dc cX6_plantingCost 94 (.aload_n 0) 1 95 := ⟨by decide +kernel, rfl⟩
theorem dX6_plantingCost_95 : dc cX6_plantingCost 95 (.getfield 9) 3 98 := ⟨by decide +kernel, rfl⟩
theorem dX6_plantingCost_98 : dc cX6_plantingCost 98 (.iload 9) 2 100 := ⟨by decide +kernel, rfl⟩
theorem dX6_plantingCost_100 : dc cX6_plantingCost 100 (.aload_n 0) 1 101 := ⟨by decide +kernel, rfl⟩
theorem dX6_plantingCost_101 : dc cX6_plantingCost 101 (.getfield 9) 3 104 := ⟨by decide +kernel, rfl⟩
theorem dX6_plantingCost_104 : dc cX6_plantingCost 104 (.iload 9) 2 106 := ⟨by decide +kernel, rfl⟩
theorem dX6_plantingCost_106 : dc cX6_plantingCost 106 (.iaload) 1 107 := ⟨by decide +kernel, rfl⟩
theorem dX6_plantingCost_107 : dc cX6_plantingCost 107 (.aload_n 0) 1 108 := ⟨by decide +kernel, rfl⟩
theorem dX6_plantingCost_108 : dc cX6_plantingCost 108 (.getfield 9) 3 111 := ⟨by decide +kernel, rfl⟩
theorem dX6_plantingCost_111 : dc cX6_plantingCost 111 (.iload 8) 2 113 := ⟨by decide +kernel, rfl⟩
theorem dX6_plantingCost_113 : dc cX6_plantingCost 113 (.iaload) 1 114 := ⟨by decide +kernel, rfl⟩
theorem dX6_plantingCost_114 : dc cX6_plantingCost 114 (.iload 7) 2 116 := ⟨by decide +kernel, rfl⟩
theorem dX6_plantingCost_116 : dc cX6_plantingCost 116 (.iadd) 1 117 := ⟨by decide +kernel, rfl⟩
theorem dX6_plantingCost_117 : dc cX6_plantingCost 117 (.invokestatic 73) 3 120 := ⟨by decide +kernel, rfl⟩
theorem dX6_plantingCost_120 : dc cX6_plantingCost 120 (.iastore) 1 121 := ⟨by decide +kernel, rfl⟩
theorem dX6_plantingCost_121 : dc cX6_plantingCost 121 (.aload_n 0) 1 122 := ⟨by decide +kernel, rfl⟩
theorem dX6_plantingCost_122 : dc cX6_plantingCost 122 (.getfield 9) 3 125 := ⟨by decide +kernel, rfl⟩
theorem dX6_plantingCost_125 : dc cX6_plantingCost 125 (.iload 8) 2 127 := ⟨by decide +kernel, rfl⟩
theorem dX6_plantingCost_127 : dc cX6_plantingCost 127 (.aload_n 0) 1 128 := ⟨by decide +kernel, rfl⟩
theorem dX6_plantingCost_128 : dc cX6_plantingCost 128 (.getfield 9) 3 131 := ⟨by decide +kernel, rfl⟩
theorem dX6_plantingCost_131 : dc cX6_plantingCost 131 (.iload 8) 2 133 := ⟨by decide +kernel, rfl⟩
theorem dX6_plantingCost_133 : dc cX6_plantingCost 133 (.iaload) 1 134 := ⟨by decide +kernel, rfl⟩
theorem dX6_plantingCost_134 : dc cX6_plantingCost 134 (.aload_n 0) 1 135 := ⟨by decide +kernel, rfl⟩
theorem dX6_plantingCost_135 : dc cX6_plantingCost 135 (.getfield 9) 3 138 := ⟨by decide +kernel, rfl⟩
theorem dX6_plantingCost_138 : dc cX6_plantingCost 138 (.iload 9) 2 140 := ⟨by decide +kernel, rfl⟩
theorem dX6_plantingCost_140 : dc cX6_plantingCost 140 (.iaload) 1 141 := ⟨by decide +kernel, rfl⟩
theorem dX6_plantingCost_141 : dc cX6_plantingCost 141 (.iload 7) 2 143 := ⟨by decide +kernel, rfl⟩
theorem dX6_plantingCost_143 : dc cX6_plantingCost 143 (.iadd) 1 144 := ⟨by decide +kernel, rfl⟩
theorem dX6_plantingCost_144 : dc cX6_plantingCost 144 (.invokestatic 73) 3 147 := ⟨by decide +kernel, rfl⟩
theorem dX6_plantingCost_147 : dc cX6_plantingCost 147 (.iastore) 1 148 := ⟨by decide +kernel, rfl⟩
theorem dX6_plantingCost_148 : dc cX6_plantingCost 148 (.iinc 5 1) 3 151 := ⟨by decide +kernel, rfl⟩
theorem dX6_plantingCost_151 : dc cX6_plantingCost 151 (.goto (-121)) 3 154 := ⟨by decide +kernel, rfl⟩
theorem dX6_plantingCost_154 : dc cX6_plantingCost 154 (.iinc 4 1) 3 157 := ⟨by decide +kernel, rfl⟩
theorem dX6_plantingCost_157 : dc cX6_plantingCost 157 (.goto (-139)) 3 160 := ⟨by decide +kernel, rfl⟩
theorem dX6_plantingCost_160 : dc cX6_plantingCost 160 (.aload_n 0) 1 161 := ⟨by decide +kernel, rfl⟩
theorem dX6_plantingCost_161 : dc cX6_plantingCost 161 (.getfield 9) 3 164 := ⟨by decide +kernel, rfl⟩
theorem dX6_plantingCost_164 : dc cX6_plantingCost 164 (.iload_n 3) 1 165 := ⟨by decide +kernel, rfl⟩
theorem dX6_plantingCost_165 : dc cX6_plantingCost 165 (.iaload) 1 166 := ⟨by decide +kernel, rfl⟩
theorem dX6_plantingCost_166 : dc cX6_plantingCost 166 (.ldc 48) 2 168 := ⟨by decide +kernel, rfl⟩
theorem dX6_plantingCost_168 : dc cX6_plantingCost 168 (.invokestatic 73) 3 171 := ⟨by decide +kernel, rfl⟩
theorem dX6_plantingCost_171 : dc cX6_plantingCost 171 (.ireturn) 1 172 := ⟨by decide +kernel, rfl⟩
theorem nm_X6_plantingCost : (yX6_plantingCost).cls ≠ "java/lang/invoke/MethodHandle" ∧ (yX6_plantingCost).cls ≠ "java/lang/invoke/VarHandle" ∧ (parseMethodDescriptor (yX6_plantingCost).desc).map (fun d => d.parameters.length) = some 3 := ⟨by decide +kernel, by decide +kernel, by decide +kernel⟩
set_option maxRecDepth 100000 in
set_option maxHeartbeats 4000000 in
theorem s_X6_plantingCost_30 {ad : Nat → Nat} {cy : Nat → ClassId} {x : KX} (G : KG ad cy x cX6_plantingCost "NoonGuides$Paths" 10 (some (some .int)) 3) {a0 : Nat} {a1 : Nat} {c2 : Int32} {c3 : Int32} {c4 : Int32} (h0 : kty a0 = 7) (h1 : kty a1 = 3) {k154 : KM → Option (Int32 × KM)} {y : (Int32 × KM)} (hk154 : ∀ (M : KM), k154 M = some y → KV ad cy x (some (.int y.1), y.2) 154 [(0, .ref (ad a0)), (1, .ref (ad a1)), (2, .int c2), (3, .int c3), (4, .int c4)] [] M) : ∀ (n : Nat) (w5 : Int32) (M : KM), lp_X6_plantingCost_30 n a0 a1 c2 c3 c4 w5 M k154 = some y → KV ad cy x (some (.int y.1), y.2) 30 [(0, .ref (ad a0)), (1, .ref (ad a1)), (2, .int c2), (3, .int c3), (4, .int c4), (5, .int w5)] [] M := by
  intro n
  induction n with
  | zero =>
    intro w5 M hf
    cases hf
  | succ n ih =>
    intro w5 M hf
    rw [lp_X6_plantingCost_30] at hf
    refine v_iload G dX6_plantingCost_30 5 rfl ?_
    refine v_aload_n G dX6_plantingCost_32 1 rfl ?_
    refine gf_2_9 G h1 t_387 (Or.inl rfl) dX6_plantingCost_33 ?_
    refine v_icmp_ge 154 G dX6_plantingCost_36 (by decide) (fun h23 => ?_) (fun h23 => ?_)
    · replace hf := (if_pos h23).symm.trans hf
      refine v_sub _ [0, 1, 2, 3, 4] rfl ?_
      exact hk154 M hf
    · replace hf := (if_neg h23).symm.trans hf
      refine v_aload_n G dX6_plantingCost_39 1 rfl ?_
      refine v_iload_n G dX6_plantingCost_40 2 rfl ?_
      refine v_iload G dX6_plantingCost_41 5 rfl ?_
      obtain ⟨v3, hcv3, hf⟩ := bd_e hf
      refine v_callV [.int c2, .int w5] G (c_X2_paceOf n h1 hcv3) h1 (by decide) rfl rfl rfl t_850 t_636 t_637 t_13 t_638 nm_X2_paceOf (by decide) (by decide) rfl rfl (Nat.le_of_ble_eq_true rfl) dX6_plantingCost_43 (kv_ri ?_)
      refine v_iconst (2 : Int32) G dX6_plantingCost_46 (by decide) ?_
      obtain ⟨j55, ej55, hf⟩ := lt_j hf
      have hj55 : ∀ (x4 : Int32), j55 x4 = some y → KV ad cy x (some (.int y.1), y.2) 55 [(0, .ref (ad a0)), (1, .ref (ad a1)), (2, .int c2), (3, .int c3), (4, .int c4), (5, .int w5)] [.int x4] M := by
        intro x4 hf
        rw [ej55] at hf
        refine v_istore [(6, .int x4), (0, .ref (ad a0)), (1, .ref (ad a1)), (2, .int c2), (3, .int c3), (4, .int c4), (5, .int w5)] G dX6_plantingCost_55 (by decide) rfl ?_
        refine v_iload G dX6_plantingCost_57 0 rfl ?_
        obtain ⟨j74, ej74, hf⟩ := lt_j hf
        have hj74 : ∀ (x5 : Int32), j74 x5 = some y → KV ad cy x (some (.int y.1), y.2) 74 [(0, .ref (ad a0)), (1, .ref (ad a1)), (2, .int c2), (3, .int c3), (4, .int c4), (5, .int w5)] [.int x5] M := by
          intro x5 hf
          rw [ej74] at hf
          refine v_istore [(7, .int x5), (0, .ref (ad a0)), (1, .ref (ad a1)), (2, .int c2), (3, .int c3), (4, .int c4), (5, .int w5)] G dX6_plantingCost_74 (by decide) rfl ?_
          refine v_aload_n G dX6_plantingCost_76 2 rfl ?_
          refine gf_2_1 G h1 t_365 (Or.inl rfl) dX6_plantingCost_77 ?_
          refine v_iload G dX6_plantingCost_80 6 rfl ?_
          obtain ⟨g6, hf⟩ := gd_e hf
          refine al_30 G (kf_2_2 h1) g6 dX6_plantingCost_82 ?_
          refine v_nmi (fun v7 ev7 => ?_)
          replace hf := lt_e hf ev7
          refine v_istore [(8, .int v7), (7, .int x5), (0, .ref (ad a0)), (1, .ref (ad a1)), (2, .int c2), (3, .int c3), (4, .int c4), (5, .int w5)] G dX6_plantingCost_83 (by decide) rfl ?_
          refine v_aload_n G dX6_plantingCost_85 3 rfl ?_
          refine gf_2_2 G h1 t_367 (Or.inl rfl) dX6_plantingCost_86 ?_
          refine v_iload G dX6_plantingCost_89 7 rfl ?_
          obtain ⟨g8, hf⟩ := gd_e hf
          refine al_30 G (kf_2_3 h1) g8 dX6_plantingCost_91 ?_
          refine v_nmi (fun v9 ev9 => ?_)
          replace hf := lt_e hf ev9
          refine v_istore [(9, .int v9), (8, .int v7), (7, .int x5), (0, .ref (ad a0)), (1, .ref (ad a1)), (2, .int c2), (3, .int c3), (4, .int c4), (5, .int w5)] G dX6_plantingCost_92 (by decide) rfl ?_
          refine v_aload_n G dX6_plantingCost_94 3 rfl ?_
          refine gf_6_0 G h0 t_199 (Or.inl rfl) dX6_plantingCost_95 ?_
          refine v_iload G dX6_plantingCost_98 0 rfl ?_
          refine v_aload_n G dX6_plantingCost_100 3 rfl ?_
          refine gf_6_0 G h0 t_199 (Or.inl rfl) dX6_plantingCost_101 ?_
          refine v_iload G dX6_plantingCost_104 0 rfl ?_
          obtain ⟨g10, hf⟩ := gd_e hf
          refine al_28 G (kf_6_1 h0) g10 dX6_plantingCost_106 ?_
          refine v_aload_n G dX6_plantingCost_107 3 rfl ?_
          refine gf_6_0 G h0 t_199 (Or.inl rfl) dX6_plantingCost_108 ?_
          refine v_iload G dX6_plantingCost_111 1 rfl ?_
          obtain ⟨g11, hf⟩ := gd_e hf
          refine al_28 G (kf_6_1 h0) g11 dX6_plantingCost_113 ?_
          refine v_iload G dX6_plantingCost_114 2 rfl ?_
          refine v_iadd G dX6_plantingCost_116 ?_
          refine v_mmin G (by decide) t_792 t_666 t_17 t_667 (Nat.le_of_ble_eq_true rfl) dX6_plantingCost_117 ?_
          refine v_nmi (fun v12 ev12 => ?_)
          replace hf := lt_e hf ev12
          obtain ⟨g13, hf⟩ := gd_e hf
          refine as_28 G (kf_6_1 h0) g13 dX6_plantingCost_120 ?_
          refine v_nmM (fun M14 eM14 => ?_)
          replace hf := lt_e hf eM14
          refine v_aload_n G dX6_plantingCost_121 3 rfl ?_
          refine gf_6_0 G h0 t_199 (Or.inl rfl) dX6_plantingCost_122 ?_
          refine v_iload G dX6_plantingCost_125 1 rfl ?_
          refine v_aload_n G dX6_plantingCost_127 3 rfl ?_
          refine gf_6_0 G h0 t_199 (Or.inl rfl) dX6_plantingCost_128 ?_
          refine v_iload G dX6_plantingCost_131 1 rfl ?_
          obtain ⟨g15, hf⟩ := gd_e hf
          refine al_28 G (kf_6_1 h0) g15 dX6_plantingCost_133 ?_
          refine v_aload_n G dX6_plantingCost_134 3 rfl ?_
          refine gf_6_0 G h0 t_199 (Or.inl rfl) dX6_plantingCost_135 ?_
          refine v_iload G dX6_plantingCost_138 0 rfl ?_
          obtain ⟨g16, hf⟩ := gd_e hf
          refine al_28 G (kf_6_1 h0) g16 dX6_plantingCost_140 ?_
          refine v_iload G dX6_plantingCost_141 2 rfl ?_
          refine v_iadd G dX6_plantingCost_143 ?_
          refine v_mmin G (by decide) t_792 t_666 t_17 t_667 (Nat.le_of_ble_eq_true rfl) dX6_plantingCost_144 ?_
          refine v_nmi (fun v17 ev17 => ?_)
          replace hf := lt_e hf ev17
          obtain ⟨g18, hf⟩ := gd_e hf
          refine as_28 G (kf_6_1 h0) g18 dX6_plantingCost_147 ?_
          refine v_nmM (fun M19 eM19 => ?_)
          replace hf := lt_e hf eM19
          obtain ⟨v20, ev20⟩ : ∃ q : Int32, q = w5 + (1 : Int32) := ⟨_, rfl⟩
          replace hf := lt_e hf ev20
          refine v_iinc v20 [(5, .int v20), (9, .int v9), (8, .int v7), (7, .int x5), (0, .ref (ad a0)), (1, .ref (ad a1)), (2, .int c2), (3, .int c3), (4, .int c4)] G dX6_plantingCost_148 8 rfl (by rw [ev20]; rfl) (by decide) rfl ?_
          refine v_goto 30 G dX6_plantingCost_151 (by decide) ?_
          refine v_sub _ [4, 5, 6, 7, 8, 0] rfl ?_
          exact ih v20 M19 hf
        refine v_if_eq 66 G dX6_plantingCost_59 (by decide) (fun h21 => ?_) (fun h21 => ?_)
        · replace hf := (if_pos h21).symm.trans hf
          refine v_sipush (4096 : Int32) G dX6_plantingCost_66 (by decide) ?_
          refine v_iconst (1 : Int32) G dX6_plantingCost_69 (by decide) ?_
          refine v_iload G dX6_plantingCost_70 6 rfl ?_
          refine v_ishl G dX6_plantingCost_72 ?_
          refine v_iadd G dX6_plantingCost_73 ?_
          refine v_sub _ [1, 2, 3, 4, 5, 6] rfl ?_
          exact hj74 ((4096 : Int32) + ((1 : Int32) <<< (w5 &&& 31))) hf
        · replace hf := (if_neg h21).symm.trans hf
          refine v_iconst (0 : Int32) G dX6_plantingCost_62 (by decide) ?_
          refine v_goto 74 G dX6_plantingCost_63 (by decide) ?_
          refine v_sub _ [1, 2, 3, 4, 5, 6] rfl ?_
          exact hj74 (0 : Int32) hf
      refine v_icmp_eq 54 G dX6_plantingCost_47 (by decide) (fun h22 => ?_) (fun h22 => ?_)
      · replace hf := (if_pos h22).symm.trans hf
        refine v_iconst (0 : Int32) G dX6_plantingCost_54 (by decide) ?_
        refine v_sub _ [0, 1, 2, 3, 4, 5] rfl ?_
        exact hj55 (0 : Int32) hf
      · replace hf := (if_neg h22).symm.trans hf
        refine v_iconst (1 : Int32) G dX6_plantingCost_50 (by decide) ?_
        refine v_goto 55 G dX6_plantingCost_51 (by decide) ?_
        refine v_sub _ [0, 1, 2, 3, 4, 5] rfl ?_
        exact hj55 (1 : Int32) hf
set_option maxRecDepth 100000 in
set_option maxHeartbeats 4000000 in
theorem s_X6_plantingCost_18 {ad : Nat → Nat} {cy : Nat → ClassId} {x : KX} (G : KG ad cy x cX6_plantingCost "NoonGuides$Paths" 10 (some (some .int)) 3) {a0 : Nat} {a1 : Nat} {c2 : Int32} {c3 : Int32} (h0 : kty a0 = 7) (h1 : kty a1 = 3) {k160 : KM → Option (Int32 × KM)} {y : (Int32 × KM)} (hk160 : ∀ (M : KM), k160 M = some y → KV ad cy x (some (.int y.1), y.2) 160 [(0, .ref (ad a0)), (3, .int c3)] [] M) : ∀ (n : Nat) (w4 : Int32) (M : KM), lp_X6_plantingCost_18 n a0 a1 c2 c3 w4 M k160 = some y → KV ad cy x (some (.int y.1), y.2) 18 [(0, .ref (ad a0)), (1, .ref (ad a1)), (2, .int c2), (3, .int c3), (4, .int w4)] [] M := by
  intro n
  induction n with
  | zero =>
    intro w4 M hf
    cases hf
  | succ n ih =>
    intro w4 M hf
    rw [lp_X6_plantingCost_18] at hf
    refine v_iload G dX6_plantingCost_18 4 rfl ?_
    refine v_aload_n G dX6_plantingCost_20 1 rfl ?_
    refine gf_2_8 G h1 t_383 (Or.inl rfl) dX6_plantingCost_21 ?_
    refine v_icmp_ge 160 G dX6_plantingCost_24 (by decide) (fun h26 => ?_) (fun h26 => ?_)
    · replace hf := (if_pos h26).symm.trans hf
      refine v_sub _ [0, 3] rfl ?_
      exact hk160 M hf
    · replace hf := (if_neg h26).symm.trans hf
      refine v_iconst (0 : Int32) G dX6_plantingCost_27 (by decide) ?_
      refine v_istore [(5, .int (0 : Int32)), (0, .ref (ad a0)), (1, .ref (ad a1)), (2, .int c2), (3, .int c3), (4, .int w4)] G dX6_plantingCost_28 (by decide) rfl ?_
      refine v_sub _ [1, 2, 3, 4, 5, 0] rfl ?_
      refine s_X6_plantingCost_30 G h0 h1 (fun M24 hf => ?_) n (0 : Int32) M hf
      · obtain ⟨v25, ev25⟩ : ∃ q : Int32, q = w4 + (1 : Int32) := ⟨_, rfl⟩
        replace hf := lt_e hf ev25
        refine v_iinc v25 [(4, .int v25), (0, .ref (ad a0)), (1, .ref (ad a1)), (2, .int c2), (3, .int c3)] G dX6_plantingCost_154 4 rfl (by rw [ev25]; rfl) (by decide) rfl ?_
        refine v_goto 18 G dX6_plantingCost_157 (by decide) ?_
        refine v_sub _ [1, 2, 3, 4, 0] rfl ?_
        exact ih v25 M24 hf
set_option maxRecDepth 100000 in
set_option maxHeartbeats 4000000 in
theorem c_X6_plantingCost {l : Launch} {ad : Nat → Nat} {cy : Nat → ClassId} {D : va_G} {z : Nat} (n : Nat) {a0 : Nat} {a1 : Nat} {p2 : Int32} {p3 : Int32} {M : KM} {y : (Int32 × KM)} (h0 : kty a0 = 7) (h1 : kty a1 = 3) (hf : f_X6_plantingCost n a0 a1 p2 p3 M = some y) : KC l ad cy D z yX6_plantingCost cX6_plantingCost 10 (some .int) 3 [.ref (ad a0), .ref (ad a1), .int p2, .int p3] M (some (.int y.1), y.2) := by
  refine kv_enter (by decide +kernel) (Nat.le_of_ble_eq_true rfl) ?_
  intro x hl hD hz G
  subst hl hD hz
  unfold f_X6_plantingCost at hf
  have G : KG ad cy x cX6_plantingCost "NoonGuides$Paths" 10 (some (some .int)) 3 := G
  show KV ad cy x (some (.int y.1), y.2) 0 [(0, .ref (ad a0)), (1, .ref (ad a1)), (2, .int p2), (3, .int p3)] [] M
  refine v_aload_n G dX6_plantingCost_0 0 rfl ?_
  refine v_aload_n G dX6_plantingCost_1 1 rfl ?_
  refine v_aload_n G dX6_plantingCost_2 1 rfl ?_
  refine gf_2_5 G h1 t_372 (Or.inl rfl) dX6_plantingCost_3 ?_
  refine v_iload_n G dX6_plantingCost_6 2 rfl ?_
  obtain ⟨g1, hf⟩ := gd_e hf
  refine al_Person G (kf_2_6 h1) g1 dX6_plantingCost_7 ?_
  refine gf_7_5 G (ke_Person (kf_2_6 h1) (ix_lt g1)) t_321 (Or.inl rfl) dX6_plantingCost_8 ?_
  refine v_iconst (0 : Int32) G dX6_plantingCost_11 (by decide) ?_
  obtain ⟨v2, hcv2, hf⟩ := bd_e hf
  refine v_callV [.ref (ad a1), .int (M.1 ((a1 + 6) + 8 + 3 * (p2).toNatClampNeg) 5), .int (0 : Int32)] G (c_X6_startAt n h0 h1 hcv2) h0 (by decide) rfl rfl rfl t_779 t_781 t_p18 t_10 t_782 nm_X6_startAt (by decide) (by decide) rfl rfl (Nat.le_of_ble_eq_true rfl) dX6_plantingCost_12 (kv_rv ?_)
  refine v_iconst (1 : Int32) G dX6_plantingCost_15 (by decide) ?_
  refine v_istore [(4, .int (1 : Int32)), (0, .ref (ad a0)), (1, .ref (ad a1)), (2, .int p2), (3, .int p3)] G dX6_plantingCost_16 (by decide) rfl ?_
  refine v_sub _ [1, 2, 3, 4, 0] rfl ?_
  refine s_X6_plantingCost_18 G h0 h1 (fun M27 hf => ?_) n (1 : Int32) v2 hf
  · refine v_aload_n G dX6_plantingCost_160 0 rfl ?_
    refine gf_6_0 G h0 t_199 (Or.inl rfl) dX6_plantingCost_161 ?_
    refine v_iload_n G dX6_plantingCost_164 1 rfl ?_
    obtain ⟨g28, hf⟩ := gd_e hf
    refine al_28 G (kf_6_1 h0) g28 dX6_plantingCost_165 ?_
    refine v_ldc G dX6_plantingCost_166 t_783 ?_
    refine v_mmin G (by decide) t_792 t_666 t_17 t_667 (Nat.le_of_ble_eq_true rfl) dX6_plantingCost_168 ?_
    refine v_nmi (fun v29 ev29 => ?_)
    replace hf := lt_e hf ev29
    obtain rfl := Option.some.inj hf
    exact v_iret G dX6_plantingCost_171
abbrev cX5_likes : ByteArray := prog_7_method_4_code
def yX5_likes : MethodName := ⟨RX5, "likes", "(LNoonGuides$Land;III)Z"⟩
theorem dX5_likes_0 : dc cX5_likes 0 (.iload_n 3) 1 1 := ⟨by decide +kernel, rfl⟩
theorem dX5_likes_1 : dc cX5_likes 1 (.iconst (-1)) 1 2 := ⟨by decide +kernel, rfl⟩
theorem dX5_likes_2 : dc cX5_likes 2 (.if_icmp .ne 5) 3 5 := ⟨by decide +kernel, rfl⟩
theorem dX5_likes_5 : dc cX5_likes 5 (.iconst 1) 1 6 := ⟨by decide +kernel, rfl⟩
theorem dX5_likes_6 : dc cX5_likes 6 (.ireturn) 1 7 := ⟨by decide +kernel, rfl⟩
theorem dX5_likes_7 : dc cX5_likes 7 (.aload_n 0) 1 8 := ⟨by decide +kernel, rfl⟩
theorem dX5_likes_8 : dc cX5_likes 8 (.getfield 24) 3 11 := ⟨by decide +kernel, rfl⟩
theorem dX5_likes_11 : dc cX5_likes 11 (.iload_n 2) 1 12 := ⟨by decide +kernel, rfl⟩
theorem dX5_likes_12 : dc cX5_likes 12 (.aaload) 1 13 := ⟨by decide +kernel, rfl⟩
theorem dX5_likes_13 : dc cX5_likes 13 (.getfield 42) 3 16 := ⟨by decide +kernel, rfl⟩
theorem dX5_likes_16 : dc cX5_likes 16 (.iload_n 1) 1 17 := ⟨by decide +kernel, rfl⟩
theorem dX5_likes_17 : dc cX5_likes 17 (.iaload) 1 18 := ⟨by decide +kernel, rfl⟩
theorem dX5_likes_18 : dc cX5_likes 18 (.istore 4) 2 20 := ⟨by decide +kernel, rfl⟩
theorem dX5_likes_20 : dc cX5_likes 20 (.aload_n 0) 1 21 := ⟨by decide +kernel, rfl⟩
theorem dX5_likes_21 : dc cX5_likes 21 (.getfield 24) 3 24 := ⟨by decide +kernel, rfl⟩
theorem dX5_likes_24 : dc cX5_likes 24 (.iload_n 3) 1 25 := ⟨by decide +kernel, rfl⟩
theorem dX5_likes_25 : dc cX5_likes 25 (.aaload) 1 26 := ⟨by decide +kernel, rfl⟩
theorem dX5_likes_26 : dc cX5_likes 26 (.getfield 42) 3 29 := ⟨by decide +kernel, rfl⟩
theorem dX5_likes_29 : dc cX5_likes 29 (.iload_n 1) 1 30 := ⟨by decide +kernel, rfl⟩
theorem dX5_likes_30 : dc cX5_likes 30 (.iaload) 1 31 := ⟨by decide +kernel, rfl⟩
theorem dX5_likes_31 : dc cX5_likes 31 (.istore 5) 2 33 := ⟨by decide +kernel, rfl⟩
theorem dX5_likes_33 : dc cX5_likes 33 (.iload 4) 2 35 := ⟨by decide +kernel, rfl⟩
theorem dX5_likes_35 : dc cX5_likes 35 (.iload 5) 2 37 := ⟨by decide +kernel, rfl⟩
theorem dX5_likes_37 : dc cX5_likes 37 (.if_icmp .gt 15) 3 40 := ⟨by decide +kernel, rfl⟩
theorem dX5_likes_40 : dc cX5_likes 40 (.iload 4) 2 42 := ⟨by decide +kernel, rfl⟩
theorem dX5_likes_42 : dc cX5_likes 42 (.iload 5) 2 44 := ⟨by decide +kernel, rfl⟩
theorem dX5_likes_44 : dc cX5_likes 44 (.if_icmp .ne 12) 3 47 := ⟨by decide +kernel, rfl⟩
theorem dX5_likes_47 : dc cX5_likes 47 (.iload_n 2) 1 48 := ⟨by decide +kernel, rfl⟩
theorem dX5_likes_48 : dc cX5_likes 48 (.iload_n 3) 1 49 := ⟨by decide +kernel, rfl⟩
theorem dX5_likes_49 : dc cX5_likes 49 (.if_icmp .ge 7) 3 52 := ⟨by decide +kernel, rfl⟩
theorem dX5_likes_52 : dc cX5_likes 52 (.iconst 1) 1 53 := ⟨by decide +kernel, rfl⟩
theorem dX5_likes_53 : dc cX5_likes 53 (.goto 4) 3 56 := ⟨by decide +kernel, rfl⟩
theorem dX5_likes_56 : dc cX5_likes 56 (.iconst 0) 1 57 := ⟨by decide +kernel, rfl⟩
theorem dX5_likes_57 : dc cX5_likes 57 (.ireturn) 1 58 := ⟨by decide +kernel, rfl⟩
theorem nm_X5_likes : (yX5_likes).cls ≠ "java/lang/invoke/MethodHandle" ∧ (yX5_likes).cls ≠ "java/lang/invoke/VarHandle" ∧ (parseMethodDescriptor (yX5_likes).desc).map (fun d => d.parameters.length) = some 4 := ⟨by decide +kernel, by decide +kernel, by decide +kernel⟩
set_option maxRecDepth 100000 in
theorem z_X5_likes (n : Nat) {a0 : Nat} {p1 : Int32} {p2 : Int32} {p3 : Int32} {M : KM} {y : Int32} (hf : f_X5_likes n a0 p1 p2 p3 M = some y) : (y = 0 ∨ y = 1) := by
  unfold f_X5_likes at hf
  by_cases h10 : p3 = (-1 : Int32)
  · replace hf := (if_pos h10).symm.trans hf
    obtain rfl := Option.some.inj hf
    exact (Or.inr rfl)
  · replace hf := (if_neg h10).symm.trans hf
    obtain ⟨g1, hf⟩ := gd_e hf
    obtain ⟨g2, hf⟩ := gd_e hf
    obtain ⟨v3, ev3⟩ : ∃ q, q = ((M.1 (((a0 + 6) + 8 + 3 * (p2).toNatClampNeg) + 2) (p1).toNatClampNeg) : Int32) := ⟨_, rfl⟩
    replace hf := lt_e hf ev3
    obtain ⟨g4, hf⟩ := gd_e hf
    obtain ⟨g5, hf⟩ := gd_e hf
    obtain ⟨v6, ev6⟩ : ∃ q, q = ((M.1 (((a0 + 6) + 8 + 3 * (p3).toNatClampNeg) + 2) (p1).toNatClampNeg) : Int32) := ⟨_, rfl⟩
    replace hf := lt_e hf ev6
    obtain ⟨j52, ej52, hf⟩ := lt_j hf
    have hj52 : j52 = some y → (y = 0 ∨ y = 1) := by
      intro hf
      rw [ej52] at hf
      obtain rfl := Option.some.inj hf
      exact (Or.inr rfl)
    by_cases h9 : v6 < v3
    · replace hf := (if_pos h9).symm.trans hf
      exact hj52 hf
    · replace hf := (if_neg h9).symm.trans hf
      by_cases h8 : v3 = v6
      · replace hf := (if_pos h8).symm.trans hf
        by_cases h7 : p3 ≤ p2
        · replace hf := (if_pos h7).symm.trans hf
          obtain rfl := Option.some.inj hf
          exact (Or.inl rfl)
        · replace hf := (if_neg h7).symm.trans hf
          exact hj52 hf
      · replace hf := (if_neg h8).symm.trans hf
        obtain rfl := Option.some.inj hf
        exact (Or.inl rfl)
set_option maxRecDepth 100000 in
set_option maxHeartbeats 4000000 in
theorem c_X5_likes {l : Launch} {ad : Nat → Nat} {cy : Nat → ClassId} {D : va_G} {z : Nat} (n : Nat) {a0 : Nat} {p1 : Int32} {p2 : Int32} {p3 : Int32} {M : KM} {y : Int32} (h0 : kty a0 = 3) (hf : f_X5_likes n a0 p1 p2 p3 M = some y) : KC l ad cy D z yX5_likes cX5_likes 6 (some .boolean) 1 [.ref (ad a0), .int p1, .int p2, .int p3] M (some (.int y), M) := by
  refine kv_enter (by decide +kernel) (Nat.le_of_ble_eq_true rfl) ?_
  intro x hl hD hz G
  subst hl hD hz
  unfold f_X5_likes at hf
  have G : KG ad cy x cX5_likes "NoonGuides$Pairing" 6 (some (some .boolean)) 1 := G
  show KV ad cy x (some (.int y), M) 0 [(0, .ref (ad a0)), (1, .int p1), (2, .int p2), (3, .int p3)] [] M
  refine v_iload_n G dX5_likes_0 3 rfl ?_
  refine v_iconst (-1 : Int32) G dX5_likes_1 (by decide) ?_
  refine v_icmp_ne 7 G dX5_likes_2 (by decide) (fun h10 => ?_) (fun h10 => ?_)
  · replace hf := (if_neg h10).symm.trans hf
    refine v_aload_n G dX5_likes_7 0 rfl ?_
    refine gf_2_5 G h0 t_373 (Or.inl rfl) dX5_likes_8 ?_
    refine v_iload_n G dX5_likes_11 2 rfl ?_
    obtain ⟨g1, hf⟩ := gd_e hf
    refine al_Person G (kf_2_6 h0) g1 dX5_likes_12 ?_
    refine gf_7_1 G (ke_Person (kf_2_6 h0) (ix_lt g1)) t_308 (Or.inl rfl) dX5_likes_13 ?_
    refine v_iload_n G dX5_likes_16 1 rfl ?_
    obtain ⟨g2, hf⟩ := gd_e hf
    refine al_28 G (kf_7_2 (ke_Person (kf_2_6 h0) (ix_lt g1))) g2 dX5_likes_17 ?_
    refine v_nmi (fun v3 ev3 => ?_)
    replace hf := lt_e hf ev3
    refine v_istore [(4, .int v3), (0, .ref (ad a0)), (1, .int p1), (2, .int p2), (3, .int p3)] G dX5_likes_18 (by decide) rfl ?_
    refine v_aload_n G dX5_likes_20 1 rfl ?_
    refine gf_2_5 G h0 t_373 (Or.inl rfl) dX5_likes_21 ?_
    refine v_iload_n G dX5_likes_24 4 rfl ?_
    obtain ⟨g4, hf⟩ := gd_e hf
    refine al_Person G (kf_2_6 h0) g4 dX5_likes_25 ?_
    refine gf_7_1 G (ke_Person (kf_2_6 h0) (ix_lt g4)) t_308 (Or.inl rfl) dX5_likes_26 ?_
    refine v_iload_n G dX5_likes_29 2 rfl ?_
    obtain ⟨g5, hf⟩ := gd_e hf
    refine al_28 G (kf_7_2 (ke_Person (kf_2_6 h0) (ix_lt g4))) g5 dX5_likes_30 ?_
    refine v_nmi (fun v6 ev6 => ?_)
    replace hf := lt_e hf ev6
    refine v_istore [(5, .int v6), (4, .int v3), (0, .ref (ad a0)), (1, .int p1), (2, .int p2), (3, .int p3)] G dX5_likes_31 (by decide) rfl ?_
    refine v_iload G dX5_likes_33 1 rfl ?_
    refine v_iload G dX5_likes_35 0 rfl ?_
    obtain ⟨j52, ej52, hf⟩ := lt_j hf
    have hj52 : j52 = some y → KV ad cy x (some (.int y), M) 52 [] [] M := by
      intro hf
      rw [ej52] at hf
      refine v_iconst (1 : Int32) G dX5_likes_52 (by decide) ?_
      refine v_goto 57 G dX5_likes_53 (by decide) ?_
      obtain rfl := Option.some.inj hf
      exact v_zret G (Or.inr rfl) dX5_likes_57
    refine v_icmp_gt 52 G dX5_likes_37 (by decide) (fun h9 => ?_) (fun h9 => ?_)
    · replace hf := (if_pos h9).symm.trans hf
      refine v_sub _ [] rfl ?_
      exact hj52 hf
    · replace hf := (if_neg h9).symm.trans hf
      refine v_iload G dX5_likes_40 1 rfl ?_
      refine v_iload G dX5_likes_42 0 rfl ?_
      refine v_icmp_ne 56 G dX5_likes_44 (by decide) (fun h8 => ?_) (fun h8 => ?_)
      · replace hf := (if_neg h8).symm.trans hf
        refine v_iconst (0 : Int32) G dX5_likes_56 (by decide) ?_
        obtain rfl := Option.some.inj hf
        exact v_zret G (Or.inl rfl) dX5_likes_57
      · replace hf := (if_pos h8).symm.trans hf
        refine v_iload_n G dX5_likes_47 4 rfl ?_
        refine v_iload_n G dX5_likes_48 5 rfl ?_
        refine v_icmp_ge 56 G dX5_likes_49 (by decide) (fun h7 => ?_) (fun h7 => ?_)
        · replace hf := (if_pos h7).symm.trans hf
          refine v_iconst (0 : Int32) G dX5_likes_56 (by decide) ?_
          obtain rfl := Option.some.inj hf
          exact v_zret G (Or.inl rfl) dX5_likes_57
        · replace hf := (if_neg h7).symm.trans hf
          refine v_sub _ [] rfl ?_
          exact hj52 hf
  · replace hf := (if_pos h10).symm.trans hf
    refine v_iconst (1 : Int32) G dX5_likes_5 (by decide) ?_
    obtain rfl := Option.some.inj hf
    exact v_zret G (Or.inr rfl) dX5_likes_6
abbrev cX5_askNext : ByteArray := prog_7_method_3_code
def yX5_askNext : MethodName := ⟨RX5, "askNext", "(LNoonGuides$Land;I)V"⟩
theorem dX5_askNext_0 : dc cX5_askNext 0 (.iconst (-1)) 1 1 := ⟨by decide +kernel, rfl⟩
theorem dX5_askNext_1 : dc cX5_askNext 1 (.istore_n 3) 1 2 := ⟨by decide +kernel, rfl⟩
theorem dX5_askNext_2 : dc cX5_askNext 2 (.iconst 0) 1 3 := ⟨by decide +kernel, rfl⟩
theorem dX5_askNext_3 : dc cX5_askNext 3 (.istore 4) 2 5 := ⟨by decide +kernel, rfl⟩
theorem dX5_askNext_5 : dc cX5_askNext 5 (.iload 4) 2 7 := ⟨by decide +kernel, rfl⟩
theorem dX5_askNext_7 : dc cX5_askNext 7 (.aload_n 1) 1 8 := ⟨by decide +kernel, rfl⟩
theorem dX5_askNext_8 : dc cX5_askNext 8 (.getfield 18) 3 11 := ⟨by decide +kernel, rfl⟩
theorem dX5_askNext_11 : dc cX5_askNext 11 (.if_icmp .ge 62) 3 14 := ⟨by decide +kernel, rfl⟩
theorem dX5_askNext_14 : dc cX5_askNext 14 (.aload_n 1) 1 15 := ⟨by decide +kernel, rfl⟩
theorem dX5_askNext_15 : dc cX5_askNext 15 (.getfield 24) 3 18 := ⟨by decide +kernel, rfl⟩
theorem dX5_askNext_18 : dc cX5_askNext 18 (.iload 4) 2 20 := ⟨by decide +kernel, rfl⟩
theorem dX5_askNext_20 : dc cX5_askNext 20 (.aaload) 1 21 := ⟨by decide +kernel, rfl⟩
theorem dX5_askNext_21 : dc cX5_askNext 21 (.getfield 28) 3 24 := ⟨by decide +kernel, rfl⟩
theorem dX5_askNext_24 : dc cX5_askNext 24 (.ifCond .ne 21) 3 27 := ⟨by decide +kernel, rfl⟩
theorem dX5_askNext_27 : dc cX5_askNext 27 (.aload_n 0) 1 28 := ⟨by decide +kernel, rfl⟩
theorem dX5_askNext_28 : dc cX5_askNext 28 (.getfield 15) 3 31 := ⟨by decide +kernel, rfl⟩
theorem dX5_askNext_31 : dc cX5_askNext 31 (.iload_n 2) 1 32 := ⟨by decide +kernel, rfl⟩
theorem dX5_askNext_32 : dc cX5_askNext 32 (.iaload) 1 33 := ⟨by decide +kernel, rfl⟩
theorem dX5_askNext_33 : dc cX5_askNext 33 (.iconst 1) 1 34 := ⟨by decide +kernel, rfl⟩
theorem dX5_askNext_34 : dc cX5_askNext 34 (.iload 4) 2 36 := ⟨by decide +kernel, rfl⟩
theorem dX5_askNext_36 : dc cX5_askNext 36 (.ishl) 1 37 := ⟨by decide +kernel, rfl⟩
theorem dX5_askNext_37 : dc cX5_askNext 37 (.iand) 1 38 := ⟨by decide +kernel, rfl⟩
theorem dX5_askNext_38 : dc cX5_askNext 38 (.ifCond .ne 7) 3 41 := ⟨by decide +kernel, rfl⟩
theorem dX5_askNext_41 : dc cX5_askNext 41 (.iconst 1) 1 42 := ⟨by decide +kernel, rfl⟩
theorem dX5_askNext_42 : dc cX5_askNext 42 (.goto 4) 3 45 := ⟨by decide +kernel, rfl⟩
theorem dX5_askNext_45 : dc cX5_askNext 45 (.iconst 0) 1 46 := ⟨by decide +kernel, rfl⟩
theorem dX5_askNext_46 : dc cX5_askNext 46 (.istore 5) 2 48 := ⟨by decide +kernel, rfl⟩
theorem dX5_askNext_48 : dc cX5_askNext 48 (.iload 5) 2 50 := ⟨by decide +kernel, rfl⟩
theorem dX5_askNext_50 : dc cX5_askNext 50 (.ifCond .eq 17) 3 53 := ⟨by decide +kernel, rfl⟩
theorem dX5_askNext_53 : dc cX5_askNext 53 (.aload_n 1) 1 54 := ⟨by decide +kernel, rfl⟩
theorem dX5_askNext_54 : dc cX5_askNext 54 (.iload_n 2) 1 55 := ⟨by decide +kernel, rfl⟩
theorem dX5_askNext_55 : dc cX5_askNext 55 (.iload 4) 2 57 := ⟨by decide +kernel, rfl⟩
theorem dX5_askNext_57 : dc cX5_askNext 57 (.iload_n 3) 1 58 := ⟨by decide +kernel, rfl⟩
theorem dX5_askNext_58 : dc cX5_askNext 58 (.invokestatic 38) 3 61 := ⟨by decide +kernel, rfl⟩
theorem dX5_askNext_61 : dc cX5_askNext 61 (.ifCond .eq 6) 3 64 := ⟨by decide +kernel, rfl⟩
theorem dX5_askNext_64 : dc cX5_askNext 64 (.iload 4) 2 66 := ⟨by decide +kernel, rfl⟩
theorem dX5_askNext_66 : dc cX5_askNext 66 (.istore_n 3) 1 67 := ⟨by decide +kernel, rfl⟩
theorem dX5_askNext_67 : dc cX5_askNext 67 (.iinc 4 1) 3 70 := ⟨by decide +kernel, rfl⟩
theorem dX5_askNext_70 : dc cX5_askNext 70 (.goto (-65)) 3 73 := ⟨by decide +kernel, rfl⟩
theorem dX5_askNext_73 : dc cX5_askNext 73 (.iload_n 3) 1 74 := ⟨by decide +kernel, rfl⟩
theorem dX5_askNext_74 : dc cX5_askNext 74 (.iconst (-1)) 1 75 := ⟨by decide +kernel, rfl⟩
theorem dX5_askNext_75 : dc cX5_askNext 75 (.if_icmp .ne 4) 3 78 := ⟨by decide +kernel, rfl⟩
theorem dX5_askNext_78 : dc cX5_askNext 78 (.return_) 1 79 := ⟨by decide +kernel, rfl⟩
theorem dX5_askNext_79 : dc cX5_askNext 79 (.aload_n 0) 1 80 := ⟨by decide +kernel, rfl⟩
theorem dX5_askNext_80 : dc cX5_askNext 80 (.getfield 15) 3 83 := ⟨by decide +kernel, rfl⟩
theorem dX5_askNext_83 : dc cX5_askNext 83 (.iload_n 2) 1 84 := ⟨by decide +kernel, rfl⟩
theorem dX5_askNext_84 : dc cX5_askNext 84 (.dup2) 1 85 := ⟨by decide +kernel, rfl⟩
theorem dX5_askNext_85 : dc cX5_askNext 85 (.iaload) 1 86 := ⟨by decide +kernel, rfl⟩
theorem dX5_askNext_86 : dc cX5_askNext 86 (.iconst 1) 1 87 := ⟨by decide +kernel, rfl⟩
theorem dX5_askNext_87 : dc cX5_askNext 87 (.iload_n 3) 1 88 := ⟨by decide +kernel, rfl⟩
theorem dX5_askNext_88 : dc cX5_askNext 88 (.ishl) 1 89 := ⟨by decide +kernel, rfl⟩
theorem dX5_askNext_89 : dc cX5_askNext 89 (.ior) 1 90 := ⟨by decide +kernel, rfl⟩
theorem dX5_askNext_90 : dc cX5_askNext 90 (.iastore) 1 91 := ⟨by decide +kernel, rfl⟩
theorem dX5_askNext_91 : dc cX5_askNext 91 (.aload_n 0) 1 92 := ⟨by decide +kernel, rfl⟩
theorem dX5_askNext_92 : dc cX5_askNext 92 (.getfield 9) 3 95 := ⟨by decide +kernel, rfl⟩
theorem dX5_askNext_95 : dc cX5_askNext 95 (.iload_n 3) 1 96 := ⟨by decide +kernel, rfl⟩
theorem dX5_askNext_96 : dc cX5_askNext 96 (.iaload) 1 97 := ⟨by decide +kernel, rfl⟩
theorem dX5_askNext_97 : dc cX5_askNext 97 (.istore 4) 2 99 := ⟨by decide +kernel, rfl⟩
theorem dX5_askNext_99 : dc cX5_askNext 99 (.aload_n 1) 1 100 := ⟨by decide +kernel, rfl⟩
theorem dX5_askNext_100 : dc cX5_askNext 100 (.iload_n 3) 1 101 := ⟨by decide +kernel, rfl⟩
theorem dX5_askNext_101 : dc cX5_askNext 101 (.iload_n 2) 1 102 := ⟨by decide +kernel, rfl⟩
theorem dX5_askNext_102 : dc cX5_askNext 102 (.iload 4) 2 104 := ⟨by decide +kernel, rfl⟩
theorem dX5_askNext_104 : dc cX5_askNext 104 (.invokestatic 38) 3 107 := ⟨by decide +kernel, rfl⟩
theorem dX5_askNext_107 : dc cX5_askNext 107 (.ifCond .ne 4) 3 110 := ⟨by decide +kernel, rfl⟩
theorem dX5_askNext_110 : dc cX5_askNext 110 (.return_) 1 111 := ⟨by decide +kernel, rfl⟩
theorem dX5_askNext_111 : dc cX5_askNext 111 (.iload 4) 2 113 := ⟨by decide +kernel, rfl⟩
theorem dX5_askNext_113 : dc cX5_askNext 113 (.iconst (-1)) 1 114 := ⟨by decide +kernel, rfl⟩
theorem dX5_askNext_114 : dc cX5_askNext 114 (.if_icmp .eq 11) 3 117 := ⟨by decide +kernel, rfl⟩
theorem dX5_askNext_117 : dc cX5_askNext 117 (.aload_n 0) 1 118 := ⟨by decide +kernel, rfl⟩
theorem dX5_askNext_118 : dc cX5_askNext 118 (.getfield 9) 3 121 := ⟨by decide +kernel, rfl⟩
theorem dX5_askNext_121 : dc cX5_askNext 121 (.iload 4) 2 123 := ⟨by decide +kernel, rfl⟩
theorem dX5_askNext_123 : dc cX5_askNext 123 (.iconst (-1)) 1 124 := ⟨by decide +kernel, rfl⟩
theorem dX5_askNext_124 : dc cX5_askNext 124 (.iastore) 1 125 := ⟨by decide +kernel, rfl⟩
theorem dX5_askNext_125 : dc cX5_askNext 125 (.aload_n 0) 1 126 := ⟨by decide +kernel, rfl⟩
theorem dX5_askNext_126 : dc cX5_askNext 126 (.getfield 9) 3 129 := ⟨by decide +kernel, rfl⟩
theorem dX5_askNext_129 : dc cX5_askNext 129 (.iload_n 3) 1 130 := ⟨by decide +kernel, rfl⟩
theorem dX5_askNext_130 : dc cX5_askNext 130 (.iload_n 2) 1 131 := ⟨by decide +kernel, rfl⟩
theorem dX5_askNext_131 : dc cX5_askNext 131 (.iastore) 1 132 := ⟨by decide +kernel, rfl⟩
theorem dX5_askNext_132 : dc cX5_askNext 132 (.aload_n 0) 1 133 := ⟨by decide +kernel, rfl⟩
theorem dX5_askNext_133 : dc cX5_askNext 133 (.getfield 9) 3 136 := ⟨by decide +kernel, rfl⟩
theorem dX5_askNext_136 : dc cX5_askNext 136 (.iload_n 2) 1 137 := ⟨by decide +kernel, rfl⟩
theorem dX5_askNext_137 : dc cX5_askNext 137 (.iload_n 3) 1 138 := ⟨by decide +kernel, rfl⟩
theorem dX5_askNext_138 : dc cX5_askNext 138 (.iastore) 1 139 := ⟨by decide +kernel, rfl⟩
theorem dX5_askNext_139 : dc cX5_askNext 139 (.return_) 1 140 := ⟨by decide +kernel, rfl⟩
theorem nm_X5_askNext : (yX5_askNext).cls ≠ "java/lang/invoke/MethodHandle" ∧ (yX5_askNext).cls ≠ "java/lang/invoke/VarHandle" ∧ (parseMethodDescriptor (yX5_askNext).desc).map (fun d => d.parameters.length) = some 2 := ⟨by decide +kernel, by decide +kernel, by decide +kernel⟩
set_option maxRecDepth 100000 in
set_option maxHeartbeats 4000000 in
theorem s_X5_askNext_5 {ad : Nat → Nat} {cy : Nat → ClassId} {x : KX} (G : KG ad cy x cX5_askNext "NoonGuides$Pairing" 6 (some none) 2) {a0 : Nat} {a1 : Nat} {c2 : Int32} {M : KM} (h0 : kty a0 = 6) (h1 : kty a1 = 3) {k73 : Int32 → Option KM} {y : KM} (hk73 : ∀ (u3 : Int32), k73 u3 = some y → KV ad cy x (none, y) 73 [(0, .ref (ad a0)), (1, .ref (ad a1)), (2, .int c2), (3, .int u3)] [] M) : ∀ (n : Nat) (w3 : Int32) (w4 : Int32), lp_X5_askNext_5 n a0 a1 c2 M w3 w4 k73 = some y → KV ad cy x (none, y) 5 [(0, .ref (ad a0)), (1, .ref (ad a1)), (2, .int c2), (3, .int w3), (4, .int w4)] [] M := by
  intro n
  induction n with
  | zero =>
    intro w3 w4 hf
    cases hf
  | succ n ih =>
    intro w3 w4 hf
    rw [lp_X5_askNext_5] at hf
    refine v_iload G dX5_askNext_5 4 rfl ?_
    refine v_aload_n G dX5_askNext_7 1 rfl ?_
    refine gf_2_10 G h1 t_390 (Or.inl rfl) dX5_askNext_8 ?_
    refine v_icmp_ge 73 G dX5_askNext_11 (by decide) (fun h11 => ?_) (fun h11 => ?_)
    · replace hf := (if_pos h11).symm.trans hf
      refine v_sub _ [0, 1, 2, 3] rfl ?_
      exact hk73 w3 hf
    · replace hf := (if_neg h11).symm.trans hf
      refine v_aload_n G dX5_askNext_14 1 rfl ?_
      refine gf_2_5 G h1 t_373 (Or.inl rfl) dX5_askNext_15 ?_
      refine v_iload G dX5_askNext_18 4 rfl ?_
      obtain ⟨g1, hf⟩ := gd_e hf
      refine al_Person G (kf_2_6 h1) g1 dX5_askNext_20 ?_
      refine gf_7_3 G (ke_Person (kf_2_6 h1) (ix_lt g1)) t_314 (Or.inl rfl) dX5_askNext_21 ?_
      obtain ⟨j46, ej46, hf⟩ := lt_j hf
      have hj46 : ∀ (x2 : Int32), j46 x2 = some y → KV ad cy x (none, y) 46 [(0, .ref (ad a0)), (1, .ref (ad a1)), (2, .int c2), (3, .int w3), (4, .int w4)] [.int x2] M := by
        intro x2 hf
        rw [ej46] at hf
        refine v_istore [(5, .int x2), (0, .ref (ad a0)), (1, .ref (ad a1)), (2, .int c2), (3, .int w3), (4, .int w4)] G dX5_askNext_46 (by decide) rfl ?_
        refine v_iload G dX5_askNext_48 0 rfl ?_
        obtain ⟨j67, ej67, hf⟩ := lt_j hf
        have hj67 : ∀ (x3 : Int32), j67 x3 = some y → KV ad cy x (none, y) 67 [(0, .ref (ad a0)), (1, .ref (ad a1)), (2, .int c2), (3, .int x3), (4, .int w4)] [] M := by
          intro x3 hf
          rw [ej67] at hf
          obtain ⟨v4, ev4⟩ : ∃ q : Int32, q = w4 + (1 : Int32) := ⟨_, rfl⟩
          replace hf := lt_e hf ev4
          refine v_iinc v4 [(4, .int v4), (0, .ref (ad a0)), (1, .ref (ad a1)), (2, .int c2), (3, .int x3)] G dX5_askNext_67 4 rfl (by rw [ev4]; rfl) (by decide) rfl ?_
          refine v_goto 5 G dX5_askNext_70 (by decide) ?_
          refine v_sub _ [1, 2, 3, 4, 0] rfl ?_
          exact ih x3 v4 hf
        refine v_if_eq 67 G dX5_askNext_50 (by decide) (fun h7 => ?_) (fun h7 => ?_)
        · replace hf := (if_pos h7).symm.trans hf
          refine v_sub _ [1, 2, 3, 4, 5] rfl ?_
          exact hj67 w3 hf
        · replace hf := (if_neg h7).symm.trans hf
          refine v_aload_n G dX5_askNext_53 2 rfl ?_
          refine v_iload_n G dX5_askNext_54 3 rfl ?_
          refine v_iload G dX5_askNext_55 5 rfl ?_
          refine v_iload_n G dX5_askNext_57 4 rfl ?_
          obtain ⟨v5, hcv5, hf⟩ := bd_e hf
          refine v_callS [.ref (ad a1), .int c2, .int w4, .int w3] G (c_X5_likes n h1 hcv5) t_863 t_864 t_11 t_865 nm_X5_likes (by decide) (by decide) rfl rfl (Nat.le_of_ble_eq_true rfl) dX5_askNext_58 (kv_ri ?_)
          refine v_if_eq 67 G dX5_askNext_61 (by decide) (fun h6 => ?_) (fun h6 => ?_)
          · replace hf := (if_pos h6).symm.trans hf
            refine v_sub _ [1, 2, 3, 4, 5] rfl ?_
            exact hj67 w3 hf
          · replace hf := (if_neg h6).symm.trans hf
            refine v_iload G dX5_askNext_64 5 rfl ?_
            refine v_istore_n [(3, .int w4), (5, .int x2), (0, .ref (ad a0)), (1, .ref (ad a1)), (2, .int c2), (4, .int w4)] G dX5_askNext_66 (by decide) rfl ?_
            refine v_sub _ [2, 3, 4, 0, 5] rfl ?_
            exact hj67 w4 hf
      obtain ⟨j45, ej45, hf⟩ := lt_j hf
      have hj45 : j45 = some y → KV ad cy x (none, y) 45 [(0, .ref (ad a0)), (1, .ref (ad a1)), (2, .int c2), (3, .int w3), (4, .int w4)] [] M := by
        intro hf
        rw [ej45] at hf
        refine v_iconst (0 : Int32) G dX5_askNext_45 (by decide) ?_
        refine v_sub _ [0, 1, 2, 3, 4] rfl ?_
        exact hj46 (0 : Int32) hf
      refine v_if_ne 45 G dX5_askNext_24 (by decide) (fun h10 => ?_) (fun h10 => ?_)
      · replace hf := (if_neg h10).symm.trans hf
        refine v_sub _ [0, 1, 2, 3, 4] rfl ?_
        exact hj45 hf
      · replace hf := (if_pos h10).symm.trans hf
        refine v_aload_n G dX5_askNext_27 0 rfl ?_
        refine gf_5_1 G h0 t_228 (Or.inl rfl) dX5_askNext_28 ?_
        refine v_iload_n G dX5_askNext_31 2 rfl ?_
        obtain ⟨g8, hf⟩ := gd_e hf
        refine al_28 G (kf_5_2 h0) g8 dX5_askNext_32 ?_
        refine v_iconst (1 : Int32) G dX5_askNext_33 (by decide) ?_
        refine v_iload G dX5_askNext_34 4 rfl ?_
        refine v_ishl G dX5_askNext_36 ?_
        refine v_iand G dX5_askNext_37 ?_
        refine v_if_ne 45 G dX5_askNext_38 (by decide) (fun h9 => ?_) (fun h9 => ?_)
        · replace hf := (if_neg h9).symm.trans hf
          refine v_sub _ [0, 1, 2, 3, 4] rfl ?_
          exact hj45 hf
        · replace hf := (if_pos h9).symm.trans hf
          refine v_iconst (1 : Int32) G dX5_askNext_41 (by decide) ?_
          refine v_goto 46 G dX5_askNext_42 (by decide) ?_
          refine v_sub _ [0, 1, 2, 3, 4] rfl ?_
          exact hj46 (1 : Int32) hf
set_option maxRecDepth 100000 in
set_option maxHeartbeats 4000000 in
theorem c_X5_askNext {l : Launch} {ad : Nat → Nat} {cy : Nat → ClassId} {D : va_G} {z : Nat} (n : Nat) {a0 : Nat} {a1 : Nat} {p2 : Int32} {M : KM} {y : KM} (h0 : kty a0 = 6) (h1 : kty a1 = 3) (hf : f_X5_askNext n a0 a1 p2 M = some y) : KC l ad cy D z yX5_askNext cX5_askNext 6 none 2 [.ref (ad a0), .ref (ad a1), .int p2] M (none, y) := by
  refine kv_enter (by decide +kernel) (Nat.le_of_ble_eq_true rfl) ?_
  intro x hl hD hz G
  subst hl hD hz
  unfold f_X5_askNext at hf
  have G : KG ad cy x cX5_askNext "NoonGuides$Pairing" 6 (some none) 2 := G
  show KV ad cy x (none, y) 0 [(0, .ref (ad a0)), (1, .ref (ad a1)), (2, .int p2)] [] M
  refine v_iconst (-1 : Int32) G dX5_askNext_0 (by decide) ?_
  refine v_istore_n [(3, .int (-1 : Int32)), (0, .ref (ad a0)), (1, .ref (ad a1)), (2, .int p2)] G dX5_askNext_1 (by decide) rfl ?_
  refine v_iconst (0 : Int32) G dX5_askNext_2 (by decide) ?_
  refine v_istore [(4, .int (0 : Int32)), (3, .int (-1 : Int32)), (0, .ref (ad a0)), (1, .ref (ad a1)), (2, .int p2)] G dX5_askNext_3 (by decide) rfl ?_
  refine v_sub _ [2, 3, 4, 1, 0] rfl ?_
  refine s_X5_askNext_5 G h0 h1 (fun u12 hf => ?_) n (-1 : Int32) (0 : Int32) hf
  · refine v_iload_n G dX5_askNext_73 3 rfl ?_
    refine v_iconst (-1 : Int32) G dX5_askNext_74 (by decide) ?_
    refine v_icmp_ne 79 G dX5_askNext_75 (by decide) (fun h28 => ?_) (fun h28 => ?_)
    · replace hf := (if_neg h28).symm.trans hf
      refine v_aload_n G dX5_askNext_79 0 rfl ?_
      refine gf_5_1 G h0 t_228 (Or.inl rfl) dX5_askNext_80 ?_
      refine v_iload_n G dX5_askNext_83 2 rfl ?_
      refine v_dup2 G dX5_askNext_84 rfl rfl ?_
      obtain ⟨g13, hf⟩ := gd_e hf
      refine al_28 G (kf_5_2 h0) g13 dX5_askNext_85 ?_
      refine v_iconst (1 : Int32) G dX5_askNext_86 (by decide) ?_
      refine v_iload_n G dX5_askNext_87 3 rfl ?_
      refine v_ishl G dX5_askNext_88 ?_
      refine v_ior G dX5_askNext_89 ?_
      obtain ⟨g14, hf⟩ := gd_e hf
      refine as_28 G (kf_5_2 h0) g14 dX5_askNext_90 ?_
      refine v_nmM (fun M15 eM15 => ?_)
      replace hf := lt_e hf eM15
      refine v_aload_n G dX5_askNext_91 0 rfl ?_
      refine gf_5_0 G h0 t_226 (Or.inl rfl) dX5_askNext_92 ?_
      refine v_iload_n G dX5_askNext_95 3 rfl ?_
      obtain ⟨g16, hf⟩ := gd_e hf
      refine al_28 G (kf_5_1 h0) g16 dX5_askNext_96 ?_
      refine v_nmi (fun v17 ev17 => ?_)
      replace hf := lt_e hf ev17
      refine v_istore [(4, .int v17), (0, .ref (ad a0)), (1, .ref (ad a1)), (2, .int p2), (3, .int u12)] G dX5_askNext_97 (by decide) rfl ?_
      refine v_aload_n G dX5_askNext_99 2 rfl ?_
      refine v_iload_n G dX5_askNext_100 4 rfl ?_
      refine v_iload_n G dX5_askNext_101 3 rfl ?_
      refine v_iload G dX5_askNext_102 0 rfl ?_
      obtain ⟨v18, hcv18, hf⟩ := bd_e hf
      refine v_callS [.ref (ad a1), .int u12, .int p2, .int v17] G (c_X5_likes n h1 hcv18) t_863 t_864 t_11 t_865 nm_X5_likes (by decide) (by decide) rfl rfl (Nat.le_of_ble_eq_true rfl) dX5_askNext_104 (kv_ri ?_)
      refine v_if_ne 111 G dX5_askNext_107 (by decide) (fun h27 => ?_) (fun h27 => ?_)
      · replace hf := (if_neg h27).symm.trans hf
        refine v_iload G dX5_askNext_111 0 rfl ?_
        refine v_iconst (-1 : Int32) G dX5_askNext_113 (by decide) ?_
        obtain ⟨j125, ej125, hf⟩ := lt_j hf
        have hj125 : ∀ (M19 : KM), j125 M19 = some y → KV ad cy x (none, y) 125 [(0, .ref (ad a0)), (2, .int p2), (3, .int u12)] [] M19 := by
          intro M19 hf
          rw [ej125] at hf
          refine v_aload_n G dX5_askNext_125 0 rfl ?_
          refine gf_5_0 G h0 t_226 (Or.inl rfl) dX5_askNext_126 ?_
          refine v_iload_n G dX5_askNext_129 2 rfl ?_
          refine v_iload_n G dX5_askNext_130 1 rfl ?_
          obtain ⟨g20, hf⟩ := gd_e hf
          refine as_28 G (kf_5_1 h0) g20 dX5_askNext_131 ?_
          refine v_nmM (fun M21 eM21 => ?_)
          replace hf := lt_e hf eM21
          refine v_aload_n G dX5_askNext_132 0 rfl ?_
          refine gf_5_0 G h0 t_226 (Or.inl rfl) dX5_askNext_133 ?_
          refine v_iload_n G dX5_askNext_136 1 rfl ?_
          refine v_iload_n G dX5_askNext_137 2 rfl ?_
          obtain ⟨g22, hf⟩ := gd_e hf
          refine as_28 G (kf_5_1 h0) g22 dX5_askNext_138 ?_
          refine v_nmM (fun M23 eM23 => ?_)
          replace hf := lt_e hf eM23
          obtain rfl := Option.some.inj hf
          exact v_vret G dX5_askNext_139
        refine v_icmp_eq 125 G dX5_askNext_114 (by decide) (fun h26 => ?_) (fun h26 => ?_)
        · replace hf := (if_pos h26).symm.trans hf
          refine v_sub _ [1, 3, 4] rfl ?_
          exact hj125 M15 hf
        · replace hf := (if_neg h26).symm.trans hf
          refine v_aload_n G dX5_askNext_117 1 rfl ?_
          refine gf_5_0 G h0 t_226 (Or.inl rfl) dX5_askNext_118 ?_
          refine v_iload G dX5_askNext_121 0 rfl ?_
          refine v_iconst (-1 : Int32) G dX5_askNext_123 (by decide) ?_
          obtain ⟨g24, hf⟩ := gd_e hf
          refine as_28 G (kf_5_1 h0) g24 dX5_askNext_124 ?_
          refine v_nmM (fun M25 eM25 => ?_)
          replace hf := lt_e hf eM25
          refine v_sub _ [1, 3, 4] rfl ?_
          exact hj125 M25 hf
      · replace hf := (if_pos h27).symm.trans hf
        obtain rfl := Option.some.inj hf
        exact v_vret G dX5_askNext_110
    · replace hf := (if_pos h28).symm.trans hf
      obtain rfl := Option.some.inj hf
      exact v_vret G dX5_askNext_78
abbrev cX5_findPairs : ByteArray := prog_7_method_2_code
def yX5_findPairs : MethodName := ⟨RX5, "findPairs", "(LNoonGuides$Land;)V"⟩
theorem dX5_findPairs_0 : dc cX5_findPairs 0 (.iconst 0) 1 1 := ⟨by decide +kernel, rfl⟩
theorem dX5_findPairs_1 : dc cX5_findPairs 1 (.istore_n 2) 1 2 := ⟨by decide +kernel, rfl⟩
theorem dX5_findPairs_2 : dc cX5_findPairs 2 (.iload_n 2) 1 3 := ⟨by decide +kernel, rfl⟩
theorem dX5_findPairs_3 : dc cX5_findPairs 3 (.bipush 8) 2 5 := ⟨by decide +kernel, rfl⟩
theorem dX5_findPairs_5 : dc cX5_findPairs 5 (.if_icmp .ge 23) 3 8 := ⟨by decide +kernel, rfl⟩
theorem dX5_findPairs_8 : dc cX5_findPairs 8 (.aload_n 0) 1 9 := ⟨by decide +kernel, rfl⟩
theorem dX5_findPairs_9 : dc cX5_findPairs 9 (.getfield 9) 3 12 := ⟨by decide +kernel, rfl⟩
theorem dX5_findPairs_12 : dc cX5_findPairs 12 (.iload_n 2) 1 13 := ⟨by decide +kernel, rfl⟩
theorem dX5_findPairs_13 : dc cX5_findPairs 13 (.iconst (-1)) 1 14 := ⟨by decide +kernel, rfl⟩
theorem dX5_findPairs_14 : dc cX5_findPairs 14 (.iastore) 1 15 := ⟨by decide +kernel, rfl⟩
theorem dX5_findPairs_15 : dc cX5_findPairs 15 (.aload_n 0) 1 16 := ⟨by decide +kernel, rfl⟩
theorem dX5_findPairs_16 : dc cX5_findPairs 16 (.getfield 15) 3 19 := ⟨by decide +kernel, rfl⟩
theorem dX5_findPairs_19 : dc cX5_findPairs 19 (.iload_n 2) 1 20 := ⟨by decide +kernel, rfl⟩
theorem dX5_findPairs_20 : dc cX5_findPairs 20 (.iconst 0) 1 21 := ⟨by decide +kernel, rfl⟩
theorem dX5_findPairs_21 : dc cX5_findPairs 21 (.iastore) 1 22 := ⟨by decide +kernel, rfl⟩
theorem dX5_findPairs_22 : dc cX5_findPairs 22 (.iinc 2 1) 3 25 := ⟨by decide +kernel, rfl⟩
theorem dX5_findPairs_25 : dc cX5_findPairs 25 (.goto (-23)) 3 28 := ⟨by decide +kernel, rfl⟩
theorem dX5_findPairs_28 : dc cX5_findPairs 28 (.iconst 0) 1 29 := ⟨by decide +kernel, rfl⟩
theorem dX5_findPairs_29 : dc cX5_findPairs 29 (.istore_n 2) 1 30 := ⟨by decide +kernel, rfl⟩
theorem dX5_findPairs_30 : dc cX5_findPairs 30 (.iload_n 2) 1 31 := ⟨by decide +kernel, rfl⟩
theorem dX5_findPairs_31 : dc cX5_findPairs 31 (.bipush 64) 2 33 := ⟨by decide +kernel, rfl⟩
theorem dX5_findPairs_33 : dc cX5_findPairs 33 (.if_icmp .ge 53) 3 36 := ⟨by decide +kernel, rfl⟩
theorem dX5_findPairs_36 : dc cX5_findPairs 36 (.iconst 0) 1 37 := ⟨by decide +kernel, rfl⟩
theorem dX5_findPairs_37 : dc cX5_findPairs 37 (.istore_n 3) 1 38 := ⟨by decide +kernel, rfl⟩
theorem dX5_findPairs_38 : dc cX5_findPairs 38 (.iload_n 3) 1 39 := ⟨by decide +kernel, rfl⟩
theorem dX5_findPairs_39 : dc cX5_findPairs 39 (.aload_n 1) 1 40 := ⟨by decide +kernel, rfl⟩
theorem dX5_findPairs_40 : dc cX5_findPairs 40 (.getfield 18) 3 43 := ⟨by decide +kernel, rfl⟩
theorem dX5_findPairs_43 : dc cX5_findPairs 43 (.if_icmp .ge 37) 3 46 := ⟨by decide +kernel, rfl⟩
theorem dX5_findPairs_46 : dc cX5_findPairs 46 (.aload_n 1) 1 47 := ⟨by decide +kernel, rfl⟩
theorem dX5_findPairs_47 : dc cX5_findPairs 47 (.getfield 24) 3 50 := ⟨by decide +kernel, rfl⟩
theorem dX5_findPairs_50 : dc cX5_findPairs 50 (.iload_n 3) 1 51 := ⟨by decide +kernel, rfl⟩
theorem dX5_findPairs_51 : dc cX5_findPairs 51 (.aaload) 1 52 := ⟨by decide +kernel, rfl⟩
theorem dX5_findPairs_52 : dc cX5_findPairs 52 (.getfield 28) 3 55 := ⟨by decide +kernel, rfl⟩
theorem dX5_findPairs_55 : dc cX5_findPairs 55 (.ifCond .eq 19) 3 58 := ⟨by decide +kernel, rfl⟩
theorem dX5_findPairs_58 : dc cX5_findPairs 58 (.aload_n 0) 1 59 := ⟨by decide +kernel, rfl⟩
theorem dX5_findPairs_59 : dc cX5_findPairs 59 (.getfield 9) 3 62 := ⟨by decide +kernel, rfl⟩
theorem dX5_findPairs_62 : dc cX5_findPairs 62 (.iload_n 3) 1 63 := ⟨by decide +kernel, rfl⟩
theorem dX5_findPairs_63 : dc cX5_findPairs 63 (.iaload) 1 64 := ⟨by decide +kernel, rfl⟩
theorem dX5_findPairs_64 : dc cX5_findPairs 64 (.iconst (-1)) 1 65 := ⟨by decide +kernel, rfl⟩
theorem dX5_findPairs_65 : dc cX5_findPairs 65 (.if_icmp .ne 9) 3 68 := ⟨by decide +kernel, rfl⟩
theorem dX5_findPairs_68 : dc cX5_findPairs 68 (.aload_n 0) 1 69 := ⟨by decide +kernel, rfl⟩
theorem dX5_findPairs_69 : dc cX5_findPairs 69 (.aload_n 1) 1 70 := ⟨by decide +kernel, rfl⟩
theorem dX5_findPairs_70 : dc cX5_findPairs 70 (.iload_n 3) 1 71 := ⟨by decide +kernel, rfl⟩
theorem dX5_findPairs_71 : dc cX5_findPairs 71 (.invokevirtual 34) 3 74 := ⟨by decide +kernel, rfl⟩
theorem dX5_findPairs_74 : dc cX5_findPairs 74 (.iinc 3 1) 3 77 := ⟨by decide +kernel, rfl⟩
theorem dX5_findPairs_77 : dc cX5_findPairs 77 (.goto (-39)) 3 80 := ⟨by decide +kernel, rfl⟩
theorem dX5_findPairs_80 : dc cX5_findPairs 80 (.iinc 2 1) 3 83 := ⟨by decide +kernel, rfl⟩
theorem dX5_findPairs_83 : dc cX5_findPairs 83 (.goto (-53)) 3 86 := ⟨by decide +kernel, rfl⟩
theorem dX5_findPairs_86 : dc cX5_findPairs 86 (.return_) 1 87 := ⟨by decide +kernel, rfl⟩
theorem nm_X5_findPairs : (yX5_findPairs).cls ≠ "java/lang/invoke/MethodHandle" ∧ (yX5_findPairs).cls ≠ "java/lang/invoke/VarHandle" ∧ (parseMethodDescriptor (yX5_findPairs).desc).map (fun d => d.parameters.length) = some 1 := ⟨by decide +kernel, by decide +kernel, by decide +kernel⟩
set_option maxRecDepth 100000 in
set_option maxHeartbeats 4000000 in
theorem s_X5_findPairs_2 {ad : Nat → Nat} {cy : Nat → ClassId} {x : KX} (G : KG ad cy x cX5_findPairs "NoonGuides$Pairing" 4 (some none) 3) {a0 : Nat} {a1 : Nat} (h0 : kty a0 = 6) (h1 : kty a1 = 3) {k28 : KM → Option KM} {y : KM} (hk28 : ∀ (M : KM), k28 M = some y → KV ad cy x (none, y) 28 [(0, .ref (ad a0)), (1, .ref (ad a1))] [] M) : ∀ (n : Nat) (w2 : Int32) (M : KM), lp_X5_findPairs_2 n a0 a1 w2 M k28 = some y → KV ad cy x (none, y) 2 [(0, .ref (ad a0)), (1, .ref (ad a1)), (2, .int w2)] [] M := by
  intro n
  induction n with
  | zero =>
    intro w2 M hf
    cases hf
  | succ n ih =>
    intro w2 M hf
    rw [lp_X5_findPairs_2] at hf
    refine v_iload_n G dX5_findPairs_2 2 rfl ?_
    refine v_bipush (8 : Int32) G dX5_findPairs_3 (by decide) ?_
    refine v_icmp_ge 28 G dX5_findPairs_5 (by decide) (fun h6 => ?_) (fun h6 => ?_)
    · replace hf := (if_pos h6).symm.trans hf
      refine v_sub _ [0, 1] rfl ?_
      exact hk28 M hf
    · replace hf := (if_neg h6).symm.trans hf
      refine v_aload_n G dX5_findPairs_8 0 rfl ?_
      refine gf_5_0 G h0 t_226 (Or.inl rfl) dX5_findPairs_9 ?_
      refine v_iload_n G dX5_findPairs_12 2 rfl ?_
      refine v_iconst (-1 : Int32) G dX5_findPairs_13 (by decide) ?_
      obtain ⟨g1, hf⟩ := gd_e hf
      refine as_28 G (kf_5_1 h0) g1 dX5_findPairs_14 ?_
      refine v_nmM (fun M2 eM2 => ?_)
      replace hf := lt_e hf eM2
      refine v_aload_n G dX5_findPairs_15 0 rfl ?_
      refine gf_5_1 G h0 t_228 (Or.inl rfl) dX5_findPairs_16 ?_
      refine v_iload_n G dX5_findPairs_19 2 rfl ?_
      refine v_iconst (0 : Int32) G dX5_findPairs_20 (by decide) ?_
      obtain ⟨g3, hf⟩ := gd_e hf
      refine as_28 G (kf_5_2 h0) g3 dX5_findPairs_21 ?_
      refine v_nmM (fun M4 eM4 => ?_)
      replace hf := lt_e hf eM4
      obtain ⟨v5, ev5⟩ : ∃ q : Int32, q = w2 + (1 : Int32) := ⟨_, rfl⟩
      replace hf := lt_e hf ev5
      refine v_iinc v5 [(2, .int v5), (0, .ref (ad a0)), (1, .ref (ad a1))] G dX5_findPairs_22 2 rfl (by rw [ev5]; rfl) (by decide) rfl ?_
      refine v_goto 2 G dX5_findPairs_25 (by decide) ?_
      refine v_sub _ [1, 2, 0] rfl ?_
      exact ih v5 M4 hf
set_option maxRecDepth 100000 in
set_option maxHeartbeats 4000000 in
theorem s_X5_findPairs_38 {ad : Nat → Nat} {cy : Nat → ClassId} {x : KX} (G : KG ad cy x cX5_findPairs "NoonGuides$Pairing" 4 (some none) 3) {a0 : Nat} {a1 : Nat} {c2 : Int32} (h0 : kty a0 = 6) (h1 : kty a1 = 3) {k80 : KM → Option KM} {y : KM} (hk80 : ∀ (M : KM), k80 M = some y → KV ad cy x (none, y) 80 [(0, .ref (ad a0)), (1, .ref (ad a1)), (2, .int c2)] [] M) : ∀ (n : Nat) (w3 : Int32) (M : KM), lp_X5_findPairs_38 n a0 a1 c2 w3 M k80 = some y → KV ad cy x (none, y) 38 [(0, .ref (ad a0)), (1, .ref (ad a1)), (2, .int c2), (3, .int w3)] [] M := by
  intro n
  induction n with
  | zero =>
    intro w3 M hf
    cases hf
  | succ n ih =>
    intro w3 M hf
    rw [lp_X5_findPairs_38] at hf
    refine v_iload_n G dX5_findPairs_38 3 rfl ?_
    refine v_aload_n G dX5_findPairs_39 1 rfl ?_
    refine gf_2_10 G h1 t_390 (Or.inl rfl) dX5_findPairs_40 ?_
    refine v_icmp_ge 80 G dX5_findPairs_43 (by decide) (fun h15 => ?_) (fun h15 => ?_)
    · replace hf := (if_pos h15).symm.trans hf
      refine v_sub _ [0, 1, 2] rfl ?_
      exact hk80 M hf
    · replace hf := (if_neg h15).symm.trans hf
      refine v_aload_n G dX5_findPairs_46 1 rfl ?_
      refine gf_2_5 G h1 t_373 (Or.inl rfl) dX5_findPairs_47 ?_
      refine v_iload_n G dX5_findPairs_50 3 rfl ?_
      obtain ⟨g8, hf⟩ := gd_e hf
      refine al_Person G (kf_2_6 h1) g8 dX5_findPairs_51 ?_
      refine gf_7_3 G (ke_Person (kf_2_6 h1) (ix_lt g8)) t_314 (Or.inl rfl) dX5_findPairs_52 ?_
      obtain ⟨j74, ej74, hf⟩ := lt_j hf
      have hj74 : ∀ (M9 : KM), j74 M9 = some y → KV ad cy x (none, y) 74 [(0, .ref (ad a0)), (1, .ref (ad a1)), (2, .int c2), (3, .int w3)] [] M9 := by
        intro M9 hf
        rw [ej74] at hf
        obtain ⟨v10, ev10⟩ : ∃ q : Int32, q = w3 + (1 : Int32) := ⟨_, rfl⟩
        replace hf := lt_e hf ev10
        refine v_iinc v10 [(3, .int v10), (0, .ref (ad a0)), (1, .ref (ad a1)), (2, .int c2)] G dX5_findPairs_74 3 rfl (by rw [ev10]; rfl) (by decide) rfl ?_
        refine v_goto 38 G dX5_findPairs_77 (by decide) ?_
        refine v_sub _ [1, 2, 3, 0] rfl ?_
        exact ih v10 M9 hf
      refine v_if_eq 74 G dX5_findPairs_55 (by decide) (fun h14 => ?_) (fun h14 => ?_)
      · replace hf := (if_pos h14).symm.trans hf
        refine v_sub _ [0, 1, 2, 3] rfl ?_
        exact hj74 M hf
      · replace hf := (if_neg h14).symm.trans hf
        refine v_aload_n G dX5_findPairs_58 0 rfl ?_
        refine gf_5_0 G h0 t_226 (Or.inl rfl) dX5_findPairs_59 ?_
        refine v_iload_n G dX5_findPairs_62 3 rfl ?_
        obtain ⟨g11, hf⟩ := gd_e hf
        refine al_28 G (kf_5_1 h0) g11 dX5_findPairs_63 ?_
        refine v_iconst (-1 : Int32) G dX5_findPairs_64 (by decide) ?_
        refine v_icmp_ne 74 G dX5_findPairs_65 (by decide) (fun h13 => ?_) (fun h13 => ?_)
        · replace hf := (if_neg h13).symm.trans hf
          refine v_sub _ [0, 1, 2, 3] rfl ?_
          exact hj74 M hf
        · replace hf := (if_pos h13).symm.trans hf
          refine v_aload_n G dX5_findPairs_68 0 rfl ?_
          refine v_aload_n G dX5_findPairs_69 1 rfl ?_
          refine v_iload_n G dX5_findPairs_70 3 rfl ?_
          obtain ⟨v12, hcv12, hf⟩ := bd_e hf
          refine v_callV [.ref (ad a1), .int w3] G (c_X5_askNext n h0 h1 hcv12) h0 (by decide) rfl rfl rfl t_859 t_861 t_p22 t_11 t_862 nm_X5_askNext (by decide) (by decide) rfl rfl (Nat.le_of_ble_eq_true rfl) dX5_findPairs_71 (kv_rv ?_)
          refine v_sub _ [0, 1, 2, 3] rfl ?_
          exact hj74 v12 hf
set_option maxRecDepth 100000 in
set_option maxHeartbeats 4000000 in
theorem s_X5_findPairs_30 {ad : Nat → Nat} {cy : Nat → ClassId} {x : KX} (G : KG ad cy x cX5_findPairs "NoonGuides$Pairing" 4 (some none) 3) {a0 : Nat} {a1 : Nat} (h0 : kty a0 = 6) (h1 : kty a1 = 3) {y : KM} : ∀ (n : Nat) (w2 : Int32) (M : KM), lp_X5_findPairs_30 n a0 a1 w2 M = some y → KV ad cy x (none, y) 30 [(0, .ref (ad a0)), (1, .ref (ad a1)), (2, .int w2)] [] M := by
  intro n
  induction n with
  | zero =>
    intro w2 M hf
    cases hf
  | succ n ih =>
    intro w2 M hf
    rw [lp_X5_findPairs_30] at hf
    refine v_iload_n G dX5_findPairs_30 2 rfl ?_
    refine v_bipush (64 : Int32) G dX5_findPairs_31 (by decide) ?_
    refine v_icmp_ge 86 G dX5_findPairs_33 (by decide) (fun h18 => ?_) (fun h18 => ?_)
    · replace hf := (if_pos h18).symm.trans hf
      obtain rfl := Option.some.inj hf
      exact v_vret G dX5_findPairs_86
    · replace hf := (if_neg h18).symm.trans hf
      refine v_iconst (0 : Int32) G dX5_findPairs_36 (by decide) ?_
      refine v_istore_n [(3, .int (0 : Int32)), (0, .ref (ad a0)), (1, .ref (ad a1)), (2, .int w2)] G dX5_findPairs_37 (by decide) rfl ?_
      refine v_sub _ [1, 2, 3, 0] rfl ?_
      refine s_X5_findPairs_38 G h0 h1 (fun M16 hf => ?_) n (0 : Int32) M hf
      · obtain ⟨v17, ev17⟩ : ∃ q : Int32, q = w2 + (1 : Int32) := ⟨_, rfl⟩
        replace hf := lt_e hf ev17
        refine v_iinc v17 [(2, .int v17), (0, .ref (ad a0)), (1, .ref (ad a1))] G dX5_findPairs_80 2 rfl (by rw [ev17]; rfl) (by decide) rfl ?_
        refine v_goto 30 G dX5_findPairs_83 (by decide) ?_
        refine v_sub _ [1, 2, 0] rfl ?_
        exact ih v17 M16 hf
set_option maxRecDepth 100000 in
set_option maxHeartbeats 4000000 in
theorem c_X5_findPairs {l : Launch} {ad : Nat → Nat} {cy : Nat → ClassId} {D : va_G} {z : Nat} (n : Nat) {a0 : Nat} {a1 : Nat} {M : KM} {y : KM} (h0 : kty a0 = 6) (h1 : kty a1 = 3) (hf : f_X5_findPairs n a0 a1 M = some y) : KC l ad cy D z yX5_findPairs cX5_findPairs 4 none 3 [.ref (ad a0), .ref (ad a1)] M (none, y) := by
  refine kv_enter (by decide +kernel) (Nat.le_of_ble_eq_true rfl) ?_
  intro x hl hD hz G
  subst hl hD hz
  unfold f_X5_findPairs at hf
  have G : KG ad cy x cX5_findPairs "NoonGuides$Pairing" 4 (some none) 3 := G
  show KV ad cy x (none, y) 0 [(0, .ref (ad a0)), (1, .ref (ad a1))] [] M
  refine v_iconst (0 : Int32) G dX5_findPairs_0 (by decide) ?_
  refine v_istore_n [(2, .int (0 : Int32)), (0, .ref (ad a0)), (1, .ref (ad a1))] G dX5_findPairs_1 (by decide) rfl ?_
  refine v_sub _ [1, 2, 0] rfl ?_
  refine s_X5_findPairs_2 G h0 h1 (fun M7 hf => ?_) n (0 : Int32) M hf
  · refine v_iconst (0 : Int32) G dX5_findPairs_28 (by decide) ?_
    refine v_istore_n [(2, .int (0 : Int32)), (0, .ref (ad a0)), (1, .ref (ad a1))] G dX5_findPairs_29 (by decide) rfl ?_
    refine v_sub _ [1, 2, 0] rfl ?_
    refine s_X5_findPairs_30 G h0 h1 n (0 : Int32) M7 hf
abbrev cX5_countPairs : ByteArray := prog_7_method_5_code
def yX5_countPairs : MethodName := ⟨RX5, "countPairs", "(LNoonGuides$Land;)I"⟩
theorem dX5_countPairs_0 : dc cX5_countPairs 0 (.iconst 0) 1 1 := ⟨by decide +kernel, rfl⟩
theorem dX5_countPairs_1 : dc cX5_countPairs 1 (.istore_n 2) 1 2 := ⟨by decide +kernel, rfl⟩
theorem dX5_countPairs_2 : dc cX5_countPairs 2 (.iconst 0) 1 3 := ⟨by decide +kernel, rfl⟩
theorem dX5_countPairs_3 : dc cX5_countPairs 3 (.istore_n 3) 1 4 := ⟨by decide +kernel, rfl⟩
theorem dX5_countPairs_4 : dc cX5_countPairs 4 (.iload_n 3) 1 5 := ⟨by decide +kernel, rfl⟩
theorem dX5_countPairs_5 : dc cX5_countPairs 5 (.aload_n 1) 1 6 := ⟨by decide +kernel, rfl⟩
theorem dX5_countPairs_6 : dc cX5_countPairs 6 (.getfield 18) 3 9 := ⟨by decide +kernel, rfl⟩
theorem dX5_countPairs_9 : dc cX5_countPairs 9 (.if_icmp .ge 39) 3 12 := ⟨by decide +kernel, rfl⟩
theorem dX5_countPairs_12 : dc cX5_countPairs 12 (.iload_n 2) 1 13 := ⟨by decide +kernel, rfl⟩
theorem dX5_countPairs_13 : dc cX5_countPairs 13 (.aload_n 1) 1 14 := ⟨by decide +kernel, rfl⟩
theorem dX5_countPairs_14 : dc cX5_countPairs 14 (.getfield 24) 3 17 := ⟨by decide +kernel, rfl⟩
theorem dX5_countPairs_17 : dc cX5_countPairs 17 (.iload_n 3) 1 18 := ⟨by decide +kernel, rfl⟩
theorem dX5_countPairs_18 : dc cX5_countPairs 18 (.aaload) 1 19 := ⟨by decide +kernel, rfl⟩
theorem dX5_countPairs_19 : dc cX5_countPairs 19 (.getfield 28) 3 22 := ⟨by decide +kernel, rfl⟩
theorem dX5_countPairs_22 : dc cX5_countPairs 22 (.ifCond .eq 17) 3 25 := ⟨by decide +kernel, rfl⟩
theorem dX5_countPairs_25 : dc cX5_countPairs 25 (.aload_n 0) 1 26 := ⟨by decide +kernel, rfl⟩
theorem dX5_countPairs_26 : dc cX5_countPairs 26 (.getfield 9) 3 29 := ⟨by decide +kernel, rfl⟩
theorem dX5_countPairs_29 : dc cX5_countPairs 29 (.iload_n 3) 1 30 := ⟨by decide +kernel, rfl⟩
theorem dX5_countPairs_30 : dc cX5_countPairs 30 (.iaload) 1 31 := ⟨by decide +kernel, rfl⟩
theorem dX5_countPairs_31 : dc cX5_countPairs 31 (.iconst (-1)) 1 32 := ⟨by decide +kernel, rfl⟩
theorem dX5_countPairs_32 : dc cX5_countPairs 32 (.if_icmp .eq 7) 3 35 := ⟨by decide +kernel, rfl⟩
theorem dX5_countPairs_35 : dc cX5_countPairs 35 (.iconst 1) 1 36 := ⟨by decide +kernel, rfl⟩
theorem dX5_countPairs_36 : dc cX5_countPairs 36 (.goto 4) 3 39 := ⟨by decide +kernel, rfl⟩
theorem dX5_countPairs_39 : dc cX5_countPairs 39 (.iconst 0) 1 40 := ⟨by decide +kernel, rfl⟩
theorem dX5_countPairs_40 : dc cX5_countPairs 40 (.iadd) 1 41 := ⟨by decide +kernel, rfl⟩
theorem dX5_countPairs_41 : dc cX5_countPairs 41 (.istore_n 2) 1 42 := ⟨by decide +kernel, rfl⟩
theorem dX5_countPairs_42 : dc cX5_countPairs 42 (.iinc 3 1) 3 45 := ⟨by decide +kernel, rfl⟩
theorem dX5_countPairs_45 : dc cX5_countPairs 45 (.goto (-41)) 3 48 := ⟨by decide +kernel, rfl⟩
theorem dX5_countPairs_48 : dc cX5_countPairs 48 (.iload_n 2) 1 49 := ⟨by decide +kernel, rfl⟩
theorem dX5_countPairs_49 : dc cX5_countPairs 49 (.ireturn) 1 50 := ⟨by decide +kernel, rfl⟩
theorem nm_X5_countPairs : (yX5_countPairs).cls ≠ "java/lang/invoke/MethodHandle" ∧ (yX5_countPairs).cls ≠ "java/lang/invoke/VarHandle" ∧ (parseMethodDescriptor (yX5_countPairs).desc).map (fun d => d.parameters.length) = some 1 := ⟨by decide +kernel, by decide +kernel, by decide +kernel⟩
set_option maxRecDepth 100000 in
set_option maxHeartbeats 4000000 in
theorem s_X5_countPairs_4 {ad : Nat → Nat} {cy : Nat → ClassId} {x : KX} (G : KG ad cy x cX5_countPairs "NoonGuides$Pairing" 4 (some (some .int)) 1) {a0 : Nat} {a1 : Nat} {M : KM} (h0 : kty a0 = 6) (h1 : kty a1 = 3) {y : Int32} : ∀ (n : Nat) (w2 : Int32) (w3 : Int32), lp_X5_countPairs_4 n a0 a1 M w2 w3 = some y → KV ad cy x (some (.int y), M) 4 [(0, .ref (ad a0)), (1, .ref (ad a1)), (2, .int w2), (3, .int w3)] [] M := by
  intro n
  induction n with
  | zero =>
    intro w2 w3 hf
    cases hf
  | succ n ih =>
    intro w2 w3 hf
    rw [lp_X5_countPairs_4] at hf
    refine v_iload_n G dX5_countPairs_4 3 rfl ?_
    refine v_aload_n G dX5_countPairs_5 1 rfl ?_
    refine gf_2_10 G h1 t_390 (Or.inl rfl) dX5_countPairs_6 ?_
    refine v_icmp_ge 48 G dX5_countPairs_9 (by decide) (fun h8 => ?_) (fun h8 => ?_)
    · replace hf := (if_pos h8).symm.trans hf
      refine v_iload_n G dX5_countPairs_48 2 rfl ?_
      obtain rfl := Option.some.inj hf
      exact v_iret G dX5_countPairs_49
    · replace hf := (if_neg h8).symm.trans hf
      refine v_iload_n G dX5_countPairs_12 2 rfl ?_
      refine v_aload_n G dX5_countPairs_13 1 rfl ?_
      refine gf_2_5 G h1 t_373 (Or.inl rfl) dX5_countPairs_14 ?_
      refine v_iload_n G dX5_countPairs_17 3 rfl ?_
      obtain ⟨g1, hf⟩ := gd_e hf
      refine al_Person G (kf_2_6 h1) g1 dX5_countPairs_18 ?_
      refine gf_7_3 G (ke_Person (kf_2_6 h1) (ix_lt g1)) t_314 (Or.inl rfl) dX5_countPairs_19 ?_
      obtain ⟨j40, ej40, hf⟩ := lt_j hf
      have hj40 : ∀ (x2 : Int32), j40 x2 = some y → KV ad cy x (some (.int y), M) 40 [(0, .ref (ad a0)), (1, .ref (ad a1)), (3, .int w3)] [.int x2, .int w2] M := by
        intro x2 hf
        rw [ej40] at hf
        refine v_iadd G dX5_countPairs_40 ?_
        refine v_nmi (fun v3 ev3 => ?_)
        replace hf := lt_e hf ev3
        refine v_istore_n [(2, .int v3), (0, .ref (ad a0)), (1, .ref (ad a1)), (3, .int w3)] G dX5_countPairs_41 (by decide) rfl ?_
        obtain ⟨v4, ev4⟩ : ∃ q : Int32, q = w3 + (1 : Int32) := ⟨_, rfl⟩
        replace hf := lt_e hf ev4
        refine v_iinc v4 [(3, .int v4), (2, .int v3), (0, .ref (ad a0)), (1, .ref (ad a1))] G dX5_countPairs_42 3 rfl (by rw [ev4]; rfl) (by decide) rfl ?_
        refine v_goto 4 G dX5_countPairs_45 (by decide) ?_
        refine v_sub _ [2, 3, 1, 0] rfl ?_
        exact ih v3 v4 hf
      obtain ⟨j39, ej39, hf⟩ := lt_j hf
      have hj39 : j39 = some y → KV ad cy x (some (.int y), M) 39 [(0, .ref (ad a0)), (1, .ref (ad a1)), (3, .int w3)] [.int w2] M := by
        intro hf
        rw [ej39] at hf
        refine v_iconst (0 : Int32) G dX5_countPairs_39 (by decide) ?_
        refine v_sub _ [0, 1, 2] rfl ?_
        exact hj40 (0 : Int32) hf
      refine v_if_eq 39 G dX5_countPairs_22 (by decide) (fun h7 => ?_) (fun h7 => ?_)
      · replace hf := (if_pos h7).symm.trans hf
        refine v_sub _ [0, 1, 3] rfl ?_
        exact hj39 hf
      · replace hf := (if_neg h7).symm.trans hf
        refine v_aload_n G dX5_countPairs_25 0 rfl ?_
        refine gf_5_0 G h0 t_226 (Or.inl rfl) dX5_countPairs_26 ?_
        refine v_iload_n G dX5_countPairs_29 3 rfl ?_
        obtain ⟨g5, hf⟩ := gd_e hf
        refine al_28 G (kf_5_1 h0) g5 dX5_countPairs_30 ?_
        refine v_iconst (-1 : Int32) G dX5_countPairs_31 (by decide) ?_
        refine v_icmp_eq 39 G dX5_countPairs_32 (by decide) (fun h6 => ?_) (fun h6 => ?_)
        · replace hf := (if_pos h6).symm.trans hf
          refine v_sub _ [0, 1, 3] rfl ?_
          exact hj39 hf
        · replace hf := (if_neg h6).symm.trans hf
          refine v_iconst (1 : Int32) G dX5_countPairs_35 (by decide) ?_
          refine v_goto 40 G dX5_countPairs_36 (by decide) ?_
          refine v_sub _ [0, 1, 3] rfl ?_
          exact hj40 (1 : Int32) hf
set_option maxRecDepth 100000 in
set_option maxHeartbeats 4000000 in
theorem c_X5_countPairs {l : Launch} {ad : Nat → Nat} {cy : Nat → ClassId} {D : va_G} {z : Nat} (n : Nat) {a0 : Nat} {a1 : Nat} {M : KM} {y : Int32} (h0 : kty a0 = 6) (h1 : kty a1 = 3) (hf : f_X5_countPairs n a0 a1 M = some y) : KC l ad cy D z yX5_countPairs cX5_countPairs 4 (some .int) 1 [.ref (ad a0), .ref (ad a1)] M (some (.int y), M) := by
  refine kv_enter (by decide +kernel) (Nat.le_of_ble_eq_true rfl) ?_
  intro x hl hD hz G
  subst hl hD hz
  unfold f_X5_countPairs at hf
  have G : KG ad cy x cX5_countPairs "NoonGuides$Pairing" 4 (some (some .int)) 1 := G
  show KV ad cy x (some (.int y), M) 0 [(0, .ref (ad a0)), (1, .ref (ad a1))] [] M
  refine v_iconst (0 : Int32) G dX5_countPairs_0 (by decide) ?_
  refine v_istore_n [(2, .int (0 : Int32)), (0, .ref (ad a0)), (1, .ref (ad a1))] G dX5_countPairs_1 (by decide) rfl ?_
  refine v_iconst (0 : Int32) G dX5_countPairs_2 (by decide) ?_
  refine v_istore_n [(3, .int (0 : Int32)), (2, .int (0 : Int32)), (0, .ref (ad a0)), (1, .ref (ad a1))] G dX5_countPairs_3 (by decide) rfl ?_
  refine v_sub _ [2, 3, 1, 0] rfl ?_
  refine s_X5_countPairs_4 G h0 h1 n (0 : Int32) (0 : Int32) hf
abbrev cX5_sumOwed : ByteArray := prog_7_method_6_code
def yX5_sumOwed : MethodName := ⟨RX5, "sumOwed", "(LNoonGuides$Land;)I"⟩
theorem dX5_sumOwed_0 : dc cX5_sumOwed 0 (.iconst 0) 1 1 := ⟨by decide +kernel, rfl⟩
theorem dX5_sumOwed_1 : dc cX5_sumOwed 1 (.istore_n 2) 1 2 := ⟨by decide +kernel, rfl⟩
theorem dX5_sumOwed_2 : dc cX5_sumOwed 2 (.iconst 0) 1 3 := ⟨by decide +kernel, rfl⟩
theorem dX5_sumOwed_3 : dc cX5_sumOwed 3 (.istore_n 3) 1 4 := ⟨by decide +kernel, rfl⟩
theorem dX5_sumOwed_4 : dc cX5_sumOwed 4 (.iload_n 3) 1 5 := ⟨by decide +kernel, rfl⟩
theorem dX5_sumOwed_5 : dc cX5_sumOwed 5 (.aload_n 1) 1 6 := ⟨by decide +kernel, rfl⟩
theorem dX5_sumOwed_6 : dc cX5_sumOwed 6 (.getfield 18) 3 9 := ⟨by decide +kernel, rfl⟩
theorem dX5_sumOwed_9 : dc cX5_sumOwed 9 (.if_icmp .ge 53) 3 12 := ⟨by decide +kernel, rfl⟩
theorem dX5_sumOwed_12 : dc cX5_sumOwed 12 (.aload_n 1) 1 13 := ⟨by decide +kernel, rfl⟩
theorem dX5_sumOwed_13 : dc cX5_sumOwed 13 (.getfield 24) 3 16 := ⟨by decide +kernel, rfl⟩
theorem dX5_sumOwed_16 : dc cX5_sumOwed 16 (.iload_n 3) 1 17 := ⟨by decide +kernel, rfl⟩
theorem dX5_sumOwed_17 : dc cX5_sumOwed 17 (.aaload) 1 18 := ⟨by decide +kernel, rfl⟩
theorem dX5_sumOwed_18 : dc cX5_sumOwed 18 (.getfield 28) 3 21 := ⟨by decide +kernel, rfl⟩
theorem dX5_sumOwed_21 : dc cX5_sumOwed 21 (.ifCond .eq 35) 3 24 := ⟨by decide +kernel, rfl⟩
theorem dX5_sumOwed_24 : dc cX5_sumOwed 24 (.aload_n 0) 1 25 := ⟨by decide +kernel, rfl⟩
theorem dX5_sumOwed_25 : dc cX5_sumOwed 25 (.getfield 9) 3 28 := ⟨by decide +kernel, rfl⟩
theorem dX5_sumOwed_28 : dc cX5_sumOwed 28 (.iload_n 3) 1 29 := ⟨by decide +kernel, rfl⟩
theorem dX5_sumOwed_29 : dc cX5_sumOwed 29 (.iaload) 1 30 := ⟨by decide +kernel, rfl⟩
theorem dX5_sumOwed_30 : dc cX5_sumOwed 30 (.iconst (-1)) 1 31 := ⟨by decide +kernel, rfl⟩
theorem dX5_sumOwed_31 : dc cX5_sumOwed 31 (.if_icmp .eq 25) 3 34 := ⟨by decide +kernel, rfl⟩
theorem dX5_sumOwed_34 : dc cX5_sumOwed 34 (.iload_n 2) 1 35 := ⟨by decide +kernel, rfl⟩
theorem dX5_sumOwed_35 : dc cX5_sumOwed 35 (.aload_n 1) 1 36 := ⟨by decide +kernel, rfl⟩
theorem dX5_sumOwed_36 : dc cX5_sumOwed 36 (.getfield 24) 3 39 := ⟨by decide +kernel, rfl⟩
theorem dX5_sumOwed_39 : dc cX5_sumOwed 39 (.iload_n 3) 1 40 := ⟨by decide +kernel, rfl⟩
theorem dX5_sumOwed_40 : dc cX5_sumOwed 40 (.aaload) 1 41 := ⟨by decide +kernel, rfl⟩
theorem dX5_sumOwed_41 : dc cX5_sumOwed 41 (.getfield 42) 3 44 := ⟨by decide +kernel, rfl⟩
theorem dX5_sumOwed_44 : dc cX5_sumOwed 44 (.aload_n 0) 1 45 := ⟨by decide +kernel, rfl⟩
theorem dX5_sumOwed_45 : dc cX5_sumOwed 45 (.getfield 9) 3 48 := ⟨by decide +kernel, rfl⟩
theorem dX5_sumOwed_48 : dc cX5_sumOwed 48 (.iload_n 3) 1 49 := ⟨by decide +kernel, rfl⟩
theorem dX5_sumOwed_49 : dc cX5_sumOwed 49 (.iaload) 1 50 := ⟨by decide +kernel, rfl⟩
theorem dX5_sumOwed_50 : dc cX5_sumOwed 50 (.iaload) 1 51 := ⟨by decide +kernel, rfl⟩
theorem dX5_sumOwed_51 : dc cX5_sumOwed 51 (.invokestatic 45) 3 54 := ⟨by decide +kernel, rfl⟩
theorem dX5_sumOwed_54 : dc cX5_sumOwed 54 (.iadd) 1 55 := ⟨by decide +kernel, rfl⟩
theorem dX5_sumOwed_55 : dc cX5_sumOwed 55 (.istore_n 2) 1 56 := ⟨by decide +kernel, rfl⟩
theorem dX5_sumOwed_56 : dc cX5_sumOwed 56 (.iinc 3 1) 3 59 := ⟨by decide +kernel, rfl⟩
theorem dX5_sumOwed_59 : dc cX5_sumOwed 59 (.goto (-55)) 3 62 := ⟨by decide +kernel, rfl⟩
theorem dX5_sumOwed_62 : dc cX5_sumOwed 62 (.iload_n 2) 1 63 := ⟨by decide +kernel, rfl⟩
theorem dX5_sumOwed_63 : dc cX5_sumOwed 63 (.ireturn) 1 64 := ⟨by decide +kernel, rfl⟩
theorem nm_X5_sumOwed : (yX5_sumOwed).cls ≠ "java/lang/invoke/MethodHandle" ∧ (yX5_sumOwed).cls ≠ "java/lang/invoke/VarHandle" ∧ (parseMethodDescriptor (yX5_sumOwed).desc).map (fun d => d.parameters.length) = some 1 := ⟨by decide +kernel, by decide +kernel, by decide +kernel⟩
set_option maxRecDepth 100000 in
set_option maxHeartbeats 4000000 in
theorem s_X5_sumOwed_4 {ad : Nat → Nat} {cy : Nat → ClassId} {x : KX} (G : KG ad cy x cX5_sumOwed "NoonGuides$Pairing" 4 (some (some .int)) 1) {a0 : Nat} {a1 : Nat} {M : KM} (h0 : kty a0 = 6) (h1 : kty a1 = 3) {y : Int32} : ∀ (n : Nat) (w2 : Int32) (w3 : Int32), lp_X5_sumOwed_4 n a0 a1 M w2 w3 = some y → KV ad cy x (some (.int y), M) 4 [(0, .ref (ad a0)), (1, .ref (ad a1)), (2, .int w2), (3, .int w3)] [] M := by
  intro n
  induction n with
  | zero =>
    intro w2 w3 hf
    cases hf
  | succ n ih =>
    intro w2 w3 hf
    rw [lp_X5_sumOwed_4] at hf
    refine v_iload_n G dX5_sumOwed_4 3 rfl ?_
    refine v_aload_n G dX5_sumOwed_5 1 rfl ?_
    refine gf_2_10 G h1 t_390 (Or.inl rfl) dX5_sumOwed_6 ?_
    refine v_icmp_ge 62 G dX5_sumOwed_9 (by decide) (fun h12 => ?_) (fun h12 => ?_)
    · replace hf := (if_pos h12).symm.trans hf
      refine v_iload_n G dX5_sumOwed_62 2 rfl ?_
      obtain rfl := Option.some.inj hf
      exact v_iret G dX5_sumOwed_63
    · replace hf := (if_neg h12).symm.trans hf
      refine v_aload_n G dX5_sumOwed_12 1 rfl ?_
      refine gf_2_5 G h1 t_373 (Or.inl rfl) dX5_sumOwed_13 ?_
      refine v_iload_n G dX5_sumOwed_16 3 rfl ?_
      obtain ⟨g1, hf⟩ := gd_e hf
      refine al_Person G (kf_2_6 h1) g1 dX5_sumOwed_17 ?_
      refine gf_7_3 G (ke_Person (kf_2_6 h1) (ix_lt g1)) t_314 (Or.inl rfl) dX5_sumOwed_18 ?_
      obtain ⟨j56, ej56, hf⟩ := lt_j hf
      have hj56 : ∀ (x2 : Int32), j56 x2 = some y → KV ad cy x (some (.int y), M) 56 [(0, .ref (ad a0)), (1, .ref (ad a1)), (2, .int x2), (3, .int w3)] [] M := by
        intro x2 hf
        rw [ej56] at hf
        obtain ⟨v3, ev3⟩ : ∃ q : Int32, q = w3 + (1 : Int32) := ⟨_, rfl⟩
        replace hf := lt_e hf ev3
        refine v_iinc v3 [(3, .int v3), (0, .ref (ad a0)), (1, .ref (ad a1)), (2, .int x2)] G dX5_sumOwed_56 3 rfl (by rw [ev3]; rfl) (by decide) rfl ?_
        refine v_goto 4 G dX5_sumOwed_59 (by decide) ?_
        refine v_sub _ [1, 2, 3, 0] rfl ?_
        exact ih x2 v3 hf
      refine v_if_eq 56 G dX5_sumOwed_21 (by decide) (fun h11 => ?_) (fun h11 => ?_)
      · replace hf := (if_pos h11).symm.trans hf
        refine v_sub _ [0, 1, 2, 3] rfl ?_
        exact hj56 w2 hf
      · replace hf := (if_neg h11).symm.trans hf
        refine v_aload_n G dX5_sumOwed_24 0 rfl ?_
        refine gf_5_0 G h0 t_226 (Or.inl rfl) dX5_sumOwed_25 ?_
        refine v_iload_n G dX5_sumOwed_28 3 rfl ?_
        obtain ⟨g4, hf⟩ := gd_e hf
        refine al_28 G (kf_5_1 h0) g4 dX5_sumOwed_29 ?_
        refine v_iconst (-1 : Int32) G dX5_sumOwed_30 (by decide) ?_
        refine v_icmp_eq 56 G dX5_sumOwed_31 (by decide) (fun h10 => ?_) (fun h10 => ?_)
        · replace hf := (if_pos h10).symm.trans hf
          refine v_sub _ [0, 1, 2, 3] rfl ?_
          exact hj56 w2 hf
        · replace hf := (if_neg h10).symm.trans hf
          refine v_iload_n G dX5_sumOwed_34 2 rfl ?_
          refine v_aload_n G dX5_sumOwed_35 1 rfl ?_
          refine gf_2_5 G h1 t_373 (Or.inl rfl) dX5_sumOwed_36 ?_
          refine v_iload_n G dX5_sumOwed_39 3 rfl ?_
          obtain ⟨g5, hf⟩ := gd_e hf
          refine al_Person G (kf_2_6 h1) g5 dX5_sumOwed_40 ?_
          refine gf_7_1 G (ke_Person (kf_2_6 h1) (ix_lt g5)) t_308 (Or.inl rfl) dX5_sumOwed_41 ?_
          refine v_aload_n G dX5_sumOwed_44 0 rfl ?_
          refine gf_5_0 G h0 t_226 (Or.inl rfl) dX5_sumOwed_45 ?_
          refine v_iload_n G dX5_sumOwed_48 3 rfl ?_
          obtain ⟨g6, hf⟩ := gd_e hf
          refine al_28 G (kf_5_1 h0) g6 dX5_sumOwed_49 ?_
          obtain ⟨g7, hf⟩ := gd_e hf
          refine al_28 G (kf_7_2 (ke_Person (kf_2_6 h1) (ix_lt g5))) g7 dX5_sumOwed_50 ?_
          refine v_mabs G (by decide) t_882 t_883 t_17 t_884 (Nat.le_of_ble_eq_true rfl) dX5_sumOwed_51 ?_
          refine v_nmi (fun v8 ev8 => ?_)
          replace hf := lt_e hf ev8
          refine v_iadd G dX5_sumOwed_54 ?_
          refine v_nmi (fun v9 ev9 => ?_)
          replace hf := lt_e hf ev9
          refine v_istore_n [(2, .int v9), (0, .ref (ad a0)), (1, .ref (ad a1)), (3, .int w3)] G dX5_sumOwed_55 (by decide) rfl ?_
          refine v_sub _ [1, 2, 0, 3] rfl ?_
          exact hj56 v9 hf
set_option maxRecDepth 100000 in
set_option maxHeartbeats 4000000 in
theorem c_X5_sumOwed {l : Launch} {ad : Nat → Nat} {cy : Nat → ClassId} {D : va_G} {z : Nat} (n : Nat) {a0 : Nat} {a1 : Nat} {M : KM} {y : Int32} (h0 : kty a0 = 6) (h1 : kty a1 = 3) (hf : f_X5_sumOwed n a0 a1 M = some y) : KC l ad cy D z yX5_sumOwed cX5_sumOwed 4 (some .int) 1 [.ref (ad a0), .ref (ad a1)] M (some (.int y), M) := by
  refine kv_enter (by decide +kernel) (Nat.le_of_ble_eq_true rfl) ?_
  intro x hl hD hz G
  subst hl hD hz
  unfold f_X5_sumOwed at hf
  have G : KG ad cy x cX5_sumOwed "NoonGuides$Pairing" 4 (some (some .int)) 1 := G
  show KV ad cy x (some (.int y), M) 0 [(0, .ref (ad a0)), (1, .ref (ad a1))] [] M
  refine v_iconst (0 : Int32) G dX5_sumOwed_0 (by decide) ?_
  refine v_istore_n [(2, .int (0 : Int32)), (0, .ref (ad a0)), (1, .ref (ad a1))] G dX5_sumOwed_1 (by decide) rfl ?_
  refine v_iconst (0 : Int32) G dX5_sumOwed_2 (by decide) ?_
  refine v_istore_n [(3, .int (0 : Int32)), (2, .int (0 : Int32)), (0, .ref (ad a0)), (1, .ref (ad a1))] G dX5_sumOwed_3 (by decide) rfl ?_
  refine v_sub _ [2, 3, 1, 0] rfl ?_
  refine s_X5_sumOwed_4 G h0 h1 n (0 : Int32) (0 : Int32) hf
