abbrev cX9_scanWord : ByteArray := prog_11_method_4_code
def yX9_scanWord : MethodName := ⟨RX9, "scanWord", "()V"⟩
theorem dX9_scanWord_0 : dc cX9_scanWord 0 (.aload_n 0) 1 1 := ⟨by decide +kernel, rfl⟩
theorem dX9_scanWord_1 : dc cX9_scanWord 1 (.iconst 1) 1 2 := ⟨by decide +kernel, rfl⟩
theorem dX9_scanWord_2 : dc cX9_scanWord 2 (.putfield 72) 3 5 := ⟨by decide +kernel, rfl⟩
theorem dX9_scanWord_5 : dc cX9_scanWord 5 (.lconst 0) 1 6 := ⟨by decide +kernel, rfl⟩
theorem dX9_scanWord_6 : dc cX9_scanWord 6 (.lstore_n 1) 1 7 := ⟨by decide +kernel, rfl⟩
theorem dX9_scanWord_7 : dc cX9_scanWord 7 (.aload_n 0) 1 8 := ⟨by decide +kernel, rfl⟩
theorem dX9_scanWord_8 : dc cX9_scanWord 8 (.getfield 50) 3 11 := ⟨by decide +kernel, rfl⟩
theorem dX9_scanWord_11 : dc cX9_scanWord 11 (.aload_n 0) 1 12 := ⟨by decide +kernel, rfl⟩
theorem dX9_scanWord_12 : dc cX9_scanWord 12 (.getfield 48) 3 15 := ⟨by decide +kernel, rfl⟩
theorem dX9_scanWord_15 : dc cX9_scanWord 15 (.if_icmp .ge 81) 3 18 := ⟨by decide +kernel, rfl⟩
theorem dX9_scanWord_18 : dc cX9_scanWord 18 (.aload_n 0) 1 19 := ⟨by decide +kernel, rfl⟩
theorem dX9_scanWord_19 : dc cX9_scanWord 19 (.getfield 15) 3 22 := ⟨by decide +kernel, rfl⟩
theorem dX9_scanWord_22 : dc cX9_scanWord 22 (.aload_n 0) 1 23 := ⟨by decide +kernel, rfl⟩
theorem dX9_scanWord_23 : dc cX9_scanWord 23 (.getfield 50) 3 26 := ⟨by decide +kernel, rfl⟩
theorem dX9_scanWord_26 : dc cX9_scanWord 26 (.baload) 1 27 := ⟨by decide +kernel, rfl⟩
theorem dX9_scanWord_27 : dc cX9_scanWord 27 (.bipush 97) 2 29 := ⟨by decide +kernel, rfl⟩
theorem dX9_scanWord_29 : dc cX9_scanWord 29 (.if_icmp .lt 67) 3 32 := ⟨by decide +kernel, rfl⟩
theorem dX9_scanWord_32 : dc cX9_scanWord 32 (.aload_n 0) 1 33 := ⟨by decide +kernel, rfl⟩
theorem dX9_scanWord_33 : dc cX9_scanWord 33 (.getfield 15) 3 36 := ⟨by decide +kernel, rfl⟩
theorem dX9_scanWord_36 : dc cX9_scanWord 36 (.aload_n 0) 1 37 := ⟨by decide +kernel, rfl⟩
theorem dX9_scanWord_37 : dc cX9_scanWord 37 (.getfield 50) 3 40 := ⟨by decide +kernel, rfl⟩
theorem dX9_scanWord_40 : dc cX9_scanWord 40 (.baload) 1 41 := ⟨by decide +kernel, rfl⟩
theorem dX9_scanWord_41 : dc cX9_scanWord 41 (.bipush 122) 2 43 := ⟨by decide +kernel, rfl⟩
theorem dX9_scanWord_43 : dc cX9_scanWord 43 (.if_icmp .gt 53) 3 46 := ⟨by decide +kernel, rfl⟩
theorem dX9_scanWord_46 : dc cX9_scanWord 46 (.aload_n 0) 1 47 := ⟨by decide +kernel, rfl⟩
theorem dX9_scanWord_47 : dc cX9_scanWord 47 (.getfield 50) 3 50 := ⟨by decide +kernel, rfl⟩
theorem dX9_scanWord_50 : dc cX9_scanWord 50 (.aload_n 0) 1 51 := ⟨by decide +kernel, rfl⟩
theorem dX9_scanWord_51 : dc cX9_scanWord 51 (.getfield 62) 3 54 := ⟨by decide +kernel, rfl⟩
theorem dX9_scanWord_54 : dc cX9_scanWord 54 (.isub) 1 55 := ⟨by decide +kernel, rfl⟩
theorem dX9_scanWord_55 : dc cX9_scanWord 55 (.bipush 8) 2 57 := ⟨by decide +kernel, rfl⟩
theorem dX9_scanWord_57 : dc cX9_scanWord 57 (.if_icmp .ge 26) 3 60 := ⟨by decide +kernel, rfl⟩
theorem dX9_scanWord_60 : dc cX9_scanWord 60 (.lload_n 1) 1 61 := ⟨by decide +kernel, rfl⟩
theorem dX9_scanWord_61 : dc cX9_scanWord 61 (.ldc2_w 38) 3 64 := ⟨by decide +kernel, rfl⟩
theorem dX9_scanWord_64 : dc cX9_scanWord 64 (.lmul) 1 65 := ⟨by decide +kernel, rfl⟩
theorem dX9_scanWord_65 : dc cX9_scanWord 65 (.aload_n 0) 1 66 := ⟨by decide +kernel, rfl⟩
theorem dX9_scanWord_66 : dc cX9_scanWord 66 (.getfield 15) 3 69 := ⟨by decide +kernel, rfl⟩
theorem dX9_scanWord_69 : dc cX9_scanWord 69 (.aload_n 0) 1 70 := ⟨by decide +kernel, rfl⟩
theorem dX9_scanWord_70 : dc cX9_scanWord 70 (.getfield 50) 3 73 := ⟨by decide +kernel, rfl⟩
theorem dX9_scanWord_73 : dc cX9_scanWord 73 (.baload) 1 74 := ⟨by decide +kernel, rfl⟩
theorem dX9_scanWord_74 : dc cX9_scanWord 74 (.i2l) 1 75 := ⟨by decide +kernel, rfl⟩
theorem dX9_scanWord_75 : dc cX9_scanWord 75 (.ladd) 1 76 := ⟨by decide +kernel, rfl⟩
theorem dX9_scanWord_76 : dc cX9_scanWord 76 (.ldc2_w 40) 3 79 := ⟨by decide +kernel, rfl⟩
theorem dX9_scanWord_79 : dc cX9_scanWord 79 (.lsub) 1 80 := ⟨by decide +kernel, rfl⟩
theorem dX9_scanWord_80 : dc cX9_scanWord 80 (.lconst 1) 1 81 := ⟨by decide +kernel, rfl⟩
theorem dX9_scanWord_81 : dc cX9_scanWord 81 (.ladd) 1 82 := ⟨by decide +kernel, rfl⟩
theorem dX9_scanWord_82 : dc cX9_scanWord 82 (.lstore_n 1) 1 83 := ⟨by decide +kernel, rfl⟩
theorem dX9_scanWord_83 : dc cX9_scanWord 83 (.aload_n 0) 1 84 := ⟨by decide +kernel, rfl⟩
theorem dX9_scanWord_84 : dc cX9_scanWord 84 (.dup) 1 85 := ⟨by decide +kernel, rfl⟩
theorem dX9_scanWord_85 : dc cX9_scanWord 85 (.getfield 50) 3 88 := ⟨by decide +kernel, rfl⟩
theorem dX9_scanWord_88 : dc cX9_scanWord 88 (.iconst 1) 1 89 := ⟨by decide +kernel, rfl⟩
theorem dX9_scanWord_89 : dc cX9_scanWord 89 (.iadd) 1 90 := ⟨by decide +kernel, rfl⟩
theorem dX9_scanWord_90 : dc cX9_scanWord 90 (.putfield 50) 3 93 := ⟨by decide +kernel, rfl⟩
theorem dX9_scanWord_93 : dc cX9_scanWord 93 (.goto (-86)) 3 96 := ⟨by decide +kernel, rfl⟩
theorem dX9_scanWord_96 : dc cX9_scanWord 96 (.aload_n 0) 1 97 := ⟨by decide +kernel, rfl⟩
theorem dX9_scanWord_97 : dc cX9_scanWord 97 (.getfield 50) 3 100 := ⟨by decide +kernel, rfl⟩
theorem dX9_scanWord_100 : dc cX9_scanWord 100 (.aload_n 0) 1 101 := ⟨by decide +kernel, rfl⟩
theorem dX9_scanWord_101 : dc cX9_scanWord 101 (.getfield 62) 3 104 := ⟨by decide +kernel, rfl⟩
theorem dX9_scanWord_104 : dc cX9_scanWord 104 (.isub) 1 105 := ⟨by decide +kernel, rfl⟩
theorem dX9_scanWord_105 : dc cX9_scanWord 105 (.bipush 8) 2 107 := ⟨by decide +kernel, rfl⟩
theorem dX9_scanWord_107 : dc cX9_scanWord 107 (.if_icmp .le 4) 3 110 := ⟨by decide +kernel, rfl⟩
theorem dX9_scanWord_110 : dc cX9_scanWord 110 (.return_) 1 111 := ⟨by decide +kernel, rfl⟩
theorem dX9_scanWord_111 : dc cX9_scanWord 111 (.iconst 0) 1 112 := ⟨by decide +kernel, rfl⟩
theorem dX9_scanWord_112 : dc cX9_scanWord 112 (.istore_n 3) 1 113 := ⟨by decide +kernel, rfl⟩
theorem dX9_scanWord_113 : dc cX9_scanWord 113 (.iload_n 3) 1 114 := ⟨by decide +kernel, rfl⟩
theorem dX9_scanWord_114 : dc cX9_scanWord 114 (.bipush 26) 2 116 := ⟨by decide +kernel, rfl⟩
theorem dX9_scanWord_116 : dc cX9_scanWord 116 (.if_icmp .ge 26) 3 119 := ⟨by decide +kernel, rfl⟩
theorem dX9_scanWord_119 : dc cX9_scanWord 119 (.aload_n 0) 1 120 := ⟨by decide +kernel, rfl⟩
theorem dX9_scanWord_120 : dc cX9_scanWord 120 (.getfield 11) 3 123 := ⟨by decide +kernel, rfl⟩
theorem dX9_scanWord_123 : dc cX9_scanWord 123 (.iload_n 3) 1 124 := ⟨by decide +kernel, rfl⟩
theorem dX9_scanWord_124 : dc cX9_scanWord 124 (.laload) 1 125 := ⟨by decide +kernel, rfl⟩
theorem dX9_scanWord_125 : dc cX9_scanWord 125 (.lload_n 1) 1 126 := ⟨by decide +kernel, rfl⟩
theorem dX9_scanWord_126 : dc cX9_scanWord 126 (.lcmp) 1 127 := ⟨by decide +kernel, rfl⟩
theorem dX9_scanWord_127 : dc cX9_scanWord 127 (.ifCond .ne 9) 3 130 := ⟨by decide +kernel, rfl⟩
theorem dX9_scanWord_130 : dc cX9_scanWord 130 (.aload_n 0) 1 131 := ⟨by decide +kernel, rfl⟩
theorem dX9_scanWord_131 : dc cX9_scanWord 131 (.iload_n 3) 1 132 := ⟨by decide +kernel, rfl⟩
theorem dX9_scanWord_132 : dc cX9_scanWord 132 (.putfield 23) 3 135 := ⟨by decide +kernel, rfl⟩
theorem dX9_scanWord_135 : dc cX9_scanWord 135 (.return_) 1 136 := ⟨by decide +kernel, rfl⟩
theorem dX9_scanWord_136 : dc cX9_scanWord 136 (.iinc 3 1) 3 139 := ⟨by decide +kernel, rfl⟩
theorem dX9_scanWord_139 : dc cX9_scanWord 139 (.goto (-26)) 3 142 := ⟨by decide +kernel, rfl⟩
theorem dX9_scanWord_142 : dc cX9_scanWord 142 (.aload_n 0) 1 143 := ⟨by decide +kernel, rfl⟩
theorem dX9_scanWord_143 : dc cX9_scanWord 143 (.lload_n 1) 1 144 := ⟨by decide +kernel, rfl⟩
theorem dX9_scanWord_144 : dc cX9_scanWord 144 (.putfield 65) 3 147 := ⟨by decide +kernel, rfl⟩
theorem dX9_scanWord_147 : dc cX9_scanWord 147 (.return_) 1 148 := ⟨by decide +kernel, rfl⟩
theorem nm_X9_scanWord : (yX9_scanWord).cls ≠ "java/lang/invoke/MethodHandle" ∧ (yX9_scanWord).cls ≠ "java/lang/invoke/VarHandle" ∧ (parseMethodDescriptor (yX9_scanWord).desc).map (fun d => d.parameters.length) = some 0 := ⟨by decide +kernel, by decide +kernel, by decide +kernel⟩
set_option maxRecDepth 100000 in
set_option maxHeartbeats 4000000 in
theorem s_X9_scanWord_7_L {ad : Nat → Nat} {cy : Nat → ClassId} {x : KX} (G : KG ad cy x cX9_scanWord "NoonGuides$TextReader" 4 (some none) 1) {a0 : Nat} (h0 : kty a0 = 4) {k96 : Int64 → KM → Option KM} {y : KM} (hk96 : ∀ (u1 : Int64) (M : KM), k96 u1 M = some y → KV ad cy x (none, y) 96 [(0, .ref (ad a0)), (1, .long u1)] [] M) : ∀ (n : Nat) (w1 : Int64) (M : KM), lp_X9_scanWord_7 n a0 w1 M k96 = some y → KV ad cy x (none, y) 7 [(0, .ref (ad a0)), (1, .long w1)] [] M := by
  intro n
  induction n with
  | zero =>
    intro w1 M hf
    cases hf
  | succ n ih =>
    intro w1 M hf
    rw [lp_X9_scanWord_7] at hf
    refine v_aload_n G dX9_scanWord_7 0 rfl ?_
    refine gf_3_3 G h0 t_97 (Or.inl rfl) dX9_scanWord_8 ?_
    refine v_aload_n G dX9_scanWord_11 0 rfl ?_
    refine gf_3_2 G h0 t_96 (Or.inl rfl) dX9_scanWord_12 ?_
    refine v_icmp_ge 96 G dX9_scanWord_15 (by decide) (fun h14 => ?_) (fun h14 => ?_)
    · replace hf := (if_pos h14).symm.trans hf
      refine v_sub _ [0, 1] rfl ?_
      exact hk96 w1 M hf
    · replace hf := (if_neg h14).symm.trans hf
      refine v_aload_n G dX9_scanWord_18 0 rfl ?_
      refine gf_3_1 G h0 t_95 (Or.inl rfl) dX9_scanWord_19 ?_
      refine v_kt (fun hKT => ?_)
      have hk2 := hKT.2.2.2.2.1 _ h0
      refine v_aload_n G dX9_scanWord_22 0 rfl ?_
      refine gf_3_3 G h0 t_97 (Or.inl rfl) dX9_scanWord_23 ?_
      obtain ⟨g3, hf⟩ := gd_e hf
      refine al_text G hk2 g3 dX9_scanWord_26 ?_
      refine v_bipush (97 : Int32) G dX9_scanWord_27 (by decide) ?_
      refine v_icmp_lt 96 G dX9_scanWord_29 (by decide) (fun h13 => ?_) (fun h13 => ?_)
      · replace hf := (if_pos h13).symm.trans hf
        refine v_sub _ [0, 1] rfl ?_
        exact hk96 w1 M hf
      · replace hf := (if_neg h13).symm.trans hf
        refine v_aload_n G dX9_scanWord_32 0 rfl ?_
        refine gf_3_1 G h0 t_95 (Or.inl rfl) dX9_scanWord_33 ?_
        refine v_kt (fun hKT => ?_)
        have hk4 := hKT.2.2.2.2.1 _ h0
        refine v_aload_n G dX9_scanWord_36 0 rfl ?_
        refine gf_3_3 G h0 t_97 (Or.inl rfl) dX9_scanWord_37 ?_
        obtain ⟨g5, hf⟩ := gd_e hf
        refine al_text G hk4 g5 dX9_scanWord_40 ?_
        refine v_bipush (122 : Int32) G dX9_scanWord_41 (by decide) ?_
        refine v_icmp_gt 96 G dX9_scanWord_43 (by decide) (fun h12 => ?_) (fun h12 => ?_)
        · replace hf := (if_pos h12).symm.trans hf
          refine v_sub _ [0, 1] rfl ?_
          exact hk96 w1 M hf
        · replace hf := (if_neg h12).symm.trans hf
          refine v_aload_n G dX9_scanWord_46 0 rfl ?_
          refine gf_3_3 G h0 t_97 (Or.inl rfl) dX9_scanWord_47 ?_
          refine v_aload_n G dX9_scanWord_50 0 rfl ?_
          refine gf_3_10 G h0 t_110 (Or.inl rfl) dX9_scanWord_51 ?_
          refine v_isub G dX9_scanWord_54 ?_
          refine v_bipush (8 : Int32) G dX9_scanWord_55 (by decide) ?_
          obtain ⟨j83, ej83, hf⟩ := lt_j hf
          have hj83 : ∀ (x6 : Int64), j83 x6 = some y → KV ad cy x (none, y) 83 [(0, .ref (ad a0)), (1, .long x6)] [] M := by
            intro x6 hf
            rw [ej83] at hf
            refine v_aload_n G dX9_scanWord_83 0 rfl ?_
            refine v_dup G dX9_scanWord_84 rfl ?_
            refine gf_3_3 G h0 t_97 (Or.inl rfl) dX9_scanWord_85 ?_
            refine v_iconst (1 : Int32) G dX9_scanWord_88 (by decide) ?_
            refine v_iadd G dX9_scanWord_89 ?_
            refine pf_3_3 G h0 t_97 (Or.inl rfl) dX9_scanWord_90 ?_
            refine v_nmM (fun M7 eM7 => ?_)
            replace hf := lt_e hf eM7
            refine v_goto 7 G dX9_scanWord_93 (by decide) ?_
            refine v_sub _ [0, 1] rfl ?_
            exact ih x6 M7 hf
          refine v_icmp_ge 83 G dX9_scanWord_57 (by decide) (fun h11 => ?_) (fun h11 => ?_)
          · replace hf := (if_pos h11).symm.trans hf
            refine v_sub _ [0, 1] rfl ?_
            exact hj83 w1 hf
          · replace hf := (if_neg h11).symm.trans hf
            refine v_lload_n G dX9_scanWord_60 1 rfl ?_
            refine v_ldc2 G dX9_scanWord_61 t_90 ?_
            refine v_lmul G dX9_scanWord_64 ?_
            refine v_aload_n G dX9_scanWord_65 0 rfl ?_
            refine gf_3_1 G h0 t_95 (Or.inl rfl) dX9_scanWord_66 ?_
            refine v_kt (fun hKT => ?_)
            have hk8 := hKT.2.2.2.2.1 _ h0
            refine v_aload_n G dX9_scanWord_69 0 rfl ?_
            refine gf_3_3 G h0 t_97 (Or.inl rfl) dX9_scanWord_70 ?_
            obtain ⟨g9, hf⟩ := gd_e hf
            refine al_text G hk8 g9 dX9_scanWord_73 ?_
            refine v_i2l G dX9_scanWord_74 ?_
            refine v_ladd G dX9_scanWord_75 ?_
            refine v_ldc2 G dX9_scanWord_76 t_91 ?_
            refine v_lsub G dX9_scanWord_79 ?_
            refine v_lconst (1 : Int64) G dX9_scanWord_80 (by decide) ?_
            refine v_ladd G dX9_scanWord_81 ?_
            refine v_nml (fun v10 ev10 => ?_)
            replace hf := lt_e hf ev10
            refine v_lstore_n [(1, .long v10), (0, .ref (ad a0))] G dX9_scanWord_82 (by decide) rfl ?_
            refine v_sub _ [1, 0] rfl ?_
            exact hj83 v10 hf
set_option maxRecDepth 100000 in
set_option maxHeartbeats 4000000 in
theorem s_X9_scanWord_113_L {ad : Nat → Nat} {cy : Nat → ClassId} {x : KX} (G : KG ad cy x cX9_scanWord "NoonGuides$TextReader" 4 (some none) 1) {a0 : Nat} {c1 : Int64} {M : KM} (h0 : kty a0 = 4) {k130 : Int32 → Option KM} {k142 : Option KM} {y : KM} (hk130 : ∀ (u3 : Int32), k130 u3 = some y → KV ad cy x (none, y) 130 [(0, .ref (ad a0)), (3, .int u3)] [] M) (hk142 : k142 = some y → KV ad cy x (none, y) 142 [(0, .ref (ad a0)), (1, .long c1)] [] M) : ∀ (n : Nat) (w3 : Int32), lp_X9_scanWord_113 n a0 c1 M w3 k130 k142 = some y → KV ad cy x (none, y) 113 [(0, .ref (ad a0)), (1, .long c1), (3, .int w3)] [] M := by
  intro n
  induction n with
  | zero =>
    intro w3 hf
    cases hf
  | succ n ih =>
    intro w3 hf
    rw [lp_X9_scanWord_113] at hf
    refine v_iload_n G dX9_scanWord_113 2 rfl ?_
    refine v_bipush (26 : Int32) G dX9_scanWord_114 (by decide) ?_
    refine v_icmp_ge 142 G dX9_scanWord_116 (by decide) (fun h20 => ?_) (fun h20 => ?_)
    · replace hf := (if_pos h20).symm.trans hf
      refine v_sub _ [0, 1] rfl ?_
      exact hk142 hf
    · replace hf := (if_neg h20).symm.trans hf
      refine v_aload_n G dX9_scanWord_119 0 rfl ?_
      refine gf_3_0 G h0 t_94 (Or.inl rfl) dX9_scanWord_120 ?_
      refine v_iload_n G dX9_scanWord_123 2 rfl ?_
      obtain ⟨g17, hf⟩ := gd_e hf
      refine al_24 G (kf_3_1 h0) g17 dX9_scanWord_124 ?_
      refine v_lload_n G dX9_scanWord_125 1 rfl ?_
      refine v_lcmp G dX9_scanWord_126 ?_
      refine v_if_ne 136 G dX9_scanWord_127 (by decide) (fun h19 => ?_) (fun h19 => ?_)
      · replace hf := (if_neg h19).symm.trans hf
        obtain ⟨v18, ev18⟩ : ∃ q : Int32, q = w3 + (1 : Int32) := ⟨_, rfl⟩
        replace hf := lt_e hf ev18
        refine v_iinc v18 [(3, .int v18), (0, .ref (ad a0)), (1, .long c1)] G dX9_scanWord_136 2 rfl (by rw [ev18]; rfl) (by decide) rfl ?_
        refine v_goto 113 G dX9_scanWord_139 (by decide) ?_
        refine v_sub _ [1, 2, 0] rfl ?_
        exact ih v18 hf
      · replace hf := (if_pos h19).symm.trans hf
        refine v_sub _ [0, 2] rfl ?_
        exact hk130 w3 hf
set_option maxRecDepth 100000 in
set_option maxHeartbeats 4000000 in
theorem c_X9_scanWord_L {l : Launch} {ad : Nat → Nat} {cy : Nat → ClassId} {D : va_G} {z : Nat} (n : Nat) {a0 : Nat} {M : KM} {y : KM} (h0 : kty a0 = 4) (hf : f_X9_scanWord n a0 M = some y) : KC l ad cy D z yX9_scanWord cX9_scanWord 4 none 1 [.ref (ad a0)] M (none, y) := by
  refine kv_enter (by decide +kernel) (Nat.le_of_ble_eq_true rfl) ?_
  intro x hl hD hz G
  subst hl hD hz
  unfold f_X9_scanWord at hf
  have G : KG ad cy x cX9_scanWord "NoonGuides$TextReader" 4 (some none) 1 := G
  show KV ad cy x (none, y) 0 [(0, .ref (ad a0))] [] M
  refine v_aload_n G dX9_scanWord_0 0 rfl ?_
  refine v_iconst (1 : Int32) G dX9_scanWord_1 (by decide) ?_
  refine pf_3_6 G h0 t_102 (Or.inl rfl) dX9_scanWord_2 ?_
  refine v_nmM (fun M1 eM1 => ?_)
  replace hf := lt_e hf eM1
  refine v_lconst (0 : Int64) G dX9_scanWord_5 (by decide) ?_
  refine v_lstore_n [(1, .long (0 : Int64)), (0, .ref (ad a0))] G dX9_scanWord_6 (by decide) rfl ?_
  refine v_sub _ [1, 0] rfl ?_
  refine s_X9_scanWord_7_L G h0 (fun u15 M16 hf => ?_) n (0 : Int64) M1 hf
  · refine v_aload_n G dX9_scanWord_96 0 rfl ?_
    refine gf_3_3 G h0 t_97 (Or.inl rfl) dX9_scanWord_97 ?_
    refine v_aload_n G dX9_scanWord_100 0 rfl ?_
    refine gf_3_10 G h0 t_110 (Or.inl rfl) dX9_scanWord_101 ?_
    refine v_isub G dX9_scanWord_104 ?_
    refine v_bipush (8 : Int32) G dX9_scanWord_105 (by decide) ?_
    refine v_icmp_le 111 G dX9_scanWord_107 (by decide) (fun h24 => ?_) (fun h24 => ?_)
    · replace hf := (if_pos h24).symm.trans hf
      refine v_iconst (0 : Int32) G dX9_scanWord_111 (by decide) ?_
      refine v_istore_n [(3, .int (0 : Int32)), (0, .ref (ad a0)), (1, .long u15)] G dX9_scanWord_112 (by decide) rfl ?_
      refine v_sub _ [1, 2, 0] rfl ?_
      refine s_X9_scanWord_113_L G h0 (fun u21 hf => ?_) (fun hf => ?_) n (0 : Int32) hf
      · refine v_aload_n G dX9_scanWord_130 0 rfl ?_
        refine v_iload_n G dX9_scanWord_131 1 rfl ?_
        refine pf_3_7 G h0 t_103 (Or.inl rfl) dX9_scanWord_132 ?_
        refine v_nmM (fun M22 eM22 => ?_)
        replace hf := lt_e hf eM22
        obtain rfl := Option.some.inj hf
        exact v_vret G dX9_scanWord_135
      · refine v_aload_n G dX9_scanWord_142 0 rfl ?_
        refine v_lload_n G dX9_scanWord_143 1 rfl ?_
        refine pf_3_9 G h0 t_109 (Or.inl rfl) dX9_scanWord_144 ?_
        refine v_nmM (fun M23 eM23 => ?_)
        replace hf := lt_e hf eM23
        obtain rfl := Option.some.inj hf
        exact v_vret G dX9_scanWord_147
    · replace hf := (if_neg h24).symm.trans hf
      obtain rfl := Option.some.inj hf
      exact v_vret G dX9_scanWord_110
set_option maxRecDepth 100000 in
set_option maxHeartbeats 4000000 in
theorem s_X9_scanWord_7_D {ad : Nat → Nat} {cy : Nat → ClassId} {x : KX} (G : KG ad cy x cX9_scanWord "NoonGuides$TextReader" 4 (some none) 1) {a0 : Nat} (h0 : kty a0 = 1) {k96 : Int64 → KM → Option KM} {y : KM} (hk96 : ∀ (u1 : Int64) (M : KM), k96 u1 M = some y → KV ad cy x (none, y) 96 [(0, .ref (ad a0)), (1, .long u1)] [] M) : ∀ (n : Nat) (w1 : Int64) (M : KM), lp_X9_scanWord_7 n a0 w1 M k96 = some y → KV ad cy x (none, y) 7 [(0, .ref (ad a0)), (1, .long w1)] [] M := by
  intro n
  induction n with
  | zero =>
    intro w1 M hf
    cases hf
  | succ n ih =>
    intro w1 M hf
    rw [lp_X9_scanWord_7] at hf
    refine v_aload_n G dX9_scanWord_7 0 rfl ?_
    refine gf_0_3 G h0 t_97 (Or.inl rfl) dX9_scanWord_8 ?_
    refine v_aload_n G dX9_scanWord_11 0 rfl ?_
    refine gf_0_2 G h0 t_96 (Or.inl rfl) dX9_scanWord_12 ?_
    refine v_icmp_ge 96 G dX9_scanWord_15 (by decide) (fun h14 => ?_) (fun h14 => ?_)
    · replace hf := (if_pos h14).symm.trans hf
      refine v_sub _ [0, 1] rfl ?_
      exact hk96 w1 M hf
    · replace hf := (if_neg h14).symm.trans hf
      refine v_aload_n G dX9_scanWord_18 0 rfl ?_
      refine gf_0_1 G h0 t_95 (Or.inl rfl) dX9_scanWord_19 ?_
      refine v_kt (fun hKT => ?_)
      have hk2 := hKT.2.2.2.2.2.1 _ h0
      refine v_aload_n G dX9_scanWord_22 0 rfl ?_
      refine gf_0_3 G h0 t_97 (Or.inl rfl) dX9_scanWord_23 ?_
      obtain ⟨g3, hf⟩ := gd_e hf
      refine al_text G hk2 g3 dX9_scanWord_26 ?_
      refine v_bipush (97 : Int32) G dX9_scanWord_27 (by decide) ?_
      refine v_icmp_lt 96 G dX9_scanWord_29 (by decide) (fun h13 => ?_) (fun h13 => ?_)
      · replace hf := (if_pos h13).symm.trans hf
        refine v_sub _ [0, 1] rfl ?_
        exact hk96 w1 M hf
      · replace hf := (if_neg h13).symm.trans hf
        refine v_aload_n G dX9_scanWord_32 0 rfl ?_
        refine gf_0_1 G h0 t_95 (Or.inl rfl) dX9_scanWord_33 ?_
        refine v_kt (fun hKT => ?_)
        have hk4 := hKT.2.2.2.2.2.1 _ h0
        refine v_aload_n G dX9_scanWord_36 0 rfl ?_
        refine gf_0_3 G h0 t_97 (Or.inl rfl) dX9_scanWord_37 ?_
        obtain ⟨g5, hf⟩ := gd_e hf
        refine al_text G hk4 g5 dX9_scanWord_40 ?_
        refine v_bipush (122 : Int32) G dX9_scanWord_41 (by decide) ?_
        refine v_icmp_gt 96 G dX9_scanWord_43 (by decide) (fun h12 => ?_) (fun h12 => ?_)
        · replace hf := (if_pos h12).symm.trans hf
          refine v_sub _ [0, 1] rfl ?_
          exact hk96 w1 M hf
        · replace hf := (if_neg h12).symm.trans hf
          refine v_aload_n G dX9_scanWord_46 0 rfl ?_
          refine gf_0_3 G h0 t_97 (Or.inl rfl) dX9_scanWord_47 ?_
          refine v_aload_n G dX9_scanWord_50 0 rfl ?_
          refine gf_0_10 G h0 t_110 (Or.inl rfl) dX9_scanWord_51 ?_
          refine v_isub G dX9_scanWord_54 ?_
          refine v_bipush (8 : Int32) G dX9_scanWord_55 (by decide) ?_
          obtain ⟨j83, ej83, hf⟩ := lt_j hf
          have hj83 : ∀ (x6 : Int64), j83 x6 = some y → KV ad cy x (none, y) 83 [(0, .ref (ad a0)), (1, .long x6)] [] M := by
            intro x6 hf
            rw [ej83] at hf
            refine v_aload_n G dX9_scanWord_83 0 rfl ?_
            refine v_dup G dX9_scanWord_84 rfl ?_
            refine gf_0_3 G h0 t_97 (Or.inl rfl) dX9_scanWord_85 ?_
            refine v_iconst (1 : Int32) G dX9_scanWord_88 (by decide) ?_
            refine v_iadd G dX9_scanWord_89 ?_
            refine pf_0_3 G h0 t_97 (Or.inl rfl) dX9_scanWord_90 ?_
            refine v_nmM (fun M7 eM7 => ?_)
            replace hf := lt_e hf eM7
            refine v_goto 7 G dX9_scanWord_93 (by decide) ?_
            refine v_sub _ [0, 1] rfl ?_
            exact ih x6 M7 hf
          refine v_icmp_ge 83 G dX9_scanWord_57 (by decide) (fun h11 => ?_) (fun h11 => ?_)
          · replace hf := (if_pos h11).symm.trans hf
            refine v_sub _ [0, 1] rfl ?_
            exact hj83 w1 hf
          · replace hf := (if_neg h11).symm.trans hf
            refine v_lload_n G dX9_scanWord_60 1 rfl ?_
            refine v_ldc2 G dX9_scanWord_61 t_90 ?_
            refine v_lmul G dX9_scanWord_64 ?_
            refine v_aload_n G dX9_scanWord_65 0 rfl ?_
            refine gf_0_1 G h0 t_95 (Or.inl rfl) dX9_scanWord_66 ?_
            refine v_kt (fun hKT => ?_)
            have hk8 := hKT.2.2.2.2.2.1 _ h0
            refine v_aload_n G dX9_scanWord_69 0 rfl ?_
            refine gf_0_3 G h0 t_97 (Or.inl rfl) dX9_scanWord_70 ?_
            obtain ⟨g9, hf⟩ := gd_e hf
            refine al_text G hk8 g9 dX9_scanWord_73 ?_
            refine v_i2l G dX9_scanWord_74 ?_
            refine v_ladd G dX9_scanWord_75 ?_
            refine v_ldc2 G dX9_scanWord_76 t_91 ?_
            refine v_lsub G dX9_scanWord_79 ?_
            refine v_lconst (1 : Int64) G dX9_scanWord_80 (by decide) ?_
            refine v_ladd G dX9_scanWord_81 ?_
            refine v_nml (fun v10 ev10 => ?_)
            replace hf := lt_e hf ev10
            refine v_lstore_n [(1, .long v10), (0, .ref (ad a0))] G dX9_scanWord_82 (by decide) rfl ?_
            refine v_sub _ [1, 0] rfl ?_
            exact hj83 v10 hf
set_option maxRecDepth 100000 in
set_option maxHeartbeats 4000000 in
theorem s_X9_scanWord_113_D {ad : Nat → Nat} {cy : Nat → ClassId} {x : KX} (G : KG ad cy x cX9_scanWord "NoonGuides$TextReader" 4 (some none) 1) {a0 : Nat} {c1 : Int64} {M : KM} (h0 : kty a0 = 1) {k130 : Int32 → Option KM} {k142 : Option KM} {y : KM} (hk130 : ∀ (u3 : Int32), k130 u3 = some y → KV ad cy x (none, y) 130 [(0, .ref (ad a0)), (3, .int u3)] [] M) (hk142 : k142 = some y → KV ad cy x (none, y) 142 [(0, .ref (ad a0)), (1, .long c1)] [] M) : ∀ (n : Nat) (w3 : Int32), lp_X9_scanWord_113 n a0 c1 M w3 k130 k142 = some y → KV ad cy x (none, y) 113 [(0, .ref (ad a0)), (1, .long c1), (3, .int w3)] [] M := by
  intro n
  induction n with
  | zero =>
    intro w3 hf
    cases hf
  | succ n ih =>
    intro w3 hf
    rw [lp_X9_scanWord_113] at hf
    refine v_iload_n G dX9_scanWord_113 2 rfl ?_
    refine v_bipush (26 : Int32) G dX9_scanWord_114 (by decide) ?_
    refine v_icmp_ge 142 G dX9_scanWord_116 (by decide) (fun h20 => ?_) (fun h20 => ?_)
    · replace hf := (if_pos h20).symm.trans hf
      refine v_sub _ [0, 1] rfl ?_
      exact hk142 hf
    · replace hf := (if_neg h20).symm.trans hf
      refine v_aload_n G dX9_scanWord_119 0 rfl ?_
      refine gf_0_0 G h0 t_94 (Or.inl rfl) dX9_scanWord_120 ?_
      refine v_iload_n G dX9_scanWord_123 2 rfl ?_
      obtain ⟨g17, hf⟩ := gd_e hf
      refine al_24 G (kf_0_1 h0) g17 dX9_scanWord_124 ?_
      refine v_lload_n G dX9_scanWord_125 1 rfl ?_
      refine v_lcmp G dX9_scanWord_126 ?_
      refine v_if_ne 136 G dX9_scanWord_127 (by decide) (fun h19 => ?_) (fun h19 => ?_)
      · replace hf := (if_neg h19).symm.trans hf
        obtain ⟨v18, ev18⟩ : ∃ q : Int32, q = w3 + (1 : Int32) := ⟨_, rfl⟩
        replace hf := lt_e hf ev18
        refine v_iinc v18 [(3, .int v18), (0, .ref (ad a0)), (1, .long c1)] G dX9_scanWord_136 2 rfl (by rw [ev18]; rfl) (by decide) rfl ?_
        refine v_goto 113 G dX9_scanWord_139 (by decide) ?_
        refine v_sub _ [1, 2, 0] rfl ?_
        exact ih v18 hf
      · replace hf := (if_pos h19).symm.trans hf
        refine v_sub _ [0, 2] rfl ?_
        exact hk130 w3 hf
set_option maxRecDepth 100000 in
set_option maxHeartbeats 4000000 in
theorem c_X9_scanWord_D {l : Launch} {ad : Nat → Nat} {cy : Nat → ClassId} {D : va_G} {z : Nat} (n : Nat) {a0 : Nat} {M : KM} {y : KM} (h0 : kty a0 = 1) (hf : f_X9_scanWord n a0 M = some y) : KC l ad cy D z yX9_scanWord cX9_scanWord 4 none 1 [.ref (ad a0)] M (none, y) := by
  refine kv_enter (by decide +kernel) (Nat.le_of_ble_eq_true rfl) ?_
  intro x hl hD hz G
  subst hl hD hz
  unfold f_X9_scanWord at hf
  have G : KG ad cy x cX9_scanWord "NoonGuides$TextReader" 4 (some none) 1 := G
  show KV ad cy x (none, y) 0 [(0, .ref (ad a0))] [] M
  refine v_aload_n G dX9_scanWord_0 0 rfl ?_
  refine v_iconst (1 : Int32) G dX9_scanWord_1 (by decide) ?_
  refine pf_0_6 G h0 t_102 (Or.inl rfl) dX9_scanWord_2 ?_
  refine v_nmM (fun M1 eM1 => ?_)
  replace hf := lt_e hf eM1
  refine v_lconst (0 : Int64) G dX9_scanWord_5 (by decide) ?_
  refine v_lstore_n [(1, .long (0 : Int64)), (0, .ref (ad a0))] G dX9_scanWord_6 (by decide) rfl ?_
  refine v_sub _ [1, 0] rfl ?_
  refine s_X9_scanWord_7_D G h0 (fun u15 M16 hf => ?_) n (0 : Int64) M1 hf
  · refine v_aload_n G dX9_scanWord_96 0 rfl ?_
    refine gf_0_3 G h0 t_97 (Or.inl rfl) dX9_scanWord_97 ?_
    refine v_aload_n G dX9_scanWord_100 0 rfl ?_
    refine gf_0_10 G h0 t_110 (Or.inl rfl) dX9_scanWord_101 ?_
    refine v_isub G dX9_scanWord_104 ?_
    refine v_bipush (8 : Int32) G dX9_scanWord_105 (by decide) ?_
    refine v_icmp_le 111 G dX9_scanWord_107 (by decide) (fun h24 => ?_) (fun h24 => ?_)
    · replace hf := (if_pos h24).symm.trans hf
      refine v_iconst (0 : Int32) G dX9_scanWord_111 (by decide) ?_
      refine v_istore_n [(3, .int (0 : Int32)), (0, .ref (ad a0)), (1, .long u15)] G dX9_scanWord_112 (by decide) rfl ?_
      refine v_sub _ [1, 2, 0] rfl ?_
      refine s_X9_scanWord_113_D G h0 (fun u21 hf => ?_) (fun hf => ?_) n (0 : Int32) hf
      · refine v_aload_n G dX9_scanWord_130 0 rfl ?_
        refine v_iload_n G dX9_scanWord_131 1 rfl ?_
        refine pf_0_7 G h0 t_103 (Or.inl rfl) dX9_scanWord_132 ?_
        refine v_nmM (fun M22 eM22 => ?_)
        replace hf := lt_e hf eM22
        obtain rfl := Option.some.inj hf
        exact v_vret G dX9_scanWord_135
      · refine v_aload_n G dX9_scanWord_142 0 rfl ?_
        refine v_lload_n G dX9_scanWord_143 1 rfl ?_
        refine pf_0_9 G h0 t_109 (Or.inl rfl) dX9_scanWord_144 ?_
        refine v_nmM (fun M23 eM23 => ?_)
        replace hf := lt_e hf eM23
        obtain rfl := Option.some.inj hf
        exact v_vret G dX9_scanWord_147
    · replace hf := (if_neg h24).symm.trans hf
      obtain rfl := Option.some.inj hf
      exact v_vret G dX9_scanWord_110
abbrev cX9_scanNumber : ByteArray := prog_11_method_5_code
def yX9_scanNumber : MethodName := ⟨RX9, "scanNumber", "()V"⟩
theorem dX9_scanNumber_0 : dc cX9_scanNumber 0 (.aload_n 0) 1 1 := ⟨by decide +kernel, rfl⟩
theorem dX9_scanNumber_1 : dc cX9_scanNumber 1 (.getfield 50) 3 4 := ⟨by decide +kernel, rfl⟩
theorem dX9_scanNumber_4 : dc cX9_scanNumber 4 (.aload_n 0) 1 5 := ⟨by decide +kernel, rfl⟩
theorem dX9_scanNumber_5 : dc cX9_scanNumber 5 (.getfield 48) 3 8 := ⟨by decide +kernel, rfl⟩
theorem dX9_scanNumber_8 : dc cX9_scanNumber 8 (.if_icmp .ge 81) 3 11 := ⟨by decide +kernel, rfl⟩
theorem dX9_scanNumber_11 : dc cX9_scanNumber 11 (.aload_n 0) 1 12 := ⟨by decide +kernel, rfl⟩
theorem dX9_scanNumber_12 : dc cX9_scanNumber 12 (.getfield 15) 3 15 := ⟨by decide +kernel, rfl⟩
theorem dX9_scanNumber_15 : dc cX9_scanNumber 15 (.aload_n 0) 1 16 := ⟨by decide +kernel, rfl⟩
theorem dX9_scanNumber_16 : dc cX9_scanNumber 16 (.getfield 50) 3 19 := ⟨by decide +kernel, rfl⟩
theorem dX9_scanNumber_19 : dc cX9_scanNumber 19 (.baload) 1 20 := ⟨by decide +kernel, rfl⟩
theorem dX9_scanNumber_20 : dc cX9_scanNumber 20 (.bipush 48) 2 22 := ⟨by decide +kernel, rfl⟩
theorem dX9_scanNumber_22 : dc cX9_scanNumber 22 (.if_icmp .lt 67) 3 25 := ⟨by decide +kernel, rfl⟩
theorem dX9_scanNumber_25 : dc cX9_scanNumber 25 (.aload_n 0) 1 26 := ⟨by decide +kernel, rfl⟩
theorem dX9_scanNumber_26 : dc cX9_scanNumber 26 (.getfield 15) 3 29 := ⟨by decide +kernel, rfl⟩
theorem dX9_scanNumber_29 : dc cX9_scanNumber 29 (.aload_n 0) 1 30 := ⟨by decide +kernel, rfl⟩
theorem dX9_scanNumber_30 : dc cX9_scanNumber 30 (.getfield 50) 3 33 := ⟨by decide +kernel, rfl⟩
theorem dX9_scanNumber_33 : dc cX9_scanNumber 33 (.baload) 1 34 := ⟨by decide +kernel, rfl⟩
theorem dX9_scanNumber_34 : dc cX9_scanNumber 34 (.bipush 57) 2 36 := ⟨by decide +kernel, rfl⟩
theorem dX9_scanNumber_36 : dc cX9_scanNumber 36 (.if_icmp .gt 53) 3 39 := ⟨by decide +kernel, rfl⟩
theorem dX9_scanNumber_39 : dc cX9_scanNumber 39 (.aload_n 0) 1 40 := ⟨by decide +kernel, rfl⟩
theorem dX9_scanNumber_40 : dc cX9_scanNumber 40 (.getfield 50) 3 43 := ⟨by decide +kernel, rfl⟩
theorem dX9_scanNumber_43 : dc cX9_scanNumber 43 (.aload_n 0) 1 44 := ⟨by decide +kernel, rfl⟩
theorem dX9_scanNumber_44 : dc cX9_scanNumber 44 (.getfield 62) 3 47 := ⟨by decide +kernel, rfl⟩
theorem dX9_scanNumber_47 : dc cX9_scanNumber 47 (.isub) 1 48 := ⟨by decide +kernel, rfl⟩
theorem dX9_scanNumber_48 : dc cX9_scanNumber 48 (.iconst 4) 1 49 := ⟨by decide +kernel, rfl⟩
theorem dX9_scanNumber_49 : dc cX9_scanNumber 49 (.if_icmp .ge 27) 3 52 := ⟨by decide +kernel, rfl⟩
theorem dX9_scanNumber_52 : dc cX9_scanNumber 52 (.aload_n 0) 1 53 := ⟨by decide +kernel, rfl⟩
theorem dX9_scanNumber_53 : dc cX9_scanNumber 53 (.aload_n 0) 1 54 := ⟨by decide +kernel, rfl⟩
theorem dX9_scanNumber_54 : dc cX9_scanNumber 54 (.getfield 69) 3 57 := ⟨by decide +kernel, rfl⟩
theorem dX9_scanNumber_57 : dc cX9_scanNumber 57 (.bipush 10) 2 59 := ⟨by decide +kernel, rfl⟩
theorem dX9_scanNumber_59 : dc cX9_scanNumber 59 (.imul) 1 60 := ⟨by decide +kernel, rfl⟩
theorem dX9_scanNumber_60 : dc cX9_scanNumber 60 (.aload_n 0) 1 61 := ⟨by decide +kernel, rfl⟩
theorem dX9_scanNumber_61 : dc cX9_scanNumber 61 (.getfield 15) 3 64 := ⟨by decide +kernel, rfl⟩
theorem dX9_scanNumber_64 : dc cX9_scanNumber 64 (.aload_n 0) 1 65 := ⟨by decide +kernel, rfl⟩
theorem dX9_scanNumber_65 : dc cX9_scanNumber 65 (.getfield 50) 3 68 := ⟨by decide +kernel, rfl⟩
theorem dX9_scanNumber_68 : dc cX9_scanNumber 68 (.baload) 1 69 := ⟨by decide +kernel, rfl⟩
theorem dX9_scanNumber_69 : dc cX9_scanNumber 69 (.iadd) 1 70 := ⟨by decide +kernel, rfl⟩
theorem dX9_scanNumber_70 : dc cX9_scanNumber 70 (.bipush 48) 2 72 := ⟨by decide +kernel, rfl⟩
theorem dX9_scanNumber_72 : dc cX9_scanNumber 72 (.isub) 1 73 := ⟨by decide +kernel, rfl⟩
theorem dX9_scanNumber_73 : dc cX9_scanNumber 73 (.putfield 69) 3 76 := ⟨by decide +kernel, rfl⟩
theorem dX9_scanNumber_76 : dc cX9_scanNumber 76 (.aload_n 0) 1 77 := ⟨by decide +kernel, rfl⟩
theorem dX9_scanNumber_77 : dc cX9_scanNumber 77 (.dup) 1 78 := ⟨by decide +kernel, rfl⟩
theorem dX9_scanNumber_78 : dc cX9_scanNumber 78 (.getfield 50) 3 81 := ⟨by decide +kernel, rfl⟩
theorem dX9_scanNumber_81 : dc cX9_scanNumber 81 (.iconst 1) 1 82 := ⟨by decide +kernel, rfl⟩
theorem dX9_scanNumber_82 : dc cX9_scanNumber 82 (.iadd) 1 83 := ⟨by decide +kernel, rfl⟩
theorem dX9_scanNumber_83 : dc cX9_scanNumber 83 (.putfield 50) 3 86 := ⟨by decide +kernel, rfl⟩
theorem dX9_scanNumber_86 : dc cX9_scanNumber 86 (.goto (-86)) 3 89 := ⟨by decide +kernel, rfl⟩
theorem dX9_scanNumber_89 : dc cX9_scanNumber 89 (.aload_n 0) 1 90 := ⟨by decide +kernel, rfl⟩
theorem dX9_scanNumber_90 : dc cX9_scanNumber 90 (.aload_n 0) 1 91 := ⟨by decide +kernel, rfl⟩
theorem dX9_scanNumber_91 : dc cX9_scanNumber 91 (.getfield 50) 3 94 := ⟨by decide +kernel, rfl⟩
theorem dX9_scanNumber_94 : dc cX9_scanNumber 94 (.aload_n 0) 1 95 := ⟨by decide +kernel, rfl⟩
theorem dX9_scanNumber_95 : dc cX9_scanNumber 95 (.getfield 62) 3 98 := ⟨by decide +kernel, rfl⟩
theorem dX9_scanNumber_98 : dc cX9_scanNumber 98 (.isub) 1 99 := ⟨by decide +kernel, rfl⟩
theorem dX9_scanNumber_99 : dc cX9_scanNumber 99 (.iconst 4) 1 100 := ⟨by decide +kernel, rfl⟩
theorem dX9_scanNumber_100 : dc cX9_scanNumber 100 (.if_icmp .le 7) 3 103 := ⟨by decide +kernel, rfl⟩
theorem dX9_scanNumber_103 : dc cX9_scanNumber 103 (.iconst 4) 1 104 := ⟨by decide +kernel, rfl⟩
theorem dX9_scanNumber_104 : dc cX9_scanNumber 104 (.goto 4) 3 107 := ⟨by decide +kernel, rfl⟩
theorem dX9_scanNumber_107 : dc cX9_scanNumber 107 (.iconst 2) 1 108 := ⟨by decide +kernel, rfl⟩
theorem dX9_scanNumber_108 : dc cX9_scanNumber 108 (.putfield 72) 3 111 := ⟨by decide +kernel, rfl⟩
theorem dX9_scanNumber_111 : dc cX9_scanNumber 111 (.return_) 1 112 := ⟨by decide +kernel, rfl⟩
theorem nm_X9_scanNumber : (yX9_scanNumber).cls ≠ "java/lang/invoke/MethodHandle" ∧ (yX9_scanNumber).cls ≠ "java/lang/invoke/VarHandle" ∧ (parseMethodDescriptor (yX9_scanNumber).desc).map (fun d => d.parameters.length) = some 0 := ⟨by decide +kernel, by decide +kernel, by decide +kernel⟩
set_option maxRecDepth 100000 in
set_option maxHeartbeats 4000000 in
theorem s_X9_scanNumber_0_L {ad : Nat → Nat} {cy : Nat → ClassId} {x : KX} (G : KG ad cy x cX9_scanNumber "NoonGuides$TextReader" 1 (some none) 1) {a0 : Nat} (h0 : kty a0 = 4) {k89 : KM → Option KM} {y : KM} (hk89 : ∀ (M : KM), k89 M = some y → KV ad cy x (none, y) 89 [(0, .ref (ad a0))] [] M) : ∀ (n : Nat) (M : KM), lp_X9_scanNumber_0 n a0 M k89 = some y → KV ad cy x (none, y) 0 [(0, .ref (ad a0))] [] M := by
  intro n
  induction n with
  | zero =>
    intro M hf
    cases hf
  | succ n ih =>
    intro M hf
    rw [lp_X9_scanNumber_0] at hf
    refine v_aload_n G dX9_scanNumber_0 0 rfl ?_
    refine gf_3_3 G h0 t_97 (Or.inl rfl) dX9_scanNumber_1 ?_
    refine v_aload_n G dX9_scanNumber_4 0 rfl ?_
    refine gf_3_2 G h0 t_96 (Or.inl rfl) dX9_scanNumber_5 ?_
    refine v_icmp_ge 89 G dX9_scanNumber_8 (by decide) (fun h13 => ?_) (fun h13 => ?_)
    · replace hf := (if_pos h13).symm.trans hf
      refine v_sub _ [0] rfl ?_
      exact hk89 M hf
    · replace hf := (if_neg h13).symm.trans hf
      refine v_aload_n G dX9_scanNumber_11 0 rfl ?_
      refine gf_3_1 G h0 t_95 (Or.inl rfl) dX9_scanNumber_12 ?_
      refine v_kt (fun hKT => ?_)
      have hk1 := hKT.2.2.2.2.1 _ h0
      refine v_aload_n G dX9_scanNumber_15 0 rfl ?_
      refine gf_3_3 G h0 t_97 (Or.inl rfl) dX9_scanNumber_16 ?_
      obtain ⟨g2, hf⟩ := gd_e hf
      refine al_text G hk1 g2 dX9_scanNumber_19 ?_
      refine v_bipush (48 : Int32) G dX9_scanNumber_20 (by decide) ?_
      refine v_icmp_lt 89 G dX9_scanNumber_22 (by decide) (fun h12 => ?_) (fun h12 => ?_)
      · replace hf := (if_pos h12).symm.trans hf
        refine v_sub _ [0] rfl ?_
        exact hk89 M hf
      · replace hf := (if_neg h12).symm.trans hf
        refine v_aload_n G dX9_scanNumber_25 0 rfl ?_
        refine gf_3_1 G h0 t_95 (Or.inl rfl) dX9_scanNumber_26 ?_
        refine v_kt (fun hKT => ?_)
        have hk3 := hKT.2.2.2.2.1 _ h0
        refine v_aload_n G dX9_scanNumber_29 0 rfl ?_
        refine gf_3_3 G h0 t_97 (Or.inl rfl) dX9_scanNumber_30 ?_
        obtain ⟨g4, hf⟩ := gd_e hf
        refine al_text G hk3 g4 dX9_scanNumber_33 ?_
        refine v_bipush (57 : Int32) G dX9_scanNumber_34 (by decide) ?_
        refine v_icmp_gt 89 G dX9_scanNumber_36 (by decide) (fun h11 => ?_) (fun h11 => ?_)
        · replace hf := (if_pos h11).symm.trans hf
          refine v_sub _ [0] rfl ?_
          exact hk89 M hf
        · replace hf := (if_neg h11).symm.trans hf
          refine v_aload_n G dX9_scanNumber_39 0 rfl ?_
          refine gf_3_3 G h0 t_97 (Or.inl rfl) dX9_scanNumber_40 ?_
          refine v_aload_n G dX9_scanNumber_43 0 rfl ?_
          refine gf_3_10 G h0 t_110 (Or.inl rfl) dX9_scanNumber_44 ?_
          refine v_isub G dX9_scanNumber_47 ?_
          refine v_iconst (4 : Int32) G dX9_scanNumber_48 (by decide) ?_
          obtain ⟨j76, ej76, hf⟩ := lt_j hf
          have hj76 : ∀ (M5 : KM), j76 M5 = some y → KV ad cy x (none, y) 76 [(0, .ref (ad a0))] [] M5 := by
            intro M5 hf
            rw [ej76] at hf
            refine v_aload_n G dX9_scanNumber_76 0 rfl ?_
            refine v_dup G dX9_scanNumber_77 rfl ?_
            refine gf_3_3 G h0 t_97 (Or.inl rfl) dX9_scanNumber_78 ?_
            refine v_iconst (1 : Int32) G dX9_scanNumber_81 (by decide) ?_
            refine v_iadd G dX9_scanNumber_82 ?_
            refine pf_3_3 G h0 t_97 (Or.inl rfl) dX9_scanNumber_83 ?_
            refine v_nmM (fun M6 eM6 => ?_)
            replace hf := lt_e hf eM6
            refine v_goto 0 G dX9_scanNumber_86 (by decide) ?_
            refine v_sub _ [0] rfl ?_
            exact ih M6 hf
          refine v_icmp_ge 76 G dX9_scanNumber_49 (by decide) (fun h10 => ?_) (fun h10 => ?_)
          · replace hf := (if_pos h10).symm.trans hf
            refine v_sub _ [0] rfl ?_
            exact hj76 M hf
          · replace hf := (if_neg h10).symm.trans hf
            refine v_aload_n G dX9_scanNumber_52 0 rfl ?_
            refine v_aload_n G dX9_scanNumber_53 0 rfl ?_
            refine gf_3_8 G h0 t_108 (Or.inl rfl) dX9_scanNumber_54 ?_
            refine v_bipush (10 : Int32) G dX9_scanNumber_57 (by decide) ?_
            refine v_imul G dX9_scanNumber_59 ?_
            refine v_aload_n G dX9_scanNumber_60 0 rfl ?_
            refine gf_3_1 G h0 t_95 (Or.inl rfl) dX9_scanNumber_61 ?_
            refine v_kt (fun hKT => ?_)
            have hk7 := hKT.2.2.2.2.1 _ h0
            refine v_aload_n G dX9_scanNumber_64 0 rfl ?_
            refine gf_3_3 G h0 t_97 (Or.inl rfl) dX9_scanNumber_65 ?_
            obtain ⟨g8, hf⟩ := gd_e hf
            refine al_text G hk7 g8 dX9_scanNumber_68 ?_
            refine v_iadd G dX9_scanNumber_69 ?_
            refine v_bipush (48 : Int32) G dX9_scanNumber_70 (by decide) ?_
            refine v_isub G dX9_scanNumber_72 ?_
            refine pf_3_8 G h0 t_108 (Or.inl rfl) dX9_scanNumber_73 ?_
            refine v_nmM (fun M9 eM9 => ?_)
            replace hf := lt_e hf eM9
            refine v_sub _ [0] rfl ?_
            exact hj76 M9 hf
set_option maxRecDepth 100000 in
set_option maxHeartbeats 4000000 in
theorem c_X9_scanNumber_L {l : Launch} {ad : Nat → Nat} {cy : Nat → ClassId} {D : va_G} {z : Nat} (n : Nat) {a0 : Nat} {M : KM} {y : KM} (h0 : kty a0 = 4) (hf : f_X9_scanNumber n a0 M = some y) : KC l ad cy D z yX9_scanNumber cX9_scanNumber 1 none 1 [.ref (ad a0)] M (none, y) := by
  refine kv_enter (by decide +kernel) (Nat.le_of_ble_eq_true rfl) ?_
  intro x hl hD hz G
  subst hl hD hz
  unfold f_X9_scanNumber at hf
  have G : KG ad cy x cX9_scanNumber "NoonGuides$TextReader" 1 (some none) 1 := G
  show KV ad cy x (none, y) 0 [(0, .ref (ad a0))] [] M
  refine v_sub _ [0] rfl ?_
  refine s_X9_scanNumber_0_L G h0 (fun M14 hf => ?_) n M hf
  · refine v_aload_n G dX9_scanNumber_89 0 rfl ?_
    refine v_aload_n G dX9_scanNumber_90 0 rfl ?_
    refine gf_3_3 G h0 t_97 (Or.inl rfl) dX9_scanNumber_91 ?_
    refine v_aload_n G dX9_scanNumber_94 0 rfl ?_
    refine gf_3_10 G h0 t_110 (Or.inl rfl) dX9_scanNumber_95 ?_
    refine v_isub G dX9_scanNumber_98 ?_
    refine v_iconst (4 : Int32) G dX9_scanNumber_99 (by decide) ?_
    obtain ⟨j108, ej108, hf⟩ := lt_j hf
    have hj108 : ∀ (x15 : Int32), j108 x15 = some y → KV ad cy x (none, y) 108 [] [.int x15, .ref (ad a0)] M14 := by
      intro x15 hf
      rw [ej108] at hf
      refine pf_3_6 G h0 t_102 (Or.inl rfl) dX9_scanNumber_108 ?_
      refine v_nmM (fun M16 eM16 => ?_)
      replace hf := lt_e hf eM16
      obtain rfl := Option.some.inj hf
      exact v_vret G dX9_scanNumber_111
    refine v_icmp_le 107 G dX9_scanNumber_100 (by decide) (fun h17 => ?_) (fun h17 => ?_)
    · replace hf := (if_pos h17).symm.trans hf
      refine v_iconst (2 : Int32) G dX9_scanNumber_107 (by decide) ?_
      refine v_sub _ [] rfl ?_
      exact hj108 (2 : Int32) hf
    · replace hf := (if_neg h17).symm.trans hf
      refine v_iconst (4 : Int32) G dX9_scanNumber_103 (by decide) ?_
      refine v_goto 108 G dX9_scanNumber_104 (by decide) ?_
      refine v_sub _ [] rfl ?_
      exact hj108 (4 : Int32) hf
set_option maxRecDepth 100000 in
set_option maxHeartbeats 4000000 in
theorem s_X9_scanNumber_0_D {ad : Nat → Nat} {cy : Nat → ClassId} {x : KX} (G : KG ad cy x cX9_scanNumber "NoonGuides$TextReader" 1 (some none) 1) {a0 : Nat} (h0 : kty a0 = 1) {k89 : KM → Option KM} {y : KM} (hk89 : ∀ (M : KM), k89 M = some y → KV ad cy x (none, y) 89 [(0, .ref (ad a0))] [] M) : ∀ (n : Nat) (M : KM), lp_X9_scanNumber_0 n a0 M k89 = some y → KV ad cy x (none, y) 0 [(0, .ref (ad a0))] [] M := by
  intro n
  induction n with
  | zero =>
    intro M hf
    cases hf
  | succ n ih =>
    intro M hf
    rw [lp_X9_scanNumber_0] at hf
    refine v_aload_n G dX9_scanNumber_0 0 rfl ?_
    refine gf_0_3 G h0 t_97 (Or.inl rfl) dX9_scanNumber_1 ?_
    refine v_aload_n G dX9_scanNumber_4 0 rfl ?_
    refine gf_0_2 G h0 t_96 (Or.inl rfl) dX9_scanNumber_5 ?_
    refine v_icmp_ge 89 G dX9_scanNumber_8 (by decide) (fun h13 => ?_) (fun h13 => ?_)
    · replace hf := (if_pos h13).symm.trans hf
      refine v_sub _ [0] rfl ?_
      exact hk89 M hf
    · replace hf := (if_neg h13).symm.trans hf
      refine v_aload_n G dX9_scanNumber_11 0 rfl ?_
      refine gf_0_1 G h0 t_95 (Or.inl rfl) dX9_scanNumber_12 ?_
      refine v_kt (fun hKT => ?_)
      have hk1 := hKT.2.2.2.2.2.1 _ h0
      refine v_aload_n G dX9_scanNumber_15 0 rfl ?_
      refine gf_0_3 G h0 t_97 (Or.inl rfl) dX9_scanNumber_16 ?_
      obtain ⟨g2, hf⟩ := gd_e hf
      refine al_text G hk1 g2 dX9_scanNumber_19 ?_
      refine v_bipush (48 : Int32) G dX9_scanNumber_20 (by decide) ?_
      refine v_icmp_lt 89 G dX9_scanNumber_22 (by decide) (fun h12 => ?_) (fun h12 => ?_)
      · replace hf := (if_pos h12).symm.trans hf
        refine v_sub _ [0] rfl ?_
        exact hk89 M hf
      · replace hf := (if_neg h12).symm.trans hf
        refine v_aload_n G dX9_scanNumber_25 0 rfl ?_
        refine gf_0_1 G h0 t_95 (Or.inl rfl) dX9_scanNumber_26 ?_
        refine v_kt (fun hKT => ?_)
        have hk3 := hKT.2.2.2.2.2.1 _ h0
        refine v_aload_n G dX9_scanNumber_29 0 rfl ?_
        refine gf_0_3 G h0 t_97 (Or.inl rfl) dX9_scanNumber_30 ?_
        obtain ⟨g4, hf⟩ := gd_e hf
        refine al_text G hk3 g4 dX9_scanNumber_33 ?_
        refine v_bipush (57 : Int32) G dX9_scanNumber_34 (by decide) ?_
        refine v_icmp_gt 89 G dX9_scanNumber_36 (by decide) (fun h11 => ?_) (fun h11 => ?_)
        · replace hf := (if_pos h11).symm.trans hf
          refine v_sub _ [0] rfl ?_
          exact hk89 M hf
        · replace hf := (if_neg h11).symm.trans hf
          refine v_aload_n G dX9_scanNumber_39 0 rfl ?_
          refine gf_0_3 G h0 t_97 (Or.inl rfl) dX9_scanNumber_40 ?_
          refine v_aload_n G dX9_scanNumber_43 0 rfl ?_
          refine gf_0_10 G h0 t_110 (Or.inl rfl) dX9_scanNumber_44 ?_
          refine v_isub G dX9_scanNumber_47 ?_
          refine v_iconst (4 : Int32) G dX9_scanNumber_48 (by decide) ?_
          obtain ⟨j76, ej76, hf⟩ := lt_j hf
          have hj76 : ∀ (M5 : KM), j76 M5 = some y → KV ad cy x (none, y) 76 [(0, .ref (ad a0))] [] M5 := by
            intro M5 hf
            rw [ej76] at hf
            refine v_aload_n G dX9_scanNumber_76 0 rfl ?_
            refine v_dup G dX9_scanNumber_77 rfl ?_
            refine gf_0_3 G h0 t_97 (Or.inl rfl) dX9_scanNumber_78 ?_
            refine v_iconst (1 : Int32) G dX9_scanNumber_81 (by decide) ?_
            refine v_iadd G dX9_scanNumber_82 ?_
            refine pf_0_3 G h0 t_97 (Or.inl rfl) dX9_scanNumber_83 ?_
            refine v_nmM (fun M6 eM6 => ?_)
            replace hf := lt_e hf eM6
            refine v_goto 0 G dX9_scanNumber_86 (by decide) ?_
            refine v_sub _ [0] rfl ?_
            exact ih M6 hf
          refine v_icmp_ge 76 G dX9_scanNumber_49 (by decide) (fun h10 => ?_) (fun h10 => ?_)
          · replace hf := (if_pos h10).symm.trans hf
            refine v_sub _ [0] rfl ?_
            exact hj76 M hf
          · replace hf := (if_neg h10).symm.trans hf
            refine v_aload_n G dX9_scanNumber_52 0 rfl ?_
            refine v_aload_n G dX9_scanNumber_53 0 rfl ?_
            refine gf_0_8 G h0 t_108 (Or.inl rfl) dX9_scanNumber_54 ?_
            refine v_bipush (10 : Int32) G dX9_scanNumber_57 (by decide) ?_
            refine v_imul G dX9_scanNumber_59 ?_
            refine v_aload_n G dX9_scanNumber_60 0 rfl ?_
            refine gf_0_1 G h0 t_95 (Or.inl rfl) dX9_scanNumber_61 ?_
            refine v_kt (fun hKT => ?_)
            have hk7 := hKT.2.2.2.2.2.1 _ h0
            refine v_aload_n G dX9_scanNumber_64 0 rfl ?_
            refine gf_0_3 G h0 t_97 (Or.inl rfl) dX9_scanNumber_65 ?_
            obtain ⟨g8, hf⟩ := gd_e hf
            refine al_text G hk7 g8 dX9_scanNumber_68 ?_
            refine v_iadd G dX9_scanNumber_69 ?_
            refine v_bipush (48 : Int32) G dX9_scanNumber_70 (by decide) ?_
            refine v_isub G dX9_scanNumber_72 ?_
            refine pf_0_8 G h0 t_108 (Or.inl rfl) dX9_scanNumber_73 ?_
            refine v_nmM (fun M9 eM9 => ?_)
            replace hf := lt_e hf eM9
            refine v_sub _ [0] rfl ?_
            exact hj76 M9 hf
set_option maxRecDepth 100000 in
set_option maxHeartbeats 4000000 in
theorem c_X9_scanNumber_D {l : Launch} {ad : Nat → Nat} {cy : Nat → ClassId} {D : va_G} {z : Nat} (n : Nat) {a0 : Nat} {M : KM} {y : KM} (h0 : kty a0 = 1) (hf : f_X9_scanNumber n a0 M = some y) : KC l ad cy D z yX9_scanNumber cX9_scanNumber 1 none 1 [.ref (ad a0)] M (none, y) := by
  refine kv_enter (by decide +kernel) (Nat.le_of_ble_eq_true rfl) ?_
  intro x hl hD hz G
  subst hl hD hz
  unfold f_X9_scanNumber at hf
  have G : KG ad cy x cX9_scanNumber "NoonGuides$TextReader" 1 (some none) 1 := G
  show KV ad cy x (none, y) 0 [(0, .ref (ad a0))] [] M
  refine v_sub _ [0] rfl ?_
  refine s_X9_scanNumber_0_D G h0 (fun M14 hf => ?_) n M hf
  · refine v_aload_n G dX9_scanNumber_89 0 rfl ?_
    refine v_aload_n G dX9_scanNumber_90 0 rfl ?_
    refine gf_0_3 G h0 t_97 (Or.inl rfl) dX9_scanNumber_91 ?_
    refine v_aload_n G dX9_scanNumber_94 0 rfl ?_
    refine gf_0_10 G h0 t_110 (Or.inl rfl) dX9_scanNumber_95 ?_
    refine v_isub G dX9_scanNumber_98 ?_
    refine v_iconst (4 : Int32) G dX9_scanNumber_99 (by decide) ?_
    obtain ⟨j108, ej108, hf⟩ := lt_j hf
    have hj108 : ∀ (x15 : Int32), j108 x15 = some y → KV ad cy x (none, y) 108 [] [.int x15, .ref (ad a0)] M14 := by
      intro x15 hf
      rw [ej108] at hf
      refine pf_0_6 G h0 t_102 (Or.inl rfl) dX9_scanNumber_108 ?_
      refine v_nmM (fun M16 eM16 => ?_)
      replace hf := lt_e hf eM16
      obtain rfl := Option.some.inj hf
      exact v_vret G dX9_scanNumber_111
    refine v_icmp_le 107 G dX9_scanNumber_100 (by decide) (fun h17 => ?_) (fun h17 => ?_)
    · replace hf := (if_pos h17).symm.trans hf
      refine v_iconst (2 : Int32) G dX9_scanNumber_107 (by decide) ?_
      refine v_sub _ [] rfl ?_
      exact hj108 (2 : Int32) hf
    · replace hf := (if_neg h17).symm.trans hf
      refine v_iconst (4 : Int32) G dX9_scanNumber_103 (by decide) ?_
      refine v_goto 108 G dX9_scanNumber_104 (by decide) ?_
      refine v_sub _ [] rfl ?_
      exact hj108 (4 : Int32) hf
abbrev cX9_advance : ByteArray := prog_11_method_3_code
def yX9_advance : MethodName := ⟨RX9, "advance", "()V"⟩
theorem dX9_advance_0 : dc cX9_advance 0 (.aload_n 0) 1 1 := ⟨by decide +kernel, rfl⟩
theorem dX9_advance_1 : dc cX9_advance 1 (.aload_n 0) 1 2 := ⟨by decide +kernel, rfl⟩
theorem dX9_advance_2 : dc cX9_advance 2 (.getfield 62) 3 5 := ⟨by decide +kernel, rfl⟩
theorem dX9_advance_5 : dc cX9_advance 5 (.putfield 53) 3 8 := ⟨by decide +kernel, rfl⟩
theorem dX9_advance_8 : dc cX9_advance 8 (.aload_n 0) 1 9 := ⟨by decide +kernel, rfl⟩
theorem dX9_advance_9 : dc cX9_advance 9 (.getfield 50) 3 12 := ⟨by decide +kernel, rfl⟩
theorem dX9_advance_12 : dc cX9_advance 12 (.aload_n 0) 1 13 := ⟨by decide +kernel, rfl⟩
theorem dX9_advance_13 : dc cX9_advance 13 (.getfield 48) 3 16 := ⟨by decide +kernel, rfl⟩
theorem dX9_advance_16 : dc cX9_advance 16 (.if_icmp .ge 44) 3 19 := ⟨by decide +kernel, rfl⟩
theorem dX9_advance_19 : dc cX9_advance 19 (.aload_n 0) 1 20 := ⟨by decide +kernel, rfl⟩
theorem dX9_advance_20 : dc cX9_advance 20 (.getfield 15) 3 23 := ⟨by decide +kernel, rfl⟩
theorem dX9_advance_23 : dc cX9_advance 23 (.aload_n 0) 1 24 := ⟨by decide +kernel, rfl⟩
theorem dX9_advance_24 : dc cX9_advance 24 (.getfield 50) 3 27 := ⟨by decide +kernel, rfl⟩
theorem dX9_advance_27 : dc cX9_advance 27 (.baload) 1 28 := ⟨by decide +kernel, rfl⟩
theorem dX9_advance_28 : dc cX9_advance 28 (.bipush 32) 2 30 := ⟨by decide +kernel, rfl⟩
theorem dX9_advance_30 : dc cX9_advance 30 (.if_icmp .eq 17) 3 33 := ⟨by decide +kernel, rfl⟩
theorem dX9_advance_33 : dc cX9_advance 33 (.aload_n 0) 1 34 := ⟨by decide +kernel, rfl⟩
theorem dX9_advance_34 : dc cX9_advance 34 (.getfield 15) 3 37 := ⟨by decide +kernel, rfl⟩
theorem dX9_advance_37 : dc cX9_advance 37 (.aload_n 0) 1 38 := ⟨by decide +kernel, rfl⟩
theorem dX9_advance_38 : dc cX9_advance 38 (.getfield 50) 3 41 := ⟨by decide +kernel, rfl⟩
theorem dX9_advance_41 : dc cX9_advance 41 (.baload) 1 42 := ⟨by decide +kernel, rfl⟩
theorem dX9_advance_42 : dc cX9_advance 42 (.bipush 10) 2 44 := ⟨by decide +kernel, rfl⟩
theorem dX9_advance_44 : dc cX9_advance 44 (.if_icmp .ne 16) 3 47 := ⟨by decide +kernel, rfl⟩
theorem dX9_advance_47 : dc cX9_advance 47 (.aload_n 0) 1 48 := ⟨by decide +kernel, rfl⟩
theorem dX9_advance_48 : dc cX9_advance 48 (.dup) 1 49 := ⟨by decide +kernel, rfl⟩
theorem dX9_advance_49 : dc cX9_advance 49 (.getfield 50) 3 52 := ⟨by decide +kernel, rfl⟩
theorem dX9_advance_52 : dc cX9_advance 52 (.iconst 1) 1 53 := ⟨by decide +kernel, rfl⟩
theorem dX9_advance_53 : dc cX9_advance 53 (.iadd) 1 54 := ⟨by decide +kernel, rfl⟩
theorem dX9_advance_54 : dc cX9_advance 54 (.putfield 50) 3 57 := ⟨by decide +kernel, rfl⟩
theorem dX9_advance_57 : dc cX9_advance 57 (.goto (-49)) 3 60 := ⟨by decide +kernel, rfl⟩
theorem dX9_advance_60 : dc cX9_advance 60 (.aload_n 0) 1 61 := ⟨by decide +kernel, rfl⟩
theorem dX9_advance_61 : dc cX9_advance 61 (.aload_n 0) 1 62 := ⟨by decide +kernel, rfl⟩
theorem dX9_advance_62 : dc cX9_advance 62 (.getfield 50) 3 65 := ⟨by decide +kernel, rfl⟩
theorem dX9_advance_65 : dc cX9_advance 65 (.putfield 62) 3 68 := ⟨by decide +kernel, rfl⟩
theorem dX9_advance_68 : dc cX9_advance 68 (.aload_n 0) 1 69 := ⟨by decide +kernel, rfl⟩
theorem dX9_advance_69 : dc cX9_advance 69 (.iconst (-1)) 1 70 := ⟨by decide +kernel, rfl⟩
theorem dX9_advance_70 : dc cX9_advance 70 (.putfield 23) 3 73 := ⟨by decide +kernel, rfl⟩
theorem dX9_advance_73 : dc cX9_advance 73 (.aload_n 0) 1 74 := ⟨by decide +kernel, rfl⟩
theorem dX9_advance_74 : dc cX9_advance 74 (.lconst 0) 1 75 := ⟨by decide +kernel, rfl⟩
theorem dX9_advance_75 : dc cX9_advance 75 (.putfield 65) 3 78 := ⟨by decide +kernel, rfl⟩
theorem dX9_advance_78 : dc cX9_advance 78 (.aload_n 0) 1 79 := ⟨by decide +kernel, rfl⟩
theorem dX9_advance_79 : dc cX9_advance 79 (.iconst 0) 1 80 := ⟨by decide +kernel, rfl⟩
theorem dX9_advance_80 : dc cX9_advance 80 (.putfield 69) 3 83 := ⟨by decide +kernel, rfl⟩
theorem dX9_advance_83 : dc cX9_advance 83 (.aload_n 0) 1 84 := ⟨by decide +kernel, rfl⟩
theorem dX9_advance_84 : dc cX9_advance 84 (.getfield 50) 3 87 := ⟨by decide +kernel, rfl⟩
theorem dX9_advance_87 : dc cX9_advance 87 (.aload_n 0) 1 88 := ⟨by decide +kernel, rfl⟩
theorem dX9_advance_88 : dc cX9_advance 88 (.getfield 48) 3 91 := ⟨by decide +kernel, rfl⟩
theorem dX9_advance_91 : dc cX9_advance 91 (.if_icmp .lt 9) 3 94 := ⟨by decide +kernel, rfl⟩
theorem dX9_advance_94 : dc cX9_advance 94 (.aload_n 0) 1 95 := ⟨by decide +kernel, rfl⟩
theorem dX9_advance_95 : dc cX9_advance 95 (.iconst 0) 1 96 := ⟨by decide +kernel, rfl⟩
theorem dX9_advance_96 : dc cX9_advance 96 (.putfield 72) 3 99 := ⟨by decide +kernel, rfl⟩
theorem dX9_advance_99 : dc cX9_advance 99 (.return_) 1 100 := ⟨by decide +kernel, rfl⟩
theorem dX9_advance_100 : dc cX9_advance 100 (.aload_n 0) 1 101 := ⟨by decide +kernel, rfl⟩
theorem dX9_advance_101 : dc cX9_advance 101 (.getfield 15) 3 104 := ⟨by decide +kernel, rfl⟩
theorem dX9_advance_104 : dc cX9_advance 104 (.aload_n 0) 1 105 := ⟨by decide +kernel, rfl⟩
theorem dX9_advance_105 : dc cX9_advance 105 (.getfield 50) 3 108 := ⟨by decide +kernel, rfl⟩
theorem dX9_advance_108 : dc cX9_advance 108 (.baload) 1 109 := ⟨by decide +kernel, rfl⟩
theorem dX9_advance_109 : dc cX9_advance 109 (.istore_n 1) 1 110 := ⟨by decide +kernel, rfl⟩
theorem dX9_advance_110 : dc cX9_advance 110 (.iload_n 1) 1 111 := ⟨by decide +kernel, rfl⟩
theorem dX9_advance_111 : dc cX9_advance 111 (.bipush 97) 2 113 := ⟨by decide +kernel, rfl⟩
theorem dX9_advance_113 : dc cX9_advance 113 (.if_icmp .lt 16) 3 116 := ⟨by decide +kernel, rfl⟩
theorem dX9_advance_116 : dc cX9_advance 116 (.iload_n 1) 1 117 := ⟨by decide +kernel, rfl⟩
theorem dX9_advance_117 : dc cX9_advance 117 (.bipush 122) 2 119 := ⟨by decide +kernel, rfl⟩
theorem dX9_advance_119 : dc cX9_advance 119 (.if_icmp .gt 10) 3 122 := ⟨by decide +kernel, rfl⟩
theorem dX9_advance_122 : dc cX9_advance 122 (.aload_n 0) 1 123 := ⟨by decide +kernel, rfl⟩
theorem dX9_advance_123 : dc cX9_advance 123 (.invokevirtual 75) 3 126 := ⟨by decide +kernel, rfl⟩
theorem dX9_advance_126 : dc cX9_advance 126 (.goto 80) 3 129 := ⟨by decide +kernel, rfl⟩
theorem dX9_advance_129 : dc cX9_advance 129 (.iload_n 1) 1 130 := ⟨by decide +kernel, rfl⟩
theorem dX9_advance_130 : dc cX9_advance 130 (.bipush 48) 2 132 := ⟨by decide +kernel, rfl⟩
theorem dX9_advance_132 : dc cX9_advance 132 (.if_icmp .lt 16) 3 135 := ⟨by decide +kernel, rfl⟩
theorem dX9_advance_135 : dc cX9_advance 135 (.iload_n 1) 1 136 := ⟨by decide +kernel, rfl⟩
theorem dX9_advance_136 : dc cX9_advance 136 (.bipush 57) 2 138 := ⟨by decide +kernel, rfl⟩
theorem dX9_advance_138 : dc cX9_advance 138 (.if_icmp .gt 10) 3 141 := ⟨by decide +kernel, rfl⟩
theorem dX9_advance_141 : dc cX9_advance 141 (.aload_n 0) 1 142 := ⟨by decide +kernel, rfl⟩
theorem dX9_advance_142 : dc cX9_advance 142 (.invokevirtual 78) 3 145 := ⟨by decide +kernel, rfl⟩
theorem dX9_advance_145 : dc cX9_advance 145 (.goto 61) 3 148 := ⟨by decide +kernel, rfl⟩
theorem dX9_advance_148 : dc cX9_advance 148 (.aload_n 0) 1 149 := ⟨by decide +kernel, rfl⟩
theorem dX9_advance_149 : dc cX9_advance 149 (.iload_n 1) 1 150 := ⟨by decide +kernel, rfl⟩
theorem dX9_advance_150 : dc cX9_advance 150 (.putfield 69) 3 153 := ⟨by decide +kernel, rfl⟩
theorem dX9_advance_153 : dc cX9_advance 153 (.aload_n 0) 1 154 := ⟨by decide +kernel, rfl⟩
theorem dX9_advance_154 : dc cX9_advance 154 (.dup) 1 155 := ⟨by decide +kernel, rfl⟩
theorem dX9_advance_155 : dc cX9_advance 155 (.getfield 50) 3 158 := ⟨by decide +kernel, rfl⟩
theorem dX9_advance_158 : dc cX9_advance 158 (.iconst 1) 1 159 := ⟨by decide +kernel, rfl⟩
theorem dX9_advance_159 : dc cX9_advance 159 (.iadd) 1 160 := ⟨by decide +kernel, rfl⟩
theorem dX9_advance_160 : dc cX9_advance 160 (.putfield 50) 3 163 := ⟨by decide +kernel, rfl⟩
theorem dX9_advance_163 : dc cX9_advance 163 (.iload_n 1) 1 164 := ⟨by decide +kernel, rfl⟩
theorem dX9_advance_164 : dc cX9_advance 164 (.bipush 59) 2 166 := ⟨by decide +kernel, rfl⟩
theorem dX9_advance_166 : dc cX9_advance 166 (.if_icmp .eq 21) 3 169 := ⟨by decide +kernel, rfl⟩
theorem dX9_advance_169 : dc cX9_advance 169 (.iload_n 1) 1 170 := ⟨by decide +kernel, rfl⟩
theorem dX9_advance_170 : dc cX9_advance 170 (.bipush 60) 2 172 := ⟨by decide +kernel, rfl⟩
theorem dX9_advance_172 : dc cX9_advance 172 (.if_icmp .eq 15) 3 175 := ⟨by decide +kernel, rfl⟩
theorem dX9_advance_175 : dc cX9_advance 175 (.iload_n 1) 1 176 := ⟨by decide +kernel, rfl⟩
theorem dX9_advance_176 : dc cX9_advance 176 (.bipush 62) 2 178 := ⟨by decide +kernel, rfl⟩
theorem dX9_advance_178 : dc cX9_advance 178 (.if_icmp .eq 9) 3 181 := ⟨by decide +kernel, rfl⟩
theorem dX9_advance_181 : dc cX9_advance 181 (.iload_n 1) 1 182 := ⟨by decide +kernel, rfl⟩
theorem dX9_advance_182 : dc cX9_advance 182 (.bipush 61) 2 184 := ⟨by decide +kernel, rfl⟩
theorem dX9_advance_184 : dc cX9_advance 184 (.if_icmp .ne 7) 3 187 := ⟨by decide +kernel, rfl⟩
theorem dX9_advance_187 : dc cX9_advance 187 (.iconst 1) 1 188 := ⟨by decide +kernel, rfl⟩
theorem dX9_advance_188 : dc cX9_advance 188 (.goto 4) 3 191 := ⟨by decide +kernel, rfl⟩
theorem dX9_advance_191 : dc cX9_advance 191 (.iconst 0) 1 192 := ⟨by decide +kernel, rfl⟩
theorem dX9_advance_192 : dc cX9_advance 192 (.istore_n 2) 1 193 := ⟨by decide +kernel, rfl⟩
theorem dX9_advance_193 : dc cX9_advance 193 (.aload_n 0) 1 194 := ⟨by decide +kernel, rfl⟩
theorem dX9_advance_194 : dc cX9_advance 194 (.iload_n 2) 1 195 := ⟨by decide +kernel, rfl⟩
theorem dX9_advance_195 : dc cX9_advance 195 (.ifCond .eq 7) 3 198 := ⟨by decide +kernel, rfl⟩
theorem dX9_advance_198 : dc cX9_advance 198 (.iconst 3) 1 199 := ⟨by decide +kernel, rfl⟩
theorem dX9_advance_199 : dc cX9_advance 199 (.goto 4) 3 202 := ⟨by decide +kernel, rfl⟩
theorem dX9_advance_202 : dc cX9_advance 202 (.iconst 4) 1 203 := ⟨by decide +kernel, rfl⟩
theorem dX9_advance_203 : dc cX9_advance 203 (.putfield 72) 3 206 := ⟨by decide +kernel, rfl⟩
theorem dX9_advance_206 : dc cX9_advance 206 (.return_) 1 207 := ⟨by decide +kernel, rfl⟩
theorem nm_X9_advance : (yX9_advance).cls ≠ "java/lang/invoke/MethodHandle" ∧ (yX9_advance).cls ≠ "java/lang/invoke/VarHandle" ∧ (parseMethodDescriptor (yX9_advance).desc).map (fun d => d.parameters.length) = some 0 := ⟨by decide +kernel, by decide +kernel, by decide +kernel⟩
set_option maxRecDepth 100000 in
set_option maxHeartbeats 4000000 in
theorem s_X9_advance_8_L {ad : Nat → Nat} {cy : Nat → ClassId} {x : KX} (G : KG ad cy x cX9_advance "NoonGuides$TextReader" 3 (some none) 2) {a0 : Nat} (h0 : kty a0 = 4) {k60 : KM → Option KM} {y : KM} (hk60 : ∀ (M : KM), k60 M = some y → KV ad cy x (none, y) 60 [(0, .ref (ad a0))] [] M) : ∀ (n : Nat) (M : KM), lp_X9_advance_8 n a0 M k60 = some y → KV ad cy x (none, y) 8 [(0, .ref (ad a0))] [] M := by
  intro n
  induction n with
  | zero =>
    intro M hf
    cases hf
  | succ n ih =>
    intro M hf
    rw [lp_X9_advance_8] at hf
    refine v_aload_n G dX9_advance_8 0 rfl ?_
    refine gf_3_3 G h0 t_97 (Or.inl rfl) dX9_advance_9 ?_
    refine v_aload_n G dX9_advance_12 0 rfl ?_
    refine gf_3_2 G h0 t_96 (Or.inl rfl) dX9_advance_13 ?_
    refine v_icmp_ge 60 G dX9_advance_16 (by decide) (fun h9 => ?_) (fun h9 => ?_)
    · replace hf := (if_pos h9).symm.trans hf
      refine v_sub _ [0] rfl ?_
      exact hk60 M hf
    · replace hf := (if_neg h9).symm.trans hf
      refine v_aload_n G dX9_advance_19 0 rfl ?_
      refine gf_3_1 G h0 t_95 (Or.inl rfl) dX9_advance_20 ?_
      refine v_kt (fun hKT => ?_)
      have hk2 := hKT.2.2.2.2.1 _ h0
      refine v_aload_n G dX9_advance_23 0 rfl ?_
      refine gf_3_3 G h0 t_97 (Or.inl rfl) dX9_advance_24 ?_
      obtain ⟨g3, hf⟩ := gd_e hf
      refine al_text G hk2 g3 dX9_advance_27 ?_
      refine v_bipush (32 : Int32) G dX9_advance_28 (by decide) ?_
      obtain ⟨j47, ej47, hf⟩ := lt_j hf
      have hj47 : j47 = some y → KV ad cy x (none, y) 47 [(0, .ref (ad a0))] [] M := by
        intro hf
        rw [ej47] at hf
        refine v_aload_n G dX9_advance_47 0 rfl ?_
        refine v_dup G dX9_advance_48 rfl ?_
        refine gf_3_3 G h0 t_97 (Or.inl rfl) dX9_advance_49 ?_
        refine v_iconst (1 : Int32) G dX9_advance_52 (by decide) ?_
        refine v_iadd G dX9_advance_53 ?_
        refine pf_3_3 G h0 t_97 (Or.inl rfl) dX9_advance_54 ?_
        refine v_nmM (fun M4 eM4 => ?_)
        replace hf := lt_e hf eM4
        refine v_goto 8 G dX9_advance_57 (by decide) ?_
        refine v_sub _ [0] rfl ?_
        exact ih M4 hf
      refine v_icmp_eq 47 G dX9_advance_30 (by decide) (fun h8 => ?_) (fun h8 => ?_)
      · replace hf := (if_pos h8).symm.trans hf
        refine v_sub _ [0] rfl ?_
        exact hj47 hf
      · replace hf := (if_neg h8).symm.trans hf
        refine v_aload_n G dX9_advance_33 0 rfl ?_
        refine gf_3_1 G h0 t_95 (Or.inl rfl) dX9_advance_34 ?_
        refine v_kt (fun hKT => ?_)
        have hk5 := hKT.2.2.2.2.1 _ h0
        refine v_aload_n G dX9_advance_37 0 rfl ?_
        refine gf_3_3 G h0 t_97 (Or.inl rfl) dX9_advance_38 ?_
        obtain ⟨g6, hf⟩ := gd_e hf
        refine al_text G hk5 g6 dX9_advance_41 ?_
        refine v_bipush (10 : Int32) G dX9_advance_42 (by decide) ?_
        refine v_icmp_ne 60 G dX9_advance_44 (by decide) (fun h7 => ?_) (fun h7 => ?_)
        · replace hf := (if_neg h7).symm.trans hf
          refine v_sub _ [0] rfl ?_
          exact hk60 M hf
        · replace hf := (if_pos h7).symm.trans hf
          refine v_sub _ [0] rfl ?_
          exact hj47 hf
set_option maxRecDepth 100000 in
set_option maxHeartbeats 4000000 in
theorem c_X9_advance_L {l : Launch} {ad : Nat → Nat} {cy : Nat → ClassId} {D : va_G} {z : Nat} (n : Nat) {a0 : Nat} {M : KM} {y : KM} (h0 : kty a0 = 4) (hf : f_X9_advance n a0 M = some y) : KC l ad cy D z yX9_advance cX9_advance 3 none 2 [.ref (ad a0)] M (none, y) := by
  refine kv_enter (by decide +kernel) (Nat.le_of_ble_eq_true rfl) ?_
  intro x hl hD hz G
  subst hl hD hz
  unfold f_X9_advance at hf
  have G : KG ad cy x cX9_advance "NoonGuides$TextReader" 3 (some none) 2 := G
  show KV ad cy x (none, y) 0 [(0, .ref (ad a0))] [] M
  refine v_aload_n G dX9_advance_0 0 rfl ?_
  refine v_aload_n G dX9_advance_1 0 rfl ?_
  refine gf_3_10 G h0 t_110 (Or.inl rfl) dX9_advance_2 ?_
  refine pf_3_11 G h0 t_111 (Or.inl rfl) dX9_advance_5 ?_
  refine v_nmM (fun M1 eM1 => ?_)
  replace hf := lt_e hf eM1
  refine v_sub _ [0] rfl ?_
  refine s_X9_advance_8_L G h0 (fun M10 hf => ?_) n M1 hf
  · refine v_aload_n G dX9_advance_60 0 rfl ?_
    refine v_aload_n G dX9_advance_61 0 rfl ?_
    refine gf_3_3 G h0 t_97 (Or.inl rfl) dX9_advance_62 ?_
    refine pf_3_10 G h0 t_110 (Or.inl rfl) dX9_advance_65 ?_
    refine v_nmM (fun M11 eM11 => ?_)
    replace hf := lt_e hf eM11
    refine v_aload_n G dX9_advance_68 0 rfl ?_
    refine v_iconst (-1 : Int32) G dX9_advance_69 (by decide) ?_
    refine pf_3_7 G h0 t_103 (Or.inl rfl) dX9_advance_70 ?_
    refine v_nmM (fun M12 eM12 => ?_)
    replace hf := lt_e hf eM12
    refine v_aload_n G dX9_advance_73 0 rfl ?_
    refine v_lconst (0 : Int64) G dX9_advance_74 (by decide) ?_
    refine pf_3_9 G h0 t_109 (Or.inl rfl) dX9_advance_75 ?_
    refine v_nmM (fun M13 eM13 => ?_)
    replace hf := lt_e hf eM13
    refine v_aload_n G dX9_advance_78 0 rfl ?_
    refine v_iconst (0 : Int32) G dX9_advance_79 (by decide) ?_
    refine pf_3_8 G h0 t_108 (Or.inl rfl) dX9_advance_80 ?_
    refine v_nmM (fun M14 eM14 => ?_)
    replace hf := lt_e hf eM14
    refine v_aload_n G dX9_advance_83 0 rfl ?_
    refine gf_3_3 G h0 t_97 (Or.inl rfl) dX9_advance_84 ?_
    refine v_aload_n G dX9_advance_87 0 rfl ?_
    refine gf_3_2 G h0 t_96 (Or.inl rfl) dX9_advance_88 ?_
    refine v_icmp_lt 100 G dX9_advance_91 (by decide) (fun h35 => ?_) (fun h35 => ?_)
    · replace hf := (if_pos h35).symm.trans hf
      refine v_aload_n G dX9_advance_100 0 rfl ?_
      refine gf_3_1 G h0 t_95 (Or.inl rfl) dX9_advance_101 ?_
      refine v_kt (fun hKT => ?_)
      have hk15 := hKT.2.2.2.2.1 _ h0
      refine v_aload_n G dX9_advance_104 0 rfl ?_
      refine gf_3_3 G h0 t_97 (Or.inl rfl) dX9_advance_105 ?_
      obtain ⟨g16, hf⟩ := gd_e hf
      refine al_text G hk15 g16 dX9_advance_108 ?_
      refine v_nmi (fun v17 ev17 => ?_)
      replace hf := lt_e hf ev17
      refine v_istore_n [(1, .int v17), (0, .ref (ad a0))] G dX9_advance_109 (by decide) rfl ?_
      refine v_iload_n G dX9_advance_110 0 rfl ?_
      refine v_bipush (97 : Int32) G dX9_advance_111 (by decide) ?_
      obtain ⟨j129, ej129, hf⟩ := lt_j hf
      have hj129 : j129 = some y → KV ad cy x (none, y) 129 [(0, .ref (ad a0)), (1, .int v17)] [] M14 := by
        intro hf
        rw [ej129] at hf
        refine v_iload_n G dX9_advance_129 1 rfl ?_
        refine v_bipush (48 : Int32) G dX9_advance_130 (by decide) ?_
        obtain ⟨j148, ej148, hf⟩ := lt_j hf
        have hj148 : j148 = some y → KV ad cy x (none, y) 148 [(0, .ref (ad a0)), (1, .int v17)] [] M14 := by
          intro hf
          rw [ej148] at hf
          refine v_aload_n G dX9_advance_148 0 rfl ?_
          refine v_iload_n G dX9_advance_149 1 rfl ?_
          refine pf_3_8 G h0 t_108 (Or.inl rfl) dX9_advance_150 ?_
          refine v_nmM (fun M18 eM18 => ?_)
          replace hf := lt_e hf eM18
          refine v_aload_n G dX9_advance_153 0 rfl ?_
          refine v_dup G dX9_advance_154 rfl ?_
          refine gf_3_3 G h0 t_97 (Or.inl rfl) dX9_advance_155 ?_
          refine v_iconst (1 : Int32) G dX9_advance_158 (by decide) ?_
          refine v_iadd G dX9_advance_159 ?_
          refine pf_3_3 G h0 t_97 (Or.inl rfl) dX9_advance_160 ?_
          refine v_nmM (fun M19 eM19 => ?_)
          replace hf := lt_e hf eM19
          refine v_iload_n G dX9_advance_163 1 rfl ?_
          refine v_bipush (59 : Int32) G dX9_advance_164 (by decide) ?_
          obtain ⟨j192, ej192, hf⟩ := lt_j hf
          have hj192 : ∀ (x20 : Int32), j192 x20 = some y → KV ad cy x (none, y) 192 [(0, .ref (ad a0))] [.int x20] M19 := by
            intro x20 hf
            rw [ej192] at hf
            refine v_istore_n [(2, .int x20), (0, .ref (ad a0))] G dX9_advance_192 (by decide) rfl ?_
            refine v_aload_n G dX9_advance_193 1 rfl ?_
            refine v_iload_n G dX9_advance_194 0 rfl ?_
            obtain ⟨j203, ej203, hf⟩ := lt_j hf
            have hj203 : ∀ (x21 : Int32), j203 x21 = some y → KV ad cy x (none, y) 203 [] [.int x21, .ref (ad a0)] M19 := by
              intro x21 hf
              rw [ej203] at hf
              refine pf_3_6 G h0 t_102 (Or.inl rfl) dX9_advance_203 ?_
              refine v_nmM (fun M22 eM22 => ?_)
              replace hf := lt_e hf eM22
              obtain rfl := Option.some.inj hf
              exact v_vret G dX9_advance_206
            refine v_if_eq 202 G dX9_advance_195 (by decide) (fun h23 => ?_) (fun h23 => ?_)
            · replace hf := (if_pos h23).symm.trans hf
              refine v_iconst (4 : Int32) G dX9_advance_202 (by decide) ?_
              refine v_sub _ [] rfl ?_
              exact hj203 (4 : Int32) hf
            · replace hf := (if_neg h23).symm.trans hf
              refine v_iconst (3 : Int32) G dX9_advance_198 (by decide) ?_
              refine v_goto 203 G dX9_advance_199 (by decide) ?_
              refine v_sub _ [] rfl ?_
              exact hj203 (3 : Int32) hf
          obtain ⟨j187, ej187, hf⟩ := lt_j hf
          have hj187 : j187 = some y → KV ad cy x (none, y) 187 [(0, .ref (ad a0))] [] M19 := by
            intro hf
            rw [ej187] at hf
            refine v_iconst (1 : Int32) G dX9_advance_187 (by decide) ?_
            refine v_goto 192 G dX9_advance_188 (by decide) ?_
            refine v_sub _ [0] rfl ?_
            exact hj192 (1 : Int32) hf
          refine v_icmp_eq 187 G dX9_advance_166 (by decide) (fun h27 => ?_) (fun h27 => ?_)
          · replace hf := (if_pos h27).symm.trans hf
            refine v_sub _ [0] rfl ?_
            exact hj187 hf
          · replace hf := (if_neg h27).symm.trans hf
            refine v_iload_n G dX9_advance_169 1 rfl ?_
            refine v_bipush (60 : Int32) G dX9_advance_170 (by decide) ?_
            refine v_icmp_eq 187 G dX9_advance_172 (by decide) (fun h26 => ?_) (fun h26 => ?_)
            · replace hf := (if_pos h26).symm.trans hf
              refine v_sub _ [0] rfl ?_
              exact hj187 hf
            · replace hf := (if_neg h26).symm.trans hf
              refine v_iload_n G dX9_advance_175 1 rfl ?_
              refine v_bipush (62 : Int32) G dX9_advance_176 (by decide) ?_
              refine v_icmp_eq 187 G dX9_advance_178 (by decide) (fun h25 => ?_) (fun h25 => ?_)
              · replace hf := (if_pos h25).symm.trans hf
                refine v_sub _ [0] rfl ?_
                exact hj187 hf
              · replace hf := (if_neg h25).symm.trans hf
                refine v_iload_n G dX9_advance_181 1 rfl ?_
                refine v_bipush (61 : Int32) G dX9_advance_182 (by decide) ?_
                refine v_icmp_ne 191 G dX9_advance_184 (by decide) (fun h24 => ?_) (fun h24 => ?_)
                · replace hf := (if_neg h24).symm.trans hf
                  refine v_iconst (0 : Int32) G dX9_advance_191 (by decide) ?_
                  refine v_sub _ [0] rfl ?_
                  exact hj192 (0 : Int32) hf
                · replace hf := (if_pos h24).symm.trans hf
                  refine v_sub _ [0] rfl ?_
                  exact hj187 hf
        refine v_icmp_lt 148 G dX9_advance_132 (by decide) (fun h30 => ?_) (fun h30 => ?_)
        · replace hf := (if_pos h30).symm.trans hf
          refine v_sub _ [0, 1] rfl ?_
          exact hj148 hf
        · replace hf := (if_neg h30).symm.trans hf
          refine v_iload_n G dX9_advance_135 1 rfl ?_
          refine v_bipush (57 : Int32) G dX9_advance_136 (by decide) ?_
          refine v_icmp_gt 148 G dX9_advance_138 (by decide) (fun h29 => ?_) (fun h29 => ?_)
          · replace hf := (if_pos h29).symm.trans hf
            refine v_sub _ [0, 1] rfl ?_
            exact hj148 hf
          · replace hf := (if_neg h29).symm.trans hf
            refine v_aload_n G dX9_advance_141 0 rfl ?_
            obtain ⟨v28, hcv28, hf⟩ := bd_e hf
            refine v_callU (owner := "NoonGuides$TextReader") [] G (c_X9_scanNumber_L n h0 hcv28) h0 (by decide) rfl rfl t_1014 t_1285 t_1016 t_x2 t_2 t_1017 rfl nm_X9_scanNumber (by decide) (by decide) rfl rfl (Nat.le_of_ble_eq_true rfl) dX9_advance_142 (kv_rv ?_)
            refine v_goto 206 G dX9_advance_145 (by decide) ?_
            obtain rfl := Option.some.inj hf
            exact v_vret G dX9_advance_206
      refine v_icmp_lt 129 G dX9_advance_113 (by decide) (fun h33 => ?_) (fun h33 => ?_)
      · replace hf := (if_pos h33).symm.trans hf
        refine v_sub _ [1, 0] rfl ?_
        exact hj129 hf
      · replace hf := (if_neg h33).symm.trans hf
        refine v_iload_n G dX9_advance_116 0 rfl ?_
        refine v_bipush (122 : Int32) G dX9_advance_117 (by decide) ?_
        refine v_icmp_gt 129 G dX9_advance_119 (by decide) (fun h32 => ?_) (fun h32 => ?_)
        · replace hf := (if_pos h32).symm.trans hf
          refine v_sub _ [1, 0] rfl ?_
          exact hj129 hf
        · replace hf := (if_neg h32).symm.trans hf
          refine v_aload_n G dX9_advance_122 1 rfl ?_
          obtain ⟨v31, hcv31, hf⟩ := bd_e hf
          refine v_callU (owner := "NoonGuides$TextReader") [] G (c_X9_scanWord_L n h0 hcv31) h0 (by decide) rfl rfl t_1010 t_1284 t_1012 t_x1 t_2 t_1013 rfl nm_X9_scanWord (by decide) (by decide) rfl rfl (Nat.le_of_ble_eq_true rfl) dX9_advance_123 (kv_rv ?_)
          refine v_goto 206 G dX9_advance_126 (by decide) ?_
          obtain rfl := Option.some.inj hf
          exact v_vret G dX9_advance_206
    · replace hf := (if_neg h35).symm.trans hf
      refine v_aload_n G dX9_advance_94 0 rfl ?_
      refine v_iconst (0 : Int32) G dX9_advance_95 (by decide) ?_
      refine pf_3_6 G h0 t_102 (Or.inl rfl) dX9_advance_96 ?_
      refine v_nmM (fun M34 eM34 => ?_)
      replace hf := lt_e hf eM34
      obtain rfl := Option.some.inj hf
      exact v_vret G dX9_advance_99
set_option maxRecDepth 100000 in
set_option maxHeartbeats 4000000 in
theorem s_X9_advance_8_D {ad : Nat → Nat} {cy : Nat → ClassId} {x : KX} (G : KG ad cy x cX9_advance "NoonGuides$TextReader" 3 (some none) 2) {a0 : Nat} (h0 : kty a0 = 1) {k60 : KM → Option KM} {y : KM} (hk60 : ∀ (M : KM), k60 M = some y → KV ad cy x (none, y) 60 [(0, .ref (ad a0))] [] M) : ∀ (n : Nat) (M : KM), lp_X9_advance_8 n a0 M k60 = some y → KV ad cy x (none, y) 8 [(0, .ref (ad a0))] [] M := by
  intro n
  induction n with
  | zero =>
    intro M hf
    cases hf
  | succ n ih =>
    intro M hf
    rw [lp_X9_advance_8] at hf
    refine v_aload_n G dX9_advance_8 0 rfl ?_
    refine gf_0_3 G h0 t_97 (Or.inl rfl) dX9_advance_9 ?_
    refine v_aload_n G dX9_advance_12 0 rfl ?_
    refine gf_0_2 G h0 t_96 (Or.inl rfl) dX9_advance_13 ?_
    refine v_icmp_ge 60 G dX9_advance_16 (by decide) (fun h9 => ?_) (fun h9 => ?_)
    · replace hf := (if_pos h9).symm.trans hf
      refine v_sub _ [0] rfl ?_
      exact hk60 M hf
    · replace hf := (if_neg h9).symm.trans hf
      refine v_aload_n G dX9_advance_19 0 rfl ?_
      refine gf_0_1 G h0 t_95 (Or.inl rfl) dX9_advance_20 ?_
      refine v_kt (fun hKT => ?_)
      have hk2 := hKT.2.2.2.2.2.1 _ h0
      refine v_aload_n G dX9_advance_23 0 rfl ?_
      refine gf_0_3 G h0 t_97 (Or.inl rfl) dX9_advance_24 ?_
      obtain ⟨g3, hf⟩ := gd_e hf
      refine al_text G hk2 g3 dX9_advance_27 ?_
      refine v_bipush (32 : Int32) G dX9_advance_28 (by decide) ?_
      obtain ⟨j47, ej47, hf⟩ := lt_j hf
      have hj47 : j47 = some y → KV ad cy x (none, y) 47 [(0, .ref (ad a0))] [] M := by
        intro hf
        rw [ej47] at hf
        refine v_aload_n G dX9_advance_47 0 rfl ?_
        refine v_dup G dX9_advance_48 rfl ?_
        refine gf_0_3 G h0 t_97 (Or.inl rfl) dX9_advance_49 ?_
        refine v_iconst (1 : Int32) G dX9_advance_52 (by decide) ?_
        refine v_iadd G dX9_advance_53 ?_
        refine pf_0_3 G h0 t_97 (Or.inl rfl) dX9_advance_54 ?_
        refine v_nmM (fun M4 eM4 => ?_)
        replace hf := lt_e hf eM4
        refine v_goto 8 G dX9_advance_57 (by decide) ?_
        refine v_sub _ [0] rfl ?_
        exact ih M4 hf
      refine v_icmp_eq 47 G dX9_advance_30 (by decide) (fun h8 => ?_) (fun h8 => ?_)
      · replace hf := (if_pos h8).symm.trans hf
        refine v_sub _ [0] rfl ?_
        exact hj47 hf
      · replace hf := (if_neg h8).symm.trans hf
        refine v_aload_n G dX9_advance_33 0 rfl ?_
        refine gf_0_1 G h0 t_95 (Or.inl rfl) dX9_advance_34 ?_
        refine v_kt (fun hKT => ?_)
        have hk5 := hKT.2.2.2.2.2.1 _ h0
        refine v_aload_n G dX9_advance_37 0 rfl ?_
        refine gf_0_3 G h0 t_97 (Or.inl rfl) dX9_advance_38 ?_
        obtain ⟨g6, hf⟩ := gd_e hf
        refine al_text G hk5 g6 dX9_advance_41 ?_
        refine v_bipush (10 : Int32) G dX9_advance_42 (by decide) ?_
        refine v_icmp_ne 60 G dX9_advance_44 (by decide) (fun h7 => ?_) (fun h7 => ?_)
        · replace hf := (if_neg h7).symm.trans hf
          refine v_sub _ [0] rfl ?_
          exact hk60 M hf
        · replace hf := (if_pos h7).symm.trans hf
          refine v_sub _ [0] rfl ?_
          exact hj47 hf
set_option maxRecDepth 100000 in
set_option maxHeartbeats 4000000 in
theorem c_X9_advance_D {l : Launch} {ad : Nat → Nat} {cy : Nat → ClassId} {D : va_G} {z : Nat} (n : Nat) {a0 : Nat} {M : KM} {y : KM} (h0 : kty a0 = 1) (hf : f_X9_advance n a0 M = some y) : KC l ad cy D z yX9_advance cX9_advance 3 none 2 [.ref (ad a0)] M (none, y) := by
  refine kv_enter (by decide +kernel) (Nat.le_of_ble_eq_true rfl) ?_
  intro x hl hD hz G
  subst hl hD hz
  unfold f_X9_advance at hf
  have G : KG ad cy x cX9_advance "NoonGuides$TextReader" 3 (some none) 2 := G
  show KV ad cy x (none, y) 0 [(0, .ref (ad a0))] [] M
  refine v_aload_n G dX9_advance_0 0 rfl ?_
  refine v_aload_n G dX9_advance_1 0 rfl ?_
  refine gf_0_10 G h0 t_110 (Or.inl rfl) dX9_advance_2 ?_
  refine pf_0_11 G h0 t_111 (Or.inl rfl) dX9_advance_5 ?_
  refine v_nmM (fun M1 eM1 => ?_)
  replace hf := lt_e hf eM1
  refine v_sub _ [0] rfl ?_
  refine s_X9_advance_8_D G h0 (fun M10 hf => ?_) n M1 hf
  · refine v_aload_n G dX9_advance_60 0 rfl ?_
    refine v_aload_n G dX9_advance_61 0 rfl ?_
    refine gf_0_3 G h0 t_97 (Or.inl rfl) dX9_advance_62 ?_
    refine pf_0_10 G h0 t_110 (Or.inl rfl) dX9_advance_65 ?_
    refine v_nmM (fun M11 eM11 => ?_)
    replace hf := lt_e hf eM11
    refine v_aload_n G dX9_advance_68 0 rfl ?_
    refine v_iconst (-1 : Int32) G dX9_advance_69 (by decide) ?_
    refine pf_0_7 G h0 t_103 (Or.inl rfl) dX9_advance_70 ?_
    refine v_nmM (fun M12 eM12 => ?_)
    replace hf := lt_e hf eM12
    refine v_aload_n G dX9_advance_73 0 rfl ?_
    refine v_lconst (0 : Int64) G dX9_advance_74 (by decide) ?_
    refine pf_0_9 G h0 t_109 (Or.inl rfl) dX9_advance_75 ?_
    refine v_nmM (fun M13 eM13 => ?_)
    replace hf := lt_e hf eM13
    refine v_aload_n G dX9_advance_78 0 rfl ?_
    refine v_iconst (0 : Int32) G dX9_advance_79 (by decide) ?_
    refine pf_0_8 G h0 t_108 (Or.inl rfl) dX9_advance_80 ?_
    refine v_nmM (fun M14 eM14 => ?_)
    replace hf := lt_e hf eM14
    refine v_aload_n G dX9_advance_83 0 rfl ?_
    refine gf_0_3 G h0 t_97 (Or.inl rfl) dX9_advance_84 ?_
    refine v_aload_n G dX9_advance_87 0 rfl ?_
    refine gf_0_2 G h0 t_96 (Or.inl rfl) dX9_advance_88 ?_
    refine v_icmp_lt 100 G dX9_advance_91 (by decide) (fun h35 => ?_) (fun h35 => ?_)
    · replace hf := (if_pos h35).symm.trans hf
      refine v_aload_n G dX9_advance_100 0 rfl ?_
      refine gf_0_1 G h0 t_95 (Or.inl rfl) dX9_advance_101 ?_
      refine v_kt (fun hKT => ?_)
      have hk15 := hKT.2.2.2.2.2.1 _ h0
      refine v_aload_n G dX9_advance_104 0 rfl ?_
      refine gf_0_3 G h0 t_97 (Or.inl rfl) dX9_advance_105 ?_
      obtain ⟨g16, hf⟩ := gd_e hf
      refine al_text G hk15 g16 dX9_advance_108 ?_
      refine v_nmi (fun v17 ev17 => ?_)
      replace hf := lt_e hf ev17
      refine v_istore_n [(1, .int v17), (0, .ref (ad a0))] G dX9_advance_109 (by decide) rfl ?_
      refine v_iload_n G dX9_advance_110 0 rfl ?_
      refine v_bipush (97 : Int32) G dX9_advance_111 (by decide) ?_
      obtain ⟨j129, ej129, hf⟩ := lt_j hf
      have hj129 : j129 = some y → KV ad cy x (none, y) 129 [(0, .ref (ad a0)), (1, .int v17)] [] M14 := by
        intro hf
        rw [ej129] at hf
        refine v_iload_n G dX9_advance_129 1 rfl ?_
        refine v_bipush (48 : Int32) G dX9_advance_130 (by decide) ?_
        obtain ⟨j148, ej148, hf⟩ := lt_j hf
        have hj148 : j148 = some y → KV ad cy x (none, y) 148 [(0, .ref (ad a0)), (1, .int v17)] [] M14 := by
          intro hf
          rw [ej148] at hf
          refine v_aload_n G dX9_advance_148 0 rfl ?_
          refine v_iload_n G dX9_advance_149 1 rfl ?_
          refine pf_0_8 G h0 t_108 (Or.inl rfl) dX9_advance_150 ?_
          refine v_nmM (fun M18 eM18 => ?_)
          replace hf := lt_e hf eM18
          refine v_aload_n G dX9_advance_153 0 rfl ?_
          refine v_dup G dX9_advance_154 rfl ?_
          refine gf_0_3 G h0 t_97 (Or.inl rfl) dX9_advance_155 ?_
          refine v_iconst (1 : Int32) G dX9_advance_158 (by decide) ?_
          refine v_iadd G dX9_advance_159 ?_
          refine pf_0_3 G h0 t_97 (Or.inl rfl) dX9_advance_160 ?_
          refine v_nmM (fun M19 eM19 => ?_)
          replace hf := lt_e hf eM19
          refine v_iload_n G dX9_advance_163 1 rfl ?_
          refine v_bipush (59 : Int32) G dX9_advance_164 (by decide) ?_
          obtain ⟨j192, ej192, hf⟩ := lt_j hf
          have hj192 : ∀ (x20 : Int32), j192 x20 = some y → KV ad cy x (none, y) 192 [(0, .ref (ad a0))] [.int x20] M19 := by
            intro x20 hf
            rw [ej192] at hf
            refine v_istore_n [(2, .int x20), (0, .ref (ad a0))] G dX9_advance_192 (by decide) rfl ?_
            refine v_aload_n G dX9_advance_193 1 rfl ?_
            refine v_iload_n G dX9_advance_194 0 rfl ?_
            obtain ⟨j203, ej203, hf⟩ := lt_j hf
            have hj203 : ∀ (x21 : Int32), j203 x21 = some y → KV ad cy x (none, y) 203 [] [.int x21, .ref (ad a0)] M19 := by
              intro x21 hf
              rw [ej203] at hf
              refine pf_0_6 G h0 t_102 (Or.inl rfl) dX9_advance_203 ?_
              refine v_nmM (fun M22 eM22 => ?_)
              replace hf := lt_e hf eM22
              obtain rfl := Option.some.inj hf
              exact v_vret G dX9_advance_206
            refine v_if_eq 202 G dX9_advance_195 (by decide) (fun h23 => ?_) (fun h23 => ?_)
            · replace hf := (if_pos h23).symm.trans hf
              refine v_iconst (4 : Int32) G dX9_advance_202 (by decide) ?_
              refine v_sub _ [] rfl ?_
              exact hj203 (4 : Int32) hf
            · replace hf := (if_neg h23).symm.trans hf
              refine v_iconst (3 : Int32) G dX9_advance_198 (by decide) ?_
              refine v_goto 203 G dX9_advance_199 (by decide) ?_
              refine v_sub _ [] rfl ?_
              exact hj203 (3 : Int32) hf
          obtain ⟨j187, ej187, hf⟩ := lt_j hf
          have hj187 : j187 = some y → KV ad cy x (none, y) 187 [(0, .ref (ad a0))] [] M19 := by
            intro hf
            rw [ej187] at hf
            refine v_iconst (1 : Int32) G dX9_advance_187 (by decide) ?_
            refine v_goto 192 G dX9_advance_188 (by decide) ?_
            refine v_sub _ [0] rfl ?_
            exact hj192 (1 : Int32) hf
          refine v_icmp_eq 187 G dX9_advance_166 (by decide) (fun h27 => ?_) (fun h27 => ?_)
          · replace hf := (if_pos h27).symm.trans hf
            refine v_sub _ [0] rfl ?_
            exact hj187 hf
          · replace hf := (if_neg h27).symm.trans hf
            refine v_iload_n G dX9_advance_169 1 rfl ?_
            refine v_bipush (60 : Int32) G dX9_advance_170 (by decide) ?_
            refine v_icmp_eq 187 G dX9_advance_172 (by decide) (fun h26 => ?_) (fun h26 => ?_)
            · replace hf := (if_pos h26).symm.trans hf
              refine v_sub _ [0] rfl ?_
              exact hj187 hf
            · replace hf := (if_neg h26).symm.trans hf
              refine v_iload_n G dX9_advance_175 1 rfl ?_
              refine v_bipush (62 : Int32) G dX9_advance_176 (by decide) ?_
              refine v_icmp_eq 187 G dX9_advance_178 (by decide) (fun h25 => ?_) (fun h25 => ?_)
              · replace hf := (if_pos h25).symm.trans hf
                refine v_sub _ [0] rfl ?_
                exact hj187 hf
              · replace hf := (if_neg h25).symm.trans hf
                refine v_iload_n G dX9_advance_181 1 rfl ?_
                refine v_bipush (61 : Int32) G dX9_advance_182 (by decide) ?_
                refine v_icmp_ne 191 G dX9_advance_184 (by decide) (fun h24 => ?_) (fun h24 => ?_)
                · replace hf := (if_neg h24).symm.trans hf
                  refine v_iconst (0 : Int32) G dX9_advance_191 (by decide) ?_
                  refine v_sub _ [0] rfl ?_
                  exact hj192 (0 : Int32) hf
                · replace hf := (if_pos h24).symm.trans hf
                  refine v_sub _ [0] rfl ?_
                  exact hj187 hf
        refine v_icmp_lt 148 G dX9_advance_132 (by decide) (fun h30 => ?_) (fun h30 => ?_)
        · replace hf := (if_pos h30).symm.trans hf
          refine v_sub _ [0, 1] rfl ?_
          exact hj148 hf
        · replace hf := (if_neg h30).symm.trans hf
          refine v_iload_n G dX9_advance_135 1 rfl ?_
          refine v_bipush (57 : Int32) G dX9_advance_136 (by decide) ?_
          refine v_icmp_gt 148 G dX9_advance_138 (by decide) (fun h29 => ?_) (fun h29 => ?_)
          · replace hf := (if_pos h29).symm.trans hf
            refine v_sub _ [0, 1] rfl ?_
            exact hj148 hf
          · replace hf := (if_neg h29).symm.trans hf
            refine v_aload_n G dX9_advance_141 0 rfl ?_
            obtain ⟨v28, hcv28, hf⟩ := bd_e hf
            refine v_callU (owner := "NoonGuides$TextReader") [] G (c_X9_scanNumber_D n h0 hcv28) h0 (by decide) rfl rfl t_1014 t_1285 t_1016 t_x6 t_2 t_1017 rfl nm_X9_scanNumber (by decide) (by decide) rfl rfl (Nat.le_of_ble_eq_true rfl) dX9_advance_142 (kv_rv ?_)
            refine v_goto 206 G dX9_advance_145 (by decide) ?_
            obtain rfl := Option.some.inj hf
            exact v_vret G dX9_advance_206
      refine v_icmp_lt 129 G dX9_advance_113 (by decide) (fun h33 => ?_) (fun h33 => ?_)
      · replace hf := (if_pos h33).symm.trans hf
        refine v_sub _ [1, 0] rfl ?_
        exact hj129 hf
      · replace hf := (if_neg h33).symm.trans hf
        refine v_iload_n G dX9_advance_116 0 rfl ?_
        refine v_bipush (122 : Int32) G dX9_advance_117 (by decide) ?_
        refine v_icmp_gt 129 G dX9_advance_119 (by decide) (fun h32 => ?_) (fun h32 => ?_)
        · replace hf := (if_pos h32).symm.trans hf
          refine v_sub _ [1, 0] rfl ?_
          exact hj129 hf
        · replace hf := (if_neg h32).symm.trans hf
          refine v_aload_n G dX9_advance_122 1 rfl ?_
          obtain ⟨v31, hcv31, hf⟩ := bd_e hf
          refine v_callU (owner := "NoonGuides$TextReader") [] G (c_X9_scanWord_D n h0 hcv31) h0 (by decide) rfl rfl t_1010 t_1284 t_1012 t_x5 t_2 t_1013 rfl nm_X9_scanWord (by decide) (by decide) rfl rfl (Nat.le_of_ble_eq_true rfl) dX9_advance_123 (kv_rv ?_)
          refine v_goto 206 G dX9_advance_126 (by decide) ?_
          obtain rfl := Option.some.inj hf
          exact v_vret G dX9_advance_206
    · replace hf := (if_neg h35).symm.trans hf
      refine v_aload_n G dX9_advance_94 0 rfl ?_
      refine v_iconst (0 : Int32) G dX9_advance_95 (by decide) ?_
      refine pf_0_6 G h0 t_102 (Or.inl rfl) dX9_advance_96 ?_
      refine v_nmM (fun M34 eM34 => ?_)
      replace hf := lt_e hf eM34
      obtain rfl := Option.some.inj hf
      exact v_vret G dX9_advance_99
abbrev cX9_begin : ByteArray := prog_11_method_2_code
def yX9_begin : MethodName := ⟨RX9, "begin", "([BI)V"⟩
theorem dX9_begin_0 : dc cX9_begin 0 (.aload_n 0) 1 1 := ⟨by decide +kernel, rfl⟩
theorem dX9_begin_1 : dc cX9_begin 1 (.aload_n 1) 1 2 := ⟨by decide +kernel, rfl⟩
theorem dX9_begin_2 : dc cX9_begin 2 (.putfield 15) 3 5 := ⟨by decide +kernel, rfl⟩
theorem dX9_begin_5 : dc cX9_begin 5 (.aload_n 0) 1 6 := ⟨by decide +kernel, rfl⟩
theorem dX9_begin_6 : dc cX9_begin 6 (.iload_n 2) 1 7 := ⟨by decide +kernel, rfl⟩
theorem dX9_begin_7 : dc cX9_begin 7 (.aload_n 1) 1 8 := ⟨by decide +kernel, rfl⟩
theorem dX9_begin_8 : dc cX9_begin 8 (.arraylength) 1 9 := ⟨by decide +kernel, rfl⟩
theorem dX9_begin_9 : dc cX9_begin 9 (.invokestatic 42) 3 12 := ⟨by decide +kernel, rfl⟩
theorem dX9_begin_12 : dc cX9_begin 12 (.putfield 48) 3 15 := ⟨by decide +kernel, rfl⟩
theorem dX9_begin_15 : dc cX9_begin 15 (.aload_n 0) 1 16 := ⟨by decide +kernel, rfl⟩
theorem dX9_begin_16 : dc cX9_begin 16 (.iconst 0) 1 17 := ⟨by decide +kernel, rfl⟩
theorem dX9_begin_17 : dc cX9_begin 17 (.putfield 50) 3 20 := ⟨by decide +kernel, rfl⟩
theorem dX9_begin_20 : dc cX9_begin 20 (.aload_n 0) 1 21 := ⟨by decide +kernel, rfl⟩
theorem dX9_begin_21 : dc cX9_begin 21 (.iconst 0) 1 22 := ⟨by decide +kernel, rfl⟩
theorem dX9_begin_22 : dc cX9_begin 22 (.putfield 53) 3 25 := ⟨by decide +kernel, rfl⟩
theorem dX9_begin_25 : dc cX9_begin 25 (.aload_n 0) 1 26 := ⟨by decide +kernel, rfl⟩
theorem dX9_begin_26 : dc cX9_begin 26 (.iconst 0) 1 27 := ⟨by decide +kernel, rfl⟩
theorem dX9_begin_27 : dc cX9_begin 27 (.putfield 56) 3 30 := ⟨by decide +kernel, rfl⟩
theorem dX9_begin_30 : dc cX9_begin 30 (.aload_n 0) 1 31 := ⟨by decide +kernel, rfl⟩
theorem dX9_begin_31 : dc cX9_begin 31 (.iconst (-1)) 1 32 := ⟨by decide +kernel, rfl⟩
theorem dX9_begin_32 : dc cX9_begin 32 (.putfield 19) 3 35 := ⟨by decide +kernel, rfl⟩
theorem dX9_begin_35 : dc cX9_begin 35 (.aload_n 0) 1 36 := ⟨by decide +kernel, rfl⟩
theorem dX9_begin_36 : dc cX9_begin 36 (.invokevirtual 59) 3 39 := ⟨by decide +kernel, rfl⟩
theorem dX9_begin_39 : dc cX9_begin 39 (.return_) 1 40 := ⟨by decide +kernel, rfl⟩
theorem nm_X9_begin : (yX9_begin).cls ≠ "java/lang/invoke/MethodHandle" ∧ (yX9_begin).cls ≠ "java/lang/invoke/VarHandle" ∧ (parseMethodDescriptor (yX9_begin).desc).map (fun d => d.parameters.length) = some 2 := ⟨by decide +kernel, by decide +kernel, by decide +kernel⟩
set_option maxRecDepth 100000 in
set_option maxHeartbeats 4000000 in
theorem c_X9_begin_L {l : Launch} {ad : Nat → Nat} {cy : Nat → ClassId} {D : va_G} {z : Nat} (n : Nat) {a0 : Nat} {a1 : Nat} {p2 : Int32} {M : KM} {y : KM} (h0 : kty a0 = 4) (h1 : kty a1 = 21 ∨ kty a1 = 25) (hf : f_X9_begin n a0 a1 p2 M = some y) : KC l ad cy D z yX9_begin cX9_begin 3 none 3 [.ref (ad a0), .ref (ad a1), .int p2] M (none, y) := by
  refine kv_enter (by decide +kernel) (Nat.le_of_ble_eq_true rfl) ?_
  intro x hl hD hz G
  subst hl hD hz
  unfold f_X9_begin at hf
  have G : KG ad cy x cX9_begin "NoonGuides$TextReader" 3 (some none) 3 := G
  show KV ad cy x (none, y) 0 [(0, .ref (ad a0)), (1, .ref (ad a1)), (2, .int p2)] [] M
  refine v_aload_n G dX9_begin_0 0 rfl ?_
  refine v_aload_n G dX9_begin_1 1 rfl ?_
  refine pf_3_1 G h0 (ktu_3_1 h0 h1) t_95 (Or.inl rfl) dX9_begin_2 ?_
  refine v_nmM (fun M1 eM1 => ?_)
  replace hf := lt_e hf eM1
  refine v_aload_n G dX9_begin_5 0 rfl ?_
  refine v_iload_n G dX9_begin_6 2 rfl ?_
  refine v_aload_n G dX9_begin_7 1 rfl ?_
  refine v_tlen G h1 dX9_begin_8 ?_
  refine v_mmin G (by decide) t_1005 t_666 t_17 t_667 (Nat.le_of_ble_eq_true rfl) dX9_begin_9 ?_
  refine v_nmi (fun v2 ev2 => ?_)
  replace hf := lt_e hf ev2
  refine pf_3_2 G h0 t_96 (Or.inl rfl) dX9_begin_12 ?_
  refine v_nmM (fun M3 eM3 => ?_)
  replace hf := lt_e hf eM3
  refine v_aload_n G dX9_begin_15 0 rfl ?_
  refine v_iconst (0 : Int32) G dX9_begin_16 (by decide) ?_
  refine pf_3_3 G h0 t_97 (Or.inl rfl) dX9_begin_17 ?_
  refine v_nmM (fun M4 eM4 => ?_)
  replace hf := lt_e hf eM4
  refine v_aload_n G dX9_begin_20 0 rfl ?_
  refine v_iconst (0 : Int32) G dX9_begin_21 (by decide) ?_
  refine pf_3_11 G h0 t_111 (Or.inl rfl) dX9_begin_22 ?_
  refine v_nmM (fun M5 eM5 => ?_)
  replace hf := lt_e hf eM5
  refine v_aload_n G dX9_begin_25 0 rfl ?_
  refine v_iconst (0 : Int32) G dX9_begin_26 (by decide) ?_
  refine pf_3_4 G h0 t_98 (Or.inl rfl) dX9_begin_27 ?_
  refine v_nmM (fun M6 eM6 => ?_)
  replace hf := lt_e hf eM6
  refine v_aload_n G dX9_begin_30 0 rfl ?_
  refine v_iconst (-1 : Int32) G dX9_begin_31 (by decide) ?_
  refine pf_3_5 G h0 t_100 (Or.inl rfl) dX9_begin_32 ?_
  refine v_nmM (fun M7 eM7 => ?_)
  replace hf := lt_e hf eM7
  refine v_aload_n G dX9_begin_35 0 rfl ?_
  obtain ⟨v8, hcv8, hf⟩ := bd_e hf
  refine v_callU (owner := "NoonGuides$TextReader") [] G (c_X9_advance_L n h0 hcv8) h0 (by decide) rfl rfl t_1006 t_1283 t_1008 t_x0 t_2 t_1009 rfl nm_X9_advance (by decide) (by decide) rfl rfl (Nat.le_of_ble_eq_true rfl) dX9_begin_36 (kv_rv ?_)
  obtain rfl := Option.some.inj hf
  exact v_vret G dX9_begin_39
set_option maxRecDepth 100000 in
set_option maxHeartbeats 4000000 in
theorem c_X9_begin_D {l : Launch} {ad : Nat → Nat} {cy : Nat → ClassId} {D : va_G} {z : Nat} (n : Nat) {a0 : Nat} {a1 : Nat} {p2 : Int32} {M : KM} {y : KM} (h0 : kty a0 = 1) (h1 : kty a1 = 21 ∨ kty a1 = 25) (hf : f_X9_begin n a0 a1 p2 M = some y) : KC l ad cy D z yX9_begin cX9_begin 3 none 3 [.ref (ad a0), .ref (ad a1), .int p2] M (none, y) := by
  refine kv_enter (by decide +kernel) (Nat.le_of_ble_eq_true rfl) ?_
  intro x hl hD hz G
  subst hl hD hz
  unfold f_X9_begin at hf
  have G : KG ad cy x cX9_begin "NoonGuides$TextReader" 3 (some none) 3 := G
  show KV ad cy x (none, y) 0 [(0, .ref (ad a0)), (1, .ref (ad a1)), (2, .int p2)] [] M
  refine v_aload_n G dX9_begin_0 0 rfl ?_
  refine v_aload_n G dX9_begin_1 1 rfl ?_
  refine pf_0_1 G h0 (ktu_0_1 h0 h1) t_95 (Or.inl rfl) dX9_begin_2 ?_
  refine v_nmM (fun M1 eM1 => ?_)
  replace hf := lt_e hf eM1
  refine v_aload_n G dX9_begin_5 0 rfl ?_
  refine v_iload_n G dX9_begin_6 2 rfl ?_
  refine v_aload_n G dX9_begin_7 1 rfl ?_
  refine v_tlen G h1 dX9_begin_8 ?_
  refine v_mmin G (by decide) t_1005 t_666 t_17 t_667 (Nat.le_of_ble_eq_true rfl) dX9_begin_9 ?_
  refine v_nmi (fun v2 ev2 => ?_)
  replace hf := lt_e hf ev2
  refine pf_0_2 G h0 t_96 (Or.inl rfl) dX9_begin_12 ?_
  refine v_nmM (fun M3 eM3 => ?_)
  replace hf := lt_e hf eM3
  refine v_aload_n G dX9_begin_15 0 rfl ?_
  refine v_iconst (0 : Int32) G dX9_begin_16 (by decide) ?_
  refine pf_0_3 G h0 t_97 (Or.inl rfl) dX9_begin_17 ?_
  refine v_nmM (fun M4 eM4 => ?_)
  replace hf := lt_e hf eM4
  refine v_aload_n G dX9_begin_20 0 rfl ?_
  refine v_iconst (0 : Int32) G dX9_begin_21 (by decide) ?_
  refine pf_0_11 G h0 t_111 (Or.inl rfl) dX9_begin_22 ?_
  refine v_nmM (fun M5 eM5 => ?_)
  replace hf := lt_e hf eM5
  refine v_aload_n G dX9_begin_25 0 rfl ?_
  refine v_iconst (0 : Int32) G dX9_begin_26 (by decide) ?_
  refine pf_0_4 G h0 t_98 (Or.inl rfl) dX9_begin_27 ?_
  refine v_nmM (fun M6 eM6 => ?_)
  replace hf := lt_e hf eM6
  refine v_aload_n G dX9_begin_30 0 rfl ?_
  refine v_iconst (-1 : Int32) G dX9_begin_31 (by decide) ?_
  refine pf_0_5 G h0 t_100 (Or.inl rfl) dX9_begin_32 ?_
  refine v_nmM (fun M7 eM7 => ?_)
  replace hf := lt_e hf eM7
  refine v_aload_n G dX9_begin_35 0 rfl ?_
  obtain ⟨v8, hcv8, hf⟩ := bd_e hf
  refine v_callU (owner := "NoonGuides$TextReader") [] G (c_X9_advance_D n h0 hcv8) h0 (by decide) rfl rfl t_1006 t_1283 t_1008 t_x4 t_2 t_1009 rfl nm_X9_advance (by decide) (by decide) rfl rfl (Nat.le_of_ble_eq_true rfl) dX9_begin_36 (kv_rv ?_)
  obtain rfl := Option.some.inj hf
  exact v_vret G dX9_begin_39
abbrev cX9_fail : ByteArray := prog_11_method_6_code
def yX9_fail : MethodName := ⟨RX9, "fail", "(I)Z"⟩
theorem dX9_fail_0 : dc cX9_fail 0 (.aload_n 0) 1 1 := ⟨by decide +kernel, rfl⟩
theorem dX9_fail_1 : dc cX9_fail 1 (.iload_n 1) 1 2 := ⟨by decide +kernel, rfl⟩
theorem dX9_fail_2 : dc cX9_fail 2 (.putfield 56) 3 5 := ⟨by decide +kernel, rfl⟩
theorem dX9_fail_5 : dc cX9_fail 5 (.aload_n 0) 1 6 := ⟨by decide +kernel, rfl⟩
theorem dX9_fail_6 : dc cX9_fail 6 (.aload_n 0) 1 7 := ⟨by decide +kernel, rfl⟩
theorem dX9_fail_7 : dc cX9_fail 7 (.getfield 62) 3 10 := ⟨by decide +kernel, rfl⟩
theorem dX9_fail_10 : dc cX9_fail 10 (.putfield 19) 3 13 := ⟨by decide +kernel, rfl⟩
theorem dX9_fail_13 : dc cX9_fail 13 (.iconst 0) 1 14 := ⟨by decide +kernel, rfl⟩
theorem dX9_fail_14 : dc cX9_fail 14 (.ireturn) 1 15 := ⟨by decide +kernel, rfl⟩
theorem nm_X9_fail : (yX9_fail).cls ≠ "java/lang/invoke/MethodHandle" ∧ (yX9_fail).cls ≠ "java/lang/invoke/VarHandle" ∧ (parseMethodDescriptor (yX9_fail).desc).map (fun d => d.parameters.length) = some 1 := ⟨by decide +kernel, by decide +kernel, by decide +kernel⟩
set_option maxRecDepth 100000 in
theorem z_X9_fail {a0 : Nat} {p1 : Int32} {M : KM} {y : (Int32 × KM)} (hf : f_X9_fail a0 p1 M = y) : (y.1 = 0 ∨ y.1 = 1) := by
  unfold f_X9_fail at hf
  obtain ⟨M1, eM1⟩ : ∃ q : KM, q = (uI M a0 4 p1) := ⟨_, rfl⟩
  replace hf := lt_e hf eM1
  obtain ⟨M2, eM2⟩ : ∃ q : KM, q = (uI M1 a0 5 (M1.1 a0 10)) := ⟨_, rfl⟩
  replace hf := lt_e hf eM2
  obtain rfl := hf
  exact (Or.inl rfl)
set_option maxRecDepth 100000 in
set_option maxHeartbeats 4000000 in
theorem c_X9_fail_L {l : Launch} {ad : Nat → Nat} {cy : Nat → ClassId} {D : va_G} {z : Nat} {a0 : Nat} {p1 : Int32} {M : KM} {y : (Int32 × KM)} (h0 : kty a0 = 4) (hf : f_X9_fail a0 p1 M = y) : KC l ad cy D z yX9_fail cX9_fail 2 (some .boolean) 1 [.ref (ad a0), .int p1] M (some (.int y.1), y.2) := by
  refine kv_enter (by decide +kernel) (Nat.le_of_ble_eq_true rfl) ?_
  intro x hl hD hz G
  subst hl hD hz
  unfold f_X9_fail at hf
  have G : KG ad cy x cX9_fail "NoonGuides$TextReader" 2 (some (some .boolean)) 1 := G
  show KV ad cy x (some (.int y.1), y.2) 0 [(0, .ref (ad a0)), (1, .int p1)] [] M
  refine v_aload_n G dX9_fail_0 0 rfl ?_
  refine v_iload_n G dX9_fail_1 1 rfl ?_
  refine pf_3_4 G h0 t_98 (Or.inl rfl) dX9_fail_2 ?_
  refine v_nmM (fun M1 eM1 => ?_)
  replace hf := lt_e hf eM1
  refine v_aload_n G dX9_fail_5 0 rfl ?_
  refine v_aload_n G dX9_fail_6 0 rfl ?_
  refine gf_3_10 G h0 t_110 (Or.inl rfl) dX9_fail_7 ?_
  refine pf_3_5 G h0 t_100 (Or.inl rfl) dX9_fail_10 ?_
  refine v_nmM (fun M2 eM2 => ?_)
  replace hf := lt_e hf eM2
  refine v_iconst (0 : Int32) G dX9_fail_13 (by decide) ?_
  obtain rfl := hf
  exact v_zret G (Or.inl rfl) dX9_fail_14
set_option maxRecDepth 100000 in
set_option maxHeartbeats 4000000 in
theorem c_X9_fail_D {l : Launch} {ad : Nat → Nat} {cy : Nat → ClassId} {D : va_G} {z : Nat} {a0 : Nat} {p1 : Int32} {M : KM} {y : (Int32 × KM)} (h0 : kty a0 = 1) (hf : f_X9_fail a0 p1 M = y) : KC l ad cy D z yX9_fail cX9_fail 2 (some .boolean) 1 [.ref (ad a0), .int p1] M (some (.int y.1), y.2) := by
  refine kv_enter (by decide +kernel) (Nat.le_of_ble_eq_true rfl) ?_
  intro x hl hD hz G
  subst hl hD hz
  unfold f_X9_fail at hf
  have G : KG ad cy x cX9_fail "NoonGuides$TextReader" 2 (some (some .boolean)) 1 := G
  show KV ad cy x (some (.int y.1), y.2) 0 [(0, .ref (ad a0)), (1, .int p1)] [] M
  refine v_aload_n G dX9_fail_0 0 rfl ?_
  refine v_iload_n G dX9_fail_1 1 rfl ?_
  refine pf_0_4 G h0 t_98 (Or.inl rfl) dX9_fail_2 ?_
  refine v_nmM (fun M1 eM1 => ?_)
  replace hf := lt_e hf eM1
  refine v_aload_n G dX9_fail_5 0 rfl ?_
  refine v_aload_n G dX9_fail_6 0 rfl ?_
  refine gf_0_10 G h0 t_110 (Or.inl rfl) dX9_fail_7 ?_
  refine pf_0_5 G h0 t_100 (Or.inl rfl) dX9_fail_10 ?_
  refine v_nmM (fun M2 eM2 => ?_)
  replace hf := lt_e hf eM2
  refine v_iconst (0 : Int32) G dX9_fail_13 (by decide) ?_
  obtain rfl := hf
  exact v_zret G (Or.inl rfl) dX9_fail_14
abbrev cX9_failTaken : ByteArray := prog_11_method_7_code
def yX9_failTaken : MethodName := ⟨RX9, "failTaken", "(I)Z"⟩
theorem dX9_failTaken_0 : dc cX9_failTaken 0 (.aload_n 0) 1 1 := ⟨by decide +kernel, rfl⟩
theorem dX9_failTaken_1 : dc cX9_failTaken 1 (.iload_n 1) 1 2 := ⟨by decide +kernel, rfl⟩
theorem dX9_failTaken_2 : dc cX9_failTaken 2 (.putfield 56) 3 5 := ⟨by decide +kernel, rfl⟩
theorem dX9_failTaken_5 : dc cX9_failTaken 5 (.aload_n 0) 1 6 := ⟨by decide +kernel, rfl⟩
theorem dX9_failTaken_6 : dc cX9_failTaken 6 (.aload_n 0) 1 7 := ⟨by decide +kernel, rfl⟩
theorem dX9_failTaken_7 : dc cX9_failTaken 7 (.getfield 53) 3 10 := ⟨by decide +kernel, rfl⟩
theorem dX9_failTaken_10 : dc cX9_failTaken 10 (.putfield 19) 3 13 := ⟨by decide +kernel, rfl⟩
theorem dX9_failTaken_13 : dc cX9_failTaken 13 (.iconst 0) 1 14 := ⟨by decide +kernel, rfl⟩
theorem dX9_failTaken_14 : dc cX9_failTaken 14 (.ireturn) 1 15 := ⟨by decide +kernel, rfl⟩
theorem nm_X9_failTaken : (yX9_failTaken).cls ≠ "java/lang/invoke/MethodHandle" ∧ (yX9_failTaken).cls ≠ "java/lang/invoke/VarHandle" ∧ (parseMethodDescriptor (yX9_failTaken).desc).map (fun d => d.parameters.length) = some 1 := ⟨by decide +kernel, by decide +kernel, by decide +kernel⟩
set_option maxRecDepth 100000 in
theorem z_X9_failTaken {a0 : Nat} {p1 : Int32} {M : KM} {y : (Int32 × KM)} (hf : f_X9_failTaken a0 p1 M = y) : (y.1 = 0 ∨ y.1 = 1) := by
  unfold f_X9_failTaken at hf
  obtain ⟨M1, eM1⟩ : ∃ q : KM, q = (uI M a0 4 p1) := ⟨_, rfl⟩
  replace hf := lt_e hf eM1
  obtain ⟨M2, eM2⟩ : ∃ q : KM, q = (uI M1 a0 5 (M1.1 a0 11)) := ⟨_, rfl⟩
  replace hf := lt_e hf eM2
  obtain rfl := hf
  exact (Or.inl rfl)
set_option maxRecDepth 100000 in
set_option maxHeartbeats 4000000 in
theorem c_X9_failTaken_L {l : Launch} {ad : Nat → Nat} {cy : Nat → ClassId} {D : va_G} {z : Nat} {a0 : Nat} {p1 : Int32} {M : KM} {y : (Int32 × KM)} (h0 : kty a0 = 4) (hf : f_X9_failTaken a0 p1 M = y) : KC l ad cy D z yX9_failTaken cX9_failTaken 2 (some .boolean) 1 [.ref (ad a0), .int p1] M (some (.int y.1), y.2) := by
  refine kv_enter (by decide +kernel) (Nat.le_of_ble_eq_true rfl) ?_
  intro x hl hD hz G
  subst hl hD hz
  unfold f_X9_failTaken at hf
  have G : KG ad cy x cX9_failTaken "NoonGuides$TextReader" 2 (some (some .boolean)) 1 := G
  show KV ad cy x (some (.int y.1), y.2) 0 [(0, .ref (ad a0)), (1, .int p1)] [] M
  refine v_aload_n G dX9_failTaken_0 0 rfl ?_
  refine v_iload_n G dX9_failTaken_1 1 rfl ?_
  refine pf_3_4 G h0 t_98 (Or.inl rfl) dX9_failTaken_2 ?_
  refine v_nmM (fun M1 eM1 => ?_)
  replace hf := lt_e hf eM1
  refine v_aload_n G dX9_failTaken_5 0 rfl ?_
  refine v_aload_n G dX9_failTaken_6 0 rfl ?_
  refine gf_3_11 G h0 t_111 (Or.inl rfl) dX9_failTaken_7 ?_
  refine pf_3_5 G h0 t_100 (Or.inl rfl) dX9_failTaken_10 ?_
  refine v_nmM (fun M2 eM2 => ?_)
  replace hf := lt_e hf eM2
  refine v_iconst (0 : Int32) G dX9_failTaken_13 (by decide) ?_
  obtain rfl := hf
  exact v_zret G (Or.inl rfl) dX9_failTaken_14
set_option maxRecDepth 100000 in
set_option maxHeartbeats 4000000 in
theorem c_X9_failTaken_D {l : Launch} {ad : Nat → Nat} {cy : Nat → ClassId} {D : va_G} {z : Nat} {a0 : Nat} {p1 : Int32} {M : KM} {y : (Int32 × KM)} (h0 : kty a0 = 1) (hf : f_X9_failTaken a0 p1 M = y) : KC l ad cy D z yX9_failTaken cX9_failTaken 2 (some .boolean) 1 [.ref (ad a0), .int p1] M (some (.int y.1), y.2) := by
  refine kv_enter (by decide +kernel) (Nat.le_of_ble_eq_true rfl) ?_
  intro x hl hD hz G
  subst hl hD hz
  unfold f_X9_failTaken at hf
  have G : KG ad cy x cX9_failTaken "NoonGuides$TextReader" 2 (some (some .boolean)) 1 := G
  show KV ad cy x (some (.int y.1), y.2) 0 [(0, .ref (ad a0)), (1, .int p1)] [] M
  refine v_aload_n G dX9_failTaken_0 0 rfl ?_
  refine v_iload_n G dX9_failTaken_1 1 rfl ?_
  refine pf_0_4 G h0 t_98 (Or.inl rfl) dX9_failTaken_2 ?_
  refine v_nmM (fun M1 eM1 => ?_)
  replace hf := lt_e hf eM1
  refine v_aload_n G dX9_failTaken_5 0 rfl ?_
  refine v_aload_n G dX9_failTaken_6 0 rfl ?_
  refine gf_0_11 G h0 t_111 (Or.inl rfl) dX9_failTaken_7 ?_
  refine pf_0_5 G h0 t_100 (Or.inl rfl) dX9_failTaken_10 ?_
  refine v_nmM (fun M2 eM2 => ?_)
  replace hf := lt_e hf eM2
  refine v_iconst (0 : Int32) G dX9_failTaken_13 (by decide) ?_
  obtain rfl := hf
  exact v_zret G (Or.inl rfl) dX9_failTaken_14
abbrev cX9_failOrder : ByteArray := prog_11_method_8_code
def yX9_failOrder : MethodName := ⟨RX9, "failOrder", "()Z"⟩
theorem dX9_failOrder_0 : dc cX9_failOrder 0 (.aload_n 0) 1 1 := ⟨by decide +kernel, rfl⟩
theorem dX9_failOrder_1 : dc cX9_failOrder 1 (.aload_n 0) 1 2 := ⟨by decide +kernel, rfl⟩
theorem dX9_failOrder_2 : dc cX9_failOrder 2 (.getfield 72) 3 5 := ⟨by decide +kernel, rfl⟩
theorem dX9_failOrder_5 : dc cX9_failOrder 5 (.iconst 4) 1 6 := ⟨by decide +kernel, rfl⟩
theorem dX9_failOrder_6 : dc cX9_failOrder 6 (.if_icmp .ne 7) 3 9 := ⟨by decide +kernel, rfl⟩
theorem dX9_failOrder_9 : dc cX9_failOrder 9 (.iconst 1) 1 10 := ⟨by decide +kernel, rfl⟩
theorem dX9_failOrder_10 : dc cX9_failOrder 10 (.goto 4) 3 13 := ⟨by decide +kernel, rfl⟩
theorem dX9_failOrder_13 : dc cX9_failOrder 13 (.iconst 2) 1 14 := ⟨by decide +kernel, rfl⟩
theorem dX9_failOrder_14 : dc cX9_failOrder 14 (.invokevirtual 81) 3 17 := ⟨by decide +kernel, rfl⟩
theorem dX9_failOrder_17 : dc cX9_failOrder 17 (.ireturn) 1 18 := ⟨by decide +kernel, rfl⟩
theorem nm_X9_failOrder : (yX9_failOrder).cls ≠ "java/lang/invoke/MethodHandle" ∧ (yX9_failOrder).cls ≠ "java/lang/invoke/VarHandle" ∧ (parseMethodDescriptor (yX9_failOrder).desc).map (fun d => d.parameters.length) = some 0 := ⟨by decide +kernel, by decide +kernel, by decide +kernel⟩
set_option maxRecDepth 100000 in
theorem z_X9_failOrder {a0 : Nat} {M : KM} {y : (Int32 × KM)} (hf : f_X9_failOrder a0 M = y) : (y.1 = 0 ∨ y.1 = 1) := by
  unfold f_X9_failOrder at hf
  obtain ⟨j14, ej14, hf⟩ := lt_j hf
  have hj14 : ∀ (x1 : Int32), j14 x1 = y → (y.1 = 0 ∨ y.1 = 1) := by
    intro x1 hf
    rw [ej14] at hf
    obtain ⟨v2, hcv2⟩ : ∃ q, f_X9_fail a0 x1 M = q := ⟨_, rfl⟩
    replace hf := lt_e hf hcv2.symm
    obtain rfl := hf
    exact (z_X9_fail hcv2)
  by_cases h3 : (M.1 a0 6) = (4 : Int32)
  · replace hf := (if_pos h3).symm.trans hf
    exact hj14 (1 : Int32) hf
  · replace hf := (if_neg h3).symm.trans hf
    exact hj14 (2 : Int32) hf
set_option maxRecDepth 100000 in
set_option maxHeartbeats 4000000 in
theorem c_X9_failOrder_L {l : Launch} {ad : Nat → Nat} {cy : Nat → ClassId} {D : va_G} {z : Nat} {a0 : Nat} {M : KM} {y : (Int32 × KM)} (h0 : kty a0 = 4) (hf : f_X9_failOrder a0 M = y) : KC l ad cy D z yX9_failOrder cX9_failOrder 1 (some .boolean) 2 [.ref (ad a0)] M (some (.int y.1), y.2) := by
  refine kv_enter (by decide +kernel) (Nat.le_of_ble_eq_true rfl) ?_
  intro x hl hD hz G
  subst hl hD hz
  unfold f_X9_failOrder at hf
  have G : KG ad cy x cX9_failOrder "NoonGuides$TextReader" 1 (some (some .boolean)) 2 := G
  show KV ad cy x (some (.int y.1), y.2) 0 [(0, .ref (ad a0))] [] M
  refine v_aload_n G dX9_failOrder_0 0 rfl ?_
  refine v_aload_n G dX9_failOrder_1 0 rfl ?_
  refine gf_3_6 G h0 t_102 (Or.inl rfl) dX9_failOrder_2 ?_
  refine v_iconst (4 : Int32) G dX9_failOrder_5 (by decide) ?_
  obtain ⟨j14, ej14, hf⟩ := lt_j hf
  have hj14 : ∀ (x1 : Int32), j14 x1 = y → KV ad cy x (some (.int y.1), y.2) 14 [] [.int x1, .ref (ad a0)] M := by
    intro x1 hf
    rw [ej14] at hf
    obtain ⟨v2, hcv2⟩ : ∃ q, f_X9_fail a0 x1 M = q := ⟨_, rfl⟩
    replace hf := lt_e hf hcv2.symm
    refine v_callU (owner := "NoonGuides$TextReader") [.int x1] G (c_X9_fail_L h0 hcv2) h0 (by decide) rfl rfl t_1060 t_1286 t_1036 t_1288 t_2 t_1037 rfl nm_X9_fail (by decide) (by decide) rfl rfl (Nat.le_of_ble_eq_true rfl) dX9_failOrder_14 (kv_ri ?_)
    obtain rfl := hf
    exact v_zret G (z_X9_fail hcv2) dX9_failOrder_17
  refine v_icmp_ne 13 G dX9_failOrder_6 (by decide) (fun h3 => ?_) (fun h3 => ?_)
  · replace hf := (if_neg h3).symm.trans hf
    refine v_iconst (2 : Int32) G dX9_failOrder_13 (by decide) ?_
    refine v_sub _ [] rfl ?_
    exact hj14 (2 : Int32) hf
  · replace hf := (if_pos h3).symm.trans hf
    refine v_iconst (1 : Int32) G dX9_failOrder_9 (by decide) ?_
    refine v_goto 14 G dX9_failOrder_10 (by decide) ?_
    refine v_sub _ [] rfl ?_
    exact hj14 (1 : Int32) hf
set_option maxRecDepth 100000 in
set_option maxHeartbeats 4000000 in
theorem c_X9_failOrder_D {l : Launch} {ad : Nat → Nat} {cy : Nat → ClassId} {D : va_G} {z : Nat} {a0 : Nat} {M : KM} {y : (Int32 × KM)} (h0 : kty a0 = 1) (hf : f_X9_failOrder a0 M = y) : KC l ad cy D z yX9_failOrder cX9_failOrder 1 (some .boolean) 2 [.ref (ad a0)] M (some (.int y.1), y.2) := by
  refine kv_enter (by decide +kernel) (Nat.le_of_ble_eq_true rfl) ?_
  intro x hl hD hz G
  subst hl hD hz
  unfold f_X9_failOrder at hf
  have G : KG ad cy x cX9_failOrder "NoonGuides$TextReader" 1 (some (some .boolean)) 2 := G
  show KV ad cy x (some (.int y.1), y.2) 0 [(0, .ref (ad a0))] [] M
  refine v_aload_n G dX9_failOrder_0 0 rfl ?_
  refine v_aload_n G dX9_failOrder_1 0 rfl ?_
  refine gf_0_6 G h0 t_102 (Or.inl rfl) dX9_failOrder_2 ?_
  refine v_iconst (4 : Int32) G dX9_failOrder_5 (by decide) ?_
  obtain ⟨j14, ej14, hf⟩ := lt_j hf
  have hj14 : ∀ (x1 : Int32), j14 x1 = y → KV ad cy x (some (.int y.1), y.2) 14 [] [.int x1, .ref (ad a0)] M := by
    intro x1 hf
    rw [ej14] at hf
    obtain ⟨v2, hcv2⟩ : ∃ q, f_X9_fail a0 x1 M = q := ⟨_, rfl⟩
    replace hf := lt_e hf hcv2.symm
    refine v_callU (owner := "NoonGuides$TextReader") [.int x1] G (c_X9_fail_D h0 hcv2) h0 (by decide) rfl rfl t_1060 t_1286 t_1036 t_1287 t_2 t_1037 rfl nm_X9_fail (by decide) (by decide) rfl rfl (Nat.le_of_ble_eq_true rfl) dX9_failOrder_14 (kv_ri ?_)
    obtain rfl := hf
    exact v_zret G (z_X9_fail hcv2) dX9_failOrder_17
  refine v_icmp_ne 13 G dX9_failOrder_6 (by decide) (fun h3 => ?_) (fun h3 => ?_)
  · replace hf := (if_neg h3).symm.trans hf
    refine v_iconst (2 : Int32) G dX9_failOrder_13 (by decide) ?_
    refine v_sub _ [] rfl ?_
    exact hj14 (2 : Int32) hf
  · replace hf := (if_pos h3).symm.trans hf
    refine v_iconst (1 : Int32) G dX9_failOrder_9 (by decide) ?_
    refine v_goto 14 G dX9_failOrder_10 (by decide) ?_
    refine v_sub _ [] rfl ?_
    exact hj14 (1 : Int32) hf
abbrev cX9_isAtEnd : ByteArray := prog_11_method_9_code
def yX9_isAtEnd : MethodName := ⟨RX9, "isAtEnd", "()Z"⟩
theorem dX9_isAtEnd_0 : dc cX9_isAtEnd 0 (.aload_n 0) 1 1 := ⟨by decide +kernel, rfl⟩
theorem dX9_isAtEnd_1 : dc cX9_isAtEnd 1 (.getfield 72) 3 4 := ⟨by decide +kernel, rfl⟩
theorem dX9_isAtEnd_4 : dc cX9_isAtEnd 4 (.ifCond .ne 7) 3 7 := ⟨by decide +kernel, rfl⟩
theorem dX9_isAtEnd_7 : dc cX9_isAtEnd 7 (.iconst 1) 1 8 := ⟨by decide +kernel, rfl⟩
theorem dX9_isAtEnd_8 : dc cX9_isAtEnd 8 (.goto 4) 3 11 := ⟨by decide +kernel, rfl⟩
theorem dX9_isAtEnd_11 : dc cX9_isAtEnd 11 (.iconst 0) 1 12 := ⟨by decide +kernel, rfl⟩
theorem dX9_isAtEnd_12 : dc cX9_isAtEnd 12 (.ireturn) 1 13 := ⟨by decide +kernel, rfl⟩
theorem nm_X9_isAtEnd : (yX9_isAtEnd).cls ≠ "java/lang/invoke/MethodHandle" ∧ (yX9_isAtEnd).cls ≠ "java/lang/invoke/VarHandle" ∧ (parseMethodDescriptor (yX9_isAtEnd).desc).map (fun d => d.parameters.length) = some 0 := ⟨by decide +kernel, by decide +kernel, by decide +kernel⟩
set_option maxRecDepth 100000 in
theorem z_X9_isAtEnd {a0 : Nat} {M : KM} {y : Int32} (hf : f_X9_isAtEnd a0 M = y) : (y = 0 ∨ y = 1) := by
  unfold f_X9_isAtEnd at hf
  by_cases h1 : (M.1 a0 6) = 0
  · replace hf := (if_pos h1).symm.trans hf
    obtain rfl := hf
    exact (Or.inr rfl)
  · replace hf := (if_neg h1).symm.trans hf
    obtain rfl := hf
    exact (Or.inl rfl)
set_option maxRecDepth 100000 in
set_option maxHeartbeats 4000000 in
theorem c_X9_isAtEnd_L {l : Launch} {ad : Nat → Nat} {cy : Nat → ClassId} {D : va_G} {z : Nat} {a0 : Nat} {M : KM} {y : Int32} (h0 : kty a0 = 4) (hf : f_X9_isAtEnd a0 M = y) : KC l ad cy D z yX9_isAtEnd cX9_isAtEnd 1 (some .boolean) 1 [.ref (ad a0)] M (some (.int y), M) := by
  refine kv_enter (by decide +kernel) (Nat.le_of_ble_eq_true rfl) ?_
  intro x hl hD hz G
  subst hl hD hz
  unfold f_X9_isAtEnd at hf
  have G : KG ad cy x cX9_isAtEnd "NoonGuides$TextReader" 1 (some (some .boolean)) 1 := G
  show KV ad cy x (some (.int y), M) 0 [(0, .ref (ad a0))] [] M
  refine v_aload_n G dX9_isAtEnd_0 0 rfl ?_
  refine gf_3_6 G h0 t_102 (Or.inl rfl) dX9_isAtEnd_1 ?_
  refine v_if_ne 11 G dX9_isAtEnd_4 (by decide) (fun h1 => ?_) (fun h1 => ?_)
  · replace hf := (if_neg h1).symm.trans hf
    refine v_iconst (0 : Int32) G dX9_isAtEnd_11 (by decide) ?_
    obtain rfl := hf
    exact v_zret G (Or.inl rfl) dX9_isAtEnd_12
  · replace hf := (if_pos h1).symm.trans hf
    refine v_iconst (1 : Int32) G dX9_isAtEnd_7 (by decide) ?_
    refine v_goto 12 G dX9_isAtEnd_8 (by decide) ?_
    obtain rfl := hf
    exact v_zret G (Or.inr rfl) dX9_isAtEnd_12
set_option maxRecDepth 100000 in
set_option maxHeartbeats 4000000 in
theorem c_X9_isAtEnd_D {l : Launch} {ad : Nat → Nat} {cy : Nat → ClassId} {D : va_G} {z : Nat} {a0 : Nat} {M : KM} {y : Int32} (h0 : kty a0 = 1) (hf : f_X9_isAtEnd a0 M = y) : KC l ad cy D z yX9_isAtEnd cX9_isAtEnd 1 (some .boolean) 1 [.ref (ad a0)] M (some (.int y), M) := by
  refine kv_enter (by decide +kernel) (Nat.le_of_ble_eq_true rfl) ?_
  intro x hl hD hz G
  subst hl hD hz
  unfold f_X9_isAtEnd at hf
  have G : KG ad cy x cX9_isAtEnd "NoonGuides$TextReader" 1 (some (some .boolean)) 1 := G
  show KV ad cy x (some (.int y), M) 0 [(0, .ref (ad a0))] [] M
  refine v_aload_n G dX9_isAtEnd_0 0 rfl ?_
  refine gf_0_6 G h0 t_102 (Or.inl rfl) dX9_isAtEnd_1 ?_
  refine v_if_ne 11 G dX9_isAtEnd_4 (by decide) (fun h1 => ?_) (fun h1 => ?_)
  · replace hf := (if_neg h1).symm.trans hf
    refine v_iconst (0 : Int32) G dX9_isAtEnd_11 (by decide) ?_
    obtain rfl := hf
    exact v_zret G (Or.inl rfl) dX9_isAtEnd_12
  · replace hf := (if_pos h1).symm.trans hf
    refine v_iconst (1 : Int32) G dX9_isAtEnd_7 (by decide) ?_
    refine v_goto 12 G dX9_isAtEnd_8 (by decide) ?_
    obtain rfl := hf
    exact v_zret G (Or.inr rfl) dX9_isAtEnd_12
abbrev cX9_skip : ByteArray := prog_11_method_10_code
def yX9_skip : MethodName := ⟨RX9, "skip", "()V"⟩
theorem dX9_skip_0 : dc cX9_skip 0 (.aload_n 0) 1 1 := ⟨by decide +kernel, rfl⟩
theorem dX9_skip_1 : dc cX9_skip 1 (.invokevirtual 59) 3 4 := ⟨by decide +kernel, rfl⟩
theorem dX9_skip_4 : dc cX9_skip 4 (.return_) 1 5 := ⟨by decide +kernel, rfl⟩
theorem nm_X9_skip : (yX9_skip).cls ≠ "java/lang/invoke/MethodHandle" ∧ (yX9_skip).cls ≠ "java/lang/invoke/VarHandle" ∧ (parseMethodDescriptor (yX9_skip).desc).map (fun d => d.parameters.length) = some 0 := ⟨by decide +kernel, by decide +kernel, by decide +kernel⟩
set_option maxRecDepth 100000 in
set_option maxHeartbeats 4000000 in
theorem c_X9_skip_L {l : Launch} {ad : Nat → Nat} {cy : Nat → ClassId} {D : va_G} {z : Nat} (n : Nat) {a0 : Nat} {M : KM} {y : KM} (h0 : kty a0 = 4) (hf : f_X9_skip n a0 M = some y) : KC l ad cy D z yX9_skip cX9_skip 1 none 3 [.ref (ad a0)] M (none, y) := by
  refine kv_enter (by decide +kernel) (Nat.le_of_ble_eq_true rfl) ?_
  intro x hl hD hz G
  subst hl hD hz
  unfold f_X9_skip at hf
  have G : KG ad cy x cX9_skip "NoonGuides$TextReader" 1 (some none) 3 := G
  show KV ad cy x (none, y) 0 [(0, .ref (ad a0))] [] M
  refine v_aload_n G dX9_skip_0 0 rfl ?_
  obtain ⟨v1, hcv1, hf⟩ := bd_e hf
  refine v_callU (owner := "NoonGuides$TextReader") [] G (c_X9_advance_L n h0 hcv1) h0 (by decide) rfl rfl t_1006 t_1283 t_1008 t_x0 t_2 t_1009 rfl nm_X9_advance (by decide) (by decide) rfl rfl (Nat.le_of_ble_eq_true rfl) dX9_skip_1 (kv_rv ?_)
  obtain rfl := Option.some.inj hf
  exact v_vret G dX9_skip_4
set_option maxRecDepth 100000 in
set_option maxHeartbeats 4000000 in
theorem c_X9_skip_D {l : Launch} {ad : Nat → Nat} {cy : Nat → ClassId} {D : va_G} {z : Nat} (n : Nat) {a0 : Nat} {M : KM} {y : KM} (h0 : kty a0 = 1) (hf : f_X9_skip n a0 M = some y) : KC l ad cy D z yX9_skip cX9_skip 1 none 3 [.ref (ad a0)] M (none, y) := by
  refine kv_enter (by decide +kernel) (Nat.le_of_ble_eq_true rfl) ?_
  intro x hl hD hz G
  subst hl hD hz
  unfold f_X9_skip at hf
  have G : KG ad cy x cX9_skip "NoonGuides$TextReader" 1 (some none) 3 := G
  show KV ad cy x (none, y) 0 [(0, .ref (ad a0))] [] M
  refine v_aload_n G dX9_skip_0 0 rfl ?_
  obtain ⟨v1, hcv1, hf⟩ := bd_e hf
  refine v_callU (owner := "NoonGuides$TextReader") [] G (c_X9_advance_D n h0 hcv1) h0 (by decide) rfl rfl t_1006 t_1283 t_1008 t_x4 t_2 t_1009 rfl nm_X9_advance (by decide) (by decide) rfl rfl (Nat.le_of_ble_eq_true rfl) dX9_skip_1 (kv_rv ?_)
  obtain rfl := Option.some.inj hf
  exact v_vret G dX9_skip_4
abbrev cX9_skipWord : ByteArray := prog_11_method_11_code
def yX9_skipWord : MethodName := ⟨RX9, "skipWord", "(I)Z"⟩
theorem dX9_skipWord_0 : dc cX9_skipWord 0 (.aload_n 0) 1 1 := ⟨by decide +kernel, rfl⟩
theorem dX9_skipWord_1 : dc cX9_skipWord 1 (.getfield 23) 3 4 := ⟨by decide +kernel, rfl⟩
theorem dX9_skipWord_4 : dc cX9_skipWord 4 (.iload_n 1) 1 5 := ⟨by decide +kernel, rfl⟩
theorem dX9_skipWord_5 : dc cX9_skipWord 5 (.if_icmp .eq 5) 3 8 := ⟨by decide +kernel, rfl⟩
theorem dX9_skipWord_8 : dc cX9_skipWord 8 (.iconst 0) 1 9 := ⟨by decide +kernel, rfl⟩
theorem dX9_skipWord_9 : dc cX9_skipWord 9 (.ireturn) 1 10 := ⟨by decide +kernel, rfl⟩
theorem dX9_skipWord_10 : dc cX9_skipWord 10 (.aload_n 0) 1 11 := ⟨by decide +kernel, rfl⟩
theorem dX9_skipWord_11 : dc cX9_skipWord 11 (.invokevirtual 59) 3 14 := ⟨by decide +kernel, rfl⟩
theorem dX9_skipWord_14 : dc cX9_skipWord 14 (.iconst 1) 1 15 := ⟨by decide +kernel, rfl⟩
theorem dX9_skipWord_15 : dc cX9_skipWord 15 (.ireturn) 1 16 := ⟨by decide +kernel, rfl⟩
theorem nm_X9_skipWord : (yX9_skipWord).cls ≠ "java/lang/invoke/MethodHandle" ∧ (yX9_skipWord).cls ≠ "java/lang/invoke/VarHandle" ∧ (parseMethodDescriptor (yX9_skipWord).desc).map (fun d => d.parameters.length) = some 1 := ⟨by decide +kernel, by decide +kernel, by decide +kernel⟩
set_option maxRecDepth 100000 in
theorem z_X9_skipWord (n : Nat) {a0 : Nat} {p1 : Int32} {M : KM} {y : (Int32 × KM)} (hf : f_X9_skipWord n a0 p1 M = some y) : (y.1 = 0 ∨ y.1 = 1) := by
  unfold f_X9_skipWord at hf
  by_cases h2 : (M.1 a0 7) = p1
  · replace hf := (if_pos h2).symm.trans hf
    obtain ⟨v1, hcv1, hf⟩ := bd_e hf
    obtain rfl := Option.some.inj hf
    exact (Or.inr rfl)
  · replace hf := (if_neg h2).symm.trans hf
    obtain rfl := Option.some.inj hf
    exact (Or.inl rfl)
set_option maxRecDepth 100000 in
set_option maxHeartbeats 4000000 in
theorem c_X9_skipWord_L {l : Launch} {ad : Nat → Nat} {cy : Nat → ClassId} {D : va_G} {z : Nat} (n : Nat) {a0 : Nat} {p1 : Int32} {M : KM} {y : (Int32 × KM)} (h0 : kty a0 = 4) (hf : f_X9_skipWord n a0 p1 M = some y) : KC l ad cy D z yX9_skipWord cX9_skipWord 2 (some .boolean) 3 [.ref (ad a0), .int p1] M (some (.int y.1), y.2) := by
  refine kv_enter (by decide +kernel) (Nat.le_of_ble_eq_true rfl) ?_
  intro x hl hD hz G
  subst hl hD hz
  unfold f_X9_skipWord at hf
  have G : KG ad cy x cX9_skipWord "NoonGuides$TextReader" 2 (some (some .boolean)) 3 := G
  show KV ad cy x (some (.int y.1), y.2) 0 [(0, .ref (ad a0)), (1, .int p1)] [] M
  refine v_aload_n G dX9_skipWord_0 0 rfl ?_
  refine gf_3_7 G h0 t_103 (Or.inl rfl) dX9_skipWord_1 ?_
  refine v_iload_n G dX9_skipWord_4 1 rfl ?_
  refine v_icmp_eq 10 G dX9_skipWord_5 (by decide) (fun h2 => ?_) (fun h2 => ?_)
  · replace hf := (if_pos h2).symm.trans hf
    refine v_aload_n G dX9_skipWord_10 0 rfl ?_
    obtain ⟨v1, hcv1, hf⟩ := bd_e hf
    refine v_callU (owner := "NoonGuides$TextReader") [] G (c_X9_advance_L n h0 hcv1) h0 (by decide) rfl rfl t_1006 t_1283 t_1008 t_x0 t_2 t_1009 rfl nm_X9_advance (by decide) (by decide) rfl rfl (Nat.le_of_ble_eq_true rfl) dX9_skipWord_11 (kv_rv ?_)
    refine v_iconst (1 : Int32) G dX9_skipWord_14 (by decide) ?_
    obtain rfl := Option.some.inj hf
    exact v_zret G (Or.inr rfl) dX9_skipWord_15
  · replace hf := (if_neg h2).symm.trans hf
    refine v_iconst (0 : Int32) G dX9_skipWord_8 (by decide) ?_
    obtain rfl := Option.some.inj hf
    exact v_zret G (Or.inl rfl) dX9_skipWord_9
set_option maxRecDepth 100000 in
set_option maxHeartbeats 4000000 in
theorem c_X9_skipWord_D {l : Launch} {ad : Nat → Nat} {cy : Nat → ClassId} {D : va_G} {z : Nat} (n : Nat) {a0 : Nat} {p1 : Int32} {M : KM} {y : (Int32 × KM)} (h0 : kty a0 = 1) (hf : f_X9_skipWord n a0 p1 M = some y) : KC l ad cy D z yX9_skipWord cX9_skipWord 2 (some .boolean) 3 [.ref (ad a0), .int p1] M (some (.int y.1), y.2) := by
  refine kv_enter (by decide +kernel) (Nat.le_of_ble_eq_true rfl) ?_
  intro x hl hD hz G
  subst hl hD hz
  unfold f_X9_skipWord at hf
  have G : KG ad cy x cX9_skipWord "NoonGuides$TextReader" 2 (some (some .boolean)) 3 := G
  show KV ad cy x (some (.int y.1), y.2) 0 [(0, .ref (ad a0)), (1, .int p1)] [] M
  refine v_aload_n G dX9_skipWord_0 0 rfl ?_
  refine gf_0_7 G h0 t_103 (Or.inl rfl) dX9_skipWord_1 ?_
  refine v_iload_n G dX9_skipWord_4 1 rfl ?_
  refine v_icmp_eq 10 G dX9_skipWord_5 (by decide) (fun h2 => ?_) (fun h2 => ?_)
  · replace hf := (if_pos h2).symm.trans hf
    refine v_aload_n G dX9_skipWord_10 0 rfl ?_
    obtain ⟨v1, hcv1, hf⟩ := bd_e hf
    refine v_callU (owner := "NoonGuides$TextReader") [] G (c_X9_advance_D n h0 hcv1) h0 (by decide) rfl rfl t_1006 t_1283 t_1008 t_x4 t_2 t_1009 rfl nm_X9_advance (by decide) (by decide) rfl rfl (Nat.le_of_ble_eq_true rfl) dX9_skipWord_11 (kv_rv ?_)
    refine v_iconst (1 : Int32) G dX9_skipWord_14 (by decide) ?_
    obtain rfl := Option.some.inj hf
    exact v_zret G (Or.inr rfl) dX9_skipWord_15
  · replace hf := (if_neg h2).symm.trans hf
    refine v_iconst (0 : Int32) G dX9_skipWord_8 (by decide) ?_
    obtain rfl := Option.some.inj hf
    exact v_zret G (Or.inl rfl) dX9_skipWord_9
abbrev cX9_takeWord : ByteArray := prog_11_method_12_code
def yX9_takeWord : MethodName := ⟨RX9, "takeWord", "(I)Z"⟩
theorem dX9_takeWord_0 : dc cX9_takeWord 0 (.aload_n 0) 1 1 := ⟨by decide +kernel, rfl⟩
theorem dX9_takeWord_1 : dc cX9_takeWord 1 (.iload_n 1) 1 2 := ⟨by decide +kernel, rfl⟩
theorem dX9_takeWord_2 : dc cX9_takeWord 2 (.invokevirtual 85) 3 5 := ⟨by decide +kernel, rfl⟩
theorem dX9_takeWord_5 : dc cX9_takeWord 5 (.ifCond .ne 10) 3 8 := ⟨by decide +kernel, rfl⟩
theorem dX9_takeWord_8 : dc cX9_takeWord 8 (.aload_n 0) 1 9 := ⟨by decide +kernel, rfl⟩
theorem dX9_takeWord_9 : dc cX9_takeWord 9 (.invokevirtual 88) 3 12 := ⟨by decide +kernel, rfl⟩
theorem dX9_takeWord_12 : dc cX9_takeWord 12 (.ifCond .eq 7) 3 15 := ⟨by decide +kernel, rfl⟩
theorem dX9_takeWord_15 : dc cX9_takeWord 15 (.iconst 1) 1 16 := ⟨by decide +kernel, rfl⟩
theorem dX9_takeWord_16 : dc cX9_takeWord 16 (.goto 4) 3 19 := ⟨by decide +kernel, rfl⟩
theorem dX9_takeWord_19 : dc cX9_takeWord 19 (.iconst 0) 1 20 := ⟨by decide +kernel, rfl⟩
theorem dX9_takeWord_20 : dc cX9_takeWord 20 (.ireturn) 1 21 := ⟨by decide +kernel, rfl⟩
theorem nm_X9_takeWord : (yX9_takeWord).cls ≠ "java/lang/invoke/MethodHandle" ∧ (yX9_takeWord).cls ≠ "java/lang/invoke/VarHandle" ∧ (parseMethodDescriptor (yX9_takeWord).desc).map (fun d => d.parameters.length) = some 1 := ⟨by decide +kernel, by decide +kernel, by decide +kernel⟩
set_option maxRecDepth 100000 in
theorem z_X9_takeWord (n : Nat) {a0 : Nat} {p1 : Int32} {M : KM} {y : (Int32 × KM)} (hf : f_X9_takeWord n a0 p1 M = some y) : (y.1 = 0 ∨ y.1 = 1) := by
  unfold f_X9_takeWord at hf
  obtain ⟨v1, hcv1, hf⟩ := bd_e hf
  obtain ⟨j15, ej15, hf⟩ := lt_j hf
  have hj15 : ∀ (M2 : KM), j15 M2 = some y → (y.1 = 0 ∨ y.1 = 1) := by
    intro M2 hf
    rw [ej15] at hf
    obtain rfl := Option.some.inj hf
    exact (Or.inr rfl)
  by_cases h5 : v1.1 = 0
  · replace hf := (if_pos h5).symm.trans hf
    obtain ⟨v3, hcv3⟩ : ∃ q, f_X9_failOrder a0 v1.2 = q := ⟨_, rfl⟩
    replace hf := lt_e hf hcv3.symm
    by_cases h4 : v3.1 = 0
    · replace hf := (if_pos h4).symm.trans hf
      obtain rfl := Option.some.inj hf
      exact (Or.inl rfl)
    · replace hf := (if_neg h4).symm.trans hf
      exact hj15 v3.2 hf
  · replace hf := (if_neg h5).symm.trans hf
    exact hj15 v1.2 hf
set_option maxRecDepth 100000 in
set_option maxHeartbeats 4000000 in
theorem c_X9_takeWord_L {l : Launch} {ad : Nat → Nat} {cy : Nat → ClassId} {D : va_G} {z : Nat} (n : Nat) {a0 : Nat} {p1 : Int32} {M : KM} {y : (Int32 × KM)} (h0 : kty a0 = 4) (hf : f_X9_takeWord n a0 p1 M = some y) : KC l ad cy D z yX9_takeWord cX9_takeWord 2 (some .boolean) 4 [.ref (ad a0), .int p1] M (some (.int y.1), y.2) := by
  refine kv_enter (by decide +kernel) (Nat.le_of_ble_eq_true rfl) ?_
  intro x hl hD hz G
  subst hl hD hz
  unfold f_X9_takeWord at hf
  have G : KG ad cy x cX9_takeWord "NoonGuides$TextReader" 2 (some (some .boolean)) 4 := G
  show KV ad cy x (some (.int y.1), y.2) 0 [(0, .ref (ad a0)), (1, .int p1)] [] M
  refine v_aload_n G dX9_takeWord_0 0 rfl ?_
  refine v_iload_n G dX9_takeWord_1 1 rfl ?_
  obtain ⟨v1, hcv1, hf⟩ := bd_e hf
  refine v_callU (owner := "NoonGuides$TextReader") [.int p1] G (c_X9_skipWord_L n h0 hcv1) h0 (by decide) rfl rfl t_1067 t_1069 t_1068 t_1071 t_2 t_1072 rfl nm_X9_skipWord (by decide) (by decide) rfl rfl (Nat.le_of_ble_eq_true rfl) dX9_takeWord_2 (kv_ri ?_)
  obtain ⟨j15, ej15, hf⟩ := lt_j hf
  have hj15 : ∀ (M2 : KM), j15 M2 = some y → KV ad cy x (some (.int y.1), y.2) 15 [] [] M2 := by
    intro M2 hf
    rw [ej15] at hf
    refine v_iconst (1 : Int32) G dX9_takeWord_15 (by decide) ?_
    refine v_goto 20 G dX9_takeWord_16 (by decide) ?_
    obtain rfl := Option.some.inj hf
    exact v_zret G (Or.inr rfl) dX9_takeWord_20
  refine v_if_ne 15 G dX9_takeWord_5 (by decide) (fun h5 => ?_) (fun h5 => ?_)
  · replace hf := (if_neg h5).symm.trans hf
    refine v_sub _ [] rfl ?_
    exact hj15 v1.2 hf
  · replace hf := (if_pos h5).symm.trans hf
    refine v_aload_n G dX9_takeWord_8 0 rfl ?_
    obtain ⟨v3, hcv3⟩ : ∃ q, f_X9_failOrder a0 v1.2 = q := ⟨_, rfl⟩
    replace hf := lt_e hf hcv3.symm
    refine v_callU (owner := "NoonGuides$TextReader") [] G (c_X9_failOrder_L h0 hcv3) h0 (by decide) rfl rfl t_1054 t_1056 t_1055 t_1058 t_2 t_1059 rfl nm_X9_failOrder (by decide) (by decide) rfl rfl (Nat.le_of_ble_eq_true rfl) dX9_takeWord_9 (kv_ri ?_)
    refine v_if_eq 19 G dX9_takeWord_12 (by decide) (fun h4 => ?_) (fun h4 => ?_)
    · replace hf := (if_pos h4).symm.trans hf
      refine v_iconst (0 : Int32) G dX9_takeWord_19 (by decide) ?_
      obtain rfl := Option.some.inj hf
      exact v_zret G (Or.inl rfl) dX9_takeWord_20
    · replace hf := (if_neg h4).symm.trans hf
      refine v_sub _ [] rfl ?_
      exact hj15 v3.2 hf
set_option maxRecDepth 100000 in
set_option maxHeartbeats 4000000 in
theorem c_X9_takeWord_D {l : Launch} {ad : Nat → Nat} {cy : Nat → ClassId} {D : va_G} {z : Nat} (n : Nat) {a0 : Nat} {p1 : Int32} {M : KM} {y : (Int32 × KM)} (h0 : kty a0 = 1) (hf : f_X9_takeWord n a0 p1 M = some y) : KC l ad cy D z yX9_takeWord cX9_takeWord 2 (some .boolean) 4 [.ref (ad a0), .int p1] M (some (.int y.1), y.2) := by
  refine kv_enter (by decide +kernel) (Nat.le_of_ble_eq_true rfl) ?_
  intro x hl hD hz G
  subst hl hD hz
  unfold f_X9_takeWord at hf
  have G : KG ad cy x cX9_takeWord "NoonGuides$TextReader" 2 (some (some .boolean)) 4 := G
  show KV ad cy x (some (.int y.1), y.2) 0 [(0, .ref (ad a0)), (1, .int p1)] [] M
  refine v_aload_n G dX9_takeWord_0 0 rfl ?_
  refine v_iload_n G dX9_takeWord_1 1 rfl ?_
  obtain ⟨v1, hcv1, hf⟩ := bd_e hf
  refine v_callU (owner := "NoonGuides$TextReader") [.int p1] G (c_X9_skipWord_D n h0 hcv1) h0 (by decide) rfl rfl t_1067 t_1069 t_1068 t_1070 t_2 t_1072 rfl nm_X9_skipWord (by decide) (by decide) rfl rfl (Nat.le_of_ble_eq_true rfl) dX9_takeWord_2 (kv_ri ?_)
  obtain ⟨j15, ej15, hf⟩ := lt_j hf
  have hj15 : ∀ (M2 : KM), j15 M2 = some y → KV ad cy x (some (.int y.1), y.2) 15 [] [] M2 := by
    intro M2 hf
    rw [ej15] at hf
    refine v_iconst (1 : Int32) G dX9_takeWord_15 (by decide) ?_
    refine v_goto 20 G dX9_takeWord_16 (by decide) ?_
    obtain rfl := Option.some.inj hf
    exact v_zret G (Or.inr rfl) dX9_takeWord_20
  refine v_if_ne 15 G dX9_takeWord_5 (by decide) (fun h5 => ?_) (fun h5 => ?_)
  · replace hf := (if_neg h5).symm.trans hf
    refine v_sub _ [] rfl ?_
    exact hj15 v1.2 hf
  · replace hf := (if_pos h5).symm.trans hf
    refine v_aload_n G dX9_takeWord_8 0 rfl ?_
    obtain ⟨v3, hcv3⟩ : ∃ q, f_X9_failOrder a0 v1.2 = q := ⟨_, rfl⟩
    replace hf := lt_e hf hcv3.symm
    refine v_callU (owner := "NoonGuides$TextReader") [] G (c_X9_failOrder_D h0 hcv3) h0 (by decide) rfl rfl t_1054 t_1056 t_1055 t_1057 t_2 t_1059 rfl nm_X9_failOrder (by decide) (by decide) rfl rfl (Nat.le_of_ble_eq_true rfl) dX9_takeWord_9 (kv_ri ?_)
    refine v_if_eq 19 G dX9_takeWord_12 (by decide) (fun h4 => ?_) (fun h4 => ?_)
    · replace hf := (if_pos h4).symm.trans hf
      refine v_iconst (0 : Int32) G dX9_takeWord_19 (by decide) ?_
      obtain rfl := Option.some.inj hf
      exact v_zret G (Or.inl rfl) dX9_takeWord_20
    · replace hf := (if_neg h4).symm.trans hf
      refine v_sub _ [] rfl ?_
      exact hj15 v3.2 hf
abbrev cX9_takeSemicolon : ByteArray := prog_11_method_13_code
def yX9_takeSemicolon : MethodName := ⟨RX9, "takeSemicolon", "()Z"⟩
theorem dX9_takeSemicolon_0 : dc cX9_takeSemicolon 0 (.aload_n 0) 1 1 := ⟨by decide +kernel, rfl⟩
theorem dX9_takeSemicolon_1 : dc cX9_takeSemicolon 1 (.getfield 72) 3 4 := ⟨by decide +kernel, rfl⟩
theorem dX9_takeSemicolon_4 : dc cX9_takeSemicolon 4 (.iconst 3) 1 5 := ⟨by decide +kernel, rfl⟩
theorem dX9_takeSemicolon_5 : dc cX9_takeSemicolon 5 (.if_icmp .ne 12) 3 8 := ⟨by decide +kernel, rfl⟩
theorem dX9_takeSemicolon_8 : dc cX9_takeSemicolon 8 (.aload_n 0) 1 9 := ⟨by decide +kernel, rfl⟩
theorem dX9_takeSemicolon_9 : dc cX9_takeSemicolon 9 (.getfield 69) 3 12 := ⟨by decide +kernel, rfl⟩
theorem dX9_takeSemicolon_12 : dc cX9_takeSemicolon 12 (.bipush 59) 2 14 := ⟨by decide +kernel, rfl⟩
theorem dX9_takeSemicolon_14 : dc cX9_takeSemicolon 14 (.if_icmp .eq 8) 3 17 := ⟨by decide +kernel, rfl⟩
theorem dX9_takeSemicolon_17 : dc cX9_takeSemicolon 17 (.aload_n 0) 1 18 := ⟨by decide +kernel, rfl⟩
theorem dX9_takeSemicolon_18 : dc cX9_takeSemicolon 18 (.invokevirtual 88) 3 21 := ⟨by decide +kernel, rfl⟩
theorem dX9_takeSemicolon_21 : dc cX9_takeSemicolon 21 (.ireturn) 1 22 := ⟨by decide +kernel, rfl⟩
theorem dX9_takeSemicolon_22 : dc cX9_takeSemicolon 22 (.aload_n 0) 1 23 := ⟨by decide +kernel, rfl⟩
theorem dX9_takeSemicolon_23 : dc cX9_takeSemicolon 23 (.invokevirtual 59) 3 26 := ⟨by decide +kernel, rfl⟩
theorem dX9_takeSemicolon_26 : dc cX9_takeSemicolon 26 (.iconst 1) 1 27 := ⟨by decide +kernel, rfl⟩
theorem dX9_takeSemicolon_27 : dc cX9_takeSemicolon 27 (.ireturn) 1 28 := ⟨by decide +kernel, rfl⟩
theorem nm_X9_takeSemicolon : (yX9_takeSemicolon).cls ≠ "java/lang/invoke/MethodHandle" ∧ (yX9_takeSemicolon).cls ≠ "java/lang/invoke/VarHandle" ∧ (parseMethodDescriptor (yX9_takeSemicolon).desc).map (fun d => d.parameters.length) = some 0 := ⟨by decide +kernel, by decide +kernel, by decide +kernel⟩
set_option maxRecDepth 100000 in
theorem z_X9_takeSemicolon (n : Nat) {a0 : Nat} {M : KM} {y : (Int32 × KM)} (hf : f_X9_takeSemicolon n a0 M = some y) : (y.1 = 0 ∨ y.1 = 1) := by
  unfold f_X9_takeSemicolon at hf
  obtain ⟨j17, ej17, hf⟩ := lt_j hf
  have hj17 : j17 = some y → (y.1 = 0 ∨ y.1 = 1) := by
    intro hf
    rw [ej17] at hf
    obtain ⟨v1, hcv1⟩ : ∃ q, f_X9_failOrder a0 M = q := ⟨_, rfl⟩
    replace hf := lt_e hf hcv1.symm
    obtain rfl := Option.some.inj hf
    exact (z_X9_failOrder hcv1)
  by_cases h4 : (M.1 a0 6) = (3 : Int32)
  · replace hf := (if_pos h4).symm.trans hf
    by_cases h3 : (M.1 a0 8) = (59 : Int32)
    · replace hf := (if_pos h3).symm.trans hf
      obtain ⟨v2, hcv2, hf⟩ := bd_e hf
      obtain rfl := Option.some.inj hf
      exact (Or.inr rfl)
    · replace hf := (if_neg h3).symm.trans hf
      exact hj17 hf
  · replace hf := (if_neg h4).symm.trans hf
    exact hj17 hf
set_option maxRecDepth 100000 in
set_option maxHeartbeats 4000000 in
theorem c_X9_takeSemicolon_L {l : Launch} {ad : Nat → Nat} {cy : Nat → ClassId} {D : va_G} {z : Nat} (n : Nat) {a0 : Nat} {M : KM} {y : (Int32 × KM)} (h0 : kty a0 = 4) (hf : f_X9_takeSemicolon n a0 M = some y) : KC l ad cy D z yX9_takeSemicolon cX9_takeSemicolon 1 (some .boolean) 3 [.ref (ad a0)] M (some (.int y.1), y.2) := by
  refine kv_enter (by decide +kernel) (Nat.le_of_ble_eq_true rfl) ?_
  intro x hl hD hz G
  subst hl hD hz
  unfold f_X9_takeSemicolon at hf
  have G : KG ad cy x cX9_takeSemicolon "NoonGuides$TextReader" 1 (some (some .boolean)) 3 := G
  show KV ad cy x (some (.int y.1), y.2) 0 [(0, .ref (ad a0))] [] M
  refine v_aload_n G dX9_takeSemicolon_0 0 rfl ?_
  refine gf_3_6 G h0 t_102 (Or.inl rfl) dX9_takeSemicolon_1 ?_
  refine v_iconst (3 : Int32) G dX9_takeSemicolon_4 (by decide) ?_
  obtain ⟨j17, ej17, hf⟩ := lt_j hf
  have hj17 : j17 = some y → KV ad cy x (some (.int y.1), y.2) 17 [(0, .ref (ad a0))] [] M := by
    intro hf
    rw [ej17] at hf
    refine v_aload_n G dX9_takeSemicolon_17 0 rfl ?_
    obtain ⟨v1, hcv1⟩ : ∃ q, f_X9_failOrder a0 M = q := ⟨_, rfl⟩
    replace hf := lt_e hf hcv1.symm
    refine v_callU (owner := "NoonGuides$TextReader") [] G (c_X9_failOrder_L h0 hcv1) h0 (by decide) rfl rfl t_1054 t_1056 t_1055 t_1058 t_2 t_1059 rfl nm_X9_failOrder (by decide) (by decide) rfl rfl (Nat.le_of_ble_eq_true rfl) dX9_takeSemicolon_18 (kv_ri ?_)
    obtain rfl := Option.some.inj hf
    exact v_zret G (z_X9_failOrder hcv1) dX9_takeSemicolon_21
  refine v_icmp_ne 17 G dX9_takeSemicolon_5 (by decide) (fun h4 => ?_) (fun h4 => ?_)
  · replace hf := (if_neg h4).symm.trans hf
    refine v_sub _ [0] rfl ?_
    exact hj17 hf
  · replace hf := (if_pos h4).symm.trans hf
    refine v_aload_n G dX9_takeSemicolon_8 0 rfl ?_
    refine gf_3_8 G h0 t_108 (Or.inl rfl) dX9_takeSemicolon_9 ?_
    refine v_bipush (59 : Int32) G dX9_takeSemicolon_12 (by decide) ?_
    refine v_icmp_eq 22 G dX9_takeSemicolon_14 (by decide) (fun h3 => ?_) (fun h3 => ?_)
    · replace hf := (if_pos h3).symm.trans hf
      refine v_aload_n G dX9_takeSemicolon_22 0 rfl ?_
      obtain ⟨v2, hcv2, hf⟩ := bd_e hf
      refine v_callU (owner := "NoonGuides$TextReader") [] G (c_X9_advance_L n h0 hcv2) h0 (by decide) rfl rfl t_1006 t_1283 t_1008 t_x0 t_2 t_1009 rfl nm_X9_advance (by decide) (by decide) rfl rfl (Nat.le_of_ble_eq_true rfl) dX9_takeSemicolon_23 (kv_rv ?_)
      refine v_iconst (1 : Int32) G dX9_takeSemicolon_26 (by decide) ?_
      obtain rfl := Option.some.inj hf
      exact v_zret G (Or.inr rfl) dX9_takeSemicolon_27
    · replace hf := (if_neg h3).symm.trans hf
      refine v_sub _ [0] rfl ?_
      exact hj17 hf
set_option maxRecDepth 100000 in
set_option maxHeartbeats 4000000 in
theorem c_X9_takeSemicolon_D {l : Launch} {ad : Nat → Nat} {cy : Nat → ClassId} {D : va_G} {z : Nat} (n : Nat) {a0 : Nat} {M : KM} {y : (Int32 × KM)} (h0 : kty a0 = 1) (hf : f_X9_takeSemicolon n a0 M = some y) : KC l ad cy D z yX9_takeSemicolon cX9_takeSemicolon 1 (some .boolean) 3 [.ref (ad a0)] M (some (.int y.1), y.2) := by
  refine kv_enter (by decide +kernel) (Nat.le_of_ble_eq_true rfl) ?_
  intro x hl hD hz G
  subst hl hD hz
  unfold f_X9_takeSemicolon at hf
  have G : KG ad cy x cX9_takeSemicolon "NoonGuides$TextReader" 1 (some (some .boolean)) 3 := G
  show KV ad cy x (some (.int y.1), y.2) 0 [(0, .ref (ad a0))] [] M
  refine v_aload_n G dX9_takeSemicolon_0 0 rfl ?_
  refine gf_0_6 G h0 t_102 (Or.inl rfl) dX9_takeSemicolon_1 ?_
  refine v_iconst (3 : Int32) G dX9_takeSemicolon_4 (by decide) ?_
  obtain ⟨j17, ej17, hf⟩ := lt_j hf
  have hj17 : j17 = some y → KV ad cy x (some (.int y.1), y.2) 17 [(0, .ref (ad a0))] [] M := by
    intro hf
    rw [ej17] at hf
    refine v_aload_n G dX9_takeSemicolon_17 0 rfl ?_
    obtain ⟨v1, hcv1⟩ : ∃ q, f_X9_failOrder a0 M = q := ⟨_, rfl⟩
    replace hf := lt_e hf hcv1.symm
    refine v_callU (owner := "NoonGuides$TextReader") [] G (c_X9_failOrder_D h0 hcv1) h0 (by decide) rfl rfl t_1054 t_1056 t_1055 t_1057 t_2 t_1059 rfl nm_X9_failOrder (by decide) (by decide) rfl rfl (Nat.le_of_ble_eq_true rfl) dX9_takeSemicolon_18 (kv_ri ?_)
    obtain rfl := Option.some.inj hf
    exact v_zret G (z_X9_failOrder hcv1) dX9_takeSemicolon_21
  refine v_icmp_ne 17 G dX9_takeSemicolon_5 (by decide) (fun h4 => ?_) (fun h4 => ?_)
  · replace hf := (if_neg h4).symm.trans hf
    refine v_sub _ [0] rfl ?_
    exact hj17 hf
  · replace hf := (if_pos h4).symm.trans hf
    refine v_aload_n G dX9_takeSemicolon_8 0 rfl ?_
    refine gf_0_8 G h0 t_108 (Or.inl rfl) dX9_takeSemicolon_9 ?_
    refine v_bipush (59 : Int32) G dX9_takeSemicolon_12 (by decide) ?_
    refine v_icmp_eq 22 G dX9_takeSemicolon_14 (by decide) (fun h3 => ?_) (fun h3 => ?_)
    · replace hf := (if_pos h3).symm.trans hf
      refine v_aload_n G dX9_takeSemicolon_22 0 rfl ?_
      obtain ⟨v2, hcv2, hf⟩ := bd_e hf
      refine v_callU (owner := "NoonGuides$TextReader") [] G (c_X9_advance_D n h0 hcv2) h0 (by decide) rfl rfl t_1006 t_1283 t_1008 t_x4 t_2 t_1009 rfl nm_X9_advance (by decide) (by decide) rfl rfl (Nat.le_of_ble_eq_true rfl) dX9_takeSemicolon_23 (kv_rv ?_)
      refine v_iconst (1 : Int32) G dX9_takeSemicolon_26 (by decide) ?_
      obtain rfl := Option.some.inj hf
      exact v_zret G (Or.inr rfl) dX9_takeSemicolon_27
    · replace hf := (if_neg h3).symm.trans hf
      refine v_sub _ [0] rfl ?_
      exact hj17 hf
abbrev cX9_takeComparison : ByteArray := prog_11_method_14_code
def yX9_takeComparison : MethodName := ⟨RX9, "takeComparison", "()I"⟩
theorem dX9_takeComparison_0 : dc cX9_takeComparison 0 (.aload_n 0) 1 1 := ⟨by decide +kernel, rfl⟩
theorem dX9_takeComparison_1 : dc cX9_takeComparison 1 (.getfield 72) 3 4 := ⟨by decide +kernel, rfl⟩
theorem dX9_takeComparison_4 : dc cX9_takeComparison 4 (.iconst 3) 1 5 := ⟨by decide +kernel, rfl⟩
theorem dX9_takeComparison_5 : dc cX9_takeComparison 5 (.if_icmp .ne 12) 3 8 := ⟨by decide +kernel, rfl⟩
theorem dX9_takeComparison_8 : dc cX9_takeComparison 8 (.aload_n 0) 1 9 := ⟨by decide +kernel, rfl⟩
theorem dX9_takeComparison_9 : dc cX9_takeComparison 9 (.getfield 69) 3 12 := ⟨by decide +kernel, rfl⟩
theorem dX9_takeComparison_12 : dc cX9_takeComparison 12 (.bipush 59) 2 14 := ⟨by decide +kernel, rfl⟩
theorem dX9_takeComparison_14 : dc cX9_takeComparison 14 (.if_icmp .ne 10) 3 17 := ⟨by decide +kernel, rfl⟩
theorem dX9_takeComparison_17 : dc cX9_takeComparison 17 (.aload_n 0) 1 18 := ⟨by decide +kernel, rfl⟩
theorem dX9_takeComparison_18 : dc cX9_takeComparison 18 (.invokevirtual 88) 3 21 := ⟨by decide +kernel, rfl⟩
theorem dX9_takeComparison_21 : dc cX9_takeComparison 21 (.pop) 1 22 := ⟨by decide +kernel, rfl⟩
theorem dX9_takeComparison_22 : dc cX9_takeComparison 22 (.iconst (-1)) 1 23 := ⟨by decide +kernel, rfl⟩
theorem dX9_takeComparison_23 : dc cX9_takeComparison 23 (.ireturn) 1 24 := ⟨by decide +kernel, rfl⟩
theorem dX9_takeComparison_24 : dc cX9_takeComparison 24 (.aload_n 0) 1 25 := ⟨by decide +kernel, rfl⟩
theorem dX9_takeComparison_25 : dc cX9_takeComparison 25 (.getfield 69) 3 28 := ⟨by decide +kernel, rfl⟩
theorem dX9_takeComparison_28 : dc cX9_takeComparison 28 (.istore_n 1) 1 29 := ⟨by decide +kernel, rfl⟩
theorem dX9_takeComparison_29 : dc cX9_takeComparison 29 (.aload_n 0) 1 30 := ⟨by decide +kernel, rfl⟩
theorem dX9_takeComparison_30 : dc cX9_takeComparison 30 (.invokevirtual 59) 3 33 := ⟨by decide +kernel, rfl⟩
theorem dX9_takeComparison_33 : dc cX9_takeComparison 33 (.iload_n 1) 1 34 := ⟨by decide +kernel, rfl⟩
theorem dX9_takeComparison_34 : dc cX9_takeComparison 34 (.ireturn) 1 35 := ⟨by decide +kernel, rfl⟩
theorem nm_X9_takeComparison : (yX9_takeComparison).cls ≠ "java/lang/invoke/MethodHandle" ∧ (yX9_takeComparison).cls ≠ "java/lang/invoke/VarHandle" ∧ (parseMethodDescriptor (yX9_takeComparison).desc).map (fun d => d.parameters.length) = some 0 := ⟨by decide +kernel, by decide +kernel, by decide +kernel⟩
set_option maxRecDepth 100000 in
set_option maxHeartbeats 4000000 in
theorem c_X9_takeComparison_L {l : Launch} {ad : Nat → Nat} {cy : Nat → ClassId} {D : va_G} {z : Nat} (n : Nat) {a0 : Nat} {M : KM} {y : (Int32 × KM)} (h0 : kty a0 = 4) (hf : f_X9_takeComparison n a0 M = some y) : KC l ad cy D z yX9_takeComparison cX9_takeComparison 2 (some .int) 3 [.ref (ad a0)] M (some (.int y.1), y.2) := by
  refine kv_enter (by decide +kernel) (Nat.le_of_ble_eq_true rfl) ?_
  intro x hl hD hz G
  subst hl hD hz
  unfold f_X9_takeComparison at hf
  have G : KG ad cy x cX9_takeComparison "NoonGuides$TextReader" 2 (some (some .int)) 3 := G
  show KV ad cy x (some (.int y.1), y.2) 0 [(0, .ref (ad a0))] [] M
  refine v_aload_n G dX9_takeComparison_0 0 rfl ?_
  refine gf_3_6 G h0 t_102 (Or.inl rfl) dX9_takeComparison_1 ?_
  refine v_iconst (3 : Int32) G dX9_takeComparison_4 (by decide) ?_
  obtain ⟨j17, ej17, hf⟩ := lt_j hf
  have hj17 : j17 = some y → KV ad cy x (some (.int y.1), y.2) 17 [(0, .ref (ad a0))] [] M := by
    intro hf
    rw [ej17] at hf
    refine v_aload_n G dX9_takeComparison_17 0 rfl ?_
    obtain ⟨v1, hcv1⟩ : ∃ q, f_X9_failOrder a0 M = q := ⟨_, rfl⟩
    replace hf := lt_e hf hcv1.symm
    refine v_callU (owner := "NoonGuides$TextReader") [] G (c_X9_failOrder_L h0 hcv1) h0 (by decide) rfl rfl t_1054 t_1056 t_1055 t_1058 t_2 t_1059 rfl nm_X9_failOrder (by decide) (by decide) rfl rfl (Nat.le_of_ble_eq_true rfl) dX9_takeComparison_18 (kv_ri ?_)
    refine v_pop G dX9_takeComparison_21 rfl ?_
    refine v_iconst (-1 : Int32) G dX9_takeComparison_22 (by decide) ?_
    obtain rfl := Option.some.inj hf
    exact v_iret G dX9_takeComparison_23
  refine v_icmp_ne 17 G dX9_takeComparison_5 (by decide) (fun h5 => ?_) (fun h5 => ?_)
  · replace hf := (if_neg h5).symm.trans hf
    refine v_sub _ [0] rfl ?_
    exact hj17 hf
  · replace hf := (if_pos h5).symm.trans hf
    refine v_aload_n G dX9_takeComparison_8 0 rfl ?_
    refine gf_3_8 G h0 t_108 (Or.inl rfl) dX9_takeComparison_9 ?_
    refine v_bipush (59 : Int32) G dX9_takeComparison_12 (by decide) ?_
    refine v_icmp_ne 24 G dX9_takeComparison_14 (by decide) (fun h4 => ?_) (fun h4 => ?_)
    · replace hf := (if_neg h4).symm.trans hf
      refine v_aload_n G dX9_takeComparison_24 0 rfl ?_
      refine gf_3_8 G h0 t_108 (Or.inl rfl) dX9_takeComparison_25 ?_
      refine v_nmi (fun v2 ev2 => ?_)
      replace hf := lt_e hf ev2
      refine v_istore_n [(1, .int v2), (0, .ref (ad a0))] G dX9_takeComparison_28 (by decide) rfl ?_
      refine v_aload_n G dX9_takeComparison_29 1 rfl ?_
      obtain ⟨v3, hcv3, hf⟩ := bd_e hf
      refine v_callU (owner := "NoonGuides$TextReader") [] G (c_X9_advance_L n h0 hcv3) h0 (by decide) rfl rfl t_1006 t_1283 t_1008 t_x0 t_2 t_1009 rfl nm_X9_advance (by decide) (by decide) rfl rfl (Nat.le_of_ble_eq_true rfl) dX9_takeComparison_30 (kv_rv ?_)
      refine v_iload_n G dX9_takeComparison_33 0 rfl ?_
      obtain rfl := Option.some.inj hf
      exact v_iret G dX9_takeComparison_34
    · replace hf := (if_pos h4).symm.trans hf
      refine v_sub _ [0] rfl ?_
      exact hj17 hf
set_option maxRecDepth 100000 in
set_option maxHeartbeats 4000000 in
theorem c_X9_takeComparison_D {l : Launch} {ad : Nat → Nat} {cy : Nat → ClassId} {D : va_G} {z : Nat} (n : Nat) {a0 : Nat} {M : KM} {y : (Int32 × KM)} (h0 : kty a0 = 1) (hf : f_X9_takeComparison n a0 M = some y) : KC l ad cy D z yX9_takeComparison cX9_takeComparison 2 (some .int) 3 [.ref (ad a0)] M (some (.int y.1), y.2) := by
  refine kv_enter (by decide +kernel) (Nat.le_of_ble_eq_true rfl) ?_
  intro x hl hD hz G
  subst hl hD hz
  unfold f_X9_takeComparison at hf
  have G : KG ad cy x cX9_takeComparison "NoonGuides$TextReader" 2 (some (some .int)) 3 := G
  show KV ad cy x (some (.int y.1), y.2) 0 [(0, .ref (ad a0))] [] M
  refine v_aload_n G dX9_takeComparison_0 0 rfl ?_
  refine gf_0_6 G h0 t_102 (Or.inl rfl) dX9_takeComparison_1 ?_
  refine v_iconst (3 : Int32) G dX9_takeComparison_4 (by decide) ?_
  obtain ⟨j17, ej17, hf⟩ := lt_j hf
  have hj17 : j17 = some y → KV ad cy x (some (.int y.1), y.2) 17 [(0, .ref (ad a0))] [] M := by
    intro hf
    rw [ej17] at hf
    refine v_aload_n G dX9_takeComparison_17 0 rfl ?_
    obtain ⟨v1, hcv1⟩ : ∃ q, f_X9_failOrder a0 M = q := ⟨_, rfl⟩
    replace hf := lt_e hf hcv1.symm
    refine v_callU (owner := "NoonGuides$TextReader") [] G (c_X9_failOrder_D h0 hcv1) h0 (by decide) rfl rfl t_1054 t_1056 t_1055 t_1057 t_2 t_1059 rfl nm_X9_failOrder (by decide) (by decide) rfl rfl (Nat.le_of_ble_eq_true rfl) dX9_takeComparison_18 (kv_ri ?_)
    refine v_pop G dX9_takeComparison_21 rfl ?_
    refine v_iconst (-1 : Int32) G dX9_takeComparison_22 (by decide) ?_
    obtain rfl := Option.some.inj hf
    exact v_iret G dX9_takeComparison_23
  refine v_icmp_ne 17 G dX9_takeComparison_5 (by decide) (fun h5 => ?_) (fun h5 => ?_)
  · replace hf := (if_neg h5).symm.trans hf
    refine v_sub _ [0] rfl ?_
    exact hj17 hf
  · replace hf := (if_pos h5).symm.trans hf
    refine v_aload_n G dX9_takeComparison_8 0 rfl ?_
    refine gf_0_8 G h0 t_108 (Or.inl rfl) dX9_takeComparison_9 ?_
    refine v_bipush (59 : Int32) G dX9_takeComparison_12 (by decide) ?_
    refine v_icmp_ne 24 G dX9_takeComparison_14 (by decide) (fun h4 => ?_) (fun h4 => ?_)
    · replace hf := (if_neg h4).symm.trans hf
      refine v_aload_n G dX9_takeComparison_24 0 rfl ?_
      refine gf_0_8 G h0 t_108 (Or.inl rfl) dX9_takeComparison_25 ?_
      refine v_nmi (fun v2 ev2 => ?_)
      replace hf := lt_e hf ev2
      refine v_istore_n [(1, .int v2), (0, .ref (ad a0))] G dX9_takeComparison_28 (by decide) rfl ?_
      refine v_aload_n G dX9_takeComparison_29 1 rfl ?_
      obtain ⟨v3, hcv3, hf⟩ := bd_e hf
      refine v_callU (owner := "NoonGuides$TextReader") [] G (c_X9_advance_D n h0 hcv3) h0 (by decide) rfl rfl t_1006 t_1283 t_1008 t_x4 t_2 t_1009 rfl nm_X9_advance (by decide) (by decide) rfl rfl (Nat.le_of_ble_eq_true rfl) dX9_takeComparison_30 (kv_rv ?_)
      refine v_iload_n G dX9_takeComparison_33 0 rfl ?_
      obtain rfl := Option.some.inj hf
      exact v_iret G dX9_takeComparison_34
    · replace hf := (if_pos h4).symm.trans hf
      refine v_sub _ [0] rfl ?_
      exact hj17 hf
abbrev cX9_takeNumber : ByteArray := prog_11_method_15_code
def yX9_takeNumber : MethodName := ⟨RX9, "takeNumber", "(II)I"⟩
theorem dX9_takeNumber_0 : dc cX9_takeNumber 0 (.aload_n 0) 1 1 := ⟨by decide +kernel, rfl⟩
theorem dX9_takeNumber_1 : dc cX9_takeNumber 1 (.getfield 72) 3 4 := ⟨by decide +kernel, rfl⟩
theorem dX9_takeNumber_4 : dc cX9_takeNumber 4 (.iconst 2) 1 5 := ⟨by decide +kernel, rfl⟩
theorem dX9_takeNumber_5 : dc cX9_takeNumber 5 (.if_icmp .eq 10) 3 8 := ⟨by decide +kernel, rfl⟩
theorem dX9_takeNumber_8 : dc cX9_takeNumber 8 (.aload_n 0) 1 9 := ⟨by decide +kernel, rfl⟩
theorem dX9_takeNumber_9 : dc cX9_takeNumber 9 (.invokevirtual 88) 3 12 := ⟨by decide +kernel, rfl⟩
theorem dX9_takeNumber_12 : dc cX9_takeNumber 12 (.pop) 1 13 := ⟨by decide +kernel, rfl⟩
theorem dX9_takeNumber_13 : dc cX9_takeNumber 13 (.iconst (-1)) 1 14 := ⟨by decide +kernel, rfl⟩
theorem dX9_takeNumber_14 : dc cX9_takeNumber 14 (.ireturn) 1 15 := ⟨by decide +kernel, rfl⟩
theorem dX9_takeNumber_15 : dc cX9_takeNumber 15 (.aload_n 0) 1 16 := ⟨by decide +kernel, rfl⟩
theorem dX9_takeNumber_16 : dc cX9_takeNumber 16 (.getfield 69) 3 19 := ⟨by decide +kernel, rfl⟩
theorem dX9_takeNumber_19 : dc cX9_takeNumber 19 (.iload_n 1) 1 20 := ⟨by decide +kernel, rfl⟩
theorem dX9_takeNumber_20 : dc cX9_takeNumber 20 (.if_icmp .lt 11) 3 23 := ⟨by decide +kernel, rfl⟩
theorem dX9_takeNumber_23 : dc cX9_takeNumber 23 (.aload_n 0) 1 24 := ⟨by decide +kernel, rfl⟩
theorem dX9_takeNumber_24 : dc cX9_takeNumber 24 (.getfield 69) 3 27 := ⟨by decide +kernel, rfl⟩
theorem dX9_takeNumber_27 : dc cX9_takeNumber 27 (.iload_n 2) 1 28 := ⟨by decide +kernel, rfl⟩
theorem dX9_takeNumber_28 : dc cX9_takeNumber 28 (.if_icmp .le 11) 3 31 := ⟨by decide +kernel, rfl⟩
theorem dX9_takeNumber_31 : dc cX9_takeNumber 31 (.aload_n 0) 1 32 := ⟨by decide +kernel, rfl⟩
theorem dX9_takeNumber_32 : dc cX9_takeNumber 32 (.iconst 4) 1 33 := ⟨by decide +kernel, rfl⟩
theorem dX9_takeNumber_33 : dc cX9_takeNumber 33 (.invokevirtual 81) 3 36 := ⟨by decide +kernel, rfl⟩
theorem dX9_takeNumber_36 : dc cX9_takeNumber 36 (.pop) 1 37 := ⟨by decide +kernel, rfl⟩
theorem dX9_takeNumber_37 : dc cX9_takeNumber 37 (.iconst (-1)) 1 38 := ⟨by decide +kernel, rfl⟩
theorem dX9_takeNumber_38 : dc cX9_takeNumber 38 (.ireturn) 1 39 := ⟨by decide +kernel, rfl⟩
theorem dX9_takeNumber_39 : dc cX9_takeNumber 39 (.aload_n 0) 1 40 := ⟨by decide +kernel, rfl⟩
theorem dX9_takeNumber_40 : dc cX9_takeNumber 40 (.getfield 69) 3 43 := ⟨by decide +kernel, rfl⟩
theorem dX9_takeNumber_43 : dc cX9_takeNumber 43 (.istore_n 3) 1 44 := ⟨by decide +kernel, rfl⟩
theorem dX9_takeNumber_44 : dc cX9_takeNumber 44 (.aload_n 0) 1 45 := ⟨by decide +kernel, rfl⟩
theorem dX9_takeNumber_45 : dc cX9_takeNumber 45 (.invokevirtual 59) 3 48 := ⟨by decide +kernel, rfl⟩
theorem dX9_takeNumber_48 : dc cX9_takeNumber 48 (.iload_n 3) 1 49 := ⟨by decide +kernel, rfl⟩
theorem dX9_takeNumber_49 : dc cX9_takeNumber 49 (.ireturn) 1 50 := ⟨by decide +kernel, rfl⟩
theorem nm_X9_takeNumber : (yX9_takeNumber).cls ≠ "java/lang/invoke/MethodHandle" ∧ (yX9_takeNumber).cls ≠ "java/lang/invoke/VarHandle" ∧ (parseMethodDescriptor (yX9_takeNumber).desc).map (fun d => d.parameters.length) = some 2 := ⟨by decide +kernel, by decide +kernel, by decide +kernel⟩
set_option maxRecDepth 100000 in
set_option maxHeartbeats 4000000 in
theorem c_X9_takeNumber_L {l : Launch} {ad : Nat → Nat} {cy : Nat → ClassId} {D : va_G} {z : Nat} (n : Nat) {a0 : Nat} {p1 : Int32} {p2 : Int32} {M : KM} {y : (Int32 × KM)} (h0 : kty a0 = 4) (hf : f_X9_takeNumber n a0 p1 p2 M = some y) : KC l ad cy D z yX9_takeNumber cX9_takeNumber 4 (some .int) 3 [.ref (ad a0), .int p1, .int p2] M (some (.int y.1), y.2) := by
  refine kv_enter (by decide +kernel) (Nat.le_of_ble_eq_true rfl) ?_
  intro x hl hD hz G
  subst hl hD hz
  unfold f_X9_takeNumber at hf
  have G : KG ad cy x cX9_takeNumber "NoonGuides$TextReader" 4 (some (some .int)) 3 := G
  show KV ad cy x (some (.int y.1), y.2) 0 [(0, .ref (ad a0)), (1, .int p1), (2, .int p2)] [] M
  refine v_aload_n G dX9_takeNumber_0 0 rfl ?_
  refine gf_3_6 G h0 t_102 (Or.inl rfl) dX9_takeNumber_1 ?_
  refine v_iconst (2 : Int32) G dX9_takeNumber_4 (by decide) ?_
  refine v_icmp_eq 15 G dX9_takeNumber_5 (by decide) (fun h7 => ?_) (fun h7 => ?_)
  · replace hf := (if_pos h7).symm.trans hf
    refine v_aload_n G dX9_takeNumber_15 0 rfl ?_
    refine gf_3_8 G h0 t_108 (Or.inl rfl) dX9_takeNumber_16 ?_
    refine v_iload_n G dX9_takeNumber_19 1 rfl ?_
    obtain ⟨j31, ej31, hf⟩ := lt_j hf
    have hj31 : j31 = some y → KV ad cy x (some (.int y.1), y.2) 31 [(0, .ref (ad a0))] [] M := by
      intro hf
      rw [ej31] at hf
      refine v_aload_n G dX9_takeNumber_31 0 rfl ?_
      refine v_iconst (4 : Int32) G dX9_takeNumber_32 (by decide) ?_
      obtain ⟨v1, hcv1⟩ : ∃ q, f_X9_fail a0 (4 : Int32) M = q := ⟨_, rfl⟩
      replace hf := lt_e hf hcv1.symm
      refine v_callU (owner := "NoonGuides$TextReader") [.int (4 : Int32)] G (c_X9_fail_L h0 hcv1) h0 (by decide) rfl rfl t_1060 t_1286 t_1036 t_1288 t_2 t_1037 rfl nm_X9_fail (by decide) (by decide) rfl rfl (Nat.le_of_ble_eq_true rfl) dX9_takeNumber_33 (kv_ri ?_)
      refine v_pop G dX9_takeNumber_36 rfl ?_
      refine v_iconst (-1 : Int32) G dX9_takeNumber_37 (by decide) ?_
      obtain rfl := Option.some.inj hf
      exact v_iret G dX9_takeNumber_38
    refine v_icmp_lt 31 G dX9_takeNumber_20 (by decide) (fun h5 => ?_) (fun h5 => ?_)
    · replace hf := (if_pos h5).symm.trans hf
      refine v_sub _ [0] rfl ?_
      exact hj31 hf
    · replace hf := (if_neg h5).symm.trans hf
      refine v_aload_n G dX9_takeNumber_23 0 rfl ?_
      refine gf_3_8 G h0 t_108 (Or.inl rfl) dX9_takeNumber_24 ?_
      refine v_iload_n G dX9_takeNumber_27 2 rfl ?_
      refine v_icmp_le 39 G dX9_takeNumber_28 (by decide) (fun h4 => ?_) (fun h4 => ?_)
      · replace hf := (if_pos h4).symm.trans hf
        refine v_aload_n G dX9_takeNumber_39 0 rfl ?_
        refine gf_3_8 G h0 t_108 (Or.inl rfl) dX9_takeNumber_40 ?_
        refine v_nmi (fun v2 ev2 => ?_)
        replace hf := lt_e hf ev2
        refine v_istore_n [(3, .int v2), (0, .ref (ad a0)), (1, .int p1), (2, .int p2)] G dX9_takeNumber_43 (by decide) rfl ?_
        refine v_aload_n G dX9_takeNumber_44 1 rfl ?_
        obtain ⟨v3, hcv3, hf⟩ := bd_e hf
        refine v_callU (owner := "NoonGuides$TextReader") [] G (c_X9_advance_L n h0 hcv3) h0 (by decide) rfl rfl t_1006 t_1283 t_1008 t_x0 t_2 t_1009 rfl nm_X9_advance (by decide) (by decide) rfl rfl (Nat.le_of_ble_eq_true rfl) dX9_takeNumber_45 (kv_rv ?_)
        refine v_iload_n G dX9_takeNumber_48 0 rfl ?_
        obtain rfl := Option.some.inj hf
        exact v_iret G dX9_takeNumber_49
      · replace hf := (if_neg h4).symm.trans hf
        refine v_sub _ [0] rfl ?_
        exact hj31 hf
  · replace hf := (if_neg h7).symm.trans hf
    refine v_aload_n G dX9_takeNumber_8 0 rfl ?_
    obtain ⟨v6, hcv6⟩ : ∃ q, f_X9_failOrder a0 M = q := ⟨_, rfl⟩
    replace hf := lt_e hf hcv6.symm
    refine v_callU (owner := "NoonGuides$TextReader") [] G (c_X9_failOrder_L h0 hcv6) h0 (by decide) rfl rfl t_1054 t_1056 t_1055 t_1058 t_2 t_1059 rfl nm_X9_failOrder (by decide) (by decide) rfl rfl (Nat.le_of_ble_eq_true rfl) dX9_takeNumber_9 (kv_ri ?_)
    refine v_pop G dX9_takeNumber_12 rfl ?_
    refine v_iconst (-1 : Int32) G dX9_takeNumber_13 (by decide) ?_
    obtain rfl := Option.some.inj hf
    exact v_iret G dX9_takeNumber_14
set_option maxRecDepth 100000 in
set_option maxHeartbeats 4000000 in
theorem c_X9_takeNumber_D {l : Launch} {ad : Nat → Nat} {cy : Nat → ClassId} {D : va_G} {z : Nat} (n : Nat) {a0 : Nat} {p1 : Int32} {p2 : Int32} {M : KM} {y : (Int32 × KM)} (h0 : kty a0 = 1) (hf : f_X9_takeNumber n a0 p1 p2 M = some y) : KC l ad cy D z yX9_takeNumber cX9_takeNumber 4 (some .int) 3 [.ref (ad a0), .int p1, .int p2] M (some (.int y.1), y.2) := by
  refine kv_enter (by decide +kernel) (Nat.le_of_ble_eq_true rfl) ?_
  intro x hl hD hz G
  subst hl hD hz
  unfold f_X9_takeNumber at hf
  have G : KG ad cy x cX9_takeNumber "NoonGuides$TextReader" 4 (some (some .int)) 3 := G
  show KV ad cy x (some (.int y.1), y.2) 0 [(0, .ref (ad a0)), (1, .int p1), (2, .int p2)] [] M
  refine v_aload_n G dX9_takeNumber_0 0 rfl ?_
  refine gf_0_6 G h0 t_102 (Or.inl rfl) dX9_takeNumber_1 ?_
  refine v_iconst (2 : Int32) G dX9_takeNumber_4 (by decide) ?_
  refine v_icmp_eq 15 G dX9_takeNumber_5 (by decide) (fun h7 => ?_) (fun h7 => ?_)
  · replace hf := (if_pos h7).symm.trans hf
    refine v_aload_n G dX9_takeNumber_15 0 rfl ?_
    refine gf_0_8 G h0 t_108 (Or.inl rfl) dX9_takeNumber_16 ?_
    refine v_iload_n G dX9_takeNumber_19 1 rfl ?_
    obtain ⟨j31, ej31, hf⟩ := lt_j hf
    have hj31 : j31 = some y → KV ad cy x (some (.int y.1), y.2) 31 [(0, .ref (ad a0))] [] M := by
      intro hf
      rw [ej31] at hf
      refine v_aload_n G dX9_takeNumber_31 0 rfl ?_
      refine v_iconst (4 : Int32) G dX9_takeNumber_32 (by decide) ?_
      obtain ⟨v1, hcv1⟩ : ∃ q, f_X9_fail a0 (4 : Int32) M = q := ⟨_, rfl⟩
      replace hf := lt_e hf hcv1.symm
      refine v_callU (owner := "NoonGuides$TextReader") [.int (4 : Int32)] G (c_X9_fail_D h0 hcv1) h0 (by decide) rfl rfl t_1060 t_1286 t_1036 t_1287 t_2 t_1037 rfl nm_X9_fail (by decide) (by decide) rfl rfl (Nat.le_of_ble_eq_true rfl) dX9_takeNumber_33 (kv_ri ?_)
      refine v_pop G dX9_takeNumber_36 rfl ?_
      refine v_iconst (-1 : Int32) G dX9_takeNumber_37 (by decide) ?_
      obtain rfl := Option.some.inj hf
      exact v_iret G dX9_takeNumber_38
    refine v_icmp_lt 31 G dX9_takeNumber_20 (by decide) (fun h5 => ?_) (fun h5 => ?_)
    · replace hf := (if_pos h5).symm.trans hf
      refine v_sub _ [0] rfl ?_
      exact hj31 hf
    · replace hf := (if_neg h5).symm.trans hf
      refine v_aload_n G dX9_takeNumber_23 0 rfl ?_
      refine gf_0_8 G h0 t_108 (Or.inl rfl) dX9_takeNumber_24 ?_
      refine v_iload_n G dX9_takeNumber_27 2 rfl ?_
      refine v_icmp_le 39 G dX9_takeNumber_28 (by decide) (fun h4 => ?_) (fun h4 => ?_)
      · replace hf := (if_pos h4).symm.trans hf
        refine v_aload_n G dX9_takeNumber_39 0 rfl ?_
        refine gf_0_8 G h0 t_108 (Or.inl rfl) dX9_takeNumber_40 ?_
        refine v_nmi (fun v2 ev2 => ?_)
        replace hf := lt_e hf ev2
        refine v_istore_n [(3, .int v2), (0, .ref (ad a0)), (1, .int p1), (2, .int p2)] G dX9_takeNumber_43 (by decide) rfl ?_
        refine v_aload_n G dX9_takeNumber_44 1 rfl ?_
        obtain ⟨v3, hcv3, hf⟩ := bd_e hf
        refine v_callU (owner := "NoonGuides$TextReader") [] G (c_X9_advance_D n h0 hcv3) h0 (by decide) rfl rfl t_1006 t_1283 t_1008 t_x4 t_2 t_1009 rfl nm_X9_advance (by decide) (by decide) rfl rfl (Nat.le_of_ble_eq_true rfl) dX9_takeNumber_45 (kv_rv ?_)
        refine v_iload_n G dX9_takeNumber_48 0 rfl ?_
        obtain rfl := Option.some.inj hf
        exact v_iret G dX9_takeNumber_49
      · replace hf := (if_neg h4).symm.trans hf
        refine v_sub _ [0] rfl ?_
        exact hj31 hf
  · replace hf := (if_neg h7).symm.trans hf
    refine v_aload_n G dX9_takeNumber_8 0 rfl ?_
    obtain ⟨v6, hcv6⟩ : ∃ q, f_X9_failOrder a0 M = q := ⟨_, rfl⟩
    replace hf := lt_e hf hcv6.symm
    refine v_callU (owner := "NoonGuides$TextReader") [] G (c_X9_failOrder_D h0 hcv6) h0 (by decide) rfl rfl t_1054 t_1056 t_1055 t_1057 t_2 t_1059 rfl nm_X9_failOrder (by decide) (by decide) rfl rfl (Nat.le_of_ble_eq_true rfl) dX9_takeNumber_9 (kv_ri ?_)
    refine v_pop G dX9_takeNumber_12 rfl ?_
    refine v_iconst (-1 : Int32) G dX9_takeNumber_13 (by decide) ?_
    obtain rfl := Option.some.inj hf
    exact v_iret G dX9_takeNumber_14
abbrev cX9_takeNewName : ByteArray := prog_11_method_16_code
def yX9_takeNewName : MethodName := ⟨RX9, "takeNewName", "(LNoonGuides$Land;)J"⟩
theorem dX9_takeNewName_0 : dc cX9_takeNewName 0 (.aload_n 0) 1 1 := ⟨by decide +kernel, rfl⟩
theorem dX9_takeNewName_1 : dc cX9_takeNewName 1 (.getfield 65) 3 4 := ⟨by decide +kernel, rfl⟩
theorem dX9_takeNewName_4 : dc cX9_takeNewName 4 (.lconst 0) 1 5 := ⟨by decide +kernel, rfl⟩
theorem dX9_takeNewName_5 : dc cX9_takeNewName 5 (.lcmp) 1 6 := ⟨by decide +kernel, rfl⟩
theorem dX9_takeNewName_6 : dc cX9_takeNewName 6 (.ifCond .ne 10) 3 9 := ⟨by decide +kernel, rfl⟩
theorem dX9_takeNewName_9 : dc cX9_takeNewName 9 (.aload_n 0) 1 10 := ⟨by decide +kernel, rfl⟩
theorem dX9_takeNewName_10 : dc cX9_takeNewName 10 (.invokevirtual 88) 3 13 := ⟨by decide +kernel, rfl⟩
theorem dX9_takeNewName_13 : dc cX9_takeNewName 13 (.pop) 1 14 := ⟨by decide +kernel, rfl⟩
theorem dX9_takeNewName_14 : dc cX9_takeNewName 14 (.lconst 0) 1 15 := ⟨by decide +kernel, rfl⟩
theorem dX9_takeNewName_15 : dc cX9_takeNewName 15 (.lreturn) 1 16 := ⟨by decide +kernel, rfl⟩
theorem dX9_takeNewName_16 : dc cX9_takeNewName 16 (.aload_n 1) 1 17 := ⟨by decide +kernel, rfl⟩
theorem dX9_takeNewName_17 : dc cX9_takeNewName 17 (.aload_n 0) 1 18 := ⟨by decide +kernel, rfl⟩
theorem dX9_takeNewName_18 : dc cX9_takeNewName 18 (.getfield 65) 3 21 := ⟨by decide +kernel, rfl⟩
theorem dX9_takeNewName_21 : dc cX9_takeNewName 21 (.invokevirtual 92) 3 24 := ⟨by decide +kernel, rfl⟩
theorem dX9_takeNewName_24 : dc cX9_takeNewName 24 (.iconst (-1)) 1 25 := ⟨by decide +kernel, rfl⟩
theorem dX9_takeNewName_25 : dc cX9_takeNewName 25 (.if_icmp .ne 15) 3 28 := ⟨by decide +kernel, rfl⟩
theorem dX9_takeNewName_28 : dc cX9_takeNewName 28 (.aload_n 1) 1 29 := ⟨by decide +kernel, rfl⟩
theorem dX9_takeNewName_29 : dc cX9_takeNewName 29 (.aload_n 0) 1 30 := ⟨by decide +kernel, rfl⟩
theorem dX9_takeNewName_30 : dc cX9_takeNewName 30 (.getfield 65) 3 33 := ⟨by decide +kernel, rfl⟩
theorem dX9_takeNewName_33 : dc cX9_takeNewName 33 (.invokevirtual 98) 3 36 := ⟨by decide +kernel, rfl⟩
theorem dX9_takeNewName_36 : dc cX9_takeNewName 36 (.iconst (-1)) 1 37 := ⟨by decide +kernel, rfl⟩
theorem dX9_takeNewName_37 : dc cX9_takeNewName 37 (.if_icmp .eq 11) 3 40 := ⟨by decide +kernel, rfl⟩
theorem dX9_takeNewName_40 : dc cX9_takeNewName 40 (.aload_n 0) 1 41 := ⟨by decide +kernel, rfl⟩
theorem dX9_takeNewName_41 : dc cX9_takeNewName 41 (.iconst 3) 1 42 := ⟨by decide +kernel, rfl⟩
theorem dX9_takeNewName_42 : dc cX9_takeNewName 42 (.invokevirtual 81) 3 45 := ⟨by decide +kernel, rfl⟩
theorem dX9_takeNewName_45 : dc cX9_takeNewName 45 (.pop) 1 46 := ⟨by decide +kernel, rfl⟩
theorem dX9_takeNewName_46 : dc cX9_takeNewName 46 (.lconst 0) 1 47 := ⟨by decide +kernel, rfl⟩
theorem dX9_takeNewName_47 : dc cX9_takeNewName 47 (.lreturn) 1 48 := ⟨by decide +kernel, rfl⟩
theorem dX9_takeNewName_48 : dc cX9_takeNewName 48 (.aload_n 0) 1 49 := ⟨by decide +kernel, rfl⟩
theorem dX9_takeNewName_49 : dc cX9_takeNewName 49 (.getfield 65) 3 52 := ⟨by decide +kernel, rfl⟩
theorem dX9_takeNewName_52 : dc cX9_takeNewName 52 (.lstore_n 2) 1 53 := ⟨by decide +kernel, rfl⟩
theorem dX9_takeNewName_53 : dc cX9_takeNewName 53 (.aload_n 0) 1 54 := ⟨by decide +kernel, rfl⟩
theorem dX9_takeNewName_54 : dc cX9_takeNewName 54 (.invokevirtual 59) 3 57 := ⟨by decide +kernel, rfl⟩
theorem dX9_takeNewName_57 : dc cX9_takeNewName 57 (.lload_n 2) 1 58 := ⟨by decide +kernel, rfl⟩
theorem dX9_takeNewName_58 : dc cX9_takeNewName 58 (.lreturn) 1 59 := ⟨by decide +kernel, rfl⟩
theorem nm_X9_takeNewName : (yX9_takeNewName).cls ≠ "java/lang/invoke/MethodHandle" ∧ (yX9_takeNewName).cls ≠ "java/lang/invoke/VarHandle" ∧ (parseMethodDescriptor (yX9_takeNewName).desc).map (fun d => d.parameters.length) = some 1 := ⟨by decide +kernel, by decide +kernel, by decide +kernel⟩
set_option maxRecDepth 100000 in
set_option maxHeartbeats 4000000 in
theorem c_X9_takeNewName_L {l : Launch} {ad : Nat → Nat} {cy : Nat → ClassId} {D : va_G} {z : Nat} (n : Nat) {a0 : Nat} {a1 : Nat} {M : KM} {y : (Int64 × KM)} (h0 : kty a0 = 4) (h1 : kty a1 = 3) (hf : f_X9_takeNewName n a0 a1 M = some y) : KC l ad cy D z yX9_takeNewName cX9_takeNewName 4 (some .long) 3 [.ref (ad a0), .ref (ad a1)] M (some (.long y.1), y.2) := by
  refine kv_enter (by decide +kernel) (Nat.le_of_ble_eq_true rfl) ?_
  intro x hl hD hz G
  subst hl hD hz
  unfold f_X9_takeNewName at hf
  have G : KG ad cy x cX9_takeNewName "NoonGuides$TextReader" 4 (some (some .long)) 3 := G
  show KV ad cy x (some (.long y.1), y.2) 0 [(0, .ref (ad a0)), (1, .ref (ad a1))] [] M
  refine v_aload_n G dX9_takeNewName_0 0 rfl ?_
  refine gf_3_9 G h0 t_109 (Or.inl rfl) dX9_takeNewName_1 ?_
  refine v_lconst (0 : Int64) G dX9_takeNewName_4 (by decide) ?_
  refine v_lcmp G dX9_takeNewName_5 ?_
  refine v_if_ne 16 G dX9_takeNewName_6 (by decide) (fun h9 => ?_) (fun h9 => ?_)
  · replace hf := (if_neg h9).symm.trans hf
    refine v_aload_n G dX9_takeNewName_16 1 rfl ?_
    refine v_aload_n G dX9_takeNewName_17 0 rfl ?_
    refine gf_3_9 G h0 t_109 (Or.inl rfl) dX9_takeNewName_18 ?_
    obtain ⟨v1, hcv1, hf⟩ := bd_e hf
    refine v_callV [.long (M.2.1 a0 9)] G (c_X2_placeNamed n h1 hcv1) h1 (by decide) rfl rfl rfl t_1110 t_1111 t_1112 t_13 t_1113 nm_X2_placeNamed (by decide) (by decide) rfl rfl (Nat.le_of_ble_eq_true rfl) dX9_takeNewName_21 (kv_ri ?_)
    refine v_iconst (-1 : Int32) G dX9_takeNewName_24 (by decide) ?_
    obtain ⟨j40, ej40, hf⟩ := lt_j hf
    have hj40 : j40 = some y → KV ad cy x (some (.long y.1), y.2) 40 [(0, .ref (ad a0))] [] M := by
      intro hf
      rw [ej40] at hf
      refine v_aload_n G dX9_takeNewName_40 0 rfl ?_
      refine v_iconst (3 : Int32) G dX9_takeNewName_41 (by decide) ?_
      obtain ⟨v2, hcv2⟩ : ∃ q, f_X9_fail a0 (3 : Int32) M = q := ⟨_, rfl⟩
      replace hf := lt_e hf hcv2.symm
      refine v_callU (owner := "NoonGuides$TextReader") [.int (3 : Int32)] G (c_X9_fail_L h0 hcv2) h0 (by decide) rfl rfl t_1060 t_1286 t_1036 t_1288 t_2 t_1037 rfl nm_X9_fail (by decide) (by decide) rfl rfl (Nat.le_of_ble_eq_true rfl) dX9_takeNewName_42 (kv_ri ?_)
      refine v_pop G dX9_takeNewName_45 rfl ?_
      refine v_lconst (0 : Int64) G dX9_takeNewName_46 (by decide) ?_
      obtain rfl := Option.some.inj hf
      exact v_lret G dX9_takeNewName_47
    refine v_icmp_ne 40 G dX9_takeNewName_25 (by decide) (fun h7 => ?_) (fun h7 => ?_)
    · replace hf := (if_neg h7).symm.trans hf
      refine v_sub _ [0] rfl ?_
      exact hj40 hf
    · replace hf := (if_pos h7).symm.trans hf
      refine v_aload_n G dX9_takeNewName_28 1 rfl ?_
      refine v_aload_n G dX9_takeNewName_29 0 rfl ?_
      refine gf_3_9 G h0 t_109 (Or.inl rfl) dX9_takeNewName_30 ?_
      obtain ⟨v3, hcv3, hf⟩ := bd_e hf
      refine v_callV [.long (M.2.1 a0 9)] G (c_X2_personNamed n h1 hcv3) h1 (by decide) rfl rfl rfl t_1114 t_1115 t_1116 t_13 t_1117 nm_X2_personNamed (by decide) (by decide) rfl rfl (Nat.le_of_ble_eq_true rfl) dX9_takeNewName_33 (kv_ri ?_)
      refine v_iconst (-1 : Int32) G dX9_takeNewName_36 (by decide) ?_
      refine v_icmp_eq 48 G dX9_takeNewName_37 (by decide) (fun h6 => ?_) (fun h6 => ?_)
      · replace hf := (if_pos h6).symm.trans hf
        refine v_aload_n G dX9_takeNewName_48 0 rfl ?_
        refine gf_3_9 G h0 t_109 (Or.inl rfl) dX9_takeNewName_49 ?_
        refine v_nml (fun v4 ev4 => ?_)
        replace hf := lt_e hf ev4
        refine v_lstore_n [(2, .long v4), (0, .ref (ad a0)), (1, .ref (ad a1))] G dX9_takeNewName_52 (by decide) rfl ?_
        refine v_aload_n G dX9_takeNewName_53 1 rfl ?_
        obtain ⟨v5, hcv5, hf⟩ := bd_e hf
        refine v_callU (owner := "NoonGuides$TextReader") [] G (c_X9_advance_L n h0 hcv5) h0 (by decide) rfl rfl t_1006 t_1283 t_1008 t_x0 t_2 t_1009 rfl nm_X9_advance (by decide) (by decide) rfl rfl (Nat.le_of_ble_eq_true rfl) dX9_takeNewName_54 (kv_rv ?_)
        refine v_lload_n G dX9_takeNewName_57 0 rfl ?_
        obtain rfl := Option.some.inj hf
        exact v_lret G dX9_takeNewName_58
      · replace hf := (if_neg h6).symm.trans hf
        refine v_sub _ [0] rfl ?_
        exact hj40 hf
  · replace hf := (if_pos h9).symm.trans hf
    refine v_aload_n G dX9_takeNewName_9 0 rfl ?_
    obtain ⟨v8, hcv8⟩ : ∃ q, f_X9_failOrder a0 M = q := ⟨_, rfl⟩
    replace hf := lt_e hf hcv8.symm
    refine v_callU (owner := "NoonGuides$TextReader") [] G (c_X9_failOrder_L h0 hcv8) h0 (by decide) rfl rfl t_1054 t_1056 t_1055 t_1058 t_2 t_1059 rfl nm_X9_failOrder (by decide) (by decide) rfl rfl (Nat.le_of_ble_eq_true rfl) dX9_takeNewName_10 (kv_ri ?_)
    refine v_pop G dX9_takeNewName_13 rfl ?_
    refine v_lconst (0 : Int64) G dX9_takeNewName_14 (by decide) ?_
    obtain rfl := Option.some.inj hf
    exact v_lret G dX9_takeNewName_15
set_option maxRecDepth 100000 in
set_option maxHeartbeats 4000000 in
theorem c_X9_takeNewName_D {l : Launch} {ad : Nat → Nat} {cy : Nat → ClassId} {D : va_G} {z : Nat} (n : Nat) {a0 : Nat} {a1 : Nat} {M : KM} {y : (Int64 × KM)} (h0 : kty a0 = 1) (h1 : kty a1 = 3) (hf : f_X9_takeNewName n a0 a1 M = some y) : KC l ad cy D z yX9_takeNewName cX9_takeNewName 4 (some .long) 3 [.ref (ad a0), .ref (ad a1)] M (some (.long y.1), y.2) := by
  refine kv_enter (by decide +kernel) (Nat.le_of_ble_eq_true rfl) ?_
  intro x hl hD hz G
  subst hl hD hz
  unfold f_X9_takeNewName at hf
  have G : KG ad cy x cX9_takeNewName "NoonGuides$TextReader" 4 (some (some .long)) 3 := G
  show KV ad cy x (some (.long y.1), y.2) 0 [(0, .ref (ad a0)), (1, .ref (ad a1))] [] M
  refine v_aload_n G dX9_takeNewName_0 0 rfl ?_
  refine gf_0_9 G h0 t_109 (Or.inl rfl) dX9_takeNewName_1 ?_
  refine v_lconst (0 : Int64) G dX9_takeNewName_4 (by decide) ?_
  refine v_lcmp G dX9_takeNewName_5 ?_
  refine v_if_ne 16 G dX9_takeNewName_6 (by decide) (fun h9 => ?_) (fun h9 => ?_)
  · replace hf := (if_neg h9).symm.trans hf
    refine v_aload_n G dX9_takeNewName_16 1 rfl ?_
    refine v_aload_n G dX9_takeNewName_17 0 rfl ?_
    refine gf_0_9 G h0 t_109 (Or.inl rfl) dX9_takeNewName_18 ?_
    obtain ⟨v1, hcv1, hf⟩ := bd_e hf
    refine v_callV [.long (M.2.1 a0 9)] G (c_X2_placeNamed n h1 hcv1) h1 (by decide) rfl rfl rfl t_1110 t_1111 t_1112 t_13 t_1113 nm_X2_placeNamed (by decide) (by decide) rfl rfl (Nat.le_of_ble_eq_true rfl) dX9_takeNewName_21 (kv_ri ?_)
    refine v_iconst (-1 : Int32) G dX9_takeNewName_24 (by decide) ?_
    obtain ⟨j40, ej40, hf⟩ := lt_j hf
    have hj40 : j40 = some y → KV ad cy x (some (.long y.1), y.2) 40 [(0, .ref (ad a0))] [] M := by
      intro hf
      rw [ej40] at hf
      refine v_aload_n G dX9_takeNewName_40 0 rfl ?_
      refine v_iconst (3 : Int32) G dX9_takeNewName_41 (by decide) ?_
      obtain ⟨v2, hcv2⟩ : ∃ q, f_X9_fail a0 (3 : Int32) M = q := ⟨_, rfl⟩
      replace hf := lt_e hf hcv2.symm
      refine v_callU (owner := "NoonGuides$TextReader") [.int (3 : Int32)] G (c_X9_fail_D h0 hcv2) h0 (by decide) rfl rfl t_1060 t_1286 t_1036 t_1287 t_2 t_1037 rfl nm_X9_fail (by decide) (by decide) rfl rfl (Nat.le_of_ble_eq_true rfl) dX9_takeNewName_42 (kv_ri ?_)
      refine v_pop G dX9_takeNewName_45 rfl ?_
      refine v_lconst (0 : Int64) G dX9_takeNewName_46 (by decide) ?_
      obtain rfl := Option.some.inj hf
      exact v_lret G dX9_takeNewName_47
    refine v_icmp_ne 40 G dX9_takeNewName_25 (by decide) (fun h7 => ?_) (fun h7 => ?_)
    · replace hf := (if_neg h7).symm.trans hf
      refine v_sub _ [0] rfl ?_
      exact hj40 hf
    · replace hf := (if_pos h7).symm.trans hf
      refine v_aload_n G dX9_takeNewName_28 1 rfl ?_
      refine v_aload_n G dX9_takeNewName_29 0 rfl ?_
      refine gf_0_9 G h0 t_109 (Or.inl rfl) dX9_takeNewName_30 ?_
      obtain ⟨v3, hcv3, hf⟩ := bd_e hf
      refine v_callV [.long (M.2.1 a0 9)] G (c_X2_personNamed n h1 hcv3) h1 (by decide) rfl rfl rfl t_1114 t_1115 t_1116 t_13 t_1117 nm_X2_personNamed (by decide) (by decide) rfl rfl (Nat.le_of_ble_eq_true rfl) dX9_takeNewName_33 (kv_ri ?_)
      refine v_iconst (-1 : Int32) G dX9_takeNewName_36 (by decide) ?_
      refine v_icmp_eq 48 G dX9_takeNewName_37 (by decide) (fun h6 => ?_) (fun h6 => ?_)
      · replace hf := (if_pos h6).symm.trans hf
        refine v_aload_n G dX9_takeNewName_48 0 rfl ?_
        refine gf_0_9 G h0 t_109 (Or.inl rfl) dX9_takeNewName_49 ?_
        refine v_nml (fun v4 ev4 => ?_)
        replace hf := lt_e hf ev4
        refine v_lstore_n [(2, .long v4), (0, .ref (ad a0)), (1, .ref (ad a1))] G dX9_takeNewName_52 (by decide) rfl ?_
        refine v_aload_n G dX9_takeNewName_53 1 rfl ?_
        obtain ⟨v5, hcv5, hf⟩ := bd_e hf
        refine v_callU (owner := "NoonGuides$TextReader") [] G (c_X9_advance_D n h0 hcv5) h0 (by decide) rfl rfl t_1006 t_1283 t_1008 t_x4 t_2 t_1009 rfl nm_X9_advance (by decide) (by decide) rfl rfl (Nat.le_of_ble_eq_true rfl) dX9_takeNewName_54 (kv_rv ?_)
        refine v_lload_n G dX9_takeNewName_57 0 rfl ?_
        obtain rfl := Option.some.inj hf
        exact v_lret G dX9_takeNewName_58
      · replace hf := (if_neg h6).symm.trans hf
        refine v_sub _ [0] rfl ?_
        exact hj40 hf
  · replace hf := (if_pos h9).symm.trans hf
    refine v_aload_n G dX9_takeNewName_9 0 rfl ?_
    obtain ⟨v8, hcv8⟩ : ∃ q, f_X9_failOrder a0 M = q := ⟨_, rfl⟩
    replace hf := lt_e hf hcv8.symm
    refine v_callU (owner := "NoonGuides$TextReader") [] G (c_X9_failOrder_D h0 hcv8) h0 (by decide) rfl rfl t_1054 t_1056 t_1055 t_1057 t_2 t_1059 rfl nm_X9_failOrder (by decide) (by decide) rfl rfl (Nat.le_of_ble_eq_true rfl) dX9_takeNewName_10 (kv_ri ?_)
    refine v_pop G dX9_takeNewName_13 rfl ?_
    refine v_lconst (0 : Int64) G dX9_takeNewName_14 (by decide) ?_
    obtain rfl := Option.some.inj hf
    exact v_lret G dX9_takeNewName_15
abbrev cX9_takeKnown : ByteArray := prog_11_method_19_code
def yX9_takeKnown : MethodName := ⟨RX9, "takeKnown", "(I)I"⟩
theorem dX9_takeKnown_0 : dc cX9_takeKnown 0 (.aload_n 0) 1 1 := ⟨by decide +kernel, rfl⟩
theorem dX9_takeKnown_1 : dc cX9_takeKnown 1 (.getfield 65) 3 4 := ⟨by decide +kernel, rfl⟩
theorem dX9_takeKnown_4 : dc cX9_takeKnown 4 (.lconst 0) 1 5 := ⟨by decide +kernel, rfl⟩
theorem dX9_takeKnown_5 : dc cX9_takeKnown 5 (.lcmp) 1 6 := ⟨by decide +kernel, rfl⟩
theorem dX9_takeKnown_6 : dc cX9_takeKnown 6 (.ifCond .ne 10) 3 9 := ⟨by decide +kernel, rfl⟩
theorem dX9_takeKnown_9 : dc cX9_takeKnown 9 (.aload_n 0) 1 10 := ⟨by decide +kernel, rfl⟩
theorem dX9_takeKnown_10 : dc cX9_takeKnown 10 (.invokevirtual 88) 3 13 := ⟨by decide +kernel, rfl⟩
theorem dX9_takeKnown_13 : dc cX9_takeKnown 13 (.pop) 1 14 := ⟨by decide +kernel, rfl⟩
theorem dX9_takeKnown_14 : dc cX9_takeKnown 14 (.iconst (-1)) 1 15 := ⟨by decide +kernel, rfl⟩
theorem dX9_takeKnown_15 : dc cX9_takeKnown 15 (.ireturn) 1 16 := ⟨by decide +kernel, rfl⟩
theorem dX9_takeKnown_16 : dc cX9_takeKnown 16 (.iload_n 1) 1 17 := ⟨by decide +kernel, rfl⟩
theorem dX9_takeKnown_17 : dc cX9_takeKnown 17 (.iconst (-1)) 1 18 := ⟨by decide +kernel, rfl⟩
theorem dX9_takeKnown_18 : dc cX9_takeKnown 18 (.if_icmp .ne 11) 3 21 := ⟨by decide +kernel, rfl⟩
theorem dX9_takeKnown_21 : dc cX9_takeKnown 21 (.aload_n 0) 1 22 := ⟨by decide +kernel, rfl⟩
theorem dX9_takeKnown_22 : dc cX9_takeKnown 22 (.iconst 3) 1 23 := ⟨by decide +kernel, rfl⟩
theorem dX9_takeKnown_23 : dc cX9_takeKnown 23 (.invokevirtual 81) 3 26 := ⟨by decide +kernel, rfl⟩
theorem dX9_takeKnown_26 : dc cX9_takeKnown 26 (.pop) 1 27 := ⟨by decide +kernel, rfl⟩
theorem dX9_takeKnown_27 : dc cX9_takeKnown 27 (.iconst (-1)) 1 28 := ⟨by decide +kernel, rfl⟩
theorem dX9_takeKnown_28 : dc cX9_takeKnown 28 (.ireturn) 1 29 := ⟨by decide +kernel, rfl⟩
theorem dX9_takeKnown_29 : dc cX9_takeKnown 29 (.aload_n 0) 1 30 := ⟨by decide +kernel, rfl⟩
theorem dX9_takeKnown_30 : dc cX9_takeKnown 30 (.invokevirtual 59) 3 33 := ⟨by decide +kernel, rfl⟩
theorem dX9_takeKnown_33 : dc cX9_takeKnown 33 (.iload_n 1) 1 34 := ⟨by decide +kernel, rfl⟩
theorem dX9_takeKnown_34 : dc cX9_takeKnown 34 (.ireturn) 1 35 := ⟨by decide +kernel, rfl⟩
theorem nm_X9_takeKnown : (yX9_takeKnown).cls ≠ "java/lang/invoke/MethodHandle" ∧ (yX9_takeKnown).cls ≠ "java/lang/invoke/VarHandle" ∧ (parseMethodDescriptor (yX9_takeKnown).desc).map (fun d => d.parameters.length) = some 1 := ⟨by decide +kernel, by decide +kernel, by decide +kernel⟩
set_option maxRecDepth 100000 in
set_option maxHeartbeats 4000000 in
theorem c_X9_takeKnown_L {l : Launch} {ad : Nat → Nat} {cy : Nat → ClassId} {D : va_G} {z : Nat} (n : Nat) {a0 : Nat} {p1 : Int32} {M : KM} {y : (Int32 × KM)} (h0 : kty a0 = 4) (hf : f_X9_takeKnown n a0 p1 M = some y) : KC l ad cy D z yX9_takeKnown cX9_takeKnown 2 (some .int) 3 [.ref (ad a0), .int p1] M (some (.int y.1), y.2) := by
  refine kv_enter (by decide +kernel) (Nat.le_of_ble_eq_true rfl) ?_
  intro x hl hD hz G
  subst hl hD hz
  unfold f_X9_takeKnown at hf
  have G : KG ad cy x cX9_takeKnown "NoonGuides$TextReader" 2 (some (some .int)) 3 := G
  show KV ad cy x (some (.int y.1), y.2) 0 [(0, .ref (ad a0)), (1, .int p1)] [] M
  refine v_aload_n G dX9_takeKnown_0 0 rfl ?_
  refine gf_3_9 G h0 t_109 (Or.inl rfl) dX9_takeKnown_1 ?_
  refine v_lconst (0 : Int64) G dX9_takeKnown_4 (by decide) ?_
  refine v_lcmp G dX9_takeKnown_5 ?_
  refine v_if_ne 16 G dX9_takeKnown_6 (by decide) (fun h5 => ?_) (fun h5 => ?_)
  · replace hf := (if_neg h5).symm.trans hf
    refine v_iload_n G dX9_takeKnown_16 1 rfl ?_
    refine v_iconst (-1 : Int32) G dX9_takeKnown_17 (by decide) ?_
    refine v_icmp_ne 29 G dX9_takeKnown_18 (by decide) (fun h3 => ?_) (fun h3 => ?_)
    · replace hf := (if_neg h3).symm.trans hf
      refine v_aload_n G dX9_takeKnown_29 0 rfl ?_
      obtain ⟨v1, hcv1, hf⟩ := bd_e hf
      refine v_callU (owner := "NoonGuides$TextReader") [] G (c_X9_advance_L n h0 hcv1) h0 (by decide) rfl rfl t_1006 t_1283 t_1008 t_x0 t_2 t_1009 rfl nm_X9_advance (by decide) (by decide) rfl rfl (Nat.le_of_ble_eq_true rfl) dX9_takeKnown_30 (kv_rv ?_)
      refine v_iload_n G dX9_takeKnown_33 1 rfl ?_
      obtain rfl := Option.some.inj hf
      exact v_iret G dX9_takeKnown_34
    · replace hf := (if_pos h3).symm.trans hf
      refine v_aload_n G dX9_takeKnown_21 0 rfl ?_
      refine v_iconst (3 : Int32) G dX9_takeKnown_22 (by decide) ?_
      obtain ⟨v2, hcv2⟩ : ∃ q, f_X9_fail a0 (3 : Int32) M = q := ⟨_, rfl⟩
      replace hf := lt_e hf hcv2.symm
      refine v_callU (owner := "NoonGuides$TextReader") [.int (3 : Int32)] G (c_X9_fail_L h0 hcv2) h0 (by decide) rfl rfl t_1060 t_1286 t_1036 t_1288 t_2 t_1037 rfl nm_X9_fail (by decide) (by decide) rfl rfl (Nat.le_of_ble_eq_true rfl) dX9_takeKnown_23 (kv_ri ?_)
      refine v_pop G dX9_takeKnown_26 rfl ?_
      refine v_iconst (-1 : Int32) G dX9_takeKnown_27 (by decide) ?_
      obtain rfl := Option.some.inj hf
      exact v_iret G dX9_takeKnown_28
  · replace hf := (if_pos h5).symm.trans hf
    refine v_aload_n G dX9_takeKnown_9 0 rfl ?_
    obtain ⟨v4, hcv4⟩ : ∃ q, f_X9_failOrder a0 M = q := ⟨_, rfl⟩
    replace hf := lt_e hf hcv4.symm
    refine v_callU (owner := "NoonGuides$TextReader") [] G (c_X9_failOrder_L h0 hcv4) h0 (by decide) rfl rfl t_1054 t_1056 t_1055 t_1058 t_2 t_1059 rfl nm_X9_failOrder (by decide) (by decide) rfl rfl (Nat.le_of_ble_eq_true rfl) dX9_takeKnown_10 (kv_ri ?_)
    refine v_pop G dX9_takeKnown_13 rfl ?_
    refine v_iconst (-1 : Int32) G dX9_takeKnown_14 (by decide) ?_
    obtain rfl := Option.some.inj hf
    exact v_iret G dX9_takeKnown_15
set_option maxRecDepth 100000 in
set_option maxHeartbeats 4000000 in
theorem c_X9_takeKnown_D {l : Launch} {ad : Nat → Nat} {cy : Nat → ClassId} {D : va_G} {z : Nat} (n : Nat) {a0 : Nat} {p1 : Int32} {M : KM} {y : (Int32 × KM)} (h0 : kty a0 = 1) (hf : f_X9_takeKnown n a0 p1 M = some y) : KC l ad cy D z yX9_takeKnown cX9_takeKnown 2 (some .int) 3 [.ref (ad a0), .int p1] M (some (.int y.1), y.2) := by
  refine kv_enter (by decide +kernel) (Nat.le_of_ble_eq_true rfl) ?_
  intro x hl hD hz G
  subst hl hD hz
  unfold f_X9_takeKnown at hf
  have G : KG ad cy x cX9_takeKnown "NoonGuides$TextReader" 2 (some (some .int)) 3 := G
  show KV ad cy x (some (.int y.1), y.2) 0 [(0, .ref (ad a0)), (1, .int p1)] [] M
  refine v_aload_n G dX9_takeKnown_0 0 rfl ?_
  refine gf_0_9 G h0 t_109 (Or.inl rfl) dX9_takeKnown_1 ?_
  refine v_lconst (0 : Int64) G dX9_takeKnown_4 (by decide) ?_
  refine v_lcmp G dX9_takeKnown_5 ?_
  refine v_if_ne 16 G dX9_takeKnown_6 (by decide) (fun h5 => ?_) (fun h5 => ?_)
  · replace hf := (if_neg h5).symm.trans hf
    refine v_iload_n G dX9_takeKnown_16 1 rfl ?_
    refine v_iconst (-1 : Int32) G dX9_takeKnown_17 (by decide) ?_
    refine v_icmp_ne 29 G dX9_takeKnown_18 (by decide) (fun h3 => ?_) (fun h3 => ?_)
    · replace hf := (if_neg h3).symm.trans hf
      refine v_aload_n G dX9_takeKnown_29 0 rfl ?_
      obtain ⟨v1, hcv1, hf⟩ := bd_e hf
      refine v_callU (owner := "NoonGuides$TextReader") [] G (c_X9_advance_D n h0 hcv1) h0 (by decide) rfl rfl t_1006 t_1283 t_1008 t_x4 t_2 t_1009 rfl nm_X9_advance (by decide) (by decide) rfl rfl (Nat.le_of_ble_eq_true rfl) dX9_takeKnown_30 (kv_rv ?_)
      refine v_iload_n G dX9_takeKnown_33 1 rfl ?_
      obtain rfl := Option.some.inj hf
      exact v_iret G dX9_takeKnown_34
    · replace hf := (if_pos h3).symm.trans hf
      refine v_aload_n G dX9_takeKnown_21 0 rfl ?_
      refine v_iconst (3 : Int32) G dX9_takeKnown_22 (by decide) ?_
      obtain ⟨v2, hcv2⟩ : ∃ q, f_X9_fail a0 (3 : Int32) M = q := ⟨_, rfl⟩
      replace hf := lt_e hf hcv2.symm
      refine v_callU (owner := "NoonGuides$TextReader") [.int (3 : Int32)] G (c_X9_fail_D h0 hcv2) h0 (by decide) rfl rfl t_1060 t_1286 t_1036 t_1287 t_2 t_1037 rfl nm_X9_fail (by decide) (by decide) rfl rfl (Nat.le_of_ble_eq_true rfl) dX9_takeKnown_23 (kv_ri ?_)
      refine v_pop G dX9_takeKnown_26 rfl ?_
      refine v_iconst (-1 : Int32) G dX9_takeKnown_27 (by decide) ?_
      obtain rfl := Option.some.inj hf
      exact v_iret G dX9_takeKnown_28
  · replace hf := (if_pos h5).symm.trans hf
    refine v_aload_n G dX9_takeKnown_9 0 rfl ?_
    obtain ⟨v4, hcv4⟩ : ∃ q, f_X9_failOrder a0 M = q := ⟨_, rfl⟩
    replace hf := lt_e hf hcv4.symm
    refine v_callU (owner := "NoonGuides$TextReader") [] G (c_X9_failOrder_D h0 hcv4) h0 (by decide) rfl rfl t_1054 t_1056 t_1055 t_1057 t_2 t_1059 rfl nm_X9_failOrder (by decide) (by decide) rfl rfl (Nat.le_of_ble_eq_true rfl) dX9_takeKnown_10 (kv_ri ?_)
    refine v_pop G dX9_takeKnown_13 rfl ?_
    refine v_iconst (-1 : Int32) G dX9_takeKnown_14 (by decide) ?_
    obtain rfl := Option.some.inj hf
    exact v_iret G dX9_takeKnown_15
abbrev cX9_takePlace : ByteArray := prog_11_method_17_code
def yX9_takePlace : MethodName := ⟨RX9, "takePlace", "(LNoonGuides$Land;)I"⟩
theorem dX9_takePlace_0 : dc cX9_takePlace 0 (.aload_n 0) 1 1 := ⟨by decide +kernel, rfl⟩
theorem dX9_takePlace_1 : dc cX9_takePlace 1 (.aload_n 1) 1 2 := ⟨by decide +kernel, rfl⟩
theorem dX9_takePlace_2 : dc cX9_takePlace 2 (.aload_n 0) 1 3 := ⟨by decide +kernel, rfl⟩
theorem dX9_takePlace_3 : dc cX9_takePlace 3 (.getfield 65) 3 6 := ⟨by decide +kernel, rfl⟩
theorem dX9_takePlace_6 : dc cX9_takePlace 6 (.invokevirtual 92) 3 9 := ⟨by decide +kernel, rfl⟩
theorem dX9_takePlace_9 : dc cX9_takePlace 9 (.invokevirtual 101) 3 12 := ⟨by decide +kernel, rfl⟩
theorem dX9_takePlace_12 : dc cX9_takePlace 12 (.ireturn) 1 13 := ⟨by decide +kernel, rfl⟩
theorem nm_X9_takePlace : (yX9_takePlace).cls ≠ "java/lang/invoke/MethodHandle" ∧ (yX9_takePlace).cls ≠ "java/lang/invoke/VarHandle" ∧ (parseMethodDescriptor (yX9_takePlace).desc).map (fun d => d.parameters.length) = some 1 := ⟨by decide +kernel, by decide +kernel, by decide +kernel⟩
set_option maxRecDepth 100000 in
set_option maxHeartbeats 4000000 in
theorem c_X9_takePlace_L {l : Launch} {ad : Nat → Nat} {cy : Nat → ClassId} {D : va_G} {z : Nat} (n : Nat) {a0 : Nat} {a1 : Nat} {M : KM} {y : (Int32 × KM)} (h0 : kty a0 = 4) (h1 : kty a1 = 3) (hf : f_X9_takePlace n a0 a1 M = some y) : KC l ad cy D z yX9_takePlace cX9_takePlace 2 (some .int) 4 [.ref (ad a0), .ref (ad a1)] M (some (.int y.1), y.2) := by
  refine kv_enter (by decide +kernel) (Nat.le_of_ble_eq_true rfl) ?_
  intro x hl hD hz G
  subst hl hD hz
  unfold f_X9_takePlace at hf
  have G : KG ad cy x cX9_takePlace "NoonGuides$TextReader" 2 (some (some .int)) 4 := G
  show KV ad cy x (some (.int y.1), y.2) 0 [(0, .ref (ad a0)), (1, .ref (ad a1))] [] M
  refine v_aload_n G dX9_takePlace_0 0 rfl ?_
  refine v_aload_n G dX9_takePlace_1 1 rfl ?_
  refine v_aload_n G dX9_takePlace_2 0 rfl ?_
  refine gf_3_9 G h0 t_109 (Or.inl rfl) dX9_takePlace_3 ?_
  obtain ⟨v1, hcv1, hf⟩ := bd_e hf
  refine v_callV [.long (M.2.1 a0 9)] G (c_X2_placeNamed n h1 hcv1) h1 (by decide) rfl rfl rfl t_1110 t_1111 t_1112 t_13 t_1113 nm_X2_placeNamed (by decide) (by decide) rfl rfl (Nat.le_of_ble_eq_true rfl) dX9_takePlace_6 (kv_ri ?_)
  obtain ⟨v2, hcv2, hf⟩ := bd_e hf
  refine v_callU (owner := "NoonGuides$TextReader") [.int v1] G (c_X9_takeKnown_L n h0 hcv2) h0 (by decide) rfl rfl t_1132 t_1289 t_1134 t_x3 t_2 t_1135 rfl nm_X9_takeKnown (by decide) (by decide) rfl rfl (Nat.le_of_ble_eq_true rfl) dX9_takePlace_9 (kv_ri ?_)
  obtain rfl := Option.some.inj hf
  exact v_iret G dX9_takePlace_12
set_option maxRecDepth 100000 in
set_option maxHeartbeats 4000000 in
theorem c_X9_takePlace_D {l : Launch} {ad : Nat → Nat} {cy : Nat → ClassId} {D : va_G} {z : Nat} (n : Nat) {a0 : Nat} {a1 : Nat} {M : KM} {y : (Int32 × KM)} (h0 : kty a0 = 1) (h1 : kty a1 = 3) (hf : f_X9_takePlace n a0 a1 M = some y) : KC l ad cy D z yX9_takePlace cX9_takePlace 2 (some .int) 4 [.ref (ad a0), .ref (ad a1)] M (some (.int y.1), y.2) := by
  refine kv_enter (by decide +kernel) (Nat.le_of_ble_eq_true rfl) ?_
  intro x hl hD hz G
  subst hl hD hz
  unfold f_X9_takePlace at hf
  have G : KG ad cy x cX9_takePlace "NoonGuides$TextReader" 2 (some (some .int)) 4 := G
  show KV ad cy x (some (.int y.1), y.2) 0 [(0, .ref (ad a0)), (1, .ref (ad a1))] [] M
  refine v_aload_n G dX9_takePlace_0 0 rfl ?_
  refine v_aload_n G dX9_takePlace_1 1 rfl ?_
  refine v_aload_n G dX9_takePlace_2 0 rfl ?_
  refine gf_0_9 G h0 t_109 (Or.inl rfl) dX9_takePlace_3 ?_
  obtain ⟨v1, hcv1, hf⟩ := bd_e hf
  refine v_callV [.long (M.2.1 a0 9)] G (c_X2_placeNamed n h1 hcv1) h1 (by decide) rfl rfl rfl t_1110 t_1111 t_1112 t_13 t_1113 nm_X2_placeNamed (by decide) (by decide) rfl rfl (Nat.le_of_ble_eq_true rfl) dX9_takePlace_6 (kv_ri ?_)
  obtain ⟨v2, hcv2, hf⟩ := bd_e hf
  refine v_callU (owner := "NoonGuides$TextReader") [.int v1] G (c_X9_takeKnown_D n h0 hcv2) h0 (by decide) rfl rfl t_1132 t_1289 t_1134 t_x7 t_2 t_1135 rfl nm_X9_takeKnown (by decide) (by decide) rfl rfl (Nat.le_of_ble_eq_true rfl) dX9_takePlace_9 (kv_ri ?_)
  obtain rfl := Option.some.inj hf
  exact v_iret G dX9_takePlace_12
abbrev cX9_takePerson : ByteArray := prog_11_method_18_code
def yX9_takePerson : MethodName := ⟨RX9, "takePerson", "(LNoonGuides$Land;)I"⟩
theorem dX9_takePerson_0 : dc cX9_takePerson 0 (.aload_n 0) 1 1 := ⟨by decide +kernel, rfl⟩
theorem dX9_takePerson_1 : dc cX9_takePerson 1 (.aload_n 1) 1 2 := ⟨by decide +kernel, rfl⟩
theorem dX9_takePerson_2 : dc cX9_takePerson 2 (.aload_n 0) 1 3 := ⟨by decide +kernel, rfl⟩
theorem dX9_takePerson_3 : dc cX9_takePerson 3 (.getfield 65) 3 6 := ⟨by decide +kernel, rfl⟩
theorem dX9_takePerson_6 : dc cX9_takePerson 6 (.invokevirtual 98) 3 9 := ⟨by decide +kernel, rfl⟩
theorem dX9_takePerson_9 : dc cX9_takePerson 9 (.invokevirtual 101) 3 12 := ⟨by decide +kernel, rfl⟩
theorem dX9_takePerson_12 : dc cX9_takePerson 12 (.ireturn) 1 13 := ⟨by decide +kernel, rfl⟩
theorem nm_X9_takePerson : (yX9_takePerson).cls ≠ "java/lang/invoke/MethodHandle" ∧ (yX9_takePerson).cls ≠ "java/lang/invoke/VarHandle" ∧ (parseMethodDescriptor (yX9_takePerson).desc).map (fun d => d.parameters.length) = some 1 := ⟨by decide +kernel, by decide +kernel, by decide +kernel⟩
set_option maxRecDepth 100000 in
set_option maxHeartbeats 4000000 in
theorem c_X9_takePerson_L {l : Launch} {ad : Nat → Nat} {cy : Nat → ClassId} {D : va_G} {z : Nat} (n : Nat) {a0 : Nat} {a1 : Nat} {M : KM} {y : (Int32 × KM)} (h0 : kty a0 = 4) (h1 : kty a1 = 3) (hf : f_X9_takePerson n a0 a1 M = some y) : KC l ad cy D z yX9_takePerson cX9_takePerson 2 (some .int) 4 [.ref (ad a0), .ref (ad a1)] M (some (.int y.1), y.2) := by
  refine kv_enter (by decide +kernel) (Nat.le_of_ble_eq_true rfl) ?_
  intro x hl hD hz G
  subst hl hD hz
  unfold f_X9_takePerson at hf
  have G : KG ad cy x cX9_takePerson "NoonGuides$TextReader" 2 (some (some .int)) 4 := G
  show KV ad cy x (some (.int y.1), y.2) 0 [(0, .ref (ad a0)), (1, .ref (ad a1))] [] M
  refine v_aload_n G dX9_takePerson_0 0 rfl ?_
  refine v_aload_n G dX9_takePerson_1 1 rfl ?_
  refine v_aload_n G dX9_takePerson_2 0 rfl ?_
  refine gf_3_9 G h0 t_109 (Or.inl rfl) dX9_takePerson_3 ?_
  obtain ⟨v1, hcv1, hf⟩ := bd_e hf
  refine v_callV [.long (M.2.1 a0 9)] G (c_X2_personNamed n h1 hcv1) h1 (by decide) rfl rfl rfl t_1114 t_1115 t_1116 t_13 t_1117 nm_X2_personNamed (by decide) (by decide) rfl rfl (Nat.le_of_ble_eq_true rfl) dX9_takePerson_6 (kv_ri ?_)
  obtain ⟨v2, hcv2, hf⟩ := bd_e hf
  refine v_callU (owner := "NoonGuides$TextReader") [.int v1] G (c_X9_takeKnown_L n h0 hcv2) h0 (by decide) rfl rfl t_1132 t_1289 t_1134 t_x3 t_2 t_1135 rfl nm_X9_takeKnown (by decide) (by decide) rfl rfl (Nat.le_of_ble_eq_true rfl) dX9_takePerson_9 (kv_ri ?_)
  obtain rfl := Option.some.inj hf
  exact v_iret G dX9_takePerson_12
set_option maxRecDepth 100000 in
set_option maxHeartbeats 4000000 in
theorem c_X9_takePerson_D {l : Launch} {ad : Nat → Nat} {cy : Nat → ClassId} {D : va_G} {z : Nat} (n : Nat) {a0 : Nat} {a1 : Nat} {M : KM} {y : (Int32 × KM)} (h0 : kty a0 = 1) (h1 : kty a1 = 3) (hf : f_X9_takePerson n a0 a1 M = some y) : KC l ad cy D z yX9_takePerson cX9_takePerson 2 (some .int) 4 [.ref (ad a0), .ref (ad a1)] M (some (.int y.1), y.2) := by
  refine kv_enter (by decide +kernel) (Nat.le_of_ble_eq_true rfl) ?_
  intro x hl hD hz G
  subst hl hD hz
  unfold f_X9_takePerson at hf
  have G : KG ad cy x cX9_takePerson "NoonGuides$TextReader" 2 (some (some .int)) 4 := G
  show KV ad cy x (some (.int y.1), y.2) 0 [(0, .ref (ad a0)), (1, .ref (ad a1))] [] M
  refine v_aload_n G dX9_takePerson_0 0 rfl ?_
  refine v_aload_n G dX9_takePerson_1 1 rfl ?_
  refine v_aload_n G dX9_takePerson_2 0 rfl ?_
  refine gf_0_9 G h0 t_109 (Or.inl rfl) dX9_takePerson_3 ?_
  obtain ⟨v1, hcv1, hf⟩ := bd_e hf
  refine v_callV [.long (M.2.1 a0 9)] G (c_X2_personNamed n h1 hcv1) h1 (by decide) rfl rfl rfl t_1114 t_1115 t_1116 t_13 t_1117 nm_X2_personNamed (by decide) (by decide) rfl rfl (Nat.le_of_ble_eq_true rfl) dX9_takePerson_6 (kv_ri ?_)
  obtain ⟨v2, hcv2, hf⟩ := bd_e hf
  refine v_callU (owner := "NoonGuides$TextReader") [.int v1] G (c_X9_takeKnown_D n h0 hcv2) h0 (by decide) rfl rfl t_1132 t_1289 t_1134 t_x7 t_2 t_1135 rfl nm_X9_takeKnown (by decide) (by decide) rfl rfl (Nat.le_of_ble_eq_true rfl) dX9_takePerson_9 (kv_ri ?_)
  obtain rfl := Option.some.inj hf
  exact v_iret G dX9_takePerson_12
