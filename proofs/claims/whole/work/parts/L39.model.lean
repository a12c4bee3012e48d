theorem BR_KR {D : va_G} {z : Nat} {E : KE} {H : Heap} {cy : Nat → ClassId} {M : KM} (hR : BR D z E H) (hE2 : E.2 = NK) (hE : ∀ a, a < NK → E.1 a = kc (fun b => z + b) cy (kty a) a (M.1 a) (M.2.1 a) (M.2.2 a)) (hT : KT M.2.2) : KR (fun b => z + b) D cy M H := by
  refine ⟨?_, hT⟩
  have e : kws (fun b => z + b) cy M = bws z E := by
    unfold kws bws
    rw [hE2]
    exact List.map_congr_left (fun a ha => by rw [hE a (List.mem_range.mp ha)])
  rw [e]
  exact hR.1
theorem KA_add (z : Nat) : KA (fun b => z + b) z := ⟨fun a b h => Nat.add_left_cancel h, fun a => Nat.le_add_right _ _⟩
/-- all objects stand: from here on by the rules of the memory -/
theorem b_kvI {cy : Nat → ClassId} {w : Nat × Nat} {x : BX} {E' : KE} {cc : ByteArray} {own : String} {nL d pc q1 q2 : Nat} {b : Bool} {o : KO} {L : List (Nat × Value)} {st : List Value} {E : KE} {M : KM} (G : BG cy w x cc own nL (some (b, none, fun _ => KQ (fun a => BXz x + a) cy (BXD x) (BXz x) o)) d) (hk : BXk x = (q1, q2)) (hE2 : E.2 = NK) (hE : ∀ a, a < NK → E.1 a = kc (fun a => BXz x + a) cy (kty a) a (M.1 a) (M.2.1 a) (M.2.2 a)) (hT : KT M.2.2)
    (k : ∀ xk : KX, KXl xk = BXl x → KXD xk = BXD x → KXz xk = BXz x → KG (fun a => BXz x + a) cy xk cc own nL (some none) d → KV (fun a => BXz x + a) cy xk o pc L st M) : BV x E' pc L st E q1 q2 := by
  obtain ⟨p, l, e, R, s, m, args, below, meth, c, D, z, n, k1, k2, Q⟩ := x
  obtain ⟨hx, hb, hml, hn, hown, hr, hlk, hts, hK, hW, ⟨hf, hkc, hks⟩, hlo, hz⟩ := G
  obtain ⟨hr2, -, hq⟩ := hr _ _ _ rfl
  have hq : Q = fun _ => MQ below (KQ (fun a => z + a) cy D z o) args s k1 k2 (fun q => z ≤ q) := hq
  subst hq
  cases hk
  intro H locs ls hR hS hl
  exact k (p, l, e, R, s, m, args, below, meth, c, D, z, n, k1, k2, fun o => MQ below (KQ (fun a => z + a) cy D z o) args s k1 k2 (fun q => z ≤ q)) rfl rfl rfl ⟨hx, hb, hml, hn, hown, fun r hr => by cases hr; exact ⟨hr2, rfl⟩, hlk, hts, hK, KA_add z, ⟨hf, hkc, hks⟩, hlo, hz⟩ H locs ls (BR_KR hR hE2 hE hT) hS hl
def toK (x : BX) (q1 q2 : Nat) (Qk : KO → State → Prop) : KX := match x with
  | (p, l, e, R, s, m, args, below, meth, c, D, z, n, k1, k2, Q) => (p, l, e, R, s, m, args, below, meth, c, D, z, n, q1, q2, Qk)
def BXQ (x : BX) : KE → State → Prop := match x with
  | (p, l, e, R, s, m, args, below, meth, c, D, z, n, k1, k2, Q) => Q
theorem toK_G {cy : Nat → ClassId} {w : Nat × Nat} {x : BX} {cc : ByteArray} {own : String} {nL d q1 q2 : Nat} {Qk : KO → State → Prop} (G : BG cy w x cc own nL none d) (h1 : q1 ≤ (BXk x).1) (h2 : q2 ≤ (BXk x).2) : KG (fun a => BXz x + a) cy (toK x q1 q2 Qk) cc own nL none d := by
  obtain ⟨p, l, e, R, s, m, args, below, meth, c, D, z, n, k1, k2, Q⟩ := x
  obtain ⟨hx, hb, hml, hn, hown, hr, hlk, hts, hK, hW, ⟨hf, hkc, hks⟩, hlo, hz⟩ := G
  exact ⟨hx, hb, hml, hn, hown, fun r hr => (by cases hr), hlk, hts, hK, KA_add z, ⟨hf, Nat.le_trans h1 hkc, Nat.le_trans h2 hks⟩, hlo, hz⟩
/-- a constructor is called behind which all objects stand -/
theorem b_kcall {cy : Nat → ClassId} {w : Nat × Nat} {x : BX} {E' : KE} {cc : ByteArray} {own : String} {nL d pc pc2 q1 q2 idx i mc ms d2 maxL : Nat} {ini : Option (Bool × Option FieldType × BP)} {y : MethodName} {bytes : ByteArray} {L : List (Nat × Value)} {rest : List Value} {E : KE} {o2 : KO} (G : BG cy w x cc own nL ini d) (hct : Met (BXl x) y (Cond.code y bytes maxL none :: tb) (brm d2 mc ms) (va_Pc [.ref (BXz x + i)] (fun U => BR (BXD x) (BXz x) E U.heap ∧ va_K (BXD x) vwCl (ktys cy) U ∧ KW (BXz x) w U U.heap ∧ BXz x ≤ U.heap.size)) (KQ (fun a => BXz x + a) cy (BXD x) (BXz x) o2) mc ms (fun q => BXz x ≤ q)) (w1 : Cond.methodLink own idx y ∈ tb) (w2 : Cond.instanceMethod y ∈ tb) (w4 : Cond.initialized y.cls ∈ tb) (w5 : Cond.code y bytes maxL none ∈ tb) (hyn : y.name = "<init>") (hnm : y.cls ≠ "java/lang/invoke/MethodHandle" ∧ y.cls ≠ "java/lang/invoke/VarHandle" ∧ (parseMethodDescriptor y.desc).map (fun d => d.parameters.length) = some 0) (hd2 : d2 < d) (hm : maxL ≤ 41) (h1 : q1 + mc ≤ (BXk x).1) (h2 : q2 + ms ≤ (BXk x).2) (hrm : (rest.map fun v => v.category).sum ≤ 8) (hd : dc cc pc (.invokespecial idx) 3 pc2) (Qk : KO → State → Prop) (o : KO) (hQ : Qk o = BXQ x E')
    (k : KV (fun a => BXz x + a) cy (toK x (q1 + mc) (q2 + ms) Qk) o pc2 L (o2.1.toList ++ rest) o2.2) : BV x E' pc L (.ref (BXz x + i) :: rest) E q1 q2 := by
  obtain ⟨p, l, e, R, s, m, args, below, meth, c, D, z, n, k1, k2, Q⟩ := x
  obtain ⟨hx, hb, hml, hn, hown, hr, hlk, hts, hK, hW, ⟨hf, hkc, hks⟩, hlo, hz⟩ := G
  obtain ⟨hd, rfl⟩ := hd
  intro H locs ls hR hS hl
  have hrun := va_runI (As := []) (rest := rest) (locs := locs) (cells := q1) (slots := q2) (p := p) (e := e) (below := below) (meth := meth) (g := F0 m pc ls (.ref (z + i) :: rest)) ⟨hx, hb, hml, hown, hts⟩ hct (cwI 0 hts (tb_good w5 (fun _ h => h)) rfl rfl rfl (hts _ w4) (hts _ w1) (hts _ w2) hyn hnm ⟨by show d2 + 1 ≤ R.frames; omega, by show 8 + (maxL + 11) + 60 * d2 ≤ R.locals; omega⟩) ⟨bc_blind, fun U hU hWm => ⟨rfl, by rw [hU]; exact hR, va_K.moved hWm.alike hK, by rw [hU]; exact (hW.kept hS).warm hWm, by rw [hU]; exact Nat.le_trans hz hS.1⟩⟩ rfl rfl (hl.1.trans hn) rfl (lv_room hrm) hd ⟨Nat.le_trans h1 hkc, Nat.le_trans h2 hks⟩
  intro T hT X
  obtain ⟨v, st₀, t, T', L1, h0, X', hL, e1, e2, ⟨hv, hR1, hz1, hk1⟩, stp⟩ := hrun T hT X
  cases hv
  rw [h0] at hz1 hk1
  obtain ⟨t2, a1, b1⟩ := k T'.heap (locs ++ L1) ls (by rw [e1]; exact hR1) ⟨Nat.le_trans hS.1 (by rw [e1]; exact hz1), fun q h1 h2 => by rw [e1, hk1 q (Nat.lt_of_lt_of_le h1 hS.1) h2]; exact hS.2.1 q h1 h2, fun q hq => by
      rcases List.mem_append.mp hq with h | h
      · exact hS.2.2 q h
      · exact hL q h⟩ hl T' rfl X'
  have hQ : Qk o = Q E' := hQ
  exact ⟨t2, stp t2 a1, by rw [← hQ]; exact b1⟩
abbrev cX12_init : ByteArray := prog_14_method_1_code
def yX12_init : MethodName := ⟨RX12, "<init>", "()V"⟩
theorem nm_X12_init : (yX12_init).cls ≠ "java/lang/invoke/MethodHandle" ∧ (yX12_init).cls ≠ "java/lang/invoke/VarHandle" ∧ (parseMethodDescriptor (yX12_init).desc).map (fun d => d.parameters.length) = some 0 := ⟨by decide +kernel, by decide +kernel, by decide +kernel⟩
theorem dX12_init_0 : dc cX12_init 0 (.aload_n 0) 1 1 := ⟨by decide +kernel, rfl⟩
theorem dX12_init_1 : dc cX12_init 1 (.invokespecial 1) 3 4 := ⟨by decide +kernel, rfl⟩
theorem dX12_init_4 : dc cX12_init 4 (.aload_n 0) 1 5 := ⟨by decide +kernel, rfl⟩
theorem dX12_init_5 : dc cX12_init 5 (.lconst 1) 1 6 := ⟨by decide +kernel, rfl⟩
theorem dX12_init_6 : dc cX12_init 6 (.putfield 7) 3 9 := ⟨by decide +kernel, rfl⟩
theorem dX12_init_9 : dc cX12_init 9 (.aload_n 0) 1 10 := ⟨by decide +kernel, rfl⟩
theorem dX12_init_10 : dc cX12_init 10 (.iconst 4) 1 11 := ⟨by decide +kernel, rfl⟩
theorem dX12_init_11 : dc cX12_init 11 (.newarray .int) 2 13 := ⟨by decide +kernel, rfl⟩
theorem dX12_init_13 : dc cX12_init 13 (.putfield 13) 3 16 := ⟨by decide +kernel, rfl⟩
theorem dX12_init_16 : dc cX12_init 16 (.aload_n 0) 1 17 := ⟨by decide +kernel, rfl⟩
theorem dX12_init_17 : dc cX12_init 17 (.iconst 4) 1 18 := ⟨by decide +kernel, rfl⟩
theorem dX12_init_18 : dc cX12_init 18 (.newarray .int) 2 20 := ⟨by decide +kernel, rfl⟩
theorem dX12_init_20 : dc cX12_init 20 (.putfield 17) 3 23 := ⟨by decide +kernel, rfl⟩
theorem dX12_init_23 : dc cX12_init 23 (.aload_n 0) 1 24 := ⟨by decide +kernel, rfl⟩
theorem dX12_init_24 : dc cX12_init 24 (.sipush 240) 3 27 := ⟨by decide +kernel, rfl⟩
theorem dX12_init_27 : dc cX12_init 27 (.newarray .long) 2 29 := ⟨by decide +kernel, rfl⟩
theorem dX12_init_29 : dc cX12_init 29 (.putfield 20) 3 32 := ⟨by decide +kernel, rfl⟩
theorem dX12_init_32 : dc cX12_init 32 (.aload_n 0) 1 33 := ⟨by decide +kernel, rfl⟩
theorem dX12_init_33 : dc cX12_init 33 (.sipush 900) 3 36 := ⟨by decide +kernel, rfl⟩
theorem dX12_init_36 : dc cX12_init 36 (.newarray .byte) 2 38 := ⟨by decide +kernel, rfl⟩
theorem dX12_init_38 : dc cX12_init 38 (.putfield 24) 3 41 := ⟨by decide +kernel, rfl⟩
theorem dX12_init_41 : dc cX12_init 41 (.aload_n 0) 1 42 := ⟨by decide +kernel, rfl⟩
theorem dX12_init_42 : dc cX12_init 42 (.iconst (-1)) 1 43 := ⟨by decide +kernel, rfl⟩
theorem dX12_init_43 : dc cX12_init 43 (.putfield 28) 3 46 := ⟨by decide +kernel, rfl⟩
theorem dX12_init_46 : dc cX12_init 46 (.aload_n 0) 1 47 := ⟨by decide +kernel, rfl⟩
theorem dX12_init_47 : dc cX12_init 47 (.iconst (-1)) 1 48 := ⟨by decide +kernel, rfl⟩
theorem dX12_init_48 : dc cX12_init 48 (.putfield 32) 3 51 := ⟨by decide +kernel, rfl⟩
theorem dX12_init_51 : dc cX12_init 51 (.aload_n 0) 1 52 := ⟨by decide +kernel, rfl⟩
theorem dX12_init_52 : dc cX12_init 52 (.sipush 2810) 3 55 := ⟨by decide +kernel, rfl⟩
theorem dX12_init_55 : dc cX12_init 55 (.newarray .int) 2 57 := ⟨by decide +kernel, rfl⟩
theorem dX12_init_57 : dc cX12_init 57 (.putfield 35) 3 60 := ⟨by decide +kernel, rfl⟩
theorem dX12_init_60 : dc cX12_init 60 (.aload_n 0) 1 61 := ⟨by decide +kernel, rfl⟩
theorem dX12_init_61 : dc cX12_init 61 (.sipush 290) 3 64 := ⟨by decide +kernel, rfl⟩
theorem dX12_init_64 : dc cX12_init 64 (.newarray .int) 2 66 := ⟨by decide +kernel, rfl⟩
theorem dX12_init_66 : dc cX12_init 66 (.putfield 38) 3 69 := ⟨by decide +kernel, rfl⟩
theorem dX12_init_69 : dc cX12_init 69 (.aload_n 0) 1 70 := ⟨by decide +kernel, rfl⟩
theorem dX12_init_70 : dc cX12_init 70 (.sipush 290) 3 73 := ⟨by decide +kernel, rfl⟩
theorem dX12_init_73 : dc cX12_init 73 (.newarray .int) 2 75 := ⟨by decide +kernel, rfl⟩
theorem dX12_init_75 : dc cX12_init 75 (.putfield 41) 3 78 := ⟨by decide +kernel, rfl⟩
theorem dX12_init_78 : dc cX12_init 78 (.aload_n 0) 1 79 := ⟨by decide +kernel, rfl⟩
theorem dX12_init_79 : dc cX12_init 79 (.bipush 80) 2 81 := ⟨by decide +kernel, rfl⟩
theorem dX12_init_81 : dc cX12_init 81 (.newarray .long) 2 83 := ⟨by decide +kernel, rfl⟩
theorem dX12_init_83 : dc cX12_init 83 (.putfield 44) 3 86 := ⟨by decide +kernel, rfl⟩
theorem dX12_init_86 : dc cX12_init 86 (.aload_n 0) 1 87 := ⟨by decide +kernel, rfl⟩
theorem dX12_init_87 : dc cX12_init 87 (.bipush 8) 2 89 := ⟨by decide +kernel, rfl⟩
theorem dX12_init_89 : dc cX12_init 89 (.newarray .int) 2 91 := ⟨by decide +kernel, rfl⟩
theorem dX12_init_91 : dc cX12_init 91 (.putfield 47) 3 94 := ⟨by decide +kernel, rfl⟩
theorem dX12_init_94 : dc cX12_init 94 (.aload_n 0) 1 95 := ⟨by decide +kernel, rfl⟩
theorem dX12_init_95 : dc cX12_init 95 (.bipush 8) 2 97 := ⟨by decide +kernel, rfl⟩
theorem dX12_init_97 : dc cX12_init 97 (.newarray .int) 2 99 := ⟨by decide +kernel, rfl⟩
theorem dX12_init_99 : dc cX12_init 99 (.putfield 50) 3 102 := ⟨by decide +kernel, rfl⟩
theorem dX12_init_102 : dc cX12_init 102 (.aload_n 0) 1 103 := ⟨by decide +kernel, rfl⟩
theorem dX12_init_103 : dc cX12_init 103 (.bipush 8) 2 105 := ⟨by decide +kernel, rfl⟩
theorem dX12_init_105 : dc cX12_init 105 (.newarray .long) 2 107 := ⟨by decide +kernel, rfl⟩
theorem dX12_init_107 : dc cX12_init 107 (.putfield 53) 3 110 := ⟨by decide +kernel, rfl⟩
theorem dX12_init_110 : dc cX12_init 110 (.aload_n 0) 1 111 := ⟨by decide +kernel, rfl⟩
theorem dX12_init_111 : dc cX12_init 111 (.bipush 8) 2 113 := ⟨by decide +kernel, rfl⟩
theorem dX12_init_113 : dc cX12_init 113 (.newarray .long) 2 115 := ⟨by decide +kernel, rfl⟩
theorem dX12_init_115 : dc cX12_init 115 (.putfield 56) 3 118 := ⟨by decide +kernel, rfl⟩
theorem dX12_init_118 : dc cX12_init 118 (.aload_n 0) 1 119 := ⟨by decide +kernel, rfl⟩
theorem dX12_init_119 : dc cX12_init 119 (.bipush 8) 2 121 := ⟨by decide +kernel, rfl⟩
theorem dX12_init_121 : dc cX12_init 121 (.newarray .int) 2 123 := ⟨by decide +kernel, rfl⟩
theorem dX12_init_123 : dc cX12_init 123 (.putfield 59) 3 126 := ⟨by decide +kernel, rfl⟩
theorem dX12_init_126 : dc cX12_init 126 (.aload_n 0) 1 127 := ⟨by decide +kernel, rfl⟩
theorem dX12_init_127 : dc cX12_init 127 (.bipush 8) 2 129 := ⟨by decide +kernel, rfl⟩
theorem dX12_init_129 : dc cX12_init 129 (.newarray .int) 2 131 := ⟨by decide +kernel, rfl⟩
theorem dX12_init_131 : dc cX12_init 131 (.putfield 62) 3 134 := ⟨by decide +kernel, rfl⟩
theorem dX12_init_134 : dc cX12_init 134 (.aload_n 0) 1 135 := ⟨by decide +kernel, rfl⟩
theorem dX12_init_135 : dc cX12_init 135 (.bipush 13) 2 137 := ⟨by decide +kernel, rfl⟩
theorem dX12_init_137 : dc cX12_init 137 (.newarray .long) 2 139 := ⟨by decide +kernel, rfl⟩
theorem dX12_init_139 : dc cX12_init 139 (.putfield 65) 3 142 := ⟨by decide +kernel, rfl⟩
theorem dX12_init_142 : dc cX12_init 142 (.aload_n 0) 1 143 := ⟨by decide +kernel, rfl⟩
theorem dX12_init_143 : dc cX12_init 143 (.iconst 5) 1 144 := ⟨by decide +kernel, rfl⟩
theorem dX12_init_144 : dc cX12_init 144 (.newarray .int) 2 146 := ⟨by decide +kernel, rfl⟩
theorem dX12_init_146 : dc cX12_init 146 (.putfield 68) 3 149 := ⟨by decide +kernel, rfl⟩
theorem dX12_init_149 : dc cX12_init 149 (.iconst 0) 1 150 := ⟨by decide +kernel, rfl⟩
theorem dX12_init_150 : dc cX12_init 150 (.istore_n 1) 1 151 := ⟨by decide +kernel, rfl⟩
theorem dX12_init_151 : dc cX12_init 151 (.iload_n 1) 1 152 := ⟨by decide +kernel, rfl⟩
theorem dX12_init_152 : dc cX12_init 152 (.iconst 4) 1 153 := ⟨by decide +kernel, rfl⟩
theorem dX12_init_153 : dc cX12_init 153 (.if_icmp .ge 16) 3 156 := ⟨by decide +kernel, rfl⟩
theorem dX12_init_156 : dc cX12_init 156 (.aload_n 0) 1 157 := ⟨by decide +kernel, rfl⟩
theorem dX12_init_157 : dc cX12_init 157 (.getfield 17) 3 160 := ⟨by decide +kernel, rfl⟩
theorem dX12_init_160 : dc cX12_init 160 (.iload_n 1) 1 161 := ⟨by decide +kernel, rfl⟩
theorem dX12_init_161 : dc cX12_init 161 (.iconst (-1)) 1 162 := ⟨by decide +kernel, rfl⟩
theorem dX12_init_162 : dc cX12_init 162 (.iastore) 1 163 := ⟨by decide +kernel, rfl⟩
theorem dX12_init_163 : dc cX12_init 163 (.iinc 1 1) 3 166 := ⟨by decide +kernel, rfl⟩
theorem dX12_init_166 : dc cX12_init 166 (.goto (-15)) 3 169 := ⟨by decide +kernel, rfl⟩
theorem dX12_init_169 : dc cX12_init 169 (.aload_n 0) 1 170 := ⟨by decide +kernel, rfl⟩
theorem dX12_init_170 : dc cX12_init 170 (.iconst 0) 1 171 := ⟨by decide +kernel, rfl⟩
theorem dX12_init_171 : dc cX12_init 171 (.invokevirtual 71) 3 174 := ⟨by decide +kernel, rfl⟩
theorem dX12_init_174 : dc cX12_init 174 (.return_) 1 175 := ⟨by decide +kernel, rfl⟩
set_option maxRecDepth 100000 in
set_option maxHeartbeats 4000000 in
theorem cb_X12 {l : Launch} {cy : Nat → ClassId} {w : Nat × Nat} {D : va_G} {z : Nat} (B : Nat → va_E) (hB : ∀ a, a < 227 → B a = FINw kwF cy z a) {i n : Nat} (hi : i = 227) {y : KM} (hf : f_X12_empties n 227 (0 : Int32) M00 = some y) : Met l yX12_init (Cond.code yX12_init cX12_init 2 none :: tb) (brm 2 16 4684) (va_Pc [.ref (z + i)] (fun U => BR D z (bL B i [.inr (11, [.int 0, .int 0, .long 0, .long 0, .null, .null, .null, .null, .int 0, .int 0, .int 0, .int 0, .int 0, .int 0, .int 0, .int 0, .int 0, .int 0, .int 0, .long 0, .null, .null, .null, .null, .int 0, .int 0, .int 0, .int 0, .int 0, .int 0, .null, .null, .null, .null, .null, .null, .null, .null, .int 0, .int 0, .int 0, .int 0, .int 0, .int 0, .int 0, .int 0, .int 0])]) U.heap ∧ va_K D vwCl (ktys cy) U ∧ KW z w U U.heap ∧ z ≤ U.heap.size)) (KQ (fun a => z + a) cy D z (none, y)) 16 4684 (fun q => z ≤ q) := by
  refine bv_enterQ (qc := fun _ => KQ (fun a => z + a) cy D z (none, y)) (E' := bL B i []) true (by decide +kernel) (fun _ => rfl) (Nat.le_of_ble_eq_true rfl) ?_
  intro x hl hD hz hk G
  subst hl hD hz
  refine b_aload_n G dX12_init_0 0 rfl ?_
  refine b_obj G (Nat.le_of_ble_eq_true rfl) t_1486 t_27 t_28 (Nat.le_of_ble_eq_true rfl) dX12_init_1 ?_
  refine b_aload_n G dX12_init_4 0 rfl ?_
  refine b_lconst (1) G dX12_init_5 (by decide) ?_
  refine l_put (ci := 11) G rfl 3 (by decide) tb_X12 tyX12_ok nmX12 t_1494 (Or.inl rfl) (Or.inl rfl) rfl rfl (Nat.le_of_ble_eq_true rfl) dX12_init_6 ?_
  try simp only [List.append_assoc, List.cons_append, List.nil_append, List.append_nil, List.set_cons_succ, List.set_cons_zero]
  refine b_aload_n G dX12_init_9 0 rfl ?_
  refine b_iconst (4) G dX12_init_10 (by decide) ?_
  refine l_newa (nn := 1) (t0 := 1) (at0 := .int) (N := 4) (a0 := (4, .inl (fun _ => 0))) G t_143 rfl (fun _ => rfl) (by decide) (by decide) (Nat.le_of_ble_eq_true rfl) (by rw [hk]; exact (Nat.le_of_ble_eq_true rfl)) (by rw [hk]; exact (Nat.le_of_ble_eq_true rfl)) (by simp only [List.length_cons, List.length_append, List.length_nil, Nat.reduceAdd, Nat.zero_add]) dX12_init_11 ?_
  try simp only [List.append_assoc, List.cons_append, List.nil_append, List.append_nil, List.set_cons_succ, List.set_cons_zero]
  refine l_put (ci := 11) G rfl 4 (by decide) tb_X12 tyX12_ok nmX12 t_1495 (Or.inl rfl) (Or.inr rfl) rfl rfl (Nat.le_of_ble_eq_true rfl) dX12_init_13 ?_
  try simp only [List.append_assoc, List.cons_append, List.nil_append, List.append_nil, List.set_cons_succ, List.set_cons_zero]
  refine b_aload_n G dX12_init_16 0 rfl ?_
  refine b_iconst (4) G dX12_init_17 (by decide) ?_
  refine l_newa (nn := 2) (t0 := 1) (at0 := .int) (N := 4) (a0 := (4, .inl (fun _ => 0))) G t_143 rfl (fun _ => rfl) (by decide) (by decide) (Nat.le_of_ble_eq_true rfl) (by rw [hk]; exact (Nat.le_of_ble_eq_true rfl)) (by rw [hk]; exact (Nat.le_of_ble_eq_true rfl)) (by simp only [List.length_cons, List.length_append, List.length_nil, Nat.reduceAdd, Nat.zero_add]) dX12_init_18 ?_
  try simp only [List.append_assoc, List.cons_append, List.nil_append, List.append_nil, List.set_cons_succ, List.set_cons_zero]
  refine l_put (ci := 11) G rfl 5 (by decide) tb_X12 tyX12_ok nmX12 t_1496 (Or.inl rfl) (Or.inr rfl) rfl rfl (Nat.le_of_ble_eq_true rfl) dX12_init_20 ?_
  try simp only [List.append_assoc, List.cons_append, List.nil_append, List.append_nil, List.set_cons_succ, List.set_cons_zero]
  refine b_aload_n G dX12_init_23 0 rfl ?_
  refine b_sipush (240) G dX12_init_24 (by decide) ?_
  refine l_newa (nn := 3) (t0 := 2) (at0 := .long) (N := 240) (a0 := (240, .inr (.inl (fun _ => 0)))) G t_144 rfl (fun _ => rfl) (by decide) (by decide) (Nat.le_of_ble_eq_true rfl) (by rw [hk]; exact (Nat.le_of_ble_eq_true rfl)) (by rw [hk]; exact (Nat.le_of_ble_eq_true rfl)) (by simp only [List.length_cons, List.length_append, List.length_nil, Nat.reduceAdd, Nat.zero_add]) dX12_init_27 ?_
  try simp only [List.append_assoc, List.cons_append, List.nil_append, List.append_nil, List.set_cons_succ, List.set_cons_zero]
  refine l_put (ci := 11) G rfl 6 (by decide) tb_X12 tyX12_ok nmX12 t_1497 (Or.inl rfl) (Or.inr rfl) rfl rfl (Nat.le_of_ble_eq_true rfl) dX12_init_29 ?_
  try simp only [List.append_assoc, List.cons_append, List.nil_append, List.append_nil, List.set_cons_succ, List.set_cons_zero]
  refine b_aload_n G dX12_init_32 0 rfl ?_
  refine b_sipush (900) G dX12_init_33 (by decide) ?_
  refine l_newa (nn := 4) (t0 := 0) (at0 := .byte) (N := 900) (a0 := (900, .inl (fun _ => 0))) G t_142 rfl (fun _ => rfl) (by decide) (by decide) (Nat.le_of_ble_eq_true rfl) (by rw [hk]; exact (Nat.le_of_ble_eq_true rfl)) (by rw [hk]; exact (Nat.le_of_ble_eq_true rfl)) (by simp only [List.length_cons, List.length_append, List.length_nil, Nat.reduceAdd, Nat.zero_add]) dX12_init_36 ?_
  try simp only [List.append_assoc, List.cons_append, List.nil_append, List.append_nil, List.set_cons_succ, List.set_cons_zero]
  refine l_put (ci := 11) G rfl 7 (by decide) tb_X12 tyX12_ok nmX12 t_1498 (Or.inl rfl) (Or.inr rfl) rfl rfl (Nat.le_of_ble_eq_true rfl) dX12_init_38 ?_
  try simp only [List.append_assoc, List.cons_append, List.nil_append, List.append_nil, List.set_cons_succ, List.set_cons_zero]
  refine b_aload_n G dX12_init_41 0 rfl ?_
  refine b_iconst (-1) G dX12_init_42 (by decide) ?_
  refine l_put (ci := 11) G rfl 10 (by decide) tb_X12 tyX12_ok nmX12 t_1501 (Or.inl rfl) (Or.inl rfl) rfl rfl (Nat.le_of_ble_eq_true rfl) dX12_init_43 ?_
  try simp only [List.append_assoc, List.cons_append, List.nil_append, List.append_nil, List.set_cons_succ, List.set_cons_zero]
  refine b_aload_n G dX12_init_46 0 rfl ?_
  refine b_iconst (-1) G dX12_init_47 (by decide) ?_
  refine l_put (ci := 11) G rfl 11 (by decide) tb_X12 tyX12_ok nmX12 t_1502 (Or.inl rfl) (Or.inl rfl) rfl rfl (Nat.le_of_ble_eq_true rfl) dX12_init_48 ?_
  try simp only [List.append_assoc, List.cons_append, List.nil_append, List.append_nil, List.set_cons_succ, List.set_cons_zero]
  refine b_aload_n G dX12_init_51 0 rfl ?_
  refine b_sipush (2810) G dX12_init_52 (by decide) ?_
  refine l_newa (nn := 5) (t0 := 1) (at0 := .int) (N := 2810) (a0 := (2810, .inl (fun _ => 0))) G t_143 rfl (fun _ => rfl) (by decide) (by decide) (Nat.le_of_ble_eq_true rfl) (by rw [hk]; exact (Nat.le_of_ble_eq_true rfl)) (by rw [hk]; exact (Nat.le_of_ble_eq_true rfl)) (by simp only [List.length_cons, List.length_append, List.length_nil, Nat.reduceAdd, Nat.zero_add]) dX12_init_55 ?_
  try simp only [List.append_assoc, List.cons_append, List.nil_append, List.append_nil, List.set_cons_succ, List.set_cons_zero]
  refine l_put (ci := 11) G rfl 20 (by decide) tb_X12 tyX12_ok nmX12 t_1511 (Or.inl rfl) (Or.inr rfl) rfl rfl (Nat.le_of_ble_eq_true rfl) dX12_init_57 ?_
  try simp only [List.append_assoc, List.cons_append, List.nil_append, List.append_nil, List.set_cons_succ, List.set_cons_zero]
  refine b_aload_n G dX12_init_60 0 rfl ?_
  refine b_sipush (290) G dX12_init_61 (by decide) ?_
  refine l_newa (nn := 6) (t0 := 1) (at0 := .int) (N := 290) (a0 := (290, .inl (fun _ => 0))) G t_143 rfl (fun _ => rfl) (by decide) (by decide) (Nat.le_of_ble_eq_true rfl) (by rw [hk]; exact (Nat.le_of_ble_eq_true rfl)) (by rw [hk]; exact (Nat.le_of_ble_eq_true rfl)) (by simp only [List.length_cons, List.length_append, List.length_nil, Nat.reduceAdd, Nat.zero_add]) dX12_init_64 ?_
  try simp only [List.append_assoc, List.cons_append, List.nil_append, List.append_nil, List.set_cons_succ, List.set_cons_zero]
  refine l_put (ci := 11) G rfl 21 (by decide) tb_X12 tyX12_ok nmX12 t_1512 (Or.inl rfl) (Or.inr rfl) rfl rfl (Nat.le_of_ble_eq_true rfl) dX12_init_66 ?_
  try simp only [List.append_assoc, List.cons_append, List.nil_append, List.append_nil, List.set_cons_succ, List.set_cons_zero]
  refine b_aload_n G dX12_init_69 0 rfl ?_
  refine b_sipush (290) G dX12_init_70 (by decide) ?_
  refine l_newa (nn := 7) (t0 := 1) (at0 := .int) (N := 290) (a0 := (290, .inl (fun _ => 0))) G t_143 rfl (fun _ => rfl) (by decide) (by decide) (Nat.le_of_ble_eq_true rfl) (by rw [hk]; exact (Nat.le_of_ble_eq_true rfl)) (by rw [hk]; exact (Nat.le_of_ble_eq_true rfl)) (by simp only [List.length_cons, List.length_append, List.length_nil, Nat.reduceAdd, Nat.zero_add]) dX12_init_73 ?_
  try simp only [List.append_assoc, List.cons_append, List.nil_append, List.append_nil, List.set_cons_succ, List.set_cons_zero]
  refine l_put (ci := 11) G rfl 22 (by decide) tb_X12 tyX12_ok nmX12 t_1513 (Or.inl rfl) (Or.inr rfl) rfl rfl (Nat.le_of_ble_eq_true rfl) dX12_init_75 ?_
  try simp only [List.append_assoc, List.cons_append, List.nil_append, List.append_nil, List.set_cons_succ, List.set_cons_zero]
  refine b_aload_n G dX12_init_78 0 rfl ?_
  refine b_bipush (80) G dX12_init_79 (by decide) ?_
  refine l_newa (nn := 8) (t0 := 2) (at0 := .long) (N := 80) (a0 := (80, .inr (.inl (fun _ => 0)))) G t_144 rfl (fun _ => rfl) (by decide) (by decide) (Nat.le_of_ble_eq_true rfl) (by rw [hk]; exact (Nat.le_of_ble_eq_true rfl)) (by rw [hk]; exact (Nat.le_of_ble_eq_true rfl)) (by simp only [List.length_cons, List.length_append, List.length_nil, Nat.reduceAdd, Nat.zero_add]) dX12_init_81 ?_
  try simp only [List.append_assoc, List.cons_append, List.nil_append, List.append_nil, List.set_cons_succ, List.set_cons_zero]
  refine l_put (ci := 11) G rfl 23 (by decide) tb_X12 tyX12_ok nmX12 t_1514 (Or.inl rfl) (Or.inr rfl) rfl rfl (Nat.le_of_ble_eq_true rfl) dX12_init_83 ?_
  try simp only [List.append_assoc, List.cons_append, List.nil_append, List.append_nil, List.set_cons_succ, List.set_cons_zero]
  refine b_aload_n G dX12_init_86 0 rfl ?_
  refine b_bipush (8) G dX12_init_87 (by decide) ?_
  refine l_newa (nn := 9) (t0 := 1) (at0 := .int) (N := 8) (a0 := (8, .inl (fun _ => 0))) G t_143 rfl (fun _ => rfl) (by decide) (by decide) (Nat.le_of_ble_eq_true rfl) (by rw [hk]; exact (Nat.le_of_ble_eq_true rfl)) (by rw [hk]; exact (Nat.le_of_ble_eq_true rfl)) (by simp only [List.length_cons, List.length_append, List.length_nil, Nat.reduceAdd, Nat.zero_add]) dX12_init_89 ?_
  try simp only [List.append_assoc, List.cons_append, List.nil_append, List.append_nil, List.set_cons_succ, List.set_cons_zero]
  refine l_put (ci := 11) G rfl 30 (by decide) tb_X12 tyX12_ok nmX12 t_1521 (Or.inl rfl) (Or.inr rfl) rfl rfl (Nat.le_of_ble_eq_true rfl) dX12_init_91 ?_
  try simp only [List.append_assoc, List.cons_append, List.nil_append, List.append_nil, List.set_cons_succ, List.set_cons_zero]
  refine b_aload_n G dX12_init_94 0 rfl ?_
  refine b_bipush (8) G dX12_init_95 (by decide) ?_
  refine l_newa (nn := 10) (t0 := 1) (at0 := .int) (N := 8) (a0 := (8, .inl (fun _ => 0))) G t_143 rfl (fun _ => rfl) (by decide) (by decide) (Nat.le_of_ble_eq_true rfl) (by rw [hk]; exact (Nat.le_of_ble_eq_true rfl)) (by rw [hk]; exact (Nat.le_of_ble_eq_true rfl)) (by simp only [List.length_cons, List.length_append, List.length_nil, Nat.reduceAdd, Nat.zero_add]) dX12_init_97 ?_
  try simp only [List.append_assoc, List.cons_append, List.nil_append, List.append_nil, List.set_cons_succ, List.set_cons_zero]
  refine l_put (ci := 11) G rfl 31 (by decide) tb_X12 tyX12_ok nmX12 t_1522 (Or.inl rfl) (Or.inr rfl) rfl rfl (Nat.le_of_ble_eq_true rfl) dX12_init_99 ?_
  try simp only [List.append_assoc, List.cons_append, List.nil_append, List.append_nil, List.set_cons_succ, List.set_cons_zero]
  refine b_aload_n G dX12_init_102 0 rfl ?_
  refine b_bipush (8) G dX12_init_103 (by decide) ?_
  refine l_newa (nn := 11) (t0 := 2) (at0 := .long) (N := 8) (a0 := (8, .inr (.inl (fun _ => 0)))) G t_144 rfl (fun _ => rfl) (by decide) (by decide) (Nat.le_of_ble_eq_true rfl) (by rw [hk]; exact (Nat.le_of_ble_eq_true rfl)) (by rw [hk]; exact (Nat.le_of_ble_eq_true rfl)) (by simp only [List.length_cons, List.length_append, List.length_nil, Nat.reduceAdd, Nat.zero_add]) dX12_init_105 ?_
  try simp only [List.append_assoc, List.cons_append, List.nil_append, List.append_nil, List.set_cons_succ, List.set_cons_zero]
  refine l_put (ci := 11) G rfl 32 (by decide) tb_X12 tyX12_ok nmX12 t_1523 (Or.inl rfl) (Or.inr rfl) rfl rfl (Nat.le_of_ble_eq_true rfl) dX12_init_107 ?_
  try simp only [List.append_assoc, List.cons_append, List.nil_append, List.append_nil, List.set_cons_succ, List.set_cons_zero]
  refine b_aload_n G dX12_init_110 0 rfl ?_
  refine b_bipush (8) G dX12_init_111 (by decide) ?_
  refine l_newa (nn := 12) (t0 := 2) (at0 := .long) (N := 8) (a0 := (8, .inr (.inl (fun _ => 0)))) G t_144 rfl (fun _ => rfl) (by decide) (by decide) (Nat.le_of_ble_eq_true rfl) (by rw [hk]; exact (Nat.le_of_ble_eq_true rfl)) (by rw [hk]; exact (Nat.le_of_ble_eq_true rfl)) (by simp only [List.length_cons, List.length_append, List.length_nil, Nat.reduceAdd, Nat.zero_add]) dX12_init_113 ?_
  try simp only [List.append_assoc, List.cons_append, List.nil_append, List.append_nil, List.set_cons_succ, List.set_cons_zero]
  refine l_put (ci := 11) G rfl 33 (by decide) tb_X12 tyX12_ok nmX12 t_1524 (Or.inl rfl) (Or.inr rfl) rfl rfl (Nat.le_of_ble_eq_true rfl) dX12_init_115 ?_
  try simp only [List.append_assoc, List.cons_append, List.nil_append, List.append_nil, List.set_cons_succ, List.set_cons_zero]
  refine b_aload_n G dX12_init_118 0 rfl ?_
  refine b_bipush (8) G dX12_init_119 (by decide) ?_
  refine l_newa (nn := 13) (t0 := 1) (at0 := .int) (N := 8) (a0 := (8, .inl (fun _ => 0))) G t_143 rfl (fun _ => rfl) (by decide) (by decide) (Nat.le_of_ble_eq_true rfl) (by rw [hk]; exact (Nat.le_of_ble_eq_true rfl)) (by rw [hk]; exact (Nat.le_of_ble_eq_true rfl)) (by simp only [List.length_cons, List.length_append, List.length_nil, Nat.reduceAdd, Nat.zero_add]) dX12_init_121 ?_
  try simp only [List.append_assoc, List.cons_append, List.nil_append, List.append_nil, List.set_cons_succ, List.set_cons_zero]
  refine l_put (ci := 11) G rfl 34 (by decide) tb_X12 tyX12_ok nmX12 t_1525 (Or.inl rfl) (Or.inr rfl) rfl rfl (Nat.le_of_ble_eq_true rfl) dX12_init_123 ?_
  try simp only [List.append_assoc, List.cons_append, List.nil_append, List.append_nil, List.set_cons_succ, List.set_cons_zero]
  refine b_aload_n G dX12_init_126 0 rfl ?_
  refine b_bipush (8) G dX12_init_127 (by decide) ?_
  refine l_newa (nn := 14) (t0 := 1) (at0 := .int) (N := 8) (a0 := (8, .inl (fun _ => 0))) G t_143 rfl (fun _ => rfl) (by decide) (by decide) (Nat.le_of_ble_eq_true rfl) (by rw [hk]; exact (Nat.le_of_ble_eq_true rfl)) (by rw [hk]; exact (Nat.le_of_ble_eq_true rfl)) (by simp only [List.length_cons, List.length_append, List.length_nil, Nat.reduceAdd, Nat.zero_add]) dX12_init_129 ?_
  try simp only [List.append_assoc, List.cons_append, List.nil_append, List.append_nil, List.set_cons_succ, List.set_cons_zero]
  refine l_put (ci := 11) G rfl 35 (by decide) tb_X12 tyX12_ok nmX12 t_1526 (Or.inl rfl) (Or.inr rfl) rfl rfl (Nat.le_of_ble_eq_true rfl) dX12_init_131 ?_
  try simp only [List.append_assoc, List.cons_append, List.nil_append, List.append_nil, List.set_cons_succ, List.set_cons_zero]
  refine b_aload_n G dX12_init_134 0 rfl ?_
  refine b_bipush (13) G dX12_init_135 (by decide) ?_
  refine l_newa (nn := 15) (t0 := 2) (at0 := .long) (N := 13) (a0 := (13, .inr (.inl (fun _ => 0)))) G t_144 rfl (fun _ => rfl) (by decide) (by decide) (Nat.le_of_ble_eq_true rfl) (by rw [hk]; exact (Nat.le_of_ble_eq_true rfl)) (by rw [hk]; exact (Nat.le_of_ble_eq_true rfl)) (by simp only [List.length_cons, List.length_append, List.length_nil, Nat.reduceAdd, Nat.zero_add]) dX12_init_137 ?_
  try simp only [List.append_assoc, List.cons_append, List.nil_append, List.append_nil, List.set_cons_succ, List.set_cons_zero]
  refine l_put (ci := 11) G rfl 36 (by decide) tb_X12 tyX12_ok nmX12 t_1527 (Or.inl rfl) (Or.inr rfl) rfl rfl (Nat.le_of_ble_eq_true rfl) dX12_init_139 ?_
  try simp only [List.append_assoc, List.cons_append, List.nil_append, List.append_nil, List.set_cons_succ, List.set_cons_zero]
  refine b_aload_n G dX12_init_142 0 rfl ?_
  refine b_iconst (5) G dX12_init_143 (by decide) ?_
  refine l_newa (nn := 16) (t0 := 1) (at0 := .int) (N := 5) (a0 := (5, .inl (fun _ => 0))) G t_143 rfl (fun _ => rfl) (by decide) (by decide) (Nat.le_of_ble_eq_true rfl) (by rw [hk]; exact (Nat.le_of_ble_eq_true rfl)) (by rw [hk]; exact (Nat.le_of_ble_eq_true rfl)) (by simp only [List.length_cons, List.length_append, List.length_nil, Nat.reduceAdd, Nat.zero_add]) dX12_init_144 ?_
  try simp only [List.append_assoc, List.cons_append, List.nil_append, List.append_nil, List.set_cons_succ, List.set_cons_zero]
  refine l_put (ci := 11) G rfl 37 (by decide) tb_X12 tyX12_ok nmX12 t_1528 (Or.inl rfl) (Or.inr rfl) rfl rfl (Nat.le_of_ble_eq_true rfl) dX12_init_146 ?_
  try simp only [List.append_assoc, List.cons_append, List.nil_append, List.append_nil, List.set_cons_succ, List.set_cons_zero]
  refine b_iconst (0) G dX12_init_149 (by decide) ?_
  refine b_istore_n [(1, .int 0), (0, .ref (BXz x + i))] G dX12_init_150 (Nat.le_of_ble_eq_true rfl) rfl ?_
  refine b_iload_n G dX12_init_151 0 rfl ?_
  refine b_iconst (4) G dX12_init_152 (by decide) ?_
  refine b_icmp_ge 169 G dX12_init_153 rfl (fun h => absurd h (by decide)) (fun h => ?_)
  clear h
  refine b_aload_n G dX12_init_156 1 rfl ?_
  refine l_get (ci := 11) (v := .ref (BXz x + (i + 2))) G rfl 5 (by decide) tb_X12 t_1496 (Or.inl rfl) rfl dX12_init_157 ?_
  refine b_iload_n G dX12_init_160 0 rfl ?_
  refine b_iconst (-1) G dX12_init_161 (by decide) ?_
  refine l_iast (k := 2) G rfl (by decide) dX12_init_162 ?_
  try simp only [List.append_assoc, List.cons_append, List.nil_append, List.append_nil, List.set_cons_succ, List.set_cons_zero]
  refine b_iinc 1 [(1, .int 1), (0, .ref (BXz x + i))] G dX12_init_163 0 rfl (by decide) (Nat.le_of_ble_eq_true rfl) rfl ?_
  refine b_goto 151 G dX12_init_166 rfl ?_
  refine b_iload_n G dX12_init_151 0 rfl ?_
  refine b_iconst (4) G dX12_init_152 (by decide) ?_
  refine b_icmp_ge 169 G dX12_init_153 rfl (fun h => absurd h (by decide)) (fun h => ?_)
  clear h
  refine b_aload_n G dX12_init_156 1 rfl ?_
  refine l_get (ci := 11) (v := .ref (BXz x + (i + 2))) G rfl 5 (by decide) tb_X12 t_1496 (Or.inl rfl) rfl dX12_init_157 ?_
  refine b_iload_n G dX12_init_160 0 rfl ?_
  refine b_iconst (-1) G dX12_init_161 (by decide) ?_
  refine l_iast (k := 2) G rfl (by decide) dX12_init_162 ?_
  try simp only [List.append_assoc, List.cons_append, List.nil_append, List.append_nil, List.set_cons_succ, List.set_cons_zero]
  refine b_iinc 2 [(1, .int 2), (0, .ref (BXz x + i))] G dX12_init_163 0 rfl (by decide) (Nat.le_of_ble_eq_true rfl) rfl ?_
  refine b_goto 151 G dX12_init_166 rfl ?_
  refine b_iload_n G dX12_init_151 0 rfl ?_
  refine b_iconst (4) G dX12_init_152 (by decide) ?_
  refine b_icmp_ge 169 G dX12_init_153 rfl (fun h => absurd h (by decide)) (fun h => ?_)
  clear h
  refine b_aload_n G dX12_init_156 1 rfl ?_
  refine l_get (ci := 11) (v := .ref (BXz x + (i + 2))) G rfl 5 (by decide) tb_X12 t_1496 (Or.inl rfl) rfl dX12_init_157 ?_
  refine b_iload_n G dX12_init_160 0 rfl ?_
  refine b_iconst (-1) G dX12_init_161 (by decide) ?_
  refine l_iast (k := 2) G rfl (by decide) dX12_init_162 ?_
  try simp only [List.append_assoc, List.cons_append, List.nil_append, List.append_nil, List.set_cons_succ, List.set_cons_zero]
  refine b_iinc 3 [(1, .int 3), (0, .ref (BXz x + i))] G dX12_init_163 0 rfl (by decide) (Nat.le_of_ble_eq_true rfl) rfl ?_
  refine b_goto 151 G dX12_init_166 rfl ?_
  refine b_iload_n G dX12_init_151 0 rfl ?_
  refine b_iconst (4) G dX12_init_152 (by decide) ?_
  refine b_icmp_ge 169 G dX12_init_153 rfl (fun h => absurd h (by decide)) (fun h => ?_)
  clear h
  refine b_aload_n G dX12_init_156 1 rfl ?_
  refine l_get (ci := 11) (v := .ref (BXz x + (i + 2))) G rfl 5 (by decide) tb_X12 t_1496 (Or.inl rfl) rfl dX12_init_157 ?_
  refine b_iload_n G dX12_init_160 0 rfl ?_
  refine b_iconst (-1) G dX12_init_161 (by decide) ?_
  refine l_iast (k := 2) G rfl (by decide) dX12_init_162 ?_
  try simp only [List.append_assoc, List.cons_append, List.nil_append, List.append_nil, List.set_cons_succ, List.set_cons_zero]
  refine b_iinc 4 [(1, .int 4), (0, .ref (BXz x + i))] G dX12_init_163 0 rfl (by decide) (Nat.le_of_ble_eq_true rfl) rfl ?_
  refine b_goto 151 G dX12_init_166 rfl ?_
  refine b_iload_n G dX12_init_151 0 rfl ?_
  refine b_iconst (4) G dX12_init_152 (by decide) ?_
  refine b_icmp_ge 169 G dX12_init_153 rfl (fun h => ?_) (fun h => absurd (by decide) h)
  clear h
  subst hi
  show BV x _ 169 _ [] (bL B 227 (L_12 cy (BXz x) 227)) _ _
  refine b_kvI G hk (M := M00) rfl (fun a ha => ?_) KT_0 (fun xk h1 h2 h3 GK => ?_)
  · show (if a < 227 then B a else (L_12 cy (BXz x) 227).getD (a - 227) _) = FINw kwF cy (BXz x) a
    by_cases c : a < 227
    · rw [if_pos c]; exact hB a c
    · rw [if_neg c, sg_model]; exact fget (by omega) (by omega)
  clear G
  refine v_aload_n GK dX12_init_169 1 rfl ?_
  refine v_iconst (0 : Int32) GK dX12_init_170 (by decide) ?_
  refine v_callV (a := 227) (t := 12) (ci := 11) [.int 0] GK (c_X12_empties n kt_227 hf) kt_227 (by decide) rfl rfl rfl t_1487 t_1489 t_p54 t_17 t_1490 nm_X12_empties (Nat.le_of_ble_eq_true rfl) (Nat.le_of_ble_eq_true rfl) rfl rfl (Nat.le_of_ble_eq_true rfl) dX12_init_171 ?_
  exact v_vret GK dX12_init_174
