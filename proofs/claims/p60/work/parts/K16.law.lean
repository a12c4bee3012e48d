/-! THE CLAIM OUT OF ONE WALK OF THE LAW'S BODY. Your part is whole_start (and what it stands on); all else here is the same for every law, but numbers. -/
def R_law : String := "NoonGuidesLaw"
def lw_P (b : Addr) (xs : List Int32) (args : Array Value) (s : State) : Prop := args = #[.ref b] ∧ s.IntsAt b xs ∧ xs.length ≤ 260 ∧ (Jvm.Cond.and given_1 narrow_1).before args s = true
def lw_Q (_ : Array Value) (s : State) (o : Outcome) (t : State) : Prop := o = .returned (some (.int 1)) ∧ Framed s o t [] 600000 7302250
def lw_Z (below : List Frame) (a : Array Value) (s : State) : State → Prop := fun t => ∃ o, t.status = .running ∧ Ended t below o ∧ lw_Q a s o t
/-- the law's own end, with 1 on the stack, nothing written that was there before, its room as the claim has it -/
theorem lw_ret {p : Program} {l : Launch} {e : Env} {s : State} {m : MethodId} {below : List Frame} {meth : Method} {c : Code} {b : Nat} (hx : p.tables.exec = Jvm.exec) (hb : c.code = code) (hr : meth.sig.returnType = ret) (hlocks : meth.locks = false) {pc : Nat} {H : Heap} {ls : Array Slot} (hdg : decode code pc = .ok (.ireturn, 1)) : W p l e room_1 s m #[Value.ref b] below meth c H [] 600000 7302250 (lw_Z below #[Value.ref b] s) (F0 m pc ls [.int 1]) := by
  intro T hT X
  obtain ⟨fs, hret, hrun, hended, hW, hframe⟩ := X.leave (v := some (.int 1)) (hlocks := hlocks) (fun h => by rw [hr] at h; cases h)
  have hmeth' : T.vm.method? m = some meth := X.method'
  refine ⟨T.setFrames fs, ?_, .returned (some (.int 1)), hrun, hended, rfl, ⟨_, rfl⟩, hW, hframe⟩
  jvm_step X.here [X.here.top, hx, hb, hdg, hmeth', hr, ret, narrow_b1]
  (try refine ⟨rfl, ?_⟩); (try refine ⟨rfl, ?_⟩)
  first | (intro acts; rw [hret _ acts rfl rfl rfl]) | rw [hret _ _ rfl rfl rfl]
  exact Steps.refl _
/-- what holds at the law's entry: the machine, the code, the tables' words (any of lw_tbl by 'hts w (by decide +kernel)'), the script of L ints xs at the cell b, what the Statement gives of the start (any of its parts by flat_of_before) -/
def lw_At (p : Program) (s : State) (m : MethodId) (meth : Method) (c : Code) (b L : Nat) (xs : Nat → Int32) : Prop :=
  p.tables.exec = Jvm.exec ∧ c.code = code ∧ meth.sig.returnType = ret ∧ c.maxLocals = 21 ∧ s.vm.findClass R_law = some m.cls ∧ (∀ w ∈ lw_tbl, w.before #[Value.ref b] s = true) ∧ va_X b L xs s s.heap ∧ b < s.heap.size ∧ meth.locks = false ∧ (Jvm.Cond.and given_1 narrow_1).before #[Value.ref b] s = true
/-- the law's own end -/
def KLw (x : KX) (b : Nat) : Prop := match x with
  | (p, l, e, R, s, m, args, below, meth, c, D, z, n, k1, k2, Q) => Q = (fun _ => lw_Z below #[Value.ref b] s) ∧ R = room_1 ∧ args = #[Value.ref b] ∧ k1 ≤ 600000 ∧ k2 ≤ 7302250 ∧ z = s.heap.size ∧ c.code = code ∧ meth.sig.returnType = ret
theorem v_law1 {ad : Nat → Nat} {cy : Nat → ClassId} {x : KX} {o : KO} {cc : ByteArray} {own : String} {nL d pc pc2 : Nat} {rt0 : Option (Option FieldType)} {L : List (Nat × Value)} {rest : List Value} {M : KM} {b : Nat} (G : KG ad cy x cc own nL rt0 d) (GL : KLw x b) (hd : dc cc pc (.ireturn) 1 pc2) : KV ad cy x o pc L [.int 1] M := by
  obtain ⟨p, l, e, R, s, m, args, below, meth, c, D, z, n, k1, k2, Q⟩ := x
  obtain ⟨hx, hb, hml, hn, hown, hr, hlk, hts, hK, hA, ⟨hf, hkc, hks⟩, hlo, hz⟩ := G
  obtain ⟨hd, rfl⟩ := hd
  obtain ⟨rfl, rfl, rfl, h1, h2, rfl, h3, h4⟩ := GL
  have hcc : cc = code := hb.symm.trans h3
  subst hcc
  intro H locs ls hR hS hl
  refine va_forget (fun q hq => hS.2.2 q hq) ?_
  refine W.widen (k := 600000) (n := 7302250) h1 h2 ?_
  exact lw_ret hx hb h4 hlk hd
abbrev cL_law : ByteArray := code
theorem dL_law_18 : dc cL_law 18 (.aload_n 0) 1 19 := ⟨by decide +kernel, rfl⟩
theorem dL_law_19 : dc cL_law 19 (.arraylength) 1 20 := ⟨by decide +kernel, rfl⟩
theorem dL_law_20 : dc cL_law 20 (.ifCond .ne 7) 3 23 := ⟨by decide +kernel, rfl⟩
theorem dL_law_23 : dc cL_law 23 (.iconst 5) 1 24 := ⟨by decide +kernel, rfl⟩
theorem dL_law_24 : dc cL_law 24 (.goto 9) 3 27 := ⟨by decide +kernel, rfl⟩
theorem dL_law_27 : dc cL_law 27 (.aload_n 0) 1 28 := ⟨by decide +kernel, rfl⟩
theorem dL_law_28 : dc cL_law 28 (.aload_n 0) 1 29 := ⟨by decide +kernel, rfl⟩
theorem dL_law_29 : dc cL_law 29 (.arraylength) 1 30 := ⟨by decide +kernel, rfl⟩
theorem dL_law_30 : dc cL_law 30 (.iconst 1) 1 31 := ⟨by decide +kernel, rfl⟩
theorem dL_law_31 : dc cL_law 31 (.isub) 1 32 := ⟨by decide +kernel, rfl⟩
theorem dL_law_32 : dc cL_law 32 (.iaload) 1 33 := ⟨by decide +kernel, rfl⟩
theorem dL_law_33 : dc cL_law 33 (.istore 4) 2 35 := ⟨by decide +kernel, rfl⟩
theorem dL_law_35 : dc cL_law 35 (.aload_n 0) 1 36 := ⟨by decide +kernel, rfl⟩
theorem dL_law_36 : dc cL_law 36 (.aload_n 3) 1 37 := ⟨by decide +kernel, rfl⟩
theorem dL_law_37 : dc cL_law 37 (.invokestatic 108) 3 40 := ⟨by decide +kernel, rfl⟩
theorem dL_law_40 : dc cL_law 40 (.aload_n 1) 1 41 := ⟨by decide +kernel, rfl⟩
theorem dL_law_41 : dc cL_law 41 (.aload_n 2) 1 42 := ⟨by decide +kernel, rfl⟩
theorem dL_law_42 : dc cL_law 42 (.aload_n 3) 1 43 := ⟨by decide +kernel, rfl⟩
theorem dL_law_43 : dc cL_law 43 (.invokestatic 112) 3 46 := ⟨by decide +kernel, rfl⟩
theorem dL_law_46 : dc cL_law 46 (.ifCond .ne 5) 3 49 := ⟨by decide +kernel, rfl⟩
theorem dL_law_49 : dc cL_law 49 (.iconst 0) 1 50 := ⟨by decide +kernel, rfl⟩
theorem dL_law_50 : dc cL_law 50 (.ireturn) 1 51 := ⟨by decide +kernel, rfl⟩
theorem dL_law_51 : dc cL_law 51 (.iconst 0) 1 52 := ⟨by decide +kernel, rfl⟩
theorem dL_law_52 : dc cL_law 52 (.istore 5) 2 54 := ⟨by decide +kernel, rfl⟩
theorem dL_law_54 : dc cL_law 54 (.iload 5) 2 56 := ⟨by decide +kernel, rfl⟩
theorem dL_law_56 : dc cL_law 56 (.bipush 7) 2 58 := ⟨by decide +kernel, rfl⟩
theorem dL_law_58 : dc cL_law 58 (.if_icmp .ge 1164) 3 61 := ⟨by decide +kernel, rfl⟩
theorem dL_law_61 : dc cL_law 61 (.iload 5) 2 63 := ⟨by decide +kernel, rfl⟩
theorem dL_law_63 : dc cL_law 63 (.aload_n 0) 1 64 := ⟨by decide +kernel, rfl⟩
theorem dL_law_64 : dc cL_law 64 (.arraylength) 1 65 := ⟨by decide +kernel, rfl⟩
theorem dL_law_65 : dc cL_law 65 (.if_icmp .ge 18) 3 68 := ⟨by decide +kernel, rfl⟩
theorem dL_law_68 : dc cL_law 68 (.aload_n 0) 1 69 := ⟨by decide +kernel, rfl⟩
theorem dL_law_69 : dc cL_law 69 (.iload 5) 2 71 := ⟨by decide +kernel, rfl⟩
theorem dL_law_71 : dc cL_law 71 (.iaload) 1 72 := ⟨by decide +kernel, rfl⟩
theorem dL_law_72 : dc cL_law 72 (.iconst 1) 1 73 := ⟨by decide +kernel, rfl⟩
theorem dL_law_73 : dc cL_law 73 (.ishr) 1 74 := ⟨by decide +kernel, rfl⟩
theorem dL_law_74 : dc cL_law 74 (.bipush 71) 2 76 := ⟨by decide +kernel, rfl⟩
theorem dL_law_76 : dc cL_law 76 (.iload 5) 2 78 := ⟨by decide +kernel, rfl⟩
theorem dL_law_78 : dc cL_law 78 (.imul) 1 79 := ⟨by decide +kernel, rfl⟩
theorem dL_law_79 : dc cL_law 79 (.ixor) 1 80 := ⟨by decide +kernel, rfl⟩
theorem dL_law_80 : dc cL_law 80 (.goto 12) 3 83 := ⟨by decide +kernel, rfl⟩
theorem dL_law_83 : dc cL_law 83 (.sipush 397) 3 86 := ⟨by decide +kernel, rfl⟩
theorem dL_law_86 : dc cL_law 86 (.iload 5) 2 88 := ⟨by decide +kernel, rfl⟩
theorem dL_law_88 : dc cL_law 88 (.imul) 1 89 := ⟨by decide +kernel, rfl⟩
theorem dL_law_89 : dc cL_law 89 (.iload 4) 2 91 := ⟨by decide +kernel, rfl⟩
theorem dL_law_91 : dc cL_law 91 (.iadd) 1 92 := ⟨by decide +kernel, rfl⟩
theorem dL_law_92 : dc cL_law 92 (.istore 6) 2 94 := ⟨by decide +kernel, rfl⟩
theorem dL_law_94 : dc cL_law 94 (.aload_n 1) 1 95 := ⟨by decide +kernel, rfl⟩
theorem dL_law_95 : dc cL_law 95 (.bipush 12) 2 97 := ⟨by decide +kernel, rfl⟩
theorem dL_law_97 : dc cL_law 97 (.invokevirtual 116) 3 100 := ⟨by decide +kernel, rfl⟩
theorem dL_law_100 : dc cL_law 100 (.istore 7) 2 102 := ⟨by decide +kernel, rfl⟩
theorem dL_law_102 : dc cL_law 102 (.aload_n 1) 1 103 := ⟨by decide +kernel, rfl⟩
theorem dL_law_103 : dc cL_law 103 (.bipush 11) 2 105 := ⟨by decide +kernel, rfl⟩
theorem dL_law_105 : dc cL_law 105 (.invokevirtual 116) 3 108 := ⟨by decide +kernel, rfl⟩
theorem dL_law_108 : dc cL_law 108 (.istore 8) 2 110 := ⟨by decide +kernel, rfl⟩
theorem dL_law_110 : dc cL_law 110 (.iconst 0) 1 111 := ⟨by decide +kernel, rfl⟩
theorem dL_law_111 : dc cL_law 111 (.istore 9) 2 113 := ⟨by decide +kernel, rfl⟩
theorem dL_law_113 : dc cL_law 113 (.aload_n 1) 1 114 := ⟨by decide +kernel, rfl⟩
theorem dL_law_114 : dc cL_law 114 (.bipush 13) 2 116 := ⟨by decide +kernel, rfl⟩
theorem dL_law_116 : dc cL_law 116 (.invokevirtual 116) 3 119 := ⟨by decide +kernel, rfl⟩
theorem dL_law_119 : dc cL_law 119 (.iload 7) 2 121 := ⟨by decide +kernel, rfl⟩
theorem dL_law_121 : dc cL_law 121 (.iconst (-1)) 1 122 := ⟨by decide +kernel, rfl⟩
theorem dL_law_122 : dc cL_law 122 (.ixor) 1 123 := ⟨by decide +kernel, rfl⟩
theorem dL_law_123 : dc cL_law 123 (.iand) 1 124 := ⟨by decide +kernel, rfl⟩
theorem dL_law_124 : dc cL_law 124 (.ifCond .ne 13) 3 127 := ⟨by decide +kernel, rfl⟩
theorem dL_law_127 : dc cL_law 127 (.aload_n 1) 1 128 := ⟨by decide +kernel, rfl⟩
theorem dL_law_128 : dc cL_law 128 (.invokevirtual 119) 3 131 := ⟨by decide +kernel, rfl⟩
theorem dL_law_131 : dc cL_law 131 (.iload 7) 2 133 := ⟨by decide +kernel, rfl⟩
theorem dL_law_133 : dc cL_law 133 (.iand) 1 134 := ⟨by decide +kernel, rfl⟩
theorem dL_law_134 : dc cL_law 134 (.ifCond .eq 5) 3 137 := ⟨by decide +kernel, rfl⟩
theorem dL_law_137 : dc cL_law 137 (.iconst 0) 1 138 := ⟨by decide +kernel, rfl⟩
theorem dL_law_138 : dc cL_law 138 (.ireturn) 1 139 := ⟨by decide +kernel, rfl⟩
theorem dL_law_139 : dc cL_law 139 (.iconst 0) 1 140 := ⟨by decide +kernel, rfl⟩
theorem dL_law_140 : dc cL_law 140 (.istore 10) 2 142 := ⟨by decide +kernel, rfl⟩
theorem dL_law_142 : dc cL_law 142 (.iconst 0) 1 143 := ⟨by decide +kernel, rfl⟩
theorem dL_law_143 : dc cL_law 143 (.istore 11) 2 145 := ⟨by decide +kernel, rfl⟩
theorem dL_law_145 : dc cL_law 145 (.iload 11) 2 147 := ⟨by decide +kernel, rfl⟩
theorem dL_law_147 : dc cL_law 147 (.aload_n 3) 1 148 := ⟨by decide +kernel, rfl⟩
theorem dL_law_148 : dc cL_law 148 (.iconst 2) 1 149 := ⟨by decide +kernel, rfl⟩
theorem dL_law_149 : dc cL_law 149 (.iaload) 1 150 := ⟨by decide +kernel, rfl⟩
theorem dL_law_150 : dc cL_law 150 (.if_icmp .ge 775) 3 153 := ⟨by decide +kernel, rfl⟩
theorem dL_law_153 : dc cL_law 153 (.iload 7) 2 155 := ⟨by decide +kernel, rfl⟩
theorem dL_law_155 : dc cL_law 155 (.iload 11) 2 157 := ⟨by decide +kernel, rfl⟩
theorem dL_law_157 : dc cL_law 157 (.ishr) 1 158 := ⟨by decide +kernel, rfl⟩
theorem dL_law_158 : dc cL_law 158 (.iconst 1) 1 159 := ⟨by decide +kernel, rfl⟩
theorem dL_law_159 : dc cL_law 159 (.iand) 1 160 := ⟨by decide +kernel, rfl⟩
theorem dL_law_160 : dc cL_law 160 (.iconst 1) 1 161 := ⟨by decide +kernel, rfl⟩
theorem dL_law_161 : dc cL_law 161 (.if_icmp .ne 7) 3 164 := ⟨by decide +kernel, rfl⟩
theorem dL_law_164 : dc cL_law 164 (.iconst 1) 1 165 := ⟨by decide +kernel, rfl⟩
theorem dL_law_165 : dc cL_law 165 (.goto 4) 3 168 := ⟨by decide +kernel, rfl⟩
theorem dL_law_168 : dc cL_law 168 (.iconst 0) 1 169 := ⟨by decide +kernel, rfl⟩
theorem dL_law_169 : dc cL_law 169 (.istore 12) 2 171 := ⟨by decide +kernel, rfl⟩
theorem dL_law_171 : dc cL_law 171 (.iload 9) 2 173 := ⟨by decide +kernel, rfl⟩
theorem dL_law_173 : dc cL_law 173 (.aload_n 1) 1 174 := ⟨by decide +kernel, rfl⟩
theorem dL_law_174 : dc cL_law 174 (.iload 11) 2 176 := ⟨by decide +kernel, rfl⟩
theorem dL_law_176 : dc cL_law 176 (.invokevirtual 122) 3 179 := ⟨by decide +kernel, rfl⟩
theorem dL_law_179 : dc cL_law 179 (.iadd) 1 180 := ⟨by decide +kernel, rfl⟩
theorem dL_law_180 : dc cL_law 180 (.istore 9) 2 182 := ⟨by decide +kernel, rfl⟩
theorem dL_law_182 : dc cL_law 182 (.aload_n 1) 1 183 := ⟨by decide +kernel, rfl⟩
theorem dL_law_183 : dc cL_law 183 (.iload 11) 2 185 := ⟨by decide +kernel, rfl⟩
theorem dL_law_185 : dc cL_law 185 (.iconst 3) 1 186 := ⟨by decide +kernel, rfl⟩
theorem dL_law_186 : dc cL_law 186 (.invokevirtual 125) 3 189 := ⟨by decide +kernel, rfl⟩
theorem dL_law_189 : dc cL_law 189 (.istore 13) 2 191 := ⟨by decide +kernel, rfl⟩
theorem dL_law_191 : dc cL_law 191 (.iload 12) 2 193 := ⟨by decide +kernel, rfl⟩
theorem dL_law_193 : dc cL_law 193 (.aload_n 1) 1 194 := ⟨by decide +kernel, rfl⟩
theorem dL_law_194 : dc cL_law 194 (.iload 11) 2 196 := ⟨by decide +kernel, rfl⟩
theorem dL_law_196 : dc cL_law 196 (.iconst 1) 1 197 := ⟨by decide +kernel, rfl⟩
theorem dL_law_197 : dc cL_law 197 (.invokevirtual 125) 3 200 := ⟨by decide +kernel, rfl⟩
theorem dL_law_200 : dc cL_law 200 (.ifCond .lt 7) 3 203 := ⟨by decide +kernel, rfl⟩
theorem dL_law_203 : dc cL_law 203 (.iconst 1) 1 204 := ⟨by decide +kernel, rfl⟩
theorem dL_law_204 : dc cL_law 204 (.goto 4) 3 207 := ⟨by decide +kernel, rfl⟩
theorem dL_law_207 : dc cL_law 207 (.iconst 0) 1 208 := ⟨by decide +kernel, rfl⟩
theorem dL_law_208 : dc cL_law 208 (.if_icmp .ne 77) 3 211 := ⟨by decide +kernel, rfl⟩
theorem dL_law_211 : dc cL_law 211 (.iload 12) 2 213 := ⟨by decide +kernel, rfl⟩
theorem dL_law_213 : dc cL_law 213 (.aload_n 1) 1 214 := ⟨by decide +kernel, rfl⟩
theorem dL_law_214 : dc cL_law 214 (.iload 11) 2 216 := ⟨by decide +kernel, rfl⟩
theorem dL_law_216 : dc cL_law 216 (.iconst 2) 1 217 := ⟨by decide +kernel, rfl⟩
theorem dL_law_217 : dc cL_law 217 (.invokevirtual 125) 3 220 := ⟨by decide +kernel, rfl⟩
theorem dL_law_220 : dc cL_law 220 (.ifCond .le 7) 3 223 := ⟨by decide +kernel, rfl⟩
theorem dL_law_223 : dc cL_law 223 (.iconst 1) 1 224 := ⟨by decide +kernel, rfl⟩
theorem dL_law_224 : dc cL_law 224 (.goto 4) 3 227 := ⟨by decide +kernel, rfl⟩
theorem dL_law_227 : dc cL_law 227 (.iconst 0) 1 228 := ⟨by decide +kernel, rfl⟩
theorem dL_law_228 : dc cL_law 228 (.if_icmp .ne 57) 3 231 := ⟨by decide +kernel, rfl⟩
theorem dL_law_231 : dc cL_law 231 (.iload 13) 2 233 := ⟨by decide +kernel, rfl⟩
theorem dL_law_233 : dc cL_law 233 (.ifCond .lt 54) 3 236 := ⟨by decide +kernel, rfl⟩
theorem dL_law_236 : dc cL_law 236 (.iload 12) 2 238 := ⟨by decide +kernel, rfl⟩
theorem dL_law_238 : dc cL_law 238 (.ifCond .eq 47) 3 241 := ⟨by decide +kernel, rfl⟩
theorem dL_law_241 : dc cL_law 241 (.aload_n 1) 1 242 := ⟨by decide +kernel, rfl⟩
theorem dL_law_242 : dc cL_law 242 (.iload 13) 2 244 := ⟨by decide +kernel, rfl⟩
theorem dL_law_244 : dc cL_law 244 (.iconst 2) 1 245 := ⟨by decide +kernel, rfl⟩
theorem dL_law_245 : dc cL_law 245 (.invokevirtual 125) 3 248 := ⟨by decide +kernel, rfl⟩
theorem dL_law_248 : dc cL_law 248 (.aload_n 1) 1 249 := ⟨by decide +kernel, rfl⟩
theorem dL_law_249 : dc cL_law 249 (.iload 11) 2 251 := ⟨by decide +kernel, rfl⟩
theorem dL_law_251 : dc cL_law 251 (.iconst 2) 1 252 := ⟨by decide +kernel, rfl⟩
theorem dL_law_252 : dc cL_law 252 (.invokevirtual 125) 3 255 := ⟨by decide +kernel, rfl⟩
theorem dL_law_255 : dc cL_law 255 (.if_icmp .ne 30) 3 258 := ⟨by decide +kernel, rfl⟩
theorem dL_law_258 : dc cL_law 258 (.aload_n 1) 1 259 := ⟨by decide +kernel, rfl⟩
theorem dL_law_259 : dc cL_law 259 (.iload 13) 2 261 := ⟨by decide +kernel, rfl⟩
theorem dL_law_261 : dc cL_law 261 (.iconst 1) 1 262 := ⟨by decide +kernel, rfl⟩
theorem dL_law_262 : dc cL_law 262 (.invokevirtual 125) 3 265 := ⟨by decide +kernel, rfl⟩
theorem dL_law_265 : dc cL_law 265 (.aload_n 1) 1 266 := ⟨by decide +kernel, rfl⟩
theorem dL_law_266 : dc cL_law 266 (.iload 11) 2 268 := ⟨by decide +kernel, rfl⟩
theorem dL_law_268 : dc cL_law 268 (.iconst 1) 1 269 := ⟨by decide +kernel, rfl⟩
theorem dL_law_269 : dc cL_law 269 (.invokevirtual 125) 3 272 := ⟨by decide +kernel, rfl⟩
theorem dL_law_272 : dc cL_law 272 (.if_icmp .ne 13) 3 275 := ⟨by decide +kernel, rfl⟩
theorem dL_law_275 : dc cL_law 275 (.aload_n 1) 1 276 := ⟨by decide +kernel, rfl⟩
theorem dL_law_276 : dc cL_law 276 (.iload 13) 2 278 := ⟨by decide +kernel, rfl⟩
theorem dL_law_278 : dc cL_law 278 (.iconst 3) 1 279 := ⟨by decide +kernel, rfl⟩
theorem dL_law_279 : dc cL_law 279 (.invokevirtual 125) 3 282 := ⟨by decide +kernel, rfl⟩
theorem dL_law_282 : dc cL_law 282 (.ifCond .lt 5) 3 285 := ⟨by decide +kernel, rfl⟩
theorem dL_law_285 : dc cL_law 285 (.iconst 0) 1 286 := ⟨by decide +kernel, rfl⟩
theorem dL_law_286 : dc cL_law 286 (.ireturn) 1 287 := ⟨by decide +kernel, rfl⟩
theorem dL_law_287 : dc cL_law 287 (.aload_n 1) 1 288 := ⟨by decide +kernel, rfl⟩
theorem dL_law_288 : dc cL_law 288 (.iload 11) 2 290 := ⟨by decide +kernel, rfl⟩
theorem dL_law_290 : dc cL_law 290 (.invokevirtual 129) 3 293 := ⟨by decide +kernel, rfl⟩
theorem dL_law_293 : dc cL_law 293 (.istore 14) 2 295 := ⟨by decide +kernel, rfl⟩
theorem dL_law_295 : dc cL_law 295 (.iload 14) 2 297 := ⟨by decide +kernel, rfl⟩
theorem dL_law_297 : dc cL_law 297 (.ifCond .lt 36) 3 300 := ⟨by decide +kernel, rfl⟩
theorem dL_law_300 : dc cL_law 300 (.iinc 10 1) 3 303 := ⟨by decide +kernel, rfl⟩
theorem dL_law_303 : dc cL_law 303 (.aload_n 1) 1 304 := ⟨by decide +kernel, rfl⟩
theorem dL_law_304 : dc cL_law 304 (.iload 14) 2 306 := ⟨by decide +kernel, rfl⟩
theorem dL_law_306 : dc cL_law 306 (.invokevirtual 129) 3 309 := ⟨by decide +kernel, rfl⟩
theorem dL_law_309 : dc cL_law 309 (.iload 11) 2 311 := ⟨by decide +kernel, rfl⟩
theorem dL_law_311 : dc cL_law 311 (.if_icmp .ne 20) 3 314 := ⟨by decide +kernel, rfl⟩
theorem dL_law_314 : dc cL_law 314 (.iload 8) 2 316 := ⟨by decide +kernel, rfl⟩
theorem dL_law_316 : dc cL_law 316 (.iload 11) 2 318 := ⟨by decide +kernel, rfl⟩
theorem dL_law_318 : dc cL_law 318 (.ishr) 1 319 := ⟨by decide +kernel, rfl⟩
theorem dL_law_319 : dc cL_law 319 (.iconst 1) 1 320 := ⟨by decide +kernel, rfl⟩
theorem dL_law_320 : dc cL_law 320 (.iand) 1 321 := ⟨by decide +kernel, rfl⟩
theorem dL_law_321 : dc cL_law 321 (.iload 8) 2 323 := ⟨by decide +kernel, rfl⟩
theorem dL_law_323 : dc cL_law 323 (.iload 14) 2 325 := ⟨by decide +kernel, rfl⟩
theorem dL_law_325 : dc cL_law 325 (.ishr) 1 326 := ⟨by decide +kernel, rfl⟩
theorem dL_law_326 : dc cL_law 326 (.iconst 1) 1 327 := ⟨by decide +kernel, rfl⟩
theorem dL_law_327 : dc cL_law 327 (.iand) 1 328 := ⟨by decide +kernel, rfl⟩
theorem dL_law_328 : dc cL_law 328 (.if_icmp .ne 5) 3 331 := ⟨by decide +kernel, rfl⟩
theorem dL_law_331 : dc cL_law 331 (.iconst 0) 1 332 := ⟨by decide +kernel, rfl⟩
theorem dL_law_332 : dc cL_law 332 (.ireturn) 1 333 := ⟨by decide +kernel, rfl⟩
theorem dL_law_333 : dc cL_law 333 (.iconst 0) 1 334 := ⟨by decide +kernel, rfl⟩
theorem dL_law_334 : dc cL_law 334 (.istore 15) 2 336 := ⟨by decide +kernel, rfl⟩
theorem dL_law_336 : dc cL_law 336 (.iload 15) 2 338 := ⟨by decide +kernel, rfl⟩
theorem dL_law_338 : dc cL_law 338 (.iload 11) 2 340 := ⟨by decide +kernel, rfl⟩
theorem dL_law_340 : dc cL_law 340 (.if_icmp .ge 31) 3 343 := ⟨by decide +kernel, rfl⟩
theorem dL_law_343 : dc cL_law 343 (.aload_n 1) 1 344 := ⟨by decide +kernel, rfl⟩
theorem dL_law_344 : dc cL_law 344 (.iload 11) 2 346 := ⟨by decide +kernel, rfl⟩
theorem dL_law_346 : dc cL_law 346 (.iload 15) 2 348 := ⟨by decide +kernel, rfl⟩
theorem dL_law_348 : dc cL_law 348 (.invokevirtual 132) 3 351 := ⟨by decide +kernel, rfl⟩
theorem dL_law_351 : dc cL_law 351 (.aload_n 1) 1 352 := ⟨by decide +kernel, rfl⟩
theorem dL_law_352 : dc cL_law 352 (.iload 15) 2 354 := ⟨by decide +kernel, rfl⟩
theorem dL_law_354 : dc cL_law 354 (.iload 11) 2 356 := ⟨by decide +kernel, rfl⟩
theorem dL_law_356 : dc cL_law 356 (.invokevirtual 132) 3 359 := ⟨by decide +kernel, rfl⟩
theorem dL_law_359 : dc cL_law 359 (.iadd) 1 360 := ⟨by decide +kernel, rfl⟩
theorem dL_law_360 : dc cL_law 360 (.ifCond .eq 5) 3 363 := ⟨by decide +kernel, rfl⟩
theorem dL_law_363 : dc cL_law 363 (.iconst 0) 1 364 := ⟨by decide +kernel, rfl⟩
theorem dL_law_364 : dc cL_law 364 (.ireturn) 1 365 := ⟨by decide +kernel, rfl⟩
theorem dL_law_365 : dc cL_law 365 (.iinc 15 1) 3 368 := ⟨by decide +kernel, rfl⟩
theorem dL_law_368 : dc cL_law 368 (.goto (-32)) 3 371 := ⟨by decide +kernel, rfl⟩
theorem dL_law_371 : dc cL_law 371 (.iload 12) 2 373 := ⟨by decide +kernel, rfl⟩
theorem dL_law_373 : dc cL_law 373 (.ifCond .eq 6) 3 376 := ⟨by decide +kernel, rfl⟩
theorem dL_law_376 : dc cL_law 376 (.goto 543) 3 379 := ⟨by decide +kernel, rfl⟩
theorem dL_law_379 : dc cL_law 379 (.aload_n 1) 1 380 := ⟨by decide +kernel, rfl⟩
theorem dL_law_380 : dc cL_law 380 (.iload 11) 2 382 := ⟨by decide +kernel, rfl⟩
theorem dL_law_382 : dc cL_law 382 (.invokevirtual 135) 3 385 := ⟨by decide +kernel, rfl⟩
theorem dL_law_385 : dc cL_law 385 (.istore 15) 2 387 := ⟨by decide +kernel, rfl⟩
theorem dL_law_387 : dc cL_law 387 (.aload_n 1) 1 388 := ⟨by decide +kernel, rfl⟩
theorem dL_law_388 : dc cL_law 388 (.invokevirtual 119) 3 391 := ⟨by decide +kernel, rfl⟩
theorem dL_law_391 : dc cL_law 391 (.iload 11) 2 393 := ⟨by decide +kernel, rfl⟩
theorem dL_law_393 : dc cL_law 393 (.ishr) 1 394 := ⟨by decide +kernel, rfl⟩
theorem dL_law_394 : dc cL_law 394 (.iconst 1) 1 395 := ⟨by decide +kernel, rfl⟩
theorem dL_law_395 : dc cL_law 395 (.iand) 1 396 := ⟨by decide +kernel, rfl⟩
theorem dL_law_396 : dc cL_law 396 (.iconst 1) 1 397 := ⟨by decide +kernel, rfl⟩
theorem dL_law_397 : dc cL_law 397 (.if_icmp .ne 14) 3 400 := ⟨by decide +kernel, rfl⟩
theorem dL_law_400 : dc cL_law 400 (.iload 15) 2 402 := ⟨by decide +kernel, rfl⟩
theorem dL_law_402 : dc cL_law 402 (.invokestatic 138) 3 405 := ⟨by decide +kernel, rfl⟩
theorem dL_law_405 : dc cL_law 405 (.iconst 1) 1 406 := ⟨by decide +kernel, rfl⟩
theorem dL_law_406 : dc cL_law 406 (.if_icmp .eq 5) 3 409 := ⟨by decide +kernel, rfl⟩
theorem dL_law_409 : dc cL_law 409 (.iconst 0) 1 410 := ⟨by decide +kernel, rfl⟩
theorem dL_law_410 : dc cL_law 410 (.ireturn) 1 411 := ⟨by decide +kernel, rfl⟩
theorem dL_law_411 : dc cL_law 411 (.iconst 0) 1 412 := ⟨by decide +kernel, rfl⟩
theorem dL_law_412 : dc cL_law 412 (.istore 16) 2 414 := ⟨by decide +kernel, rfl⟩
theorem dL_law_414 : dc cL_law 414 (.iload 16) 2 416 := ⟨by decide +kernel, rfl⟩
theorem dL_law_416 : dc cL_law 416 (.aload_n 3) 1 417 := ⟨by decide +kernel, rfl⟩
theorem dL_law_417 : dc cL_law 417 (.iconst 0) 1 418 := ⟨by decide +kernel, rfl⟩
theorem dL_law_418 : dc cL_law 418 (.iaload) 1 419 := ⟨by decide +kernel, rfl⟩
theorem dL_law_419 : dc cL_law 419 (.if_icmp .ge 362) 3 422 := ⟨by decide +kernel, rfl⟩
theorem dL_law_422 : dc cL_law 422 (.aload_n 1) 1 423 := ⟨by decide +kernel, rfl⟩
theorem dL_law_423 : dc cL_law 423 (.iload 11) 2 425 := ⟨by decide +kernel, rfl⟩
theorem dL_law_425 : dc cL_law 425 (.iload 16) 2 427 := ⟨by decide +kernel, rfl⟩
theorem dL_law_427 : dc cL_law 427 (.invokevirtual 141) 3 430 := ⟨by decide +kernel, rfl⟩
theorem dL_law_430 : dc cL_law 430 (.istore 17) 2 432 := ⟨by decide +kernel, rfl⟩
theorem dL_law_432 : dc cL_law 432 (.iload 15) 2 434 := ⟨by decide +kernel, rfl⟩
theorem dL_law_434 : dc cL_law 434 (.iload 16) 2 436 := ⟨by decide +kernel, rfl⟩
theorem dL_law_436 : dc cL_law 436 (.ishr) 1 437 := ⟨by decide +kernel, rfl⟩
theorem dL_law_437 : dc cL_law 437 (.iconst 1) 1 438 := ⟨by decide +kernel, rfl⟩
theorem dL_law_438 : dc cL_law 438 (.iand) 1 439 := ⟨by decide +kernel, rfl⟩
theorem dL_law_439 : dc cL_law 439 (.iconst 1) 1 440 := ⟨by decide +kernel, rfl⟩
theorem dL_law_440 : dc cL_law 440 (.if_icmp .ne 28) 3 443 := ⟨by decide +kernel, rfl⟩
theorem dL_law_443 : dc cL_law 443 (.iload 17) 2 445 := ⟨by decide +kernel, rfl⟩
theorem dL_law_445 : dc cL_law 445 (.ifCond .ge 23) 3 448 := ⟨by decide +kernel, rfl⟩
theorem dL_law_448 : dc cL_law 448 (.aload_n 1) 1 449 := ⟨by decide +kernel, rfl⟩
theorem dL_law_449 : dc cL_law 449 (.bipush 9) 2 451 := ⟨by decide +kernel, rfl⟩
theorem dL_law_451 : dc cL_law 451 (.invokevirtual 116) 3 454 := ⟨by decide +kernel, rfl⟩
theorem dL_law_454 : dc cL_law 454 (.ifCond .ne 14) 3 457 := ⟨by decide +kernel, rfl⟩
theorem dL_law_457 : dc cL_law 457 (.iload 8) 2 459 := ⟨by decide +kernel, rfl⟩
theorem dL_law_459 : dc cL_law 459 (.iload 11) 2 461 := ⟨by decide +kernel, rfl⟩
theorem dL_law_461 : dc cL_law 461 (.ishr) 1 462 := ⟨by decide +kernel, rfl⟩
theorem dL_law_462 : dc cL_law 462 (.iconst 1) 1 463 := ⟨by decide +kernel, rfl⟩
theorem dL_law_463 : dc cL_law 463 (.iand) 1 464 := ⟨by decide +kernel, rfl⟩
theorem dL_law_464 : dc cL_law 464 (.iconst 1) 1 465 := ⟨by decide +kernel, rfl⟩
theorem dL_law_465 : dc cL_law 465 (.if_icmp .eq 33) 3 468 := ⟨by decide +kernel, rfl⟩
theorem dL_law_468 : dc cL_law 468 (.iload 17) 2 470 := ⟨by decide +kernel, rfl⟩
theorem dL_law_470 : dc cL_law 470 (.ifCond .ne 7) 3 473 := ⟨by decide +kernel, rfl⟩
theorem dL_law_473 : dc cL_law 473 (.iconst 1) 1 474 := ⟨by decide +kernel, rfl⟩
theorem dL_law_474 : dc cL_law 474 (.goto 4) 3 477 := ⟨by decide +kernel, rfl⟩
theorem dL_law_477 : dc cL_law 477 (.iconst 0) 1 478 := ⟨by decide +kernel, rfl⟩
theorem dL_law_478 : dc cL_law 478 (.aload_n 1) 1 479 := ⟨by decide +kernel, rfl⟩
theorem dL_law_479 : dc cL_law 479 (.iload 11) 2 481 := ⟨by decide +kernel, rfl⟩
theorem dL_law_481 : dc cL_law 481 (.iconst 0) 1 482 := ⟨by decide +kernel, rfl⟩
theorem dL_law_482 : dc cL_law 482 (.invokevirtual 125) 3 485 := ⟨by decide +kernel, rfl⟩
theorem dL_law_485 : dc cL_law 485 (.iload 16) 2 487 := ⟨by decide +kernel, rfl⟩
theorem dL_law_487 : dc cL_law 487 (.if_icmp .ne 7) 3 490 := ⟨by decide +kernel, rfl⟩
theorem dL_law_490 : dc cL_law 490 (.iconst 1) 1 491 := ⟨by decide +kernel, rfl⟩
theorem dL_law_491 : dc cL_law 491 (.goto 4) 3 494 := ⟨by decide +kernel, rfl⟩
theorem dL_law_494 : dc cL_law 494 (.iconst 0) 1 495 := ⟨by decide +kernel, rfl⟩
theorem dL_law_495 : dc cL_law 495 (.if_icmp .eq 5) 3 498 := ⟨by decide +kernel, rfl⟩
theorem dL_law_498 : dc cL_law 498 (.iconst 0) 1 499 := ⟨by decide +kernel, rfl⟩
theorem dL_law_499 : dc cL_law 499 (.ireturn) 1 500 := ⟨by decide +kernel, rfl⟩
theorem dL_law_500 : dc cL_law 500 (.aload_n 1) 1 501 := ⟨by decide +kernel, rfl⟩
theorem dL_law_501 : dc cL_law 501 (.iload 11) 2 503 := ⟨by decide +kernel, rfl⟩
theorem dL_law_503 : dc cL_law 503 (.iload 16) 2 505 := ⟨by decide +kernel, rfl⟩
theorem dL_law_505 : dc cL_law 505 (.invokevirtual 144) 3 508 := ⟨by decide +kernel, rfl⟩
theorem dL_law_508 : dc cL_law 508 (.istore 18) 2 510 := ⟨by decide +kernel, rfl⟩
theorem dL_law_510 : dc cL_law 510 (.iload 18) 2 512 := ⟨by decide +kernel, rfl⟩
theorem dL_law_512 : dc cL_law 512 (.ifCond .lt 128) 3 515 := ⟨by decide +kernel, rfl⟩
theorem dL_law_515 : dc cL_law 515 (.iconst (-1)) 1 516 := ⟨by decide +kernel, rfl⟩
theorem dL_law_516 : dc cL_law 516 (.istore 19) 2 518 := ⟨by decide +kernel, rfl⟩
theorem dL_law_518 : dc cL_law 518 (.iload 19) 2 520 := ⟨by decide +kernel, rfl⟩
theorem dL_law_520 : dc cL_law 520 (.aload_n 3) 1 521 := ⟨by decide +kernel, rfl⟩
theorem dL_law_521 : dc cL_law 521 (.iconst 1) 1 522 := ⟨by decide +kernel, rfl⟩
theorem dL_law_522 : dc cL_law 522 (.iaload) 1 523 := ⟨by decide +kernel, rfl⟩
theorem dL_law_523 : dc cL_law 523 (.if_icmp .ge 117) 3 526 := ⟨by decide +kernel, rfl⟩
theorem dL_law_526 : dc cL_law 526 (.iload 19) 2 528 := ⟨by decide +kernel, rfl⟩
theorem dL_law_528 : dc cL_law 528 (.ifCond .lt 16) 3 531 := ⟨by decide +kernel, rfl⟩
theorem dL_law_531 : dc cL_law 531 (.iload 18) 2 533 := ⟨by decide +kernel, rfl⟩
theorem dL_law_533 : dc cL_law 533 (.iload 19) 2 535 := ⟨by decide +kernel, rfl⟩
theorem dL_law_535 : dc cL_law 535 (.ishr) 1 536 := ⟨by decide +kernel, rfl⟩
theorem dL_law_536 : dc cL_law 536 (.iconst 1) 1 537 := ⟨by decide +kernel, rfl⟩
theorem dL_law_537 : dc cL_law 537 (.iand) 1 538 := ⟨by decide +kernel, rfl⟩
theorem dL_law_538 : dc cL_law 538 (.ifCond .ne 6) 3 541 := ⟨by decide +kernel, rfl⟩
theorem dL_law_541 : dc cL_law 541 (.goto 93) 3 544 := ⟨by decide +kernel, rfl⟩
theorem dL_law_544 : dc cL_law 544 (.aload_n 1) 1 545 := ⟨by decide +kernel, rfl⟩
theorem dL_law_545 : dc cL_law 545 (.invokevirtual 147) 3 548 := ⟨by decide +kernel, rfl⟩
theorem dL_law_548 : dc cL_law 548 (.iconst 1) 1 549 := ⟨by decide +kernel, rfl⟩
theorem dL_law_549 : dc cL_law 549 (.if_icmp .eq 5) 3 552 := ⟨by decide +kernel, rfl⟩
theorem dL_law_552 : dc cL_law 552 (.iconst 0) 1 553 := ⟨by decide +kernel, rfl⟩
theorem dL_law_553 : dc cL_law 553 (.ireturn) 1 554 := ⟨by decide +kernel, rfl⟩
theorem dL_law_554 : dc cL_law 554 (.iconst 0) 1 555 := ⟨by decide +kernel, rfl⟩
theorem dL_law_555 : dc cL_law 555 (.istore 20) 2 557 := ⟨by decide +kernel, rfl⟩
theorem dL_law_557 : dc cL_law 557 (.iload 20) 2 559 := ⟨by decide +kernel, rfl⟩
theorem dL_law_559 : dc cL_law 559 (.aload_n 3) 1 560 := ⟨by decide +kernel, rfl⟩
theorem dL_law_560 : dc cL_law 560 (.iconst 1) 1 561 := ⟨by decide +kernel, rfl⟩
theorem dL_law_561 : dc cL_law 561 (.iaload) 1 562 := ⟨by decide +kernel, rfl⟩
theorem dL_law_562 : dc cL_law 562 (.if_icmp .ge 39) 3 565 := ⟨by decide +kernel, rfl⟩
theorem dL_law_565 : dc cL_law 565 (.iload 18) 2 567 := ⟨by decide +kernel, rfl⟩
theorem dL_law_567 : dc cL_law 567 (.iload 20) 2 569 := ⟨by decide +kernel, rfl⟩
theorem dL_law_569 : dc cL_law 569 (.ishr) 1 570 := ⟨by decide +kernel, rfl⟩
theorem dL_law_570 : dc cL_law 570 (.iconst 1) 1 571 := ⟨by decide +kernel, rfl⟩
theorem dL_law_571 : dc cL_law 571 (.iand) 1 572 := ⟨by decide +kernel, rfl⟩
theorem dL_law_572 : dc cL_law 572 (.iconst 1) 1 573 := ⟨by decide +kernel, rfl⟩
theorem dL_law_573 : dc cL_law 573 (.if_icmp .ne 22) 3 576 := ⟨by decide +kernel, rfl⟩
theorem dL_law_576 : dc cL_law 576 (.iload 20) 2 578 := ⟨by decide +kernel, rfl⟩
theorem dL_law_578 : dc cL_law 578 (.iload 19) 2 580 := ⟨by decide +kernel, rfl⟩
theorem dL_law_580 : dc cL_law 580 (.if_icmp .eq 15) 3 583 := ⟨by decide +kernel, rfl⟩
theorem dL_law_583 : dc cL_law 583 (.aload_n 1) 1 584 := ⟨by decide +kernel, rfl⟩
theorem dL_law_584 : dc cL_law 584 (.iload 20) 2 586 := ⟨by decide +kernel, rfl⟩
theorem dL_law_586 : dc cL_law 586 (.iconst 1) 1 587 := ⟨by decide +kernel, rfl⟩
theorem dL_law_587 : dc cL_law 587 (.invokevirtual 150) 3 590 := ⟨by decide +kernel, rfl⟩
theorem dL_law_590 : dc cL_law 590 (.ifCond .ne 5) 3 593 := ⟨by decide +kernel, rfl⟩
theorem dL_law_593 : dc cL_law 593 (.iconst 0) 1 594 := ⟨by decide +kernel, rfl⟩
theorem dL_law_594 : dc cL_law 594 (.ireturn) 1 595 := ⟨by decide +kernel, rfl⟩
theorem dL_law_595 : dc cL_law 595 (.iinc 20 1) 3 598 := ⟨by decide +kernel, rfl⟩
theorem dL_law_598 : dc cL_law 598 (.goto (-41)) 3 601 := ⟨by decide +kernel, rfl⟩
theorem dL_law_601 : dc cL_law 601 (.aload_n 1) 1 602 := ⟨by decide +kernel, rfl⟩
theorem dL_law_602 : dc cL_law 602 (.iload 11) 2 604 := ⟨by decide +kernel, rfl⟩
theorem dL_law_604 : dc cL_law 604 (.invokevirtual 135) 3 607 := ⟨by decide +kernel, rfl⟩
theorem dL_law_607 : dc cL_law 607 (.iload 16) 2 609 := ⟨by decide +kernel, rfl⟩
theorem dL_law_609 : dc cL_law 609 (.ishr) 1 610 := ⟨by decide +kernel, rfl⟩
theorem dL_law_610 : dc cL_law 610 (.iconst 1) 1 611 := ⟨by decide +kernel, rfl⟩
theorem dL_law_611 : dc cL_law 611 (.iand) 1 612 := ⟨by decide +kernel, rfl⟩
theorem dL_law_612 : dc cL_law 612 (.iload 19) 2 614 := ⟨by decide +kernel, rfl⟩
theorem dL_law_614 : dc cL_law 614 (.ifCond .ge 7) 3 617 := ⟨by decide +kernel, rfl⟩
theorem dL_law_617 : dc cL_law 617 (.iconst 1) 1 618 := ⟨by decide +kernel, rfl⟩
theorem dL_law_618 : dc cL_law 618 (.goto 4) 3 621 := ⟨by decide +kernel, rfl⟩
theorem dL_law_621 : dc cL_law 621 (.iconst 0) 1 622 := ⟨by decide +kernel, rfl⟩
theorem dL_law_622 : dc cL_law 622 (.if_icmp .ne 10) 3 625 := ⟨by decide +kernel, rfl⟩
theorem dL_law_625 : dc cL_law 625 (.aload_n 1) 1 626 := ⟨by decide +kernel, rfl⟩
theorem dL_law_626 : dc cL_law 626 (.invokevirtual 154) 3 629 := ⟨by decide +kernel, rfl⟩
theorem dL_law_629 : dc cL_law 629 (.ifCond .eq 5) 3 632 := ⟨by decide +kernel, rfl⟩
theorem dL_law_632 : dc cL_law 632 (.iconst 0) 1 633 := ⟨by decide +kernel, rfl⟩
theorem dL_law_633 : dc cL_law 633 (.ireturn) 1 634 := ⟨by decide +kernel, rfl⟩
theorem dL_law_634 : dc cL_law 634 (.iinc 19 1) 3 637 := ⟨by decide +kernel, rfl⟩
theorem dL_law_637 : dc cL_law 637 (.goto (-119)) 3 640 := ⟨by decide +kernel, rfl⟩
theorem dL_law_640 : dc cL_law 640 (.iload 17) 2 642 := ⟨by decide +kernel, rfl⟩
theorem dL_law_642 : dc cL_law 642 (.ifCond .gt 6) 3 645 := ⟨by decide +kernel, rfl⟩
theorem dL_law_645 : dc cL_law 645 (.goto 130) 3 648 := ⟨by decide +kernel, rfl⟩
theorem dL_law_648 : dc cL_law 648 (.aload_n 1) 1 649 := ⟨by decide +kernel, rfl⟩
theorem dL_law_649 : dc cL_law 649 (.invokevirtual 147) 3 652 := ⟨by decide +kernel, rfl⟩
theorem dL_law_652 : dc cL_law 652 (.iconst 1) 1 653 := ⟨by decide +kernel, rfl⟩
theorem dL_law_653 : dc cL_law 653 (.if_icmp .eq 5) 3 656 := ⟨by decide +kernel, rfl⟩
theorem dL_law_656 : dc cL_law 656 (.iconst 0) 1 657 := ⟨by decide +kernel, rfl⟩
theorem dL_law_657 : dc cL_law 657 (.ireturn) 1 658 := ⟨by decide +kernel, rfl⟩
theorem dL_law_658 : dc cL_law 658 (.iconst 0) 1 659 := ⟨by decide +kernel, rfl⟩
theorem dL_law_659 : dc cL_law 659 (.istore 19) 2 661 := ⟨by decide +kernel, rfl⟩
theorem dL_law_661 : dc cL_law 661 (.iload 19) 2 663 := ⟨by decide +kernel, rfl⟩
theorem dL_law_663 : dc cL_law 663 (.iload 17) 2 665 := ⟨by decide +kernel, rfl⟩
theorem dL_law_665 : dc cL_law 665 (.if_icmp .gt 94) 3 668 := ⟨by decide +kernel, rfl⟩
theorem dL_law_668 : dc cL_law 668 (.aload_n 1) 1 669 := ⟨by decide +kernel, rfl⟩
theorem dL_law_669 : dc cL_law 669 (.iload 11) 2 671 := ⟨by decide +kernel, rfl⟩
theorem dL_law_671 : dc cL_law 671 (.iconst 0) 1 672 := ⟨by decide +kernel, rfl⟩
theorem dL_law_672 : dc cL_law 672 (.invokevirtual 125) 3 675 := ⟨by decide +kernel, rfl⟩
theorem dL_law_675 : dc cL_law 675 (.iload 16) 2 677 := ⟨by decide +kernel, rfl⟩
theorem dL_law_677 : dc cL_law 677 (.if_icmp .eq 82) 3 680 := ⟨by decide +kernel, rfl⟩
theorem dL_law_680 : dc cL_law 680 (.aload_n 1) 1 681 := ⟨by decide +kernel, rfl⟩
theorem dL_law_681 : dc cL_law 681 (.iload 11) 2 683 := ⟨by decide +kernel, rfl⟩
theorem dL_law_683 : dc cL_law 683 (.iconst 0) 1 684 := ⟨by decide +kernel, rfl⟩
theorem dL_law_684 : dc cL_law 684 (.invokevirtual 125) 3 687 := ⟨by decide +kernel, rfl⟩
theorem dL_law_687 : dc cL_law 687 (.ifCond .lt 56) 3 690 := ⟨by decide +kernel, rfl⟩
theorem dL_law_690 : dc cL_law 690 (.aload_n 1) 1 691 := ⟨by decide +kernel, rfl⟩
theorem dL_law_691 : dc cL_law 691 (.iload 11) 2 693 := ⟨by decide +kernel, rfl⟩
theorem dL_law_693 : dc cL_law 693 (.iload 16) 2 695 := ⟨by decide +kernel, rfl⟩
theorem dL_law_695 : dc cL_law 695 (.invokevirtual 157) 3 698 := ⟨by decide +kernel, rfl⟩
theorem dL_law_698 : dc cL_law 698 (.istore 20) 2 700 := ⟨by decide +kernel, rfl⟩
theorem dL_law_700 : dc cL_law 700 (.iload 20) 2 702 := ⟨by decide +kernel, rfl⟩
theorem dL_law_702 : dc cL_law 702 (.ifCond .ge 5) 3 705 := ⟨by decide +kernel, rfl⟩
theorem dL_law_705 : dc cL_law 705 (.iconst 0) 1 706 := ⟨by decide +kernel, rfl⟩
theorem dL_law_706 : dc cL_law 706 (.ireturn) 1 707 := ⟨by decide +kernel, rfl⟩
theorem dL_law_707 : dc cL_law 707 (.aload_n 1) 1 708 := ⟨by decide +kernel, rfl⟩
theorem dL_law_708 : dc cL_law 708 (.iload 11) 2 710 := ⟨by decide +kernel, rfl⟩
theorem dL_law_710 : dc cL_law 710 (.aload_n 1) 1 711 := ⟨by decide +kernel, rfl⟩
theorem dL_law_711 : dc cL_law 711 (.aload_n 1) 1 712 := ⟨by decide +kernel, rfl⟩
theorem dL_law_712 : dc cL_law 712 (.iload 11) 2 714 := ⟨by decide +kernel, rfl⟩
theorem dL_law_714 : dc cL_law 714 (.iconst 0) 1 715 := ⟨by decide +kernel, rfl⟩
theorem dL_law_715 : dc cL_law 715 (.invokevirtual 125) 3 718 := ⟨by decide +kernel, rfl⟩
theorem dL_law_718 : dc cL_law 718 (.iload 20) 2 720 := ⟨by decide +kernel, rfl⟩
theorem dL_law_720 : dc cL_law 720 (.invokevirtual 160) 3 723 := ⟨by decide +kernel, rfl⟩
theorem dL_law_723 : dc cL_law 723 (.invokevirtual 163) 3 726 := ⟨by decide +kernel, rfl⟩
theorem dL_law_726 : dc cL_law 726 (.iconst 1) 1 727 := ⟨by decide +kernel, rfl⟩
theorem dL_law_727 : dc cL_law 727 (.if_icmp .ne 16) 3 730 := ⟨by decide +kernel, rfl⟩
theorem dL_law_730 : dc cL_law 730 (.aload_n 1) 1 731 := ⟨by decide +kernel, rfl⟩
theorem dL_law_731 : dc cL_law 731 (.iload 11) 2 733 := ⟨by decide +kernel, rfl⟩
theorem dL_law_733 : dc cL_law 733 (.iload 20) 2 735 := ⟨by decide +kernel, rfl⟩
theorem dL_law_735 : dc cL_law 735 (.invokevirtual 165) 3 738 := ⟨by decide +kernel, rfl⟩
theorem dL_law_738 : dc cL_law 738 (.ifCond .ge 5) 3 741 := ⟨by decide +kernel, rfl⟩
theorem dL_law_741 : dc cL_law 741 (.iconst 0) 1 742 := ⟨by decide +kernel, rfl⟩
theorem dL_law_742 : dc cL_law 742 (.ireturn) 1 743 := ⟨by decide +kernel, rfl⟩
theorem dL_law_743 : dc cL_law 743 (.aload_n 1) 1 744 := ⟨by decide +kernel, rfl⟩
theorem dL_law_744 : dc cL_law 744 (.iconst 1) 1 745 := ⟨by decide +kernel, rfl⟩
theorem dL_law_745 : dc cL_law 745 (.invokevirtual 168) 3 748 := ⟨by decide +kernel, rfl⟩
theorem dL_law_748 : dc cL_law 748 (.ifCond .ge 5) 3 751 := ⟨by decide +kernel, rfl⟩
theorem dL_law_751 : dc cL_law 751 (.iconst 0) 1 752 := ⟨by decide +kernel, rfl⟩
theorem dL_law_752 : dc cL_law 752 (.ireturn) 1 753 := ⟨by decide +kernel, rfl⟩
theorem dL_law_753 : dc cL_law 753 (.iinc 19 1) 3 756 := ⟨by decide +kernel, rfl⟩
theorem dL_law_756 : dc cL_law 756 (.goto (-95)) 3 759 := ⟨by decide +kernel, rfl⟩
theorem dL_law_759 : dc cL_law 759 (.iload 19) 2 761 := ⟨by decide +kernel, rfl⟩
theorem dL_law_761 : dc cL_law 761 (.iload 17) 2 763 := ⟨by decide +kernel, rfl⟩
theorem dL_law_763 : dc cL_law 763 (.if_icmp .ne 10) 3 766 := ⟨by decide +kernel, rfl⟩
theorem dL_law_766 : dc cL_law 766 (.aload_n 1) 1 767 := ⟨by decide +kernel, rfl⟩
theorem dL_law_767 : dc cL_law 767 (.invokevirtual 154) 3 770 := ⟨by decide +kernel, rfl⟩
theorem dL_law_770 : dc cL_law 770 (.ifCond .eq 5) 3 773 := ⟨by decide +kernel, rfl⟩
theorem dL_law_773 : dc cL_law 773 (.iconst 0) 1 774 := ⟨by decide +kernel, rfl⟩
theorem dL_law_774 : dc cL_law 774 (.ireturn) 1 775 := ⟨by decide +kernel, rfl⟩
theorem dL_law_775 : dc cL_law 775 (.iinc 16 1) 3 778 := ⟨by decide +kernel, rfl⟩
theorem dL_law_778 : dc cL_law 778 (.goto (-364)) 3 781 := ⟨by decide +kernel, rfl⟩
theorem dL_law_781 : dc cL_law 781 (.iconst 0) 1 782 := ⟨by decide +kernel, rfl⟩
theorem dL_law_782 : dc cL_law 782 (.istore 16) 2 784 := ⟨by decide +kernel, rfl⟩
theorem dL_law_784 : dc cL_law 784 (.iload 16) 2 786 := ⟨by decide +kernel, rfl⟩
theorem dL_law_786 : dc cL_law 786 (.aload_n 3) 1 787 := ⟨by decide +kernel, rfl⟩
theorem dL_law_787 : dc cL_law 787 (.iconst 2) 1 788 := ⟨by decide +kernel, rfl⟩
theorem dL_law_788 : dc cL_law 788 (.iaload) 1 789 := ⟨by decide +kernel, rfl⟩
theorem dL_law_789 : dc cL_law 789 (.if_icmp .ge 130) 3 792 := ⟨by decide +kernel, rfl⟩
theorem dL_law_792 : dc cL_law 792 (.aload_n 1) 1 793 := ⟨by decide +kernel, rfl⟩
theorem dL_law_793 : dc cL_law 793 (.iload 11) 2 795 := ⟨by decide +kernel, rfl⟩
theorem dL_law_795 : dc cL_law 795 (.iload 16) 2 797 := ⟨by decide +kernel, rfl⟩
theorem dL_law_797 : dc cL_law 797 (.invokevirtual 171) 3 800 := ⟨by decide +kernel, rfl⟩
theorem dL_law_800 : dc cL_law 800 (.istore 17) 2 802 := ⟨by decide +kernel, rfl⟩
theorem dL_law_802 : dc cL_law 802 (.iload 17) 2 804 := ⟨by decide +kernel, rfl⟩
theorem dL_law_804 : dc cL_law 804 (.ifCond .ge 6) 3 807 := ⟨by decide +kernel, rfl⟩
theorem dL_law_807 : dc cL_law 807 (.goto 106) 3 810 := ⟨by decide +kernel, rfl⟩
theorem dL_law_810 : dc cL_law 810 (.aload_n 1) 1 811 := ⟨by decide +kernel, rfl⟩
theorem dL_law_811 : dc cL_law 811 (.iload 11) 2 813 := ⟨by decide +kernel, rfl⟩
theorem dL_law_813 : dc cL_law 813 (.iload 17) 2 815 := ⟨by decide +kernel, rfl⟩
theorem dL_law_815 : dc cL_law 815 (.invokevirtual 141) 3 818 := ⟨by decide +kernel, rfl⟩
theorem dL_law_818 : dc cL_law 818 (.istore 18) 2 820 := ⟨by decide +kernel, rfl⟩
theorem dL_law_820 : dc cL_law 820 (.aload_n 1) 1 821 := ⟨by decide +kernel, rfl⟩
theorem dL_law_821 : dc cL_law 821 (.iload 16) 2 823 := ⟨by decide +kernel, rfl⟩
theorem dL_law_823 : dc cL_law 823 (.iload 17) 2 825 := ⟨by decide +kernel, rfl⟩
theorem dL_law_825 : dc cL_law 825 (.invokevirtual 141) 3 828 := ⟨by decide +kernel, rfl⟩
theorem dL_law_828 : dc cL_law 828 (.istore 19) 2 830 := ⟨by decide +kernel, rfl⟩
theorem dL_law_830 : dc cL_law 830 (.iload 18) 2 832 := ⟨by decide +kernel, rfl⟩
theorem dL_law_832 : dc cL_law 832 (.ifCond .lt 46) 3 835 := ⟨by decide +kernel, rfl⟩
theorem dL_law_835 : dc cL_law 835 (.iload 19) 2 837 := ⟨by decide +kernel, rfl⟩
theorem dL_law_837 : dc cL_law 837 (.ifCond .lt 41) 3 840 := ⟨by decide +kernel, rfl⟩
theorem dL_law_840 : dc cL_law 840 (.aload_n 1) 1 841 := ⟨by decide +kernel, rfl⟩
theorem dL_law_841 : dc cL_law 841 (.iload 11) 2 843 := ⟨by decide +kernel, rfl⟩
theorem dL_law_843 : dc cL_law 843 (.iload 16) 2 845 := ⟨by decide +kernel, rfl⟩
theorem dL_law_845 : dc cL_law 845 (.invokevirtual 174) 3 848 := ⟨by decide +kernel, rfl⟩
theorem dL_law_848 : dc cL_law 848 (.iload 18) 2 850 := ⟨by decide +kernel, rfl⟩
theorem dL_law_850 : dc cL_law 850 (.iload 19) 2 852 := ⟨by decide +kernel, rfl⟩
theorem dL_law_852 : dc cL_law 852 (.if_icmp .le 8) 3 855 := ⟨by decide +kernel, rfl⟩
theorem dL_law_855 : dc cL_law 855 (.iload 18) 2 857 := ⟨by decide +kernel, rfl⟩
theorem dL_law_857 : dc cL_law 857 (.goto 5) 3 860 := ⟨by decide +kernel, rfl⟩
theorem dL_law_860 : dc cL_law 860 (.iload 19) 2 862 := ⟨by decide +kernel, rfl⟩
theorem dL_law_862 : dc cL_law 862 (.if_icmp .ne 16) 3 865 := ⟨by decide +kernel, rfl⟩
theorem dL_law_865 : dc cL_law 865 (.aload_n 1) 1 866 := ⟨by decide +kernel, rfl⟩
theorem dL_law_866 : dc cL_law 866 (.iload 16) 2 868 := ⟨by decide +kernel, rfl⟩
theorem dL_law_868 : dc cL_law 868 (.iload 11) 2 870 := ⟨by decide +kernel, rfl⟩
theorem dL_law_870 : dc cL_law 870 (.invokevirtual 171) 3 873 := ⟨by decide +kernel, rfl⟩
theorem dL_law_873 : dc cL_law 873 (.iload 17) 2 875 := ⟨by decide +kernel, rfl⟩
theorem dL_law_875 : dc cL_law 875 (.if_icmp .eq 5) 3 878 := ⟨by decide +kernel, rfl⟩
theorem dL_law_878 : dc cL_law 878 (.iconst 0) 1 879 := ⟨by decide +kernel, rfl⟩
theorem dL_law_879 : dc cL_law 879 (.ireturn) 1 880 := ⟨by decide +kernel, rfl⟩
theorem dL_law_880 : dc cL_law 880 (.aload_n 1) 1 881 := ⟨by decide +kernel, rfl⟩
theorem dL_law_881 : dc cL_law 881 (.iload 11) 2 883 := ⟨by decide +kernel, rfl⟩
theorem dL_law_883 : dc cL_law 883 (.iload 16) 2 885 := ⟨by decide +kernel, rfl⟩
theorem dL_law_885 : dc cL_law 885 (.iload 17) 2 887 := ⟨by decide +kernel, rfl⟩
theorem dL_law_887 : dc cL_law 887 (.invokevirtual 177) 3 890 := ⟨by decide +kernel, rfl⟩
theorem dL_law_890 : dc cL_law 890 (.istore 20) 2 892 := ⟨by decide +kernel, rfl⟩
theorem dL_law_892 : dc cL_law 892 (.iload 20) 2 894 := ⟨by decide +kernel, rfl⟩
theorem dL_law_894 : dc cL_law 894 (.ifCond .lt 19) 3 897 := ⟨by decide +kernel, rfl⟩
theorem dL_law_897 : dc cL_law 897 (.iload 20) 2 899 := ⟨by decide +kernel, rfl⟩
theorem dL_law_899 : dc cL_law 899 (.iload 18) 2 901 := ⟨by decide +kernel, rfl⟩
theorem dL_law_901 : dc cL_law 901 (.if_icmp .gt 10) 3 904 := ⟨by decide +kernel, rfl⟩
theorem dL_law_904 : dc cL_law 904 (.iload 20) 2 906 := ⟨by decide +kernel, rfl⟩
theorem dL_law_906 : dc cL_law 906 (.iload 19) 2 908 := ⟨by decide +kernel, rfl⟩
theorem dL_law_908 : dc cL_law 908 (.if_icmp .le 5) 3 911 := ⟨by decide +kernel, rfl⟩
theorem dL_law_911 : dc cL_law 911 (.iconst 0) 1 912 := ⟨by decide +kernel, rfl⟩
theorem dL_law_912 : dc cL_law 912 (.ireturn) 1 913 := ⟨by decide +kernel, rfl⟩
theorem dL_law_913 : dc cL_law 913 (.iinc 16 1) 3 916 := ⟨by decide +kernel, rfl⟩
theorem dL_law_916 : dc cL_law 916 (.goto (-132)) 3 919 := ⟨by decide +kernel, rfl⟩
theorem dL_law_919 : dc cL_law 919 (.iinc 11 1) 3 922 := ⟨by decide +kernel, rfl⟩
theorem dL_law_922 : dc cL_law 922 (.goto (-777)) 3 925 := ⟨by decide +kernel, rfl⟩
theorem dL_law_925 : dc cL_law 925 (.iload 9) 2 927 := ⟨by decide +kernel, rfl⟩
theorem dL_law_927 : dc cL_law 927 (.ifCond .ne 21) 3 930 := ⟨by decide +kernel, rfl⟩
theorem dL_law_930 : dc cL_law 930 (.iload 10) 2 932 := ⟨by decide +kernel, rfl⟩
theorem dL_law_932 : dc cL_law 932 (.iconst 2) 1 933 := ⟨by decide +kernel, rfl⟩
theorem dL_law_933 : dc cL_law 933 (.aload_n 1) 1 934 := ⟨by decide +kernel, rfl⟩
theorem dL_law_934 : dc cL_law 934 (.invokevirtual 181) 3 937 := ⟨by decide +kernel, rfl⟩
theorem dL_law_937 : dc cL_law 937 (.imul) 1 938 := ⟨by decide +kernel, rfl⟩
theorem dL_law_938 : dc cL_law 938 (.if_icmp .ne 10) 3 941 := ⟨by decide +kernel, rfl⟩
theorem dL_law_941 : dc cL_law 941 (.aload_n 1) 1 942 := ⟨by decide +kernel, rfl⟩
theorem dL_law_942 : dc cL_law 942 (.invokevirtual 184) 3 945 := ⟨by decide +kernel, rfl⟩
theorem dL_law_945 : dc cL_law 945 (.ifCond .ge 5) 3 948 := ⟨by decide +kernel, rfl⟩
theorem dL_law_948 : dc cL_law 948 (.iconst 0) 1 949 := ⟨by decide +kernel, rfl⟩
theorem dL_law_949 : dc cL_law 949 (.ireturn) 1 950 := ⟨by decide +kernel, rfl⟩
theorem dL_law_950 : dc cL_law 950 (.iconst 1) 1 951 := ⟨by decide +kernel, rfl⟩
theorem dL_law_951 : dc cL_law 951 (.iload 6) 2 953 := ⟨by decide +kernel, rfl⟩
theorem dL_law_953 : dc cL_law 953 (.bipush 127) 2 955 := ⟨by decide +kernel, rfl⟩
theorem dL_law_955 : dc cL_law 955 (.iand) 1 956 := ⟨by decide +kernel, rfl⟩
theorem dL_law_956 : dc cL_law 956 (.iadd) 1 957 := ⟨by decide +kernel, rfl⟩
theorem dL_law_957 : dc cL_law 957 (.istore 11) 2 959 := ⟨by decide +kernel, rfl⟩
theorem dL_law_959 : dc cL_law 959 (.aload_n 1) 1 960 := ⟨by decide +kernel, rfl⟩
theorem dL_law_960 : dc cL_law 960 (.iload 11) 2 962 := ⟨by decide +kernel, rfl⟩
theorem dL_law_962 : dc cL_law 962 (.invokevirtual 187) 3 965 := ⟨by decide +kernel, rfl⟩
theorem dL_law_965 : dc cL_law 965 (.istore 12) 2 967 := ⟨by decide +kernel, rfl⟩
theorem dL_law_967 : dc cL_law 967 (.aload_n 1) 1 968 := ⟨by decide +kernel, rfl⟩
theorem dL_law_968 : dc cL_law 968 (.bipush 14) 2 970 := ⟨by decide +kernel, rfl⟩
theorem dL_law_970 : dc cL_law 970 (.invokevirtual 116) 3 973 := ⟨by decide +kernel, rfl⟩
theorem dL_law_973 : dc cL_law 973 (.istore 13) 2 975 := ⟨by decide +kernel, rfl⟩
theorem dL_law_975 : dc cL_law 975 (.aload_n 1) 1 976 := ⟨by decide +kernel, rfl⟩
theorem dL_law_976 : dc cL_law 976 (.iload 11) 2 978 := ⟨by decide +kernel, rfl⟩
theorem dL_law_978 : dc cL_law 978 (.aload_n 1) 1 979 := ⟨by decide +kernel, rfl⟩
theorem dL_law_979 : dc cL_law 979 (.iconst 3) 1 980 := ⟨by decide +kernel, rfl⟩
theorem dL_law_980 : dc cL_law 980 (.invokevirtual 116) 3 983 := ⟨by decide +kernel, rfl⟩
theorem dL_law_983 : dc cL_law 983 (.aload_n 1) 1 984 := ⟨by decide +kernel, rfl⟩
theorem dL_law_984 : dc cL_law 984 (.iconst 4) 1 985 := ⟨by decide +kernel, rfl⟩
theorem dL_law_985 : dc cL_law 985 (.invokevirtual 116) 3 988 := ⟨by decide +kernel, rfl⟩
theorem dL_law_988 : dc cL_law 988 (.invokevirtual 190) 3 991 := ⟨by decide +kernel, rfl⟩
theorem dL_law_991 : dc cL_law 991 (.iload 12) 2 993 := ⟨by decide +kernel, rfl⟩
theorem dL_law_993 : dc cL_law 993 (.if_icmp .ne 16) 3 996 := ⟨by decide +kernel, rfl⟩
theorem dL_law_996 : dc cL_law 996 (.iload 12) 2 998 := ⟨by decide +kernel, rfl⟩
theorem dL_law_998 : dc cL_law 998 (.iload 11) 2 1000 := ⟨by decide +kernel, rfl⟩
theorem dL_law_1000 : dc cL_law 1000 (.iload 7) 2 1002 := ⟨by decide +kernel, rfl⟩
theorem dL_law_1002 : dc cL_law 1002 (.invokestatic 138) 3 1005 := ⟨by decide +kernel, rfl⟩
theorem dL_law_1005 : dc cL_law 1005 (.imul) 1 1006 := ⟨by decide +kernel, rfl⟩
theorem dL_law_1006 : dc cL_law 1006 (.if_icmp .le 5) 3 1009 := ⟨by decide +kernel, rfl⟩
theorem dL_law_1009 : dc cL_law 1009 (.iconst 0) 1 1010 := ⟨by decide +kernel, rfl⟩
theorem dL_law_1010 : dc cL_law 1010 (.ireturn) 1 1011 := ⟨by decide +kernel, rfl⟩
theorem dL_law_1011 : dc cL_law 1011 (.aload_n 1) 1 1012 := ⟨by decide +kernel, rfl⟩
theorem dL_law_1012 : dc cL_law 1012 (.iload 11) 2 1014 := ⟨by decide +kernel, rfl⟩
theorem dL_law_1014 : dc cL_law 1014 (.invokevirtual 193) 3 1017 := ⟨by decide +kernel, rfl⟩
theorem dL_law_1017 : dc cL_law 1017 (.istore 14) 2 1019 := ⟨by decide +kernel, rfl⟩
theorem dL_law_1019 : dc cL_law 1019 (.aload_n 1) 1 1020 := ⟨by decide +kernel, rfl⟩
theorem dL_law_1020 : dc cL_law 1020 (.iconst 4) 1 1021 := ⟨by decide +kernel, rfl⟩
theorem dL_law_1021 : dc cL_law 1021 (.invokevirtual 116) 3 1024 := ⟨by decide +kernel, rfl⟩
theorem dL_law_1024 : dc cL_law 1024 (.aload_n 1) 1 1025 := ⟨by decide +kernel, rfl⟩
theorem dL_law_1025 : dc cL_law 1025 (.iconst 3) 1 1026 := ⟨by decide +kernel, rfl⟩
theorem dL_law_1026 : dc cL_law 1026 (.invokevirtual 116) 3 1029 := ⟨by decide +kernel, rfl⟩
theorem dL_law_1029 : dc cL_law 1029 (.isub) 1 1030 := ⟨by decide +kernel, rfl⟩
theorem dL_law_1030 : dc cL_law 1030 (.istore 15) 2 1032 := ⟨by decide +kernel, rfl⟩
theorem dL_law_1032 : dc cL_law 1032 (.aload_n 1) 1 1033 := ⟨by decide +kernel, rfl⟩
theorem dL_law_1033 : dc cL_law 1033 (.iload 11) 2 1035 := ⟨by decide +kernel, rfl⟩
theorem dL_law_1035 : dc cL_law 1035 (.iload 14) 2 1037 := ⟨by decide +kernel, rfl⟩
theorem dL_law_1037 : dc cL_law 1037 (.iload 14) 2 1039 := ⟨by decide +kernel, rfl⟩
theorem dL_law_1039 : dc cL_law 1039 (.iload 15) 2 1041 := ⟨by decide +kernel, rfl⟩
theorem dL_law_1041 : dc cL_law 1041 (.iadd) 1 1042 := ⟨by decide +kernel, rfl⟩
theorem dL_law_1042 : dc cL_law 1042 (.bipush 24) 2 1044 := ⟨by decide +kernel, rfl⟩
theorem dL_law_1044 : dc cL_law 1044 (.if_icmp .le 8) 3 1047 := ⟨by decide +kernel, rfl⟩
theorem dL_law_1047 : dc cL_law 1047 (.bipush 24) 2 1049 := ⟨by decide +kernel, rfl⟩
theorem dL_law_1049 : dc cL_law 1049 (.goto 8) 3 1052 := ⟨by decide +kernel, rfl⟩
theorem dL_law_1052 : dc cL_law 1052 (.iload 14) 2 1054 := ⟨by decide +kernel, rfl⟩
theorem dL_law_1054 : dc cL_law 1054 (.iload 15) 2 1056 := ⟨by decide +kernel, rfl⟩
theorem dL_law_1056 : dc cL_law 1056 (.iadd) 1 1057 := ⟨by decide +kernel, rfl⟩
theorem dL_law_1057 : dc cL_law 1057 (.invokevirtual 190) 3 1060 := ⟨by decide +kernel, rfl⟩
theorem dL_law_1060 : dc cL_law 1060 (.iload 12) 2 1062 := ⟨by decide +kernel, rfl⟩
theorem dL_law_1062 : dc cL_law 1062 (.if_icmp .le 5) 3 1065 := ⟨by decide +kernel, rfl⟩
theorem dL_law_1065 : dc cL_law 1065 (.iconst 0) 1 1066 := ⟨by decide +kernel, rfl⟩
theorem dL_law_1066 : dc cL_law 1066 (.ireturn) 1 1067 := ⟨by decide +kernel, rfl⟩
theorem dL_law_1067 : dc cL_law 1067 (.aload_n 1) 1 1068 := ⟨by decide +kernel, rfl⟩
theorem dL_law_1068 : dc cL_law 1068 (.iload 11) 2 1070 := ⟨by decide +kernel, rfl⟩
theorem dL_law_1070 : dc cL_law 1070 (.invokevirtual 168) 3 1073 := ⟨by decide +kernel, rfl⟩
theorem dL_law_1073 : dc cL_law 1073 (.ifCond .lt 17) 3 1076 := ⟨by decide +kernel, rfl⟩
theorem dL_law_1076 : dc cL_law 1076 (.aload_n 1) 1 1077 := ⟨by decide +kernel, rfl⟩
theorem dL_law_1077 : dc cL_law 1077 (.bipush 14) 2 1079 := ⟨by decide +kernel, rfl⟩
theorem dL_law_1079 : dc cL_law 1079 (.invokevirtual 116) 3 1082 := ⟨by decide +kernel, rfl⟩
theorem dL_law_1082 : dc cL_law 1082 (.iload 13) 2 1084 := ⟨by decide +kernel, rfl⟩
theorem dL_law_1084 : dc cL_law 1084 (.iload 12) 2 1086 := ⟨by decide +kernel, rfl⟩
theorem dL_law_1086 : dc cL_law 1086 (.iadd) 1 1087 := ⟨by decide +kernel, rfl⟩
theorem dL_law_1087 : dc cL_law 1087 (.if_icmp .eq 5) 3 1090 := ⟨by decide +kernel, rfl⟩
theorem dL_law_1090 : dc cL_law 1090 (.iconst 0) 1 1091 := ⟨by decide +kernel, rfl⟩
theorem dL_law_1091 : dc cL_law 1091 (.ireturn) 1 1092 := ⟨by decide +kernel, rfl⟩
theorem dL_law_1092 : dc cL_law 1092 (.iconst 0) 1 1093 := ⟨by decide +kernel, rfl⟩
theorem dL_law_1093 : dc cL_law 1093 (.istore 16) 2 1095 := ⟨by decide +kernel, rfl⟩
theorem dL_law_1095 : dc cL_law 1095 (.iload 16) 2 1097 := ⟨by decide +kernel, rfl⟩
theorem dL_law_1097 : dc cL_law 1097 (.aload_n 3) 1 1098 := ⟨by decide +kernel, rfl⟩
theorem dL_law_1098 : dc cL_law 1098 (.iconst 2) 1 1099 := ⟨by decide +kernel, rfl⟩
theorem dL_law_1099 : dc cL_law 1099 (.iaload) 1 1100 := ⟨by decide +kernel, rfl⟩
theorem dL_law_1100 : dc cL_law 1100 (.if_icmp .ge 86) 3 1103 := ⟨by decide +kernel, rfl⟩
theorem dL_law_1103 : dc cL_law 1103 (.iload 6) 2 1105 := ⟨by decide +kernel, rfl⟩
theorem dL_law_1105 : dc cL_law 1105 (.iload 16) 2 1107 := ⟨by decide +kernel, rfl⟩
theorem dL_law_1107 : dc cL_law 1107 (.iconst 2) 1 1108 := ⟨by decide +kernel, rfl⟩
theorem dL_law_1108 : dc cL_law 1108 (.iadd) 1 1109 := ⟨by decide +kernel, rfl⟩
theorem dL_law_1109 : dc cL_law 1109 (.ishr) 1 1110 := ⟨by decide +kernel, rfl⟩
theorem dL_law_1110 : dc cL_law 1110 (.iconst 3) 1 1111 := ⟨by decide +kernel, rfl⟩
theorem dL_law_1111 : dc cL_law 1111 (.iand) 1 1112 := ⟨by decide +kernel, rfl⟩
theorem dL_law_1112 : dc cL_law 1112 (.aload_n 3) 1 1113 := ⟨by decide +kernel, rfl⟩
theorem dL_law_1113 : dc cL_law 1113 (.iconst 0) 1 1114 := ⟨by decide +kernel, rfl⟩
theorem dL_law_1114 : dc cL_law 1114 (.iaload) 1 1115 := ⟨by decide +kernel, rfl⟩
theorem dL_law_1115 : dc cL_law 1115 (.irem) 1 1116 := ⟨by decide +kernel, rfl⟩
theorem dL_law_1116 : dc cL_law 1116 (.istore 17) 2 1118 := ⟨by decide +kernel, rfl⟩
theorem dL_law_1118 : dc cL_law 1118 (.iload 6) 2 1120 := ⟨by decide +kernel, rfl⟩
theorem dL_law_1120 : dc cL_law 1120 (.iconst 4) 1 1121 := ⟨by decide +kernel, rfl⟩
theorem dL_law_1121 : dc cL_law 1121 (.ishr) 1 1122 := ⟨by decide +kernel, rfl⟩
theorem dL_law_1122 : dc cL_law 1122 (.bipush 15) 2 1124 := ⟨by decide +kernel, rfl⟩
theorem dL_law_1124 : dc cL_law 1124 (.iand) 1 1125 := ⟨by decide +kernel, rfl⟩
theorem dL_law_1125 : dc cL_law 1125 (.iconst 1) 1 1126 := ⟨by decide +kernel, rfl⟩
theorem dL_law_1126 : dc cL_law 1126 (.aload_n 3) 1 1127 := ⟨by decide +kernel, rfl⟩
theorem dL_law_1127 : dc cL_law 1127 (.iconst 2) 1 1128 := ⟨by decide +kernel, rfl⟩
theorem dL_law_1128 : dc cL_law 1128 (.iaload) 1 1129 := ⟨by decide +kernel, rfl⟩
theorem dL_law_1129 : dc cL_law 1129 (.ishl) 1 1130 := ⟨by decide +kernel, rfl⟩
theorem dL_law_1130 : dc cL_law 1130 (.iconst 1) 1 1131 := ⟨by decide +kernel, rfl⟩
theorem dL_law_1131 : dc cL_law 1131 (.isub) 1 1132 := ⟨by decide +kernel, rfl⟩
theorem dL_law_1132 : dc cL_law 1132 (.iand) 1 1133 := ⟨by decide +kernel, rfl⟩
theorem dL_law_1133 : dc cL_law 1133 (.iconst 1) 1 1134 := ⟨by decide +kernel, rfl⟩
theorem dL_law_1134 : dc cL_law 1134 (.iload 16) 2 1136 := ⟨by decide +kernel, rfl⟩
theorem dL_law_1136 : dc cL_law 1136 (.ishl) 1 1137 := ⟨by decide +kernel, rfl⟩
theorem dL_law_1137 : dc cL_law 1137 (.iconst (-1)) 1 1138 := ⟨by decide +kernel, rfl⟩
theorem dL_law_1138 : dc cL_law 1138 (.ixor) 1 1139 := ⟨by decide +kernel, rfl⟩
theorem dL_law_1139 : dc cL_law 1139 (.iand) 1 1140 := ⟨by decide +kernel, rfl⟩
theorem dL_law_1140 : dc cL_law 1140 (.istore 18) 2 1142 := ⟨by decide +kernel, rfl⟩
theorem dL_law_1142 : dc cL_law 1142 (.iload 6) 2 1144 := ⟨by decide +kernel, rfl⟩
theorem dL_law_1144 : dc cL_law 1144 (.iload 16) 2 1146 := ⟨by decide +kernel, rfl⟩
theorem dL_law_1146 : dc cL_law 1146 (.ishr) 1 1147 := ⟨by decide +kernel, rfl⟩
theorem dL_law_1147 : dc cL_law 1147 (.iconst 1) 1 1148 := ⟨by decide +kernel, rfl⟩
theorem dL_law_1148 : dc cL_law 1148 (.iand) 1 1149 := ⟨by decide +kernel, rfl⟩
theorem dL_law_1149 : dc cL_law 1149 (.ifCond .ne 22) 3 1152 := ⟨by decide +kernel, rfl⟩
theorem dL_law_1152 : dc cL_law 1152 (.iload 18) 2 1154 := ⟨by decide +kernel, rfl⟩
theorem dL_law_1154 : dc cL_law 1154 (.ifCond .le 17) 3 1157 := ⟨by decide +kernel, rfl⟩
theorem dL_law_1157 : dc cL_law 1157 (.aload_n 1) 1 1158 := ⟨by decide +kernel, rfl⟩
theorem dL_law_1158 : dc cL_law 1158 (.iload 16) 2 1160 := ⟨by decide +kernel, rfl⟩
theorem dL_law_1160 : dc cL_law 1160 (.iload 18) 2 1162 := ⟨by decide +kernel, rfl⟩
theorem dL_law_1162 : dc cL_law 1162 (.iload 17) 2 1164 := ⟨by decide +kernel, rfl⟩
theorem dL_law_1164 : dc cL_law 1164 (.invokevirtual 196) 3 1167 := ⟨by decide +kernel, rfl⟩
theorem dL_law_1167 : dc cL_law 1167 (.pop) 1 1168 := ⟨by decide +kernel, rfl⟩
theorem dL_law_1168 : dc cL_law 1168 (.goto 12) 3 1171 := ⟨by decide +kernel, rfl⟩
theorem dL_law_1171 : dc cL_law 1171 (.aload_n 1) 1 1172 := ⟨by decide +kernel, rfl⟩
theorem dL_law_1172 : dc cL_law 1172 (.iload 16) 2 1174 := ⟨by decide +kernel, rfl⟩
theorem dL_law_1174 : dc cL_law 1174 (.iload 17) 2 1176 := ⟨by decide +kernel, rfl⟩
theorem dL_law_1176 : dc cL_law 1176 (.invokevirtual 165) 3 1179 := ⟨by decide +kernel, rfl⟩
theorem dL_law_1179 : dc cL_law 1179 (.pop) 1 1180 := ⟨by decide +kernel, rfl⟩
theorem dL_law_1180 : dc cL_law 1180 (.iinc 16 1) 3 1183 := ⟨by decide +kernel, rfl⟩
theorem dL_law_1183 : dc cL_law 1183 (.goto (-88)) 3 1186 := ⟨by decide +kernel, rfl⟩
theorem dL_law_1186 : dc cL_law 1186 (.iload 6) 2 1188 := ⟨by decide +kernel, rfl⟩
theorem dL_law_1188 : dc cL_law 1188 (.bipush 6) 2 1190 := ⟨by decide +kernel, rfl⟩
theorem dL_law_1190 : dc cL_law 1190 (.ishr) 1 1191 := ⟨by decide +kernel, rfl⟩
theorem dL_law_1191 : dc cL_law 1191 (.iconst 3) 1 1192 := ⟨by decide +kernel, rfl⟩
theorem dL_law_1192 : dc cL_law 1192 (.iand) 1 1193 := ⟨by decide +kernel, rfl⟩
theorem dL_law_1193 : dc cL_law 1193 (.iconst 1) 1 1194 := ⟨by decide +kernel, rfl⟩
theorem dL_law_1194 : dc cL_law 1194 (.if_icmp .ne 22) 3 1197 := ⟨by decide +kernel, rfl⟩
theorem dL_law_1197 : dc cL_law 1197 (.aload_n 1) 1 1198 := ⟨by decide +kernel, rfl⟩
theorem dL_law_1198 : dc cL_law 1198 (.iload 6) 2 1200 := ⟨by decide +kernel, rfl⟩
theorem dL_law_1200 : dc cL_law 1200 (.iconst 5) 1 1201 := ⟨by decide +kernel, rfl⟩
theorem dL_law_1201 : dc cL_law 1201 (.ishr) 1 1202 := ⟨by decide +kernel, rfl⟩
theorem dL_law_1202 : dc cL_law 1202 (.iconst 1) 1 1203 := ⟨by decide +kernel, rfl⟩
theorem dL_law_1203 : dc cL_law 1203 (.iand) 1 1204 := ⟨by decide +kernel, rfl⟩
theorem dL_law_1204 : dc cL_law 1204 (.ifCond .ne 7) 3 1207 := ⟨by decide +kernel, rfl⟩
theorem dL_law_1207 : dc cL_law 1207 (.iconst 1) 1 1208 := ⟨by decide +kernel, rfl⟩
theorem dL_law_1208 : dc cL_law 1208 (.goto 4) 3 1211 := ⟨by decide +kernel, rfl⟩
theorem dL_law_1211 : dc cL_law 1211 (.iconst 0) 1 1212 := ⟨by decide +kernel, rfl⟩
theorem dL_law_1212 : dc cL_law 1212 (.invokevirtual 199) 3 1215 := ⟨by decide +kernel, rfl⟩
theorem dL_law_1215 : dc cL_law 1215 (.pop) 1 1216 := ⟨by decide +kernel, rfl⟩
theorem dL_law_1216 : dc cL_law 1216 (.iinc 5 1) 3 1219 := ⟨by decide +kernel, rfl⟩
theorem dL_law_1219 : dc cL_law 1219 (.goto (-1165)) 3 1222 := ⟨by decide +kernel, rfl⟩
theorem dL_law_1222 : dc cL_law 1222 (.iconst 1) 1 1223 := ⟨by decide +kernel, rfl⟩
theorem dL_law_1223 : dc cL_law 1223 (.ireturn) 1 1224 := ⟨by decide +kernel, rfl⟩
set_option maxRecDepth 100000 in
set_option maxHeartbeats 4000000 in
theorem s_L_law_336 {ad : Nat → Nat} {cy : Nat → ClassId} {x : KX} (G : KG ad cy x cL_law "NoonGuidesLaw" 21 none 12) (Ln : Nat) (xs : Nat → Int32) {a1 : Nat} {a3 : Nat} {c4 : Int32} {c5 : Int32} {c6 : Int32} {c7 : Int32} {c8 : Int32} {c9 : Int32} {c10 : Int32} {c11 : Int32} {c12 : Int32} {b : Nat} {aK aV : Nat → Nat} (GW : KWx b Ln xs aK aV x) (GL : KLw x b) (h1 : kty a1 = 11) (h3 : kty a3 = 35) {k371 : KM → Option Int32} {o : KO} (hk371 : ∀ (M : KM), k371 M = some 1 → KV ad cy x o 371 [(0, .ref b), (1, .ref (ad a1)), (3, .ref (ad a3)), (4, .int c4), (5, .int c5), (6, .int c6), (7, .int c7), (8, .int c8), (9, .int c9), (10, .int c10), (11, .int c11), (12, .int c12)] [] M) : ∀ (n : Nat) (w15 : Int32) (M : KM), lp_L_law_336 n Ln xs a1 a3 c4 c5 c6 c7 c8 c9 c10 c11 c12 w15 M k371 = some 1 → KV ad cy x o 336 [(0, .ref b), (1, .ref (ad a1)), (3, .ref (ad a3)), (4, .int c4), (5, .int c5), (6, .int c6), (7, .int c7), (8, .int c8), (9, .int c9), (10, .int c10), (11, .int c11), (12, .int c12), (15, .int w15)] [] M := by
  intro n
  induction n with
  | zero =>
    intro w15 M hf
    cases hf
  | succ n ih =>
    intro w15 M hf
    rw [lp_L_law_336] at hf
    refine v_iload G dL_law_336 12 rfl ?_
    refine v_iload G dL_law_338 10 rfl ?_
    refine v_icmp_ge 371 G dL_law_340 (by decide) (fun h26 => ?_) (fun h26 => ?_)
    · replace hf := (if_pos h26).symm.trans hf
      refine v_sub _ [0, 1, 2, 3, 4, 5, 6, 7, 8, 9, 10, 11] rfl ?_
      exact hk371 M hf
    · replace hf := (if_neg h26).symm.trans hf
      refine v_aload_n G dL_law_343 1 rfl ?_
      refine v_iload G dL_law_344 10 rfl ?_
      refine v_iload G dL_law_346 12 rfl ?_
      obtain ⟨v22, hcv22, hf⟩ := bd_e hf
      refine v_callV [.int c11, .int w15] G (c_X11_owes n h1 hcv22) h1 (by decide) rfl rfl rfl t_594 t_595 t_596 t_1 t_597 nm_X11_owes (by decide) (by decide) rfl rfl (Nat.le_of_ble_eq_true rfl) dL_law_348 (kv_ri ?_)
      refine v_aload_n G dL_law_351 1 rfl ?_
      refine v_iload G dL_law_352 12 rfl ?_
      refine v_iload G dL_law_354 10 rfl ?_
      obtain ⟨v23, hcv23, hf⟩ := bd_e hf
      refine v_callV [.int w15, .int c11] G (c_X11_owes n h1 hcv23) h1 (by decide) rfl rfl rfl t_594 t_595 t_596 t_1 t_597 nm_X11_owes (by decide) (by decide) rfl rfl (Nat.le_of_ble_eq_true rfl) dL_law_356 (kv_ri ?_)
      refine v_iadd G dL_law_359 ?_
      refine v_if_eq 365 G dL_law_360 (by decide) (fun h25 => ?_) (fun h25 => ?_)
      · replace hf := (if_pos h25).symm.trans hf
        obtain ⟨v24, ev24⟩ : ∃ q : Int32, q = w15 + (1 : Int32) := ⟨_, rfl⟩
        replace hf := lt_e hf ev24
        refine v_iinc v24 [(15, .int v24), (0, .ref b), (1, .ref (ad a1)), (3, .ref (ad a3)), (4, .int c4), (5, .int c5), (6, .int c6), (7, .int c7), (8, .int c8), (9, .int c9), (10, .int c10), (11, .int c11), (12, .int c12)] G dL_law_365 12 rfl (by rw [ev24]; rfl) (by decide) rfl ?_
        refine v_goto 336 G dL_law_368 (by decide) ?_
        refine v_sub _ [1, 2, 3, 4, 5, 6, 7, 8, 9, 10, 11, 12, 0] rfl ?_
        exact ih v24 v23.2 hf
      · replace hf := (if_neg h25).symm.trans hf
        refine v_iconst (0 : Int32) G dL_law_363 (by decide) ?_
        exact absurd (Option.some.inj hf) (by decide)
set_option maxRecDepth 100000 in
set_option maxHeartbeats 4000000 in
theorem s_L_law_661 {ad : Nat → Nat} {cy : Nat → ClassId} {x : KX} (G : KG ad cy x cL_law "NoonGuidesLaw" 21 none 12) (Ln : Nat) (xs : Nat → Int32) {a1 : Nat} {a3 : Nat} {c4 : Int32} {c5 : Int32} {c6 : Int32} {c7 : Int32} {c8 : Int32} {c9 : Int32} {c10 : Int32} {c11 : Int32} {c15 : Int32} {c16 : Int32} {c17 : Int32} {b : Nat} {aK aV : Nat → Nat} (GW : KWx b Ln xs aK aV x) (GL : KLw x b) (h1 : kty a1 = 11) (h3 : kty a3 = 35) {k759 : Int32 → KM → Option Int32} {o : KO} (hk759 : ∀ (u19 : Int32) (M : KM), k759 u19 M = some 1 → KV ad cy x o 759 [(0, .ref b), (1, .ref (ad a1)), (3, .ref (ad a3)), (4, .int c4), (5, .int c5), (6, .int c6), (7, .int c7), (8, .int c8), (9, .int c9), (10, .int c10), (11, .int c11), (15, .int c15), (16, .int c16), (17, .int c17), (19, .int u19)] [] M) : ∀ (n : Nat) (w19 : Int32) (M : KM), lp_L_law_661 n Ln xs a1 a3 c4 c5 c6 c7 c8 c9 c10 c11 c15 c16 c17 w19 M k759 = some 1 → KV ad cy x o 661 [(0, .ref b), (1, .ref (ad a1)), (3, .ref (ad a3)), (4, .int c4), (5, .int c5), (6, .int c6), (7, .int c7), (8, .int c8), (9, .int c9), (10, .int c10), (11, .int c11), (15, .int c15), (16, .int c16), (17, .int c17), (19, .int w19)] [] M := by
  intro n
  induction n with
  | zero =>
    intro w19 M hf
    cases hf
  | succ n ih =>
    intro w19 M hf
    rw [lp_L_law_661] at hf
    refine v_iload G dL_law_661 14 rfl ?_
    refine v_iload G dL_law_663 13 rfl ?_
    refine v_icmp_gt 759 G dL_law_665 (by decide) (fun h59 => ?_) (fun h59 => ?_)
    · replace hf := (if_pos h59).symm.trans hf
      refine v_sub _ [0, 1, 2, 3, 4, 5, 6, 7, 8, 9, 10, 11, 12, 13, 14] rfl ?_
      exact hk759 w19 M hf
    · replace hf := (if_neg h59).symm.trans hf
      refine v_aload_n G dL_law_668 1 rfl ?_
      refine v_iload G dL_law_669 10 rfl ?_
      refine v_iconst (0 : Int32) G dL_law_671 (by decide) ?_
      obtain ⟨v43, hcv43, hf⟩ := bd_e hf
      refine v_callV [.int c11, .int (0 : Int32)] G (c_X11_person n h1 hcv43) h1 (by decide) rfl rfl rfl t_581 t_582 t_583 t_1 t_584 nm_X11_person (by decide) (by decide) rfl rfl (Nat.le_of_ble_eq_true rfl) dL_law_672 (kv_ri ?_)
      refine v_iload G dL_law_675 12 rfl ?_
      refine v_icmp_eq 759 G dL_law_677 (by decide) (fun h58 => ?_) (fun h58 => ?_)
      · replace hf := (if_pos h58).symm.trans hf
        refine v_sub _ [0, 1, 2, 3, 4, 5, 6, 7, 8, 9, 10, 11, 12, 13, 14] rfl ?_
        exact hk759 w19 v43.2 hf
      · replace hf := (if_neg h58).symm.trans hf
        refine v_aload_n G dL_law_680 1 rfl ?_
        refine v_iload G dL_law_681 10 rfl ?_
        refine v_iconst (0 : Int32) G dL_law_683 (by decide) ?_
        obtain ⟨v44, hcv44, hf⟩ := bd_e hf
        refine v_callV [.int c11, .int (0 : Int32)] G (c_X11_person n h1 hcv44) h1 (by decide) rfl rfl rfl t_581 t_582 t_583 t_1 t_584 nm_X11_person (by decide) (by decide) rfl rfl (Nat.le_of_ble_eq_true rfl) dL_law_684 (kv_ri ?_)
        obtain ⟨j743, ej743, hf⟩ := lt_j hf
        have hj743 : ∀ (M45 : KM), j743 M45 = some 1 → KV ad cy x o 743 [(0, .ref b), (1, .ref (ad a1)), (3, .ref (ad a3)), (4, .int c4), (5, .int c5), (6, .int c6), (7, .int c7), (8, .int c8), (9, .int c9), (10, .int c10), (11, .int c11), (15, .int c15), (16, .int c16), (17, .int c17), (19, .int w19)] [] M45 := by
          intro M45 hf
          rw [ej743] at hf
          refine v_aload_n G dL_law_743 1 rfl ?_
          refine v_iconst (1 : Int32) G dL_law_744 (by decide) ?_
          obtain ⟨v46, hcv46, hf⟩ := bd_e hf
          refine v_callV [.int (1 : Int32)] G (c_X11_passes n h1 hcv46) h1 (by decide) rfl rfl rfl t_610 t_611 t_612 t_1 t_613 nm_X11_passes (by decide) (by decide) rfl rfl (Nat.le_of_ble_eq_true rfl) dL_law_745 (kv_ri ?_)
          refine v_if_ge 753 G dL_law_748 (by decide) (fun h48 => ?_) (fun h48 => ?_)
          · replace hf := (if_pos h48).symm.trans hf
            obtain ⟨v47, ev47⟩ : ∃ q : Int32, q = w19 + (1 : Int32) := ⟨_, rfl⟩
            replace hf := lt_e hf ev47
            refine v_iinc v47 [(19, .int v47), (0, .ref b), (1, .ref (ad a1)), (3, .ref (ad a3)), (4, .int c4), (5, .int c5), (6, .int c6), (7, .int c7), (8, .int c8), (9, .int c9), (10, .int c10), (11, .int c11), (15, .int c15), (16, .int c16), (17, .int c17)] G dL_law_753 14 rfl (by rw [ev47]; rfl) (by decide) rfl ?_
            refine v_goto 661 G dL_law_756 (by decide) ?_
            refine v_sub _ [1, 2, 3, 4, 5, 6, 7, 8, 9, 10, 11, 12, 13, 14, 0] rfl ?_
            exact ih v47 v46.2 hf
          · replace hf := (if_neg h48).symm.trans hf
            refine v_iconst (0 : Int32) G dL_law_751 (by decide) ?_
            exact absurd (Option.some.inj hf) (by decide)
        refine v_if_lt 743 G dL_law_687 (by decide) (fun h57 => ?_) (fun h57 => ?_)
        · replace hf := (if_pos h57).symm.trans hf
          refine v_sub _ [0, 1, 2, 3, 4, 5, 6, 7, 8, 9, 10, 11, 12, 13, 14] rfl ?_
          exact hj743 v44.2 hf
        · replace hf := (if_neg h57).symm.trans hf
          refine v_aload_n G dL_law_690 1 rfl ?_
          refine v_iload G dL_law_691 10 rfl ?_
          refine v_iload G dL_law_693 12 rfl ?_
          obtain ⟨v49, hcv49, hf⟩ := bd_e hf
          refine v_callV [.int c11, .int c16] G (c_X11_soonestFirst n h1 hcv49) h1 (by decide) rfl rfl rfl t_801 t_802 t_803 t_1 t_804 nm_X11_soonestFirst (by decide) (by decide) rfl rfl (Nat.le_of_ble_eq_true rfl) dL_law_695 (kv_ri ?_)
          refine v_istore [(20, .int v49.1), (0, .ref b), (1, .ref (ad a1)), (3, .ref (ad a3)), (4, .int c4), (5, .int c5), (6, .int c6), (7, .int c7), (8, .int c8), (9, .int c9), (10, .int c10), (11, .int c11), (15, .int c15), (16, .int c16), (17, .int c17), (19, .int w19)] G dL_law_698 (by decide) rfl ?_
          refine v_iload G dL_law_700 0 rfl ?_
          refine v_if_ge 707 G dL_law_702 (by decide) (fun h56 => ?_) (fun h56 => ?_)
          · replace hf := (if_pos h56).symm.trans hf
            refine v_aload_n G dL_law_707 2 rfl ?_
            refine v_iload G dL_law_708 11 rfl ?_
            refine v_aload_n G dL_law_710 2 rfl ?_
            refine v_aload_n G dL_law_711 2 rfl ?_
            refine v_iload G dL_law_712 11 rfl ?_
            refine v_iconst (0 : Int32) G dL_law_714 (by decide) ?_
            obtain ⟨v50, hcv50, hf⟩ := bd_e hf
            refine v_callV [.int c11, .int (0 : Int32)] G (c_X11_person n h1 hcv50) h1 (by decide) rfl rfl rfl t_581 t_582 t_583 t_1 t_584 nm_X11_person (by decide) (by decide) rfl rfl (Nat.le_of_ble_eq_true rfl) dL_law_715 (kv_ri ?_)
            refine v_iload G dL_law_718 0 rfl ?_
            obtain ⟨v51, hcv51, hf⟩ := bd_e hf
            refine v_callV [.int v50.1, .int v49.1] G (c_X11_roadOf n h1 hcv51) h1 (by decide) rfl rfl rfl t_561 t_562 t_563 t_1 t_564 nm_X11_roadOf (by decide) (by decide) rfl rfl (Nat.le_of_ble_eq_true rfl) dL_law_720 (kv_ri ?_)
            obtain ⟨v52, hcv52, hf⟩ := bd_e hf
            refine v_callV [.int c11, .int v51.1] G (c_X11_can n h1 hcv52) h1 (by decide) rfl rfl rfl t_733 t_734 t_735 t_1 t_736 nm_X11_can (by decide) (by decide) rfl rfl (Nat.le_of_ble_eq_true rfl) dL_law_723 (kv_ri ?_)
            refine v_iconst (1 : Int32) G dL_law_726 (by decide) ?_
            refine v_icmp_ne 743 G dL_law_727 (by decide) (fun h55 => ?_) (fun h55 => ?_)
            · replace hf := (if_neg h55).symm.trans hf
              refine v_sub _ [1, 2, 3, 4, 5, 6, 7, 8, 9, 10, 11, 12, 13, 14, 15] rfl ?_
              exact hj743 v52.2 hf
            · replace hf := (if_pos h55).symm.trans hf
              refine v_aload_n G dL_law_730 2 rfl ?_
              refine v_iload G dL_law_731 11 rfl ?_
              refine v_iload G dL_law_733 0 rfl ?_
              obtain ⟨v53, hcv53, hf⟩ := bd_e hf
              refine v_callV [.int c11, .int v49.1] G (c_X11_go n h1 hcv53) h1 (by decide) rfl rfl rfl t_676 t_677 t_678 t_1 t_679 nm_X11_go (by decide) (by decide) rfl rfl (Nat.le_of_ble_eq_true rfl) dL_law_735 (kv_ri ?_)
              refine v_if_ge 743 G dL_law_738 (by decide) (fun h54 => ?_) (fun h54 => ?_)
              · replace hf := (if_pos h54).symm.trans hf
                refine v_sub _ [1, 2, 3, 4, 5, 6, 7, 8, 9, 10, 11, 12, 13, 14, 15] rfl ?_
                exact hj743 v53.2 hf
              · replace hf := (if_neg h54).symm.trans hf
                refine v_iconst (0 : Int32) G dL_law_741 (by decide) ?_
                exact absurd (Option.some.inj hf) (by decide)
          · replace hf := (if_neg h56).symm.trans hf
            refine v_iconst (0 : Int32) G dL_law_705 (by decide) ?_
            exact absurd (Option.some.inj hf) (by decide)
set_option maxRecDepth 100000 in
set_option maxHeartbeats 4000000 in
theorem s_L_law_557 {ad : Nat → Nat} {cy : Nat → ClassId} {x : KX} (G : KG ad cy x cL_law "NoonGuidesLaw" 21 none 12) (Ln : Nat) (xs : Nat → Int32) {a1 : Nat} {a3 : Nat} {c4 : Int32} {c5 : Int32} {c6 : Int32} {c7 : Int32} {c8 : Int32} {c9 : Int32} {c10 : Int32} {c11 : Int32} {c15 : Int32} {c16 : Int32} {c17 : Int32} {c18 : Int32} {c19 : Int32} {b : Nat} {aK aV : Nat → Nat} (GW : KWx b Ln xs aK aV x) (GL : KLw x b) (h1 : kty a1 = 11) (h3 : kty a3 = 35) {k601 : KM → Option Int32} {o : KO} (hk601 : ∀ (M : KM), k601 M = some 1 → KV ad cy x o 601 [(0, .ref b), (1, .ref (ad a1)), (3, .ref (ad a3)), (4, .int c4), (5, .int c5), (6, .int c6), (7, .int c7), (8, .int c8), (9, .int c9), (10, .int c10), (11, .int c11), (15, .int c15), (16, .int c16), (17, .int c17), (18, .int c18), (19, .int c19)] [] M) : ∀ (n : Nat) (w20 : Int32) (M : KM), lp_L_law_557 n Ln xs a1 a3 c4 c5 c6 c7 c8 c9 c10 c11 c15 c16 c17 c18 c19 w20 M k601 = some 1 → KV ad cy x o 557 [(0, .ref b), (1, .ref (ad a1)), (3, .ref (ad a3)), (4, .int c4), (5, .int c5), (6, .int c6), (7, .int c7), (8, .int c8), (9, .int c9), (10, .int c10), (11, .int c11), (15, .int c15), (16, .int c16), (17, .int c17), (18, .int c18), (19, .int c19), (20, .int w20)] [] M := by
  intro n
  induction n with
  | zero =>
    intro w20 M hf
    cases hf
  | succ n ih =>
    intro w20 M hf
    rw [lp_L_law_557] at hf
    refine v_iload G dL_law_557 16 rfl ?_
    refine v_aload_n G dL_law_559 2 rfl ?_
    refine v_iconst (1 : Int32) G dL_law_560 (by decide) ?_
    obtain ⟨g71, hf⟩ := gd_e hf
    refine al_35 G h3 g71 dL_law_561 ?_
    refine v_icmp_ge 601 G dL_law_562 (by decide) (fun h78 => ?_) (fun h78 => ?_)
    · replace hf := (if_pos h78).symm.trans hf
      refine v_sub _ [0, 1, 2, 3, 4, 5, 6, 7, 8, 9, 10, 11, 12, 13, 14, 15] rfl ?_
      exact hk601 M hf
    · replace hf := (if_neg h78).symm.trans hf
      refine v_iload G dL_law_565 14 rfl ?_
      refine v_iload G dL_law_567 16 rfl ?_
      refine v_ishr G dL_law_569 ?_
      refine v_iconst (1 : Int32) G dL_law_570 (by decide) ?_
      refine v_iand G dL_law_571 ?_
      refine v_iconst (1 : Int32) G dL_law_572 (by decide) ?_
      obtain ⟨j595, ej595, hf⟩ := lt_j hf
      have hj595 : ∀ (M72 : KM), j595 M72 = some 1 → KV ad cy x o 595 [(0, .ref b), (1, .ref (ad a1)), (3, .ref (ad a3)), (4, .int c4), (5, .int c5), (6, .int c6), (7, .int c7), (8, .int c8), (9, .int c9), (10, .int c10), (11, .int c11), (15, .int c15), (16, .int c16), (17, .int c17), (18, .int c18), (19, .int c19), (20, .int w20)] [] M72 := by
        intro M72 hf
        rw [ej595] at hf
        obtain ⟨v73, ev73⟩ : ∃ q : Int32, q = w20 + (1 : Int32) := ⟨_, rfl⟩
        replace hf := lt_e hf ev73
        refine v_iinc v73 [(20, .int v73), (0, .ref b), (1, .ref (ad a1)), (3, .ref (ad a3)), (4, .int c4), (5, .int c5), (6, .int c6), (7, .int c7), (8, .int c8), (9, .int c9), (10, .int c10), (11, .int c11), (15, .int c15), (16, .int c16), (17, .int c17), (18, .int c18), (19, .int c19)] G dL_law_595 16 rfl (by rw [ev73]; rfl) (by decide) rfl ?_
        refine v_goto 557 G dL_law_598 (by decide) ?_
        refine v_sub _ [1, 2, 3, 4, 5, 6, 7, 8, 9, 10, 11, 12, 13, 14, 15, 16, 0] rfl ?_
        exact ih v73 M72 hf
      refine v_icmp_ne 595 G dL_law_573 (by decide) (fun h77 => ?_) (fun h77 => ?_)
      · replace hf := (if_neg h77).symm.trans hf
        refine v_sub _ [0, 1, 2, 3, 4, 5, 6, 7, 8, 9, 10, 11, 12, 13, 14, 15, 16] rfl ?_
        exact hj595 M hf
      · replace hf := (if_pos h77).symm.trans hf
        refine v_iload G dL_law_576 16 rfl ?_
        refine v_iload G dL_law_578 15 rfl ?_
        refine v_icmp_eq 595 G dL_law_580 (by decide) (fun h76 => ?_) (fun h76 => ?_)
        · replace hf := (if_pos h76).symm.trans hf
          refine v_sub _ [0, 1, 2, 3, 4, 5, 6, 7, 8, 9, 10, 11, 12, 13, 14, 15, 16] rfl ?_
          exact hj595 M hf
        · replace hf := (if_neg h76).symm.trans hf
          refine v_aload_n G dL_law_583 1 rfl ?_
          refine v_iload G dL_law_584 16 rfl ?_
          refine v_iconst (1 : Int32) G dL_law_586 (by decide) ?_
          obtain ⟨v74, hcv74, hf⟩ := bd_e hf
          refine v_callV [.int w20, .int (1 : Int32)] G (c_X11_plant n h1 hcv74) h1 (by decide) rfl rfl rfl t_728 t_729 t_730 t_1 t_731 nm_X11_plant (by decide) (by decide) rfl rfl (Nat.le_of_ble_eq_true rfl) dL_law_587 (kv_ri ?_)
          refine v_if_ne 595 G dL_law_590 (by decide) (fun h75 => ?_) (fun h75 => ?_)
          · replace hf := (if_neg h75).symm.trans hf
            refine v_sub _ [0, 1, 2, 3, 4, 5, 6, 7, 8, 9, 10, 11, 12, 13, 14, 15, 16] rfl ?_
            exact hj595 v74.2 hf
          · replace hf := (if_pos h75).symm.trans hf
            refine v_iconst (0 : Int32) G dL_law_593 (by decide) ?_
            exact absurd (Option.some.inj hf) (by decide)
set_option maxRecDepth 100000 in
set_option maxHeartbeats 4000000 in
theorem s_L_law_518 {ad : Nat → Nat} {cy : Nat → ClassId} {x : KX} (G : KG ad cy x cL_law "NoonGuidesLaw" 21 none 12) (Ln : Nat) (xs : Nat → Int32) {a1 : Nat} {a3 : Nat} {c4 : Int32} {c5 : Int32} {c6 : Int32} {c7 : Int32} {c8 : Int32} {c9 : Int32} {c10 : Int32} {c11 : Int32} {c15 : Int32} {c16 : Int32} {c17 : Int32} {c18 : Int32} {b : Nat} {aK aV : Nat → Nat} (GW : KWx b Ln xs aK aV x) (GL : KLw x b) (h1 : kty a1 = 11) (h3 : kty a3 = 35) {k640 : KM → Option Int32} {o : KO} (hk640 : ∀ (M : KM), k640 M = some 1 → KV ad cy x o 640 [(0, .ref b), (1, .ref (ad a1)), (3, .ref (ad a3)), (4, .int c4), (5, .int c5), (6, .int c6), (7, .int c7), (8, .int c8), (9, .int c9), (10, .int c10), (11, .int c11), (15, .int c15), (16, .int c16), (17, .int c17)] [] M) : ∀ (n : Nat) (w19 : Int32) (M : KM), lp_L_law_518 n Ln xs a1 a3 c4 c5 c6 c7 c8 c9 c10 c11 c15 c16 c17 c18 w19 M k640 = some 1 → KV ad cy x o 518 [(0, .ref b), (1, .ref (ad a1)), (3, .ref (ad a3)), (4, .int c4), (5, .int c5), (6, .int c6), (7, .int c7), (8, .int c8), (9, .int c9), (10, .int c10), (11, .int c11), (15, .int c15), (16, .int c16), (17, .int c17), (18, .int c18), (19, .int w19)] [] M := by
  intro n
  induction n with
  | zero =>
    intro w19 M hf
    cases hf
  | succ n ih =>
    intro w19 M hf
    rw [lp_L_law_518] at hf
    refine v_iload G dL_law_518 15 rfl ?_
    refine v_aload_n G dL_law_520 2 rfl ?_
    refine v_iconst (1 : Int32) G dL_law_521 (by decide) ?_
    obtain ⟨g67, hf⟩ := gd_e hf
    refine al_35 G h3 g67 dL_law_522 ?_
    refine v_icmp_ge 640 G dL_law_523 (by decide) (fun h89 => ?_) (fun h89 => ?_)
    · replace hf := (if_pos h89).symm.trans hf
      refine v_sub _ [0, 1, 2, 3, 4, 5, 6, 7, 8, 9, 10, 11, 12, 13] rfl ?_
      exact hk640 M hf
    · replace hf := (if_neg h89).symm.trans hf
      refine v_iload G dL_law_526 15 rfl ?_
      obtain ⟨j634, ej634, hf⟩ := lt_j hf
      have hj634 : ∀ (M68 : KM), j634 M68 = some 1 → KV ad cy x o 634 [(0, .ref b), (1, .ref (ad a1)), (3, .ref (ad a3)), (4, .int c4), (5, .int c5), (6, .int c6), (7, .int c7), (8, .int c8), (9, .int c9), (10, .int c10), (11, .int c11), (15, .int c15), (16, .int c16), (17, .int c17), (18, .int c18), (19, .int w19)] [] M68 := by
        intro M68 hf
        rw [ej634] at hf
        obtain ⟨v69, ev69⟩ : ∃ q : Int32, q = w19 + (1 : Int32) := ⟨_, rfl⟩
        replace hf := lt_e hf ev69
        refine v_iinc v69 [(19, .int v69), (0, .ref b), (1, .ref (ad a1)), (3, .ref (ad a3)), (4, .int c4), (5, .int c5), (6, .int c6), (7, .int c7), (8, .int c8), (9, .int c9), (10, .int c10), (11, .int c11), (15, .int c15), (16, .int c16), (17, .int c17), (18, .int c18)] G dL_law_634 15 rfl (by rw [ev69]; rfl) (by decide) rfl ?_
        refine v_goto 518 G dL_law_637 (by decide) ?_
        refine v_sub _ [1, 2, 3, 4, 5, 6, 7, 8, 9, 10, 11, 12, 13, 14, 15, 0] rfl ?_
        exact ih v69 M68 hf
      obtain ⟨j544, ej544, hf⟩ := lt_j hf
      have hj544 : j544 = some 1 → KV ad cy x o 544 [(0, .ref b), (1, .ref (ad a1)), (3, .ref (ad a3)), (4, .int c4), (5, .int c5), (6, .int c6), (7, .int c7), (8, .int c8), (9, .int c9), (10, .int c10), (11, .int c11), (15, .int c15), (16, .int c16), (17, .int c17), (18, .int c18), (19, .int w19)] [] M := by
        intro hf
        rw [ej544] at hf
        refine v_aload_n G dL_law_544 1 rfl ?_
        obtain ⟨v70, hcv70, hf⟩ := bd_e hf
        refine v_callV [] G (c_X11_mark n h1 hcv70) h1 (by decide) rfl rfl rfl t_909 t_910 t_911 t_1 t_912 nm_X11_mark (by decide) (by decide) rfl rfl (Nat.le_of_ble_eq_true rfl) dL_law_545 (kv_ri ?_)
        refine v_iconst (1 : Int32) G dL_law_548 (by decide) ?_
        refine v_icmp_eq 554 G dL_law_549 (by decide) (fun h86 => ?_) (fun h86 => ?_)
        · replace hf := (if_pos h86).symm.trans hf
          refine v_iconst (0 : Int32) G dL_law_554 (by decide) ?_
          refine v_istore [(20, .int (0 : Int32)), (0, .ref b), (1, .ref (ad a1)), (3, .ref (ad a3)), (4, .int c4), (5, .int c5), (6, .int c6), (7, .int c7), (8, .int c8), (9, .int c9), (10, .int c10), (11, .int c11), (15, .int c15), (16, .int c16), (17, .int c17), (18, .int c18), (19, .int w19)] G dL_law_555 (by decide) rfl ?_
          refine v_sub _ [1, 2, 3, 4, 5, 6, 7, 8, 9, 10, 11, 12, 13, 14, 15, 16, 0] rfl ?_
          refine s_L_law_557 G Ln xs GW GL h1 h3 (fun M79 hf => ?_) n (0 : Int32) v70.2 hf
          · refine v_aload_n G dL_law_601 1 rfl ?_
            refine v_iload G dL_law_602 10 rfl ?_
            obtain ⟨v80, hcv80, hf⟩ := bd_e hf
            refine v_callV [.int c11] G (c_X11_reach n h1 hcv80) h1 (by decide) rfl rfl rfl t_750 t_751 t_752 t_1 t_753 nm_X11_reach (by decide) (by decide) rfl rfl (Nat.le_of_ble_eq_true rfl) dL_law_604 (kv_ri ?_)
            refine v_iload G dL_law_607 12 rfl ?_
            refine v_ishr G dL_law_609 ?_
            refine v_iconst (1 : Int32) G dL_law_610 (by decide) ?_
            refine v_iand G dL_law_611 ?_
            refine v_iload G dL_law_612 15 rfl ?_
            obtain ⟨j622, ej622, hf⟩ := lt_j hf
            have hj622 : ∀ (x81 : Int32), j622 x81 = some 1 → KV ad cy x o 622 [(0, .ref b), (1, .ref (ad a1)), (3, .ref (ad a3)), (4, .int c4), (5, .int c5), (6, .int c6), (7, .int c7), (8, .int c8), (9, .int c9), (10, .int c10), (11, .int c11), (15, .int c15), (16, .int c16), (17, .int c17), (18, .int c18), (19, .int w19)] [.int x81, .int ((v80.1 >>> (c16 &&& 31)) &&& (1 : Int32))] v80.2 := by
              intro x81 hf
              rw [ej622] at hf
              refine v_icmp_ne 632 G dL_law_622 (by decide) (fun h84 => ?_) (fun h84 => ?_)
              · replace hf := (if_neg h84).symm.trans hf
                refine v_iconst (0 : Int32) G dL_law_632 (by decide) ?_
                exact absurd (Option.some.inj hf) (by decide)
              · replace hf := (if_pos h84).symm.trans hf
                refine v_aload_n G dL_law_625 1 rfl ?_
                obtain ⟨v82, hcv82, hf⟩ := bd_e hf
                refine v_callV [] G (c_X11_back n h1 hcv82) h1 (by decide) rfl rfl rfl t_929 t_930 t_931 t_1 t_932 nm_X11_back (by decide) (by decide) rfl rfl (Nat.le_of_ble_eq_true rfl) dL_law_626 (kv_ri ?_)
                refine v_if_eq 634 G dL_law_629 (by decide) (fun h83 => ?_) (fun h83 => ?_)
                · replace hf := (if_pos h83).symm.trans hf
                  refine v_sub _ [0, 1, 2, 3, 4, 5, 6, 7, 8, 9, 10, 11, 12, 13, 14, 15] rfl ?_
                  exact hj634 v82.2 hf
                · replace hf := (if_neg h83).symm.trans hf
                  refine v_iconst (0 : Int32) G dL_law_632 (by decide) ?_
                  exact absurd (Option.some.inj hf) (by decide)
            refine v_if_ge 621 G dL_law_614 (by decide) (fun h85 => ?_) (fun h85 => ?_)
            · replace hf := (if_pos h85).symm.trans hf
              refine v_iconst (0 : Int32) G dL_law_621 (by decide) ?_
              refine v_sub _ [0, 1, 2, 3, 4, 5, 6, 7, 8, 9, 10, 11, 12, 13, 14, 15] rfl ?_
              exact hj622 (0 : Int32) hf
            · replace hf := (if_neg h85).symm.trans hf
              refine v_iconst (1 : Int32) G dL_law_617 (by decide) ?_
              refine v_goto 622 G dL_law_618 (by decide) ?_
              refine v_sub _ [0, 1, 2, 3, 4, 5, 6, 7, 8, 9, 10, 11, 12, 13, 14, 15] rfl ?_
              exact hj622 (1 : Int32) hf
        · replace hf := (if_neg h86).symm.trans hf
          refine v_iconst (0 : Int32) G dL_law_552 (by decide) ?_
          exact absurd (Option.some.inj hf) (by decide)
      refine v_if_lt 544 G dL_law_528 (by decide) (fun h88 => ?_) (fun h88 => ?_)
      · replace hf := (if_pos h88).symm.trans hf
        refine v_sub _ [0, 1, 2, 3, 4, 5, 6, 7, 8, 9, 10, 11, 12, 13, 14, 15] rfl ?_
        exact hj544 hf
      · replace hf := (if_neg h88).symm.trans hf
        refine v_iload G dL_law_531 14 rfl ?_
        refine v_iload G dL_law_533 15 rfl ?_
        refine v_ishr G dL_law_535 ?_
        refine v_iconst (1 : Int32) G dL_law_536 (by decide) ?_
        refine v_iand G dL_law_537 ?_
        refine v_if_ne 544 G dL_law_538 (by decide) (fun h87 => ?_) (fun h87 => ?_)
        · replace hf := (if_neg h87).symm.trans hf
          refine v_sub _ [0, 1, 2, 3, 4, 5, 6, 7, 8, 9, 10, 11, 12, 13, 14, 15] rfl ?_
          exact hj544 hf
        · replace hf := (if_pos h87).symm.trans hf
          refine v_goto 634 G dL_law_541 (by decide) ?_
          refine v_sub _ [0, 1, 2, 3, 4, 5, 6, 7, 8, 9, 10, 11, 12, 13, 14, 15] rfl ?_
          exact hj634 M hf
set_option maxRecDepth 100000 in
set_option maxHeartbeats 4000000 in
theorem s_L_law_414 {ad : Nat → Nat} {cy : Nat → ClassId} {x : KX} (G : KG ad cy x cL_law "NoonGuidesLaw" 21 none 12) (Ln : Nat) (xs : Nat → Int32) {a1 : Nat} {a3 : Nat} {c4 : Int32} {c5 : Int32} {c6 : Int32} {c7 : Int32} {c8 : Int32} {c9 : Int32} {c10 : Int32} {c11 : Int32} {c15 : Int32} {b : Nat} {aK aV : Nat → Nat} (GW : KWx b Ln xs aK aV x) (GL : KLw x b) (h1 : kty a1 = 11) (h3 : kty a3 = 35) {k781 : KM → Option Int32} {o : KO} (hk781 : ∀ (M : KM), k781 M = some 1 → KV ad cy x o 781 [(0, .ref b), (1, .ref (ad a1)), (3, .ref (ad a3)), (4, .int c4), (5, .int c5), (6, .int c6), (7, .int c7), (8, .int c8), (9, .int c9), (10, .int c10), (11, .int c11)] [] M) : ∀ (n : Nat) (w16 : Int32) (M : KM), lp_L_law_414 n Ln xs a1 a3 c4 c5 c6 c7 c8 c9 c10 c11 c15 w16 M k781 = some 1 → KV ad cy x o 414 [(0, .ref b), (1, .ref (ad a1)), (3, .ref (ad a3)), (4, .int c4), (5, .int c5), (6, .int c6), (7, .int c7), (8, .int c8), (9, .int c9), (10, .int c10), (11, .int c11), (15, .int c15), (16, .int w16)] [] M := by
  intro n
  induction n with
  | zero =>
    intro w16 M hf
    cases hf
  | succ n ih =>
    intro w16 M hf
    rw [lp_L_law_414] at hf
    refine v_iload G dL_law_414 12 rfl ?_
    refine v_aload_n G dL_law_416 2 rfl ?_
    refine v_iconst (0 : Int32) G dL_law_417 (by decide) ?_
    obtain ⟨g32, hf⟩ := gd_e hf
    refine al_35 G h3 g32 dL_law_418 ?_
    refine v_icmp_ge 781 G dL_law_419 (by decide) (fun h100 => ?_) (fun h100 => ?_)
    · replace hf := (if_pos h100).symm.trans hf
      refine v_sub _ [0, 1, 2, 3, 4, 5, 6, 7, 8, 9, 10] rfl ?_
      exact hk781 M hf
    · replace hf := (if_neg h100).symm.trans hf
      refine v_aload_n G dL_law_422 1 rfl ?_
      refine v_iload G dL_law_423 10 rfl ?_
      refine v_iload G dL_law_425 12 rfl ?_
      obtain ⟨v33, hcv33, hf⟩ := bd_e hf
      refine v_callV [.int c11, .int w16] G (c_X11_soonest n h1 hcv33) h1 (by decide) rfl rfl rfl t_763 t_764 t_765 t_1 t_766 nm_X11_soonest (by decide) (by decide) rfl rfl (Nat.le_of_ble_eq_true rfl) dL_law_427 (kv_ri ?_)
      refine v_istore [(17, .int v33.1), (0, .ref b), (1, .ref (ad a1)), (3, .ref (ad a3)), (4, .int c4), (5, .int c5), (6, .int c6), (7, .int c7), (8, .int c8), (9, .int c9), (10, .int c10), (11, .int c11), (15, .int c15), (16, .int w16)] G dL_law_430 (by decide) rfl ?_
      refine v_iload G dL_law_432 12 rfl ?_
      refine v_iload G dL_law_434 13 rfl ?_
      refine v_ishr G dL_law_436 ?_
      refine v_iconst (1 : Int32) G dL_law_437 (by decide) ?_
      refine v_iand G dL_law_438 ?_
      refine v_iconst (1 : Int32) G dL_law_439 (by decide) ?_
      obtain ⟨j468, ej468, hf⟩ := lt_j hf
      have hj468 : ∀ (M34 : KM), j468 M34 = some 1 → KV ad cy x o 468 [(0, .ref b), (1, .ref (ad a1)), (3, .ref (ad a3)), (4, .int c4), (5, .int c5), (6, .int c6), (7, .int c7), (8, .int c8), (9, .int c9), (10, .int c10), (11, .int c11), (15, .int c15), (16, .int w16), (17, .int v33.1)] [] M34 := by
        intro M34 hf
        rw [ej468] at hf
        refine v_iload G dL_law_468 13 rfl ?_
        obtain ⟨j478, ej478, hf⟩ := lt_j hf
        have hj478 : ∀ (x35 : Int32), j478 x35 = some 1 → KV ad cy x o 478 [(0, .ref b), (1, .ref (ad a1)), (3, .ref (ad a3)), (4, .int c4), (5, .int c5), (6, .int c6), (7, .int c7), (8, .int c8), (9, .int c9), (10, .int c10), (11, .int c11), (15, .int c15), (16, .int w16), (17, .int v33.1)] [.int x35] M34 := by
          intro x35 hf
          rw [ej478] at hf
          refine v_aload_n G dL_law_478 1 rfl ?_
          refine v_iload G dL_law_479 10 rfl ?_
          refine v_iconst (0 : Int32) G dL_law_481 (by decide) ?_
          obtain ⟨v36, hcv36, hf⟩ := bd_e hf
          refine v_callV [.int c11, .int (0 : Int32)] G (c_X11_person n h1 hcv36) h1 (by decide) rfl rfl rfl t_581 t_582 t_583 t_1 t_584 nm_X11_person (by decide) (by decide) rfl rfl (Nat.le_of_ble_eq_true rfl) dL_law_482 (kv_ri ?_)
          refine v_iload G dL_law_485 12 rfl ?_
          obtain ⟨j495, ej495, hf⟩ := lt_j hf
          have hj495 : ∀ (x37 : Int32), j495 x37 = some 1 → KV ad cy x o 495 [(0, .ref b), (1, .ref (ad a1)), (3, .ref (ad a3)), (4, .int c4), (5, .int c5), (6, .int c6), (7, .int c7), (8, .int c8), (9, .int c9), (10, .int c10), (11, .int c11), (15, .int c15), (16, .int w16), (17, .int v33.1)] [.int x37, .int x35] v36.2 := by
            intro x37 hf
            rw [ej495] at hf
            refine v_icmp_eq 500 G dL_law_495 (by decide) (fun h92 => ?_) (fun h92 => ?_)
            · replace hf := (if_pos h92).symm.trans hf
              refine v_aload_n G dL_law_500 1 rfl ?_
              refine v_iload G dL_law_501 10 rfl ?_
              refine v_iload G dL_law_503 12 rfl ?_
              obtain ⟨v38, hcv38, hf⟩ := bd_e hf
              refine v_callV [.int c11, .int w16] G (c_X11_plantSet n h1 hcv38) h1 (by decide) rfl rfl rfl t_838 t_839 t_840 t_1 t_841 nm_X11_plantSet (by decide) (by decide) rfl rfl (Nat.le_of_ble_eq_true rfl) dL_law_505 (kv_ri ?_)
              refine v_istore [(18, .int v38.1), (0, .ref b), (1, .ref (ad a1)), (3, .ref (ad a3)), (4, .int c4), (5, .int c5), (6, .int c6), (7, .int c7), (8, .int c8), (9, .int c9), (10, .int c10), (11, .int c11), (15, .int c15), (16, .int w16), (17, .int v33.1)] G dL_law_508 (by decide) rfl ?_
              refine v_iload G dL_law_510 0 rfl ?_
              obtain ⟨j640, ej640, hf⟩ := lt_j hf
              have hj640 : ∀ (M39 : KM), j640 M39 = some 1 → KV ad cy x o 640 [(0, .ref b), (1, .ref (ad a1)), (3, .ref (ad a3)), (4, .int c4), (5, .int c5), (6, .int c6), (7, .int c7), (8, .int c8), (9, .int c9), (10, .int c10), (11, .int c11), (15, .int c15), (16, .int w16), (17, .int v33.1)] [] M39 := by
                intro M39 hf
                rw [ej640] at hf
                refine v_iload G dL_law_640 13 rfl ?_
                obtain ⟨j775, ej775, hf⟩ := lt_j hf
                have hj775 : ∀ (M40 : KM), j775 M40 = some 1 → KV ad cy x o 775 [(0, .ref b), (1, .ref (ad a1)), (3, .ref (ad a3)), (4, .int c4), (5, .int c5), (6, .int c6), (7, .int c7), (8, .int c8), (9, .int c9), (10, .int c10), (11, .int c11), (15, .int c15), (16, .int w16)] [] M40 := by
                  intro M40 hf
                  rw [ej775] at hf
                  obtain ⟨v41, ev41⟩ : ∃ q : Int32, q = w16 + (1 : Int32) := ⟨_, rfl⟩
                  replace hf := lt_e hf ev41
                  refine v_iinc v41 [(16, .int v41), (0, .ref b), (1, .ref (ad a1)), (3, .ref (ad a3)), (4, .int c4), (5, .int c5), (6, .int c6), (7, .int c7), (8, .int c8), (9, .int c9), (10, .int c10), (11, .int c11), (15, .int c15)] G dL_law_775 12 rfl (by rw [ev41]; rfl) (by decide) rfl ?_
                  refine v_goto 414 G dL_law_778 (by decide) ?_
                  refine v_sub _ [1, 2, 3, 4, 5, 6, 7, 8, 9, 10, 11, 12, 0] rfl ?_
                  exact ih v41 M40 hf
                refine v_if_gt 648 G dL_law_642 (by decide) (fun h66 => ?_) (fun h66 => ?_)
                · replace hf := (if_pos h66).symm.trans hf
                  refine v_aload_n G dL_law_648 1 rfl ?_
                  obtain ⟨v42, hcv42, hf⟩ := bd_e hf
                  refine v_callV [] G (c_X11_mark n h1 hcv42) h1 (by decide) rfl rfl rfl t_909 t_910 t_911 t_1 t_912 nm_X11_mark (by decide) (by decide) rfl rfl (Nat.le_of_ble_eq_true rfl) dL_law_649 (kv_ri ?_)
                  refine v_iconst (1 : Int32) G dL_law_652 (by decide) ?_
                  refine v_icmp_eq 658 G dL_law_653 (by decide) (fun h65 => ?_) (fun h65 => ?_)
                  · replace hf := (if_pos h65).symm.trans hf
                    refine v_iconst (0 : Int32) G dL_law_658 (by decide) ?_
                    refine v_istore [(19, .int (0 : Int32)), (0, .ref b), (1, .ref (ad a1)), (3, .ref (ad a3)), (4, .int c4), (5, .int c5), (6, .int c6), (7, .int c7), (8, .int c8), (9, .int c9), (10, .int c10), (11, .int c11), (15, .int c15), (16, .int w16), (17, .int v33.1)] G dL_law_659 (by decide) rfl ?_
                    refine v_sub _ [1, 2, 3, 4, 5, 6, 7, 8, 9, 10, 11, 12, 13, 14, 0] rfl ?_
                    refine s_L_law_661 G Ln xs GW GL h1 h3 (fun u60 M61 hf => ?_) n (0 : Int32) v42.2 hf
                    · refine v_iload G dL_law_759 14 rfl ?_
                      refine v_iload G dL_law_761 13 rfl ?_
                      refine v_icmp_ne 773 G dL_law_763 (by decide) (fun h64 => ?_) (fun h64 => ?_)
                      · replace hf := (if_neg h64).symm.trans hf
                        refine v_iconst (0 : Int32) G dL_law_773 (by decide) ?_
                        exact absurd (Option.some.inj hf) (by decide)
                      · replace hf := (if_pos h64).symm.trans hf
                        refine v_aload_n G dL_law_766 1 rfl ?_
                        obtain ⟨v62, hcv62, hf⟩ := bd_e hf
                        refine v_callV [] G (c_X11_back n h1 hcv62) h1 (by decide) rfl rfl rfl t_929 t_930 t_931 t_1 t_932 nm_X11_back (by decide) (by decide) rfl rfl (Nat.le_of_ble_eq_true rfl) dL_law_767 (kv_ri ?_)
                        refine v_if_eq 775 G dL_law_770 (by decide) (fun h63 => ?_) (fun h63 => ?_)
                        · replace hf := (if_pos h63).symm.trans hf
                          refine v_sub _ [0, 1, 2, 3, 4, 5, 6, 7, 8, 9, 10, 11, 12] rfl ?_
                          exact hj775 v62.2 hf
                        · replace hf := (if_neg h63).symm.trans hf
                          refine v_iconst (0 : Int32) G dL_law_773 (by decide) ?_
                          exact absurd (Option.some.inj hf) (by decide)
                  · replace hf := (if_neg h65).symm.trans hf
                    refine v_iconst (0 : Int32) G dL_law_656 (by decide) ?_
                    exact absurd (Option.some.inj hf) (by decide)
                · replace hf := (if_neg h66).symm.trans hf
                  refine v_goto 775 G dL_law_645 (by decide) ?_
                  refine v_sub _ [0, 1, 2, 3, 4, 5, 6, 7, 8, 9, 10, 11, 12] rfl ?_
                  exact hj775 M39 hf
              refine v_if_lt 640 G dL_law_512 (by decide) (fun h91 => ?_) (fun h91 => ?_)
              · replace hf := (if_pos h91).symm.trans hf
                refine v_sub _ [1, 2, 3, 4, 5, 6, 7, 8, 9, 10, 11, 12, 13, 14] rfl ?_
                exact hj640 v38.2 hf
              · replace hf := (if_neg h91).symm.trans hf
                refine v_iconst (-1 : Int32) G dL_law_515 (by decide) ?_
                refine v_istore [(19, .int (-1 : Int32)), (18, .int v38.1), (0, .ref b), (1, .ref (ad a1)), (3, .ref (ad a3)), (4, .int c4), (5, .int c5), (6, .int c6), (7, .int c7), (8, .int c8), (9, .int c9), (10, .int c10), (11, .int c11), (15, .int c15), (16, .int w16), (17, .int v33.1)] G dL_law_516 (by decide) rfl ?_
                refine v_sub _ [2, 3, 4, 5, 6, 7, 8, 9, 10, 11, 12, 13, 14, 15, 1, 0] rfl ?_
                refine s_L_law_518 G Ln xs GW GL h1 h3 (fun M90 hf => ?_) n (-1 : Int32) v38.2 hf
                · refine v_sub _ [0, 1, 2, 3, 4, 5, 6, 7, 8, 9, 10, 11, 12, 13] rfl ?_
                  exact hj640 M90 hf
            · replace hf := (if_neg h92).symm.trans hf
              refine v_iconst (0 : Int32) G dL_law_498 (by decide) ?_
              exact absurd (Option.some.inj hf) (by decide)
          refine v_icmp_ne 494 G dL_law_487 (by decide) (fun h93 => ?_) (fun h93 => ?_)
          · replace hf := (if_neg h93).symm.trans hf
            refine v_iconst (0 : Int32) G dL_law_494 (by decide) ?_
            refine v_sub _ [0, 1, 2, 3, 4, 5, 6, 7, 8, 9, 10, 11, 12, 13] rfl ?_
            exact hj495 (0 : Int32) hf
          · replace hf := (if_pos h93).symm.trans hf
            refine v_iconst (1 : Int32) G dL_law_490 (by decide) ?_
            refine v_goto 495 G dL_law_491 (by decide) ?_
            refine v_sub _ [0, 1, 2, 3, 4, 5, 6, 7, 8, 9, 10, 11, 12, 13] rfl ?_
            exact hj495 (1 : Int32) hf
        refine v_if_ne 477 G dL_law_470 (by decide) (fun h94 => ?_) (fun h94 => ?_)
        · replace hf := (if_neg h94).symm.trans hf
          refine v_iconst (0 : Int32) G dL_law_477 (by decide) ?_
          refine v_sub _ [0, 1, 2, 3, 4, 5, 6, 7, 8, 9, 10, 11, 12, 13] rfl ?_
          exact hj478 (0 : Int32) hf
        · replace hf := (if_pos h94).symm.trans hf
          refine v_iconst (1 : Int32) G dL_law_473 (by decide) ?_
          refine v_goto 478 G dL_law_474 (by decide) ?_
          refine v_sub _ [0, 1, 2, 3, 4, 5, 6, 7, 8, 9, 10, 11, 12, 13] rfl ?_
          exact hj478 (1 : Int32) hf
      refine v_icmp_ne 468 G dL_law_440 (by decide) (fun h99 => ?_) (fun h99 => ?_)
      · replace hf := (if_neg h99).symm.trans hf
        refine v_sub _ [1, 2, 3, 4, 5, 6, 7, 8, 9, 10, 11, 12, 13, 0] rfl ?_
        exact hj468 v33.2 hf
      · replace hf := (if_pos h99).symm.trans hf
        refine v_iload G dL_law_443 0 rfl ?_
        refine v_if_ge 468 G dL_law_445 (by decide) (fun h98 => ?_) (fun h98 => ?_)
        · replace hf := (if_pos h98).symm.trans hf
          refine v_sub _ [1, 2, 3, 4, 5, 6, 7, 8, 9, 10, 11, 12, 13, 0] rfl ?_
          exact hj468 v33.2 hf
        · replace hf := (if_neg h98).symm.trans hf
          refine v_aload_n G dL_law_448 2 rfl ?_
          refine v_bipush (9 : Int32) G dL_law_449 (by decide) ?_
          obtain ⟨v95, hcv95, hf⟩ := bd_e hf
          refine v_callV [.int (9 : Int32)] G (c_X11_many n h1 hcv95) h1 (by decide) rfl rfl rfl t_517 t_518 t_519 t_1 t_520 nm_X11_many (by decide) (by decide) rfl rfl (Nat.le_of_ble_eq_true rfl) dL_law_451 (kv_ri ?_)
          refine v_if_ne 468 G dL_law_454 (by decide) (fun h97 => ?_) (fun h97 => ?_)
          · replace hf := (if_neg h97).symm.trans hf
            refine v_sub _ [1, 2, 3, 4, 5, 6, 7, 8, 9, 10, 11, 12, 13, 0] rfl ?_
            exact hj468 v95.2 hf
          · replace hf := (if_pos h97).symm.trans hf
            refine v_iload G dL_law_457 8 rfl ?_
            refine v_iload G dL_law_459 11 rfl ?_
            refine v_ishr G dL_law_461 ?_
            refine v_iconst (1 : Int32) G dL_law_462 (by decide) ?_
            refine v_iand G dL_law_463 ?_
            refine v_iconst (1 : Int32) G dL_law_464 (by decide) ?_
            refine v_icmp_eq 498 G dL_law_465 (by decide) (fun h96 => ?_) (fun h96 => ?_)
            · replace hf := (if_pos h96).symm.trans hf
              refine v_iconst (0 : Int32) G dL_law_498 (by decide) ?_
              exact absurd (Option.some.inj hf) (by decide)
            · replace hf := (if_neg h96).symm.trans hf
              refine v_sub _ [1, 2, 3, 4, 5, 6, 7, 8, 9, 10, 11, 12, 13, 0] rfl ?_
              exact hj468 v95.2 hf
set_option maxRecDepth 100000 in
set_option maxHeartbeats 4000000 in
theorem s_L_law_784 {ad : Nat → Nat} {cy : Nat → ClassId} {x : KX} (G : KG ad cy x cL_law "NoonGuidesLaw" 21 none 12) (Ln : Nat) (xs : Nat → Int32) {a1 : Nat} {a3 : Nat} {c4 : Int32} {c5 : Int32} {c6 : Int32} {c7 : Int32} {c8 : Int32} {c9 : Int32} {c10 : Int32} {c11 : Int32} {b : Nat} {aK aV : Nat → Nat} (GW : KWx b Ln xs aK aV x) (GL : KLw x b) (h1 : kty a1 = 11) (h3 : kty a3 = 35) {k919 : KM → Option Int32} {o : KO} (hk919 : ∀ (M : KM), k919 M = some 1 → KV ad cy x o 919 [(0, .ref b), (1, .ref (ad a1)), (3, .ref (ad a3)), (4, .int c4), (5, .int c5), (6, .int c6), (7, .int c7), (8, .int c8), (9, .int c9), (10, .int c10), (11, .int c11)] [] M) : ∀ (n : Nat) (w16 : Int32) (M : KM), lp_L_law_784 n Ln xs a1 a3 c4 c5 c6 c7 c8 c9 c10 c11 w16 M k919 = some 1 → KV ad cy x o 784 [(0, .ref b), (1, .ref (ad a1)), (3, .ref (ad a3)), (4, .int c4), (5, .int c5), (6, .int c6), (7, .int c7), (8, .int c8), (9, .int c9), (10, .int c10), (11, .int c11), (16, .int w16)] [] M := by
  intro n
  induction n with
  | zero =>
    intro w16 M hf
    cases hf
  | succ n ih =>
    intro w16 M hf
    rw [lp_L_law_784] at hf
    refine v_iload G dL_law_784 11 rfl ?_
    refine v_aload_n G dL_law_786 2 rfl ?_
    refine v_iconst (2 : Int32) G dL_law_787 (by decide) ?_
    obtain ⟨g102, hf⟩ := gd_e hf
    refine al_35 G h3 g102 dL_law_788 ?_
    refine v_icmp_ge 919 G dL_law_789 (by decide) (fun h121 => ?_) (fun h121 => ?_)
    · replace hf := (if_pos h121).symm.trans hf
      refine v_sub _ [0, 1, 2, 3, 4, 5, 6, 7, 8, 9, 10] rfl ?_
      exact hk919 M hf
    · replace hf := (if_neg h121).symm.trans hf
      refine v_aload_n G dL_law_792 1 rfl ?_
      refine v_iload G dL_law_793 10 rfl ?_
      refine v_iload G dL_law_795 11 rfl ?_
      obtain ⟨v103, hcv103, hf⟩ := bd_e hf
      refine v_callV [.int c11, .int w16] G (c_X11_meet n h1 hcv103) h1 (by decide) rfl rfl rfl t_822 t_823 t_824 t_1 t_825 nm_X11_meet (by decide) (by decide) rfl rfl (Nat.le_of_ble_eq_true rfl) dL_law_797 (kv_ri ?_)
      refine v_istore [(17, .int v103.1), (0, .ref b), (1, .ref (ad a1)), (3, .ref (ad a3)), (4, .int c4), (5, .int c5), (6, .int c6), (7, .int c7), (8, .int c8), (9, .int c9), (10, .int c10), (11, .int c11), (16, .int w16)] G dL_law_800 (by decide) rfl ?_
      refine v_iload G dL_law_802 0 rfl ?_
      obtain ⟨j913, ej913, hf⟩ := lt_j hf
      have hj913 : ∀ (M104 : KM), j913 M104 = some 1 → KV ad cy x o 913 [(0, .ref b), (1, .ref (ad a1)), (3, .ref (ad a3)), (4, .int c4), (5, .int c5), (6, .int c6), (7, .int c7), (8, .int c8), (9, .int c9), (10, .int c10), (11, .int c11), (16, .int w16)] [] M104 := by
        intro M104 hf
        rw [ej913] at hf
        obtain ⟨v105, ev105⟩ : ∃ q : Int32, q = w16 + (1 : Int32) := ⟨_, rfl⟩
        replace hf := lt_e hf ev105
        refine v_iinc v105 [(16, .int v105), (0, .ref b), (1, .ref (ad a1)), (3, .ref (ad a3)), (4, .int c4), (5, .int c5), (6, .int c6), (7, .int c7), (8, .int c8), (9, .int c9), (10, .int c10), (11, .int c11)] G dL_law_913 11 rfl (by rw [ev105]; rfl) (by decide) rfl ?_
        refine v_goto 784 G dL_law_916 (by decide) ?_
        refine v_sub _ [1, 2, 3, 4, 5, 6, 7, 8, 9, 10, 11, 0] rfl ?_
        exact ih v105 M104 hf
      refine v_if_ge 810 G dL_law_804 (by decide) (fun h120 => ?_) (fun h120 => ?_)
      · replace hf := (if_pos h120).symm.trans hf
        refine v_aload_n G dL_law_810 2 rfl ?_
        refine v_iload G dL_law_811 11 rfl ?_
        refine v_iload G dL_law_813 0 rfl ?_
        obtain ⟨v106, hcv106, hf⟩ := bd_e hf
        refine v_callV [.int c11, .int v103.1] G (c_X11_soonest n h1 hcv106) h1 (by decide) rfl rfl rfl t_763 t_764 t_765 t_1 t_766 nm_X11_soonest (by decide) (by decide) rfl rfl (Nat.le_of_ble_eq_true rfl) dL_law_815 (kv_ri ?_)
        refine v_istore [(18, .int v106.1), (17, .int v103.1), (0, .ref b), (1, .ref (ad a1)), (3, .ref (ad a3)), (4, .int c4), (5, .int c5), (6, .int c6), (7, .int c7), (8, .int c8), (9, .int c9), (10, .int c10), (11, .int c11), (16, .int w16)] G dL_law_818 (by decide) rfl ?_
        refine v_aload_n G dL_law_820 3 rfl ?_
        refine v_iload G dL_law_821 13 rfl ?_
        refine v_iload G dL_law_823 1 rfl ?_
        obtain ⟨v107, hcv107, hf⟩ := bd_e hf
        refine v_callV [.int w16, .int v103.1] G (c_X11_soonest n h1 hcv107) h1 (by decide) rfl rfl rfl t_763 t_764 t_765 t_1 t_766 nm_X11_soonest (by decide) (by decide) rfl rfl (Nat.le_of_ble_eq_true rfl) dL_law_825 (kv_ri ?_)
        refine v_istore [(19, .int v107.1), (18, .int v106.1), (17, .int v103.1), (0, .ref b), (1, .ref (ad a1)), (3, .ref (ad a3)), (4, .int c4), (5, .int c5), (6, .int c6), (7, .int c7), (8, .int c8), (9, .int c9), (10, .int c10), (11, .int c11), (16, .int w16)] G dL_law_828 (by decide) rfl ?_
        refine v_iload G dL_law_830 1 rfl ?_
        refine v_if_lt 878 G dL_law_832 (by decide) (fun h119 => ?_) (fun h119 => ?_)
        · replace hf := (if_pos h119).symm.trans hf
          refine v_iconst (0 : Int32) G dL_law_878 (by decide) ?_
          exact absurd (Option.some.inj hf) (by decide)
        · replace hf := (if_neg h119).symm.trans hf
          refine v_iload G dL_law_835 0 rfl ?_
          refine v_if_lt 878 G dL_law_837 (by decide) (fun h118 => ?_) (fun h118 => ?_)
          · replace hf := (if_pos h118).symm.trans hf
            refine v_iconst (0 : Int32) G dL_law_878 (by decide) ?_
            exact absurd (Option.some.inj hf) (by decide)
          · replace hf := (if_neg h118).symm.trans hf
            refine v_aload_n G dL_law_840 4 rfl ?_
            refine v_iload G dL_law_841 13 rfl ?_
            refine v_iload G dL_law_843 14 rfl ?_
            obtain ⟨v108, hcv108, hf⟩ := bd_e hf
            refine v_callV [.int c11, .int w16] G (c_X11_meetIn n h1 hcv108) h1 (by decide) rfl rfl rfl t_834 t_835 t_836 t_1 t_837 nm_X11_meetIn (by decide) (by decide) rfl rfl (Nat.le_of_ble_eq_true rfl) dL_law_845 (kv_ri ?_)
            refine v_iload G dL_law_848 1 rfl ?_
            refine v_iload G dL_law_850 0 rfl ?_
            obtain ⟨j862, ej862, hf⟩ := lt_j hf
            have hj862 : ∀ (x109 : Int32), j862 x109 = some 1 → KV ad cy x o 862 [(0, .ref b), (1, .ref (ad a1)), (3, .ref (ad a3)), (4, .int c4), (5, .int c5), (6, .int c6), (7, .int c7), (8, .int c8), (9, .int c9), (10, .int c10), (11, .int c11), (16, .int w16), (17, .int v103.1), (18, .int v106.1), (19, .int v107.1)] [.int x109, .int v108.1] v108.2 := by
              intro x109 hf
              rw [ej862] at hf
              refine v_icmp_ne 878 G dL_law_862 (by decide) (fun h116 => ?_) (fun h116 => ?_)
              · replace hf := (if_neg h116).symm.trans hf
                refine v_iconst (0 : Int32) G dL_law_878 (by decide) ?_
                exact absurd (Option.some.inj hf) (by decide)
              · replace hf := (if_pos h116).symm.trans hf
                refine v_aload_n G dL_law_865 1 rfl ?_
                refine v_iload G dL_law_866 11 rfl ?_
                refine v_iload G dL_law_868 10 rfl ?_
                obtain ⟨v110, hcv110, hf⟩ := bd_e hf
                refine v_callV [.int w16, .int c11] G (c_X11_meet n h1 hcv110) h1 (by decide) rfl rfl rfl t_822 t_823 t_824 t_1 t_825 nm_X11_meet (by decide) (by decide) rfl rfl (Nat.le_of_ble_eq_true rfl) dL_law_870 (kv_ri ?_)
                refine v_iload G dL_law_873 12 rfl ?_
                refine v_icmp_eq 880 G dL_law_875 (by decide) (fun h115 => ?_) (fun h115 => ?_)
                · replace hf := (if_pos h115).symm.trans hf
                  refine v_aload_n G dL_law_880 1 rfl ?_
                  refine v_iload G dL_law_881 10 rfl ?_
                  refine v_iload G dL_law_883 11 rfl ?_
                  refine v_iload G dL_law_885 12 rfl ?_
                  obtain ⟨v111, hcv111, hf⟩ := bd_e hf
                  refine v_callV [.int c11, .int w16, .int v103.1] G (c_X11_soonestTwo n h1 hcv111) h1 (by decide) rfl rfl rfl t_811 t_812 t_813 t_1 t_814 nm_X11_soonestTwo (by decide) (by decide) rfl rfl (Nat.le_of_ble_eq_true rfl) dL_law_887 (kv_ri ?_)
                  refine v_istore [(20, .int v111.1), (0, .ref b), (1, .ref (ad a1)), (3, .ref (ad a3)), (4, .int c4), (5, .int c5), (6, .int c6), (7, .int c7), (8, .int c8), (9, .int c9), (10, .int c10), (11, .int c11), (16, .int w16), (17, .int v103.1), (18, .int v106.1), (19, .int v107.1)] G dL_law_890 (by decide) rfl ?_
                  refine v_iload G dL_law_892 0 rfl ?_
                  refine v_if_lt 913 G dL_law_894 (by decide) (fun h114 => ?_) (fun h114 => ?_)
                  · replace hf := (if_pos h114).symm.trans hf
                    refine v_sub _ [1, 2, 3, 4, 5, 6, 7, 8, 9, 10, 11, 12] rfl ?_
                    exact hj913 v111.2 hf
                  · replace hf := (if_neg h114).symm.trans hf
                    refine v_iload G dL_law_897 0 rfl ?_
                    refine v_iload G dL_law_899 14 rfl ?_
                    refine v_icmp_gt 911 G dL_law_901 (by decide) (fun h113 => ?_) (fun h113 => ?_)
                    · replace hf := (if_pos h113).symm.trans hf
                      refine v_iconst (0 : Int32) G dL_law_911 (by decide) ?_
                      exact absurd (Option.some.inj hf) (by decide)
                    · replace hf := (if_neg h113).symm.trans hf
                      refine v_iload G dL_law_904 0 rfl ?_
                      refine v_iload G dL_law_906 15 rfl ?_
                      refine v_icmp_le 913 G dL_law_908 (by decide) (fun h112 => ?_) (fun h112 => ?_)
                      · replace hf := (if_pos h112).symm.trans hf
                        refine v_sub _ [1, 2, 3, 4, 5, 6, 7, 8, 9, 10, 11, 12] rfl ?_
                        exact hj913 v111.2 hf
                      · replace hf := (if_neg h112).symm.trans hf
                        refine v_iconst (0 : Int32) G dL_law_911 (by decide) ?_
                        exact absurd (Option.some.inj hf) (by decide)
                · replace hf := (if_neg h115).symm.trans hf
                  refine v_iconst (0 : Int32) G dL_law_878 (by decide) ?_
                  exact absurd (Option.some.inj hf) (by decide)
            refine v_icmp_le 860 G dL_law_852 (by decide) (fun h117 => ?_) (fun h117 => ?_)
            · replace hf := (if_pos h117).symm.trans hf
              refine v_iload G dL_law_860 0 rfl ?_
              refine v_sub _ [3, 4, 5, 6, 7, 8, 9, 10, 11, 12, 13, 14, 2, 1, 0] rfl ?_
              exact hj862 v107.1 hf
            · replace hf := (if_neg h117).symm.trans hf
              refine v_iload G dL_law_855 1 rfl ?_
              refine v_goto 862 G dL_law_857 (by decide) ?_
              refine v_sub _ [3, 4, 5, 6, 7, 8, 9, 10, 11, 12, 13, 14, 2, 1, 0] rfl ?_
              exact hj862 v106.1 hf
      · replace hf := (if_neg h120).symm.trans hf
        refine v_goto 913 G dL_law_807 (by decide) ?_
        refine v_sub _ [1, 2, 3, 4, 5, 6, 7, 8, 9, 10, 11, 12] rfl ?_
        exact hj913 v103.2 hf
set_option maxRecDepth 100000 in
set_option maxHeartbeats 4000000 in
theorem s_L_law_145 {ad : Nat → Nat} {cy : Nat → ClassId} {x : KX} (G : KG ad cy x cL_law "NoonGuidesLaw" 21 none 12) (Ln : Nat) (xs : Nat → Int32) {a1 : Nat} {a3 : Nat} {c4 : Int32} {c5 : Int32} {c6 : Int32} {c7 : Int32} {c8 : Int32} {b : Nat} {aK aV : Nat → Nat} (GW : KWx b Ln xs aK aV x) (GL : KLw x b) (h1 : kty a1 = 11) (h3 : kty a3 = 35) {k925 : Int32 → Int32 → KM → Option Int32} {o : KO} (hk925 : ∀ (u9 : Int32) (u10 : Int32) (M : KM), k925 u9 u10 M = some 1 → KV ad cy x o 925 [(0, .ref b), (1, .ref (ad a1)), (3, .ref (ad a3)), (4, .int c4), (5, .int c5), (6, .int c6), (7, .int c7), (9, .int u9), (10, .int u10)] [] M) : ∀ (n : Nat) (w9 : Int32) (w10 : Int32) (w11 : Int32) (M : KM), lp_L_law_145 n Ln xs a1 a3 c4 c5 c6 c7 c8 w9 w10 w11 M k925 = some 1 → KV ad cy x o 145 [(0, .ref b), (1, .ref (ad a1)), (3, .ref (ad a3)), (4, .int c4), (5, .int c5), (6, .int c6), (7, .int c7), (8, .int c8), (9, .int w9), (10, .int w10), (11, .int w11)] [] M := by
  intro n
  induction n with
  | zero =>
    intro w9 w10 w11 M hf
    cases hf
  | succ n ih =>
    intro w9 w10 w11 M hf
    rw [lp_L_law_145] at hf
    refine v_iload G dL_law_145 10 rfl ?_
    refine v_aload_n G dL_law_147 2 rfl ?_
    refine v_iconst (2 : Int32) G dL_law_148 (by decide) ?_
    obtain ⟨g9, hf⟩ := gd_e hf
    refine al_35 G h3 g9 dL_law_149 ?_
    refine v_icmp_ge 925 G dL_law_150 (by decide) (fun h147 => ?_) (fun h147 => ?_)
    · replace hf := (if_pos h147).symm.trans hf
      refine v_sub _ [0, 1, 2, 3, 4, 5, 6, 8, 9] rfl ?_
      exact hk925 w9 w10 M hf
    · replace hf := (if_neg h147).symm.trans hf
      refine v_iload G dL_law_153 6 rfl ?_
      refine v_iload G dL_law_155 10 rfl ?_
      refine v_ishr G dL_law_157 ?_
      refine v_iconst (1 : Int32) G dL_law_158 (by decide) ?_
      refine v_iand G dL_law_159 ?_
      refine v_iconst (1 : Int32) G dL_law_160 (by decide) ?_
      obtain ⟨j169, ej169, hf⟩ := lt_j hf
      have hj169 : ∀ (x10 : Int32), j169 x10 = some 1 → KV ad cy x o 169 [(0, .ref b), (1, .ref (ad a1)), (3, .ref (ad a3)), (4, .int c4), (5, .int c5), (6, .int c6), (7, .int c7), (8, .int c8), (9, .int w9), (10, .int w10), (11, .int w11)] [.int x10] M := by
        intro x10 hf
        rw [ej169] at hf
        refine v_istore [(12, .int x10), (0, .ref b), (1, .ref (ad a1)), (3, .ref (ad a3)), (4, .int c4), (5, .int c5), (6, .int c6), (7, .int c7), (8, .int c8), (9, .int w9), (10, .int w10), (11, .int w11)] G dL_law_169 (by decide) rfl ?_
        refine v_iload G dL_law_171 9 rfl ?_
        refine v_aload_n G dL_law_173 2 rfl ?_
        refine v_iload G dL_law_174 11 rfl ?_
        obtain ⟨v11, hcv11, hf⟩ := bd_e hf
        refine v_callV [.int w11] G (c_X11_net n h1 hcv11) h1 (by decide) rfl rfl rfl t_602 t_603 t_604 t_1 t_605 nm_X11_net (by decide) (by decide) rfl rfl (Nat.le_of_ble_eq_true rfl) dL_law_176 (kv_ri ?_)
        refine v_iadd G dL_law_179 ?_
        refine v_nmi (fun v12 ev12 => ?_)
        replace hf := lt_e hf ev12
        refine v_istore [(9, .int v12), (12, .int x10), (0, .ref b), (1, .ref (ad a1)), (3, .ref (ad a3)), (4, .int c4), (5, .int c5), (6, .int c6), (7, .int c7), (8, .int c8), (10, .int w10), (11, .int w11)] G dL_law_180 (by decide) rfl ?_
        refine v_aload_n G dL_law_182 3 rfl ?_
        refine v_iload G dL_law_183 11 rfl ?_
        refine v_iconst (3 : Int32) G dL_law_185 (by decide) ?_
        obtain ⟨v13, hcv13, hf⟩ := bd_e hf
        refine v_callV [.int w11, .int (3 : Int32)] G (c_X11_person n h1 hcv13) h1 (by decide) rfl rfl rfl t_581 t_582 t_583 t_1 t_584 nm_X11_person (by decide) (by decide) rfl rfl (Nat.le_of_ble_eq_true rfl) dL_law_186 (kv_ri ?_)
        refine v_istore [(13, .int v13.1), (9, .int v12), (12, .int x10), (0, .ref b), (1, .ref (ad a1)), (3, .ref (ad a3)), (4, .int c4), (5, .int c5), (6, .int c6), (7, .int c7), (8, .int c8), (10, .int w10), (11, .int w11)] G dL_law_189 (by decide) rfl ?_
        refine v_iload G dL_law_191 2 rfl ?_
        refine v_aload_n G dL_law_193 4 rfl ?_
        refine v_iload G dL_law_194 12 rfl ?_
        refine v_iconst (1 : Int32) G dL_law_196 (by decide) ?_
        obtain ⟨v14, hcv14, hf⟩ := bd_e hf
        refine v_callV [.int w11, .int (1 : Int32)] G (c_X11_person n h1 hcv14) h1 (by decide) rfl rfl rfl t_581 t_582 t_583 t_1 t_584 nm_X11_person (by decide) (by decide) rfl rfl (Nat.le_of_ble_eq_true rfl) dL_law_197 (kv_ri ?_)
        obtain ⟨j208, ej208, hf⟩ := lt_j hf
        have hj208 : ∀ (x15 : Int32), j208 x15 = some 1 → KV ad cy x o 208 [(0, .ref b), (1, .ref (ad a1)), (3, .ref (ad a3)), (4, .int c4), (5, .int c5), (6, .int c6), (7, .int c7), (8, .int c8), (9, .int v12), (10, .int w10), (11, .int w11), (12, .int x10), (13, .int v13.1)] [.int x15, .int x10] v14.2 := by
          intro x15 hf
          rw [ej208] at hf
          refine v_icmp_ne 285 G dL_law_208 (by decide) (fun h144 => ?_) (fun h144 => ?_)
          · replace hf := (if_neg h144).symm.trans hf
            refine v_iconst (0 : Int32) G dL_law_285 (by decide) ?_
            exact absurd (Option.some.inj hf) (by decide)
          · replace hf := (if_pos h144).symm.trans hf
            refine v_iload G dL_law_211 11 rfl ?_
            refine v_aload_n G dL_law_213 1 rfl ?_
            refine v_iload G dL_law_214 10 rfl ?_
            refine v_iconst (2 : Int32) G dL_law_216 (by decide) ?_
            obtain ⟨v16, hcv16, hf⟩ := bd_e hf
            refine v_callV [.int w11, .int (2 : Int32)] G (c_X11_person n h1 hcv16) h1 (by decide) rfl rfl rfl t_581 t_582 t_583 t_1 t_584 nm_X11_person (by decide) (by decide) rfl rfl (Nat.le_of_ble_eq_true rfl) dL_law_217 (kv_ri ?_)
            obtain ⟨j228, ej228, hf⟩ := lt_j hf
            have hj228 : ∀ (x17 : Int32), j228 x17 = some 1 → KV ad cy x o 228 [(0, .ref b), (1, .ref (ad a1)), (3, .ref (ad a3)), (4, .int c4), (5, .int c5), (6, .int c6), (7, .int c7), (8, .int c8), (9, .int v12), (10, .int w10), (11, .int w11), (12, .int x10), (13, .int v13.1)] [.int x17, .int x10] v16.2 := by
              intro x17 hf
              rw [ej228] at hf
              refine v_icmp_ne 285 G dL_law_228 (by decide) (fun h142 => ?_) (fun h142 => ?_)
              · replace hf := (if_neg h142).symm.trans hf
                refine v_iconst (0 : Int32) G dL_law_285 (by decide) ?_
                exact absurd (Option.some.inj hf) (by decide)
              · replace hf := (if_pos h142).symm.trans hf
                refine v_iload G dL_law_231 12 rfl ?_
                obtain ⟨j287, ej287, hf⟩ := lt_j hf
                have hj287 : ∀ (M18 : KM), j287 M18 = some 1 → KV ad cy x o 287 [(0, .ref b), (1, .ref (ad a1)), (3, .ref (ad a3)), (4, .int c4), (5, .int c5), (6, .int c6), (7, .int c7), (8, .int c8), (9, .int v12), (10, .int w10), (11, .int w11), (12, .int x10)] [] M18 := by
                  intro M18 hf
                  rw [ej287] at hf
                  refine v_aload_n G dL_law_287 1 rfl ?_
                  refine v_iload G dL_law_288 10 rfl ?_
                  obtain ⟨v19, hcv19, hf⟩ := bd_e hf
                  refine v_callV [.int w11] G (c_X11_pair n h1 hcv19) h1 (by decide) rfl rfl rfl t_851 t_852 t_853 t_1 t_854 nm_X11_pair (by decide) (by decide) rfl rfl (Nat.le_of_ble_eq_true rfl) dL_law_290 (kv_ri ?_)
                  refine v_istore [(14, .int v19.1), (0, .ref b), (1, .ref (ad a1)), (3, .ref (ad a3)), (4, .int c4), (5, .int c5), (6, .int c6), (7, .int c7), (8, .int c8), (9, .int v12), (10, .int w10), (11, .int w11), (12, .int x10)] G dL_law_293 (by decide) rfl ?_
                  refine v_iload G dL_law_295 0 rfl ?_
                  obtain ⟨j333, ej333, hf⟩ := lt_j hf
                  have hj333 : ∀ (x20 : Int32) (M21 : KM), j333 x20 M21 = some 1 → KV ad cy x o 333 [(0, .ref b), (1, .ref (ad a1)), (3, .ref (ad a3)), (4, .int c4), (5, .int c5), (6, .int c6), (7, .int c7), (8, .int c8), (9, .int v12), (10, .int x20), (11, .int w11), (12, .int x10)] [] M21 := by
                    intro x20 M21 hf
                    rw [ej333] at hf
                    refine v_iconst (0 : Int32) G dL_law_333 (by decide) ?_
                    refine v_istore [(15, .int (0 : Int32)), (0, .ref b), (1, .ref (ad a1)), (3, .ref (ad a3)), (4, .int c4), (5, .int c5), (6, .int c6), (7, .int c7), (8, .int c8), (9, .int v12), (10, .int x20), (11, .int w11), (12, .int x10)] G dL_law_334 (by decide) rfl ?_
                    refine v_sub _ [1, 2, 3, 4, 5, 6, 7, 8, 9, 10, 11, 12, 0] rfl ?_
                    refine s_L_law_336 G Ln xs GW GL h1 h3 (fun M27 hf => ?_) n (0 : Int32) M21 hf
                    · refine v_iload G dL_law_371 11 rfl ?_
                      obtain ⟨j919, ej919, hf⟩ := lt_j hf
                      have hj919 : ∀ (M28 : KM), j919 M28 = some 1 → KV ad cy x o 919 [(0, .ref b), (1, .ref (ad a1)), (3, .ref (ad a3)), (4, .int c4), (5, .int c5), (6, .int c6), (7, .int c7), (8, .int c8), (9, .int v12), (10, .int x20), (11, .int w11)] [] M28 := by
                        intro M28 hf
                        rw [ej919] at hf
                        obtain ⟨v29, ev29⟩ : ∃ q : Int32, q = w11 + (1 : Int32) := ⟨_, rfl⟩
                        replace hf := lt_e hf ev29
                        refine v_iinc v29 [(11, .int v29), (0, .ref b), (1, .ref (ad a1)), (3, .ref (ad a3)), (4, .int c4), (5, .int c5), (6, .int c6), (7, .int c7), (8, .int c8), (9, .int v12), (10, .int x20)] G dL_law_919 10 rfl (by rw [ev29]; rfl) (by decide) rfl ?_
                        refine v_goto 145 G dL_law_922 (by decide) ?_
                        refine v_sub _ [1, 2, 3, 4, 5, 6, 7, 8, 9, 10, 0] rfl ?_
                        exact ih v12 x20 v29 M28 hf
                      refine v_if_eq 379 G dL_law_373 (by decide) (fun h126 => ?_) (fun h126 => ?_)
                      · replace hf := (if_pos h126).symm.trans hf
                        refine v_aload_n G dL_law_379 1 rfl ?_
                        refine v_iload G dL_law_380 10 rfl ?_
                        obtain ⟨v30, hcv30, hf⟩ := bd_e hf
                        refine v_callV [.int w11] G (c_X11_reach n h1 hcv30) h1 (by decide) rfl rfl rfl t_750 t_751 t_752 t_1 t_753 nm_X11_reach (by decide) (by decide) rfl rfl (Nat.le_of_ble_eq_true rfl) dL_law_382 (kv_ri ?_)
                        refine v_istore [(15, .int v30.1), (0, .ref b), (1, .ref (ad a1)), (3, .ref (ad a3)), (4, .int c4), (5, .int c5), (6, .int c6), (7, .int c7), (8, .int c8), (9, .int v12), (10, .int x20), (11, .int w11), (12, .int x10)] G dL_law_385 (by decide) rfl ?_
                        refine v_aload_n G dL_law_387 2 rfl ?_
                        obtain ⟨v31, hcv31, hf⟩ := bd_e hf
                        refine v_callV [] G (c_X11_stuck n h1 hcv31) h1 (by decide) rfl rfl rfl t_738 t_739 t_740 t_1 t_741 nm_X11_stuck (by decide) (by decide) rfl rfl (Nat.le_of_ble_eq_true rfl) dL_law_388 (kv_ri ?_)
                        refine v_iload G dL_law_391 11 rfl ?_
                        refine v_ishr G dL_law_393 ?_
                        refine v_iconst (1 : Int32) G dL_law_394 (by decide) ?_
                        refine v_iand G dL_law_395 ?_
                        refine v_iconst (1 : Int32) G dL_law_396 (by decide) ?_
                        obtain ⟨j411, ej411, hf⟩ := lt_j hf
                        have hj411 : j411 = some 1 → KV ad cy x o 411 [(0, .ref b), (1, .ref (ad a1)), (3, .ref (ad a3)), (4, .int c4), (5, .int c5), (6, .int c6), (7, .int c7), (8, .int c8), (9, .int v12), (10, .int x20), (11, .int w11), (15, .int v30.1)] [] v31.2 := by
                          intro hf
                          rw [ej411] at hf
                          refine v_iconst (0 : Int32) G dL_law_411 (by decide) ?_
                          refine v_istore [(16, .int (0 : Int32)), (0, .ref b), (1, .ref (ad a1)), (3, .ref (ad a3)), (4, .int c4), (5, .int c5), (6, .int c6), (7, .int c7), (8, .int c8), (9, .int v12), (10, .int x20), (11, .int w11), (15, .int v30.1)] G dL_law_412 (by decide) rfl ?_
                          refine v_sub _ [1, 2, 3, 4, 5, 6, 7, 8, 9, 10, 11, 12, 0] rfl ?_
                          refine s_L_law_414 G Ln xs GW GL h1 h3 (fun M101 hf => ?_) n (0 : Int32) v31.2 hf
                          · refine v_iconst (0 : Int32) G dL_law_781 (by decide) ?_
                            refine v_istore [(16, .int (0 : Int32)), (0, .ref b), (1, .ref (ad a1)), (3, .ref (ad a3)), (4, .int c4), (5, .int c5), (6, .int c6), (7, .int c7), (8, .int c8), (9, .int v12), (10, .int x20), (11, .int w11)] G dL_law_782 (by decide) rfl ?_
                            refine v_sub _ [1, 2, 3, 4, 5, 6, 7, 8, 9, 10, 11, 0] rfl ?_
                            refine s_L_law_784 G Ln xs GW GL h1 h3 (fun M122 hf => ?_) n (0 : Int32) M101 hf
                            · refine v_sub _ [0, 1, 2, 3, 4, 5, 6, 7, 8, 9, 10] rfl ?_
                              exact hj919 M122 hf
                        refine v_icmp_ne 411 G dL_law_397 (by decide) (fun h125 => ?_) (fun h125 => ?_)
                        · replace hf := (if_neg h125).symm.trans hf
                          refine v_sub _ [1, 2, 3, 4, 5, 6, 7, 8, 9, 10, 11, 0] rfl ?_
                          exact hj411 hf
                        · replace hf := (if_pos h125).symm.trans hf
                          refine v_iload G dL_law_400 0 rfl ?_
                          obtain ⟨v123, hcv123, hf⟩ := bd_e hf
                          refine v_callS [.int v30.1] G (c_L_size n hcv123) t_1280 t_1281 t_0 t_1282 nm_L_size (by decide) (by decide) rfl rfl (Nat.le_of_ble_eq_true rfl) dL_law_402 (kv_ri ?_)
                          refine v_iconst (1 : Int32) G dL_law_405 (by decide) ?_
                          refine v_icmp_eq 411 G dL_law_406 (by decide) (fun h124 => ?_) (fun h124 => ?_)
                          · replace hf := (if_pos h124).symm.trans hf
                            refine v_sub _ [1, 2, 3, 4, 5, 6, 7, 8, 9, 10, 11, 0] rfl ?_
                            exact hj411 hf
                          · replace hf := (if_neg h124).symm.trans hf
                            refine v_iconst (0 : Int32) G dL_law_409 (by decide) ?_
                            exact absurd (Option.some.inj hf) (by decide)
                      · replace hf := (if_neg h126).symm.trans hf
                        refine v_goto 919 G dL_law_376 (by decide) ?_
                        refine v_sub _ [0, 1, 2, 3, 4, 5, 6, 7, 8, 9, 10] rfl ?_
                        exact hj919 M27 hf
                  refine v_if_lt 333 G dL_law_297 (by decide) (fun h131 => ?_) (fun h131 => ?_)
                  · replace hf := (if_pos h131).symm.trans hf
                    refine v_sub _ [1, 2, 3, 4, 5, 6, 7, 8, 9, 10, 11, 12] rfl ?_
                    exact hj333 w10 v19.2 hf
                  · replace hf := (if_neg h131).symm.trans hf
                    obtain ⟨v127, ev127⟩ : ∃ q : Int32, q = w10 + (1 : Int32) := ⟨_, rfl⟩
                    replace hf := lt_e hf ev127
                    refine v_iinc v127 [(10, .int v127), (14, .int v19.1), (0, .ref b), (1, .ref (ad a1)), (3, .ref (ad a3)), (4, .int c4), (5, .int c5), (6, .int c6), (7, .int c7), (8, .int c8), (9, .int v12), (11, .int w11), (12, .int x10)] G dL_law_300 10 rfl (by rw [ev127]; rfl) (by decide) rfl ?_
                    refine v_aload_n G dL_law_303 3 rfl ?_
                    refine v_iload G dL_law_304 1 rfl ?_
                    obtain ⟨v128, hcv128, hf⟩ := bd_e hf
                    refine v_callV [.int v19.1] G (c_X11_pair n h1 hcv128) h1 (by decide) rfl rfl rfl t_851 t_852 t_853 t_1 t_854 nm_X11_pair (by decide) (by decide) rfl rfl (Nat.le_of_ble_eq_true rfl) dL_law_306 (kv_ri ?_)
                    refine v_iload G dL_law_309 11 rfl ?_
                    refine v_icmp_ne 331 G dL_law_311 (by decide) (fun h130 => ?_) (fun h130 => ?_)
                    · replace hf := (if_neg h130).symm.trans hf
                      refine v_iconst (0 : Int32) G dL_law_331 (by decide) ?_
                      exact absurd (Option.some.inj hf) (by decide)
                    · replace hf := (if_pos h130).symm.trans hf
                      refine v_iload G dL_law_314 9 rfl ?_
                      refine v_iload G dL_law_316 11 rfl ?_
                      refine v_ishr G dL_law_318 ?_
                      refine v_iconst (1 : Int32) G dL_law_319 (by decide) ?_
                      refine v_iand G dL_law_320 ?_
                      refine v_iload G dL_law_321 9 rfl ?_
                      refine v_iload G dL_law_323 1 rfl ?_
                      refine v_ishr G dL_law_325 ?_
                      refine v_iconst (1 : Int32) G dL_law_326 (by decide) ?_
                      refine v_iand G dL_law_327 ?_
                      refine v_icmp_ne 333 G dL_law_328 (by decide) (fun h129 => ?_) (fun h129 => ?_)
                      · replace hf := (if_neg h129).symm.trans hf
                        refine v_sub _ [2, 3, 4, 5, 6, 7, 8, 9, 10, 0, 11, 12] rfl ?_
                        exact hj333 v127 v128.2 hf
                      · replace hf := (if_pos h129).symm.trans hf
                        refine v_iconst (0 : Int32) G dL_law_331 (by decide) ?_
                        exact absurd (Option.some.inj hf) (by decide)
                refine v_if_lt 287 G dL_law_233 (by decide) (fun h141 => ?_) (fun h141 => ?_)
                · replace hf := (if_pos h141).symm.trans hf
                  refine v_sub _ [0, 1, 2, 3, 4, 5, 6, 7, 8, 9, 10, 11] rfl ?_
                  exact hj287 v16.2 hf
                · replace hf := (if_neg h141).symm.trans hf
                  refine v_iload G dL_law_236 11 rfl ?_
                  refine v_if_eq 285 G dL_law_238 (by decide) (fun h140 => ?_) (fun h140 => ?_)
                  · replace hf := (if_pos h140).symm.trans hf
                    refine v_iconst (0 : Int32) G dL_law_285 (by decide) ?_
                    exact absurd (Option.some.inj hf) (by decide)
                  · replace hf := (if_neg h140).symm.trans hf
                    refine v_aload_n G dL_law_241 1 rfl ?_
                    refine v_iload G dL_law_242 12 rfl ?_
                    refine v_iconst (2 : Int32) G dL_law_244 (by decide) ?_
                    obtain ⟨v132, hcv132, hf⟩ := bd_e hf
                    refine v_callV [.int v13.1, .int (2 : Int32)] G (c_X11_person n h1 hcv132) h1 (by decide) rfl rfl rfl t_581 t_582 t_583 t_1 t_584 nm_X11_person (by decide) (by decide) rfl rfl (Nat.le_of_ble_eq_true rfl) dL_law_245 (kv_ri ?_)
                    refine v_aload_n G dL_law_248 1 rfl ?_
                    refine v_iload G dL_law_249 10 rfl ?_
                    refine v_iconst (2 : Int32) G dL_law_251 (by decide) ?_
                    obtain ⟨v133, hcv133, hf⟩ := bd_e hf
                    refine v_callV [.int w11, .int (2 : Int32)] G (c_X11_person n h1 hcv133) h1 (by decide) rfl rfl rfl t_581 t_582 t_583 t_1 t_584 nm_X11_person (by decide) (by decide) rfl rfl (Nat.le_of_ble_eq_true rfl) dL_law_252 (kv_ri ?_)
                    refine v_icmp_ne 285 G dL_law_255 (by decide) (fun h139 => ?_) (fun h139 => ?_)
                    · replace hf := (if_neg h139).symm.trans hf
                      refine v_iconst (0 : Int32) G dL_law_285 (by decide) ?_
                      exact absurd (Option.some.inj hf) (by decide)
                    · replace hf := (if_pos h139).symm.trans hf
                      refine v_aload_n G dL_law_258 1 rfl ?_
                      refine v_iload G dL_law_259 12 rfl ?_
                      refine v_iconst (1 : Int32) G dL_law_261 (by decide) ?_
                      obtain ⟨v134, hcv134, hf⟩ := bd_e hf
                      refine v_callV [.int v13.1, .int (1 : Int32)] G (c_X11_person n h1 hcv134) h1 (by decide) rfl rfl rfl t_581 t_582 t_583 t_1 t_584 nm_X11_person (by decide) (by decide) rfl rfl (Nat.le_of_ble_eq_true rfl) dL_law_262 (kv_ri ?_)
                      refine v_aload_n G dL_law_265 1 rfl ?_
                      refine v_iload G dL_law_266 10 rfl ?_
                      refine v_iconst (1 : Int32) G dL_law_268 (by decide) ?_
                      obtain ⟨v135, hcv135, hf⟩ := bd_e hf
                      refine v_callV [.int w11, .int (1 : Int32)] G (c_X11_person n h1 hcv135) h1 (by decide) rfl rfl rfl t_581 t_582 t_583 t_1 t_584 nm_X11_person (by decide) (by decide) rfl rfl (Nat.le_of_ble_eq_true rfl) dL_law_269 (kv_ri ?_)
                      refine v_icmp_ne 285 G dL_law_272 (by decide) (fun h138 => ?_) (fun h138 => ?_)
                      · replace hf := (if_neg h138).symm.trans hf
                        refine v_iconst (0 : Int32) G dL_law_285 (by decide) ?_
                        exact absurd (Option.some.inj hf) (by decide)
                      · replace hf := (if_pos h138).symm.trans hf
                        refine v_aload_n G dL_law_275 1 rfl ?_
                        refine v_iload G dL_law_276 12 rfl ?_
                        refine v_iconst (3 : Int32) G dL_law_278 (by decide) ?_
                        obtain ⟨v136, hcv136, hf⟩ := bd_e hf
                        refine v_callV [.int v13.1, .int (3 : Int32)] G (c_X11_person n h1 hcv136) h1 (by decide) rfl rfl rfl t_581 t_582 t_583 t_1 t_584 nm_X11_person (by decide) (by decide) rfl rfl (Nat.le_of_ble_eq_true rfl) dL_law_279 (kv_ri ?_)
                        refine v_if_lt 287 G dL_law_282 (by decide) (fun h137 => ?_) (fun h137 => ?_)
                        · replace hf := (if_pos h137).symm.trans hf
                          refine v_sub _ [0, 1, 2, 3, 4, 5, 6, 7, 8, 9, 10, 11] rfl ?_
                          exact hj287 v136.2 hf
                        · replace hf := (if_neg h137).symm.trans hf
                          refine v_iconst (0 : Int32) G dL_law_285 (by decide) ?_
                          exact absurd (Option.some.inj hf) (by decide)
            refine v_if_le 227 G dL_law_220 (by decide) (fun h143 => ?_) (fun h143 => ?_)
            · replace hf := (if_pos h143).symm.trans hf
              refine v_iconst (0 : Int32) G dL_law_227 (by decide) ?_
              refine v_sub _ [0, 1, 2, 3, 4, 5, 6, 7, 8, 9, 10, 11, 12] rfl ?_
              exact hj228 (0 : Int32) hf
            · replace hf := (if_neg h143).symm.trans hf
              refine v_iconst (1 : Int32) G dL_law_223 (by decide) ?_
              refine v_goto 228 G dL_law_224 (by decide) ?_
              refine v_sub _ [0, 1, 2, 3, 4, 5, 6, 7, 8, 9, 10, 11, 12] rfl ?_
              exact hj228 (1 : Int32) hf
        refine v_if_lt 207 G dL_law_200 (by decide) (fun h145 => ?_) (fun h145 => ?_)
        · replace hf := (if_pos h145).symm.trans hf
          refine v_iconst (0 : Int32) G dL_law_207 (by decide) ?_
          refine v_sub _ [3, 4, 5, 6, 7, 8, 9, 10, 1, 11, 12, 2, 0] rfl ?_
          exact hj208 (0 : Int32) hf
        · replace hf := (if_neg h145).symm.trans hf
          refine v_iconst (1 : Int32) G dL_law_203 (by decide) ?_
          refine v_goto 208 G dL_law_204 (by decide) ?_
          refine v_sub _ [3, 4, 5, 6, 7, 8, 9, 10, 1, 11, 12, 2, 0] rfl ?_
          exact hj208 (1 : Int32) hf
      refine v_icmp_ne 168 G dL_law_161 (by decide) (fun h146 => ?_) (fun h146 => ?_)
      · replace hf := (if_neg h146).symm.trans hf
        refine v_iconst (0 : Int32) G dL_law_168 (by decide) ?_
        refine v_sub _ [0, 1, 2, 3, 4, 5, 6, 7, 8, 9, 10] rfl ?_
        exact hj169 (0 : Int32) hf
      · replace hf := (if_pos h146).symm.trans hf
        refine v_iconst (1 : Int32) G dL_law_164 (by decide) ?_
        refine v_goto 169 G dL_law_165 (by decide) ?_
        refine v_sub _ [0, 1, 2, 3, 4, 5, 6, 7, 8, 9, 10] rfl ?_
        exact hj169 (1 : Int32) hf
set_option maxRecDepth 100000 in
set_option maxHeartbeats 4000000 in
theorem s_L_law_1095 {ad : Nat → Nat} {cy : Nat → ClassId} {x : KX} (G : KG ad cy x cL_law "NoonGuidesLaw" 21 none 12) (Ln : Nat) (xs : Nat → Int32) {a1 : Nat} {a3 : Nat} {c4 : Int32} {c5 : Int32} {c6 : Int32} {b : Nat} {aK aV : Nat → Nat} (GW : KWx b Ln xs aK aV x) (GL : KLw x b) (h1 : kty a1 = 11) (h3 : kty a3 = 35) {k1186 : KM → Option Int32} {o : KO} (hk1186 : ∀ (M : KM), k1186 M = some 1 → KV ad cy x o 1186 [(0, .ref b), (1, .ref (ad a1)), (3, .ref (ad a3)), (4, .int c4), (5, .int c5), (6, .int c6)] [] M) : ∀ (n : Nat) (w16 : Int32) (M : KM), lp_L_law_1095 n Ln xs a1 a3 c4 c5 c6 w16 M k1186 = some 1 → KV ad cy x o 1095 [(0, .ref b), (1, .ref (ad a1)), (3, .ref (ad a3)), (4, .int c4), (5, .int c5), (6, .int c6), (16, .int w16)] [] M := by
  intro n
  induction n with
  | zero =>
    intro w16 M hf
    cases hf
  | succ n ih =>
    intro w16 M hf
    rw [lp_L_law_1095] at hf
    refine v_iload G dL_law_1095 6 rfl ?_
    refine v_aload_n G dL_law_1097 2 rfl ?_
    refine v_iconst (2 : Int32) G dL_law_1098 (by decide) ?_
    obtain ⟨g168, hf⟩ := gd_e hf
    refine al_35 G h3 g168 dL_law_1099 ?_
    refine v_icmp_ge 1186 G dL_law_1100 (by decide) (fun h180 => ?_) (fun h180 => ?_)
    · replace hf := (if_pos h180).symm.trans hf
      refine v_sub _ [0, 1, 2, 3, 4, 5] rfl ?_
      exact hk1186 M hf
    · replace hf := (if_neg h180).symm.trans hf
      refine v_iload G dL_law_1103 5 rfl ?_
      refine v_iload G dL_law_1105 6 rfl ?_
      refine v_iconst (2 : Int32) G dL_law_1107 (by decide) ?_
      refine v_iadd G dL_law_1108 ?_
      refine v_ishr G dL_law_1109 ?_
      refine v_iconst (3 : Int32) G dL_law_1110 (by decide) ?_
      refine v_iand G dL_law_1111 ?_
      refine v_aload_n G dL_law_1112 2 rfl ?_
      refine v_iconst (0 : Int32) G dL_law_1113 (by decide) ?_
      obtain ⟨g169, hf⟩ := gd_e hf
      refine al_35 G h3 g169 dL_law_1114 ?_
      obtain ⟨g170, hf⟩ := gd_e hf
      refine v_irem G dL_law_1115 g170 ?_
      refine v_nmi (fun v171 ev171 => ?_)
      replace hf := lt_e hf ev171
      refine v_istore [(17, .int v171), (0, .ref b), (1, .ref (ad a1)), (3, .ref (ad a3)), (4, .int c4), (5, .int c5), (6, .int c6), (16, .int w16)] G dL_law_1116 (by decide) rfl ?_
      refine v_iload G dL_law_1118 6 rfl ?_
      refine v_iconst (4 : Int32) G dL_law_1120 (by decide) ?_
      refine v_ishr G dL_law_1121 ?_
      refine v_bipush (15 : Int32) G dL_law_1122 (by decide) ?_
      refine v_iand G dL_law_1124 ?_
      refine v_iconst (1 : Int32) G dL_law_1125 (by decide) ?_
      refine v_aload_n G dL_law_1126 3 rfl ?_
      refine v_iconst (2 : Int32) G dL_law_1127 (by decide) ?_
      obtain ⟨g172, hf⟩ := gd_e hf
      refine al_35 G h3 g172 dL_law_1128 ?_
      refine v_ishl G dL_law_1129 ?_
      refine v_iconst (1 : Int32) G dL_law_1130 (by decide) ?_
      refine v_isub G dL_law_1131 ?_
      refine v_iand G dL_law_1132 ?_
      refine v_iconst (1 : Int32) G dL_law_1133 (by decide) ?_
      refine v_iload G dL_law_1134 7 rfl ?_
      refine v_ishl G dL_law_1136 ?_
      refine v_iconst (-1 : Int32) G dL_law_1137 (by decide) ?_
      refine v_ixor G dL_law_1138 ?_
      refine v_iand G dL_law_1139 ?_
      refine v_nmi (fun v173 ev173 => ?_)
      replace hf := lt_e hf ev173
      refine v_istore [(18, .int v173), (17, .int v171), (0, .ref b), (1, .ref (ad a1)), (3, .ref (ad a3)), (4, .int c4), (5, .int c5), (6, .int c6), (16, .int w16)] G dL_law_1140 (by decide) rfl ?_
      refine v_iload G dL_law_1142 7 rfl ?_
      refine v_iload G dL_law_1144 8 rfl ?_
      refine v_ishr G dL_law_1146 ?_
      refine v_iconst (1 : Int32) G dL_law_1147 (by decide) ?_
      refine v_iand G dL_law_1148 ?_
      obtain ⟨j1180, ej1180, hf⟩ := lt_j hf
      have hj1180 : ∀ (M174 : KM), j1180 M174 = some 1 → KV ad cy x o 1180 [(0, .ref b), (1, .ref (ad a1)), (3, .ref (ad a3)), (4, .int c4), (5, .int c5), (6, .int c6), (16, .int w16)] [] M174 := by
        intro M174 hf
        rw [ej1180] at hf
        obtain ⟨v175, ev175⟩ : ∃ q : Int32, q = w16 + (1 : Int32) := ⟨_, rfl⟩
        replace hf := lt_e hf ev175
        refine v_iinc v175 [(16, .int v175), (0, .ref b), (1, .ref (ad a1)), (3, .ref (ad a3)), (4, .int c4), (5, .int c5), (6, .int c6)] G dL_law_1180 6 rfl (by rw [ev175]; rfl) (by decide) rfl ?_
        refine v_goto 1095 G dL_law_1183 (by decide) ?_
        refine v_sub _ [1, 2, 3, 4, 5, 6, 0] rfl ?_
        exact ih v175 M174 hf
      obtain ⟨j1171, ej1171, hf⟩ := lt_j hf
      have hj1171 : j1171 = some 1 → KV ad cy x o 1171 [(0, .ref b), (1, .ref (ad a1)), (3, .ref (ad a3)), (4, .int c4), (5, .int c5), (6, .int c6), (16, .int w16), (17, .int v171)] [] M := by
        intro hf
        rw [ej1171] at hf
        refine v_aload_n G dL_law_1171 1 rfl ?_
        refine v_iload G dL_law_1172 6 rfl ?_
        refine v_iload G dL_law_1174 7 rfl ?_
        obtain ⟨v176, hcv176, hf⟩ := bd_e hf
        refine v_callV [.int w16, .int v171] G (c_X11_go n h1 hcv176) h1 (by decide) rfl rfl rfl t_676 t_677 t_678 t_1 t_679 nm_X11_go (by decide) (by decide) rfl rfl (Nat.le_of_ble_eq_true rfl) dL_law_1176 (kv_ri ?_)
        refine v_pop G dL_law_1179 rfl ?_
        refine v_sub _ [0, 1, 2, 3, 4, 5, 6] rfl ?_
        exact hj1180 v176.2 hf
      refine v_if_ne 1171 G dL_law_1149 (by decide) (fun h179 => ?_) (fun h179 => ?_)
      · replace hf := (if_neg h179).symm.trans hf
        refine v_sub _ [2, 3, 4, 5, 6, 7, 8, 1] rfl ?_
        exact hj1171 hf
      · replace hf := (if_pos h179).symm.trans hf
        refine v_iload G dL_law_1152 0 rfl ?_
        refine v_if_le 1171 G dL_law_1154 (by decide) (fun h178 => ?_) (fun h178 => ?_)
        · replace hf := (if_pos h178).symm.trans hf
          refine v_sub _ [2, 3, 4, 5, 6, 7, 8, 1] rfl ?_
          exact hj1171 hf
        · replace hf := (if_neg h178).symm.trans hf
          refine v_aload_n G dL_law_1157 3 rfl ?_
          refine v_iload G dL_law_1158 8 rfl ?_
          refine v_iload G dL_law_1160 0 rfl ?_
          refine v_iload G dL_law_1162 1 rfl ?_
          obtain ⟨v177, hcv177, hf⟩ := bd_e hf
          refine v_callV [.int w16, .int v173, .int v171] G (c_X11_lead n h1 hcv177) h1 (by decide) rfl rfl rfl t_702 t_703 t_704 t_1 t_705 nm_X11_lead (by decide) (by decide) rfl rfl (Nat.le_of_ble_eq_true rfl) dL_law_1164 (kv_ri ?_)
          refine v_pop G dL_law_1167 rfl ?_
          refine v_goto 1180 G dL_law_1168 (by decide) ?_
          refine v_sub _ [2, 3, 4, 5, 6, 7, 8] rfl ?_
          exact hj1180 v177.2 hf
set_option maxRecDepth 100000 in
set_option maxHeartbeats 4000000 in
theorem s_L_law_54 {ad : Nat → Nat} {cy : Nat → ClassId} {x : KX} (G : KG ad cy x cL_law "NoonGuidesLaw" 21 none 12) (Ln : Nat) (xs : Nat → Int32) {a1 : Nat} {a3 : Nat} {c4 : Int32} {b : Nat} {aK aV : Nat → Nat} (GW : KWx b Ln xs aK aV x) (GL : KLw x b) (h1 : kty a1 = 11) (h3 : kty a3 = 35) {o : KO} : ∀ (n : Nat) (w5 : Int32) (M : KM), lp_L_law_54 n Ln xs a1 a3 c4 w5 M = some 1 → KV ad cy x o 54 [(0, .ref b), (1, .ref (ad a1)), (3, .ref (ad a3)), (4, .int c4), (5, .int w5)] [] M := by
  intro n
  induction n with
  | zero =>
    intro w5 M hf
    cases hf
  | succ n ih =>
    intro w5 M hf
    rw [lp_L_law_54] at hf
    refine v_iload G dL_law_54 4 rfl ?_
    refine v_bipush (7 : Int32) G dL_law_56 (by decide) ?_
    refine v_icmp_ge 1222 G dL_law_58 (by decide) (fun h201 => ?_) (fun h201 => ?_)
    · replace hf := (if_pos h201).symm.trans hf
      refine v_iconst (1 : Int32) G dL_law_1222 (by decide) ?_
      exact v_law1 (rest := []) G GL dL_law_1223
    · replace hf := (if_neg h201).symm.trans hf
      refine v_iload G dL_law_61 4 rfl ?_
      refine v_aload_n G dL_law_63 0 rfl ?_
      refine v_slen G GW dL_law_64 ?_
      obtain ⟨j92, ej92, hf⟩ := lt_j hf
      have hj92 : ∀ (x4 : Int32), j92 x4 = some 1 → KV ad cy x o 92 [(0, .ref b), (1, .ref (ad a1)), (3, .ref (ad a3)), (4, .int c4), (5, .int w5)] [.int x4] M := by
        intro x4 hf
        rw [ej92] at hf
        refine v_istore [(6, .int x4), (0, .ref b), (1, .ref (ad a1)), (3, .ref (ad a3)), (4, .int c4), (5, .int w5)] G dL_law_92 (by decide) rfl ?_
        refine v_aload_n G dL_law_94 2 rfl ?_
        refine v_bipush (12 : Int32) G dL_law_95 (by decide) ?_
        obtain ⟨v5, hcv5, hf⟩ := bd_e hf
        refine v_callV [.int (12 : Int32)] G (c_X11_many n h1 hcv5) h1 (by decide) rfl rfl rfl t_517 t_518 t_519 t_1 t_520 nm_X11_many (by decide) (by decide) rfl rfl (Nat.le_of_ble_eq_true rfl) dL_law_97 (kv_ri ?_)
        refine v_istore [(7, .int v5.1), (6, .int x4), (0, .ref b), (1, .ref (ad a1)), (3, .ref (ad a3)), (4, .int c4), (5, .int w5)] G dL_law_100 (by decide) rfl ?_
        refine v_aload_n G dL_law_102 3 rfl ?_
        refine v_bipush (11 : Int32) G dL_law_103 (by decide) ?_
        obtain ⟨v6, hcv6, hf⟩ := bd_e hf
        refine v_callV [.int (11 : Int32)] G (c_X11_many n h1 hcv6) h1 (by decide) rfl rfl rfl t_517 t_518 t_519 t_1 t_520 nm_X11_many (by decide) (by decide) rfl rfl (Nat.le_of_ble_eq_true rfl) dL_law_105 (kv_ri ?_)
        refine v_istore [(8, .int v6.1), (7, .int v5.1), (6, .int x4), (0, .ref b), (1, .ref (ad a1)), (3, .ref (ad a3)), (4, .int c4), (5, .int w5)] G dL_law_108 (by decide) rfl ?_
        refine v_iconst (0 : Int32) G dL_law_110 (by decide) ?_
        refine v_istore [(9, .int (0 : Int32)), (8, .int v6.1), (7, .int v5.1), (6, .int x4), (0, .ref b), (1, .ref (ad a1)), (3, .ref (ad a3)), (4, .int c4), (5, .int w5)] G dL_law_111 (by decide) rfl ?_
        refine v_aload_n G dL_law_113 5 rfl ?_
        refine v_bipush (13 : Int32) G dL_law_114 (by decide) ?_
        obtain ⟨v7, hcv7, hf⟩ := bd_e hf
        refine v_callV [.int (13 : Int32)] G (c_X11_many n h1 hcv7) h1 (by decide) rfl rfl rfl t_517 t_518 t_519 t_1 t_520 nm_X11_many (by decide) (by decide) rfl rfl (Nat.le_of_ble_eq_true rfl) dL_law_116 (kv_ri ?_)
        refine v_iload G dL_law_119 2 rfl ?_
        refine v_iconst (-1 : Int32) G dL_law_121 (by decide) ?_
        refine v_ixor G dL_law_122 ?_
        refine v_iand G dL_law_123 ?_
        refine v_if_ne 137 G dL_law_124 (by decide) (fun h198 => ?_) (fun h198 => ?_)
        · replace hf := (if_neg h198).symm.trans hf
          refine v_iconst (0 : Int32) G dL_law_137 (by decide) ?_
          exact absurd (Option.some.inj hf) (by decide)
        · replace hf := (if_pos h198).symm.trans hf
          refine v_aload_n G dL_law_127 5 rfl ?_
          obtain ⟨v8, hcv8, hf⟩ := bd_e hf
          refine v_callV [] G (c_X11_stuck n h1 hcv8) h1 (by decide) rfl rfl rfl t_738 t_739 t_740 t_1 t_741 nm_X11_stuck (by decide) (by decide) rfl rfl (Nat.le_of_ble_eq_true rfl) dL_law_128 (kv_ri ?_)
          refine v_iload G dL_law_131 2 rfl ?_
          refine v_iand G dL_law_133 ?_
          refine v_if_eq 139 G dL_law_134 (by decide) (fun h197 => ?_) (fun h197 => ?_)
          · replace hf := (if_pos h197).symm.trans hf
            refine v_iconst (0 : Int32) G dL_law_139 (by decide) ?_
            refine v_istore [(10, .int (0 : Int32)), (9, .int (0 : Int32)), (8, .int v6.1), (7, .int v5.1), (6, .int x4), (0, .ref b), (1, .ref (ad a1)), (3, .ref (ad a3)), (4, .int c4), (5, .int w5)] G dL_law_140 (by decide) rfl ?_
            refine v_iconst (0 : Int32) G dL_law_142 (by decide) ?_
            refine v_istore [(11, .int (0 : Int32)), (10, .int (0 : Int32)), (9, .int (0 : Int32)), (8, .int v6.1), (7, .int v5.1), (6, .int x4), (0, .ref b), (1, .ref (ad a1)), (3, .ref (ad a3)), (4, .int c4), (5, .int w5)] G dL_law_143 (by decide) rfl ?_
            refine v_sub _ [6, 7, 8, 9, 10, 5, 4, 3, 2, 1, 0] rfl ?_
            refine s_L_law_145 G Ln xs GW GL h1 h3 (fun u148 u149 M150 hf => ?_) n (0 : Int32) (0 : Int32) (0 : Int32) v8.2 hf
            · refine v_iload G dL_law_925 7 rfl ?_
              refine v_if_ne 948 G dL_law_927 (by decide) (fun h196 => ?_) (fun h196 => ?_)
              · replace hf := (if_neg h196).symm.trans hf
                refine v_iconst (0 : Int32) G dL_law_948 (by decide) ?_
                exact absurd (Option.some.inj hf) (by decide)
              · replace hf := (if_pos h196).symm.trans hf
                refine v_iload G dL_law_930 8 rfl ?_
                refine v_iconst (2 : Int32) G dL_law_932 (by decide) ?_
                refine v_aload_n G dL_law_933 1 rfl ?_
                obtain ⟨v151, hcv151, hf⟩ := bd_e hf
                refine v_callV [] G (c_X11_pairs n h1 hcv151) h1 (by decide) rfl rfl rfl t_866 t_867 t_868 t_1 t_869 nm_X11_pairs (by decide) (by decide) rfl rfl (Nat.le_of_ble_eq_true rfl) dL_law_934 (kv_ri ?_)
                refine v_imul G dL_law_937 ?_
                refine v_icmp_ne 948 G dL_law_938 (by decide) (fun h195 => ?_) (fun h195 => ?_)
                · replace hf := (if_neg h195).symm.trans hf
                  refine v_iconst (0 : Int32) G dL_law_948 (by decide) ?_
                  exact absurd (Option.some.inj hf) (by decide)
                · replace hf := (if_pos h195).symm.trans hf
                  refine v_aload_n G dL_law_941 1 rfl ?_
                  obtain ⟨v152, hcv152, hf⟩ := bd_e hf
                  refine v_callV [] G (c_X11_pairsOwe n h1 hcv152) h1 (by decide) rfl rfl rfl t_874 t_875 t_876 t_1 t_877 nm_X11_pairsOwe (by decide) (by decide) rfl rfl (Nat.le_of_ble_eq_true rfl) dL_law_942 (kv_ri ?_)
                  refine v_if_ge 950 G dL_law_945 (by decide) (fun h194 => ?_) (fun h194 => ?_)
                  · replace hf := (if_pos h194).symm.trans hf
                    refine v_iconst (1 : Int32) G dL_law_950 (by decide) ?_
                    refine v_iload G dL_law_951 5 rfl ?_
                    refine v_bipush (127 : Int32) G dL_law_953 (by decide) ?_
                    refine v_iand G dL_law_955 ?_
                    refine v_iadd G dL_law_956 ?_
                    refine v_nmi (fun v153 ev153 => ?_)
                    replace hf := lt_e hf ev153
                    refine v_istore [(11, .int v153), (0, .ref b), (1, .ref (ad a1)), (3, .ref (ad a3)), (4, .int c4), (5, .int w5), (6, .int x4), (7, .int v5.1), (9, .int u148), (10, .int u149)] G dL_law_957 (by decide) rfl ?_
                    refine v_aload_n G dL_law_959 2 rfl ?_
                    refine v_iload G dL_law_960 0 rfl ?_
                    obtain ⟨v154, hcv154, hf⟩ := bd_e hf
                    refine v_callV [.int v153] G (c_X11_lostIn n h1 hcv154) h1 (by decide) rfl rfl rfl t_885 t_886 t_887 t_1 t_888 nm_X11_lostIn (by decide) (by decide) rfl rfl (Nat.le_of_ble_eq_true rfl) dL_law_962 (kv_ri ?_)
                    refine v_istore [(12, .int v154.1), (11, .int v153), (0, .ref b), (1, .ref (ad a1)), (3, .ref (ad a3)), (4, .int c4), (5, .int w5), (6, .int x4), (7, .int v5.1), (9, .int u148), (10, .int u149)] G dL_law_965 (by decide) rfl ?_
                    refine v_aload_n G dL_law_967 3 rfl ?_
                    refine v_bipush (14 : Int32) G dL_law_968 (by decide) ?_
                    obtain ⟨v155, hcv155, hf⟩ := bd_e hf
                    refine v_callV [.int (14 : Int32)] G (c_X11_many n h1 hcv155) h1 (by decide) rfl rfl rfl t_517 t_518 t_519 t_1 t_520 nm_X11_many (by decide) (by decide) rfl rfl (Nat.le_of_ble_eq_true rfl) dL_law_970 (kv_ri ?_)
                    refine v_istore [(13, .int v155.1), (12, .int v154.1), (11, .int v153), (0, .ref b), (1, .ref (ad a1)), (3, .ref (ad a3)), (4, .int c4), (5, .int w5), (6, .int x4), (7, .int v5.1), (9, .int u148), (10, .int u149)] G dL_law_973 (by decide) rfl ?_
                    refine v_aload_n G dL_law_975 4 rfl ?_
                    refine v_iload G dL_law_976 2 rfl ?_
                    refine v_aload_n G dL_law_978 4 rfl ?_
                    refine v_iconst (3 : Int32) G dL_law_979 (by decide) ?_
                    obtain ⟨v156, hcv156, hf⟩ := bd_e hf
                    refine v_callV [.int (3 : Int32)] G (c_X11_many n h1 hcv156) h1 (by decide) rfl rfl rfl t_517 t_518 t_519 t_1 t_520 nm_X11_many (by decide) (by decide) rfl rfl (Nat.le_of_ble_eq_true rfl) dL_law_980 (kv_ri ?_)
                    refine v_aload_n G dL_law_983 4 rfl ?_
                    refine v_iconst (4 : Int32) G dL_law_984 (by decide) ?_
                    obtain ⟨v157, hcv157, hf⟩ := bd_e hf
                    refine v_callV [.int (4 : Int32)] G (c_X11_many n h1 hcv157) h1 (by decide) rfl rfl rfl t_517 t_518 t_519 t_1 t_520 nm_X11_many (by decide) (by decide) rfl rfl (Nat.le_of_ble_eq_true rfl) dL_law_985 (kv_ri ?_)
                    obtain ⟨v158, hcv158, hf⟩ := bd_e hf
                    refine v_callV [.int v153, .int v156.1, .int v157.1] G (c_X11_lostBy n h1 hcv158) h1 (by decide) rfl rfl rfl t_893 t_894 t_895 t_1 t_896 nm_X11_lostBy (by decide) (by decide) rfl rfl (Nat.le_of_ble_eq_true rfl) dL_law_988 (kv_ri ?_)
                    refine v_iload G dL_law_991 1 rfl ?_
                    refine v_icmp_ne 1009 G dL_law_993 (by decide) (fun h193 => ?_) (fun h193 => ?_)
                    · replace hf := (if_neg h193).symm.trans hf
                      refine v_iconst (0 : Int32) G dL_law_1009 (by decide) ?_
                      exact absurd (Option.some.inj hf) (by decide)
                    · replace hf := (if_pos h193).symm.trans hf
                      refine v_iload G dL_law_996 1 rfl ?_
                      refine v_iload G dL_law_998 2 rfl ?_
                      refine v_iload G dL_law_1000 9 rfl ?_
                      obtain ⟨v159, hcv159, hf⟩ := bd_e hf
                      refine v_callS [.int v5.1] G (c_L_size n hcv159) t_1280 t_1281 t_0 t_1282 nm_L_size (by decide) (by decide) rfl rfl (Nat.le_of_ble_eq_true rfl) dL_law_1002 (kv_ri ?_)
                      refine v_imul G dL_law_1005 ?_
                      refine v_icmp_le 1011 G dL_law_1006 (by decide) (fun h192 => ?_) (fun h192 => ?_)
                      · replace hf := (if_pos h192).symm.trans hf
                        refine v_aload_n G dL_law_1011 4 rfl ?_
                        refine v_iload G dL_law_1012 2 rfl ?_
                        obtain ⟨v160, hcv160, hf⟩ := bd_e hf
                        refine v_callV [.int v153] G (c_X11_bestFrom n h1 hcv160) h1 (by decide) rfl rfl rfl t_904 t_905 t_906 t_1 t_907 nm_X11_bestFrom (by decide) (by decide) rfl rfl (Nat.le_of_ble_eq_true rfl) dL_law_1014 (kv_ri ?_)
                        refine v_istore [(14, .int v160.1), (13, .int v155.1), (12, .int v154.1), (11, .int v153), (0, .ref b), (1, .ref (ad a1)), (3, .ref (ad a3)), (4, .int c4), (5, .int w5), (6, .int x4), (7, .int v5.1), (9, .int u148), (10, .int u149)] G dL_law_1017 (by decide) rfl ?_
                        refine v_aload_n G dL_law_1019 5 rfl ?_
                        refine v_iconst (4 : Int32) G dL_law_1020 (by decide) ?_
                        obtain ⟨v161, hcv161, hf⟩ := bd_e hf
                        refine v_callV [.int (4 : Int32)] G (c_X11_many n h1 hcv161) h1 (by decide) rfl rfl rfl t_517 t_518 t_519 t_1 t_520 nm_X11_many (by decide) (by decide) rfl rfl (Nat.le_of_ble_eq_true rfl) dL_law_1021 (kv_ri ?_)
                        refine v_aload_n G dL_law_1024 5 rfl ?_
                        refine v_iconst (3 : Int32) G dL_law_1025 (by decide) ?_
                        obtain ⟨v162, hcv162, hf⟩ := bd_e hf
                        refine v_callV [.int (3 : Int32)] G (c_X11_many n h1 hcv162) h1 (by decide) rfl rfl rfl t_517 t_518 t_519 t_1 t_520 nm_X11_many (by decide) (by decide) rfl rfl (Nat.le_of_ble_eq_true rfl) dL_law_1026 (kv_ri ?_)
                        refine v_isub G dL_law_1029 ?_
                        refine v_nmi (fun v163 ev163 => ?_)
                        replace hf := lt_e hf ev163
                        refine v_istore [(15, .int v163), (14, .int v160.1), (13, .int v155.1), (12, .int v154.1), (11, .int v153), (0, .ref b), (1, .ref (ad a1)), (3, .ref (ad a3)), (4, .int c4), (5, .int w5), (6, .int x4), (7, .int v5.1), (9, .int u148), (10, .int u149)] G dL_law_1030 (by decide) rfl ?_
                        refine v_aload_n G dL_law_1032 6 rfl ?_
                        refine v_iload G dL_law_1033 4 rfl ?_
                        refine v_iload G dL_law_1035 1 rfl ?_
                        refine v_iload G dL_law_1037 1 rfl ?_
                        refine v_iload G dL_law_1039 0 rfl ?_
                        refine v_iadd G dL_law_1041 ?_
                        refine v_bipush (24 : Int32) G dL_law_1042 (by decide) ?_
                        obtain ⟨j1057, ej1057, hf⟩ := lt_j hf
                        have hj1057 : ∀ (x164 : Int32), j1057 x164 = some 1 → KV ad cy x o 1057 [(0, .ref b), (1, .ref (ad a1)), (3, .ref (ad a3)), (4, .int c4), (5, .int w5), (6, .int x4), (11, .int v153), (12, .int v154.1), (13, .int v155.1)] [.int x164, .int v160.1, .int v153, .ref (ad a1)] v162.2 := by
                          intro x164 hf
                          rw [ej1057] at hf
                          obtain ⟨v165, hcv165, hf⟩ := bd_e hf
                          refine v_callV [.int v153, .int v160.1, .int x164] G (c_X11_lostBy n h1 hcv165) h1 (by decide) rfl rfl rfl t_893 t_894 t_895 t_1 t_896 nm_X11_lostBy (by decide) (by decide) rfl rfl (Nat.le_of_ble_eq_true rfl) dL_law_1057 (kv_ri ?_)
                          refine v_iload G dL_law_1060 7 rfl ?_
                          refine v_icmp_le 1067 G dL_law_1062 (by decide) (fun h190 => ?_) (fun h190 => ?_)
                          · replace hf := (if_pos h190).symm.trans hf
                            refine v_aload_n G dL_law_1067 1 rfl ?_
                            refine v_iload G dL_law_1068 6 rfl ?_
                            obtain ⟨v166, hcv166, hf⟩ := bd_e hf
                            refine v_callV [.int v153] G (c_X11_passes n h1 hcv166) h1 (by decide) rfl rfl rfl t_610 t_611 t_612 t_1 t_613 nm_X11_passes (by decide) (by decide) rfl rfl (Nat.le_of_ble_eq_true rfl) dL_law_1070 (kv_ri ?_)
                            refine v_if_lt 1090 G dL_law_1073 (by decide) (fun h189 => ?_) (fun h189 => ?_)
                            · replace hf := (if_pos h189).symm.trans hf
                              refine v_iconst (0 : Int32) G dL_law_1090 (by decide) ?_
                              exact absurd (Option.some.inj hf) (by decide)
                            · replace hf := (if_neg h189).symm.trans hf
                              refine v_aload_n G dL_law_1076 1 rfl ?_
                              refine v_bipush (14 : Int32) G dL_law_1077 (by decide) ?_
                              obtain ⟨v167, hcv167, hf⟩ := bd_e hf
                              refine v_callV [.int (14 : Int32)] G (c_X11_many n h1 hcv167) h1 (by decide) rfl rfl rfl t_517 t_518 t_519 t_1 t_520 nm_X11_many (by decide) (by decide) rfl rfl (Nat.le_of_ble_eq_true rfl) dL_law_1079 (kv_ri ?_)
                              refine v_iload G dL_law_1082 8 rfl ?_
                              refine v_iload G dL_law_1084 7 rfl ?_
                              refine v_iadd G dL_law_1086 ?_
                              refine v_icmp_eq 1092 G dL_law_1087 (by decide) (fun h188 => ?_) (fun h188 => ?_)
                              · replace hf := (if_pos h188).symm.trans hf
                                refine v_iconst (0 : Int32) G dL_law_1092 (by decide) ?_
                                refine v_istore [(16, .int (0 : Int32)), (0, .ref b), (1, .ref (ad a1)), (3, .ref (ad a3)), (4, .int c4), (5, .int w5), (6, .int x4), (11, .int v153), (12, .int v154.1), (13, .int v155.1)] G dL_law_1093 (by decide) rfl ?_
                                refine v_sub _ [1, 2, 3, 4, 5, 6, 0] rfl ?_
                                refine s_L_law_1095 G Ln xs GW GL h1 h3 (fun M181 hf => ?_) n (0 : Int32) v167.2 hf
                                · refine v_iload G dL_law_1186 5 rfl ?_
                                  refine v_bipush (6 : Int32) G dL_law_1188 (by decide) ?_
                                  refine v_ishr G dL_law_1190 ?_
                                  refine v_iconst (3 : Int32) G dL_law_1191 (by decide) ?_
                                  refine v_iand G dL_law_1192 ?_
                                  refine v_iconst (1 : Int32) G dL_law_1193 (by decide) ?_
                                  obtain ⟨j1216, ej1216, hf⟩ := lt_j hf
                                  have hj1216 : ∀ (M182 : KM), j1216 M182 = some 1 → KV ad cy x o 1216 [(0, .ref b), (1, .ref (ad a1)), (3, .ref (ad a3)), (4, .int c4), (5, .int w5)] [] M182 := by
                                    intro M182 hf
                                    rw [ej1216] at hf
                                    obtain ⟨v183, ev183⟩ : ∃ q : Int32, q = w5 + (1 : Int32) := ⟨_, rfl⟩
                                    replace hf := lt_e hf ev183
                                    refine v_iinc v183 [(5, .int v183), (0, .ref b), (1, .ref (ad a1)), (3, .ref (ad a3)), (4, .int c4)] G dL_law_1216 4 rfl (by rw [ev183]; rfl) (by decide) rfl ?_
                                    refine v_goto 54 G dL_law_1219 (by decide) ?_
                                    refine v_sub _ [1, 2, 3, 4, 0] rfl ?_
                                    exact ih v183 M182 hf
                                  refine v_icmp_ne 1216 G dL_law_1194 (by decide) (fun h187 => ?_) (fun h187 => ?_)
                                  · replace hf := (if_neg h187).symm.trans hf
                                    refine v_sub _ [0, 1, 2, 3, 4] rfl ?_
                                    exact hj1216 M181 hf
                                  · replace hf := (if_pos h187).symm.trans hf
                                    refine v_aload_n G dL_law_1197 1 rfl ?_
                                    refine v_iload G dL_law_1198 5 rfl ?_
                                    refine v_iconst (5 : Int32) G dL_law_1200 (by decide) ?_
                                    refine v_ishr G dL_law_1201 ?_
                                    refine v_iconst (1 : Int32) G dL_law_1202 (by decide) ?_
                                    refine v_iand G dL_law_1203 ?_
                                    obtain ⟨j1212, ej1212, hf⟩ := lt_j hf
                                    have hj1212 : ∀ (x184 : Int32), j1212 x184 = some 1 → KV ad cy x o 1212 [(0, .ref b), (1, .ref (ad a1)), (3, .ref (ad a3)), (4, .int c4), (5, .int w5)] [.int x184, .ref (ad a1)] M181 := by
                                      intro x184 hf
                                      rw [ej1212] at hf
                                      obtain ⟨v185, hcv185, hf⟩ := bd_e hf
                                      refine v_callV [.int x184] G (c_X11_cloud n h1 hcv185) h1 (by decide) rfl rfl rfl t_716 t_717 t_718 t_1 t_719 nm_X11_cloud (by decide) (by decide) rfl rfl (Nat.le_of_ble_eq_true rfl) dL_law_1212 (kv_ri ?_)
                                      refine v_pop G dL_law_1215 rfl ?_
                                      refine v_sub _ [0, 1, 2, 3, 4] rfl ?_
                                      exact hj1216 v185.2 hf
                                    refine v_if_ne 1211 G dL_law_1204 (by decide) (fun h186 => ?_) (fun h186 => ?_)
                                    · replace hf := (if_neg h186).symm.trans hf
                                      refine v_iconst (0 : Int32) G dL_law_1211 (by decide) ?_
                                      refine v_sub _ [0, 1, 2, 3, 4] rfl ?_
                                      exact hj1212 (0 : Int32) hf
                                    · replace hf := (if_pos h186).symm.trans hf
                                      refine v_iconst (1 : Int32) G dL_law_1207 (by decide) ?_
                                      refine v_goto 1212 G dL_law_1208 (by decide) ?_
                                      refine v_sub _ [0, 1, 2, 3, 4] rfl ?_
                                      exact hj1212 (1 : Int32) hf
                              · replace hf := (if_neg h188).symm.trans hf
                                refine v_iconst (0 : Int32) G dL_law_1090 (by decide) ?_
                                exact absurd (Option.some.inj hf) (by decide)
                          · replace hf := (if_neg h190).symm.trans hf
                            refine v_iconst (0 : Int32) G dL_law_1065 (by decide) ?_
                            exact absurd (Option.some.inj hf) (by decide)
                        refine v_icmp_le 1052 G dL_law_1044 (by decide) (fun h191 => ?_) (fun h191 => ?_)
                        · replace hf := (if_pos h191).symm.trans hf
                          refine v_iload G dL_law_1052 1 rfl ?_
                          refine v_iload G dL_law_1054 0 rfl ?_
                          refine v_iadd G dL_law_1056 ?_
                          refine v_sub _ [5, 6, 7, 8, 9, 10, 4, 3, 2] rfl ?_
                          exact hj1057 (v160.1 + v163) hf
                        · replace hf := (if_neg h191).symm.trans hf
                          refine v_bipush (24 : Int32) G dL_law_1047 (by decide) ?_
                          refine v_goto 1057 G dL_law_1049 (by decide) ?_
                          refine v_sub _ [5, 6, 7, 8, 9, 10, 4, 3, 2] rfl ?_
                          exact hj1057 (24 : Int32) hf
                      · replace hf := (if_neg h192).symm.trans hf
                        refine v_iconst (0 : Int32) G dL_law_1009 (by decide) ?_
                        exact absurd (Option.some.inj hf) (by decide)
                  · replace hf := (if_neg h194).symm.trans hf
                    refine v_iconst (0 : Int32) G dL_law_948 (by decide) ?_
                    exact absurd (Option.some.inj hf) (by decide)
          · replace hf := (if_neg h197).symm.trans hf
            refine v_iconst (0 : Int32) G dL_law_137 (by decide) ?_
            exact absurd (Option.some.inj hf) (by decide)
      refine v_icmp_ge 83 G dL_law_65 (by decide) (fun h200 => ?_) (fun h200 => ?_)
      · replace hf := (if_pos h200).symm.trans hf
        refine v_sipush (397 : Int32) G dL_law_83 (by decide) ?_
        refine v_iload G dL_law_86 4 rfl ?_
        refine v_imul G dL_law_88 ?_
        refine v_iload G dL_law_89 3 rfl ?_
        refine v_iadd G dL_law_91 ?_
        refine v_sub _ [0, 1, 2, 3, 4] rfl ?_
        exact hj92 (((397 : Int32) * w5) + c4) hf
      · replace hf := (if_neg h200).symm.trans hf
        refine v_aload_n G dL_law_68 0 rfl ?_
        refine v_iload G dL_law_69 4 rfl ?_
        obtain ⟨g199, hf⟩ := gd_e hf
        refine v_sld G GW g199 dL_law_71 ?_
        refine v_iconst (1 : Int32) G dL_law_72 (by decide) ?_
        refine v_ishr G dL_law_73 ?_
        refine v_bipush (71 : Int32) G dL_law_74 (by decide) ?_
        refine v_iload G dL_law_76 4 rfl ?_
        refine v_imul G dL_law_78 ?_
        refine v_ixor G dL_law_79 ?_
        refine v_goto 92 G dL_law_80 (by decide) ?_
        refine v_sub _ [0, 1, 2, 3, 4] rfl ?_
        exact hj92 (((xs (w5).toNatClampNeg) >>> ((1 : Int32) &&& 31)) ^^^ ((71 : Int32) * w5)) hf
set_option maxRecDepth 100000 in
set_option maxHeartbeats 4000000 in
theorem s_L_law {ad : Nat → Nat} {cy : Nat → ClassId} {x : KX} (G : KG ad cy x cL_law "NoonGuidesLaw" 21 none 12) (Ln : Nat) (xs : Nat → Int32) {b : Nat} {aK aV : Nat → Nat} (GW : KWx b Ln xs aK aV x) (GL : KLw x b) (n : Nat) {a1 a2 a3 : Nat} (h1 : kty a1 = 11) (h2 : kty a2 = 34) (h3 : kty a3 = 35) {o : KO} {M : KM} (hf : f_L_law Ln xs n a1 a2 a3 M = some 1) : KV ad cy x o 18 [(3, .ref (ad a3)), (2, .ref (ad a2)), (1, .ref (ad a1)), (0, .ref b)] [] M := by
  unfold f_L_law at hf
  refine v_aload_n G dL_law_18 3 rfl ?_
  refine v_slen G GW dL_law_19 ?_
  obtain ⟨j33, ej33, hf⟩ := lt_j hf
  have hj33 : ∀ (x1 : Int32), j33 x1 = some 1 → KV ad cy x o 33 [(0, .ref b), (1, .ref (ad a1)), (2, .ref (ad a2)), (3, .ref (ad a3))] [.int x1] M := by
    intro x1 hf
    rw [ej33] at hf
    refine v_istore [(4, .int x1), (0, .ref b), (1, .ref (ad a1)), (2, .ref (ad a2)), (3, .ref (ad a3))] G dL_law_33 (by decide) rfl ?_
    refine v_aload_n G dL_law_35 1 rfl ?_
    refine v_aload_n G dL_law_36 4 rfl ?_
    obtain ⟨v2, hcv2, hf⟩ := bd_e hf
    refine v_callS2 [.ref b, .ref (ad a3)] G GW (c_L_draw Ln xs n h3 hcv2) t_1277 t_1278 t_0 t_1279 nm_L_draw (by decide) (by decide) rfl rfl (Nat.le_of_ble_eq_true rfl) dL_law_37 (kv_rv ?_)
    refine v_aload_n G dL_law_40 2 rfl ?_
    refine v_aload_n G dL_law_41 3 rfl ?_
    refine v_aload_n G dL_law_42 4 rfl ?_
    obtain ⟨v3, hcv3, hf⟩ := bd_e hf
    refine v_callS2 [.ref (ad a1), .ref (ad a2), .ref (ad a3)] G GW (c_L_lay n h1 h2 h3 hcv3) t_933 t_934 t_0 t_935 nm_L_lay (by decide) (by decide) rfl rfl (Nat.le_of_ble_eq_true rfl) dL_law_43 (kv_ri ?_)
    refine v_if_ne 51 G dL_law_46 (by decide) (fun h202 => ?_) (fun h202 => ?_)
    · replace hf := (if_neg h202).symm.trans hf
      refine v_iconst (0 : Int32) G dL_law_51 (by decide) ?_
      refine v_istore [(5, .int (0 : Int32)), (4, .int x1), (0, .ref b), (1, .ref (ad a1)), (2, .ref (ad a2)), (3, .ref (ad a3))] G dL_law_52 (by decide) rfl ?_
      refine v_sub _ [2, 3, 5, 1, 0] rfl ?_
      refine s_L_law_54 G Ln xs GW GL h1 h3 n (0 : Int32) v3.2 hf
    · replace hf := (if_pos h202).symm.trans hf
      refine v_iconst (0 : Int32) G dL_law_49 (by decide) ?_
      exact absurd (Option.some.inj hf) (by decide)
  refine v_if_ne 27 G dL_law_20 (by decide) (fun h204 => ?_) (fun h204 => ?_)
  · replace hf := (if_neg h204).symm.trans hf
    refine v_aload_n G dL_law_27 3 rfl ?_
    refine v_aload_n G dL_law_28 3 rfl ?_
    refine v_slen G GW dL_law_29 ?_
    refine v_iconst (1 : Int32) G dL_law_30 (by decide) ?_
    refine v_isub G dL_law_31 ?_
    obtain ⟨g203, hf⟩ := gd_e hf
    refine v_sld G GW g203 dL_law_32 ?_
    refine v_sub _ [3, 2, 1, 0] rfl ?_
    exact hj33 (xs (((Int32.ofNat Ln) - (1 : Int32))).toNatClampNeg) hf
  · replace hf := (if_pos h204).symm.trans hf
    refine v_iconst (5 : Int32) G dL_law_23 (by decide) ?_
    refine v_goto 33 G dL_law_24 (by decide) ?_
    refine v_sub _ [3, 2, 1, 0] rfl ?_
    exact hj33 (5 : Int32) hf
