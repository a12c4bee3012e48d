def i0 (t a : Nat) : Nat → Int32 := if a = 4 then upd (fun _ => 0) 0 (-1) else if a = 229 then upd (upd (upd (upd (fun _ => 0) 0 (-1)) 1 (-1)) 2 (-1)) 3 (-1) else match t with
  | 1 => fun k => match k with | 5 => -1 | 7 => -1 | _ => 0
  | 2 => fun k => match k with | 0 => 10 | 1 => 16 | 2 => 360 | _ => 0
  | 3 => fun k => match k with | 11 => 480 | 12 => 9 | 13 => 3 | 14 => 4 | _ => 0
  | 4 => fun k => match k with | 5 => -1 | 7 => -1 | _ => 0
  | 8 => fun k => match k with | 5 => -1 | 6 => -1 | 7 => -1 | 8 => -1 | 9 => -1 | _ => 0
  | 10 => fun k => match k with | 2 => -1 | _ => 0
  | 11 => fun k => match k with | 16 => -1 | 17 => -1 | _ => 0
  | 12 => fun k => match k with | 10 => -1 | 11 => -1 | _ => 0
  | _ => fun _ => 0
def j0 (t : Nat) : Nat → Int64 := match t with
  | 24 => kwF
  | 11 => fun k => match k with | 19 => 1 | _ => 0
  | 12 => fun k => match k with | 3 => 1 | _ => 0
  | _ => fun _ => 0
def r0 (t a : Nat) : Nat → Nat := match t with
  | 1 => fun k => match k with | 1 => a + 2 | _ => 0
  | 3 => fun k => match k with | 7 => a + 8 | _ => 0
  | 4 => fun k => match k with | 1 => a + 2 | _ => 0
  | 7 => fun k => match k with | 2 => a + 3 | 3 => a + 4 | _ => 0
  | 11 => fun k => match k with | 10 => a + 23 | 11 => a + 61 | 12 => a + 99 | _ => 0
  | _ => fun _ => 0
/-- the memory behind both constructors, but for the empty land of the model -/
def M00 : KM := (fun a => i0 (kty a) a, fun a => j0 (kty a), fun a => r0 (kty a) a)
def FIN (cy : Nat → ClassId) (z a : Nat) : va_E := kc (fun b => z + b) cy (kty a) a (i0 (kty a) a) (j0 (kty a)) (r0 (kty a) a)
theorem kt_0 : kty 0 = 11 := by decide +kernel
theorem kt_1 : kty 1 = 20 := by decide +kernel
theorem kt_2 : kty 2 = 21 := by decide +kernel
theorem kt_3 : kty 3 = 22 := by decide +kernel
theorem kt_4 : kty 4 = 23 := by decide +kernel
theorem kt_5 : kty 5 = 4 := by decide +kernel
theorem kt_6 : kty 6 = 24 := by decide +kernel
theorem kt_7 : kty 7 = 25 := by decide +kernel
theorem kt_8 : kty 8 = 1 := by decide +kernel
theorem kt_9 : kty 9 = 24 := by decide +kernel
theorem kt_10 : kty 10 = 25 := by decide +kernel
theorem kt_11 : kty 11 = 26 := by decide +kernel
theorem kt_12 : kty 12 = 5 := by decide +kernel
theorem kt_13 : kty 13 = 27 := by decide +kernel
theorem kt_14 : kty 14 = 7 := by decide +kernel
theorem kt_15 : kty 15 = 28 := by decide +kernel
theorem kt_16 : kty 16 = 28 := by decide +kernel
theorem kt_17 : kty 17 = 29 := by decide +kernel
theorem kt_18 : kty 18 = 29 := by decide +kernel
theorem kt_19 : kty 19 = 6 := by decide +kernel
theorem kt_20 : kty 20 = 28 := by decide +kernel
theorem kt_21 : kty 21 = 28 := by decide +kernel
theorem kt_22 : kty 22 = 2 := by decide +kernel
theorem kt_23 : kty 23 = 3 := by decide +kernel
theorem kt_24 : kty 24 = 29 := by decide +kernel
theorem kt_25 : kty 25 = 30 := by decide +kernel
theorem kt_26 : kty 26 = 30 := by decide +kernel
theorem kt_27 : kty 27 = 30 := by decide +kernel
theorem kt_28 : kty 28 = 31 := by decide +kernel
theorem kt_29 : kty 29 = 32 := by decide +kernel
theorem kt_30 : kty 30 = 2 := by decide +kernel
theorem kt_31 : kty 31 = 9 := by decide +kernel
theorem kt_32 : kty 32 = 27 := by decide +kernel
theorem kt_33 : kty 33 = 27 := by decide +kernel
theorem kt_34 : kty 34 = 27 := by decide +kernel
theorem kt_35 : kty 35 = 27 := by decide +kernel
theorem kt_36 : kty 36 = 27 := by decide +kernel
theorem kt_37 : kty 37 = 8 := by decide +kernel
theorem kt_38 : kty 38 = 30 := by decide +kernel
theorem kt_39 : kty 39 = 28 := by decide +kernel
theorem kt_40 : kty 40 = 8 := by decide +kernel
theorem kt_41 : kty 41 = 30 := by decide +kernel
theorem kt_42 : kty 42 = 28 := by decide +kernel
theorem kt_43 : kty 43 = 8 := by decide +kernel
theorem kt_44 : kty 44 = 30 := by decide +kernel
theorem kt_45 : kty 45 = 28 := by decide +kernel
theorem kt_46 : kty 46 = 8 := by decide +kernel
theorem kt_47 : kty 47 = 30 := by decide +kernel
theorem kt_48 : kty 48 = 28 := by decide +kernel
theorem kt_49 : kty 49 = 8 := by decide +kernel
theorem kt_50 : kty 50 = 30 := by decide +kernel
theorem kt_51 : kty 51 = 28 := by decide +kernel
theorem kt_52 : kty 52 = 8 := by decide +kernel
theorem kt_53 : kty 53 = 30 := by decide +kernel
theorem kt_54 : kty 54 = 28 := by decide +kernel
theorem kt_55 : kty 55 = 8 := by decide +kernel
theorem kt_56 : kty 56 = 30 := by decide +kernel
theorem kt_57 : kty 57 = 28 := by decide +kernel
theorem kt_58 : kty 58 = 8 := by decide +kernel
theorem kt_59 : kty 59 = 30 := by decide +kernel
theorem kt_60 : kty 60 = 28 := by decide +kernel
theorem kt_61 : kty 61 = 3 := by decide +kernel
theorem kt_62 : kty 62 = 29 := by decide +kernel
theorem kt_63 : kty 63 = 30 := by decide +kernel
theorem kt_64 : kty 64 = 30 := by decide +kernel
theorem kt_65 : kty 65 = 30 := by decide +kernel
theorem kt_66 : kty 66 = 31 := by decide +kernel
theorem kt_67 : kty 67 = 32 := by decide +kernel
theorem kt_68 : kty 68 = 2 := by decide +kernel
theorem kt_69 : kty 69 = 9 := by decide +kernel
theorem kt_70 : kty 70 = 27 := by decide +kernel
theorem kt_71 : kty 71 = 27 := by decide +kernel
theorem kt_72 : kty 72 = 27 := by decide +kernel
theorem kt_73 : kty 73 = 27 := by decide +kernel
theorem kt_74 : kty 74 = 27 := by decide +kernel
theorem kt_75 : kty 75 = 8 := by decide +kernel
theorem kt_76 : kty 76 = 30 := by decide +kernel
theorem kt_77 : kty 77 = 28 := by decide +kernel
theorem kt_78 : kty 78 = 8 := by decide +kernel
theorem kt_79 : kty 79 = 30 := by decide +kernel
theorem kt_80 : kty 80 = 28 := by decide +kernel
theorem kt_81 : kty 81 = 8 := by decide +kernel
theorem kt_82 : kty 82 = 30 := by decide +kernel
theorem kt_83 : kty 83 = 28 := by decide +kernel
theorem kt_84 : kty 84 = 8 := by decide +kernel
theorem kt_85 : kty 85 = 30 := by decide +kernel
theorem kt_86 : kty 86 = 28 := by decide +kernel
theorem kt_87 : kty 87 = 8 := by decide +kernel
theorem kt_88 : kty 88 = 30 := by decide +kernel
theorem kt_89 : kty 89 = 28 := by decide +kernel
theorem kt_90 : kty 90 = 8 := by decide +kernel
theorem kt_91 : kty 91 = 30 := by decide +kernel
theorem kt_92 : kty 92 = 28 := by decide +kernel
theorem kt_93 : kty 93 = 8 := by decide +kernel
theorem kt_94 : kty 94 = 30 := by decide +kernel
theorem kt_95 : kty 95 = 28 := by decide +kernel
theorem kt_96 : kty 96 = 8 := by decide +kernel
theorem kt_97 : kty 97 = 30 := by decide +kernel
theorem kt_98 : kty 98 = 28 := by decide +kernel
theorem kt_99 : kty 99 = 9 := by decide +kernel
theorem kt_100 : kty 100 = 27 := by decide +kernel
theorem kt_101 : kty 101 = 27 := by decide +kernel
theorem kt_102 : kty 102 = 27 := by decide +kernel
theorem kt_103 : kty 103 = 27 := by decide +kernel
theorem kt_104 : kty 104 = 27 := by decide +kernel
theorem kt_105 : kty 105 = 10 := by decide +kernel
theorem kt_106 : kty 106 = 33 := by decide +kernel
theorem kt_107 : kty 107 = 10 := by decide +kernel
theorem kt_108 : kty 108 = 33 := by decide +kernel
theorem kt_109 : kty 109 = 10 := by decide +kernel
theorem kt_110 : kty 110 = 33 := by decide +kernel
theorem kt_111 : kty 111 = 10 := by decide +kernel
theorem kt_112 : kty 112 = 33 := by decide +kernel
theorem kt_113 : kty 113 = 3 := by decide +kernel
theorem kt_114 : kty 114 = 29 := by decide +kernel
theorem kt_115 : kty 115 = 30 := by decide +kernel
theorem kt_116 : kty 116 = 30 := by decide +kernel
theorem kt_117 : kty 117 = 30 := by decide +kernel
theorem kt_118 : kty 118 = 31 := by decide +kernel
theorem kt_119 : kty 119 = 32 := by decide +kernel
theorem kt_120 : kty 120 = 2 := by decide +kernel
theorem kt_121 : kty 121 = 9 := by decide +kernel
theorem kt_122 : kty 122 = 27 := by decide +kernel
theorem kt_123 : kty 123 = 27 := by decide +kernel
theorem kt_124 : kty 124 = 27 := by decide +kernel
theorem kt_125 : kty 125 = 27 := by decide +kernel
theorem kt_126 : kty 126 = 27 := by decide +kernel
theorem kt_127 : kty 127 = 8 := by decide +kernel
theorem kt_128 : kty 128 = 30 := by decide +kernel
theorem kt_129 : kty 129 = 28 := by decide +kernel
theorem kt_130 : kty 130 = 8 := by decide +kernel
theorem kt_131 : kty 131 = 30 := by decide +kernel
theorem kt_132 : kty 132 = 28 := by decide +kernel
theorem kt_133 : kty 133 = 8 := by decide +kernel
theorem kt_134 : kty 134 = 30 := by decide +kernel
theorem kt_135 : kty 135 = 28 := by decide +kernel
theorem kt_136 : kty 136 = 8 := by decide +kernel
theorem kt_137 : kty 137 = 30 := by decide +kernel
theorem kt_138 : kty 138 = 28 := by decide +kernel
theorem kt_139 : kty 139 = 8 := by decide +kernel
theorem kt_140 : kty 140 = 30 := by decide +kernel
theorem kt_141 : kty 141 = 28 := by decide +kernel
theorem kt_142 : kty 142 = 8 := by decide +kernel
theorem kt_143 : kty 143 = 30 := by decide +kernel
theorem kt_144 : kty 144 = 28 := by decide +kernel
theorem kt_145 : kty 145 = 8 := by decide +kernel
theorem kt_146 : kty 146 = 30 := by decide +kernel
theorem kt_147 : kty 147 = 28 := by decide +kernel
theorem kt_148 : kty 148 = 8 := by decide +kernel
theorem kt_149 : kty 149 = 30 := by decide +kernel
theorem kt_150 : kty 150 = 28 := by decide +kernel
theorem kt_151 : kty 151 = 3 := by decide +kernel
theorem kt_152 : kty 152 = 29 := by decide +kernel
theorem kt_153 : kty 153 = 30 := by decide +kernel
theorem kt_154 : kty 154 = 30 := by decide +kernel
theorem kt_155 : kty 155 = 30 := by decide +kernel
theorem kt_156 : kty 156 = 31 := by decide +kernel
theorem kt_157 : kty 157 = 32 := by decide +kernel
theorem kt_158 : kty 158 = 2 := by decide +kernel
theorem kt_159 : kty 159 = 9 := by decide +kernel
theorem kt_160 : kty 160 = 27 := by decide +kernel
theorem kt_161 : kty 161 = 27 := by decide +kernel
theorem kt_162 : kty 162 = 27 := by decide +kernel
theorem kt_163 : kty 163 = 27 := by decide +kernel
theorem kt_164 : kty 164 = 27 := by decide +kernel
theorem kt_165 : kty 165 = 8 := by decide +kernel
theorem kt_166 : kty 166 = 30 := by decide +kernel
theorem kt_167 : kty 167 = 28 := by decide +kernel
theorem kt_168 : kty 168 = 8 := by decide +kernel
theorem kt_169 : kty 169 = 30 := by decide +kernel
theorem kt_170 : kty 170 = 28 := by decide +kernel
theorem kt_171 : kty 171 = 8 := by decide +kernel
theorem kt_172 : kty 172 = 30 := by decide +kernel
theorem kt_173 : kty 173 = 28 := by decide +kernel
theorem kt_174 : kty 174 = 8 := by decide +kernel
theorem kt_175 : kty 175 = 30 := by decide +kernel
theorem kt_176 : kty 176 = 28 := by decide +kernel
theorem kt_177 : kty 177 = 8 := by decide +kernel
theorem kt_178 : kty 178 = 30 := by decide +kernel
theorem kt_179 : kty 179 = 28 := by decide +kernel
theorem kt_180 : kty 180 = 8 := by decide +kernel
theorem kt_181 : kty 181 = 30 := by decide +kernel
theorem kt_182 : kty 182 = 28 := by decide +kernel
theorem kt_183 : kty 183 = 8 := by decide +kernel
theorem kt_184 : kty 184 = 30 := by decide +kernel
theorem kt_185 : kty 185 = 28 := by decide +kernel
theorem kt_186 : kty 186 = 8 := by decide +kernel
theorem kt_187 : kty 187 = 30 := by decide +kernel
theorem kt_188 : kty 188 = 28 := by decide +kernel
theorem kt_189 : kty 189 = 3 := by decide +kernel
theorem kt_190 : kty 190 = 29 := by decide +kernel
theorem kt_191 : kty 191 = 30 := by decide +kernel
theorem kt_192 : kty 192 = 30 := by decide +kernel
theorem kt_193 : kty 193 = 30 := by decide +kernel
theorem kt_194 : kty 194 = 31 := by decide +kernel
theorem kt_195 : kty 195 = 32 := by decide +kernel
theorem kt_196 : kty 196 = 2 := by decide +kernel
theorem kt_197 : kty 197 = 9 := by decide +kernel
theorem kt_198 : kty 198 = 27 := by decide +kernel
theorem kt_199 : kty 199 = 27 := by decide +kernel
theorem kt_200 : kty 200 = 27 := by decide +kernel
theorem kt_201 : kty 201 = 27 := by decide +kernel
theorem kt_202 : kty 202 = 27 := by decide +kernel
theorem kt_203 : kty 203 = 8 := by decide +kernel
theorem kt_204 : kty 204 = 30 := by decide +kernel
theorem kt_205 : kty 205 = 28 := by decide +kernel
theorem kt_206 : kty 206 = 8 := by decide +kernel
theorem kt_207 : kty 207 = 30 := by decide +kernel
theorem kt_208 : kty 208 = 28 := by decide +kernel
theorem kt_209 : kty 209 = 8 := by decide +kernel
theorem kt_210 : kty 210 = 30 := by decide +kernel
theorem kt_211 : kty 211 = 28 := by decide +kernel
theorem kt_212 : kty 212 = 8 := by decide +kernel
theorem kt_213 : kty 213 = 30 := by decide +kernel
theorem kt_214 : kty 214 = 28 := by decide +kernel
theorem kt_215 : kty 215 = 8 := by decide +kernel
theorem kt_216 : kty 216 = 30 := by decide +kernel
theorem kt_217 : kty 217 = 28 := by decide +kernel
theorem kt_218 : kty 218 = 8 := by decide +kernel
theorem kt_219 : kty 219 = 30 := by decide +kernel
theorem kt_220 : kty 220 = 28 := by decide +kernel
theorem kt_221 : kty 221 = 8 := by decide +kernel
theorem kt_222 : kty 222 = 30 := by decide +kernel
theorem kt_223 : kty 223 = 28 := by decide +kernel
theorem kt_224 : kty 224 = 8 := by decide +kernel
theorem kt_225 : kty 225 = 30 := by decide +kernel
theorem kt_226 : kty 226 = 28 := by decide +kernel
theorem kt_227 : kty 227 = 12 := by decide +kernel
theorem kt_228 : kty 228 = 34 := by decide +kernel
theorem kt_229 : kty 229 = 34 := by decide +kernel
theorem kt_230 : kty 230 = 35 := by decide +kernel
theorem kt_231 : kty 231 = 21 := by decide +kernel
theorem kt_232 : kty 232 = 36 := by decide +kernel
theorem kt_233 : kty 233 = 37 := by decide +kernel
theorem kt_234 : kty 234 = 37 := by decide +kernel
theorem kt_235 : kty 235 = 38 := by decide +kernel
theorem kt_236 : kty 236 = 28 := by decide +kernel
theorem kt_237 : kty 237 = 28 := by decide +kernel
theorem kt_238 : kty 238 = 29 := by decide +kernel
theorem kt_239 : kty 239 = 29 := by decide +kernel
theorem kt_240 : kty 240 = 28 := by decide +kernel
theorem kt_241 : kty 241 = 28 := by decide +kernel
theorem kt_242 : kty 242 = 39 := by decide +kernel
theorem kt_243 : kty 243 = 23 := by decide +kernel
theorem fin_0 {cy : Nat → ClassId} {z : Nat} : FIN cy z 0 = .inr (10, [.ref (z + 1), .ref (z + 2), .ref (z + 3), .ref (z + 4), .ref (z + 5), .ref (z + 8), .ref (z + 12), .ref (z + 14), .ref (z + 19), .ref (z + 22), .ref (z + 23), .ref (z + 61), .ref (z + 99), .int 0, .int 0, .int 0, .int (-1), .int (-1), .long 0, .long (1)]) := by unfold FIN; rw [kt_0]; rfl
theorem fin_1 {cy : Nat → ClassId} {z : Nat} : FIN cy z 1 = .inl (cy 6, 4, .inr (.inr (.inr (.inr (fun q => some (z + (0 + (105 + 2 * q)))))))) := by
  unfold FIN
  rw [kt_1]
  have e : (fun q => some (z + (1 + 104 + 2 * q)) : Nat → Option Nat) = (fun q => some (z + (0 + (105 + 2 * q))) := funext fun q => congrArg some (by omega)
  rw [← e]
  rfl
theorem fin_2 {cy : Nat → ClassId} {z : Nat} : FIN cy z 2 = .inl (cy 0, 900, .inl (fun _ => 0)) := by unfold FIN; rw [kt_2]; rfl
theorem fin_3 {cy : Nat → ClassId} {z : Nat} : FIN cy z 3 = .inl (cy 4, 3, .inr (.inr (.inr (.inr (fun q => some (z + (0 + (113 + 38 * q)))))))) := by
  unfold FIN
  rw [kt_3]
  have e : (fun q => some (z + (3 + 110 + 38 * q)) : Nat → Option Nat) = (fun q => some (z + (0 + (113 + 38 * q))) := funext fun q => congrArg some (by omega)
  rw [← e]
  rfl
theorem fin_4 {cy : Nat → ClassId} {z : Nat} : FIN cy z 4 = .inl (cy 1, 5, .inl (upd (fun _ => 0) 0 (-1))) := by unfold FIN; rw [kt_4]; rfl
theorem fin_5 {cy : Nat → ClassId} {z : Nat} : FIN cy z 5 = .inr (3, [.ref (z + 6), .ref (z + 7), .int 0, .int 0, .int 0, .int (-1), .int 0, .int (-1), .int 0, .long 0, .int 0, .int 0, .int 0, .int 0]) := by unfold FIN; rw [kt_5]; rfl
theorem fin_6 {cy : Nat → ClassId} {z : Nat} : FIN cy z 6 = .inl (cy 2, 26, .inr (.inl kwF)) := by unfold FIN; rw [kt_6]; rfl
theorem fin_7 {cy : Nat → ClassId} {z : Nat} : FIN cy z 7 = .inl (cy 0, 0, .inl (fun _ => 0)) := by unfold FIN; rw [kt_7]; rfl
theorem fin_8 {cy : Nat → ClassId} {z : Nat} : FIN cy z 8 = .inr (0, [.ref (z + 9), .ref (z + 10), .int 0, .int 0, .int 0, .int (-1), .int 0, .int (-1), .int 0, .long 0, .int 0, .int 0, .ref (z + 11), .int 0]) := by unfold FIN; rw [kt_8]; rfl
theorem fin_9 {cy : Nat → ClassId} {z : Nat} : FIN cy z 9 = .inl (cy 2, 26, .inr (.inl kwF)) := by unfold FIN; rw [kt_9]; rfl
theorem fin_10 {cy : Nat → ClassId} {z : Nat} : FIN cy z 10 = .inl (cy 0, 0, .inl (fun _ => 0)) := by unfold FIN; rw [kt_10]; rfl
theorem fin_11 {cy : Nat → ClassId} {z : Nat} : FIN cy z 11 = .inl (cy 1, 3, .inl (fun _ => 0)) := by unfold FIN; rw [kt_11]; rfl
theorem fin_12 {cy : Nat → ClassId} {z : Nat} : FIN cy z 12 = .inr (4, [.ref (z + 13), .int 0, .int 0, .int 0, .int 0, .int 0, .int 0, .int 0]) := by unfold FIN; rw [kt_12]; rfl
theorem fin_13 {cy : Nat → ClassId} {z : Nat} : FIN cy z 13 = .inl (cy 1, 60, .inl (fun _ => 0)) := by unfold FIN; rw [kt_13]; rfl
theorem fin_14 {cy : Nat → ClassId} {z : Nat} : FIN cy z 14 = .inr (6, [.ref (z + 15), .ref (z + 16), .ref (z + 17), .ref (z + 18), .int 0, .int 0]) := by unfold FIN; rw [kt_14]; rfl
theorem fin_15 {cy : Nat → ClassId} {z : Nat} : FIN cy z 15 = .inl (cy 1, 8, .inl (fun _ => 0)) := by unfold FIN; rw [kt_15]; rfl
theorem fin_16 {cy : Nat → ClassId} {z : Nat} : FIN cy z 16 = .inl (cy 1, 8, .inl (fun _ => 0)) := by unfold FIN; rw [kt_16]; rfl
theorem fin_17 {cy : Nat → ClassId} {z : Nat} : FIN cy z 17 = .inl (cy 2, 8, .inr (.inl (fun _ => 0))) := by unfold FIN; rw [kt_17]; rfl
theorem fin_18 {cy : Nat → ClassId} {z : Nat} : FIN cy z 18 = .inl (cy 2, 8, .inr (.inl (fun _ => 0))) := by unfold FIN; rw [kt_18]; rfl
theorem fin_19 {cy : Nat → ClassId} {z : Nat} : FIN cy z 19 = .inr (5, [.ref (z + 20), .ref (z + 21)]) := by unfold FIN; rw [kt_19]; rfl
theorem fin_20 {cy : Nat → ClassId} {z : Nat} : FIN cy z 20 = .inl (cy 1, 8, .inl (fun _ => 0)) := by unfold FIN; rw [kt_20]; rfl
theorem fin_21 {cy : Nat → ClassId} {z : Nat} : FIN cy z 21 = .inl (cy 1, 8, .inl (fun _ => 0)) := by unfold FIN; rw [kt_21]; rfl
theorem fin_22 {cy : Nat → ClassId} {z : Nat} : FIN cy z 22 = .inr (1, [.int (10), .int (16), .int (360)]) := by unfold FIN; rw [kt_22]; rfl
theorem fin_23 {cy : Nat → ClassId} {z : Nat} : FIN cy z 23 = .inr (2, [.ref (z + 24), .ref (z + 25), .ref (z + 26), .ref (z + 27), .ref (z + 28), .ref (z + 29), .ref (z + 30), .ref (z + 31), .int 0, .int 0, .int 0, .int (480), .int (9), .int (3), .int (4), .int 0]) := by unfold FIN; rw [kt_23]; rfl
theorem fin_24 {cy : Nat → ClassId} {z : Nat} : FIN cy z 24 = .inl (cy 2, 8, .inr (.inl (fun _ => 0))) := by unfold FIN; rw [kt_24]; rfl
theorem fin_25 {cy : Nat → ClassId} {z : Nat} : FIN cy z 25 = .inl (cy 1, 12, .inl (fun _ => 0)) := by unfold FIN; rw [kt_25]; rfl
theorem fin_26 {cy : Nat → ClassId} {z : Nat} : FIN cy z 26 = .inl (cy 1, 12, .inl (fun _ => 0)) := by unfold FIN; rw [kt_26]; rfl
theorem fin_27 {cy : Nat → ClassId} {z : Nat} : FIN cy z 27 = .inl (cy 1, 12, .inl (fun _ => 0)) := by unfold FIN; rw [kt_27]; rfl
theorem fin_28 {cy : Nat → ClassId} {z : Nat} : FIN cy z 28 = .inl (cy 3, 12, .inl (fun _ => 0)) := by unfold FIN; rw [kt_28]; rfl
theorem fin_29 {cy : Nat → ClassId} {z : Nat} : FIN cy z 29 = .inl (cy 5, 8, .inr (.inr (.inr (.inr (fun q => some (z + (23 + (14 + 3 * q)))))))) := by
  unfold FIN
  rw [kt_29]
  have e : (fun q => some (z + (29 + 8 + 3 * q)) : Nat → Option Nat) = (fun q => some (z + (23 + (14 + 3 * q))) := funext fun q => congrArg some (by omega)
  rw [← e]
  rfl
theorem fin_30 {cy : Nat → ClassId} {z : Nat} : FIN cy z 30 = .inr (1, [.int (10), .int (16), .int (360)]) := by unfold FIN; rw [kt_30]; rfl
theorem fin_31 {cy : Nat → ClassId} {z : Nat} : FIN cy z 31 = .inr (8, [.ref (z + 32), .ref (z + 33), .ref (z + 34), .ref (z + 35), .ref (z + 36), .int 0, .int 0, .int 0]) := by unfold FIN; rw [kt_31]; rfl
theorem fin_32 {cy : Nat → ClassId} {z : Nat} : FIN cy z 32 = .inl (cy 1, 60, .inl (fun _ => 0)) := by unfold FIN; rw [kt_32]; rfl
theorem fin_33 {cy : Nat → ClassId} {z : Nat} : FIN cy z 33 = .inl (cy 1, 60, .inl (fun _ => 0)) := by unfold FIN; rw [kt_33]; rfl
theorem fin_34 {cy : Nat → ClassId} {z : Nat} : FIN cy z 34 = .inl (cy 1, 60, .inl (fun _ => 0)) := by unfold FIN; rw [kt_34]; rfl
theorem fin_35 {cy : Nat → ClassId} {z : Nat} : FIN cy z 35 = .inl (cy 1, 60, .inl (fun _ => 0)) := by unfold FIN; rw [kt_35]; rfl
theorem fin_36 {cy : Nat → ClassId} {z : Nat} : FIN cy z 36 = .inl (cy 1, 60, .inl (fun _ => 0)) := by unfold FIN; rw [kt_36]; rfl
theorem fin_37 {cy : Nat → ClassId} {z : Nat} : FIN cy z 37 = .inr (7, [.ref (z + 38), .ref (z + 39), .long 0, .int 0, .int 0, .int (-1), .int (-1), .int (-1), .int (-1), .int (-1), .int 0, .int 0]) := by unfold FIN; rw [kt_37]; rfl
theorem fin_38 {cy : Nat → ClassId} {z : Nat} : FIN cy z 38 = .inl (cy 1, 12, .inl (fun _ => 0)) := by unfold FIN; rw [kt_38]; rfl
theorem fin_39 {cy : Nat → ClassId} {z : Nat} : FIN cy z 39 = .inl (cy 1, 8, .inl (fun _ => 0)) := by unfold FIN; rw [kt_39]; rfl
theorem fin_40 {cy : Nat → ClassId} {z : Nat} : FIN cy z 40 = .inr (7, [.ref (z + 41), .ref (z + 42), .long 0, .int 0, .int 0, .int (-1), .int (-1), .int (-1), .int (-1), .int (-1), .int 0, .int 0]) := by unfold FIN; rw [kt_40]; rfl
theorem fin_41 {cy : Nat → ClassId} {z : Nat} : FIN cy z 41 = .inl (cy 1, 12, .inl (fun _ => 0)) := by unfold FIN; rw [kt_41]; rfl
theorem fin_42 {cy : Nat → ClassId} {z : Nat} : FIN cy z 42 = .inl (cy 1, 8, .inl (fun _ => 0)) := by unfold FIN; rw [kt_42]; rfl
theorem fin_43 {cy : Nat → ClassId} {z : Nat} : FIN cy z 43 = .inr (7, [.ref (z + 44), .ref (z + 45), .long 0, .int 0, .int 0, .int (-1), .int (-1), .int (-1), .int (-1), .int (-1), .int 0, .int 0]) := by unfold FIN; rw [kt_43]; rfl
theorem fin_44 {cy : Nat → ClassId} {z : Nat} : FIN cy z 44 = .inl (cy 1, 12, .inl (fun _ => 0)) := by unfold FIN; rw [kt_44]; rfl
theorem fin_45 {cy : Nat → ClassId} {z : Nat} : FIN cy z 45 = .inl (cy 1, 8, .inl (fun _ => 0)) := by unfold FIN; rw [kt_45]; rfl
theorem fin_46 {cy : Nat → ClassId} {z : Nat} : FIN cy z 46 = .inr (7, [.ref (z + 47), .ref (z + 48), .long 0, .int 0, .int 0, .int (-1), .int (-1), .int (-1), .int (-1), .int (-1), .int 0, .int 0]) := by unfold FIN; rw [kt_46]; rfl
theorem fin_47 {cy : Nat → ClassId} {z : Nat} : FIN cy z 47 = .inl (cy 1, 12, .inl (fun _ => 0)) := by unfold FIN; rw [kt_47]; rfl
theorem fin_48 {cy : Nat → ClassId} {z : Nat} : FIN cy z 48 = .inl (cy 1, 8, .inl (fun _ => 0)) := by unfold FIN; rw [kt_48]; rfl
theorem fin_49 {cy : Nat → ClassId} {z : Nat} : FIN cy z 49 = .inr (7, [.ref (z + 50), .ref (z + 51), .long 0, .int 0, .int 0, .int (-1), .int (-1), .int (-1), .int (-1), .int (-1), .int 0, .int 0]) := by unfold FIN; rw [kt_49]; rfl
theorem fin_50 {cy : Nat → ClassId} {z : Nat} : FIN cy z 50 = .inl (cy 1, 12, .inl (fun _ => 0)) := by unfold FIN; rw [kt_50]; rfl
theorem fin_51 {cy : Nat → ClassId} {z : Nat} : FIN cy z 51 = .inl (cy 1, 8, .inl (fun _ => 0)) := by unfold FIN; rw [kt_51]; rfl
theorem fin_52 {cy : Nat → ClassId} {z : Nat} : FIN cy z 52 = .inr (7, [.ref (z + 53), .ref (z + 54), .long 0, .int 0, .int 0, .int (-1), .int (-1), .int (-1), .int (-1), .int (-1), .int 0, .int 0]) := by unfold FIN; rw [kt_52]; rfl
theorem fin_53 {cy : Nat → ClassId} {z : Nat} : FIN cy z 53 = .inl (cy 1, 12, .inl (fun _ => 0)) := by unfold FIN; rw [kt_53]; rfl
theorem fin_54 {cy : Nat → ClassId} {z : Nat} : FIN cy z 54 = .inl (cy 1, 8, .inl (fun _ => 0)) := by unfold FIN; rw [kt_54]; rfl
theorem fin_55 {cy : Nat → ClassId} {z : Nat} : FIN cy z 55 = .inr (7, [.ref (z + 56), .ref (z + 57), .long 0, .int 0, .int 0, .int (-1), .int (-1), .int (-1), .int (-1), .int (-1), .int 0, .int 0]) := by unfold FIN; rw [kt_55]; rfl
theorem fin_56 {cy : Nat → ClassId} {z : Nat} : FIN cy z 56 = .inl (cy 1, 12, .inl (fun _ => 0)) := by unfold FIN; rw [kt_56]; rfl
theorem fin_57 {cy : Nat → ClassId} {z : Nat} : FIN cy z 57 = .inl (cy 1, 8, .inl (fun _ => 0)) := by unfold FIN; rw [kt_57]; rfl
theorem fin_58 {cy : Nat → ClassId} {z : Nat} : FIN cy z 58 = .inr (7, [.ref (z + 59), .ref (z + 60), .long 0, .int 0, .int 0, .int (-1), .int (-1), .int (-1), .int (-1), .int (-1), .int 0, .int 0]) := by unfold FIN; rw [kt_58]; rfl
theorem fin_59 {cy : Nat → ClassId} {z : Nat} : FIN cy z 59 = .inl (cy 1, 12, .inl (fun _ => 0)) := by unfold FIN; rw [kt_59]; rfl
theorem fin_60 {cy : Nat → ClassId} {z : Nat} : FIN cy z 60 = .inl (cy 1, 8, .inl (fun _ => 0)) := by unfold FIN; rw [kt_60]; rfl
theorem fin_61 {cy : Nat → ClassId} {z : Nat} : FIN cy z 61 = .inr (2, [.ref (z + 62), .ref (z + 63), .ref (z + 64), .ref (z + 65), .ref (z + 66), .ref (z + 67), .ref (z + 68), .ref (z + 69), .int 0, .int 0, .int 0, .int (480), .int (9), .int (3), .int (4), .int 0]) := by unfold FIN; rw [kt_61]; rfl
theorem fin_62 {cy : Nat → ClassId} {z : Nat} : FIN cy z 62 = .inl (cy 2, 8, .inr (.inl (fun _ => 0))) := by unfold FIN; rw [kt_62]; rfl
theorem fin_63 {cy : Nat → ClassId} {z : Nat} : FIN cy z 63 = .inl (cy 1, 12, .inl (fun _ => 0)) := by unfold FIN; rw [kt_63]; rfl
theorem fin_64 {cy : Nat → ClassId} {z : Nat} : FIN cy z 64 = .inl (cy 1, 12, .inl (fun _ => 0)) := by unfold FIN; rw [kt_64]; rfl
theorem fin_65 {cy : Nat → ClassId} {z : Nat} : FIN cy z 65 = .inl (cy 1, 12, .inl (fun _ => 0)) := by unfold FIN; rw [kt_65]; rfl
theorem fin_66 {cy : Nat → ClassId} {z : Nat} : FIN cy z 66 = .inl (cy 3, 12, .inl (fun _ => 0)) := by unfold FIN; rw [kt_66]; rfl
theorem fin_67 {cy : Nat → ClassId} {z : Nat} : FIN cy z 67 = .inl (cy 5, 8, .inr (.inr (.inr (.inr (fun q => some (z + (61 + (14 + 3 * q)))))))) := by
  unfold FIN
  rw [kt_67]
  have e : (fun q => some (z + (67 + 8 + 3 * q)) : Nat → Option Nat) = (fun q => some (z + (61 + (14 + 3 * q))) := funext fun q => congrArg some (by omega)
  rw [← e]
  rfl
theorem fin_68 {cy : Nat → ClassId} {z : Nat} : FIN cy z 68 = .inr (1, [.int (10), .int (16), .int (360)]) := by unfold FIN; rw [kt_68]; rfl
theorem fin_69 {cy : Nat → ClassId} {z : Nat} : FIN cy z 69 = .inr (8, [.ref (z + 70), .ref (z + 71), .ref (z + 72), .ref (z + 73), .ref (z + 74), .int 0, .int 0, .int 0]) := by unfold FIN; rw [kt_69]; rfl
theorem fin_70 {cy : Nat → ClassId} {z : Nat} : FIN cy z 70 = .inl (cy 1, 60, .inl (fun _ => 0)) := by unfold FIN; rw [kt_70]; rfl
theorem fin_71 {cy : Nat → ClassId} {z : Nat} : FIN cy z 71 = .inl (cy 1, 60, .inl (fun _ => 0)) := by unfold FIN; rw [kt_71]; rfl
theorem fin_72 {cy : Nat → ClassId} {z : Nat} : FIN cy z 72 = .inl (cy 1, 60, .inl (fun _ => 0)) := by unfold FIN; rw [kt_72]; rfl
theorem fin_73 {cy : Nat → ClassId} {z : Nat} : FIN cy z 73 = .inl (cy 1, 60, .inl (fun _ => 0)) := by unfold FIN; rw [kt_73]; rfl
theorem fin_74 {cy : Nat → ClassId} {z : Nat} : FIN cy z 74 = .inl (cy 1, 60, .inl (fun _ => 0)) := by unfold FIN; rw [kt_74]; rfl
theorem fin_75 {cy : Nat → ClassId} {z : Nat} : FIN cy z 75 = .inr (7, [.ref (z + 76), .ref (z + 77), .long 0, .int 0, .int 0, .int (-1), .int (-1), .int (-1), .int (-1), .int (-1), .int 0, .int 0]) := by unfold FIN; rw [kt_75]; rfl
theorem fin_76 {cy : Nat → ClassId} {z : Nat} : FIN cy z 76 = .inl (cy 1, 12, .inl (fun _ => 0)) := by unfold FIN; rw [kt_76]; rfl
theorem fin_77 {cy : Nat → ClassId} {z : Nat} : FIN cy z 77 = .inl (cy 1, 8, .inl (fun _ => 0)) := by unfold FIN; rw [kt_77]; rfl
theorem fin_78 {cy : Nat → ClassId} {z : Nat} : FIN cy z 78 = .inr (7, [.ref (z + 79), .ref (z + 80), .long 0, .int 0, .int 0, .int (-1), .int (-1), .int (-1), .int (-1), .int (-1), .int 0, .int 0]) := by unfold FIN; rw [kt_78]; rfl
theorem fin_79 {cy : Nat → ClassId} {z : Nat} : FIN cy z 79 = .inl (cy 1, 12, .inl (fun _ => 0)) := by unfold FIN; rw [kt_79]; rfl
theorem fin_80 {cy : Nat → ClassId} {z : Nat} : FIN cy z 80 = .inl (cy 1, 8, .inl (fun _ => 0)) := by unfold FIN; rw [kt_80]; rfl
theorem fin_81 {cy : Nat → ClassId} {z : Nat} : FIN cy z 81 = .inr (7, [.ref (z + 82), .ref (z + 83), .long 0, .int 0, .int 0, .int (-1), .int (-1), .int (-1), .int (-1), .int (-1), .int 0, .int 0]) := by unfold FIN; rw [kt_81]; rfl
theorem fin_82 {cy : Nat → ClassId} {z : Nat} : FIN cy z 82 = .inl (cy 1, 12, .inl (fun _ => 0)) := by unfold FIN; rw [kt_82]; rfl
theorem fin_83 {cy : Nat → ClassId} {z : Nat} : FIN cy z 83 = .inl (cy 1, 8, .inl (fun _ => 0)) := by unfold FIN; rw [kt_83]; rfl
theorem fin_84 {cy : Nat → ClassId} {z : Nat} : FIN cy z 84 = .inr (7, [.ref (z + 85), .ref (z + 86), .long 0, .int 0, .int 0, .int (-1), .int (-1), .int (-1), .int (-1), .int (-1), .int 0, .int 0]) := by unfold FIN; rw [kt_84]; rfl
theorem fin_85 {cy : Nat → ClassId} {z : Nat} : FIN cy z 85 = .inl (cy 1, 12, .inl (fun _ => 0)) := by unfold FIN; rw [kt_85]; rfl
theorem fin_86 {cy : Nat → ClassId} {z : Nat} : FIN cy z 86 = .inl (cy 1, 8, .inl (fun _ => 0)) := by unfold FIN; rw [kt_86]; rfl
theorem fin_87 {cy : Nat → ClassId} {z : Nat} : FIN cy z 87 = .inr (7, [.ref (z + 88), .ref (z + 89), .long 0, .int 0, .int 0, .int (-1), .int (-1), .int (-1), .int (-1), .int (-1), .int 0, .int 0]) := by unfold FIN; rw [kt_87]; rfl
theorem fin_88 {cy : Nat → ClassId} {z : Nat} : FIN cy z 88 = .inl (cy 1, 12, .inl (fun _ => 0)) := by unfold FIN; rw [kt_88]; rfl
theorem fin_89 {cy : Nat → ClassId} {z : Nat} : FIN cy z 89 = .inl (cy 1, 8, .inl (fun _ => 0)) := by unfold FIN; rw [kt_89]; rfl
theorem fin_90 {cy : Nat → ClassId} {z : Nat} : FIN cy z 90 = .inr (7, [.ref (z + 91), .ref (z + 92), .long 0, .int 0, .int 0, .int (-1), .int (-1), .int (-1), .int (-1), .int (-1), .int 0, .int 0]) := by unfold FIN; rw [kt_90]; rfl
theorem fin_91 {cy : Nat → ClassId} {z : Nat} : FIN cy z 91 = .inl (cy 1, 12, .inl (fun _ => 0)) := by unfold FIN; rw [kt_91]; rfl
theorem fin_92 {cy : Nat → ClassId} {z : Nat} : FIN cy z 92 = .inl (cy 1, 8, .inl (fun _ => 0)) := by unfold FIN; rw [kt_92]; rfl
theorem fin_93 {cy : Nat → ClassId} {z : Nat} : FIN cy z 93 = .inr (7, [.ref (z + 94), .ref (z + 95), .long 0, .int 0, .int 0, .int (-1), .int (-1), .int (-1), .int (-1), .int (-1), .int 0, .int 0]) := by unfold FIN; rw [kt_93]; rfl
theorem fin_94 {cy : Nat → ClassId} {z : Nat} : FIN cy z 94 = .inl (cy 1, 12, .inl (fun _ => 0)) := by unfold FIN; rw [kt_94]; rfl
theorem fin_95 {cy : Nat → ClassId} {z : Nat} : FIN cy z 95 = .inl (cy 1, 8, .inl (fun _ => 0)) := by unfold FIN; rw [kt_95]; rfl
theorem fin_96 {cy : Nat → ClassId} {z : Nat} : FIN cy z 96 = .inr (7, [.ref (z + 97), .ref (z + 98), .long 0, .int 0, .int 0, .int (-1), .int (-1), .int (-1), .int (-1), .int (-1), .int 0, .int 0]) := by unfold FIN; rw [kt_96]; rfl
theorem fin_97 {cy : Nat → ClassId} {z : Nat} : FIN cy z 97 = .inl (cy 1, 12, .inl (fun _ => 0)) := by unfold FIN; rw [kt_97]; rfl
theorem fin_98 {cy : Nat → ClassId} {z : Nat} : FIN cy z 98 = .inl (cy 1, 8, .inl (fun _ => 0)) := by unfold FIN; rw [kt_98]; rfl
theorem fin_99 {cy : Nat → ClassId} {z : Nat} : FIN cy z 99 = .inr (8, [.ref (z + 100), .ref (z + 101), .ref (z + 102), .ref (z + 103), .ref (z + 104), .int 0, .int 0, .int 0]) := by unfold FIN; rw [kt_99]; rfl
theorem fin_100 {cy : Nat → ClassId} {z : Nat} : FIN cy z 100 = .inl (cy 1, 60, .inl (fun _ => 0)) := by unfold FIN; rw [kt_100]; rfl
theorem fin_101 {cy : Nat → ClassId} {z : Nat} : FIN cy z 101 = .inl (cy 1, 60, .inl (fun _ => 0)) := by unfold FIN; rw [kt_101]; rfl
theorem fin_102 {cy : Nat → ClassId} {z : Nat} : FIN cy z 102 = .inl (cy 1, 60, .inl (fun _ => 0)) := by unfold FIN; rw [kt_102]; rfl
theorem fin_103 {cy : Nat → ClassId} {z : Nat} : FIN cy z 103 = .inl (cy 1, 60, .inl (fun _ => 0)) := by unfold FIN; rw [kt_103]; rfl
theorem fin_104 {cy : Nat → ClassId} {z : Nat} : FIN cy z 104 = .inl (cy 1, 60, .inl (fun _ => 0)) := by unfold FIN; rw [kt_104]; rfl
theorem fin_105 {cy : Nat → ClassId} {z : Nat} : FIN cy z 105 = .inr (9, [.ref (z + 106), .int 0, .int (-1)]) := by unfold FIN; rw [kt_105]; rfl
theorem fin_106 {cy : Nat → ClassId} {z : Nat} : FIN cy z 106 = .inl (cy 2, 60, .inr (.inl (fun _ => 0))) := by unfold FIN; rw [kt_106]; rfl
theorem fin_107 {cy : Nat → ClassId} {z : Nat} : FIN cy z 107 = .inr (9, [.ref (z + 108), .int 0, .int (-1)]) := by unfold FIN; rw [kt_107]; rfl
theorem fin_108 {cy : Nat → ClassId} {z : Nat} : FIN cy z 108 = .inl (cy 2, 60, .inr (.inl (fun _ => 0))) := by unfold FIN; rw [kt_108]; rfl
theorem fin_109 {cy : Nat → ClassId} {z : Nat} : FIN cy z 109 = .inr (9, [.ref (z + 110), .int 0, .int (-1)]) := by unfold FIN; rw [kt_109]; rfl
theorem fin_110 {cy : Nat → ClassId} {z : Nat} : FIN cy z 110 = .inl (cy 2, 60, .inr (.inl (fun _ => 0))) := by unfold FIN; rw [kt_110]; rfl
theorem fin_111 {cy : Nat → ClassId} {z : Nat} : FIN cy z 111 = .inr (9, [.ref (z + 112), .int 0, .int (-1)]) := by unfold FIN; rw [kt_111]; rfl
theorem fin_112 {cy : Nat → ClassId} {z : Nat} : FIN cy z 112 = .inl (cy 2, 60, .inr (.inl (fun _ => 0))) := by unfold FIN; rw [kt_112]; rfl
theorem fin_113 {cy : Nat → ClassId} {z : Nat} : FIN cy z 113 = .inr (2, [.ref (z + 114), .ref (z + 115), .ref (z + 116), .ref (z + 117), .ref (z + 118), .ref (z + 119), .ref (z + 120), .ref (z + 121), .int 0, .int 0, .int 0, .int (480), .int (9), .int (3), .int (4), .int 0]) := by unfold FIN; rw [kt_113]; rfl
theorem fin_114 {cy : Nat → ClassId} {z : Nat} : FIN cy z 114 = .inl (cy 2, 8, .inr (.inl (fun _ => 0))) := by unfold FIN; rw [kt_114]; rfl
theorem fin_115 {cy : Nat → ClassId} {z : Nat} : FIN cy z 115 = .inl (cy 1, 12, .inl (fun _ => 0)) := by unfold FIN; rw [kt_115]; rfl
theorem fin_116 {cy : Nat → ClassId} {z : Nat} : FIN cy z 116 = .inl (cy 1, 12, .inl (fun _ => 0)) := by unfold FIN; rw [kt_116]; rfl
theorem fin_117 {cy : Nat → ClassId} {z : Nat} : FIN cy z 117 = .inl (cy 1, 12, .inl (fun _ => 0)) := by unfold FIN; rw [kt_117]; rfl
theorem fin_118 {cy : Nat → ClassId} {z : Nat} : FIN cy z 118 = .inl (cy 3, 12, .inl (fun _ => 0)) := by unfold FIN; rw [kt_118]; rfl
theorem fin_119 {cy : Nat → ClassId} {z : Nat} : FIN cy z 119 = .inl (cy 5, 8, .inr (.inr (.inr (.inr (fun q => some (z + (113 + (14 + 3 * q)))))))) := by
  unfold FIN
  rw [kt_119]
  have e : (fun q => some (z + (119 + 8 + 3 * q)) : Nat → Option Nat) = (fun q => some (z + (113 + (14 + 3 * q))) := funext fun q => congrArg some (by omega)
  rw [← e]
  rfl
theorem fin_120 {cy : Nat → ClassId} {z : Nat} : FIN cy z 120 = .inr (1, [.int (10), .int (16), .int (360)]) := by unfold FIN; rw [kt_120]; rfl
theorem fin_121 {cy : Nat → ClassId} {z : Nat} : FIN cy z 121 = .inr (8, [.ref (z + 122), .ref (z + 123), .ref (z + 124), .ref (z + 125), .ref (z + 126), .int 0, .int 0, .int 0]) := by unfold FIN; rw [kt_121]; rfl
theorem fin_122 {cy : Nat → ClassId} {z : Nat} : FIN cy z 122 = .inl (cy 1, 60, .inl (fun _ => 0)) := by unfold FIN; rw [kt_122]; rfl
theorem fin_123 {cy : Nat → ClassId} {z : Nat} : FIN cy z 123 = .inl (cy 1, 60, .inl (fun _ => 0)) := by unfold FIN; rw [kt_123]; rfl
theorem fin_124 {cy : Nat → ClassId} {z : Nat} : FIN cy z 124 = .inl (cy 1, 60, .inl (fun _ => 0)) := by unfold FIN; rw [kt_124]; rfl
theorem fin_125 {cy : Nat → ClassId} {z : Nat} : FIN cy z 125 = .inl (cy 1, 60, .inl (fun _ => 0)) := by unfold FIN; rw [kt_125]; rfl
theorem fin_126 {cy : Nat → ClassId} {z : Nat} : FIN cy z 126 = .inl (cy 1, 60, .inl (fun _ => 0)) := by unfold FIN; rw [kt_126]; rfl
theorem fin_127 {cy : Nat → ClassId} {z : Nat} : FIN cy z 127 = .inr (7, [.ref (z + 128), .ref (z + 129), .long 0, .int 0, .int 0, .int (-1), .int (-1), .int (-1), .int (-1), .int (-1), .int 0, .int 0]) := by unfold FIN; rw [kt_127]; rfl
theorem fin_128 {cy : Nat → ClassId} {z : Nat} : FIN cy z 128 = .inl (cy 1, 12, .inl (fun _ => 0)) := by unfold FIN; rw [kt_128]; rfl
theorem fin_129 {cy : Nat → ClassId} {z : Nat} : FIN cy z 129 = .inl (cy 1, 8, .inl (fun _ => 0)) := by unfold FIN; rw [kt_129]; rfl
theorem fin_130 {cy : Nat → ClassId} {z : Nat} : FIN cy z 130 = .inr (7, [.ref (z + 131), .ref (z + 132), .long 0, .int 0, .int 0, .int (-1), .int (-1), .int (-1), .int (-1), .int (-1), .int 0, .int 0]) := by unfold FIN; rw [kt_130]; rfl
theorem fin_131 {cy : Nat → ClassId} {z : Nat} : FIN cy z 131 = .inl (cy 1, 12, .inl (fun _ => 0)) := by unfold FIN; rw [kt_131]; rfl
theorem fin_132 {cy : Nat → ClassId} {z : Nat} : FIN cy z 132 = .inl (cy 1, 8, .inl (fun _ => 0)) := by unfold FIN; rw [kt_132]; rfl
theorem fin_133 {cy : Nat → ClassId} {z : Nat} : FIN cy z 133 = .inr (7, [.ref (z + 134), .ref (z + 135), .long 0, .int 0, .int 0, .int (-1), .int (-1), .int (-1), .int (-1), .int (-1), .int 0, .int 0]) := by unfold FIN; rw [kt_133]; rfl
theorem fin_134 {cy : Nat → ClassId} {z : Nat} : FIN cy z 134 = .inl (cy 1, 12, .inl (fun _ => 0)) := by unfold FIN; rw [kt_134]; rfl
theorem fin_135 {cy : Nat → ClassId} {z : Nat} : FIN cy z 135 = .inl (cy 1, 8, .inl (fun _ => 0)) := by unfold FIN; rw [kt_135]; rfl
theorem fin_136 {cy : Nat → ClassId} {z : Nat} : FIN cy z 136 = .inr (7, [.ref (z + 137), .ref (z + 138), .long 0, .int 0, .int 0, .int (-1), .int (-1), .int (-1), .int (-1), .int (-1), .int 0, .int 0]) := by unfold FIN; rw [kt_136]; rfl
theorem fin_137 {cy : Nat → ClassId} {z : Nat} : FIN cy z 137 = .inl (cy 1, 12, .inl (fun _ => 0)) := by unfold FIN; rw [kt_137]; rfl
theorem fin_138 {cy : Nat → ClassId} {z : Nat} : FIN cy z 138 = .inl (cy 1, 8, .inl (fun _ => 0)) := by unfold FIN; rw [kt_138]; rfl
theorem fin_139 {cy : Nat → ClassId} {z : Nat} : FIN cy z 139 = .inr (7, [.ref (z + 140), .ref (z + 141), .long 0, .int 0, .int 0, .int (-1), .int (-1), .int (-1), .int (-1), .int (-1), .int 0, .int 0]) := by unfold FIN; rw [kt_139]; rfl
theorem fin_140 {cy : Nat → ClassId} {z : Nat} : FIN cy z 140 = .inl (cy 1, 12, .inl (fun _ => 0)) := by unfold FIN; rw [kt_140]; rfl
theorem fin_141 {cy : Nat → ClassId} {z : Nat} : FIN cy z 141 = .inl (cy 1, 8, .inl (fun _ => 0)) := by unfold FIN; rw [kt_141]; rfl
theorem fin_142 {cy : Nat → ClassId} {z : Nat} : FIN cy z 142 = .inr (7, [.ref (z + 143), .ref (z + 144), .long 0, .int 0, .int 0, .int (-1), .int (-1), .int (-1), .int (-1), .int (-1), .int 0, .int 0]) := by unfold FIN; rw [kt_142]; rfl
theorem fin_143 {cy : Nat → ClassId} {z : Nat} : FIN cy z 143 = .inl (cy 1, 12, .inl (fun _ => 0)) := by unfold FIN; rw [kt_143]; rfl
theorem fin_144 {cy : Nat → ClassId} {z : Nat} : FIN cy z 144 = .inl (cy 1, 8, .inl (fun _ => 0)) := by unfold FIN; rw [kt_144]; rfl
theorem fin_145 {cy : Nat → ClassId} {z : Nat} : FIN cy z 145 = .inr (7, [.ref (z + 146), .ref (z + 147), .long 0, .int 0, .int 0, .int (-1), .int (-1), .int (-1), .int (-1), .int (-1), .int 0, .int 0]) := by unfold FIN; rw [kt_145]; rfl
theorem fin_146 {cy : Nat → ClassId} {z : Nat} : FIN cy z 146 = .inl (cy 1, 12, .inl (fun _ => 0)) := by unfold FIN; rw [kt_146]; rfl
theorem fin_147 {cy : Nat → ClassId} {z : Nat} : FIN cy z 147 = .inl (cy 1, 8, .inl (fun _ => 0)) := by unfold FIN; rw [kt_147]; rfl
theorem fin_148 {cy : Nat → ClassId} {z : Nat} : FIN cy z 148 = .inr (7, [.ref (z + 149), .ref (z + 150), .long 0, .int 0, .int 0, .int (-1), .int (-1), .int (-1), .int (-1), .int (-1), .int 0, .int 0]) := by unfold FIN; rw [kt_148]; rfl
theorem fin_149 {cy : Nat → ClassId} {z : Nat} : FIN cy z 149 = .inl (cy 1, 12, .inl (fun _ => 0)) := by unfold FIN; rw [kt_149]; rfl
theorem fin_150 {cy : Nat → ClassId} {z : Nat} : FIN cy z 150 = .inl (cy 1, 8, .inl (fun _ => 0)) := by unfold FIN; rw [kt_150]; rfl
theorem fin_151 {cy : Nat → ClassId} {z : Nat} : FIN cy z 151 = .inr (2, [.ref (z + 152), .ref (z + 153), .ref (z + 154), .ref (z + 155), .ref (z + 156), .ref (z + 157), .ref (z + 158), .ref (z + 159), .int 0, .int 0, .int 0, .int (480), .int (9), .int (3), .int (4), .int 0]) := by unfold FIN; rw [kt_151]; rfl
theorem fin_152 {cy : Nat → ClassId} {z : Nat} : FIN cy z 152 = .inl (cy 2, 8, .inr (.inl (fun _ => 0))) := by unfold FIN; rw [kt_152]; rfl
theorem fin_153 {cy : Nat → ClassId} {z : Nat} : FIN cy z 153 = .inl (cy 1, 12, .inl (fun _ => 0)) := by unfold FIN; rw [kt_153]; rfl
theorem fin_154 {cy : Nat → ClassId} {z : Nat} : FIN cy z 154 = .inl (cy 1, 12, .inl (fun _ => 0)) := by unfold FIN; rw [kt_154]; rfl
theorem fin_155 {cy : Nat → ClassId} {z : Nat} : FIN cy z 155 = .inl (cy 1, 12, .inl (fun _ => 0)) := by unfold FIN; rw [kt_155]; rfl
theorem fin_156 {cy : Nat → ClassId} {z : Nat} : FIN cy z 156 = .inl (cy 3, 12, .inl (fun _ => 0)) := by unfold FIN; rw [kt_156]; rfl
theorem fin_157 {cy : Nat → ClassId} {z : Nat} : FIN cy z 157 = .inl (cy 5, 8, .inr (.inr (.inr (.inr (fun q => some (z + (151 + (14 + 3 * q)))))))) := by
  unfold FIN
  rw [kt_157]
  have e : (fun q => some (z + (157 + 8 + 3 * q)) : Nat → Option Nat) = (fun q => some (z + (151 + (14 + 3 * q))) := funext fun q => congrArg some (by omega)
  rw [← e]
  rfl
theorem fin_158 {cy : Nat → ClassId} {z : Nat} : FIN cy z 158 = .inr (1, [.int (10), .int (16), .int (360)]) := by unfold FIN; rw [kt_158]; rfl
theorem fin_159 {cy : Nat → ClassId} {z : Nat} : FIN cy z 159 = .inr (8, [.ref (z + 160), .ref (z + 161), .ref (z + 162), .ref (z + 163), .ref (z + 164), .int 0, .int 0, .int 0]) := by unfold FIN; rw [kt_159]; rfl
theorem fin_160 {cy : Nat → ClassId} {z : Nat} : FIN cy z 160 = .inl (cy 1, 60, .inl (fun _ => 0)) := by unfold FIN; rw [kt_160]; rfl
theorem fin_161 {cy : Nat → ClassId} {z : Nat} : FIN cy z 161 = .inl (cy 1, 60, .inl (fun _ => 0)) := by unfold FIN; rw [kt_161]; rfl
theorem fin_162 {cy : Nat → ClassId} {z : Nat} : FIN cy z 162 = .inl (cy 1, 60, .inl (fun _ => 0)) := by unfold FIN; rw [kt_162]; rfl
theorem fin_163 {cy : Nat → ClassId} {z : Nat} : FIN cy z 163 = .inl (cy 1, 60, .inl (fun _ => 0)) := by unfold FIN; rw [kt_163]; rfl
theorem fin_164 {cy : Nat → ClassId} {z : Nat} : FIN cy z 164 = .inl (cy 1, 60, .inl (fun _ => 0)) := by unfold FIN; rw [kt_164]; rfl
theorem fin_165 {cy : Nat → ClassId} {z : Nat} : FIN cy z 165 = .inr (7, [.ref (z + 166), .ref (z + 167), .long 0, .int 0, .int 0, .int (-1), .int (-1), .int (-1), .int (-1), .int (-1), .int 0, .int 0]) := by unfold FIN; rw [kt_165]; rfl
theorem fin_166 {cy : Nat → ClassId} {z : Nat} : FIN cy z 166 = .inl (cy 1, 12, .inl (fun _ => 0)) := by unfold FIN; rw [kt_166]; rfl
theorem fin_167 {cy : Nat → ClassId} {z : Nat} : FIN cy z 167 = .inl (cy 1, 8, .inl (fun _ => 0)) := by unfold FIN; rw [kt_167]; rfl
theorem fin_168 {cy : Nat → ClassId} {z : Nat} : FIN cy z 168 = .inr (7, [.ref (z + 169), .ref (z + 170), .long 0, .int 0, .int 0, .int (-1), .int (-1), .int (-1), .int (-1), .int (-1), .int 0, .int 0]) := by unfold FIN; rw [kt_168]; rfl
theorem fin_169 {cy : Nat → ClassId} {z : Nat} : FIN cy z 169 = .inl (cy 1, 12, .inl (fun _ => 0)) := by unfold FIN; rw [kt_169]; rfl
theorem fin_170 {cy : Nat → ClassId} {z : Nat} : FIN cy z 170 = .inl (cy 1, 8, .inl (fun _ => 0)) := by unfold FIN; rw [kt_170]; rfl
theorem fin_171 {cy : Nat → ClassId} {z : Nat} : FIN cy z 171 = .inr (7, [.ref (z + 172), .ref (z + 173), .long 0, .int 0, .int 0, .int (-1), .int (-1), .int (-1), .int (-1), .int (-1), .int 0, .int 0]) := by unfold FIN; rw [kt_171]; rfl
theorem fin_172 {cy : Nat → ClassId} {z : Nat} : FIN cy z 172 = .inl (cy 1, 12, .inl (fun _ => 0)) := by unfold FIN; rw [kt_172]; rfl
theorem fin_173 {cy : Nat → ClassId} {z : Nat} : FIN cy z 173 = .inl (cy 1, 8, .inl (fun _ => 0)) := by unfold FIN; rw [kt_173]; rfl
theorem fin_174 {cy : Nat → ClassId} {z : Nat} : FIN cy z 174 = .inr (7, [.ref (z + 175), .ref (z + 176), .long 0, .int 0, .int 0, .int (-1), .int (-1), .int (-1), .int (-1), .int (-1), .int 0, .int 0]) := by unfold FIN; rw [kt_174]; rfl
theorem fin_175 {cy : Nat → ClassId} {z : Nat} : FIN cy z 175 = .inl (cy 1, 12, .inl (fun _ => 0)) := by unfold FIN; rw [kt_175]; rfl
theorem fin_176 {cy : Nat → ClassId} {z : Nat} : FIN cy z 176 = .inl (cy 1, 8, .inl (fun _ => 0)) := by unfold FIN; rw [kt_176]; rfl
theorem fin_177 {cy : Nat → ClassId} {z : Nat} : FIN cy z 177 = .inr (7, [.ref (z + 178), .ref (z + 179), .long 0, .int 0, .int 0, .int (-1), .int (-1), .int (-1), .int (-1), .int (-1), .int 0, .int 0]) := by unfold FIN; rw [kt_177]; rfl
theorem fin_178 {cy : Nat → ClassId} {z : Nat} : FIN cy z 178 = .inl (cy 1, 12, .inl (fun _ => 0)) := by unfold FIN; rw [kt_178]; rfl
theorem fin_179 {cy : Nat → ClassId} {z : Nat} : FIN cy z 179 = .inl (cy 1, 8, .inl (fun _ => 0)) := by unfold FIN; rw [kt_179]; rfl
theorem fin_180 {cy : Nat → ClassId} {z : Nat} : FIN cy z 180 = .inr (7, [.ref (z + 181), .ref (z + 182), .long 0, .int 0, .int 0, .int (-1), .int (-1), .int (-1), .int (-1), .int (-1), .int 0, .int 0]) := by unfold FIN; rw [kt_180]; rfl
theorem fin_181 {cy : Nat → ClassId} {z : Nat} : FIN cy z 181 = .inl (cy 1, 12, .inl (fun _ => 0)) := by unfold FIN; rw [kt_181]; rfl
theorem fin_182 {cy : Nat → ClassId} {z : Nat} : FIN cy z 182 = .inl (cy 1, 8, .inl (fun _ => 0)) := by unfold FIN; rw [kt_182]; rfl
theorem fin_183 {cy : Nat → ClassId} {z : Nat} : FIN cy z 183 = .inr (7, [.ref (z + 184), .ref (z + 185), .long 0, .int 0, .int 0, .int (-1), .int (-1), .int (-1), .int (-1), .int (-1), .int 0, .int 0]) := by unfold FIN; rw [kt_183]; rfl
theorem fin_184 {cy : Nat → ClassId} {z : Nat} : FIN cy z 184 = .inl (cy 1, 12, .inl (fun _ => 0)) := by unfold FIN; rw [kt_184]; rfl
theorem fin_185 {cy : Nat → ClassId} {z : Nat} : FIN cy z 185 = .inl (cy 1, 8, .inl (fun _ => 0)) := by unfold FIN; rw [kt_185]; rfl
theorem fin_186 {cy : Nat → ClassId} {z : Nat} : FIN cy z 186 = .inr (7, [.ref (z + 187), .ref (z + 188), .long 0, .int 0, .int 0, .int (-1), .int (-1), .int (-1), .int (-1), .int (-1), .int 0, .int 0]) := by unfold FIN; rw [kt_186]; rfl
theorem fin_187 {cy : Nat → ClassId} {z : Nat} : FIN cy z 187 = .inl (cy 1, 12, .inl (fun _ => 0)) := by unfold FIN; rw [kt_187]; rfl
theorem fin_188 {cy : Nat → ClassId} {z : Nat} : FIN cy z 188 = .inl (cy 1, 8, .inl (fun _ => 0)) := by unfold FIN; rw [kt_188]; rfl
theorem fin_189 {cy : Nat → ClassId} {z : Nat} : FIN cy z 189 = .inr (2, [.ref (z + 190), .ref (z + 191), .ref (z + 192), .ref (z + 193), .ref (z + 194), .ref (z + 195), .ref (z + 196), .ref (z + 197), .int 0, .int 0, .int 0, .int (480), .int (9), .int (3), .int (4), .int 0]) := by unfold FIN; rw [kt_189]; rfl
theorem fin_190 {cy : Nat → ClassId} {z : Nat} : FIN cy z 190 = .inl (cy 2, 8, .inr (.inl (fun _ => 0))) := by unfold FIN; rw [kt_190]; rfl
theorem fin_191 {cy : Nat → ClassId} {z : Nat} : FIN cy z 191 = .inl (cy 1, 12, .inl (fun _ => 0)) := by unfold FIN; rw [kt_191]; rfl
theorem fin_192 {cy : Nat → ClassId} {z : Nat} : FIN cy z 192 = .inl (cy 1, 12, .inl (fun _ => 0)) := by unfold FIN; rw [kt_192]; rfl
theorem fin_193 {cy : Nat → ClassId} {z : Nat} : FIN cy z 193 = .inl (cy 1, 12, .inl (fun _ => 0)) := by unfold FIN; rw [kt_193]; rfl
theorem fin_194 {cy : Nat → ClassId} {z : Nat} : FIN cy z 194 = .inl (cy 3, 12, .inl (fun _ => 0)) := by unfold FIN; rw [kt_194]; rfl
theorem fin_195 {cy : Nat → ClassId} {z : Nat} : FIN cy z 195 = .inl (cy 5, 8, .inr (.inr (.inr (.inr (fun q => some (z + (189 + (14 + 3 * q)))))))) := by
  unfold FIN
  rw [kt_195]
  have e : (fun q => some (z + (195 + 8 + 3 * q)) : Nat → Option Nat) = (fun q => some (z + (189 + (14 + 3 * q))) := funext fun q => congrArg some (by omega)
  rw [← e]
  rfl
theorem fin_196 {cy : Nat → ClassId} {z : Nat} : FIN cy z 196 = .inr (1, [.int (10), .int (16), .int (360)]) := by unfold FIN; rw [kt_196]; rfl
theorem fin_197 {cy : Nat → ClassId} {z : Nat} : FIN cy z 197 = .inr (8, [.ref (z + 198), .ref (z + 199), .ref (z + 200), .ref (z + 201), .ref (z + 202), .int 0, .int 0, .int 0]) := by unfold FIN; rw [kt_197]; rfl
theorem fin_198 {cy : Nat → ClassId} {z : Nat} : FIN cy z 198 = .inl (cy 1, 60, .inl (fun _ => 0)) := by unfold FIN; rw [kt_198]; rfl
theorem fin_199 {cy : Nat → ClassId} {z : Nat} : FIN cy z 199 = .inl (cy 1, 60, .inl (fun _ => 0)) := by unfold FIN; rw [kt_199]; rfl
theorem fin_200 {cy : Nat → ClassId} {z : Nat} : FIN cy z 200 = .inl (cy 1, 60, .inl (fun _ => 0)) := by unfold FIN; rw [kt_200]; rfl
theorem fin_201 {cy : Nat → ClassId} {z : Nat} : FIN cy z 201 = .inl (cy 1, 60, .inl (fun _ => 0)) := by unfold FIN; rw [kt_201]; rfl
theorem fin_202 {cy : Nat → ClassId} {z : Nat} : FIN cy z 202 = .inl (cy 1, 60, .inl (fun _ => 0)) := by unfold FIN; rw [kt_202]; rfl
theorem fin_203 {cy : Nat → ClassId} {z : Nat} : FIN cy z 203 = .inr (7, [.ref (z + 204), .ref (z + 205), .long 0, .int 0, .int 0, .int (-1), .int (-1), .int (-1), .int (-1), .int (-1), .int 0, .int 0]) := by unfold FIN; rw [kt_203]; rfl
theorem fin_204 {cy : Nat → ClassId} {z : Nat} : FIN cy z 204 = .inl (cy 1, 12, .inl (fun _ => 0)) := by unfold FIN; rw [kt_204]; rfl
theorem fin_205 {cy : Nat → ClassId} {z : Nat} : FIN cy z 205 = .inl (cy 1, 8, .inl (fun _ => 0)) := by unfold FIN; rw [kt_205]; rfl
theorem fin_206 {cy : Nat → ClassId} {z : Nat} : FIN cy z 206 = .inr (7, [.ref (z + 207), .ref (z + 208), .long 0, .int 0, .int 0, .int (-1), .int (-1), .int (-1), .int (-1), .int (-1), .int 0, .int 0]) := by unfold FIN; rw [kt_206]; rfl
theorem fin_207 {cy : Nat → ClassId} {z : Nat} : FIN cy z 207 = .inl (cy 1, 12, .inl (fun _ => 0)) := by unfold FIN; rw [kt_207]; rfl
theorem fin_208 {cy : Nat → ClassId} {z : Nat} : FIN cy z 208 = .inl (cy 1, 8, .inl (fun _ => 0)) := by unfold FIN; rw [kt_208]; rfl
theorem fin_209 {cy : Nat → ClassId} {z : Nat} : FIN cy z 209 = .inr (7, [.ref (z + 210), .ref (z + 211), .long 0, .int 0, .int 0, .int (-1), .int (-1), .int (-1), .int (-1), .int (-1), .int 0, .int 0]) := by unfold FIN; rw [kt_209]; rfl
theorem fin_210 {cy : Nat → ClassId} {z : Nat} : FIN cy z 210 = .inl (cy 1, 12, .inl (fun _ => 0)) := by unfold FIN; rw [kt_210]; rfl
theorem fin_211 {cy : Nat → ClassId} {z : Nat} : FIN cy z 211 = .inl (cy 1, 8, .inl (fun _ => 0)) := by unfold FIN; rw [kt_211]; rfl
theorem fin_212 {cy : Nat → ClassId} {z : Nat} : FIN cy z 212 = .inr (7, [.ref (z + 213), .ref (z + 214), .long 0, .int 0, .int 0, .int (-1), .int (-1), .int (-1), .int (-1), .int (-1), .int 0, .int 0]) := by unfold FIN; rw [kt_212]; rfl
theorem fin_213 {cy : Nat → ClassId} {z : Nat} : FIN cy z 213 = .inl (cy 1, 12, .inl (fun _ => 0)) := by unfold FIN; rw [kt_213]; rfl
theorem fin_214 {cy : Nat → ClassId} {z : Nat} : FIN cy z 214 = .inl (cy 1, 8, .inl (fun _ => 0)) := by unfold FIN; rw [kt_214]; rfl
theorem fin_215 {cy : Nat → ClassId} {z : Nat} : FIN cy z 215 = .inr (7, [.ref (z + 216), .ref (z + 217), .long 0, .int 0, .int 0, .int (-1), .int (-1), .int (-1), .int (-1), .int (-1), .int 0, .int 0]) := by unfold FIN; rw [kt_215]; rfl
theorem fin_216 {cy : Nat → ClassId} {z : Nat} : FIN cy z 216 = .inl (cy 1, 12, .inl (fun _ => 0)) := by unfold FIN; rw [kt_216]; rfl
theorem fin_217 {cy : Nat → ClassId} {z : Nat} : FIN cy z 217 = .inl (cy 1, 8, .inl (fun _ => 0)) := by unfold FIN; rw [kt_217]; rfl
theorem fin_218 {cy : Nat → ClassId} {z : Nat} : FIN cy z 218 = .inr (7, [.ref (z + 219), .ref (z + 220), .long 0, .int 0, .int 0, .int (-1), .int (-1), .int (-1), .int (-1), .int (-1), .int 0, .int 0]) := by unfold FIN; rw [kt_218]; rfl
theorem fin_219 {cy : Nat → ClassId} {z : Nat} : FIN cy z 219 = .inl (cy 1, 12, .inl (fun _ => 0)) := by unfold FIN; rw [kt_219]; rfl
theorem fin_220 {cy : Nat → ClassId} {z : Nat} : FIN cy z 220 = .inl (cy 1, 8, .inl (fun _ => 0)) := by unfold FIN; rw [kt_220]; rfl
theorem fin_221 {cy : Nat → ClassId} {z : Nat} : FIN cy z 221 = .inr (7, [.ref (z + 222), .ref (z + 223), .long 0, .int 0, .int 0, .int (-1), .int (-1), .int (-1), .int (-1), .int (-1), .int 0, .int 0]) := by unfold FIN; rw [kt_221]; rfl
theorem fin_222 {cy : Nat → ClassId} {z : Nat} : FIN cy z 222 = .inl (cy 1, 12, .inl (fun _ => 0)) := by unfold FIN; rw [kt_222]; rfl
theorem fin_223 {cy : Nat → ClassId} {z : Nat} : FIN cy z 223 = .inl (cy 1, 8, .inl (fun _ => 0)) := by unfold FIN; rw [kt_223]; rfl
theorem fin_224 {cy : Nat → ClassId} {z : Nat} : FIN cy z 224 = .inr (7, [.ref (z + 225), .ref (z + 226), .long 0, .int 0, .int 0, .int (-1), .int (-1), .int (-1), .int (-1), .int (-1), .int 0, .int 0]) := by unfold FIN; rw [kt_224]; rfl
theorem fin_225 {cy : Nat → ClassId} {z : Nat} : FIN cy z 225 = .inl (cy 1, 12, .inl (fun _ => 0)) := by unfold FIN; rw [kt_225]; rfl
theorem fin_226 {cy : Nat → ClassId} {z : Nat} : FIN cy z 226 = .inl (cy 1, 8, .inl (fun _ => 0)) := by unfold FIN; rw [kt_226]; rfl
theorem fin_227 {cy : Nat → ClassId} {z : Nat} : FIN cy z 227 = .inr (11, [.int 0, .int 0, .long 0, .long (1), .ref (z + 228), .ref (z + 229), .ref (z + 230), .ref (z + 231), .int 0, .int 0, .int (-1), .int (-1), .int 0, .int 0, .int 0, .int 0, .int 0, .int 0, .int 0, .long 0, .ref (z + 232), .ref (z + 233), .ref (z + 234), .ref (z + 235), .int 0, .int 0, .int 0, .int 0, .int 0, .int 0, .ref (z + 236), .ref (z + 237), .ref (z + 238), .ref (z + 239), .ref (z + 240), .ref (z + 241), .ref (z + 242), .ref (z + 243), .int 0, .int 0, .int 0, .int 0, .int 0, .int 0, .int 0, .int 0, .int 0]) := by unfold FIN; rw [kt_227]; rfl
theorem fin_228 {cy : Nat → ClassId} {z : Nat} : FIN cy z 228 = .inl (cy 1, 4, .inl (fun _ => 0)) := by unfold FIN; rw [kt_228]; rfl
theorem fin_229 {cy : Nat → ClassId} {z : Nat} : FIN cy z 229 = .inl (cy 1, 4, .inl (upd (upd (upd (upd (fun _ => 0) 0 (-1)) 1 (-1)) 2 (-1)) 3 (-1))) := by unfold FIN; rw [kt_229]; rfl
theorem fin_230 {cy : Nat → ClassId} {z : Nat} : FIN cy z 230 = .inl (cy 2, 240, .inr (.inl (fun _ => 0))) := by unfold FIN; rw [kt_230]; rfl
theorem fin_231 {cy : Nat → ClassId} {z : Nat} : FIN cy z 231 = .inl (cy 0, 900, .inl (fun _ => 0)) := by unfold FIN; rw [kt_231]; rfl
theorem fin_232 {cy : Nat → ClassId} {z : Nat} : FIN cy z 232 = .inl (cy 1, 2810, .inl (fun _ => 0)) := by unfold FIN; rw [kt_232]; rfl
theorem fin_233 {cy : Nat → ClassId} {z : Nat} : FIN cy z 233 = .inl (cy 1, 290, .inl (fun _ => 0)) := by unfold FIN; rw [kt_233]; rfl
theorem fin_234 {cy : Nat → ClassId} {z : Nat} : FIN cy z 234 = .inl (cy 1, 290, .inl (fun _ => 0)) := by unfold FIN; rw [kt_234]; rfl
theorem fin_235 {cy : Nat → ClassId} {z : Nat} : FIN cy z 235 = .inl (cy 2, 80, .inr (.inl (fun _ => 0))) := by unfold FIN; rw [kt_235]; rfl
theorem fin_236 {cy : Nat → ClassId} {z : Nat} : FIN cy z 236 = .inl (cy 1, 8, .inl (fun _ => 0)) := by unfold FIN; rw [kt_236]; rfl
theorem fin_237 {cy : Nat → ClassId} {z : Nat} : FIN cy z 237 = .inl (cy 1, 8, .inl (fun _ => 0)) := by unfold FIN; rw [kt_237]; rfl
theorem fin_238 {cy : Nat → ClassId} {z : Nat} : FIN cy z 238 = .inl (cy 2, 8, .inr (.inl (fun _ => 0))) := by unfold FIN; rw [kt_238]; rfl
theorem fin_239 {cy : Nat → ClassId} {z : Nat} : FIN cy z 239 = .inl (cy 2, 8, .inr (.inl (fun _ => 0))) := by unfold FIN; rw [kt_239]; rfl
theorem fin_240 {cy : Nat → ClassId} {z : Nat} : FIN cy z 240 = .inl (cy 1, 8, .inl (fun _ => 0)) := by unfold FIN; rw [kt_240]; rfl
theorem fin_241 {cy : Nat → ClassId} {z : Nat} : FIN cy z 241 = .inl (cy 1, 8, .inl (fun _ => 0)) := by unfold FIN; rw [kt_241]; rfl
theorem fin_242 {cy : Nat → ClassId} {z : Nat} : FIN cy z 242 = .inl (cy 2, 13, .inr (.inl (fun _ => 0))) := by unfold FIN; rw [kt_242]; rfl
theorem fin_243 {cy : Nat → ClassId} {z : Nat} : FIN cy z 243 = .inl (cy 1, 5, .inl (fun _ => 0)) := by unfold FIN; rw [kt_243]; rfl
