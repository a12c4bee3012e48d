theorem fcat {F : Nat → va_E} (s m t n k : Nat) (h : s + m = t) (hk : m + n = k) : (List.range' s m).map F ++ (List.range' t n).map F = (List.range' s k).map F := by
  subst h hk
  rw [← List.map_append, List.range'_append_1]
set_option maxRecDepth 100000 in
theorem sg_5 {cy : Nat → ClassId} {z : Nat} : L_3 cy z (0 + 5) = (List.range' 5 3).map (FINw kwF cy z) := by
  show _ = [FINw kwF cy z 5, FINw kwF cy z 6, FINw kwF cy z 7]
  rw [fin_5, fin_6, fin_7]
  rfl
set_option maxRecDepth 100000 in
theorem sg_8 {cy : Nat → ClassId} {z : Nat} : L_0 cy z (0 + 8) = (List.range' 8 4).map (FINw kwF cy z) := by
  show _ = [FINw kwF cy z 8, FINw kwF cy z 9, FINw kwF cy z 10, FINw kwF cy z 11]
  rw [fin_8, fin_9, fin_10, fin_11]
  rfl
set_option maxRecDepth 100000 in
theorem sg_12 {cy : Nat → ClassId} {z : Nat} : L_4 cy z (0 + 12) = (List.range' 12 2).map (FINw kwF cy z) := by
  show _ = [FINw kwF cy z 12, FINw kwF cy z 13]
  rw [fin_12, fin_13]
  rfl
set_option maxRecDepth 100000 in
theorem sg_14 {cy : Nat → ClassId} {z : Nat} : L_6 cy z (0 + 14) = (List.range' 14 5).map (FINw kwF cy z) := by
  show _ = [FINw kwF cy z 14, FINw kwF cy z 15, FINw kwF cy z 16, FINw kwF cy z 17, FINw kwF cy z 18]
  rw [fin_14, fin_15, fin_16, fin_17, fin_18]
  rfl
set_option maxRecDepth 100000 in
theorem sg_19 {cy : Nat → ClassId} {z : Nat} : L_5 cy z (0 + 19) = (List.range' 19 3).map (FINw kwF cy z) := by
  show _ = [FINw kwF cy z 19, FINw kwF cy z 20, FINw kwF cy z 21]
  rw [fin_19, fin_20, fin_21]
  rfl
set_option maxRecDepth 100000 in
theorem sg_22 {cy : Nat → ClassId} {z : Nat} : L_1 cy z (0 + 22) = (List.range' 22 1).map (FINw kwF cy z) := by
  show _ = [FINw kwF cy z 22]
  rw [fin_22]
  rfl
set_option maxRecDepth 100000 in
theorem sg_23 {cy : Nat → ClassId} {z : Nat} : L_2 cy z (0 + 23) = (List.range' 23 38).map (FINw kwF cy z) := by
  show _ = [FINw kwF cy z 23, FINw kwF cy z 24, FINw kwF cy z 25, FINw kwF cy z 26, FINw kwF cy z 27, FINw kwF cy z 28, FINw kwF cy z 29, FINw kwF cy z 30, FINw kwF cy z 31, FINw kwF cy z 32, FINw kwF cy z 33, FINw kwF cy z 34, FINw kwF cy z 35, FINw kwF cy z 36, FINw kwF cy z 37, FINw kwF cy z 38, FINw kwF cy z 39, FINw kwF cy z 40, FINw kwF cy z 41, FINw kwF cy z 42, FINw kwF cy z 43, FINw kwF cy z 44, FINw kwF cy z 45, FINw kwF cy z 46, FINw kwF cy z 47, FINw kwF cy z 48, FINw kwF cy z 49, FINw kwF cy z 50, FINw kwF cy z 51, FINw kwF cy z 52, FINw kwF cy z 53, FINw kwF cy z 54, FINw kwF cy z 55, FINw kwF cy z 56, FINw kwF cy z 57, FINw kwF cy z 58, FINw kwF cy z 59, FINw kwF cy z 60]
  rw [fin_23, fin_24, fin_25, fin_26, fin_27, fin_28, fin_29, fin_30, fin_31, fin_32, fin_33, fin_34, fin_35, fin_36, fin_37, fin_38, fin_39, fin_40, fin_41, fin_42, fin_43, fin_44, fin_45, fin_46, fin_47, fin_48, fin_49, fin_50, fin_51, fin_52, fin_53, fin_54, fin_55, fin_56, fin_57, fin_58, fin_59, fin_60]
  rfl
set_option maxRecDepth 100000 in
theorem sg_61 {cy : Nat → ClassId} {z : Nat} : L_2 cy z (0 + 61) = (List.range' 61 38).map (FINw kwF cy z) := by
  show _ = [FINw kwF cy z 61, FINw kwF cy z 62, FINw kwF cy z 63, FINw kwF cy z 64, FINw kwF cy z 65, FINw kwF cy z 66, FINw kwF cy z 67, FINw kwF cy z 68, FINw kwF cy z 69, FINw kwF cy z 70, FINw kwF cy z 71, FINw kwF cy z 72, FINw kwF cy z 73, FINw kwF cy z 74, FINw kwF cy z 75, FINw kwF cy z 76, FINw kwF cy z 77, FINw kwF cy z 78, FINw kwF cy z 79, FINw kwF cy z 80, FINw kwF cy z 81, FINw kwF cy z 82, FINw kwF cy z 83, FINw kwF cy z 84, FINw kwF cy z 85, FINw kwF cy z 86, FINw kwF cy z 87, FINw kwF cy z 88, FINw kwF cy z 89, FINw kwF cy z 90, FINw kwF cy z 91, FINw kwF cy z 92, FINw kwF cy z 93, FINw kwF cy z 94, FINw kwF cy z 95, FINw kwF cy z 96, FINw kwF cy z 97, FINw kwF cy z 98]
  rw [fin_61, fin_62, fin_63, fin_64, fin_65, fin_66, fin_67, fin_68, fin_69, fin_70, fin_71, fin_72, fin_73, fin_74, fin_75, fin_76, fin_77, fin_78, fin_79, fin_80, fin_81, fin_82, fin_83, fin_84, fin_85, fin_86, fin_87, fin_88, fin_89, fin_90, fin_91, fin_92, fin_93, fin_94, fin_95, fin_96, fin_97, fin_98]
  rfl
set_option maxRecDepth 100000 in
theorem sg_99 {cy : Nat → ClassId} {z : Nat} : L_8 cy z (0 + 99) = (List.range' 99 6).map (FINw kwF cy z) := by
  show _ = [FINw kwF cy z 99, FINw kwF cy z 100, FINw kwF cy z 101, FINw kwF cy z 102, FINw kwF cy z 103, FINw kwF cy z 104]
  rw [fin_99, fin_100, fin_101, fin_102, fin_103, fin_104]
  rfl
set_option maxRecDepth 100000 in
theorem sg_105 {cy : Nat → ClassId} {z : Nat} : L_10 cy z (0 + 105) = (List.range' 105 2).map (FINw kwF cy z) := by
  show _ = [FINw kwF cy z 105, FINw kwF cy z 106]
  rw [fin_105, fin_106]
  rfl
set_option maxRecDepth 100000 in
theorem sg_107 {cy : Nat → ClassId} {z : Nat} : L_10 cy z (0 + 107) = (List.range' 107 2).map (FINw kwF cy z) := by
  show _ = [FINw kwF cy z 107, FINw kwF cy z 108]
  rw [fin_107, fin_108]
  rfl
set_option maxRecDepth 100000 in
theorem sg_109 {cy : Nat → ClassId} {z : Nat} : L_10 cy z (0 + 109) = (List.range' 109 2).map (FINw kwF cy z) := by
  show _ = [FINw kwF cy z 109, FINw kwF cy z 110]
  rw [fin_109, fin_110]
  rfl
set_option maxRecDepth 100000 in
theorem sg_111 {cy : Nat → ClassId} {z : Nat} : L_10 cy z (0 + 111) = (List.range' 111 2).map (FINw kwF cy z) := by
  show _ = [FINw kwF cy z 111, FINw kwF cy z 112]
  rw [fin_111, fin_112]
  rfl
set_option maxRecDepth 100000 in
theorem sg_113 {cy : Nat → ClassId} {z : Nat} : L_2 cy z (0 + 113) = (List.range' 113 38).map (FINw kwF cy z) := by
  show _ = [FINw kwF cy z 113, FINw kwF cy z 114, FINw kwF cy z 115, FINw kwF cy z 116, FINw kwF cy z 117, FINw kwF cy z 118, FINw kwF cy z 119, FINw kwF cy z 120, FINw kwF cy z 121, FINw kwF cy z 122, FINw kwF cy z 123, FINw kwF cy z 124, FINw kwF cy z 125, FINw kwF cy z 126, FINw kwF cy z 127, FINw kwF cy z 128, FINw kwF cy z 129, FINw kwF cy z 130, FINw kwF cy z 131, FINw kwF cy z 132, FINw kwF cy z 133, FINw kwF cy z 134, FINw kwF cy z 135, FINw kwF cy z 136, FINw kwF cy z 137, FINw kwF cy z 138, FINw kwF cy z 139, FINw kwF cy z 140, FINw kwF cy z 141, FINw kwF cy z 142, FINw kwF cy z 143, FINw kwF cy z 144, FINw kwF cy z 145, FINw kwF cy z 146, FINw kwF cy z 147, FINw kwF cy z 148, FINw kwF cy z 149, FINw kwF cy z 150]
  rw [fin_113, fin_114, fin_115, fin_116, fin_117, fin_118, fin_119, fin_120, fin_121, fin_122, fin_123, fin_124, fin_125, fin_126, fin_127, fin_128, fin_129, fin_130, fin_131, fin_132, fin_133, fin_134, fin_135, fin_136, fin_137, fin_138, fin_139, fin_140, fin_141, fin_142, fin_143, fin_144, fin_145, fin_146, fin_147, fin_148, fin_149, fin_150]
  rfl
set_option maxRecDepth 100000 in
theorem sg_151 {cy : Nat → ClassId} {z : Nat} : L_2 cy z (0 + 151) = (List.range' 151 38).map (FINw kwF cy z) := by
  show _ = [FINw kwF cy z 151, FINw kwF cy z 152, FINw kwF cy z 153, FINw kwF cy z 154, FINw kwF cy z 155, FINw kwF cy z 156, FINw kwF cy z 157, FINw kwF cy z 158, FINw kwF cy z 159, FINw kwF cy z 160, FINw kwF cy z 161, FINw kwF cy z 162, FINw kwF cy z 163, FINw kwF cy z 164, FINw kwF cy z 165, FINw kwF cy z 166, FINw kwF cy z 167, FINw kwF cy z 168, FINw kwF cy z 169, FINw kwF cy z 170, FINw kwF cy z 171, FINw kwF cy z 172, FINw kwF cy z 173, FINw kwF cy z 174, FINw kwF cy z 175, FINw kwF cy z 176, FINw kwF cy z 177, FINw kwF cy z 178, FINw kwF cy z 179, FINw kwF cy z 180, FINw kwF cy z 181, FINw kwF cy z 182, FINw kwF cy z 183, FINw kwF cy z 184, FINw kwF cy z 185, FINw kwF cy z 186, FINw kwF cy z 187, FINw kwF cy z 188]
  rw [fin_151, fin_152, fin_153, fin_154, fin_155, fin_156, fin_157, fin_158, fin_159, fin_160, fin_161, fin_162, fin_163, fin_164, fin_165, fin_166, fin_167, fin_168, fin_169, fin_170, fin_171, fin_172, fin_173, fin_174, fin_175, fin_176, fin_177, fin_178, fin_179, fin_180, fin_181, fin_182, fin_183, fin_184, fin_185, fin_186, fin_187, fin_188]
  rfl
set_option maxRecDepth 100000 in
theorem sg_189 {cy : Nat → ClassId} {z : Nat} : L_2 cy z (0 + 189) = (List.range' 189 38).map (FINw kwF cy z) := by
  show _ = [FINw kwF cy z 189, FINw kwF cy z 190, FINw kwF cy z 191, FINw kwF cy z 192, FINw kwF cy z 193, FINw kwF cy z 194, FINw kwF cy z 195, FINw kwF cy z 196, FINw kwF cy z 197, FINw kwF cy z 198, FINw kwF cy z 199, FINw kwF cy z 200, FINw kwF cy z 201, FINw kwF cy z 202, FINw kwF cy z 203, FINw kwF cy z 204, FINw kwF cy z 205, FINw kwF cy z 206, FINw kwF cy z 207, FINw kwF cy z 208, FINw kwF cy z 209, FINw kwF cy z 210, FINw kwF cy z 211, FINw kwF cy z 212, FINw kwF cy z 213, FINw kwF cy z 214, FINw kwF cy z 215, FINw kwF cy z 216, FINw kwF cy z 217, FINw kwF cy z 218, FINw kwF cy z 219, FINw kwF cy z 220, FINw kwF cy z 221, FINw kwF cy z 222, FINw kwF cy z 223, FINw kwF cy z 224, FINw kwF cy z 225, FINw kwF cy z 226]
  rw [fin_189, fin_190, fin_191, fin_192, fin_193, fin_194, fin_195, fin_196, fin_197, fin_198, fin_199, fin_200, fin_201, fin_202, fin_203, fin_204, fin_205, fin_206, fin_207, fin_208, fin_209, fin_210, fin_211, fin_212, fin_213, fin_214, fin_215, fin_216, fin_217, fin_218, fin_219, fin_220, fin_221, fin_222, fin_223, fin_224, fin_225, fin_226]
  rfl
set_option maxRecDepth 100000 in
theorem sg_h {cy : Nat → ClassId} {z : Nat} : ([.inr (10, [.ref (z + 1), .ref (z + 2), .ref (z + 3), .ref (z + 4), .ref (z + 5), .ref (z + 8), .ref (z + 12), .ref (z + 14), .ref (z + 19), .ref (z + 22), .ref (z + 23), .ref (z + 61), .ref (z + 99), .int 0, .int 0, .int 0, .int (-1), .int (-1), .long 0, .long (1)]), .inl (cy 6, 4, .inr (.inr (.inr (.inr (fun q => some (z + (0 + (105 + 2 * q)))))))), .inl (cy 0, 900, .inl (fun _ => 0)), .inl (cy 4, 3, .inr (.inr (.inr (.inr (fun q => some (z + (0 + (113 + 38 * q)))))))), .inl (cy 1, 5, .inl (upd (fun _ => 0) 0 (-1)))] : List va_E) = (List.range' 0 5).map (FINw kwF cy z) := by
  show _ = [FINw kwF cy z 0, FINw kwF cy z 1, FINw kwF cy z 2, FINw kwF cy z 3, FINw kwF cy z 4]
  rw [fin_0, fin_1, fin_2, fin_3, fin_4]
set_option maxRecDepth 100000 in
theorem sg_all {cy : Nat → ClassId} {z : Nat} : L_11 cy z 0 = (List.range' 0 227).map (FINw kwF cy z) := by
  have e : L_11 cy z 0 = [.inr (10, [.ref (z + 1), .ref (z + 2), .ref (z + 3), .ref (z + 4), .ref (z + 5), .ref (z + 8), .ref (z + 12), .ref (z + 14), .ref (z + 19), .ref (z + 22), .ref (z + 23), .ref (z + 61), .ref (z + 99), .int 0, .int 0, .int 0, .int (-1), .int (-1), .long 0, .long (1)]), .inl (cy 6, 4, .inr (.inr (.inr (.inr (fun q => some (z + (0 + (105 + 2 * q)))))))), .inl (cy 0, 900, .inl (fun _ => 0)), .inl (cy 4, 3, .inr (.inr (.inr (.inr (fun q => some (z + (0 + (113 + 38 * q)))))))), .inl (cy 1, 5, .inl (upd (fun _ => 0) 0 (-1)))] ++ (L_3 cy z (0 + 5) ++ (L_0 cy z (0 + 8) ++ (L_4 cy z (0 + 12) ++ (L_6 cy z (0 + 14) ++ (L_5 cy z (0 + 19) ++ (L_1 cy z (0 + 22) ++ (L_2 cy z (0 + 23) ++ (L_2 cy z (0 + 61) ++ (L_8 cy z (0 + 99) ++ (L_10 cy z (0 + 105) ++ (L_10 cy z (0 + 107) ++ (L_10 cy z (0 + 109) ++ (L_10 cy z (0 + 111) ++ (L_2 cy z (0 + 113) ++ (L_2 cy z (0 + 151) ++ L_2 cy z (0 + 189)))))))))))))))) := rfl
  rw [e, sg_h, sg_5, sg_8, sg_12, sg_14, sg_19, sg_22, sg_23, sg_61, sg_99, sg_105, sg_107, sg_109, sg_111, sg_113, sg_151, sg_189]
  rw [fcat 151 38 189 38 76 rfl rfl, fcat 113 38 151 76 114 rfl rfl, fcat 111 2 113 114 116 rfl rfl, fcat 109 2 111 116 118 rfl rfl, fcat 107 2 109 118 120 rfl rfl, fcat 105 2 107 120 122 rfl rfl, fcat 99 6 105 122 128 rfl rfl, fcat 61 38 99 128 166 rfl rfl, fcat 23 38 61 166 204 rfl rfl, fcat 22 1 23 204 205 rfl rfl, fcat 19 3 22 205 208 rfl rfl, fcat 14 5 19 208 213 rfl rfl, fcat 12 2 14 213 215 rfl rfl, fcat 8 4 12 215 219 rfl rfl, fcat 5 3 8 219 222 rfl rfl, fcat 0 5 5 222 227 rfl rfl]
theorem fget {F : Nat → va_E} {s n a : Nat} {d : va_E} (h1 : s ≤ a) (h2 : a < s + n) : ((List.range' s n).map F).getD (a - s) d = F a := by
  rw [List.getD_eq_getElem?_getD, List.getElem?_map, List.getElem?_range' (by omega)]
  simp only [Option.map_some, Option.getD_some]
  congr 1
  omega
set_option maxRecDepth 100000 in
theorem KT_0 : KT M00.2.2 := by
  refine ⟨?_, ?_, ?_, ?_, ?_, ?_, ?_, ?_⟩
  · intro a h; exact kty_all (f := fun a => r0 (kty a) a 10) (by decide +kernel) (by decide) h
  · intro a h; exact kty_all (f := fun a => r0 (kty a) a 11) (by decide +kernel) (by decide) h
  · intro a h; exact kty_all (f := fun a => r0 (kty a) a 12) (by decide +kernel) (by decide) h
  · intro a h; exact kty_all (f := fun a => r0 (kty a) a 7) (by decide +kernel) (by decide) h
  · intro a h; exact Or.inr (kty_all (f := fun a => r0 (kty a) a 1) (by decide +kernel) (by decide) h)
  · intro a h; exact Or.inr (kty_all (f := fun a => r0 (kty a) a 1) (by decide +kernel) (by decide) h)
  · intro a h; exact kty_all (f := fun a => r0 (kty a) a 2) (by decide +kernel) (by decide) h
  · intro a h; exact kty_all (f := fun a => r0 (kty a) a 3) (by decide +kernel) (by decide) h
