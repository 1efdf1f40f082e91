abbrev cX0_partsWon : ByteArray := prog_2_method_8_code
def yX0_partsWon : MethodName := ⟨RX0, "partsWon", "(IIIJ)J"⟩
abbrev cX7_fillLeaf : ByteArray := prog_9_method_14_code
def yX7_fillLeaf : MethodName := ⟨RX7, "fillLeaf", "(III)V"⟩
abbrev cX7_fillLeaves : ByteArray := prog_9_method_10_code
def yX7_fillLeaves : MethodName := ⟨RX7, "fillLeaves", "(LLawnAhead$Game;LLawnAhead$State;II)V"⟩
abbrev cX7_search : ByteArray := prog_9_method_13_code
def yX7_search : MethodName := ⟨RX7, "search", "(III)V"⟩
theorem dX0_partsWon_0 : decode cX0_partsWon 0 = .ok (.iload_n 3, 1) := by decide +kernel
theorem dX0_partsWon_1 : decode cX0_partsWon 1 = .ok (.iconst 1, 1) := by decide +kernel
theorem dX0_partsWon_2 : decode cX0_partsWon 2 = .ok (.if_icmp .lt 10, 3) := by decide +kernel
theorem dX0_partsWon_5 : decode cX0_partsWon 5 = .ok (.lload 4, 2) := by decide +kernel
theorem dX0_partsWon_7 : decode cX0_partsWon 7 = .ok (.lconst 0, 1) := by decide +kernel
theorem dX0_partsWon_8 : decode cX0_partsWon 8 = .ok (.lcmp, 1) := by decide +kernel
theorem dX0_partsWon_9 : decode cX0_partsWon 9 = .ok (.ifCond .ne 5, 3) := by decide +kernel
theorem dX0_partsWon_12 : decode cX0_partsWon 12 = .ok (.lconst 0, 1) := by decide +kernel
theorem dX0_partsWon_13 : decode cX0_partsWon 13 = .ok (.lreturn, 1) := by decide +kernel
theorem dX0_partsWon_14 : decode cX0_partsWon 14 = .ok (.aload_n 0, 1) := by decide +kernel
theorem dX0_partsWon_15 : decode cX0_partsWon 15 = .ok (.getfield 9, 3) := by decide +kernel
theorem dX0_partsWon_18 : decode cX0_partsWon 18 = .ok (.getfield 66, 3) := by decide +kernel
theorem dX0_partsWon_21 : decode cX0_partsWon 21 = .ok (.iload_n 1, 1) := by decide +kernel
theorem dX0_partsWon_22 : decode cX0_partsWon 22 = .ok (.invokevirtual 98, 3) := by decide +kernel
theorem dX0_partsWon_25 : decode cX0_partsWon 25 = .ok (.istore 6, 2) := by decide +kernel
theorem dX0_partsWon_27 : decode cX0_partsWon 27 = .ok (.iload_n 3, 1) := by decide +kernel
theorem dX0_partsWon_28 : decode cX0_partsWon 28 = .ok (.iconst 1, 1) := by decide +kernel
theorem dX0_partsWon_29 : decode cX0_partsWon 29 = .ok (.if_icmp .ne 8, 3) := by decide +kernel
theorem dX0_partsWon_32 : decode cX0_partsWon 32 = .ok (.iload 6, 2) := by decide +kernel
theorem dX0_partsWon_34 : decode cX0_partsWon 34 = .ok (.goto 13, 3) := by decide +kernel
theorem dX0_partsWon_37 : decode cX0_partsWon 37 = .ok (.aload_n 0, 1) := by decide +kernel
theorem dX0_partsWon_38 : decode cX0_partsWon 38 = .ok (.getfield 9, 3) := by decide +kernel
theorem dX0_partsWon_41 : decode cX0_partsWon 41 = .ok (.getfield 66, 3) := by decide +kernel
theorem dX0_partsWon_44 : decode cX0_partsWon 44 = .ok (.getfield 101, 3) := by decide +kernel
theorem dX0_partsWon_47 : decode cX0_partsWon 47 = .ok (.istore 7, 2) := by decide +kernel
theorem dX0_partsWon_49 : decode cX0_partsWon 49 = .ok (.iload 7, 2) := by decide +kernel
theorem dX0_partsWon_51 : decode cX0_partsWon 51 = .ok (.ifCond .ne 5, 3) := by decide +kernel
theorem dX0_partsWon_54 : decode cX0_partsWon 54 = .ok (.lconst 0, 1) := by decide +kernel
theorem dX0_partsWon_55 : decode cX0_partsWon 55 = .ok (.lreturn, 1) := by decide +kernel
theorem dX0_partsWon_56 : decode cX0_partsWon 56 = .ok (.aload_n 0, 1) := by decide +kernel
theorem dX0_partsWon_57 : decode cX0_partsWon 57 = .ok (.getfield 9, 3) := by decide +kernel
theorem dX0_partsWon_60 : decode cX0_partsWon 60 = .ok (.iload_n 1, 1) := by decide +kernel
theorem dX0_partsWon_61 : decode cX0_partsWon 61 = .ok (.aload_n 0, 1) := by decide +kernel
theorem dX0_partsWon_62 : decode cX0_partsWon 62 = .ok (.getfield 85, 3) := by decide +kernel
theorem dX0_partsWon_65 : decode cX0_partsWon 65 = .ok (.iload_n 2, 1) := by decide +kernel
theorem dX0_partsWon_66 : decode cX0_partsWon 66 = .ok (.invokevirtual 63, 3) := by decide +kernel
theorem dX0_partsWon_69 : decode cX0_partsWon 69 = .ok (.istore 8, 2) := by decide +kernel
theorem dX0_partsWon_71 : decode cX0_partsWon 71 = .ok (.iload 8, 2) := by decide +kernel
theorem dX0_partsWon_73 : decode cX0_partsWon 73 = .ok (.invokestatic 44, 3) := by decide +kernel
theorem dX0_partsWon_76 : decode cX0_partsWon 76 = .ok (.istore 9, 2) := by decide +kernel
theorem dX0_partsWon_78 : decode cX0_partsWon 78 = .ok (.iload 9, 2) := by decide +kernel
theorem dX0_partsWon_80 : decode cX0_partsWon 80 = .ok (.ifCond .ne 17, 3) := by decide +kernel
theorem dX0_partsWon_83 : decode cX0_partsWon 83 = .ok (.aload_n 0, 1) := by decide +kernel
theorem dX0_partsWon_84 : decode cX0_partsWon 84 = .ok (.iload_n 1, 1) := by decide +kernel
theorem dX0_partsWon_85 : decode cX0_partsWon 85 = .ok (.iload_n 2, 1) := by decide +kernel
theorem dX0_partsWon_86 : decode cX0_partsWon 86 = .ok (.iconst 1, 1) := by decide +kernel
theorem dX0_partsWon_87 : decode cX0_partsWon 87 = .ok (.iadd, 1) := by decide +kernel
theorem dX0_partsWon_88 : decode cX0_partsWon 88 = .ok (.iload_n 3, 1) := by decide +kernel
theorem dX0_partsWon_89 : decode cX0_partsWon 89 = .ok (.iconst 1, 1) := by decide +kernel
theorem dX0_partsWon_90 : decode cX0_partsWon 90 = .ok (.isub, 1) := by decide +kernel
theorem dX0_partsWon_91 : decode cX0_partsWon 91 = .ok (.lload 4, 2) := by decide +kernel
theorem dX0_partsWon_93 : decode cX0_partsWon 93 = .ok (.invokevirtual 94, 3) := by decide +kernel
theorem dX0_partsWon_96 : decode cX0_partsWon 96 = .ok (.lreturn, 1) := by decide +kernel
theorem dX0_partsWon_97 : decode cX0_partsWon 97 = .ok (.lload 4, 2) := by decide +kernel
theorem dX0_partsWon_99 : decode cX0_partsWon 99 = .ok (.aload_n 0, 1) := by decide +kernel
theorem dX0_partsWon_100 : decode cX0_partsWon 100 = .ok (.getfield 86, 3) := by decide +kernel
theorem dX0_partsWon_103 : decode cX0_partsWon 103 = .ok (.i2l, 1) := by decide +kernel
theorem dX0_partsWon_104 : decode cX0_partsWon 104 = .ok (.lmul, 1) := by decide +kernel
theorem dX0_partsWon_105 : decode cX0_partsWon 105 = .ok (.ldc2_w 104, 3) := by decide +kernel
theorem dX0_partsWon_108 : decode cX0_partsWon 108 = .ok (.ldiv, 1) := by decide +kernel
theorem dX0_partsWon_109 : decode cX0_partsWon 109 = .ok (.lstore 10, 2) := by decide +kernel
theorem dX0_partsWon_111 : decode cX0_partsWon 111 = .ok (.lload 4, 2) := by decide +kernel
theorem dX0_partsWon_113 : decode cX0_partsWon 113 = .ok (.lload 10, 2) := by decide +kernel
theorem dX0_partsWon_115 : decode cX0_partsWon 115 = .ok (.lsub, 1) := by decide +kernel
theorem dX0_partsWon_116 : decode cX0_partsWon 116 = .ok (.iload 9, 2) := by decide +kernel
theorem dX0_partsWon_118 : decode cX0_partsWon 118 = .ok (.i2l, 1) := by decide +kernel
theorem dX0_partsWon_119 : decode cX0_partsWon 119 = .ok (.ldiv, 1) := by decide +kernel
theorem dX0_partsWon_120 : decode cX0_partsWon 120 = .ok (.lstore 12, 2) := by decide +kernel
theorem dX0_partsWon_122 : decode cX0_partsWon 122 = .ok (.lload 4, 2) := by decide +kernel
theorem dX0_partsWon_124 : decode cX0_partsWon 124 = .ok (.lload 10, 2) := by decide +kernel
theorem dX0_partsWon_126 : decode cX0_partsWon 126 = .ok (.lsub, 1) := by decide +kernel
theorem dX0_partsWon_127 : decode cX0_partsWon 127 = .ok (.lload 12, 2) := by decide +kernel
theorem dX0_partsWon_129 : decode cX0_partsWon 129 = .ok (.iload 9, 2) := by decide +kernel
theorem dX0_partsWon_131 : decode cX0_partsWon 131 = .ok (.iconst 1, 1) := by decide +kernel
theorem dX0_partsWon_132 : decode cX0_partsWon 132 = .ok (.isub, 1) := by decide +kernel
theorem dX0_partsWon_133 : decode cX0_partsWon 133 = .ok (.i2l, 1) := by decide +kernel
theorem dX0_partsWon_134 : decode cX0_partsWon 134 = .ok (.lmul, 1) := by decide +kernel
theorem dX0_partsWon_135 : decode cX0_partsWon 135 = .ok (.lsub, 1) := by decide +kernel
theorem dX0_partsWon_136 : decode cX0_partsWon 136 = .ok (.lstore 14, 2) := by decide +kernel
theorem dX0_partsWon_138 : decode cX0_partsWon 138 = .ok (.aload_n 0, 1) := by decide +kernel
theorem dX0_partsWon_139 : decode cX0_partsWon 139 = .ok (.iload_n 1, 1) := by decide +kernel
theorem dX0_partsWon_140 : decode cX0_partsWon 140 = .ok (.iload_n 2, 1) := by decide +kernel
theorem dX0_partsWon_141 : decode cX0_partsWon 141 = .ok (.iconst 1, 1) := by decide +kernel
theorem dX0_partsWon_142 : decode cX0_partsWon 142 = .ok (.iadd, 1) := by decide +kernel
theorem dX0_partsWon_143 : decode cX0_partsWon 143 = .ok (.iload_n 3, 1) := by decide +kernel
theorem dX0_partsWon_144 : decode cX0_partsWon 144 = .ok (.iconst 1, 1) := by decide +kernel
theorem dX0_partsWon_145 : decode cX0_partsWon 145 = .ok (.isub, 1) := by decide +kernel
theorem dX0_partsWon_146 : decode cX0_partsWon 146 = .ok (.lload 10, 2) := by decide +kernel
theorem dX0_partsWon_148 : decode cX0_partsWon 148 = .ok (.invokevirtual 94, 3) := by decide +kernel
theorem dX0_partsWon_151 : decode cX0_partsWon 151 = .ok (.lstore 16, 2) := by decide +kernel
theorem dX0_partsWon_153 : decode cX0_partsWon 153 = .ok (.iconst 0, 1) := by decide +kernel
theorem dX0_partsWon_154 : decode cX0_partsWon 154 = .ok (.istore 18, 2) := by decide +kernel
theorem dX0_partsWon_156 : decode cX0_partsWon 156 = .ok (.iload 18, 2) := by decide +kernel
theorem dX0_partsWon_158 : decode cX0_partsWon 158 = .ok (.aload_n 0, 1) := by decide +kernel
theorem dX0_partsWon_159 : decode cX0_partsWon 159 = .ok (.getfield 9, 3) := by decide +kernel
theorem dX0_partsWon_162 : decode cX0_partsWon 162 = .ok (.getfield 66, 3) := by decide +kernel
theorem dX0_partsWon_165 : decode cX0_partsWon 165 = .ok (.getfield 70, 3) := by decide +kernel
theorem dX0_partsWon_168 : decode cX0_partsWon 168 = .ok (.if_icmp .ge 90, 3) := by decide +kernel
theorem dX0_partsWon_171 : decode cX0_partsWon 171 = .ok (.iload 8, 2) := by decide +kernel
theorem dX0_partsWon_173 : decode cX0_partsWon 173 = .ok (.iload 7, 2) := by decide +kernel
theorem dX0_partsWon_175 : decode cX0_partsWon 175 = .ok (.iand, 1) := by decide +kernel
theorem dX0_partsWon_176 : decode cX0_partsWon 176 = .ok (.iconst 1, 1) := by decide +kernel
theorem dX0_partsWon_177 : decode cX0_partsWon 177 = .ok (.iload 18, 2) := by decide +kernel
theorem dX0_partsWon_179 : decode cX0_partsWon 179 = .ok (.ishl, 1) := by decide +kernel
theorem dX0_partsWon_180 : decode cX0_partsWon 180 = .ok (.iand, 1) := by decide +kernel
theorem dX0_partsWon_181 : decode cX0_partsWon 181 = .ok (.ifCond .eq 71, 3) := by decide +kernel
theorem dX0_partsWon_184 : decode cX0_partsWon 184 = .ok (.iload 8, 2) := by decide +kernel
theorem dX0_partsWon_186 : decode cX0_partsWon 186 = .ok (.iload 18, 2) := by decide +kernel
theorem dX0_partsWon_188 : decode cX0_partsWon 188 = .ok (.ishr, 1) := by decide +kernel
theorem dX0_partsWon_189 : decode cX0_partsWon 189 = .ok (.iconst 1, 1) := by decide +kernel
theorem dX0_partsWon_190 : decode cX0_partsWon 190 = .ok (.if_icmp .ne 8, 3) := by decide +kernel
theorem dX0_partsWon_193 : decode cX0_partsWon 193 = .ok (.lload 14, 2) := by decide +kernel
theorem dX0_partsWon_195 : decode cX0_partsWon 195 = .ok (.goto 5, 3) := by decide +kernel
theorem dX0_partsWon_198 : decode cX0_partsWon 198 = .ok (.lload 12, 2) := by decide +kernel
theorem dX0_partsWon_200 : decode cX0_partsWon 200 = .ok (.lstore 19, 2) := by decide +kernel
theorem dX0_partsWon_202 : decode cX0_partsWon 202 = .ok (.iload 6, 2) := by decide +kernel
theorem dX0_partsWon_204 : decode cX0_partsWon 204 = .ok (.iload 18, 2) := by decide +kernel
theorem dX0_partsWon_206 : decode cX0_partsWon 206 = .ok (.ishr, 1) := by decide +kernel
theorem dX0_partsWon_207 : decode cX0_partsWon 207 = .ok (.iconst 1, 1) := by decide +kernel
theorem dX0_partsWon_208 : decode cX0_partsWon 208 = .ok (.iand, 1) := by decide +kernel
theorem dX0_partsWon_209 : decode cX0_partsWon 209 = .ok (.ifCond .eq 7, 3) := by decide +kernel
theorem dX0_partsWon_212 : decode cX0_partsWon 212 = .ok (.iconst 1, 1) := by decide +kernel
theorem dX0_partsWon_213 : decode cX0_partsWon 213 = .ok (.goto 4, 3) := by decide +kernel
theorem dX0_partsWon_216 : decode cX0_partsWon 216 = .ok (.iconst 0, 1) := by decide +kernel
theorem dX0_partsWon_217 : decode cX0_partsWon 217 = .ok (.istore 21, 2) := by decide +kernel
theorem dX0_partsWon_219 : decode cX0_partsWon 219 = .ok (.lload 16, 2) := by decide +kernel
theorem dX0_partsWon_221 : decode cX0_partsWon 221 = .ok (.iload 21, 2) := by decide +kernel
theorem dX0_partsWon_223 : decode cX0_partsWon 223 = .ok (.ifCond .eq 8, 3) := by decide +kernel
theorem dX0_partsWon_226 : decode cX0_partsWon 226 = .ok (.lload 19, 2) := by decide +kernel
theorem dX0_partsWon_228 : decode cX0_partsWon 228 = .ok (.goto 21, 3) := by decide +kernel
theorem dX0_partsWon_231 : decode cX0_partsWon 231 = .ok (.aload_n 0, 1) := by decide +kernel
theorem dX0_partsWon_232 : decode cX0_partsWon 232 = .ok (.iload_n 1, 1) := by decide +kernel
theorem dX0_partsWon_233 : decode cX0_partsWon 233 = .ok (.iconst 1, 1) := by decide +kernel
theorem dX0_partsWon_234 : decode cX0_partsWon 234 = .ok (.iload 18, 2) := by decide +kernel
theorem dX0_partsWon_236 : decode cX0_partsWon 236 = .ok (.ishl, 1) := by decide +kernel
theorem dX0_partsWon_237 : decode cX0_partsWon 237 = .ok (.ior, 1) := by decide +kernel
theorem dX0_partsWon_238 : decode cX0_partsWon 238 = .ok (.iload_n 2, 1) := by decide +kernel
theorem dX0_partsWon_239 : decode cX0_partsWon 239 = .ok (.iconst 1, 1) := by decide +kernel
theorem dX0_partsWon_240 : decode cX0_partsWon 240 = .ok (.iadd, 1) := by decide +kernel
theorem dX0_partsWon_241 : decode cX0_partsWon 241 = .ok (.iload_n 3, 1) := by decide +kernel
theorem dX0_partsWon_242 : decode cX0_partsWon 242 = .ok (.iconst 1, 1) := by decide +kernel
theorem dX0_partsWon_243 : decode cX0_partsWon 243 = .ok (.isub, 1) := by decide +kernel
theorem dX0_partsWon_244 : decode cX0_partsWon 244 = .ok (.lload 19, 2) := by decide +kernel
theorem dX0_partsWon_246 : decode cX0_partsWon 246 = .ok (.invokevirtual 94, 3) := by decide +kernel
theorem dX0_partsWon_249 : decode cX0_partsWon 249 = .ok (.ladd, 1) := by decide +kernel
theorem dX0_partsWon_250 : decode cX0_partsWon 250 = .ok (.lstore 16, 2) := by decide +kernel
theorem dX0_partsWon_252 : decode cX0_partsWon 252 = .ok (.iinc 18 1, 3) := by decide +kernel
theorem dX0_partsWon_255 : decode cX0_partsWon 255 = .ok (.goto (-99), 3) := by decide +kernel
theorem dX0_partsWon_258 : decode cX0_partsWon 258 = .ok (.lload 16, 2) := by decide +kernel
theorem dX0_partsWon_260 : decode cX0_partsWon 260 = .ok (.lreturn, 1) := by decide +kernel
theorem dX7_fillLeaf_0 : decode cX7_fillLeaf 0 = .ok (.iload_n 2, 1) := by decide +kernel
theorem dX7_fillLeaf_1 : decode cX7_fillLeaf 1 = .ok (.iconst 3, 1) := by decide +kernel
theorem dX7_fillLeaf_2 : decode cX7_fillLeaf 2 = .ok (.if_icmp .lt 4, 3) := by decide +kernel
theorem dX7_fillLeaf_5 : decode cX7_fillLeaf 5 = .ok (.return_, 1) := by decide +kernel
theorem dX7_fillLeaf_6 : decode cX7_fillLeaf 6 = .ok (.aload_n 0, 1) := by decide +kernel
theorem dX7_fillLeaf_7 : decode cX7_fillLeaf 7 = .ok (.getfield 13, 3) := by decide +kernel
theorem dX7_fillLeaf_10 : decode cX7_fillLeaf 10 = .ok (.iload_n 2, 1) := by decide +kernel
theorem dX7_fillLeaf_11 : decode cX7_fillLeaf 11 = .ok (.iconst 1, 1) := by decide +kernel
theorem dX7_fillLeaf_12 : decode cX7_fillLeaf 12 = .ok (.iadd, 1) := by decide +kernel
theorem dX7_fillLeaf_13 : decode cX7_fillLeaf 13 = .ok (.aaload, 1) := by decide +kernel
theorem dX7_fillLeaf_14 : decode cX7_fillLeaf 14 = .ok (.astore 4, 2) := by decide +kernel
theorem dX7_fillLeaf_16 : decode cX7_fillLeaf 16 = .ok (.iconst 0, 1) := by decide +kernel
theorem dX7_fillLeaf_17 : decode cX7_fillLeaf 17 = .ok (.istore 5, 2) := by decide +kernel
theorem dX7_fillLeaf_19 : decode cX7_fillLeaf 19 = .ok (.iload 5, 2) := by decide +kernel
theorem dX7_fillLeaf_21 : decode cX7_fillLeaf 21 = .ok (.aload_n 0, 1) := by decide +kernel
theorem dX7_fillLeaf_22 : decode cX7_fillLeaf 22 = .ok (.getfield 31, 3) := by decide +kernel
theorem dX7_fillLeaf_25 : decode cX7_fillLeaf 25 = .ok (.getfield 36, 3) := by decide +kernel
theorem dX7_fillLeaf_28 : decode cX7_fillLeaf 28 = .ok (.getfield 42, 3) := by decide +kernel
theorem dX7_fillLeaf_31 : decode cX7_fillLeaf 31 = .ok (.if_icmp .ge 66, 3) := by decide +kernel
theorem dX7_fillLeaf_34 : decode cX7_fillLeaf 34 = .ok (.aload_n 0, 1) := by decide +kernel
theorem dX7_fillLeaf_35 : decode cX7_fillLeaf 35 = .ok (.aload_n 0, 1) := by decide +kernel
theorem dX7_fillLeaf_36 : decode cX7_fillLeaf 36 = .ok (.getfield 13, 3) := by decide +kernel
theorem dX7_fillLeaf_39 : decode cX7_fillLeaf 39 = .ok (.iload_n 2, 1) := by decide +kernel
theorem dX7_fillLeaf_40 : decode cX7_fillLeaf 40 = .ok (.aaload, 1) := by decide +kernel
theorem dX7_fillLeaf_41 : decode cX7_fillLeaf 41 = .ok (.iconst 0, 1) := by decide +kernel
theorem dX7_fillLeaf_42 : decode cX7_fillLeaf 42 = .ok (.iload 5, 2) := by decide +kernel
theorem dX7_fillLeaf_44 : decode cX7_fillLeaf 44 = .ok (.iconst 0, 1) := by decide +kernel
theorem dX7_fillLeaf_45 : decode cX7_fillLeaf 45 = .ok (.iconst 0, 1) := by decide +kernel
theorem dX7_fillLeaf_46 : decode cX7_fillLeaf 46 = .ok (.invokevirtual 105, 3) := by decide +kernel
theorem dX7_fillLeaf_49 : decode cX7_fillLeaf 49 = .ok (.ifCond .eq 42, 3) := by decide +kernel
theorem dX7_fillLeaf_52 : decode cX7_fillLeaf 52 = .ok (.aload 4, 2) := by decide +kernel
theorem dX7_fillLeaf_54 : decode cX7_fillLeaf 54 = .ok (.aload_n 0, 1) := by decide +kernel
theorem dX7_fillLeaf_55 : decode cX7_fillLeaf 55 = .ok (.getfield 13, 3) := by decide +kernel
theorem dX7_fillLeaf_58 : decode cX7_fillLeaf 58 = .ok (.iload_n 2, 1) := by decide +kernel
theorem dX7_fillLeaf_59 : decode cX7_fillLeaf 59 = .ok (.aaload, 1) := by decide +kernel
theorem dX7_fillLeaf_60 : decode cX7_fillLeaf 60 = .ok (.invokevirtual 113, 3) := by decide +kernel
theorem dX7_fillLeaf_63 : decode cX7_fillLeaf 63 = .ok (.aload_n 0, 1) := by decide +kernel
theorem dX7_fillLeaf_64 : decode cX7_fillLeaf 64 = .ok (.aload 4, 2) := by decide +kernel
theorem dX7_fillLeaf_66 : decode cX7_fillLeaf 66 = .ok (.iconst 0, 1) := by decide +kernel
theorem dX7_fillLeaf_67 : decode cX7_fillLeaf 67 = .ok (.iload 5, 2) := by decide +kernel
theorem dX7_fillLeaf_69 : decode cX7_fillLeaf 69 = .ok (.iconst 0, 1) := by decide +kernel
theorem dX7_fillLeaf_70 : decode cX7_fillLeaf 70 = .ok (.iconst 0, 1) := by decide +kernel
theorem dX7_fillLeaf_71 : decode cX7_fillLeaf 71 = .ok (.invokevirtual 109, 3) := by decide +kernel
theorem dX7_fillLeaf_74 : decode cX7_fillLeaf 74 = .ok (.aload_n 0, 1) := by decide +kernel
theorem dX7_fillLeaf_75 : decode cX7_fillLeaf 75 = .ok (.iload_n 1, 1) := by decide +kernel
theorem dX7_fillLeaf_76 : decode cX7_fillLeaf 76 = .ok (.iconst 1, 1) := by decide +kernel
theorem dX7_fillLeaf_77 : decode cX7_fillLeaf 77 = .ok (.iadd, 1) := by decide +kernel
theorem dX7_fillLeaf_78 : decode cX7_fillLeaf 78 = .ok (.iload_n 2, 1) := by decide +kernel
theorem dX7_fillLeaf_79 : decode cX7_fillLeaf 79 = .ok (.iconst 1, 1) := by decide +kernel
theorem dX7_fillLeaf_80 : decode cX7_fillLeaf 80 = .ok (.iadd, 1) := by decide +kernel
theorem dX7_fillLeaf_81 : decode cX7_fillLeaf 81 = .ok (.iload_n 3, 1) := by decide +kernel
theorem dX7_fillLeaf_82 : decode cX7_fillLeaf 82 = .ok (.bipush 30, 2) := by decide +kernel
theorem dX7_fillLeaf_84 : decode cX7_fillLeaf 84 = .ok (.imul, 1) := by decide +kernel
theorem dX7_fillLeaf_85 : decode cX7_fillLeaf 85 = .ok (.iload 5, 2) := by decide +kernel
theorem dX7_fillLeaf_87 : decode cX7_fillLeaf 87 = .ok (.iadd, 1) := by decide +kernel
theorem dX7_fillLeaf_88 : decode cX7_fillLeaf 88 = .ok (.invokevirtual 145, 3) := by decide +kernel
theorem dX7_fillLeaf_91 : decode cX7_fillLeaf 91 = .ok (.iinc 5 1, 3) := by decide +kernel
theorem dX7_fillLeaf_94 : decode cX7_fillLeaf 94 = .ok (.goto (-75), 3) := by decide +kernel
theorem dX7_fillLeaf_97 : decode cX7_fillLeaf 97 = .ok (.return_, 1) := by decide +kernel
theorem dX7_fillLeaves_0 : decode cX7_fillLeaves 0 = .ok (.aload_n 0, 1) := by decide +kernel
theorem dX7_fillLeaves_1 : decode cX7_fillLeaves 1 = .ok (.aload_n 1, 1) := by decide +kernel
theorem dX7_fillLeaves_2 : decode cX7_fillLeaves 2 = .ok (.putfield 27, 3) := by decide +kernel
theorem dX7_fillLeaves_5 : decode cX7_fillLeaves 5 = .ok (.aload_n 0, 1) := by decide +kernel
theorem dX7_fillLeaves_6 : decode cX7_fillLeaves 6 = .ok (.iload_n 3, 1) := by decide +kernel
theorem dX7_fillLeaves_7 : decode cX7_fillLeaves 7 = .ok (.putfield 130, 3) := by decide +kernel
theorem dX7_fillLeaves_10 : decode cX7_fillLeaves 10 = .ok (.aload_n 0, 1) := by decide +kernel
theorem dX7_fillLeaves_11 : decode cX7_fillLeaves 11 = .ok (.iload 4, 2) := by decide +kernel
theorem dX7_fillLeaves_13 : decode cX7_fillLeaves 13 = .ok (.putfield 133, 3) := by decide +kernel
theorem dX7_fillLeaves_16 : decode cX7_fillLeaves 16 = .ok (.aload_n 0, 1) := by decide +kernel
theorem dX7_fillLeaves_17 : decode cX7_fillLeaves 17 = .ok (.iconst 0, 1) := by decide +kernel
theorem dX7_fillLeaves_18 : decode cX7_fillLeaves 18 = .ok (.putfield 136, 3) := by decide +kernel
theorem dX7_fillLeaves_21 : decode cX7_fillLeaves 21 = .ok (.aload_n 0, 1) := by decide +kernel
theorem dX7_fillLeaves_22 : decode cX7_fillLeaves 22 = .ok (.iconst (-1), 1) := by decide +kernel
theorem dX7_fillLeaves_23 : decode cX7_fillLeaves 23 = .ok (.putfield 139, 3) := by decide +kernel
theorem dX7_fillLeaves_26 : decode cX7_fillLeaves 26 = .ok (.aload_n 0, 1) := by decide +kernel
theorem dX7_fillLeaves_27 : decode cX7_fillLeaves 27 = .ok (.getfield 13, 3) := by decide +kernel
theorem dX7_fillLeaves_30 : decode cX7_fillLeaves 30 = .ok (.iconst 0, 1) := by decide +kernel
theorem dX7_fillLeaves_31 : decode cX7_fillLeaves 31 = .ok (.aaload, 1) := by decide +kernel
theorem dX7_fillLeaves_32 : decode cX7_fillLeaves 32 = .ok (.aload_n 2, 1) := by decide +kernel
theorem dX7_fillLeaves_33 : decode cX7_fillLeaves 33 = .ok (.invokevirtual 113, 3) := by decide +kernel
theorem dX7_fillLeaves_36 : decode cX7_fillLeaves 36 = .ok (.aload_n 0, 1) := by decide +kernel
theorem dX7_fillLeaves_37 : decode cX7_fillLeaves 37 = .ok (.invokevirtual 142, 3) := by decide +kernel
theorem dX7_fillLeaves_40 : decode cX7_fillLeaves 40 = .ok (.aload_n 0, 1) := by decide +kernel
theorem dX7_fillLeaves_41 : decode cX7_fillLeaves 41 = .ok (.iconst 0, 1) := by decide +kernel
theorem dX7_fillLeaves_42 : decode cX7_fillLeaves 42 = .ok (.iconst 0, 1) := by decide +kernel
theorem dX7_fillLeaves_43 : decode cX7_fillLeaves 43 = .ok (.iconst 0, 1) := by decide +kernel
theorem dX7_fillLeaves_44 : decode cX7_fillLeaves 44 = .ok (.invokevirtual 145, 3) := by decide +kernel
theorem dX7_fillLeaves_47 : decode cX7_fillLeaves 47 = .ok (.return_, 1) := by decide +kernel
theorem dX7_search_0 : decode cX7_search 0 = .ok (.iload_n 2, 1) := by decide +kernel
theorem dX7_search_1 : decode cX7_search 1 = .ok (.iconst 3, 1) := by decide +kernel
theorem dX7_search_2 : decode cX7_search 2 = .ok (.if_icmp .le 4, 3) := by decide +kernel
theorem dX7_search_5 : decode cX7_search 5 = .ok (.return_, 1) := by decide +kernel
theorem dX7_search_6 : decode cX7_search 6 = .ok (.aload_n 0, 1) := by decide +kernel
theorem dX7_search_7 : decode cX7_search 7 = .ok (.getfield 13, 3) := by decide +kernel
theorem dX7_search_10 : decode cX7_search 10 = .ok (.iload_n 2, 1) := by decide +kernel
theorem dX7_search_11 : decode cX7_search 11 = .ok (.aaload, 1) := by decide +kernel
theorem dX7_search_12 : decode cX7_search 12 = .ok (.astore 4, 2) := by decide +kernel
theorem dX7_search_14 : decode cX7_search 14 = .ok (.aload_n 0, 1) := by decide +kernel
theorem dX7_search_15 : decode cX7_search 15 = .ok (.aload 4, 2) := by decide +kernel
theorem dX7_search_17 : decode cX7_search 17 = .ok (.getfield 55, 3) := by decide +kernel
theorem dX7_search_20 : decode cX7_search 20 = .ok (.iload_n 1, 1) := by decide +kernel
theorem dX7_search_21 : decode cX7_search 21 = .ok (.invokevirtual 155, 3) := by decide +kernel
theorem dX7_search_24 : decode cX7_search 24 = .ok (.ifCond .eq 4, 3) := by decide +kernel
theorem dX7_search_27 : decode cX7_search 27 = .ok (.return_, 1) := by decide +kernel
theorem dX7_search_28 : decode cX7_search 28 = .ok (.iload_n 1, 1) := by decide +kernel
theorem dX7_search_29 : decode cX7_search 29 = .ok (.istore 5, 2) := by decide +kernel
theorem dX7_search_31 : decode cX7_search 31 = .ok (.iload 5, 2) := by decide +kernel
theorem dX7_search_33 : decode cX7_search 33 = .ok (.aload_n 0, 1) := by decide +kernel
theorem dX7_search_34 : decode cX7_search 34 = .ok (.getfield 27, 3) := by decide +kernel
theorem dX7_search_37 : decode cX7_search 37 = .ok (.getfield 116, 3) := by decide +kernel
theorem dX7_search_40 : decode cX7_search 40 = .ok (.if_icmp .ge 56, 3) := by decide +kernel
theorem dX7_search_43 : decode cX7_search 43 = .ok (.aload_n 0, 1) := by decide +kernel
theorem dX7_search_44 : decode cX7_search 44 = .ok (.getfield 27, 3) := by decide +kernel
theorem dX7_search_47 : decode cX7_search 47 = .ok (.getfield 119, 3) := by decide +kernel
theorem dX7_search_50 : decode cX7_search 50 = .ok (.iload 5, 2) := by decide +kernel
theorem dX7_search_52 : decode cX7_search 52 = .ok (.iaload, 1) := by decide +kernel
theorem dX7_search_53 : decode cX7_search 53 = .ok (.istore 6, 2) := by decide +kernel
theorem dX7_search_55 : decode cX7_search 55 = .ok (.iload 6, 2) := by decide +kernel
theorem dX7_search_57 : decode cX7_search 57 = .ok (.invokestatic 99, 3) := by decide +kernel
theorem dX7_search_60 : decode cX7_search 60 = .ok (.ifCond .eq 12, 3) := by decide +kernel
theorem dX7_search_63 : decode cX7_search 63 = .ok (.aload_n 0, 1) := by decide +kernel
theorem dX7_search_64 : decode cX7_search 64 = .ok (.iload 5, 2) := by decide +kernel
theorem dX7_search_66 : decode cX7_search 66 = .ok (.iload_n 2, 1) := by decide +kernel
theorem dX7_search_67 : decode cX7_search 67 = .ok (.iload_n 3, 1) := by decide +kernel
theorem dX7_search_68 : decode cX7_search 68 = .ok (.invokevirtual 159, 3) := by decide +kernel
theorem dX7_search_71 : decode cX7_search 71 = .ok (.return_, 1) := by decide +kernel
theorem dX7_search_72 : decode cX7_search 72 = .ok (.aload_n 0, 1) := by decide +kernel
theorem dX7_search_73 : decode cX7_search 73 = .ok (.aload 4, 2) := by decide +kernel
theorem dX7_search_75 : decode cX7_search 75 = .ok (.iload 6, 2) := by decide +kernel
theorem dX7_search_77 : decode cX7_search 77 = .ok (.iload 6, 2) := by decide +kernel
theorem dX7_search_79 : decode cX7_search 79 = .ok (.iconst 1, 1) := by decide +kernel
theorem dX7_search_80 : decode cX7_search 80 = .ok (.invokestatic 95, 3) := by decide +kernel
theorem dX7_search_83 : decode cX7_search 83 = .ok (.invokevirtual 126, 3) := by decide +kernel
theorem dX7_search_86 : decode cX7_search 86 = .ok (.ifCond .ne 4, 3) := by decide +kernel
theorem dX7_search_89 : decode cX7_search 89 = .ok (.return_, 1) := by decide +kernel
theorem dX7_search_90 : decode cX7_search 90 = .ok (.iinc 5 1, 3) := by decide +kernel
theorem dX7_search_93 : decode cX7_search 93 = .ok (.goto (-62), 3) := by decide +kernel
theorem dX7_search_96 : decode cX7_search 96 = .ok (.aload 4, 2) := by decide +kernel
theorem dX7_search_98 : decode cX7_search 98 = .ok (.getfield 55, 3) := by decide +kernel
theorem dX7_search_101 : decode cX7_search 101 = .ok (.aload_n 0, 1) := by decide +kernel
theorem dX7_search_102 : decode cX7_search 102 = .ok (.getfield 130, 3) := by decide +kernel
theorem dX7_search_105 : decode cX7_search 105 = .ok (.if_icmp .ne 29, 3) := by decide +kernel
theorem dX7_search_108 : decode cX7_search 108 = .ok (.aload_n 0, 1) := by decide +kernel
theorem dX7_search_109 : decode cX7_search 109 = .ok (.getfield 136, 3) := by decide +kernel
theorem dX7_search_112 : decode cX7_search 112 = .ok (.aload_n 0, 1) := by decide +kernel
theorem dX7_search_113 : decode cX7_search 113 = .ok (.getfield 133, 3) := by decide +kernel
theorem dX7_search_116 : decode cX7_search 116 = .ok (.if_icmp .ne 8, 3) := by decide +kernel
theorem dX7_search_119 : decode cX7_search 119 = .ok (.aload_n 0, 1) := by decide +kernel
theorem dX7_search_120 : decode cX7_search 120 = .ok (.iload_n 3, 1) := by decide +kernel
theorem dX7_search_121 : decode cX7_search 121 = .ok (.putfield 139, 3) := by decide +kernel
theorem dX7_search_124 : decode cX7_search 124 = .ok (.aload_n 0, 1) := by decide +kernel
theorem dX7_search_125 : decode cX7_search 125 = .ok (.dup, 1) := by decide +kernel
theorem dX7_search_126 : decode cX7_search 126 = .ok (.getfield 136, 3) := by decide +kernel
theorem dX7_search_129 : decode cX7_search 129 = .ok (.iconst 1, 1) := by decide +kernel
theorem dX7_search_130 : decode cX7_search 130 = .ok (.iadd, 1) := by decide +kernel
theorem dX7_search_131 : decode cX7_search 131 = .ok (.putfield 136, 3) := by decide +kernel
theorem dX7_search_134 : decode cX7_search 134 = .ok (.return_, 1) := by decide +kernel
theorem wl_5_73 : (.methodLink RX7 155 yX7_isHopeless : Cond) ∈ sg_tbl := tb_5 _ (List.mem_of_getElem? (i := 73) (by decide +kernel)) (by decide +kernel)
theorem wl_2_91 : (.fieldLink RX7 136 "LawnAhead$Play" "found" "I" : Cond) ∈ sg_tbl := tb_2 _ (List.mem_of_getElem? (i := 91) (by decide +kernel)) (by decide +kernel)
theorem wl_2_90 : (.fieldLink RX7 133 "LawnAhead$Play" "sought" "I" : Cond) ∈ sg_tbl := tb_2 _ (List.mem_of_getElem? (i := 90) (by decide +kernel)) (by decide +kernel)
theorem wl_2_93 : (.fieldLink RX7 139 "LawnAhead$Play" "foundCode" "I" : Cond) ∈ sg_tbl := tb_2 _ (List.mem_of_getElem? (i := 93) (by decide +kernel)) (by decide +kernel)
theorem wl_5_78 : (.methodLink RX7 159 yX7_fillLeaf : Cond) ∈ sg_tbl := tb_5 _ (List.mem_of_getElem? (i := 78) (by decide +kernel)) (by decide +kernel)
theorem wl_5_69 : (.methodLink RX7 145 yX7_search : Cond) ∈ sg_tbl := tb_5 _ (List.mem_of_getElem? (i := 69) (by decide +kernel)) (by decide +kernel)
theorem wl_5_65 : (.methodLink RX7 142 yX7_lookOn : Cond) ∈ sg_tbl := tb_5 _ (List.mem_of_getElem? (i := 65) (by decide +kernel)) (by decide +kernel)
theorem wl_6_57 : (.constantLong RX0 104 (100) : Cond) ∈ sg_tbl := tb_6 _ (List.mem_of_getElem? (i := 57) (by decide +kernel)) (by decide +kernel)
theorem wl_6_56 : (.methodLink RX0 98 yX4_winners : Cond) ∈ sg_tbl := tb_6 _ (List.mem_of_getElem? (i := 56) (by decide +kernel)) (by decide +kernel)
theorem wl_2_121 : (.fieldLink RX0 85 "LawnAhead$Ahead" "earth" "I" : Cond) ∈ sg_tbl := tb_2 _ (List.mem_of_getElem? (i := 121) (by decide +kernel)) (by decide +kernel)
theorem wl_2_122 : (.fieldLink RX0 86 "LawnAhead$Ahead" "chance" "I" : Cond) ∈ sg_tbl := tb_2 _ (List.mem_of_getElem? (i := 122) (by decide +kernel)) (by decide +kernel)
theorem wl_6_52 : (.methodLink RX0 94 yX0_partsWon : Cond) ∈ sg_tbl := tb_6 _ (List.mem_of_getElem? (i := 52) (by decide +kernel)) (by decide +kernel)
theorem wl_1_223 : (.fieldLink RX0 101 "LawnAhead$Ground" "all" "I" : Cond) ∈ sg_tbl := tb_1 _ (List.mem_of_getElem? (i := 223) (by decide +kernel)) (by decide +kernel)
theorem wl_5_72 : (.code yX7_search cX7_search 7 none : Cond) ∈ sg_tbl := tb_5 _ (List.mem_of_getElem? (i := 72) (by decide +kernel)) (by decide +kernel)
theorem wl_5_71 : (.instanceMethod yX7_search : Cond) ∈ sg_tbl := tb_5 _ (List.mem_of_getElem? (i := 71) (by decide +kernel)) (by decide +kernel)
theorem wl_0_31 : (.selects RX7 yX7_search yX7_search : Cond) ∈ sg_tbl := tb_0 _ (List.mem_of_getElem? (i := 31) (by decide +kernel)) (by decide +kernel)
theorem wl_5_81 : (.code yX7_fillLeaf cX7_fillLeaf 6 none : Cond) ∈ sg_tbl := tb_5 _ (List.mem_of_getElem? (i := 81) (by decide +kernel)) (by decide +kernel)
theorem wl_5_80 : (.instanceMethod yX7_fillLeaf : Cond) ∈ sg_tbl := tb_5 _ (List.mem_of_getElem? (i := 80) (by decide +kernel)) (by decide +kernel)
theorem wl_0_33 : (.selects RX7 yX7_fillLeaf yX7_fillLeaf : Cond) ∈ sg_tbl := tb_0 _ (List.mem_of_getElem? (i := 33) (by decide +kernel)) (by decide +kernel)
theorem wl_5_64 : (.code yX7_fillLeaves cX7_fillLeaves 5 none : Cond) ∈ sg_tbl := tb_5 _ (List.mem_of_getElem? (i := 64) (by decide +kernel)) (by decide +kernel)
theorem wl_5_62 : (.instanceMethod yX7_fillLeaves : Cond) ∈ sg_tbl := tb_5 _ (List.mem_of_getElem? (i := 62) (by decide +kernel)) (by decide +kernel)
theorem wl_5_63 : (.selects RX7 yX7_fillLeaves yX7_fillLeaves : Cond) ∈ sg_tbl := tb_5 _ (List.mem_of_getElem? (i := 63) (by decide +kernel)) (by decide +kernel)
theorem wl_6_55 : (.code yX0_partsWon cX0_partsWon 22 (some .long) : Cond) ∈ sg_tbl := tb_6 _ (List.mem_of_getElem? (i := 55) (by decide +kernel)) (by decide +kernel)
theorem wl_6_54 : (.instanceMethod yX0_partsWon : Cond) ∈ sg_tbl := tb_6 _ (List.mem_of_getElem? (i := 54) (by decide +kernel)) (by decide +kernel)
theorem wl_0_46 : (.selects RX0 yX0_partsWon yX0_partsWon : Cond) ∈ sg_tbl := tb_0 _ (List.mem_of_getElem? (i := 46) (by decide +kernel)) (by decide +kernel)
section
variable {p : Program} {l : Launch} {e : Env} {R : Room} {s : State} {m : MethodId} {args : Array Value} {below : List Frame} {meth : Method} {c : Code} {H : Heap} {locs : List Loc} {cells slots : Nat} {Q : State → Prop} {cc : ByteArray} {nL pc : Nat} {ls : Array Slot} {rest : List Value} {own : String} {D : va_G} {A : Nat → Prop} {tys : List (ClassId × FieldType)} {ad ks : List Nat} {P : sgPm} {H0 : Heap} {index : Nat} {base : Nat} {st0 : List Value} {a : Nat}
theorem gf_X0_1   (X : CallFix p m c cc nL s args sg_tbl own) (hK : va_K D vwCl tys s) (hG : sgG (KT P) D vwCl A tys ad ks H) (ha : isK ad ks 0 a) (hl : Cond.fieldLink own index "LawnAhead$Ahead" "earth" "I" ∈ sg_tbl) (hdg : decode cc pc = .ok (.getfield index, 3)) (kk : ∀ x : Int32, iv (-2147483648) 2147483647 x → fld D H 0 a 1 (.int x) → W p l e R s m args below meth c H locs cells slots Q (F0 m (pc + 3) ls (.int x :: rest))) : W p l e R s m args below meth c H locs cells slots Q (F0 m pc ls (.ref a :: rest)) :=
  sg_get X hK hG ha (k := 0) (ci := 0) rfl (C := RX0) (T := TX0) (N := 5) rfl inL_X0 1 (by decide) rfl hl (fun _ h => h) hdg (fun v hv hf => by obtain ⟨x, rfl, hx⟩ := hv; exact kk x hx hf)
theorem gf_X0_2   (X : CallFix p m c cc nL s args sg_tbl own) (hK : va_K D vwCl tys s) (hG : sgG (KT P) D vwCl A tys ad ks H) (ha : isK ad ks 0 a) (hl : Cond.fieldLink own index "LawnAhead$Ahead" "chance" "I" ∈ sg_tbl) (hdg : decode cc pc = .ok (.getfield index, 3)) (kk : ∀ x : Int32, iv (-2147483648) 2147483647 x → fld D H 0 a 2 (.int x) → W p l e R s m args below meth c H locs cells slots Q (F0 m (pc + 3) ls (.int x :: rest))) : W p l e R s m args below meth c H locs cells slots Q (F0 m pc ls (.ref a :: rest)) :=
  sg_get X hK hG ha (k := 0) (ci := 0) rfl (C := RX0) (T := TX0) (N := 5) rfl inL_X0 2 (by decide) rfl hl (fun _ h => h) hdg (fun v hv hf => by obtain ⟨x, rfl, hx⟩ := hv; exact kk x hx hf)
theorem gf_X7_6   (X : CallFix p m c cc nL s args sg_tbl own) (hK : va_K D vwCl tys s) (hG : sgG (KT P) D vwCl A tys ad ks H) (ha : isK ad ks 7 a) (hl : Cond.fieldLink own index "LawnAhead$Play" "sought" "I" ∈ sg_tbl) (hdg : decode cc pc = .ok (.getfield index, 3)) (kk : ∀ x : Int32, iv (-2147483648) 2147483647 x → fld D H 7 a 6 (.int x) → W p l e R s m args below meth c H locs cells slots Q (F0 m (pc + 3) ls (.int x :: rest))) : W p l e R s m args below meth c H locs cells slots Q (F0 m pc ls (.ref a :: rest)) :=
  sg_get X hK hG ha (k := 7) (ci := 7) rfl (C := RX7) (T := TX7) (N := 9) rfl inL_X7 6 (by decide) rfl hl (fun _ h => h) hdg (fun v hv hf => by obtain ⟨x, rfl, hx⟩ := hv; exact kk x hx hf)
theorem gf_X7_7   (X : CallFix p m c cc nL s args sg_tbl own) (hK : va_K D vwCl tys s) (hG : sgG (KT P) D vwCl A tys ad ks H) (ha : isK ad ks 7 a) (hl : Cond.fieldLink own index "LawnAhead$Play" "found" "I" ∈ sg_tbl) (hdg : decode cc pc = .ok (.getfield index, 3)) (kk : ∀ x : Int32, iv (-2147483648) 2147483647 x → fld D H 7 a 7 (.int x) → W p l e R s m args below meth c H locs cells slots Q (F0 m (pc + 3) ls (.int x :: rest))) : W p l e R s m args below meth c H locs cells slots Q (F0 m pc ls (.ref a :: rest)) :=
  sg_get X hK hG ha (k := 7) (ci := 7) rfl (C := RX7) (T := TX7) (N := 9) rfl inL_X7 7 (by decide) rfl hl (fun _ h => h) hdg (fun v hv hf => by obtain ⟨x, rfl, hx⟩ := hv; exact kk x hx hf)
theorem pf_X7_4  {x : Value}  (X : CallFix p m c cc nL s args sg_tbl own) (hK : va_K D vwCl tys s) (hG : sgG (KT P) D vwCl A tys ad ks H) (hS : va_S A H0 H locs) (ha : isK ad ks 7 a) (hl : Cond.fieldLink own index "LawnAhead$Play" "game" "LLawnAhead$Game;" ∈ sg_tbl) (hv : okV ad ks (.inr (.inl (false, 3))) x) (hdg : decode cc pc = .ok (.putfield index, 3)) (kk : ∀ (H1 : Heap) (locs1 : List Loc), sgG (KT P) D vwCl A tys ad ks H1 → va_S A H0 H1 locs1 → fld D H1 7 a 4 x → sgFr (KT P) D vwCl ad ks H H1 (fun a' j' => a' = a ∧ j' = 4) → W p l e R s m args below meth c H1 locs1 cells slots Q (F0 m (pc + 3) ls rest)) : W p l e R s m args below meth c H locs cells slots Q (F0 m pc ls (x :: .ref a :: rest)) :=
  sg_put X hK hG hS ha (k := 7) (ci := 7) rfl (C := RX7) (T := TX7) (N := 9) rfl inL_X7 tyX7 tyX7_ok nmX7 4 (by decide) rfl hl (fun _ h => h) rfl (ty := (tyX7 4)) rfl (by rcases hv with ⟨-, rfl⟩ | ⟨y, rfl, -⟩ <;> rfl) (by rcases hv with ⟨-, rfl⟩ | ⟨y, rfl, -⟩ <;> rfl) hv hdg kk
theorem pf_X7_5  {x : Int32}  (X : CallFix p m c cc nL s args sg_tbl own) (hK : va_K D vwCl tys s) (hG : sgG (KT P) D vwCl A tys ad ks H) (hS : va_S A H0 H locs) (ha : isK ad ks 7 a) (hl : Cond.fieldLink own index "LawnAhead$Play" "aim" "I" ∈ sg_tbl) (hv : okV ad ks (.inl ((-2147483648), 2147483647)) (.int x)) (hdg : decode cc pc = .ok (.putfield index, 3)) (kk : ∀ (H1 : Heap) (locs1 : List Loc), sgG (KT P) D vwCl A tys ad ks H1 → va_S A H0 H1 locs1 → fld D H1 7 a 5 (.int x) → sgFr (KT P) D vwCl ad ks H H1 (fun a' j' => a' = a ∧ j' = 5) → W p l e R s m args below meth c H1 locs1 cells slots Q (F0 m (pc + 3) ls rest)) : W p l e R s m args below meth c H locs cells slots Q (F0 m pc ls (.int x :: .ref a :: rest)) :=
  sg_put X hK hG hS ha (k := 7) (ci := 7) rfl (C := RX7) (T := TX7) (N := 9) rfl inL_X7 tyX7 tyX7_ok nmX7 5 (by decide) rfl hl (fun _ h => h) rfl (ty := .int) rfl rfl rfl hv hdg kk
theorem pf_X7_6  {x : Int32}  (X : CallFix p m c cc nL s args sg_tbl own) (hK : va_K D vwCl tys s) (hG : sgG (KT P) D vwCl A tys ad ks H) (hS : va_S A H0 H locs) (ha : isK ad ks 7 a) (hl : Cond.fieldLink own index "LawnAhead$Play" "sought" "I" ∈ sg_tbl) (hv : okV ad ks (.inl ((-2147483648), 2147483647)) (.int x)) (hdg : decode cc pc = .ok (.putfield index, 3)) (kk : ∀ (H1 : Heap) (locs1 : List Loc), sgG (KT P) D vwCl A tys ad ks H1 → va_S A H0 H1 locs1 → fld D H1 7 a 6 (.int x) → sgFr (KT P) D vwCl ad ks H H1 (fun a' j' => a' = a ∧ j' = 6) → W p l e R s m args below meth c H1 locs1 cells slots Q (F0 m (pc + 3) ls rest)) : W p l e R s m args below meth c H locs cells slots Q (F0 m pc ls (.int x :: .ref a :: rest)) :=
  sg_put X hK hG hS ha (k := 7) (ci := 7) rfl (C := RX7) (T := TX7) (N := 9) rfl inL_X7 tyX7 tyX7_ok nmX7 6 (by decide) rfl hl (fun _ h => h) rfl (ty := .int) rfl rfl rfl hv hdg kk
theorem pf_X7_7  {x : Int32}  (X : CallFix p m c cc nL s args sg_tbl own) (hK : va_K D vwCl tys s) (hG : sgG (KT P) D vwCl A tys ad ks H) (hS : va_S A H0 H locs) (ha : isK ad ks 7 a) (hl : Cond.fieldLink own index "LawnAhead$Play" "found" "I" ∈ sg_tbl) (hv : okV ad ks (.inl ((-2147483648), 2147483647)) (.int x)) (hdg : decode cc pc = .ok (.putfield index, 3)) (kk : ∀ (H1 : Heap) (locs1 : List Loc), sgG (KT P) D vwCl A tys ad ks H1 → va_S A H0 H1 locs1 → fld D H1 7 a 7 (.int x) → sgFr (KT P) D vwCl ad ks H H1 (fun a' j' => a' = a ∧ j' = 7) → W p l e R s m args below meth c H1 locs1 cells slots Q (F0 m (pc + 3) ls rest)) : W p l e R s m args below meth c H locs cells slots Q (F0 m pc ls (.int x :: .ref a :: rest)) :=
  sg_put X hK hG hS ha (k := 7) (ci := 7) rfl (C := RX7) (T := TX7) (N := 9) rfl inL_X7 tyX7 tyX7_ok nmX7 7 (by decide) rfl hl (fun _ h => h) rfl (ty := .int) rfl rfl rfl hv hdg kk
theorem pf_X7_8  {x : Int32}  (X : CallFix p m c cc nL s args sg_tbl own) (hK : va_K D vwCl tys s) (hG : sgG (KT P) D vwCl A tys ad ks H) (hS : va_S A H0 H locs) (ha : isK ad ks 7 a) (hl : Cond.fieldLink own index "LawnAhead$Play" "foundCode" "I" ∈ sg_tbl) (hv : okV ad ks (.inl ((-2147483648), 2147483647)) (.int x)) (hdg : decode cc pc = .ok (.putfield index, 3)) (kk : ∀ (H1 : Heap) (locs1 : List Loc), sgG (KT P) D vwCl A tys ad ks H1 → va_S A H0 H1 locs1 → fld D H1 7 a 8 (.int x) → sgFr (KT P) D vwCl ad ks H H1 (fun a' j' => a' = a ∧ j' = 8) → W p l e R s m args below meth c H1 locs1 cells slots Q (F0 m (pc + 3) ls rest)) : W p l e R s m args below meth c H locs cells slots Q (F0 m pc ls (.int x :: .ref a :: rest)) :=
  sg_put X hK hG hS ha (k := 7) (ci := 7) rfl (C := RX7) (T := TX7) (N := 9) rfl inL_X7 tyX7 tyX7_ok nmX7 8 (by decide) rfl hl (fun _ h => h) rfl (ty := .int) rfl rfl rfl hv hdg kk
set_option maxHeartbeats 8000000 in
set_option maxRecDepth 100000 in
theorem m_X7_search_4 (l : Launch) {D : va_G} {base : Nat} {tys : List (ClassId × FieldType)} {ad ks : List Nat} {P : sgPm} (a0 : Nat) (h0 : isK ad ks 7 a0) (x1 : Int32) (h1 : iv 0 16 x1) (x2 : Int32) (h2 : iv 4 4 x2) (x3 : Int32) : sgMv l (KT P) D vwCl base tys ad ks yX7_search cX7_search 7 none ({ frames := 0, cells := 0, slots := 0, locals := 0 }) [.ref a0, .int x1, .int x2, .int x3] := by
  refine sg_ofW (by decide +kernel) (Nat.le_of_ble_eq_true rfl) (fun p e s m below meth c X hr hlk hb hK hC hG ls hl => ?_)
  have hS : va_S (fun q : Nat => base ≤ q) s.heap s.heap [] := va_S.rf
  have hl : lv_has ls 7 [(0, .ref a0), (1, .int x1), (2, .int x2), (3, .int x3)] := hl
  refine lv_iload_n X.1 X.2.1 dX7_search_0 rfl (lv_at hl 2 rfl) ?_
  refine lv_iconst (v := 3) X.1 X.2.1 dX7_search_1 (by decide +kernel) ?_
  refine lv_icmp_le (tgt := 6) X.1 X.2.1 dX7_search_2 (by decide) (fun c1 => ?_) (fun c1 => ?_)
  · exact ((iv_no (iv_le (b' := 3) c1 h2 (iv_c 3 (a := 3) (b := 3) (by decide +kernel)) (by decide +kernel)) (by decide +kernel))).elim
  · exact sg_vret X hr hlk hb hK hC hG hS dX7_search_5

theorem ca_X7_search_4   (X : CallFix p m c cc nL s args sg_tbl own) (hK : va_K D vwCl tys s) (hG : sgG (KT P) D vwCl (fun q : Nat => base ≤ q) tys ad ks H) (hC : sgC base s) (hS : va_S (fun q : Nat => base ≤ q) s.heap H locs) (hb : base ≤ s.heap.size) (a0 : Nat) (h0 : isK ad ks 7 a0) (x1 : Int32) (h1 : iv 0 16 x1) (x2 : Int32) (h2 : iv 4 4 x2) (x3 : Int32) (hl : Cond.methodLink own index yX7_search ∈ sg_tbl) (hsize : ls.size = nL) (hst : st0 = [.int x1, .int x2, .int x3].reverse ++ .ref a0 :: rest) (hW : (rest.map fun v => v.category).sum ≤ 8) (hR : 1 ≤ R.frames ∧ 26 ≤ R.locals) (hf : cells ≤ R.cells ∧ slots ≤ R.slots) (hdg : decode cc pc = .ok (.invokevirtual index, 3)) (kk : ∀ (H1 : Heap) (locs1 : List Loc), sgG (KT P) D vwCl (fun q : Nat => base ≤ q) tys ad ks H1 → va_S (fun q : Nat => base ≤ q) s.heap H1 locs1 → W p l e R s m args below meth c H1 locs1 cells slots Q (F0 m (pc + 3) ls rest)) : W p l e R s m args below meth c H locs cells slots Q (F0 m pc ls st0) :=
  sg_callVv X hK hG hC hS hb (m_X7_search_4 l a0 h0 x1 h1 x2 h2 x3) h0 (k := 7) (ci := 7) rfl (C := RX7) (T := TX7) (N := 9) rfl wl_5_72 wl_1_9 wl_5_71 wl_0_31 (n := 3) (by decide +kernel) rfl rfl rfl hl hsize hst hW hR hf hdg kk

set_option maxHeartbeats 8000000 in
set_option maxRecDepth 100000 in
theorem m_X7_fillLeaf_3 (l : Launch) {D : va_G} {base : Nat} {tys : List (ClassId × FieldType)} {ad ks : List Nat} {P : sgPm} (a0 : Nat) (h0 : isK ad ks 7 a0) (x1 : Int32) (h1 : iv 0 15 x1) (x2 : Int32) (h2 : iv 3 3 x2) (x3 : Int32) : sgMv l (KT P) D vwCl base tys ad ks yX7_fillLeaf cX7_fillLeaf 6 none ({ frames := 0, cells := 0, slots := 0, locals := 0 }) [.ref a0, .int x1, .int x2, .int x3] := by
  refine sg_ofW (by decide +kernel) (Nat.le_of_ble_eq_true rfl) (fun p e s m below meth c X hr hlk hb hK hC hG ls hl => ?_)
  have hS : va_S (fun q : Nat => base ≤ q) s.heap s.heap [] := va_S.rf
  have hl : lv_has ls 6 [(0, .ref a0), (1, .int x1), (2, .int x2), (3, .int x3)] := hl
  refine lv_iload_n X.1 X.2.1 dX7_fillLeaf_0 rfl (lv_at hl 2 rfl) ?_
  refine lv_iconst (v := 3) X.1 X.2.1 dX7_fillLeaf_1 (by decide +kernel) ?_
  refine lv_icmp_lt (tgt := 6) X.1 X.2.1 dX7_fillLeaf_2 (by decide) (fun c1 => ?_) (fun c1 => ?_)
  · exact ((iv_no (iv_lt (b' := 2) c1 h2 (iv_c 3 (a := 3) (b := 3) (by decide +kernel)) (by decide +kernel)) (by decide +kernel))).elim
  · exact sg_vret X hr hlk hb hK hC hG hS dX7_fillLeaf_5

theorem ca_X7_fillLeaf_3   (X : CallFix p m c cc nL s args sg_tbl own) (hK : va_K D vwCl tys s) (hG : sgG (KT P) D vwCl (fun q : Nat => base ≤ q) tys ad ks H) (hC : sgC base s) (hS : va_S (fun q : Nat => base ≤ q) s.heap H locs) (hb : base ≤ s.heap.size) (a0 : Nat) (h0 : isK ad ks 7 a0) (x1 : Int32) (h1 : iv 0 15 x1) (x2 : Int32) (h2 : iv 3 3 x2) (x3 : Int32) (hl : Cond.methodLink own index yX7_fillLeaf ∈ sg_tbl) (hsize : ls.size = nL) (hst : st0 = [.int x1, .int x2, .int x3].reverse ++ .ref a0 :: rest) (hW : (rest.map fun v => v.category).sum ≤ 8) (hR : 1 ≤ R.frames ∧ 25 ≤ R.locals) (hf : cells ≤ R.cells ∧ slots ≤ R.slots) (hdg : decode cc pc = .ok (.invokevirtual index, 3)) (kk : ∀ (H1 : Heap) (locs1 : List Loc), sgG (KT P) D vwCl (fun q : Nat => base ≤ q) tys ad ks H1 → va_S (fun q : Nat => base ≤ q) s.heap H1 locs1 → W p l e R s m args below meth c H1 locs1 cells slots Q (F0 m (pc + 3) ls rest)) : W p l e R s m args below meth c H locs cells slots Q (F0 m pc ls st0) :=
  sg_callVv X hK hG hC hS hb (m_X7_fillLeaf_3 l a0 h0 x1 h1 x2 h2 x3) h0 (k := 7) (ci := 7) rfl (C := RX7) (T := TX7) (N := 9) rfl wl_5_81 wl_1_9 wl_5_80 wl_0_33 (n := 3) (by decide +kernel) rfl rfl rfl hl hsize hst hW hR hf hdg kk

set_option maxHeartbeats 8000000 in
set_option maxRecDepth 100000 in
theorem m_X7_search_3 (l : Launch) {D : va_G} {base : Nat} {tys : List (ClassId × FieldType)} {ad ks : List Nat} {P : sgPm} (a0 : Nat) (h0 : isK ad ks 7 a0) (x1 : Int32) (h1 : iv 0 16 x1) (x2 : Int32) (h2 : iv 3 3 x2) (x3 : Int32) : sgMv l (KT P) D vwCl base tys ad ks yX7_search cX7_search 7 none ({ frames := 6, cells := 0, slots := 0, locals := 156 }) [.ref a0, .int x1, .int x2, .int x3] := by
  refine sg_ofW (by decide +kernel) (Nat.le_of_ble_eq_true rfl) (fun p e s m below meth c X hr hlk hb hK hC hG ls hl => ?_)
  have hS : va_S (fun q : Nat => base ≤ q) s.heap s.heap [] := va_S.rf
  have hl : lv_has ls 7 [(0, .ref a0), (1, .int x1), (2, .int x2), (3, .int x3)] := hl
  refine lv_iload_n X.1 X.2.1 dX7_search_0 rfl (lv_at hl 2 rfl) ?_
  refine lv_iconst (v := 3) X.1 X.2.1 dX7_search_1 (by decide +kernel) ?_
  refine lv_icmp_le (tgt := 6) X.1 X.2.1 dX7_search_2 (by decide) (fun c1 => ?_) (fun c1 => ?_)
  · refine lv_aload_n X.1 X.2.1 dX7_search_6 rfl (lv_at hl 0 rfl) ?_
    refine gf_X7_1 X hK hG h0 wl_2_85 dX7_search_7 (fun q2 hq2 kq2 => ?_)
    refine lv_iload_n X.1 X.2.1 dX7_search_10 rfl (lv_at hl 2 rfl) ?_
    refine al_33 X hK hG hq2 (iv_vpin h2 (by decide +kernel)) dX7_search_11 (fun q3 hq3 => ?_)
    refine lv_astore (lv' := [(4, .ref q3), (0, .ref a0), (1, .int x1), (2, .int x2), (3, .int x3)]) X.1 X.2.1 dX7_search_12 hl (by decide) rfl (fun ls hl => ?_)
    refine lv_aload_n X.1 X.2.1 dX7_search_14 rfl (lv_at hl 1 rfl) ?_
    refine lv_aload X.1 X.2.1 dX7_search_15 (lv_at hl 0 rfl) ?_
    refine gf_X9_0 X hK hG hq3 wl_1_117 dX7_search_17 (fun f4 hf4 kf4 => ?_)
    refine lv_iload_n X.1 X.2.1 dX7_search_20 rfl (lv_at hl 2 rfl) ?_
    refine ca_X7_isHopeless X hK hG hC (fun _ h => h) hS hb a0 h0 f4 x1 h1 wl_5_73 hl.1 (rest := []) rfl (Nat.le_of_ble_eq_true rfl) ⟨Nat.le_of_ble_eq_true rfl, Nat.le_of_ble_eq_true rfl⟩ ⟨Nat.le_of_ble_eq_true rfl, Nat.le_of_ble_eq_true rfl⟩ dX7_search_21 (fun f5 locs hf5 hS => ?_)
    refine lv_if_eq (tgt := 28) X.1 X.2.1 dX7_search_24 (by decide) (fun c6 => ?_) (fun c6 => ?_)
    · refine lv_iload_n X.1 X.2.1 dX7_search_28 rfl (lv_at hl 2 rfl) ?_
      refine lv_istore (lv' := [(5, .int x1), (4, .ref q3), (0, .ref a0), (1, .int x1), (2, .int x2), (3, .int x3)]) X.1 X.2.1 dX7_search_29 hl (by decide) rfl (fun ls hl => ?_)
      have B7_31 : ∀ (N : Nat) (H : Heap) (locs : List Loc) (ls : Array Slot) (z7_5 : Int32), sgG (KT P) D vwCl (fun q : Nat => base ≤ q) tys ad ks H → va_S (fun q : Nat => base ≤ q) s.heap H locs → lv_has ls 7 [(0, .ref a0), (2, .int x2), (3, .int x3), (4, .ref q3), (5, .int z7_5)] → iv 0 16 z7_5 → (17 - z7_5.toInt).toNat ≤ N → W p l e (headSpec (Cond.code yX7_search cX7_search 7 none :: sg_tbl) ({ frames := 6, cells := 0, slots := 0, locals := 156 })).room s m #[.ref a0, .int x1, .int x2, .int x3] below meth c H locs 0 0 (MQ below (va_Qv (fun (_ : Unit) => True) (fun _ => sgB (KT P) D vwCl base tys ad ks) (fun q : Nat => base ≤ q)) #[.ref a0, .int x1, .int x2, .int x3] s 0 0 (fun q : Nat => base ≤ q)) (F0 m 31 ls []) := by
        intro N; induction N with
        | zero =>
          intro H locs ls z7_5 hG hS hl hz7_5 hN
          exact absurd hN (by have := iv_up hz7_5; omega)
        | succ N ih7 =>
          intro H locs ls z7_5 hG hS hl hz7_5 hN7
          refine lv_iload X.1 X.2.1 dX7_search_31 (lv_at hl 4 rfl) ?_
          refine lv_aload_n X.1 X.2.1 dX7_search_33 rfl (lv_at hl 0 rfl) ?_
          refine gf_X7_4 X hK hG h0 wl_2_88 dX7_search_34 (fun q8 hq8 kq8 => ?_)
          refine gf_X3_1 X hK hG hq8 wl_1_98 dX7_search_37 (fun f9 hf9 kf9 => ?_)
          refine lv_icmp_ge (tgt := 96) X.1 X.2.1 dX7_search_40 (by decide) (fun c10 => ?_) (fun c10 => ?_)
          · refine lv_aload X.1 X.2.1 dX7_search_96 (lv_at hl 3 rfl) ?_
            refine gf_X9_0 X hK hG hq3 wl_1_117 dX7_search_98 (fun f11 hf11 kf11 => ?_)
            refine lv_aload_n X.1 X.2.1 dX7_search_101 rfl (lv_at hl 0 rfl) ?_
            refine gf_X7_5 X hK hG h0 wl_2_89 dX7_search_102 (fun f12 hf12 kf12 => ?_)
            refine lv_icmp_ne (tgt := 134) X.1 X.2.1 dX7_search_105 (by decide) (fun c13 => ?_) (fun c13 => ?_)
            · exact sg_vret X hr hlk hb hK hC hG hS dX7_search_134
            · refine lv_aload_n X.1 X.2.1 dX7_search_108 rfl (lv_at hl 0 rfl) ?_
              refine gf_X7_7 X hK hG h0 wl_2_91 dX7_search_109 (fun f14 hf14 kf14 => ?_)
              refine lv_aload_n X.1 X.2.1 dX7_search_112 rfl (lv_at hl 0 rfl) ?_
              refine gf_X7_6 X hK hG h0 wl_2_90 dX7_search_113 (fun f15 hf15 kf15 => ?_)
              have B17_124 : ∀ (H : Heap) (locs : List Loc) (ls : Array Slot), sgG (KT P) D vwCl (fun q : Nat => base ≤ q) tys ad ks H → va_S (fun q : Nat => base ≤ q) s.heap H locs → lv_has ls 7 [(0, .ref a0)] → W p l e (headSpec (Cond.code yX7_search cX7_search 7 none :: sg_tbl) ({ frames := 6, cells := 0, slots := 0, locals := 156 })).room s m #[.ref a0, .int x1, .int x2, .int x3] below meth c H locs 0 0 (MQ below (va_Qv (fun (_ : Unit) => True) (fun _ => sgB (KT P) D vwCl base tys ad ks) (fun q : Nat => base ≤ q)) #[.ref a0, .int x1, .int x2, .int x3] s 0 0 (fun q : Nat => base ≤ q)) (F0 m 124 ls []) := by
                intro H locs ls hG hS hl
                refine lv_aload_n X.1 X.2.1 dX7_search_124 rfl (lv_at hl 0 rfl) ?_
                refine lv_dup X.1 X.2.1 dX7_search_125 rfl ?_
                refine gf_X7_7 X hK hG h0 wl_2_91 dX7_search_126 (fun f18 hf18 kf18 => ?_)
                refine lv_iconst (v := 1) X.1 X.2.1 dX7_search_129 (by decide +kernel) ?_
                refine lv_iadd X.1 X.2.1 dX7_search_130 ?_
                refine lv_topi (fun f19 ef19 => ?_)
                refine pf_X7_7 X hK hG hS h0 wl_2_91 ⟨_, rfl, (iv_top _)⟩ dX7_search_131 (fun H locs hG hS ku20 ru20 => ?_)
                exact sg_vret X hr hlk hb hK hC hG hS dX7_search_134
              refine lv_icmp_ne (tgt := 124) X.1 X.2.1 dX7_search_116 (by decide) (fun c16 => ?_) (fun c16 => ?_)
              · exact B17_124 H _ _ hG hS (lv_sub hl [0] rfl)
              · refine lv_aload_n X.1 X.2.1 dX7_search_119 rfl (lv_at hl 0 rfl) ?_
                refine lv_iload_n X.1 X.2.1 dX7_search_120 rfl (lv_at hl 2 rfl) ?_
                refine pf_X7_8 X hK hG hS h0 wl_2_93 ⟨_, rfl, (iv_top _)⟩ dX7_search_121 (fun H locs hG hS ku21 ru21 => ?_)
                exact B17_124 H _ _ hG hS (lv_sub hl [0] rfl)
          · refine lv_aload_n X.1 X.2.1 dX7_search_43 rfl (lv_at hl 0 rfl) ?_
            refine gg_X7_4 X hK hG h0 wl_2_88 kq8 dX7_search_44 ?_
            refine gf_X3_0 X hK hG hq8 wl_1_95 dX7_search_47 (fun q22 hq22 kq22 => ?_)
            refine lv_iload X.1 X.2.1 dX7_search_50 (lv_at hl 4 rfl) ?_
            refine al_20 X hK hG hq22 (iv_vpin (iv_lt (b' := 15) (iv_gt_of c10) hz7_5 hf9 (by decide +kernel)) (by decide +kernel)) dX7_search_52 (fun f23 hf23 => ?_)
            refine lv_istore (lv' := [(6, .int f23), (0, .ref a0), (2, .int x2), (3, .int x3), (4, .ref q3), (5, .int z7_5)]) X.1 X.2.1 dX7_search_53 hl (by decide) rfl (fun ls hl => ?_)
            refine lv_iload X.1 X.2.1 dX7_search_55 (lv_at hl 0 rfl) ?_
            refine ca_X7_isLeaf X hK hG hC (fun _ h => h) hS hb f23 wl_5_38 hl.1 (rest := []) rfl (Nat.le_of_ble_eq_true rfl) ⟨Nat.le_of_ble_eq_true rfl, Nat.le_of_ble_eq_true rfl⟩ ⟨Nat.le_of_ble_eq_true rfl, Nat.le_of_ble_eq_true rfl⟩ dX7_search_57 (fun f24 locs hf24 hS => ?_)
            refine lv_if_eq (tgt := 72) X.1 X.2.1 dX7_search_60 (by decide) (fun c25 => ?_) (fun c25 => ?_)
            · refine lv_aload_n X.1 X.2.1 dX7_search_72 rfl (lv_at hl 1 rfl) ?_
              refine lv_aload X.1 X.2.1 dX7_search_73 (lv_at hl 4 rfl) ?_
              refine lv_iload X.1 X.2.1 dX7_search_75 (lv_at hl 0 rfl) ?_
              refine lv_iload X.1 X.2.1 dX7_search_77 (lv_at hl 0 rfl) ?_
              refine lv_iconst (v := 1) X.1 X.2.1 dX7_search_79 (by decide +kernel) ?_
              refine ca_X3_unpacked X hK hG hC (fun _ h => h) hS hb f23 1 wl_5_41 hl.1 (rest := [.int f23, .ref q3, .ref a0]) rfl (Nat.le_of_ble_eq_true rfl) ⟨Nat.le_of_ble_eq_true rfl, Nat.le_of_ble_eq_true rfl⟩ ⟨Nat.le_of_ble_eq_true rfl, Nat.le_of_ble_eq_true rfl⟩ dX7_search_80 (fun f26 locs hf26 hS => ?_)
              refine ca_X7_step X hK hG hC hS hb a0 h0 q3 hq3 f23 f26 wl_5_46 hl.1 (rest := []) rfl (Nat.le_of_ble_eq_true rfl) ⟨Nat.le_of_ble_eq_true rfl, Nat.le_of_ble_eq_true rfl⟩ ⟨Nat.le_of_ble_eq_true rfl, Nat.le_of_ble_eq_true rfl⟩ dX7_search_83 (fun f27 H locs hf27 hG hS => ?_)
              refine lv_if_ne (tgt := 90) X.1 X.2.1 dX7_search_86 (by decide) (fun c28 => ?_) (fun c28 => ?_)
              · obtain ⟨y29, ey29⟩ : ∃ y : Int32, y = z7_5 + Int32.ofInt 1 := ⟨_, rfl⟩
                refine lv_iinc (v := y29) (lv' := [(5, .int y29), (6, .int f23), (0, .ref a0), (2, .int x2), (3, .int x3), (4, .ref q3)]) X.1 X.2.1 dX7_search_90 hl (k := 5) rfl ey29.symm (by decide) rfl (fun ls hl => ?_)
                refine lv_goto (tgt := 31) X.1 X.2.1 dX7_search_93 (by decide) ?_
                exact ih7 H _ _ y29 hG hS (lv_sub hl [2, 3, 4, 5, 0] rfl) (iv_of (iv_add (a' := 1) (b' := 16) ey29 (iv_lt (b' := 15) (iv_gt_of c10) hz7_5 hf9 (by decide +kernel)) (iv_c _ (a := 1) (b := 1) (by decide +kernel)) (by decide +kernel)) (a' := 0) (b' := 16) (by decide +kernel)) (iv_stepU ey29 (iv_lt (b' := 15) (iv_gt_of c10) hz7_5 hf9 (by decide +kernel)) (by decide +kernel) hN7)
              · exact sg_vret X hr hlk hb hK hC hG hS dX7_search_89
            · refine lv_aload_n X.1 X.2.1 dX7_search_63 rfl (lv_at hl 1 rfl) ?_
              refine lv_iload X.1 X.2.1 dX7_search_64 (lv_at hl 5 rfl) ?_
              refine lv_iload_n X.1 X.2.1 dX7_search_66 rfl (lv_at hl 2 rfl) ?_
              refine lv_iload_n X.1 X.2.1 dX7_search_67 rfl (lv_at hl 3 rfl) ?_
              refine ca_X7_fillLeaf_3 X hK hG hC hS hb a0 h0 z7_5 (iv_lt (b' := 15) (iv_gt_of c10) hz7_5 hf9 (by decide +kernel)) x2 h2 x3 wl_5_78 hl.1 (rest := []) rfl (Nat.le_of_ble_eq_true rfl) ⟨Nat.le_of_ble_eq_true rfl, Nat.le_of_ble_eq_true rfl⟩ ⟨Nat.le_of_ble_eq_true rfl, Nat.le_of_ble_eq_true rfl⟩ dX7_search_68 (fun H locs hG hS => ?_)
              exact sg_vret X hr hlk hb hK hC hG hS dX7_search_71
      exact B7_31 _ s.heap _ _ x1 hG hS (lv_sub hl [2, 4, 5, 1, 0] rfl) h1 (Nat.le_refl _)
    · exact sg_vret X hr hlk hb hK hC hG hS dX7_search_27
  · exact ((iv_no (iv_lt (b' := 2) (iv_gt_of c1) (iv_c 3 (a := 3) (b := 3) (by decide +kernel)) h2 (by decide +kernel)) (by decide +kernel))).elim

theorem ca_X7_search_3   (X : CallFix p m c cc nL s args sg_tbl own) (hK : va_K D vwCl tys s) (hG : sgG (KT P) D vwCl (fun q : Nat => base ≤ q) tys ad ks H) (hC : sgC base s) (hS : va_S (fun q : Nat => base ≤ q) s.heap H locs) (hb : base ≤ s.heap.size) (a0 : Nat) (h0 : isK ad ks 7 a0) (x1 : Int32) (h1 : iv 0 16 x1) (x2 : Int32) (h2 : iv 3 3 x2) (x3 : Int32) (hl : Cond.methodLink own index yX7_search ∈ sg_tbl) (hsize : ls.size = nL) (hst : st0 = [.int x1, .int x2, .int x3].reverse ++ .ref a0 :: rest) (hW : (rest.map fun v => v.category).sum ≤ 8) (hR : 7 ≤ R.frames ∧ 182 ≤ R.locals) (hf : cells ≤ R.cells ∧ slots ≤ R.slots) (hdg : decode cc pc = .ok (.invokevirtual index, 3)) (kk : ∀ (H1 : Heap) (locs1 : List Loc), sgG (KT P) D vwCl (fun q : Nat => base ≤ q) tys ad ks H1 → va_S (fun q : Nat => base ≤ q) s.heap H1 locs1 → W p l e R s m args below meth c H1 locs1 cells slots Q (F0 m (pc + 3) ls rest)) : W p l e R s m args below meth c H locs cells slots Q (F0 m pc ls st0) :=
  sg_callVv X hK hG hC hS hb (m_X7_search_3 l a0 h0 x1 h1 x2 h2 x3) h0 (k := 7) (ci := 7) rfl (C := RX7) (T := TX7) (N := 9) rfl wl_5_72 wl_1_9 wl_5_71 wl_0_31 (n := 3) (by decide +kernel) rfl rfl rfl hl hsize hst hW hR hf hdg kk

set_option maxHeartbeats 8000000 in
set_option maxRecDepth 100000 in
theorem m_X7_fillLeaf_2 (l : Launch) {D : va_G} {base : Nat} {tys : List (ClassId × FieldType)} {ad ks : List Nat} {P : sgPm} (a0 : Nat) (h0 : isK ad ks 7 a0) (x1 : Int32) (h1 : iv 0 15 x1) (x2 : Int32) (h2 : iv 2 2 x2) (x3 : Int32) : sgMv l (KT P) D vwCl base tys ad ks yX7_fillLeaf cX7_fillLeaf 6 none ({ frames := 7, cells := 0, slots := 0, locals := 182 }) [.ref a0, .int x1, .int x2, .int x3] := by
  refine sg_ofW (by decide +kernel) (Nat.le_of_ble_eq_true rfl) (fun p e s m below meth c X hr hlk hb hK hC hG ls hl => ?_)
  have hS : va_S (fun q : Nat => base ≤ q) s.heap s.heap [] := va_S.rf
  have hl : lv_has ls 6 [(0, .ref a0), (1, .int x1), (2, .int x2), (3, .int x3)] := hl
  refine lv_iload_n X.1 X.2.1 dX7_fillLeaf_0 rfl (lv_at hl 2 rfl) ?_
  refine lv_iconst (v := 3) X.1 X.2.1 dX7_fillLeaf_1 (by decide +kernel) ?_
  refine lv_icmp_lt (tgt := 6) X.1 X.2.1 dX7_fillLeaf_2 (by decide) (fun c1 => ?_) (fun c1 => ?_)
  · refine lv_aload_n X.1 X.2.1 dX7_fillLeaf_6 rfl (lv_at hl 0 rfl) ?_
    refine gf_X7_1 X hK hG h0 wl_2_85 dX7_fillLeaf_7 (fun q2 hq2 kq2 => ?_)
    refine lv_iload_n X.1 X.2.1 dX7_fillLeaf_10 rfl (lv_at hl 2 rfl) ?_
    refine lv_iconst (v := 1) X.1 X.2.1 dX7_fillLeaf_11 (by decide +kernel) ?_
    refine lv_iadd X.1 X.2.1 dX7_fillLeaf_12 ?_
    refine lv_topi (fun f3 ef3 => ?_)
    refine al_33 X hK hG hq2 (iv_vpin (iv_add (a' := 3) (b' := 3) ef3 h2 (iv_c 1 (a := 1) (b := 1) (by decide +kernel)) (by decide +kernel)) (by decide +kernel)) dX7_fillLeaf_13 (fun q4 hq4 => ?_)
    refine lv_astore (lv' := [(4, .ref q4), (0, .ref a0), (1, .int x1), (2, .int x2), (3, .int x3)]) X.1 X.2.1 dX7_fillLeaf_14 hl (by decide) rfl (fun ls hl => ?_)
    refine lv_iconst (v := 0) X.1 X.2.1 dX7_fillLeaf_16 (by decide +kernel) ?_
    refine lv_istore (lv' := [(5, .int 0), (4, .ref q4), (0, .ref a0), (1, .int x1), (2, .int x2), (3, .int x3)]) X.1 X.2.1 dX7_fillLeaf_17 hl (by decide) rfl (fun ls hl => ?_)
    have B5_19 : ∀ (N : Nat) (H : Heap) (locs : List Loc) (ls : Array Slot) (z5_5 : Int32), sgG (KT P) D vwCl (fun q : Nat => base ≤ q) tys ad ks H → va_S (fun q : Nat => base ≤ q) s.heap H locs → lv_has ls 6 [(0, .ref a0), (1, .int x1), (2, .int x2), (3, .int x3), (4, .ref q4), (5, .int z5_5)] → iv 0 30 z5_5 → (31 - z5_5.toInt).toNat ≤ N → W p l e (headSpec (Cond.code yX7_fillLeaf cX7_fillLeaf 6 none :: sg_tbl) ({ frames := 7, cells := 0, slots := 0, locals := 182 })).room s m #[.ref a0, .int x1, .int x2, .int x3] below meth c H locs 0 0 (MQ below (va_Qv (fun (_ : Unit) => True) (fun _ => sgB (KT P) D vwCl base tys ad ks) (fun q : Nat => base ≤ q)) #[.ref a0, .int x1, .int x2, .int x3] s 0 0 (fun q : Nat => base ≤ q)) (F0 m 19 ls []) := by
      intro N; induction N with
      | zero =>
        intro H locs ls z5_5 hG hS hl hz5_5 hN
        exact absurd hN (by have := iv_up hz5_5; omega)
      | succ N ih5 =>
        intro H locs ls z5_5 hG hS hl hz5_5 hN5
        refine lv_iload X.1 X.2.1 dX7_fillLeaf_19 (lv_at hl 5 rfl) ?_
        refine lv_aload_n X.1 X.2.1 dX7_fillLeaf_21 rfl (lv_at hl 0 rfl) ?_
        refine gf_X7_0 X hK hG h0 wl_2_84 dX7_fillLeaf_22 (fun q6 hq6 kq6 => ?_)
        refine gf_X8_0 X hK hG hq6 wl_2_36 dX7_fillLeaf_25 (fun q7 hq7 kq7 => ?_)
        refine gf_X4_5 X hK hG hq7 wl_1_217 dX7_fillLeaf_28 (fun f8 hf8 kf8 => ?_)
        refine lv_icmp_ge (tgt := 97) X.1 X.2.1 dX7_fillLeaf_31 (by decide) (fun c9 => ?_) (fun c9 => ?_)
        · exact sg_vret X hr hlk hb hK hC hG hS dX7_fillLeaf_97
        · refine lv_aload_n X.1 X.2.1 dX7_fillLeaf_34 rfl (lv_at hl 0 rfl) ?_
          refine lv_aload_n X.1 X.2.1 dX7_fillLeaf_35 rfl (lv_at hl 0 rfl) ?_
          refine gf_X7_1 X hK hG h0 wl_2_85 dX7_fillLeaf_36 (fun q10 hq10 kq10 => ?_)
          refine lv_iload_n X.1 X.2.1 dX7_fillLeaf_39 rfl (lv_at hl 2 rfl) ?_
          refine al_33 X hK hG hq10 (iv_vpin h2 (by decide +kernel)) dX7_fillLeaf_40 (fun q11 hq11 => ?_)
          refine lv_iconst (v := 0) X.1 X.2.1 dX7_fillLeaf_41 (by decide +kernel) ?_
          refine lv_iload X.1 X.2.1 dX7_fillLeaf_42 (lv_at hl 5 rfl) ?_
          refine lv_iconst (v := 0) X.1 X.2.1 dX7_fillLeaf_44 (by decide +kernel) ?_
          refine lv_iconst (v := 0) X.1 X.2.1 dX7_fillLeaf_45 (by decide +kernel) ?_
          refine ca_X7_allows X hK hG hC hS hb a0 h0 q11 hq11 0 z5_5 0 0 wl_5_50 hl.1 (rest := []) rfl (Nat.le_of_ble_eq_true rfl) ⟨Nat.le_of_ble_eq_true rfl, Nat.le_of_ble_eq_true rfl⟩ ⟨Nat.le_of_ble_eq_true rfl, Nat.le_of_ble_eq_true rfl⟩ dX7_fillLeaf_46 (fun f12 H locs hf12 hG hS => ?_)
          have B14_91 : ∀ (H : Heap) (locs : List Loc) (ls : Array Slot), sgG (KT P) D vwCl (fun q : Nat => base ≤ q) tys ad ks H → va_S (fun q : Nat => base ≤ q) s.heap H locs → lv_has ls 6 [(0, .ref a0), (1, .int x1), (2, .int x2), (3, .int x3), (4, .ref q4), (5, .int z5_5)] → W p l e (headSpec (Cond.code yX7_fillLeaf cX7_fillLeaf 6 none :: sg_tbl) ({ frames := 7, cells := 0, slots := 0, locals := 182 })).room s m #[.ref a0, .int x1, .int x2, .int x3] below meth c H locs 0 0 (MQ below (va_Qv (fun (_ : Unit) => True) (fun _ => sgB (KT P) D vwCl base tys ad ks) (fun q : Nat => base ≤ q)) #[.ref a0, .int x1, .int x2, .int x3] s 0 0 (fun q : Nat => base ≤ q)) (F0 m 91 ls []) := by
            intro H locs ls hG hS hl
            obtain ⟨y15, ey15⟩ : ∃ y : Int32, y = z5_5 + Int32.ofInt 1 := ⟨_, rfl⟩
            refine lv_iinc (v := y15) (lv' := [(5, .int y15), (0, .ref a0), (1, .int x1), (2, .int x2), (3, .int x3), (4, .ref q4)]) X.1 X.2.1 dX7_fillLeaf_91 hl (k := 5) rfl ey15.symm (by decide) rfl (fun ls hl => ?_)
            refine lv_goto (tgt := 19) X.1 X.2.1 dX7_fillLeaf_94 (by decide) ?_
            exact ih5 H _ _ y15 hG hS (lv_sub hl [1, 2, 3, 4, 5, 0] rfl) (iv_of (iv_add (a' := 1) (b' := 30) ey15 (iv_lt (b' := 29) (iv_gt_of c9) hz5_5 hf8 (by decide +kernel)) (iv_c _ (a := 1) (b := 1) (by decide +kernel)) (by decide +kernel)) (a' := 0) (b' := 30) (by decide +kernel)) (iv_stepU ey15 (iv_lt (b' := 29) (iv_gt_of c9) hz5_5 hf8 (by decide +kernel)) (by decide +kernel) hN5)
          refine lv_if_eq (tgt := 91) X.1 X.2.1 dX7_fillLeaf_49 (by decide) (fun c13 => ?_) (fun c13 => ?_)
          · exact B14_91 H _ _ hG hS (lv_sub hl [0, 1, 2, 3, 4, 5] rfl)
          · refine lv_aload X.1 X.2.1 dX7_fillLeaf_52 (lv_at hl 4 rfl) ?_
            refine lv_aload_n X.1 X.2.1 dX7_fillLeaf_54 rfl (lv_at hl 0 rfl) ?_
            refine gf_X7_1 X hK hG h0 wl_2_85 dX7_fillLeaf_55 (fun q16 hq16 kq16 => ?_)
            refine lv_iload_n X.1 X.2.1 dX7_fillLeaf_58 rfl (lv_at hl 2 rfl) ?_
            refine al_33 X hK hG hq16 (iv_vpin h2 (by decide +kernel)) dX7_fillLeaf_59 (fun q17 hq17 => ?_)
            refine ca_X9_takeFrom X hK hG hC hS hb q4 hq4 q17 hq17 wl_5_33 hl.1 (rest := []) rfl (Nat.le_of_ble_eq_true rfl) ⟨Nat.le_of_ble_eq_true rfl, Nat.le_of_ble_eq_true rfl⟩ ⟨Nat.le_of_ble_eq_true rfl, Nat.le_of_ble_eq_true rfl⟩ dX7_fillLeaf_60 (fun H locs hG hS => ?_)
            refine lv_aload_n X.1 X.2.1 dX7_fillLeaf_63 rfl (lv_at hl 0 rfl) ?_
            refine lv_aload X.1 X.2.1 dX7_fillLeaf_64 (lv_at hl 4 rfl) ?_
            refine lv_iconst (v := 0) X.1 X.2.1 dX7_fillLeaf_66 (by decide +kernel) ?_
            refine lv_iload X.1 X.2.1 dX7_fillLeaf_67 (lv_at hl 5 rfl) ?_
            refine lv_iconst (v := 0) X.1 X.2.1 dX7_fillLeaf_69 (by decide +kernel) ?_
            refine lv_iconst (v := 0) X.1 X.2.1 dX7_fillLeaf_70 (by decide +kernel) ?_
            refine ca_X7_apply X hK hG hC hS hb a0 h0 q4 hq4 0 z5_5 0 0 (fun _ => (iv_lt (b' := 29) (iv_gt_of c9) hz5_5 hf8 (by decide +kernel))) wl_5_51 hl.1 (rest := []) rfl (Nat.le_of_ble_eq_true rfl) ⟨Nat.le_of_ble_eq_true rfl, Nat.le_of_ble_eq_true rfl⟩ ⟨Nat.le_of_ble_eq_true rfl, Nat.le_of_ble_eq_true rfl⟩ dX7_fillLeaf_71 (fun H locs hG hS => ?_)
            refine lv_aload_n X.1 X.2.1 dX7_fillLeaf_74 rfl (lv_at hl 0 rfl) ?_
            refine lv_iload_n X.1 X.2.1 dX7_fillLeaf_75 rfl (lv_at hl 1 rfl) ?_
            refine lv_iconst (v := 1) X.1 X.2.1 dX7_fillLeaf_76 (by decide +kernel) ?_
            refine lv_iadd X.1 X.2.1 dX7_fillLeaf_77 ?_
            refine lv_topi (fun f20 ef20 => ?_)
            refine lv_iload_n X.1 X.2.1 dX7_fillLeaf_78 rfl (lv_at hl 2 rfl) ?_
            refine lv_iconst (v := 1) X.1 X.2.1 dX7_fillLeaf_79 (by decide +kernel) ?_
            refine lv_iadd X.1 X.2.1 dX7_fillLeaf_80 ?_
            refine lv_topi (fun f21 ef21 => ?_)
            refine lv_iload_n X.1 X.2.1 dX7_fillLeaf_81 rfl (lv_at hl 3 rfl) ?_
            refine lv_bipush (v := 30) X.1 X.2.1 dX7_fillLeaf_82 (by decide +kernel) ?_
            refine lv_imul X.1 X.2.1 dX7_fillLeaf_84 ?_
            refine lv_topi (fun f22 ef22 => ?_)
            refine lv_iload X.1 X.2.1 dX7_fillLeaf_85 (lv_at hl 5 rfl) ?_
            refine lv_iadd X.1 X.2.1 dX7_fillLeaf_87 ?_
            refine lv_topi (fun f23 ef23 => ?_)
            refine ca_X7_search_3 X hK hG hC hS hb a0 h0 f20 (iv_of (iv_add (a' := 1) (b' := 16) ef20 h1 (iv_c 1 (a := 1) (b := 1) (by decide +kernel)) (by decide +kernel)) (a' := 0) (b' := 16) (by decide +kernel)) f21 (iv_add (a' := 3) (b' := 3) ef21 h2 (iv_c 1 (a := 1) (b := 1) (by decide +kernel)) (by decide +kernel)) f23 wl_5_69 hl.1 (rest := []) rfl (Nat.le_of_ble_eq_true rfl) ⟨Nat.le_of_ble_eq_true rfl, Nat.le_of_ble_eq_true rfl⟩ ⟨Nat.le_of_ble_eq_true rfl, Nat.le_of_ble_eq_true rfl⟩ dX7_fillLeaf_88 (fun H locs hG hS => ?_)
            exact B14_91 H _ _ hG hS (lv_sub hl [0, 1, 2, 3, 4, 5] rfl)
    exact B5_19 _ s.heap _ _ 0 hG hS (lv_sub hl [2, 3, 4, 5, 1, 0] rfl) (iv_of (iv_c 0 (a := 0) (b := 0) (by decide +kernel)) (a' := 0) (b' := 30) (by decide +kernel)) (Nat.le_refl _)
  · exact ((iv_no (iv_le (b' := 2) (iv_ge_of c1) (iv_c 3 (a := 3) (b := 3) (by decide +kernel)) h2 (by decide +kernel)) (by decide +kernel))).elim

theorem ca_X7_fillLeaf_2   (X : CallFix p m c cc nL s args sg_tbl own) (hK : va_K D vwCl tys s) (hG : sgG (KT P) D vwCl (fun q : Nat => base ≤ q) tys ad ks H) (hC : sgC base s) (hS : va_S (fun q : Nat => base ≤ q) s.heap H locs) (hb : base ≤ s.heap.size) (a0 : Nat) (h0 : isK ad ks 7 a0) (x1 : Int32) (h1 : iv 0 15 x1) (x2 : Int32) (h2 : iv 2 2 x2) (x3 : Int32) (hl : Cond.methodLink own index yX7_fillLeaf ∈ sg_tbl) (hsize : ls.size = nL) (hst : st0 = [.int x1, .int x2, .int x3].reverse ++ .ref a0 :: rest) (hW : (rest.map fun v => v.category).sum ≤ 8) (hR : 8 ≤ R.frames ∧ 207 ≤ R.locals) (hf : cells ≤ R.cells ∧ slots ≤ R.slots) (hdg : decode cc pc = .ok (.invokevirtual index, 3)) (kk : ∀ (H1 : Heap) (locs1 : List Loc), sgG (KT P) D vwCl (fun q : Nat => base ≤ q) tys ad ks H1 → va_S (fun q : Nat => base ≤ q) s.heap H1 locs1 → W p l e R s m args below meth c H1 locs1 cells slots Q (F0 m (pc + 3) ls rest)) : W p l e R s m args below meth c H locs cells slots Q (F0 m pc ls st0) :=
  sg_callVv X hK hG hC hS hb (m_X7_fillLeaf_2 l a0 h0 x1 h1 x2 h2 x3) h0 (k := 7) (ci := 7) rfl (C := RX7) (T := TX7) (N := 9) rfl wl_5_81 wl_1_9 wl_5_80 wl_0_33 (n := 3) (by decide +kernel) rfl rfl rfl hl hsize hst hW hR hf hdg kk

set_option maxHeartbeats 8000000 in
set_option maxRecDepth 100000 in
theorem m_X7_search_2 (l : Launch) {D : va_G} {base : Nat} {tys : List (ClassId × FieldType)} {ad ks : List Nat} {P : sgPm} (a0 : Nat) (h0 : isK ad ks 7 a0) (x1 : Int32) (h1 : iv 0 16 x1) (x2 : Int32) (h2 : iv 2 2 x2) (x3 : Int32) : sgMv l (KT P) D vwCl base tys ad ks yX7_search cX7_search 7 none ({ frames := 8, cells := 0, slots := 0, locals := 207 }) [.ref a0, .int x1, .int x2, .int x3] := by
  refine sg_ofW (by decide +kernel) (Nat.le_of_ble_eq_true rfl) (fun p e s m below meth c X hr hlk hb hK hC hG ls hl => ?_)
  have hS : va_S (fun q : Nat => base ≤ q) s.heap s.heap [] := va_S.rf
  have hl : lv_has ls 7 [(0, .ref a0), (1, .int x1), (2, .int x2), (3, .int x3)] := hl
  refine lv_iload_n X.1 X.2.1 dX7_search_0 rfl (lv_at hl 2 rfl) ?_
  refine lv_iconst (v := 3) X.1 X.2.1 dX7_search_1 (by decide +kernel) ?_
  refine lv_icmp_le (tgt := 6) X.1 X.2.1 dX7_search_2 (by decide) (fun c1 => ?_) (fun c1 => ?_)
  · refine lv_aload_n X.1 X.2.1 dX7_search_6 rfl (lv_at hl 0 rfl) ?_
    refine gf_X7_1 X hK hG h0 wl_2_85 dX7_search_7 (fun q2 hq2 kq2 => ?_)
    refine lv_iload_n X.1 X.2.1 dX7_search_10 rfl (lv_at hl 2 rfl) ?_
    refine al_33 X hK hG hq2 (iv_vpin h2 (by decide +kernel)) dX7_search_11 (fun q3 hq3 => ?_)
    refine lv_astore (lv' := [(4, .ref q3), (0, .ref a0), (1, .int x1), (2, .int x2), (3, .int x3)]) X.1 X.2.1 dX7_search_12 hl (by decide) rfl (fun ls hl => ?_)
    refine lv_aload_n X.1 X.2.1 dX7_search_14 rfl (lv_at hl 1 rfl) ?_
    refine lv_aload X.1 X.2.1 dX7_search_15 (lv_at hl 0 rfl) ?_
    refine gf_X9_0 X hK hG hq3 wl_1_117 dX7_search_17 (fun f4 hf4 kf4 => ?_)
    refine lv_iload_n X.1 X.2.1 dX7_search_20 rfl (lv_at hl 2 rfl) ?_
    refine ca_X7_isHopeless X hK hG hC (fun _ h => h) hS hb a0 h0 f4 x1 h1 wl_5_73 hl.1 (rest := []) rfl (Nat.le_of_ble_eq_true rfl) ⟨Nat.le_of_ble_eq_true rfl, Nat.le_of_ble_eq_true rfl⟩ ⟨Nat.le_of_ble_eq_true rfl, Nat.le_of_ble_eq_true rfl⟩ dX7_search_21 (fun f5 locs hf5 hS => ?_)
    refine lv_if_eq (tgt := 28) X.1 X.2.1 dX7_search_24 (by decide) (fun c6 => ?_) (fun c6 => ?_)
    · refine lv_iload_n X.1 X.2.1 dX7_search_28 rfl (lv_at hl 2 rfl) ?_
      refine lv_istore (lv' := [(5, .int x1), (4, .ref q3), (0, .ref a0), (1, .int x1), (2, .int x2), (3, .int x3)]) X.1 X.2.1 dX7_search_29 hl (by decide) rfl (fun ls hl => ?_)
      have B7_31 : ∀ (N : Nat) (H : Heap) (locs : List Loc) (ls : Array Slot) (z7_5 : Int32), sgG (KT P) D vwCl (fun q : Nat => base ≤ q) tys ad ks H → va_S (fun q : Nat => base ≤ q) s.heap H locs → lv_has ls 7 [(0, .ref a0), (2, .int x2), (3, .int x3), (4, .ref q3), (5, .int z7_5)] → iv 0 16 z7_5 → (17 - z7_5.toInt).toNat ≤ N → W p l e (headSpec (Cond.code yX7_search cX7_search 7 none :: sg_tbl) ({ frames := 8, cells := 0, slots := 0, locals := 207 })).room s m #[.ref a0, .int x1, .int x2, .int x3] below meth c H locs 0 0 (MQ below (va_Qv (fun (_ : Unit) => True) (fun _ => sgB (KT P) D vwCl base tys ad ks) (fun q : Nat => base ≤ q)) #[.ref a0, .int x1, .int x2, .int x3] s 0 0 (fun q : Nat => base ≤ q)) (F0 m 31 ls []) := by
        intro N; induction N with
        | zero =>
          intro H locs ls z7_5 hG hS hl hz7_5 hN
          exact absurd hN (by have := iv_up hz7_5; omega)
        | succ N ih7 =>
          intro H locs ls z7_5 hG hS hl hz7_5 hN7
          refine lv_iload X.1 X.2.1 dX7_search_31 (lv_at hl 4 rfl) ?_
          refine lv_aload_n X.1 X.2.1 dX7_search_33 rfl (lv_at hl 0 rfl) ?_
          refine gf_X7_4 X hK hG h0 wl_2_88 dX7_search_34 (fun q8 hq8 kq8 => ?_)
          refine gf_X3_1 X hK hG hq8 wl_1_98 dX7_search_37 (fun f9 hf9 kf9 => ?_)
          refine lv_icmp_ge (tgt := 96) X.1 X.2.1 dX7_search_40 (by decide) (fun c10 => ?_) (fun c10 => ?_)
          · refine lv_aload X.1 X.2.1 dX7_search_96 (lv_at hl 3 rfl) ?_
            refine gf_X9_0 X hK hG hq3 wl_1_117 dX7_search_98 (fun f11 hf11 kf11 => ?_)
            refine lv_aload_n X.1 X.2.1 dX7_search_101 rfl (lv_at hl 0 rfl) ?_
            refine gf_X7_5 X hK hG h0 wl_2_89 dX7_search_102 (fun f12 hf12 kf12 => ?_)
            refine lv_icmp_ne (tgt := 134) X.1 X.2.1 dX7_search_105 (by decide) (fun c13 => ?_) (fun c13 => ?_)
            · exact sg_vret X hr hlk hb hK hC hG hS dX7_search_134
            · refine lv_aload_n X.1 X.2.1 dX7_search_108 rfl (lv_at hl 0 rfl) ?_
              refine gf_X7_7 X hK hG h0 wl_2_91 dX7_search_109 (fun f14 hf14 kf14 => ?_)
              refine lv_aload_n X.1 X.2.1 dX7_search_112 rfl (lv_at hl 0 rfl) ?_
              refine gf_X7_6 X hK hG h0 wl_2_90 dX7_search_113 (fun f15 hf15 kf15 => ?_)
              have B17_124 : ∀ (H : Heap) (locs : List Loc) (ls : Array Slot), sgG (KT P) D vwCl (fun q : Nat => base ≤ q) tys ad ks H → va_S (fun q : Nat => base ≤ q) s.heap H locs → lv_has ls 7 [(0, .ref a0)] → W p l e (headSpec (Cond.code yX7_search cX7_search 7 none :: sg_tbl) ({ frames := 8, cells := 0, slots := 0, locals := 207 })).room s m #[.ref a0, .int x1, .int x2, .int x3] below meth c H locs 0 0 (MQ below (va_Qv (fun (_ : Unit) => True) (fun _ => sgB (KT P) D vwCl base tys ad ks) (fun q : Nat => base ≤ q)) #[.ref a0, .int x1, .int x2, .int x3] s 0 0 (fun q : Nat => base ≤ q)) (F0 m 124 ls []) := by
                intro H locs ls hG hS hl
                refine lv_aload_n X.1 X.2.1 dX7_search_124 rfl (lv_at hl 0 rfl) ?_
                refine lv_dup X.1 X.2.1 dX7_search_125 rfl ?_
                refine gf_X7_7 X hK hG h0 wl_2_91 dX7_search_126 (fun f18 hf18 kf18 => ?_)
                refine lv_iconst (v := 1) X.1 X.2.1 dX7_search_129 (by decide +kernel) ?_
                refine lv_iadd X.1 X.2.1 dX7_search_130 ?_
                refine lv_topi (fun f19 ef19 => ?_)
                refine pf_X7_7 X hK hG hS h0 wl_2_91 ⟨_, rfl, (iv_top _)⟩ dX7_search_131 (fun H locs hG hS ku20 ru20 => ?_)
                exact sg_vret X hr hlk hb hK hC hG hS dX7_search_134
              refine lv_icmp_ne (tgt := 124) X.1 X.2.1 dX7_search_116 (by decide) (fun c16 => ?_) (fun c16 => ?_)
              · exact B17_124 H _ _ hG hS (lv_sub hl [0] rfl)
              · refine lv_aload_n X.1 X.2.1 dX7_search_119 rfl (lv_at hl 0 rfl) ?_
                refine lv_iload_n X.1 X.2.1 dX7_search_120 rfl (lv_at hl 2 rfl) ?_
                refine pf_X7_8 X hK hG hS h0 wl_2_93 ⟨_, rfl, (iv_top _)⟩ dX7_search_121 (fun H locs hG hS ku21 ru21 => ?_)
                exact B17_124 H _ _ hG hS (lv_sub hl [0] rfl)
          · refine lv_aload_n X.1 X.2.1 dX7_search_43 rfl (lv_at hl 0 rfl) ?_
            refine gg_X7_4 X hK hG h0 wl_2_88 kq8 dX7_search_44 ?_
            refine gf_X3_0 X hK hG hq8 wl_1_95 dX7_search_47 (fun q22 hq22 kq22 => ?_)
            refine lv_iload X.1 X.2.1 dX7_search_50 (lv_at hl 4 rfl) ?_
            refine al_20 X hK hG hq22 (iv_vpin (iv_lt (b' := 15) (iv_gt_of c10) hz7_5 hf9 (by decide +kernel)) (by decide +kernel)) dX7_search_52 (fun f23 hf23 => ?_)
            refine lv_istore (lv' := [(6, .int f23), (0, .ref a0), (2, .int x2), (3, .int x3), (4, .ref q3), (5, .int z7_5)]) X.1 X.2.1 dX7_search_53 hl (by decide) rfl (fun ls hl => ?_)
            refine lv_iload X.1 X.2.1 dX7_search_55 (lv_at hl 0 rfl) ?_
            refine ca_X7_isLeaf X hK hG hC (fun _ h => h) hS hb f23 wl_5_38 hl.1 (rest := []) rfl (Nat.le_of_ble_eq_true rfl) ⟨Nat.le_of_ble_eq_true rfl, Nat.le_of_ble_eq_true rfl⟩ ⟨Nat.le_of_ble_eq_true rfl, Nat.le_of_ble_eq_true rfl⟩ dX7_search_57 (fun f24 locs hf24 hS => ?_)
            refine lv_if_eq (tgt := 72) X.1 X.2.1 dX7_search_60 (by decide) (fun c25 => ?_) (fun c25 => ?_)
            · refine lv_aload_n X.1 X.2.1 dX7_search_72 rfl (lv_at hl 1 rfl) ?_
              refine lv_aload X.1 X.2.1 dX7_search_73 (lv_at hl 4 rfl) ?_
              refine lv_iload X.1 X.2.1 dX7_search_75 (lv_at hl 0 rfl) ?_
              refine lv_iload X.1 X.2.1 dX7_search_77 (lv_at hl 0 rfl) ?_
              refine lv_iconst (v := 1) X.1 X.2.1 dX7_search_79 (by decide +kernel) ?_
              refine ca_X3_unpacked X hK hG hC (fun _ h => h) hS hb f23 1 wl_5_41 hl.1 (rest := [.int f23, .ref q3, .ref a0]) rfl (Nat.le_of_ble_eq_true rfl) ⟨Nat.le_of_ble_eq_true rfl, Nat.le_of_ble_eq_true rfl⟩ ⟨Nat.le_of_ble_eq_true rfl, Nat.le_of_ble_eq_true rfl⟩ dX7_search_80 (fun f26 locs hf26 hS => ?_)
              refine ca_X7_step X hK hG hC hS hb a0 h0 q3 hq3 f23 f26 wl_5_46 hl.1 (rest := []) rfl (Nat.le_of_ble_eq_true rfl) ⟨Nat.le_of_ble_eq_true rfl, Nat.le_of_ble_eq_true rfl⟩ ⟨Nat.le_of_ble_eq_true rfl, Nat.le_of_ble_eq_true rfl⟩ dX7_search_83 (fun f27 H locs hf27 hG hS => ?_)
              refine lv_if_ne (tgt := 90) X.1 X.2.1 dX7_search_86 (by decide) (fun c28 => ?_) (fun c28 => ?_)
              · obtain ⟨y29, ey29⟩ : ∃ y : Int32, y = z7_5 + Int32.ofInt 1 := ⟨_, rfl⟩
                refine lv_iinc (v := y29) (lv' := [(5, .int y29), (6, .int f23), (0, .ref a0), (2, .int x2), (3, .int x3), (4, .ref q3)]) X.1 X.2.1 dX7_search_90 hl (k := 5) rfl ey29.symm (by decide) rfl (fun ls hl => ?_)
                refine lv_goto (tgt := 31) X.1 X.2.1 dX7_search_93 (by decide) ?_
                exact ih7 H _ _ y29 hG hS (lv_sub hl [2, 3, 4, 5, 0] rfl) (iv_of (iv_add (a' := 1) (b' := 16) ey29 (iv_lt (b' := 15) (iv_gt_of c10) hz7_5 hf9 (by decide +kernel)) (iv_c _ (a := 1) (b := 1) (by decide +kernel)) (by decide +kernel)) (a' := 0) (b' := 16) (by decide +kernel)) (iv_stepU ey29 (iv_lt (b' := 15) (iv_gt_of c10) hz7_5 hf9 (by decide +kernel)) (by decide +kernel) hN7)
              · exact sg_vret X hr hlk hb hK hC hG hS dX7_search_89
            · refine lv_aload_n X.1 X.2.1 dX7_search_63 rfl (lv_at hl 1 rfl) ?_
              refine lv_iload X.1 X.2.1 dX7_search_64 (lv_at hl 5 rfl) ?_
              refine lv_iload_n X.1 X.2.1 dX7_search_66 rfl (lv_at hl 2 rfl) ?_
              refine lv_iload_n X.1 X.2.1 dX7_search_67 rfl (lv_at hl 3 rfl) ?_
              refine ca_X7_fillLeaf_2 X hK hG hC hS hb a0 h0 z7_5 (iv_lt (b' := 15) (iv_gt_of c10) hz7_5 hf9 (by decide +kernel)) x2 h2 x3 wl_5_78 hl.1 (rest := []) rfl (Nat.le_of_ble_eq_true rfl) ⟨Nat.le_of_ble_eq_true rfl, Nat.le_of_ble_eq_true rfl⟩ ⟨Nat.le_of_ble_eq_true rfl, Nat.le_of_ble_eq_true rfl⟩ dX7_search_68 (fun H locs hG hS => ?_)
              exact sg_vret X hr hlk hb hK hC hG hS dX7_search_71
      exact B7_31 _ s.heap _ _ x1 hG hS (lv_sub hl [2, 4, 5, 1, 0] rfl) h1 (Nat.le_refl _)
    · exact sg_vret X hr hlk hb hK hC hG hS dX7_search_27
  · exact ((iv_no (iv_lt (b' := 1) (iv_gt_of c1) (iv_c 3 (a := 3) (b := 3) (by decide +kernel)) h2 (by decide +kernel)) (by decide +kernel))).elim

theorem ca_X7_search_2   (X : CallFix p m c cc nL s args sg_tbl own) (hK : va_K D vwCl tys s) (hG : sgG (KT P) D vwCl (fun q : Nat => base ≤ q) tys ad ks H) (hC : sgC base s) (hS : va_S (fun q : Nat => base ≤ q) s.heap H locs) (hb : base ≤ s.heap.size) (a0 : Nat) (h0 : isK ad ks 7 a0) (x1 : Int32) (h1 : iv 0 16 x1) (x2 : Int32) (h2 : iv 2 2 x2) (x3 : Int32) (hl : Cond.methodLink own index yX7_search ∈ sg_tbl) (hsize : ls.size = nL) (hst : st0 = [.int x1, .int x2, .int x3].reverse ++ .ref a0 :: rest) (hW : (rest.map fun v => v.category).sum ≤ 8) (hR : 9 ≤ R.frames ∧ 233 ≤ R.locals) (hf : cells ≤ R.cells ∧ slots ≤ R.slots) (hdg : decode cc pc = .ok (.invokevirtual index, 3)) (kk : ∀ (H1 : Heap) (locs1 : List Loc), sgG (KT P) D vwCl (fun q : Nat => base ≤ q) tys ad ks H1 → va_S (fun q : Nat => base ≤ q) s.heap H1 locs1 → W p l e R s m args below meth c H1 locs1 cells slots Q (F0 m (pc + 3) ls rest)) : W p l e R s m args below meth c H locs cells slots Q (F0 m pc ls st0) :=
  sg_callVv X hK hG hC hS hb (m_X7_search_2 l a0 h0 x1 h1 x2 h2 x3) h0 (k := 7) (ci := 7) rfl (C := RX7) (T := TX7) (N := 9) rfl wl_5_72 wl_1_9 wl_5_71 wl_0_31 (n := 3) (by decide +kernel) rfl rfl rfl hl hsize hst hW hR hf hdg kk

set_option maxHeartbeats 8000000 in
set_option maxRecDepth 100000 in
theorem m_X7_fillLeaf_1 (l : Launch) {D : va_G} {base : Nat} {tys : List (ClassId × FieldType)} {ad ks : List Nat} {P : sgPm} (a0 : Nat) (h0 : isK ad ks 7 a0) (x1 : Int32) (h1 : iv 0 15 x1) (x2 : Int32) (h2 : iv 1 1 x2) (x3 : Int32) : sgMv l (KT P) D vwCl base tys ad ks yX7_fillLeaf cX7_fillLeaf 6 none ({ frames := 9, cells := 0, slots := 0, locals := 233 }) [.ref a0, .int x1, .int x2, .int x3] := by
  refine sg_ofW (by decide +kernel) (Nat.le_of_ble_eq_true rfl) (fun p e s m below meth c X hr hlk hb hK hC hG ls hl => ?_)
  have hS : va_S (fun q : Nat => base ≤ q) s.heap s.heap [] := va_S.rf
  have hl : lv_has ls 6 [(0, .ref a0), (1, .int x1), (2, .int x2), (3, .int x3)] := hl
  refine lv_iload_n X.1 X.2.1 dX7_fillLeaf_0 rfl (lv_at hl 2 rfl) ?_
  refine lv_iconst (v := 3) X.1 X.2.1 dX7_fillLeaf_1 (by decide +kernel) ?_
  refine lv_icmp_lt (tgt := 6) X.1 X.2.1 dX7_fillLeaf_2 (by decide) (fun c1 => ?_) (fun c1 => ?_)
  · refine lv_aload_n X.1 X.2.1 dX7_fillLeaf_6 rfl (lv_at hl 0 rfl) ?_
    refine gf_X7_1 X hK hG h0 wl_2_85 dX7_fillLeaf_7 (fun q2 hq2 kq2 => ?_)
    refine lv_iload_n X.1 X.2.1 dX7_fillLeaf_10 rfl (lv_at hl 2 rfl) ?_
    refine lv_iconst (v := 1) X.1 X.2.1 dX7_fillLeaf_11 (by decide +kernel) ?_
    refine lv_iadd X.1 X.2.1 dX7_fillLeaf_12 ?_
    refine lv_topi (fun f3 ef3 => ?_)
    refine al_33 X hK hG hq2 (iv_vpin (iv_add (a' := 2) (b' := 2) ef3 h2 (iv_c 1 (a := 1) (b := 1) (by decide +kernel)) (by decide +kernel)) (by decide +kernel)) dX7_fillLeaf_13 (fun q4 hq4 => ?_)
    refine lv_astore (lv' := [(4, .ref q4), (0, .ref a0), (1, .int x1), (2, .int x2), (3, .int x3)]) X.1 X.2.1 dX7_fillLeaf_14 hl (by decide) rfl (fun ls hl => ?_)
    refine lv_iconst (v := 0) X.1 X.2.1 dX7_fillLeaf_16 (by decide +kernel) ?_
    refine lv_istore (lv' := [(5, .int 0), (4, .ref q4), (0, .ref a0), (1, .int x1), (2, .int x2), (3, .int x3)]) X.1 X.2.1 dX7_fillLeaf_17 hl (by decide) rfl (fun ls hl => ?_)
    have B5_19 : ∀ (N : Nat) (H : Heap) (locs : List Loc) (ls : Array Slot) (z5_5 : Int32), sgG (KT P) D vwCl (fun q : Nat => base ≤ q) tys ad ks H → va_S (fun q : Nat => base ≤ q) s.heap H locs → lv_has ls 6 [(0, .ref a0), (1, .int x1), (2, .int x2), (3, .int x3), (4, .ref q4), (5, .int z5_5)] → iv 0 30 z5_5 → (31 - z5_5.toInt).toNat ≤ N → W p l e (headSpec (Cond.code yX7_fillLeaf cX7_fillLeaf 6 none :: sg_tbl) ({ frames := 9, cells := 0, slots := 0, locals := 233 })).room s m #[.ref a0, .int x1, .int x2, .int x3] below meth c H locs 0 0 (MQ below (va_Qv (fun (_ : Unit) => True) (fun _ => sgB (KT P) D vwCl base tys ad ks) (fun q : Nat => base ≤ q)) #[.ref a0, .int x1, .int x2, .int x3] s 0 0 (fun q : Nat => base ≤ q)) (F0 m 19 ls []) := by
      intro N; induction N with
      | zero =>
        intro H locs ls z5_5 hG hS hl hz5_5 hN
        exact absurd hN (by have := iv_up hz5_5; omega)
      | succ N ih5 =>
        intro H locs ls z5_5 hG hS hl hz5_5 hN5
        refine lv_iload X.1 X.2.1 dX7_fillLeaf_19 (lv_at hl 5 rfl) ?_
        refine lv_aload_n X.1 X.2.1 dX7_fillLeaf_21 rfl (lv_at hl 0 rfl) ?_
        refine gf_X7_0 X hK hG h0 wl_2_84 dX7_fillLeaf_22 (fun q6 hq6 kq6 => ?_)
        refine gf_X8_0 X hK hG hq6 wl_2_36 dX7_fillLeaf_25 (fun q7 hq7 kq7 => ?_)
        refine gf_X4_5 X hK hG hq7 wl_1_217 dX7_fillLeaf_28 (fun f8 hf8 kf8 => ?_)
        refine lv_icmp_ge (tgt := 97) X.1 X.2.1 dX7_fillLeaf_31 (by decide) (fun c9 => ?_) (fun c9 => ?_)
        · exact sg_vret X hr hlk hb hK hC hG hS dX7_fillLeaf_97
        · refine lv_aload_n X.1 X.2.1 dX7_fillLeaf_34 rfl (lv_at hl 0 rfl) ?_
          refine lv_aload_n X.1 X.2.1 dX7_fillLeaf_35 rfl (lv_at hl 0 rfl) ?_
          refine gf_X7_1 X hK hG h0 wl_2_85 dX7_fillLeaf_36 (fun q10 hq10 kq10 => ?_)
          refine lv_iload_n X.1 X.2.1 dX7_fillLeaf_39 rfl (lv_at hl 2 rfl) ?_
          refine al_33 X hK hG hq10 (iv_vpin h2 (by decide +kernel)) dX7_fillLeaf_40 (fun q11 hq11 => ?_)
          refine lv_iconst (v := 0) X.1 X.2.1 dX7_fillLeaf_41 (by decide +kernel) ?_
          refine lv_iload X.1 X.2.1 dX7_fillLeaf_42 (lv_at hl 5 rfl) ?_
          refine lv_iconst (v := 0) X.1 X.2.1 dX7_fillLeaf_44 (by decide +kernel) ?_
          refine lv_iconst (v := 0) X.1 X.2.1 dX7_fillLeaf_45 (by decide +kernel) ?_
          refine ca_X7_allows X hK hG hC hS hb a0 h0 q11 hq11 0 z5_5 0 0 wl_5_50 hl.1 (rest := []) rfl (Nat.le_of_ble_eq_true rfl) ⟨Nat.le_of_ble_eq_true rfl, Nat.le_of_ble_eq_true rfl⟩ ⟨Nat.le_of_ble_eq_true rfl, Nat.le_of_ble_eq_true rfl⟩ dX7_fillLeaf_46 (fun f12 H locs hf12 hG hS => ?_)
          have B14_91 : ∀ (H : Heap) (locs : List Loc) (ls : Array Slot), sgG (KT P) D vwCl (fun q : Nat => base ≤ q) tys ad ks H → va_S (fun q : Nat => base ≤ q) s.heap H locs → lv_has ls 6 [(0, .ref a0), (1, .int x1), (2, .int x2), (3, .int x3), (4, .ref q4), (5, .int z5_5)] → W p l e (headSpec (Cond.code yX7_fillLeaf cX7_fillLeaf 6 none :: sg_tbl) ({ frames := 9, cells := 0, slots := 0, locals := 233 })).room s m #[.ref a0, .int x1, .int x2, .int x3] below meth c H locs 0 0 (MQ below (va_Qv (fun (_ : Unit) => True) (fun _ => sgB (KT P) D vwCl base tys ad ks) (fun q : Nat => base ≤ q)) #[.ref a0, .int x1, .int x2, .int x3] s 0 0 (fun q : Nat => base ≤ q)) (F0 m 91 ls []) := by
            intro H locs ls hG hS hl
            obtain ⟨y15, ey15⟩ : ∃ y : Int32, y = z5_5 + Int32.ofInt 1 := ⟨_, rfl⟩
            refine lv_iinc (v := y15) (lv' := [(5, .int y15), (0, .ref a0), (1, .int x1), (2, .int x2), (3, .int x3), (4, .ref q4)]) X.1 X.2.1 dX7_fillLeaf_91 hl (k := 5) rfl ey15.symm (by decide) rfl (fun ls hl => ?_)
            refine lv_goto (tgt := 19) X.1 X.2.1 dX7_fillLeaf_94 (by decide) ?_
            exact ih5 H _ _ y15 hG hS (lv_sub hl [1, 2, 3, 4, 5, 0] rfl) (iv_of (iv_add (a' := 1) (b' := 30) ey15 (iv_lt (b' := 29) (iv_gt_of c9) hz5_5 hf8 (by decide +kernel)) (iv_c _ (a := 1) (b := 1) (by decide +kernel)) (by decide +kernel)) (a' := 0) (b' := 30) (by decide +kernel)) (iv_stepU ey15 (iv_lt (b' := 29) (iv_gt_of c9) hz5_5 hf8 (by decide +kernel)) (by decide +kernel) hN5)
          refine lv_if_eq (tgt := 91) X.1 X.2.1 dX7_fillLeaf_49 (by decide) (fun c13 => ?_) (fun c13 => ?_)
          · exact B14_91 H _ _ hG hS (lv_sub hl [0, 1, 2, 3, 4, 5] rfl)
          · refine lv_aload X.1 X.2.1 dX7_fillLeaf_52 (lv_at hl 4 rfl) ?_
            refine lv_aload_n X.1 X.2.1 dX7_fillLeaf_54 rfl (lv_at hl 0 rfl) ?_
            refine gf_X7_1 X hK hG h0 wl_2_85 dX7_fillLeaf_55 (fun q16 hq16 kq16 => ?_)
            refine lv_iload_n X.1 X.2.1 dX7_fillLeaf_58 rfl (lv_at hl 2 rfl) ?_
            refine al_33 X hK hG hq16 (iv_vpin h2 (by decide +kernel)) dX7_fillLeaf_59 (fun q17 hq17 => ?_)
            refine ca_X9_takeFrom X hK hG hC hS hb q4 hq4 q17 hq17 wl_5_33 hl.1 (rest := []) rfl (Nat.le_of_ble_eq_true rfl) ⟨Nat.le_of_ble_eq_true rfl, Nat.le_of_ble_eq_true rfl⟩ ⟨Nat.le_of_ble_eq_true rfl, Nat.le_of_ble_eq_true rfl⟩ dX7_fillLeaf_60 (fun H locs hG hS => ?_)
            refine lv_aload_n X.1 X.2.1 dX7_fillLeaf_63 rfl (lv_at hl 0 rfl) ?_
            refine lv_aload X.1 X.2.1 dX7_fillLeaf_64 (lv_at hl 4 rfl) ?_
            refine lv_iconst (v := 0) X.1 X.2.1 dX7_fillLeaf_66 (by decide +kernel) ?_
            refine lv_iload X.1 X.2.1 dX7_fillLeaf_67 (lv_at hl 5 rfl) ?_
            refine lv_iconst (v := 0) X.1 X.2.1 dX7_fillLeaf_69 (by decide +kernel) ?_
            refine lv_iconst (v := 0) X.1 X.2.1 dX7_fillLeaf_70 (by decide +kernel) ?_
            refine ca_X7_apply X hK hG hC hS hb a0 h0 q4 hq4 0 z5_5 0 0 (fun _ => (iv_lt (b' := 29) (iv_gt_of c9) hz5_5 hf8 (by decide +kernel))) wl_5_51 hl.1 (rest := []) rfl (Nat.le_of_ble_eq_true rfl) ⟨Nat.le_of_ble_eq_true rfl, Nat.le_of_ble_eq_true rfl⟩ ⟨Nat.le_of_ble_eq_true rfl, Nat.le_of_ble_eq_true rfl⟩ dX7_fillLeaf_71 (fun H locs hG hS => ?_)
            refine lv_aload_n X.1 X.2.1 dX7_fillLeaf_74 rfl (lv_at hl 0 rfl) ?_
            refine lv_iload_n X.1 X.2.1 dX7_fillLeaf_75 rfl (lv_at hl 1 rfl) ?_
            refine lv_iconst (v := 1) X.1 X.2.1 dX7_fillLeaf_76 (by decide +kernel) ?_
            refine lv_iadd X.1 X.2.1 dX7_fillLeaf_77 ?_
            refine lv_topi (fun f20 ef20 => ?_)
            refine lv_iload_n X.1 X.2.1 dX7_fillLeaf_78 rfl (lv_at hl 2 rfl) ?_
            refine lv_iconst (v := 1) X.1 X.2.1 dX7_fillLeaf_79 (by decide +kernel) ?_
            refine lv_iadd X.1 X.2.1 dX7_fillLeaf_80 ?_
            refine lv_topi (fun f21 ef21 => ?_)
            refine lv_iload_n X.1 X.2.1 dX7_fillLeaf_81 rfl (lv_at hl 3 rfl) ?_
            refine lv_bipush (v := 30) X.1 X.2.1 dX7_fillLeaf_82 (by decide +kernel) ?_
            refine lv_imul X.1 X.2.1 dX7_fillLeaf_84 ?_
            refine lv_topi (fun f22 ef22 => ?_)
            refine lv_iload X.1 X.2.1 dX7_fillLeaf_85 (lv_at hl 5 rfl) ?_
            refine lv_iadd X.1 X.2.1 dX7_fillLeaf_87 ?_
            refine lv_topi (fun f23 ef23 => ?_)
            refine ca_X7_search_2 X hK hG hC hS hb a0 h0 f20 (iv_of (iv_add (a' := 1) (b' := 16) ef20 h1 (iv_c 1 (a := 1) (b := 1) (by decide +kernel)) (by decide +kernel)) (a' := 0) (b' := 16) (by decide +kernel)) f21 (iv_add (a' := 2) (b' := 2) ef21 h2 (iv_c 1 (a := 1) (b := 1) (by decide +kernel)) (by decide +kernel)) f23 wl_5_69 hl.1 (rest := []) rfl (Nat.le_of_ble_eq_true rfl) ⟨Nat.le_of_ble_eq_true rfl, Nat.le_of_ble_eq_true rfl⟩ ⟨Nat.le_of_ble_eq_true rfl, Nat.le_of_ble_eq_true rfl⟩ dX7_fillLeaf_88 (fun H locs hG hS => ?_)
            exact B14_91 H _ _ hG hS (lv_sub hl [0, 1, 2, 3, 4, 5] rfl)
    exact B5_19 _ s.heap _ _ 0 hG hS (lv_sub hl [2, 3, 4, 5, 1, 0] rfl) (iv_of (iv_c 0 (a := 0) (b := 0) (by decide +kernel)) (a' := 0) (b' := 30) (by decide +kernel)) (Nat.le_refl _)
  · exact ((iv_no (iv_le (b' := 1) (iv_ge_of c1) (iv_c 3 (a := 3) (b := 3) (by decide +kernel)) h2 (by decide +kernel)) (by decide +kernel))).elim

theorem ca_X7_fillLeaf_1   (X : CallFix p m c cc nL s args sg_tbl own) (hK : va_K D vwCl tys s) (hG : sgG (KT P) D vwCl (fun q : Nat => base ≤ q) tys ad ks H) (hC : sgC base s) (hS : va_S (fun q : Nat => base ≤ q) s.heap H locs) (hb : base ≤ s.heap.size) (a0 : Nat) (h0 : isK ad ks 7 a0) (x1 : Int32) (h1 : iv 0 15 x1) (x2 : Int32) (h2 : iv 1 1 x2) (x3 : Int32) (hl : Cond.methodLink own index yX7_fillLeaf ∈ sg_tbl) (hsize : ls.size = nL) (hst : st0 = [.int x1, .int x2, .int x3].reverse ++ .ref a0 :: rest) (hW : (rest.map fun v => v.category).sum ≤ 8) (hR : 10 ≤ R.frames ∧ 258 ≤ R.locals) (hf : cells ≤ R.cells ∧ slots ≤ R.slots) (hdg : decode cc pc = .ok (.invokevirtual index, 3)) (kk : ∀ (H1 : Heap) (locs1 : List Loc), sgG (KT P) D vwCl (fun q : Nat => base ≤ q) tys ad ks H1 → va_S (fun q : Nat => base ≤ q) s.heap H1 locs1 → W p l e R s m args below meth c H1 locs1 cells slots Q (F0 m (pc + 3) ls rest)) : W p l e R s m args below meth c H locs cells slots Q (F0 m pc ls st0) :=
  sg_callVv X hK hG hC hS hb (m_X7_fillLeaf_1 l a0 h0 x1 h1 x2 h2 x3) h0 (k := 7) (ci := 7) rfl (C := RX7) (T := TX7) (N := 9) rfl wl_5_81 wl_1_9 wl_5_80 wl_0_33 (n := 3) (by decide +kernel) rfl rfl rfl hl hsize hst hW hR hf hdg kk

set_option maxHeartbeats 8000000 in
set_option maxRecDepth 100000 in
theorem m_X7_search_1 (l : Launch) {D : va_G} {base : Nat} {tys : List (ClassId × FieldType)} {ad ks : List Nat} {P : sgPm} (a0 : Nat) (h0 : isK ad ks 7 a0) (x1 : Int32) (h1 : iv 0 16 x1) (x2 : Int32) (h2 : iv 1 1 x2) (x3 : Int32) : sgMv l (KT P) D vwCl base tys ad ks yX7_search cX7_search 7 none ({ frames := 10, cells := 0, slots := 0, locals := 258 }) [.ref a0, .int x1, .int x2, .int x3] := by
  refine sg_ofW (by decide +kernel) (Nat.le_of_ble_eq_true rfl) (fun p e s m below meth c X hr hlk hb hK hC hG ls hl => ?_)
  have hS : va_S (fun q : Nat => base ≤ q) s.heap s.heap [] := va_S.rf
  have hl : lv_has ls 7 [(0, .ref a0), (1, .int x1), (2, .int x2), (3, .int x3)] := hl
  refine lv_iload_n X.1 X.2.1 dX7_search_0 rfl (lv_at hl 2 rfl) ?_
  refine lv_iconst (v := 3) X.1 X.2.1 dX7_search_1 (by decide +kernel) ?_
  refine lv_icmp_le (tgt := 6) X.1 X.2.1 dX7_search_2 (by decide) (fun c1 => ?_) (fun c1 => ?_)
  · refine lv_aload_n X.1 X.2.1 dX7_search_6 rfl (lv_at hl 0 rfl) ?_
    refine gf_X7_1 X hK hG h0 wl_2_85 dX7_search_7 (fun q2 hq2 kq2 => ?_)
    refine lv_iload_n X.1 X.2.1 dX7_search_10 rfl (lv_at hl 2 rfl) ?_
    refine al_33 X hK hG hq2 (iv_vpin h2 (by decide +kernel)) dX7_search_11 (fun q3 hq3 => ?_)
    refine lv_astore (lv' := [(4, .ref q3), (0, .ref a0), (1, .int x1), (2, .int x2), (3, .int x3)]) X.1 X.2.1 dX7_search_12 hl (by decide) rfl (fun ls hl => ?_)
    refine lv_aload_n X.1 X.2.1 dX7_search_14 rfl (lv_at hl 1 rfl) ?_
    refine lv_aload X.1 X.2.1 dX7_search_15 (lv_at hl 0 rfl) ?_
    refine gf_X9_0 X hK hG hq3 wl_1_117 dX7_search_17 (fun f4 hf4 kf4 => ?_)
    refine lv_iload_n X.1 X.2.1 dX7_search_20 rfl (lv_at hl 2 rfl) ?_
    refine ca_X7_isHopeless X hK hG hC (fun _ h => h) hS hb a0 h0 f4 x1 h1 wl_5_73 hl.1 (rest := []) rfl (Nat.le_of_ble_eq_true rfl) ⟨Nat.le_of_ble_eq_true rfl, Nat.le_of_ble_eq_true rfl⟩ ⟨Nat.le_of_ble_eq_true rfl, Nat.le_of_ble_eq_true rfl⟩ dX7_search_21 (fun f5 locs hf5 hS => ?_)
    refine lv_if_eq (tgt := 28) X.1 X.2.1 dX7_search_24 (by decide) (fun c6 => ?_) (fun c6 => ?_)
    · refine lv_iload_n X.1 X.2.1 dX7_search_28 rfl (lv_at hl 2 rfl) ?_
      refine lv_istore (lv' := [(5, .int x1), (4, .ref q3), (0, .ref a0), (1, .int x1), (2, .int x2), (3, .int x3)]) X.1 X.2.1 dX7_search_29 hl (by decide) rfl (fun ls hl => ?_)
      have B7_31 : ∀ (N : Nat) (H : Heap) (locs : List Loc) (ls : Array Slot) (z7_5 : Int32), sgG (KT P) D vwCl (fun q : Nat => base ≤ q) tys ad ks H → va_S (fun q : Nat => base ≤ q) s.heap H locs → lv_has ls 7 [(0, .ref a0), (2, .int x2), (3, .int x3), (4, .ref q3), (5, .int z7_5)] → iv 0 16 z7_5 → (17 - z7_5.toInt).toNat ≤ N → W p l e (headSpec (Cond.code yX7_search cX7_search 7 none :: sg_tbl) ({ frames := 10, cells := 0, slots := 0, locals := 258 })).room s m #[.ref a0, .int x1, .int x2, .int x3] below meth c H locs 0 0 (MQ below (va_Qv (fun (_ : Unit) => True) (fun _ => sgB (KT P) D vwCl base tys ad ks) (fun q : Nat => base ≤ q)) #[.ref a0, .int x1, .int x2, .int x3] s 0 0 (fun q : Nat => base ≤ q)) (F0 m 31 ls []) := by
        intro N; induction N with
        | zero =>
          intro H locs ls z7_5 hG hS hl hz7_5 hN
          exact absurd hN (by have := iv_up hz7_5; omega)
        | succ N ih7 =>
          intro H locs ls z7_5 hG hS hl hz7_5 hN7
          refine lv_iload X.1 X.2.1 dX7_search_31 (lv_at hl 4 rfl) ?_
          refine lv_aload_n X.1 X.2.1 dX7_search_33 rfl (lv_at hl 0 rfl) ?_
          refine gf_X7_4 X hK hG h0 wl_2_88 dX7_search_34 (fun q8 hq8 kq8 => ?_)
          refine gf_X3_1 X hK hG hq8 wl_1_98 dX7_search_37 (fun f9 hf9 kf9 => ?_)
          refine lv_icmp_ge (tgt := 96) X.1 X.2.1 dX7_search_40 (by decide) (fun c10 => ?_) (fun c10 => ?_)
          · refine lv_aload X.1 X.2.1 dX7_search_96 (lv_at hl 3 rfl) ?_
            refine gf_X9_0 X hK hG hq3 wl_1_117 dX7_search_98 (fun f11 hf11 kf11 => ?_)
            refine lv_aload_n X.1 X.2.1 dX7_search_101 rfl (lv_at hl 0 rfl) ?_
            refine gf_X7_5 X hK hG h0 wl_2_89 dX7_search_102 (fun f12 hf12 kf12 => ?_)
            refine lv_icmp_ne (tgt := 134) X.1 X.2.1 dX7_search_105 (by decide) (fun c13 => ?_) (fun c13 => ?_)
            · exact sg_vret X hr hlk hb hK hC hG hS dX7_search_134
            · refine lv_aload_n X.1 X.2.1 dX7_search_108 rfl (lv_at hl 0 rfl) ?_
              refine gf_X7_7 X hK hG h0 wl_2_91 dX7_search_109 (fun f14 hf14 kf14 => ?_)
              refine lv_aload_n X.1 X.2.1 dX7_search_112 rfl (lv_at hl 0 rfl) ?_
              refine gf_X7_6 X hK hG h0 wl_2_90 dX7_search_113 (fun f15 hf15 kf15 => ?_)
              have B17_124 : ∀ (H : Heap) (locs : List Loc) (ls : Array Slot), sgG (KT P) D vwCl (fun q : Nat => base ≤ q) tys ad ks H → va_S (fun q : Nat => base ≤ q) s.heap H locs → lv_has ls 7 [(0, .ref a0)] → W p l e (headSpec (Cond.code yX7_search cX7_search 7 none :: sg_tbl) ({ frames := 10, cells := 0, slots := 0, locals := 258 })).room s m #[.ref a0, .int x1, .int x2, .int x3] below meth c H locs 0 0 (MQ below (va_Qv (fun (_ : Unit) => True) (fun _ => sgB (KT P) D vwCl base tys ad ks) (fun q : Nat => base ≤ q)) #[.ref a0, .int x1, .int x2, .int x3] s 0 0 (fun q : Nat => base ≤ q)) (F0 m 124 ls []) := by
                intro H locs ls hG hS hl
                refine lv_aload_n X.1 X.2.1 dX7_search_124 rfl (lv_at hl 0 rfl) ?_
                refine lv_dup X.1 X.2.1 dX7_search_125 rfl ?_
                refine gf_X7_7 X hK hG h0 wl_2_91 dX7_search_126 (fun f18 hf18 kf18 => ?_)
                refine lv_iconst (v := 1) X.1 X.2.1 dX7_search_129 (by decide +kernel) ?_
                refine lv_iadd X.1 X.2.1 dX7_search_130 ?_
                refine lv_topi (fun f19 ef19 => ?_)
                refine pf_X7_7 X hK hG hS h0 wl_2_91 ⟨_, rfl, (iv_top _)⟩ dX7_search_131 (fun H locs hG hS ku20 ru20 => ?_)
                exact sg_vret X hr hlk hb hK hC hG hS dX7_search_134
              refine lv_icmp_ne (tgt := 124) X.1 X.2.1 dX7_search_116 (by decide) (fun c16 => ?_) (fun c16 => ?_)
              · exact B17_124 H _ _ hG hS (lv_sub hl [0] rfl)
              · refine lv_aload_n X.1 X.2.1 dX7_search_119 rfl (lv_at hl 0 rfl) ?_
                refine lv_iload_n X.1 X.2.1 dX7_search_120 rfl (lv_at hl 2 rfl) ?_
                refine pf_X7_8 X hK hG hS h0 wl_2_93 ⟨_, rfl, (iv_top _)⟩ dX7_search_121 (fun H locs hG hS ku21 ru21 => ?_)
                exact B17_124 H _ _ hG hS (lv_sub hl [0] rfl)
          · refine lv_aload_n X.1 X.2.1 dX7_search_43 rfl (lv_at hl 0 rfl) ?_
            refine gg_X7_4 X hK hG h0 wl_2_88 kq8 dX7_search_44 ?_
            refine gf_X3_0 X hK hG hq8 wl_1_95 dX7_search_47 (fun q22 hq22 kq22 => ?_)
            refine lv_iload X.1 X.2.1 dX7_search_50 (lv_at hl 4 rfl) ?_
            refine al_20 X hK hG hq22 (iv_vpin (iv_lt (b' := 15) (iv_gt_of c10) hz7_5 hf9 (by decide +kernel)) (by decide +kernel)) dX7_search_52 (fun f23 hf23 => ?_)
            refine lv_istore (lv' := [(6, .int f23), (0, .ref a0), (2, .int x2), (3, .int x3), (4, .ref q3), (5, .int z7_5)]) X.1 X.2.1 dX7_search_53 hl (by decide) rfl (fun ls hl => ?_)
            refine lv_iload X.1 X.2.1 dX7_search_55 (lv_at hl 0 rfl) ?_
            refine ca_X7_isLeaf X hK hG hC (fun _ h => h) hS hb f23 wl_5_38 hl.1 (rest := []) rfl (Nat.le_of_ble_eq_true rfl) ⟨Nat.le_of_ble_eq_true rfl, Nat.le_of_ble_eq_true rfl⟩ ⟨Nat.le_of_ble_eq_true rfl, Nat.le_of_ble_eq_true rfl⟩ dX7_search_57 (fun f24 locs hf24 hS => ?_)
            refine lv_if_eq (tgt := 72) X.1 X.2.1 dX7_search_60 (by decide) (fun c25 => ?_) (fun c25 => ?_)
            · refine lv_aload_n X.1 X.2.1 dX7_search_72 rfl (lv_at hl 1 rfl) ?_
              refine lv_aload X.1 X.2.1 dX7_search_73 (lv_at hl 4 rfl) ?_
              refine lv_iload X.1 X.2.1 dX7_search_75 (lv_at hl 0 rfl) ?_
              refine lv_iload X.1 X.2.1 dX7_search_77 (lv_at hl 0 rfl) ?_
              refine lv_iconst (v := 1) X.1 X.2.1 dX7_search_79 (by decide +kernel) ?_
              refine ca_X3_unpacked X hK hG hC (fun _ h => h) hS hb f23 1 wl_5_41 hl.1 (rest := [.int f23, .ref q3, .ref a0]) rfl (Nat.le_of_ble_eq_true rfl) ⟨Nat.le_of_ble_eq_true rfl, Nat.le_of_ble_eq_true rfl⟩ ⟨Nat.le_of_ble_eq_true rfl, Nat.le_of_ble_eq_true rfl⟩ dX7_search_80 (fun f26 locs hf26 hS => ?_)
              refine ca_X7_step X hK hG hC hS hb a0 h0 q3 hq3 f23 f26 wl_5_46 hl.1 (rest := []) rfl (Nat.le_of_ble_eq_true rfl) ⟨Nat.le_of_ble_eq_true rfl, Nat.le_of_ble_eq_true rfl⟩ ⟨Nat.le_of_ble_eq_true rfl, Nat.le_of_ble_eq_true rfl⟩ dX7_search_83 (fun f27 H locs hf27 hG hS => ?_)
              refine lv_if_ne (tgt := 90) X.1 X.2.1 dX7_search_86 (by decide) (fun c28 => ?_) (fun c28 => ?_)
              · obtain ⟨y29, ey29⟩ : ∃ y : Int32, y = z7_5 + Int32.ofInt 1 := ⟨_, rfl⟩
                refine lv_iinc (v := y29) (lv' := [(5, .int y29), (6, .int f23), (0, .ref a0), (2, .int x2), (3, .int x3), (4, .ref q3)]) X.1 X.2.1 dX7_search_90 hl (k := 5) rfl ey29.symm (by decide) rfl (fun ls hl => ?_)
                refine lv_goto (tgt := 31) X.1 X.2.1 dX7_search_93 (by decide) ?_
                exact ih7 H _ _ y29 hG hS (lv_sub hl [2, 3, 4, 5, 0] rfl) (iv_of (iv_add (a' := 1) (b' := 16) ey29 (iv_lt (b' := 15) (iv_gt_of c10) hz7_5 hf9 (by decide +kernel)) (iv_c _ (a := 1) (b := 1) (by decide +kernel)) (by decide +kernel)) (a' := 0) (b' := 16) (by decide +kernel)) (iv_stepU ey29 (iv_lt (b' := 15) (iv_gt_of c10) hz7_5 hf9 (by decide +kernel)) (by decide +kernel) hN7)
              · exact sg_vret X hr hlk hb hK hC hG hS dX7_search_89
            · refine lv_aload_n X.1 X.2.1 dX7_search_63 rfl (lv_at hl 1 rfl) ?_
              refine lv_iload X.1 X.2.1 dX7_search_64 (lv_at hl 5 rfl) ?_
              refine lv_iload_n X.1 X.2.1 dX7_search_66 rfl (lv_at hl 2 rfl) ?_
              refine lv_iload_n X.1 X.2.1 dX7_search_67 rfl (lv_at hl 3 rfl) ?_
              refine ca_X7_fillLeaf_1 X hK hG hC hS hb a0 h0 z7_5 (iv_lt (b' := 15) (iv_gt_of c10) hz7_5 hf9 (by decide +kernel)) x2 h2 x3 wl_5_78 hl.1 (rest := []) rfl (Nat.le_of_ble_eq_true rfl) ⟨Nat.le_of_ble_eq_true rfl, Nat.le_of_ble_eq_true rfl⟩ ⟨Nat.le_of_ble_eq_true rfl, Nat.le_of_ble_eq_true rfl⟩ dX7_search_68 (fun H locs hG hS => ?_)
              exact sg_vret X hr hlk hb hK hC hG hS dX7_search_71
      exact B7_31 _ s.heap _ _ x1 hG hS (lv_sub hl [2, 4, 5, 1, 0] rfl) h1 (Nat.le_refl _)
    · exact sg_vret X hr hlk hb hK hC hG hS dX7_search_27
  · exact ((iv_no (iv_lt (b' := 0) (iv_gt_of c1) (iv_c 3 (a := 3) (b := 3) (by decide +kernel)) h2 (by decide +kernel)) (by decide +kernel))).elim

theorem ca_X7_search_1   (X : CallFix p m c cc nL s args sg_tbl own) (hK : va_K D vwCl tys s) (hG : sgG (KT P) D vwCl (fun q : Nat => base ≤ q) tys ad ks H) (hC : sgC base s) (hS : va_S (fun q : Nat => base ≤ q) s.heap H locs) (hb : base ≤ s.heap.size) (a0 : Nat) (h0 : isK ad ks 7 a0) (x1 : Int32) (h1 : iv 0 16 x1) (x2 : Int32) (h2 : iv 1 1 x2) (x3 : Int32) (hl : Cond.methodLink own index yX7_search ∈ sg_tbl) (hsize : ls.size = nL) (hst : st0 = [.int x1, .int x2, .int x3].reverse ++ .ref a0 :: rest) (hW : (rest.map fun v => v.category).sum ≤ 8) (hR : 11 ≤ R.frames ∧ 284 ≤ R.locals) (hf : cells ≤ R.cells ∧ slots ≤ R.slots) (hdg : decode cc pc = .ok (.invokevirtual index, 3)) (kk : ∀ (H1 : Heap) (locs1 : List Loc), sgG (KT P) D vwCl (fun q : Nat => base ≤ q) tys ad ks H1 → va_S (fun q : Nat => base ≤ q) s.heap H1 locs1 → W p l e R s m args below meth c H1 locs1 cells slots Q (F0 m (pc + 3) ls rest)) : W p l e R s m args below meth c H locs cells slots Q (F0 m pc ls st0) :=
  sg_callVv X hK hG hC hS hb (m_X7_search_1 l a0 h0 x1 h1 x2 h2 x3) h0 (k := 7) (ci := 7) rfl (C := RX7) (T := TX7) (N := 9) rfl wl_5_72 wl_1_9 wl_5_71 wl_0_31 (n := 3) (by decide +kernel) rfl rfl rfl hl hsize hst hW hR hf hdg kk

set_option maxHeartbeats 8000000 in
set_option maxRecDepth 100000 in
theorem m_X7_fillLeaf_0 (l : Launch) {D : va_G} {base : Nat} {tys : List (ClassId × FieldType)} {ad ks : List Nat} {P : sgPm} (a0 : Nat) (h0 : isK ad ks 7 a0) (x1 : Int32) (h1 : iv 0 15 x1) (x2 : Int32) (h2 : iv 0 0 x2) (x3 : Int32) : sgMv l (KT P) D vwCl base tys ad ks yX7_fillLeaf cX7_fillLeaf 6 none ({ frames := 11, cells := 0, slots := 0, locals := 284 }) [.ref a0, .int x1, .int x2, .int x3] := by
  refine sg_ofW (by decide +kernel) (Nat.le_of_ble_eq_true rfl) (fun p e s m below meth c X hr hlk hb hK hC hG ls hl => ?_)
  have hS : va_S (fun q : Nat => base ≤ q) s.heap s.heap [] := va_S.rf
  have hl : lv_has ls 6 [(0, .ref a0), (1, .int x1), (2, .int x2), (3, .int x3)] := hl
  refine lv_iload_n X.1 X.2.1 dX7_fillLeaf_0 rfl (lv_at hl 2 rfl) ?_
  refine lv_iconst (v := 3) X.1 X.2.1 dX7_fillLeaf_1 (by decide +kernel) ?_
  refine lv_icmp_lt (tgt := 6) X.1 X.2.1 dX7_fillLeaf_2 (by decide) (fun c1 => ?_) (fun c1 => ?_)
  · refine lv_aload_n X.1 X.2.1 dX7_fillLeaf_6 rfl (lv_at hl 0 rfl) ?_
    refine gf_X7_1 X hK hG h0 wl_2_85 dX7_fillLeaf_7 (fun q2 hq2 kq2 => ?_)
    refine lv_iload_n X.1 X.2.1 dX7_fillLeaf_10 rfl (lv_at hl 2 rfl) ?_
    refine lv_iconst (v := 1) X.1 X.2.1 dX7_fillLeaf_11 (by decide +kernel) ?_
    refine lv_iadd X.1 X.2.1 dX7_fillLeaf_12 ?_
    refine lv_topi (fun f3 ef3 => ?_)
    refine al_33 X hK hG hq2 (iv_vpin (iv_add (a' := 1) (b' := 1) ef3 h2 (iv_c 1 (a := 1) (b := 1) (by decide +kernel)) (by decide +kernel)) (by decide +kernel)) dX7_fillLeaf_13 (fun q4 hq4 => ?_)
    refine lv_astore (lv' := [(4, .ref q4), (0, .ref a0), (1, .int x1), (2, .int x2), (3, .int x3)]) X.1 X.2.1 dX7_fillLeaf_14 hl (by decide) rfl (fun ls hl => ?_)
    refine lv_iconst (v := 0) X.1 X.2.1 dX7_fillLeaf_16 (by decide +kernel) ?_
    refine lv_istore (lv' := [(5, .int 0), (4, .ref q4), (0, .ref a0), (1, .int x1), (2, .int x2), (3, .int x3)]) X.1 X.2.1 dX7_fillLeaf_17 hl (by decide) rfl (fun ls hl => ?_)
    have B5_19 : ∀ (N : Nat) (H : Heap) (locs : List Loc) (ls : Array Slot) (z5_5 : Int32), sgG (KT P) D vwCl (fun q : Nat => base ≤ q) tys ad ks H → va_S (fun q : Nat => base ≤ q) s.heap H locs → lv_has ls 6 [(0, .ref a0), (1, .int x1), (2, .int x2), (3, .int x3), (4, .ref q4), (5, .int z5_5)] → iv 0 30 z5_5 → (31 - z5_5.toInt).toNat ≤ N → W p l e (headSpec (Cond.code yX7_fillLeaf cX7_fillLeaf 6 none :: sg_tbl) ({ frames := 11, cells := 0, slots := 0, locals := 284 })).room s m #[.ref a0, .int x1, .int x2, .int x3] below meth c H locs 0 0 (MQ below (va_Qv (fun (_ : Unit) => True) (fun _ => sgB (KT P) D vwCl base tys ad ks) (fun q : Nat => base ≤ q)) #[.ref a0, .int x1, .int x2, .int x3] s 0 0 (fun q : Nat => base ≤ q)) (F0 m 19 ls []) := by
      intro N; induction N with
      | zero =>
        intro H locs ls z5_5 hG hS hl hz5_5 hN
        exact absurd hN (by have := iv_up hz5_5; omega)
      | succ N ih5 =>
        intro H locs ls z5_5 hG hS hl hz5_5 hN5
        refine lv_iload X.1 X.2.1 dX7_fillLeaf_19 (lv_at hl 5 rfl) ?_
        refine lv_aload_n X.1 X.2.1 dX7_fillLeaf_21 rfl (lv_at hl 0 rfl) ?_
        refine gf_X7_0 X hK hG h0 wl_2_84 dX7_fillLeaf_22 (fun q6 hq6 kq6 => ?_)
        refine gf_X8_0 X hK hG hq6 wl_2_36 dX7_fillLeaf_25 (fun q7 hq7 kq7 => ?_)
        refine gf_X4_5 X hK hG hq7 wl_1_217 dX7_fillLeaf_28 (fun f8 hf8 kf8 => ?_)
        refine lv_icmp_ge (tgt := 97) X.1 X.2.1 dX7_fillLeaf_31 (by decide) (fun c9 => ?_) (fun c9 => ?_)
        · exact sg_vret X hr hlk hb hK hC hG hS dX7_fillLeaf_97
        · refine lv_aload_n X.1 X.2.1 dX7_fillLeaf_34 rfl (lv_at hl 0 rfl) ?_
          refine lv_aload_n X.1 X.2.1 dX7_fillLeaf_35 rfl (lv_at hl 0 rfl) ?_
          refine gf_X7_1 X hK hG h0 wl_2_85 dX7_fillLeaf_36 (fun q10 hq10 kq10 => ?_)
          refine lv_iload_n X.1 X.2.1 dX7_fillLeaf_39 rfl (lv_at hl 2 rfl) ?_
          refine al_33 X hK hG hq10 (iv_vpin h2 (by decide +kernel)) dX7_fillLeaf_40 (fun q11 hq11 => ?_)
          refine lv_iconst (v := 0) X.1 X.2.1 dX7_fillLeaf_41 (by decide +kernel) ?_
          refine lv_iload X.1 X.2.1 dX7_fillLeaf_42 (lv_at hl 5 rfl) ?_
          refine lv_iconst (v := 0) X.1 X.2.1 dX7_fillLeaf_44 (by decide +kernel) ?_
          refine lv_iconst (v := 0) X.1 X.2.1 dX7_fillLeaf_45 (by decide +kernel) ?_
          refine ca_X7_allows X hK hG hC hS hb a0 h0 q11 hq11 0 z5_5 0 0 wl_5_50 hl.1 (rest := []) rfl (Nat.le_of_ble_eq_true rfl) ⟨Nat.le_of_ble_eq_true rfl, Nat.le_of_ble_eq_true rfl⟩ ⟨Nat.le_of_ble_eq_true rfl, Nat.le_of_ble_eq_true rfl⟩ dX7_fillLeaf_46 (fun f12 H locs hf12 hG hS => ?_)
          have B14_91 : ∀ (H : Heap) (locs : List Loc) (ls : Array Slot), sgG (KT P) D vwCl (fun q : Nat => base ≤ q) tys ad ks H → va_S (fun q : Nat => base ≤ q) s.heap H locs → lv_has ls 6 [(0, .ref a0), (1, .int x1), (2, .int x2), (3, .int x3), (4, .ref q4), (5, .int z5_5)] → W p l e (headSpec (Cond.code yX7_fillLeaf cX7_fillLeaf 6 none :: sg_tbl) ({ frames := 11, cells := 0, slots := 0, locals := 284 })).room s m #[.ref a0, .int x1, .int x2, .int x3] below meth c H locs 0 0 (MQ below (va_Qv (fun (_ : Unit) => True) (fun _ => sgB (KT P) D vwCl base tys ad ks) (fun q : Nat => base ≤ q)) #[.ref a0, .int x1, .int x2, .int x3] s 0 0 (fun q : Nat => base ≤ q)) (F0 m 91 ls []) := by
            intro H locs ls hG hS hl
            obtain ⟨y15, ey15⟩ : ∃ y : Int32, y = z5_5 + Int32.ofInt 1 := ⟨_, rfl⟩
            refine lv_iinc (v := y15) (lv' := [(5, .int y15), (0, .ref a0), (1, .int x1), (2, .int x2), (3, .int x3), (4, .ref q4)]) X.1 X.2.1 dX7_fillLeaf_91 hl (k := 5) rfl ey15.symm (by decide) rfl (fun ls hl => ?_)
            refine lv_goto (tgt := 19) X.1 X.2.1 dX7_fillLeaf_94 (by decide) ?_
            exact ih5 H _ _ y15 hG hS (lv_sub hl [1, 2, 3, 4, 5, 0] rfl) (iv_of (iv_add (a' := 1) (b' := 30) ey15 (iv_lt (b' := 29) (iv_gt_of c9) hz5_5 hf8 (by decide +kernel)) (iv_c _ (a := 1) (b := 1) (by decide +kernel)) (by decide +kernel)) (a' := 0) (b' := 30) (by decide +kernel)) (iv_stepU ey15 (iv_lt (b' := 29) (iv_gt_of c9) hz5_5 hf8 (by decide +kernel)) (by decide +kernel) hN5)
          refine lv_if_eq (tgt := 91) X.1 X.2.1 dX7_fillLeaf_49 (by decide) (fun c13 => ?_) (fun c13 => ?_)
          · exact B14_91 H _ _ hG hS (lv_sub hl [0, 1, 2, 3, 4, 5] rfl)
          · refine lv_aload X.1 X.2.1 dX7_fillLeaf_52 (lv_at hl 4 rfl) ?_
            refine lv_aload_n X.1 X.2.1 dX7_fillLeaf_54 rfl (lv_at hl 0 rfl) ?_
            refine gf_X7_1 X hK hG h0 wl_2_85 dX7_fillLeaf_55 (fun q16 hq16 kq16 => ?_)
            refine lv_iload_n X.1 X.2.1 dX7_fillLeaf_58 rfl (lv_at hl 2 rfl) ?_
            refine al_33 X hK hG hq16 (iv_vpin h2 (by decide +kernel)) dX7_fillLeaf_59 (fun q17 hq17 => ?_)
            refine ca_X9_takeFrom X hK hG hC hS hb q4 hq4 q17 hq17 wl_5_33 hl.1 (rest := []) rfl (Nat.le_of_ble_eq_true rfl) ⟨Nat.le_of_ble_eq_true rfl, Nat.le_of_ble_eq_true rfl⟩ ⟨Nat.le_of_ble_eq_true rfl, Nat.le_of_ble_eq_true rfl⟩ dX7_fillLeaf_60 (fun H locs hG hS => ?_)
            refine lv_aload_n X.1 X.2.1 dX7_fillLeaf_63 rfl (lv_at hl 0 rfl) ?_
            refine lv_aload X.1 X.2.1 dX7_fillLeaf_64 (lv_at hl 4 rfl) ?_
            refine lv_iconst (v := 0) X.1 X.2.1 dX7_fillLeaf_66 (by decide +kernel) ?_
            refine lv_iload X.1 X.2.1 dX7_fillLeaf_67 (lv_at hl 5 rfl) ?_
            refine lv_iconst (v := 0) X.1 X.2.1 dX7_fillLeaf_69 (by decide +kernel) ?_
            refine lv_iconst (v := 0) X.1 X.2.1 dX7_fillLeaf_70 (by decide +kernel) ?_
            refine ca_X7_apply X hK hG hC hS hb a0 h0 q4 hq4 0 z5_5 0 0 (fun _ => (iv_lt (b' := 29) (iv_gt_of c9) hz5_5 hf8 (by decide +kernel))) wl_5_51 hl.1 (rest := []) rfl (Nat.le_of_ble_eq_true rfl) ⟨Nat.le_of_ble_eq_true rfl, Nat.le_of_ble_eq_true rfl⟩ ⟨Nat.le_of_ble_eq_true rfl, Nat.le_of_ble_eq_true rfl⟩ dX7_fillLeaf_71 (fun H locs hG hS => ?_)
            refine lv_aload_n X.1 X.2.1 dX7_fillLeaf_74 rfl (lv_at hl 0 rfl) ?_
            refine lv_iload_n X.1 X.2.1 dX7_fillLeaf_75 rfl (lv_at hl 1 rfl) ?_
            refine lv_iconst (v := 1) X.1 X.2.1 dX7_fillLeaf_76 (by decide +kernel) ?_
            refine lv_iadd X.1 X.2.1 dX7_fillLeaf_77 ?_
            refine lv_topi (fun f20 ef20 => ?_)
            refine lv_iload_n X.1 X.2.1 dX7_fillLeaf_78 rfl (lv_at hl 2 rfl) ?_
            refine lv_iconst (v := 1) X.1 X.2.1 dX7_fillLeaf_79 (by decide +kernel) ?_
            refine lv_iadd X.1 X.2.1 dX7_fillLeaf_80 ?_
            refine lv_topi (fun f21 ef21 => ?_)
            refine lv_iload_n X.1 X.2.1 dX7_fillLeaf_81 rfl (lv_at hl 3 rfl) ?_
            refine lv_bipush (v := 30) X.1 X.2.1 dX7_fillLeaf_82 (by decide +kernel) ?_
            refine lv_imul X.1 X.2.1 dX7_fillLeaf_84 ?_
            refine lv_topi (fun f22 ef22 => ?_)
            refine lv_iload X.1 X.2.1 dX7_fillLeaf_85 (lv_at hl 5 rfl) ?_
            refine lv_iadd X.1 X.2.1 dX7_fillLeaf_87 ?_
            refine lv_topi (fun f23 ef23 => ?_)
            refine ca_X7_search_1 X hK hG hC hS hb a0 h0 f20 (iv_of (iv_add (a' := 1) (b' := 16) ef20 h1 (iv_c 1 (a := 1) (b := 1) (by decide +kernel)) (by decide +kernel)) (a' := 0) (b' := 16) (by decide +kernel)) f21 (iv_add (a' := 1) (b' := 1) ef21 h2 (iv_c 1 (a := 1) (b := 1) (by decide +kernel)) (by decide +kernel)) f23 wl_5_69 hl.1 (rest := []) rfl (Nat.le_of_ble_eq_true rfl) ⟨Nat.le_of_ble_eq_true rfl, Nat.le_of_ble_eq_true rfl⟩ ⟨Nat.le_of_ble_eq_true rfl, Nat.le_of_ble_eq_true rfl⟩ dX7_fillLeaf_88 (fun H locs hG hS => ?_)
            exact B14_91 H _ _ hG hS (lv_sub hl [0, 1, 2, 3, 4, 5] rfl)
    exact B5_19 _ s.heap _ _ 0 hG hS (lv_sub hl [2, 3, 4, 5, 1, 0] rfl) (iv_of (iv_c 0 (a := 0) (b := 0) (by decide +kernel)) (a' := 0) (b' := 30) (by decide +kernel)) (Nat.le_refl _)
  · exact ((iv_no (iv_le (b' := 0) (iv_ge_of c1) (iv_c 3 (a := 3) (b := 3) (by decide +kernel)) h2 (by decide +kernel)) (by decide +kernel))).elim

theorem ca_X7_fillLeaf_0   (X : CallFix p m c cc nL s args sg_tbl own) (hK : va_K D vwCl tys s) (hG : sgG (KT P) D vwCl (fun q : Nat => base ≤ q) tys ad ks H) (hC : sgC base s) (hS : va_S (fun q : Nat => base ≤ q) s.heap H locs) (hb : base ≤ s.heap.size) (a0 : Nat) (h0 : isK ad ks 7 a0) (x1 : Int32) (h1 : iv 0 15 x1) (x2 : Int32) (h2 : iv 0 0 x2) (x3 : Int32) (hl : Cond.methodLink own index yX7_fillLeaf ∈ sg_tbl) (hsize : ls.size = nL) (hst : st0 = [.int x1, .int x2, .int x3].reverse ++ .ref a0 :: rest) (hW : (rest.map fun v => v.category).sum ≤ 8) (hR : 12 ≤ R.frames ∧ 309 ≤ R.locals) (hf : cells ≤ R.cells ∧ slots ≤ R.slots) (hdg : decode cc pc = .ok (.invokevirtual index, 3)) (kk : ∀ (H1 : Heap) (locs1 : List Loc), sgG (KT P) D vwCl (fun q : Nat => base ≤ q) tys ad ks H1 → va_S (fun q : Nat => base ≤ q) s.heap H1 locs1 → W p l e R s m args below meth c H1 locs1 cells slots Q (F0 m (pc + 3) ls rest)) : W p l e R s m args below meth c H locs cells slots Q (F0 m pc ls st0) :=
  sg_callVv X hK hG hC hS hb (m_X7_fillLeaf_0 l a0 h0 x1 h1 x2 h2 x3) h0 (k := 7) (ci := 7) rfl (C := RX7) (T := TX7) (N := 9) rfl wl_5_81 wl_1_9 wl_5_80 wl_0_33 (n := 3) (by decide +kernel) rfl rfl rfl hl hsize hst hW hR hf hdg kk

set_option maxHeartbeats 8000000 in
set_option maxRecDepth 100000 in
theorem m_X7_search_0 (l : Launch) {D : va_G} {base : Nat} {tys : List (ClassId × FieldType)} {ad ks : List Nat} {P : sgPm} (a0 : Nat) (h0 : isK ad ks 7 a0) (x1 : Int32) (h1 : iv 0 16 x1) (x2 : Int32) (h2 : iv 0 0 x2) (x3 : Int32) : sgMv l (KT P) D vwCl base tys ad ks yX7_search cX7_search 7 none ({ frames := 12, cells := 0, slots := 0, locals := 309 }) [.ref a0, .int x1, .int x2, .int x3] := by
  refine sg_ofW (by decide +kernel) (Nat.le_of_ble_eq_true rfl) (fun p e s m below meth c X hr hlk hb hK hC hG ls hl => ?_)
  have hS : va_S (fun q : Nat => base ≤ q) s.heap s.heap [] := va_S.rf
  have hl : lv_has ls 7 [(0, .ref a0), (1, .int x1), (2, .int x2), (3, .int x3)] := hl
  refine lv_iload_n X.1 X.2.1 dX7_search_0 rfl (lv_at hl 2 rfl) ?_
  refine lv_iconst (v := 3) X.1 X.2.1 dX7_search_1 (by decide +kernel) ?_
  refine lv_icmp_le (tgt := 6) X.1 X.2.1 dX7_search_2 (by decide) (fun c1 => ?_) (fun c1 => ?_)
  · refine lv_aload_n X.1 X.2.1 dX7_search_6 rfl (lv_at hl 0 rfl) ?_
    refine gf_X7_1 X hK hG h0 wl_2_85 dX7_search_7 (fun q2 hq2 kq2 => ?_)
    refine lv_iload_n X.1 X.2.1 dX7_search_10 rfl (lv_at hl 2 rfl) ?_
    refine al_33 X hK hG hq2 (iv_vpin h2 (by decide +kernel)) dX7_search_11 (fun q3 hq3 => ?_)
    refine lv_astore (lv' := [(4, .ref q3), (0, .ref a0), (1, .int x1), (2, .int x2), (3, .int x3)]) X.1 X.2.1 dX7_search_12 hl (by decide) rfl (fun ls hl => ?_)
    refine lv_aload_n X.1 X.2.1 dX7_search_14 rfl (lv_at hl 1 rfl) ?_
    refine lv_aload X.1 X.2.1 dX7_search_15 (lv_at hl 0 rfl) ?_
    refine gf_X9_0 X hK hG hq3 wl_1_117 dX7_search_17 (fun f4 hf4 kf4 => ?_)
    refine lv_iload_n X.1 X.2.1 dX7_search_20 rfl (lv_at hl 2 rfl) ?_
    refine ca_X7_isHopeless X hK hG hC (fun _ h => h) hS hb a0 h0 f4 x1 h1 wl_5_73 hl.1 (rest := []) rfl (Nat.le_of_ble_eq_true rfl) ⟨Nat.le_of_ble_eq_true rfl, Nat.le_of_ble_eq_true rfl⟩ ⟨Nat.le_of_ble_eq_true rfl, Nat.le_of_ble_eq_true rfl⟩ dX7_search_21 (fun f5 locs hf5 hS => ?_)
    refine lv_if_eq (tgt := 28) X.1 X.2.1 dX7_search_24 (by decide) (fun c6 => ?_) (fun c6 => ?_)
    · refine lv_iload_n X.1 X.2.1 dX7_search_28 rfl (lv_at hl 2 rfl) ?_
      refine lv_istore (lv' := [(5, .int x1), (4, .ref q3), (0, .ref a0), (1, .int x1), (2, .int x2), (3, .int x3)]) X.1 X.2.1 dX7_search_29 hl (by decide) rfl (fun ls hl => ?_)
      have B7_31 : ∀ (N : Nat) (H : Heap) (locs : List Loc) (ls : Array Slot) (z7_5 : Int32), sgG (KT P) D vwCl (fun q : Nat => base ≤ q) tys ad ks H → va_S (fun q : Nat => base ≤ q) s.heap H locs → lv_has ls 7 [(0, .ref a0), (2, .int x2), (3, .int x3), (4, .ref q3), (5, .int z7_5)] → iv 0 16 z7_5 → (17 - z7_5.toInt).toNat ≤ N → W p l e (headSpec (Cond.code yX7_search cX7_search 7 none :: sg_tbl) ({ frames := 12, cells := 0, slots := 0, locals := 309 })).room s m #[.ref a0, .int x1, .int x2, .int x3] below meth c H locs 0 0 (MQ below (va_Qv (fun (_ : Unit) => True) (fun _ => sgB (KT P) D vwCl base tys ad ks) (fun q : Nat => base ≤ q)) #[.ref a0, .int x1, .int x2, .int x3] s 0 0 (fun q : Nat => base ≤ q)) (F0 m 31 ls []) := by
        intro N; induction N with
        | zero =>
          intro H locs ls z7_5 hG hS hl hz7_5 hN
          exact absurd hN (by have := iv_up hz7_5; omega)
        | succ N ih7 =>
          intro H locs ls z7_5 hG hS hl hz7_5 hN7
          refine lv_iload X.1 X.2.1 dX7_search_31 (lv_at hl 4 rfl) ?_
          refine lv_aload_n X.1 X.2.1 dX7_search_33 rfl (lv_at hl 0 rfl) ?_
          refine gf_X7_4 X hK hG h0 wl_2_88 dX7_search_34 (fun q8 hq8 kq8 => ?_)
          refine gf_X3_1 X hK hG hq8 wl_1_98 dX7_search_37 (fun f9 hf9 kf9 => ?_)
          refine lv_icmp_ge (tgt := 96) X.1 X.2.1 dX7_search_40 (by decide) (fun c10 => ?_) (fun c10 => ?_)
          · refine lv_aload X.1 X.2.1 dX7_search_96 (lv_at hl 3 rfl) ?_
            refine gf_X9_0 X hK hG hq3 wl_1_117 dX7_search_98 (fun f11 hf11 kf11 => ?_)
            refine lv_aload_n X.1 X.2.1 dX7_search_101 rfl (lv_at hl 0 rfl) ?_
            refine gf_X7_5 X hK hG h0 wl_2_89 dX7_search_102 (fun f12 hf12 kf12 => ?_)
            refine lv_icmp_ne (tgt := 134) X.1 X.2.1 dX7_search_105 (by decide) (fun c13 => ?_) (fun c13 => ?_)
            · exact sg_vret X hr hlk hb hK hC hG hS dX7_search_134
            · refine lv_aload_n X.1 X.2.1 dX7_search_108 rfl (lv_at hl 0 rfl) ?_
              refine gf_X7_7 X hK hG h0 wl_2_91 dX7_search_109 (fun f14 hf14 kf14 => ?_)
              refine lv_aload_n X.1 X.2.1 dX7_search_112 rfl (lv_at hl 0 rfl) ?_
              refine gf_X7_6 X hK hG h0 wl_2_90 dX7_search_113 (fun f15 hf15 kf15 => ?_)
              have B17_124 : ∀ (H : Heap) (locs : List Loc) (ls : Array Slot), sgG (KT P) D vwCl (fun q : Nat => base ≤ q) tys ad ks H → va_S (fun q : Nat => base ≤ q) s.heap H locs → lv_has ls 7 [(0, .ref a0)] → W p l e (headSpec (Cond.code yX7_search cX7_search 7 none :: sg_tbl) ({ frames := 12, cells := 0, slots := 0, locals := 309 })).room s m #[.ref a0, .int x1, .int x2, .int x3] below meth c H locs 0 0 (MQ below (va_Qv (fun (_ : Unit) => True) (fun _ => sgB (KT P) D vwCl base tys ad ks) (fun q : Nat => base ≤ q)) #[.ref a0, .int x1, .int x2, .int x3] s 0 0 (fun q : Nat => base ≤ q)) (F0 m 124 ls []) := by
                intro H locs ls hG hS hl
                refine lv_aload_n X.1 X.2.1 dX7_search_124 rfl (lv_at hl 0 rfl) ?_
                refine lv_dup X.1 X.2.1 dX7_search_125 rfl ?_
                refine gf_X7_7 X hK hG h0 wl_2_91 dX7_search_126 (fun f18 hf18 kf18 => ?_)
                refine lv_iconst (v := 1) X.1 X.2.1 dX7_search_129 (by decide +kernel) ?_
                refine lv_iadd X.1 X.2.1 dX7_search_130 ?_
                refine lv_topi (fun f19 ef19 => ?_)
                refine pf_X7_7 X hK hG hS h0 wl_2_91 ⟨_, rfl, (iv_top _)⟩ dX7_search_131 (fun H locs hG hS ku20 ru20 => ?_)
                exact sg_vret X hr hlk hb hK hC hG hS dX7_search_134
              refine lv_icmp_ne (tgt := 124) X.1 X.2.1 dX7_search_116 (by decide) (fun c16 => ?_) (fun c16 => ?_)
              · exact B17_124 H _ _ hG hS (lv_sub hl [0] rfl)
              · refine lv_aload_n X.1 X.2.1 dX7_search_119 rfl (lv_at hl 0 rfl) ?_
                refine lv_iload_n X.1 X.2.1 dX7_search_120 rfl (lv_at hl 2 rfl) ?_
                refine pf_X7_8 X hK hG hS h0 wl_2_93 ⟨_, rfl, (iv_top _)⟩ dX7_search_121 (fun H locs hG hS ku21 ru21 => ?_)
                exact B17_124 H _ _ hG hS (lv_sub hl [0] rfl)
          · refine lv_aload_n X.1 X.2.1 dX7_search_43 rfl (lv_at hl 0 rfl) ?_
            refine gg_X7_4 X hK hG h0 wl_2_88 kq8 dX7_search_44 ?_
            refine gf_X3_0 X hK hG hq8 wl_1_95 dX7_search_47 (fun q22 hq22 kq22 => ?_)
            refine lv_iload X.1 X.2.1 dX7_search_50 (lv_at hl 4 rfl) ?_
            refine al_20 X hK hG hq22 (iv_vpin (iv_lt (b' := 15) (iv_gt_of c10) hz7_5 hf9 (by decide +kernel)) (by decide +kernel)) dX7_search_52 (fun f23 hf23 => ?_)
            refine lv_istore (lv' := [(6, .int f23), (0, .ref a0), (2, .int x2), (3, .int x3), (4, .ref q3), (5, .int z7_5)]) X.1 X.2.1 dX7_search_53 hl (by decide) rfl (fun ls hl => ?_)
            refine lv_iload X.1 X.2.1 dX7_search_55 (lv_at hl 0 rfl) ?_
            refine ca_X7_isLeaf X hK hG hC (fun _ h => h) hS hb f23 wl_5_38 hl.1 (rest := []) rfl (Nat.le_of_ble_eq_true rfl) ⟨Nat.le_of_ble_eq_true rfl, Nat.le_of_ble_eq_true rfl⟩ ⟨Nat.le_of_ble_eq_true rfl, Nat.le_of_ble_eq_true rfl⟩ dX7_search_57 (fun f24 locs hf24 hS => ?_)
            refine lv_if_eq (tgt := 72) X.1 X.2.1 dX7_search_60 (by decide) (fun c25 => ?_) (fun c25 => ?_)
            · refine lv_aload_n X.1 X.2.1 dX7_search_72 rfl (lv_at hl 1 rfl) ?_
              refine lv_aload X.1 X.2.1 dX7_search_73 (lv_at hl 4 rfl) ?_
              refine lv_iload X.1 X.2.1 dX7_search_75 (lv_at hl 0 rfl) ?_
              refine lv_iload X.1 X.2.1 dX7_search_77 (lv_at hl 0 rfl) ?_
              refine lv_iconst (v := 1) X.1 X.2.1 dX7_search_79 (by decide +kernel) ?_
              refine ca_X3_unpacked X hK hG hC (fun _ h => h) hS hb f23 1 wl_5_41 hl.1 (rest := [.int f23, .ref q3, .ref a0]) rfl (Nat.le_of_ble_eq_true rfl) ⟨Nat.le_of_ble_eq_true rfl, Nat.le_of_ble_eq_true rfl⟩ ⟨Nat.le_of_ble_eq_true rfl, Nat.le_of_ble_eq_true rfl⟩ dX7_search_80 (fun f26 locs hf26 hS => ?_)
              refine ca_X7_step X hK hG hC hS hb a0 h0 q3 hq3 f23 f26 wl_5_46 hl.1 (rest := []) rfl (Nat.le_of_ble_eq_true rfl) ⟨Nat.le_of_ble_eq_true rfl, Nat.le_of_ble_eq_true rfl⟩ ⟨Nat.le_of_ble_eq_true rfl, Nat.le_of_ble_eq_true rfl⟩ dX7_search_83 (fun f27 H locs hf27 hG hS => ?_)
              refine lv_if_ne (tgt := 90) X.1 X.2.1 dX7_search_86 (by decide) (fun c28 => ?_) (fun c28 => ?_)
              · obtain ⟨y29, ey29⟩ : ∃ y : Int32, y = z7_5 + Int32.ofInt 1 := ⟨_, rfl⟩
                refine lv_iinc (v := y29) (lv' := [(5, .int y29), (6, .int f23), (0, .ref a0), (2, .int x2), (3, .int x3), (4, .ref q3)]) X.1 X.2.1 dX7_search_90 hl (k := 5) rfl ey29.symm (by decide) rfl (fun ls hl => ?_)
                refine lv_goto (tgt := 31) X.1 X.2.1 dX7_search_93 (by decide) ?_
                exact ih7 H _ _ y29 hG hS (lv_sub hl [2, 3, 4, 5, 0] rfl) (iv_of (iv_add (a' := 1) (b' := 16) ey29 (iv_lt (b' := 15) (iv_gt_of c10) hz7_5 hf9 (by decide +kernel)) (iv_c _ (a := 1) (b := 1) (by decide +kernel)) (by decide +kernel)) (a' := 0) (b' := 16) (by decide +kernel)) (iv_stepU ey29 (iv_lt (b' := 15) (iv_gt_of c10) hz7_5 hf9 (by decide +kernel)) (by decide +kernel) hN7)
              · exact sg_vret X hr hlk hb hK hC hG hS dX7_search_89
            · refine lv_aload_n X.1 X.2.1 dX7_search_63 rfl (lv_at hl 1 rfl) ?_
              refine lv_iload X.1 X.2.1 dX7_search_64 (lv_at hl 5 rfl) ?_
              refine lv_iload_n X.1 X.2.1 dX7_search_66 rfl (lv_at hl 2 rfl) ?_
              refine lv_iload_n X.1 X.2.1 dX7_search_67 rfl (lv_at hl 3 rfl) ?_
              refine ca_X7_fillLeaf_0 X hK hG hC hS hb a0 h0 z7_5 (iv_lt (b' := 15) (iv_gt_of c10) hz7_5 hf9 (by decide +kernel)) x2 h2 x3 wl_5_78 hl.1 (rest := []) rfl (Nat.le_of_ble_eq_true rfl) ⟨Nat.le_of_ble_eq_true rfl, Nat.le_of_ble_eq_true rfl⟩ ⟨Nat.le_of_ble_eq_true rfl, Nat.le_of_ble_eq_true rfl⟩ dX7_search_68 (fun H locs hG hS => ?_)
              exact sg_vret X hr hlk hb hK hC hG hS dX7_search_71
      exact B7_31 _ s.heap _ _ x1 hG hS (lv_sub hl [2, 4, 5, 1, 0] rfl) h1 (Nat.le_refl _)
    · exact sg_vret X hr hlk hb hK hC hG hS dX7_search_27
  · exact ((iv_no (iv_lt (b' := (-1)) (iv_gt_of c1) (iv_c 3 (a := 3) (b := 3) (by decide +kernel)) h2 (by decide +kernel)) (by decide +kernel))).elim

theorem ca_X7_search_0   (X : CallFix p m c cc nL s args sg_tbl own) (hK : va_K D vwCl tys s) (hG : sgG (KT P) D vwCl (fun q : Nat => base ≤ q) tys ad ks H) (hC : sgC base s) (hS : va_S (fun q : Nat => base ≤ q) s.heap H locs) (hb : base ≤ s.heap.size) (a0 : Nat) (h0 : isK ad ks 7 a0) (x1 : Int32) (h1 : iv 0 16 x1) (x2 : Int32) (h2 : iv 0 0 x2) (x3 : Int32) (hl : Cond.methodLink own index yX7_search ∈ sg_tbl) (hsize : ls.size = nL) (hst : st0 = [.int x1, .int x2, .int x3].reverse ++ .ref a0 :: rest) (hW : (rest.map fun v => v.category).sum ≤ 8) (hR : 13 ≤ R.frames ∧ 335 ≤ R.locals) (hf : cells ≤ R.cells ∧ slots ≤ R.slots) (hdg : decode cc pc = .ok (.invokevirtual index, 3)) (kk : ∀ (H1 : Heap) (locs1 : List Loc), sgG (KT P) D vwCl (fun q : Nat => base ≤ q) tys ad ks H1 → va_S (fun q : Nat => base ≤ q) s.heap H1 locs1 → W p l e R s m args below meth c H1 locs1 cells slots Q (F0 m (pc + 3) ls rest)) : W p l e R s m args below meth c H locs cells slots Q (F0 m pc ls st0) :=
  sg_callVv X hK hG hC hS hb (m_X7_search_0 l a0 h0 x1 h1 x2 h2 x3) h0 (k := 7) (ci := 7) rfl (C := RX7) (T := TX7) (N := 9) rfl wl_5_72 wl_1_9 wl_5_71 wl_0_31 (n := 3) (by decide +kernel) rfl rfl rfl hl hsize hst hW hR hf hdg kk

set_option maxHeartbeats 8000000 in
set_option maxRecDepth 100000 in
theorem m_X7_fillLeaves (l : Launch) {D : va_G} {base : Nat} {tys : List (ClassId × FieldType)} {ad ks : List Nat} {P : sgPm} (a0 : Nat) (h0 : isK ad ks 7 a0) (a1 : Nat) (h1 : isK ad ks 3 a1) (a2 : Nat) (h2 : isK ad ks 9 a2) (x3 : Int32) (x4 : Int32) : sgMv l (KT P) D vwCl base tys ad ks yX7_fillLeaves cX7_fillLeaves 5 none ({ frames := 13, cells := 0, slots := 0, locals := 335 }) [.ref a0, .ref a1, .ref a2, .int x3, .int x4] := by
  refine sg_ofW (by decide +kernel) (Nat.le_of_ble_eq_true rfl) (fun p e s m below meth c X hr hlk hb hK hC hG ls hl => ?_)
  have hS : va_S (fun q : Nat => base ≤ q) s.heap s.heap [] := va_S.rf
  have hl : lv_has ls 5 [(0, .ref a0), (1, .ref a1), (2, .ref a2), (3, .int x3), (4, .int x4)] := hl
  refine lv_aload_n X.1 X.2.1 dX7_fillLeaves_0 rfl (lv_at hl 0 rfl) ?_
  refine lv_aload_n X.1 X.2.1 dX7_fillLeaves_1 rfl (lv_at hl 1 rfl) ?_
  refine pf_X7_4 X hK hG hS h0 wl_2_88 (Or.inr ⟨_, rfl, h1⟩) dX7_fillLeaves_2 (fun H locs hG hS ku1 ru1 => ?_)
  refine lv_aload_n X.1 X.2.1 dX7_fillLeaves_5 rfl (lv_at hl 0 rfl) ?_
  refine lv_iload_n X.1 X.2.1 dX7_fillLeaves_6 rfl (lv_at hl 3 rfl) ?_
  refine pf_X7_5 X hK hG hS h0 wl_2_89 ⟨_, rfl, (iv_top _)⟩ dX7_fillLeaves_7 (fun H locs hG hS ku2 ru2 => ?_)
  refine lv_aload_n X.1 X.2.1 dX7_fillLeaves_10 rfl (lv_at hl 0 rfl) ?_
  refine lv_iload X.1 X.2.1 dX7_fillLeaves_11 (lv_at hl 4 rfl) ?_
  refine pf_X7_6 X hK hG hS h0 wl_2_90 ⟨_, rfl, (iv_top _)⟩ dX7_fillLeaves_13 (fun H locs hG hS ku3 ru3 => ?_)
  refine lv_aload_n X.1 X.2.1 dX7_fillLeaves_16 rfl (lv_at hl 0 rfl) ?_
  refine lv_iconst (v := 0) X.1 X.2.1 dX7_fillLeaves_17 (by decide +kernel) ?_
  refine pf_X7_7 X hK hG hS h0 wl_2_91 ⟨_, rfl, (iv_top _)⟩ dX7_fillLeaves_18 (fun H locs hG hS ku4 ru4 => ?_)
  refine lv_aload_n X.1 X.2.1 dX7_fillLeaves_21 rfl (lv_at hl 0 rfl) ?_
  refine lv_iconst (v := (-1)) X.1 X.2.1 dX7_fillLeaves_22 (by decide +kernel) ?_
  refine pf_X7_8 X hK hG hS h0 wl_2_93 ⟨_, rfl, (iv_top _)⟩ dX7_fillLeaves_23 (fun H locs hG hS ku5 ru5 => ?_)
  refine lv_aload_n X.1 X.2.1 dX7_fillLeaves_26 rfl (lv_at hl 0 rfl) ?_
  refine gf_X7_1 X hK hG h0 wl_2_85 dX7_fillLeaves_27 (fun q6 hq6 kq6 => ?_)
  refine lv_iconst (v := 0) X.1 X.2.1 dX7_fillLeaves_30 (by decide +kernel) ?_
  refine al_33 X hK hG hq6 (iv_vpin (iv_c 0 (a := 0) (b := 0) (by decide +kernel)) (by decide +kernel)) dX7_fillLeaves_31 (fun q7 hq7 => ?_)
  refine lv_aload_n X.1 X.2.1 dX7_fillLeaves_32 rfl (lv_at hl 2 rfl) ?_
  refine ca_X9_takeFrom X hK hG hC hS hb q7 hq7 a2 h2 wl_5_33 hl.1 (rest := []) rfl (Nat.le_of_ble_eq_true rfl) ⟨Nat.le_of_ble_eq_true rfl, Nat.le_of_ble_eq_true rfl⟩ ⟨Nat.le_of_ble_eq_true rfl, Nat.le_of_ble_eq_true rfl⟩ dX7_fillLeaves_33 (fun H locs hG hS => ?_)
  refine lv_aload_n X.1 X.2.1 dX7_fillLeaves_36 rfl (lv_at hl 0 rfl) ?_
  refine ca_X7_lookOn X hK hG hC hS hb a0 h0 wl_5_65 hl.1 (rest := []) rfl (Nat.le_of_ble_eq_true rfl) ⟨Nat.le_of_ble_eq_true rfl, Nat.le_of_ble_eq_true rfl⟩ ⟨Nat.le_of_ble_eq_true rfl, Nat.le_of_ble_eq_true rfl⟩ dX7_fillLeaves_37 (fun H locs hG hS => ?_)
  refine lv_aload_n X.1 X.2.1 dX7_fillLeaves_40 rfl (lv_at hl 0 rfl) ?_
  refine lv_iconst (v := 0) X.1 X.2.1 dX7_fillLeaves_41 (by decide +kernel) ?_
  refine lv_iconst (v := 0) X.1 X.2.1 dX7_fillLeaves_42 (by decide +kernel) ?_
  refine lv_iconst (v := 0) X.1 X.2.1 dX7_fillLeaves_43 (by decide +kernel) ?_
  refine ca_X7_search_0 X hK hG hC hS hb a0 h0 0 (iv_of (iv_c 0 (a := 0) (b := 0) (by decide +kernel)) (a' := 0) (b' := 16) (by decide +kernel)) 0 (iv_c 0 (a := 0) (b := 0) (by decide +kernel)) 0 wl_5_69 hl.1 (rest := []) rfl (Nat.le_of_ble_eq_true rfl) ⟨Nat.le_of_ble_eq_true rfl, Nat.le_of_ble_eq_true rfl⟩ ⟨Nat.le_of_ble_eq_true rfl, Nat.le_of_ble_eq_true rfl⟩ dX7_fillLeaves_44 (fun H locs hG hS => ?_)
  exact sg_vret X hr hlk hb hK hC hG hS dX7_fillLeaves_47

theorem ca_X7_fillLeaves   (X : CallFix p m c cc nL s args sg_tbl own) (hK : va_K D vwCl tys s) (hG : sgG (KT P) D vwCl (fun q : Nat => base ≤ q) tys ad ks H) (hC : sgC base s) (hS : va_S (fun q : Nat => base ≤ q) s.heap H locs) (hb : base ≤ s.heap.size) (a0 : Nat) (h0 : isK ad ks 7 a0) (a1 : Nat) (h1 : isK ad ks 3 a1) (a2 : Nat) (h2 : isK ad ks 9 a2) (x3 : Int32) (x4 : Int32) (hl : Cond.methodLink own index yX7_fillLeaves ∈ sg_tbl) (hsize : ls.size = nL) (hst : st0 = [.ref a1, .ref a2, .int x3, .int x4].reverse ++ .ref a0 :: rest) (hW : (rest.map fun v => v.category).sum ≤ 8) (hR : 14 ≤ R.frames ∧ 359 ≤ R.locals) (hf : cells ≤ R.cells ∧ slots ≤ R.slots) (hdg : decode cc pc = .ok (.invokevirtual index, 3)) (kk : ∀ (H1 : Heap) (locs1 : List Loc), sgG (KT P) D vwCl (fun q : Nat => base ≤ q) tys ad ks H1 → va_S (fun q : Nat => base ≤ q) s.heap H1 locs1 → W p l e R s m args below meth c H1 locs1 cells slots Q (F0 m (pc + 3) ls rest)) : W p l e R s m args below meth c H locs cells slots Q (F0 m pc ls st0) :=
  sg_callVv X hK hG hC hS hb (m_X7_fillLeaves l a0 h0 a1 h1 a2 h2 x3 x4) h0 (k := 7) (ci := 7) rfl (C := RX7) (T := TX7) (N := 9) rfl wl_5_64 wl_1_9 wl_5_62 wl_5_63 (n := 4) (by decide +kernel) rfl rfl rfl hl hsize hst hW hR hf hdg kk

set_option maxHeartbeats 8000000 in
set_option maxRecDepth 100000 in
theorem m_X0_partsWon_0 (l : Launch) {D : va_G} {base : Nat} {tys : List (ClassId × FieldType)} {ad ks : List Nat} {P : sgPm} (a0 : Nat) (h0 : isK ad ks 0 a0) (x1 : Int32) (x2 : Int32) (x3 : Int32) (h3 : iv (-2147483648) 0 x3) (x4 : Int64) : sgMl l (KT P) D vwCl base tys ad ks yX0_partsWon cX0_partsWon 22 (some .long) ({ frames := 0, cells := 0, slots := 0, locals := 0 }) [.ref a0, .int x1, .int x2, .int x3, .long x4] (fun _ : Int64 => True) := by
  refine sg_ofW (by decide +kernel) (Nat.le_of_ble_eq_true rfl) (fun p e s m below meth c X hr hlk hb hK hC hG ls hl => ?_)
  have hS : va_S (fun q : Nat => base ≤ q) s.heap s.heap [] := va_S.rf
  have hl : lv_has ls 22 [(0, .ref a0), (1, .int x1), (2, .int x2), (3, .int x3), (4, .long x4)] := hl
  refine lv_iload_n X.1 X.2.1 dX0_partsWon_0 rfl (lv_at hl 3 rfl) ?_
  refine lv_iconst (v := 1) X.1 X.2.1 dX0_partsWon_1 (by decide +kernel) ?_
  refine lv_icmp_lt (tgt := 12) X.1 X.2.1 dX0_partsWon_2 (by decide) (fun c1 => ?_) (fun c1 => ?_)
  · refine lv_lconst (v := 0) X.1 X.2.1 dX0_partsWon_12 (by decide +kernel) ?_
    exact sg_lret X hr hlk hb hK hC hG hS trivial dX0_partsWon_13
  · exact ((iv_no (iv_le (b' := 0) (iv_ge_of c1) (iv_c 1 (a := 1) (b := 1) (by decide +kernel)) h3 (by decide +kernel)) (by decide +kernel))).elim

theorem ca_X0_partsWon_0   (X : CallFix p m c cc nL s args sg_tbl own) (hK : va_K D vwCl tys s) (hG : sgG (KT P) D vwCl (fun q : Nat => base ≤ q) tys ad ks H) (hC : sgC base s) (hS : va_S (fun q : Nat => base ≤ q) s.heap H locs) (hb : base ≤ s.heap.size) (a0 : Nat) (h0 : isK ad ks 0 a0) (x1 : Int32) (x2 : Int32) (x3 : Int32) (h3 : iv (-2147483648) 0 x3) (x4 : Int64) (hl : Cond.methodLink own index yX0_partsWon ∈ sg_tbl) (hsize : ls.size = nL) (hst : st0 = [.int x1, .int x2, .int x3, .long x4].reverse ++ .ref a0 :: rest) (hW : (rest.map fun v => v.category).sum ≤ 8) (hR : 1 ≤ R.frames ∧ 41 ≤ R.locals) (hf : cells ≤ R.cells ∧ slots ≤ R.slots) (hdg : decode cc pc = .ok (.invokevirtual index, 3)) (kk : ∀ (r : Int64) (H1 : Heap) (locs1 : List Loc), (fun _ : Int64 => True) r → sgG (KT P) D vwCl (fun q : Nat => base ≤ q) tys ad ks H1 → va_S (fun q : Nat => base ≤ q) s.heap H1 locs1 → W p l e R s m args below meth c H1 locs1 cells slots Q (F0 m (pc + 3) ls (.long r :: rest))) : W p l e R s m args below meth c H locs cells slots Q (F0 m pc ls st0) :=
  sg_callVl X hK hG hC hS hb (m_X0_partsWon_0 l a0 h0 x1 x2 x3 h3 x4) h0 (k := 0) (ci := 0) rfl (C := RX0) (T := TX0) (N := 5) rfl wl_6_55 wl_1_10 wl_6_54 wl_0_46 (n := 4) (by decide +kernel) rfl rfl rfl hl hsize hst hW hR hf hdg kk

set_option maxHeartbeats 8000000 in
set_option maxRecDepth 100000 in
theorem m_X0_partsWon_1 (l : Launch) {D : va_G} {base : Nat} {tys : List (ClassId × FieldType)} {ad ks : List Nat} {P : sgPm} (a0 : Nat) (h0 : isK ad ks 0 a0) (x1 : Int32) (x2 : Int32) (x3 : Int32) (h3 : iv (-2147483648) 1 x3) (x4 : Int64) : sgMl l (KT P) D vwCl base tys ad ks yX0_partsWon cX0_partsWon 22 (some .long) ({ frames := 5, cells := 0, slots := 0, locals := 129 }) [.ref a0, .int x1, .int x2, .int x3, .long x4] (fun _ : Int64 => True) := by
  refine sg_ofW (by decide +kernel) (Nat.le_of_ble_eq_true rfl) (fun p e s m below meth c X hr hlk hb hK hC hG ls hl => ?_)
  have hS : va_S (fun q : Nat => base ≤ q) s.heap s.heap [] := va_S.rf
  have hl : lv_has ls 22 [(0, .ref a0), (1, .int x1), (2, .int x2), (3, .int x3), (4, .long x4)] := hl
  refine lv_iload_n X.1 X.2.1 dX0_partsWon_0 rfl (lv_at hl 3 rfl) ?_
  refine lv_iconst (v := 1) X.1 X.2.1 dX0_partsWon_1 (by decide +kernel) ?_
  refine lv_icmp_lt (tgt := 12) X.1 X.2.1 dX0_partsWon_2 (by decide) (fun c1 => ?_) (fun c1 => ?_)
  · refine lv_lconst (v := 0) X.1 X.2.1 dX0_partsWon_12 (by decide +kernel) ?_
    exact sg_lret X hr hlk hb hK hC hG hS trivial dX0_partsWon_13
  · refine lv_lload X.1 X.2.1 dX0_partsWon_5 (lv_at hl 4 rfl) ?_
    refine lv_lconst (v := 0) X.1 X.2.1 dX0_partsWon_7 (by decide +kernel) ?_
    refine W.lcmp X.1 X.2.1 dX0_partsWon_8 ?_
    refine lv_topi (fun f2 ef2 => ?_)
    refine lv_if_ne (tgt := 14) X.1 X.2.1 dX0_partsWon_9 (by decide) (fun c3 => ?_) (fun c3 => ?_)
    · refine lv_aload_n X.1 X.2.1 dX0_partsWon_14 rfl (lv_at hl 0 rfl) ?_
      refine gf_X0_0 X hK hG h0 wl_2_120 dX0_partsWon_15 (fun q4 hq4 kq4 => ?_)
      refine gf_X8_0 X hK hG hq4 wl_2_38 dX0_partsWon_18 (fun q5 hq5 kq5 => ?_)
      refine lv_iload_n X.1 X.2.1 dX0_partsWon_21 rfl (lv_at hl 1 rfl) ?_
      refine ca_X4_winners X hK hG hC (fun _ h => h) hS hb q5 hq5 x1 wl_6_56 hl.1 (rest := []) rfl (Nat.le_of_ble_eq_true rfl) ⟨Nat.le_of_ble_eq_true rfl, Nat.le_of_ble_eq_true rfl⟩ ⟨Nat.le_of_ble_eq_true rfl, Nat.le_of_ble_eq_true rfl⟩ dX0_partsWon_22 (fun f6 locs hf6 hS => ?_)
      refine lv_istore (lv' := [(6, .int f6), (0, .ref a0), (1, .int x1), (2, .int x2), (3, .int x3), (4, .long x4)]) X.1 X.2.1 dX0_partsWon_25 hl (by decide) rfl (fun ls hl => ?_)
      refine lv_iload_n X.1 X.2.1 dX0_partsWon_27 rfl (lv_at hl 4 rfl) ?_
      refine lv_iconst (v := 1) X.1 X.2.1 dX0_partsWon_28 (by decide +kernel) ?_
      have B8_47 : ∀ (locs : List Loc) (ls : Array Slot) (w8_0 : Int32), va_S (fun q : Nat => base ≤ q) s.heap s.heap locs → lv_has ls 22 [(0, .ref a0), (1, .int x1), (2, .int x2), (3, .int x3), (4, .long x4), (6, .int f6)] → W p l e (headSpec (Cond.code yX0_partsWon cX0_partsWon 22 (some .long) :: sg_tbl) ({ frames := 5, cells := 0, slots := 0, locals := 129 })).room s m #[.ref a0, .int x1, .int x2, .int x3, .long x4] below meth c s.heap locs 0 0 (MQ below (va_Ql (fun r (_ : Unit) => (fun _ : Int64 => True) r) (fun _ => sgB (KT P) D vwCl base tys ad ks) (fun q : Nat => base ≤ q)) #[.ref a0, .int x1, .int x2, .int x3, .long x4] s 0 0 (fun q : Nat => base ≤ q)) (F0 m 47 ls [.int w8_0]) := by
        intro locs ls w8_0 hS hl
        refine lv_istore (lv' := [(7, .int w8_0), (0, .ref a0), (1, .int x1), (2, .int x2), (3, .int x3), (4, .long x4), (6, .int f6)]) X.1 X.2.1 dX0_partsWon_47 hl (by decide) rfl (fun ls hl => ?_)
        refine lv_iload X.1 X.2.1 dX0_partsWon_49 (lv_at hl 0 rfl) ?_
        refine lv_if_ne (tgt := 56) X.1 X.2.1 dX0_partsWon_51 (by decide) (fun c9 => ?_) (fun c9 => ?_)
        · refine lv_aload_n X.1 X.2.1 dX0_partsWon_56 rfl (lv_at hl 1 rfl) ?_
          refine gg_X0_0 X hK hG h0 wl_2_120 kq4 dX0_partsWon_57 ?_
          refine lv_iload_n X.1 X.2.1 dX0_partsWon_60 rfl (lv_at hl 2 rfl) ?_
          refine lv_aload_n X.1 X.2.1 dX0_partsWon_61 rfl (lv_at hl 1 rfl) ?_
          refine gf_X0_1 X hK hG h0 wl_2_121 dX0_partsWon_62 (fun f10 hf10 kf10 => ?_)
          refine lv_iload_n X.1 X.2.1 dX0_partsWon_65 rfl (lv_at hl 3 rfl) ?_
          refine ca_X8_growing X hK hG hC hS hb q4 hq4 x1 f10 x2 wl_5_121 hl.1 (rest := []) rfl (Nat.le_of_ble_eq_true rfl) ⟨Nat.le_of_ble_eq_true rfl, Nat.le_of_ble_eq_true rfl⟩ ⟨Nat.le_of_ble_eq_true rfl, Nat.le_of_ble_eq_true rfl⟩ dX0_partsWon_66 (fun f11 H locs hf11 hG hS => ?_)
          refine lv_istore (lv' := [(8, .int f11), (7, .int w8_0), (0, .ref a0), (1, .int x1), (2, .int x2), (3, .int x3), (4, .long x4), (6, .int f6)]) X.1 X.2.1 dX0_partsWon_69 hl (by decide) rfl (fun ls hl => ?_)
          refine lv_iload X.1 X.2.1 dX0_partsWon_71 (lv_at hl 0 rfl) ?_
          refine ca_J6_bitCount_0f7a4 X hK hG hC (fun _ h => h) hS hb f11 wl_4_232 hl.1 (rest := []) rfl (Nat.le_of_ble_eq_true rfl) ⟨Nat.le_of_ble_eq_true rfl, Nat.le_of_ble_eq_true rfl⟩ ⟨Nat.le_of_ble_eq_true rfl, Nat.le_of_ble_eq_true rfl⟩ dX0_partsWon_73 (fun f12 locs hf12 hS => ?_)
          refine lv_istore (lv' := [(9, .int f12), (8, .int f11), (7, .int w8_0), (0, .ref a0), (1, .int x1), (2, .int x2), (3, .int x3), (4, .long x4), (6, .int f6)]) X.1 X.2.1 dX0_partsWon_76 hl (by decide) rfl (fun ls hl => ?_)
          refine lv_iload X.1 X.2.1 dX0_partsWon_78 (lv_at hl 0 rfl) ?_
          refine lv_if_ne (tgt := 97) X.1 X.2.1 dX0_partsWon_80 (by decide) (fun c13 => ?_) (fun c13 => ?_)
          · refine lv_lload X.1 X.2.1 dX0_partsWon_97 (lv_at hl 7 rfl) ?_
            refine lv_aload_n X.1 X.2.1 dX0_partsWon_99 rfl (lv_at hl 3 rfl) ?_
            refine gf_X0_2 X hK hG h0 wl_2_122 dX0_partsWon_100 (fun f14 hf14 kf14 => ?_)
            obtain ⟨g15, eg15⟩ : ∃ y : Int64, y = (f14 : Int32).toInt64 := ⟨_, rfl⟩
            refine lv_i2l (v := g15) X.1 X.2.1 dX0_partsWon_103 eg15.symm ?_
            refine lv_lmul X.1 X.2.1 dX0_partsWon_104 ?_
            refine lv_topl (fun g16 eg16 => ?_)
            refine lv_ldc2 X.1 X.2.1 X.2.2.2.1 (X.2.2.2.2 _ wl_6_57) dX0_partsWon_105 ?_
            refine lv_ldiv X.1 X.2.1 dX0_partsWon_108 (by decide +kernel) ?_
            refine lv_topl (fun g17 eg17 => ?_)
            refine lv_lstore (lv' := [(10, .long g17), (9, .int f12), (8, .int f11), (7, .int w8_0), (0, .ref a0), (1, .int x1), (2, .int x2), (3, .int x3), (4, .long x4), (6, .int f6)]) X.1 X.2.1 dX0_partsWon_109 hl (by decide) rfl (fun ls hl => ?_)
            refine lv_lload X.1 X.2.1 dX0_partsWon_111 (lv_at hl 8 rfl) ?_
            refine lv_lload X.1 X.2.1 dX0_partsWon_113 (lv_at hl 0 rfl) ?_
            refine lv_lsub X.1 X.2.1 dX0_partsWon_115 ?_
            refine lv_topl (fun g18 eg18 => ?_)
            refine lv_iload X.1 X.2.1 dX0_partsWon_116 (lv_at hl 1 rfl) ?_
            obtain ⟨g19, eg19⟩ : ∃ y : Int64, y = (f12 : Int32).toInt64 := ⟨_, rfl⟩
            refine lv_i2l (v := g19) X.1 X.2.1 dX0_partsWon_118 eg19.symm ?_
            refine lv_ldiv X.1 X.2.1 dX0_partsWon_119 (sg_i2l_ne0 eg19 (iv_ne0 (iv_ne_lo (a' := 1) c13 hf12 (by decide +kernel)) (by decide +kernel))) ?_
            refine lv_topl (fun g20 eg20 => ?_)
            refine lv_lstore (lv' := [(12, .long g20), (10, .long g17), (9, .int f12), (8, .int f11), (7, .int w8_0), (0, .ref a0), (1, .int x1), (2, .int x2), (3, .int x3), (4, .long x4), (6, .int f6)]) X.1 X.2.1 dX0_partsWon_120 hl (by decide) rfl (fun ls hl => ?_)
            refine lv_lload X.1 X.2.1 dX0_partsWon_122 (lv_at hl 9 rfl) ?_
            refine lv_lload X.1 X.2.1 dX0_partsWon_124 (lv_at hl 1 rfl) ?_
            refine lv_lsub X.1 X.2.1 dX0_partsWon_126 ?_
            refine lv_topl (fun g21 eg21 => ?_)
            refine lv_lload X.1 X.2.1 dX0_partsWon_127 (lv_at hl 0 rfl) ?_
            refine lv_iload X.1 X.2.1 dX0_partsWon_129 (lv_at hl 2 rfl) ?_
            refine lv_iconst (v := 1) X.1 X.2.1 dX0_partsWon_131 (by decide +kernel) ?_
            refine lv_isub X.1 X.2.1 dX0_partsWon_132 ?_
            refine lv_topi (fun f22 ef22 => ?_)
            obtain ⟨g23, eg23⟩ : ∃ y : Int64, y = (f22 : Int32).toInt64 := ⟨_, rfl⟩
            refine lv_i2l (v := g23) X.1 X.2.1 dX0_partsWon_133 eg23.symm ?_
            refine lv_lmul X.1 X.2.1 dX0_partsWon_134 ?_
            refine lv_topl (fun g24 eg24 => ?_)
            refine lv_lsub X.1 X.2.1 dX0_partsWon_135 ?_
            refine lv_topl (fun g25 eg25 => ?_)
            refine lv_lstore (lv' := [(14, .long g25), (12, .long g20), (10, .long g17), (9, .int f12), (8, .int f11), (7, .int w8_0), (0, .ref a0), (1, .int x1), (2, .int x2), (3, .int x3), (4, .long x4), (6, .int f6)]) X.1 X.2.1 dX0_partsWon_136 hl (by decide) rfl (fun ls hl => ?_)
            refine lv_aload_n X.1 X.2.1 dX0_partsWon_138 rfl (lv_at hl 6 rfl) ?_
            refine lv_iload_n X.1 X.2.1 dX0_partsWon_139 rfl (lv_at hl 7 rfl) ?_
            refine lv_iload_n X.1 X.2.1 dX0_partsWon_140 rfl (lv_at hl 8 rfl) ?_
            refine lv_iconst (v := 1) X.1 X.2.1 dX0_partsWon_141 (by decide +kernel) ?_
            refine lv_iadd X.1 X.2.1 dX0_partsWon_142 ?_
            refine lv_topi (fun f26 ef26 => ?_)
            refine lv_iload_n X.1 X.2.1 dX0_partsWon_143 rfl (lv_at hl 9 rfl) ?_
            refine lv_iconst (v := 1) X.1 X.2.1 dX0_partsWon_144 (by decide +kernel) ?_
            refine lv_isub X.1 X.2.1 dX0_partsWon_145 ?_
            refine lv_topi (fun f27 ef27 => ?_)
            refine lv_lload X.1 X.2.1 dX0_partsWon_146 (lv_at hl 2 rfl) ?_
            refine ca_X0_partsWon_0 X hK hG hC hS hb a0 h0 x1 f26 f27 (iv_of (iv_sub (a' := 0) (b' := 0) ef27 (iv_ler (c' := 1) (iv_ge_of c1) (iv_c 1 (a := 1) (b := 1) (by decide +kernel)) h3 (by decide +kernel)) (iv_c 1 (a := 1) (b := 1) (by decide +kernel)) (by decide +kernel)) (a' := (-2147483648)) (b' := 0) (by decide +kernel)) g17 wl_6_52 hl.1 (rest := []) rfl (Nat.le_of_ble_eq_true rfl) ⟨Nat.le_of_ble_eq_true rfl, Nat.le_of_ble_eq_true rfl⟩ ⟨Nat.le_of_ble_eq_true rfl, Nat.le_of_ble_eq_true rfl⟩ dX0_partsWon_148 (fun g28 H locs hg28 hG hS => ?_)
            refine lv_lstore (lv' := [(16, .long g28), (14, .long g25), (12, .long g20), (10, .long g17), (9, .int f12), (8, .int f11), (7, .int w8_0), (0, .ref a0), (1, .int x1), (2, .int x2), (3, .int x3), (4, .long x4), (6, .int f6)]) X.1 X.2.1 dX0_partsWon_151 hl (by decide) rfl (fun ls hl => ?_)
            refine lv_iconst (v := 0) X.1 X.2.1 dX0_partsWon_153 (by decide +kernel) ?_
            refine lv_istore (lv' := [(18, .int 0), (16, .long g28), (14, .long g25), (12, .long g20), (10, .long g17), (9, .int f12), (8, .int f11), (7, .int w8_0), (0, .ref a0), (1, .int x1), (2, .int x2), (3, .int x3), (4, .long x4), (6, .int f6)]) X.1 X.2.1 dX0_partsWon_154 hl (by decide) rfl (fun ls hl => ?_)
            have B29_156 : ∀ (N : Nat) (H : Heap) (locs : List Loc) (ls : Array Slot) (z29_16 : Int64) (z29_18 : Int32), sgG (KT P) D vwCl (fun q : Nat => base ≤ q) tys ad ks H → va_S (fun q : Nat => base ≤ q) s.heap H locs → lv_has ls 22 [(0, .ref a0), (1, .int x1), (2, .int x2), (3, .int x3), (6, .int f6), (7, .int w8_0), (8, .int f11), (12, .long g20), (14, .long g25), (16, .long z29_16), (18, .int z29_18)] → iv 0 30 z29_18 → (31 - z29_18.toInt).toNat ≤ N → W p l e (headSpec (Cond.code yX0_partsWon cX0_partsWon 22 (some .long) :: sg_tbl) ({ frames := 5, cells := 0, slots := 0, locals := 129 })).room s m #[.ref a0, .int x1, .int x2, .int x3, .long x4] below meth c H locs 0 0 (MQ below (va_Ql (fun r (_ : Unit) => (fun _ : Int64 => True) r) (fun _ => sgB (KT P) D vwCl base tys ad ks) (fun q : Nat => base ≤ q)) #[.ref a0, .int x1, .int x2, .int x3, .long x4] s 0 0 (fun q : Nat => base ≤ q)) (F0 m 156 ls []) := by
              intro N; induction N with
              | zero =>
                intro H locs ls z29_16 z29_18 hG hS hl hz29_18 hN
                exact absurd hN (by have := iv_up hz29_18; omega)
              | succ N ih29 =>
                intro H locs ls z29_16 z29_18 hG hS hl hz29_18 hN29
                refine lv_iload X.1 X.2.1 dX0_partsWon_156 (lv_at hl 10 rfl) ?_
                refine lv_aload_n X.1 X.2.1 dX0_partsWon_158 rfl (lv_at hl 0 rfl) ?_
                refine gf_X0_0 X hK hG h0 wl_2_120 dX0_partsWon_159 (fun q30 hq30 kq30 => ?_)
                refine gf_X8_0 X hK hG hq30 wl_2_38 dX0_partsWon_162 (fun q31 hq31 kq31 => ?_)
                refine gf_X4_5 X hK hG hq31 wl_1_219 dX0_partsWon_165 (fun f32 hf32 kf32 => ?_)
                refine lv_icmp_ge (tgt := 258) X.1 X.2.1 dX0_partsWon_168 (by decide) (fun c33 => ?_) (fun c33 => ?_)
                · refine lv_lload X.1 X.2.1 dX0_partsWon_258 (lv_at hl 9 rfl) ?_
                  exact sg_lret X hr hlk hb hK hC hG hS trivial dX0_partsWon_260
                · refine lv_iload X.1 X.2.1 dX0_partsWon_171 (lv_at hl 6 rfl) ?_
                  refine lv_iload X.1 X.2.1 dX0_partsWon_173 (lv_at hl 5 rfl) ?_
                  refine lv_iand X.1 X.2.1 dX0_partsWon_175 ?_
                  refine lv_topi (fun f34 ef34 => ?_)
                  refine lv_iconst (v := 1) X.1 X.2.1 dX0_partsWon_176 (by decide +kernel) ?_
                  refine lv_iload X.1 X.2.1 dX0_partsWon_177 (lv_at hl 10 rfl) ?_
                  refine lv_ishl X.1 X.2.1 dX0_partsWon_179 ?_
                  refine lv_topi (fun f35 ef35 => ?_)
                  refine lv_iand X.1 X.2.1 dX0_partsWon_180 ?_
                  refine lv_topi (fun f36 ef36 => ?_)
                  have B38_252 : ∀ (H : Heap) (locs : List Loc) (ls : Array Slot) (z38_16 : Int64), sgG (KT P) D vwCl (fun q : Nat => base ≤ q) tys ad ks H → va_S (fun q : Nat => base ≤ q) s.heap H locs → lv_has ls 22 [(0, .ref a0), (1, .int x1), (2, .int x2), (3, .int x3), (6, .int f6), (7, .int w8_0), (8, .int f11), (12, .long g20), (14, .long g25), (16, .long z38_16), (18, .int z29_18)] → W p l e (headSpec (Cond.code yX0_partsWon cX0_partsWon 22 (some .long) :: sg_tbl) ({ frames := 5, cells := 0, slots := 0, locals := 129 })).room s m #[.ref a0, .int x1, .int x2, .int x3, .long x4] below meth c H locs 0 0 (MQ below (va_Ql (fun r (_ : Unit) => (fun _ : Int64 => True) r) (fun _ => sgB (KT P) D vwCl base tys ad ks) (fun q : Nat => base ≤ q)) #[.ref a0, .int x1, .int x2, .int x3, .long x4] s 0 0 (fun q : Nat => base ≤ q)) (F0 m 252 ls []) := by
                    intro H locs ls z38_16 hG hS hl
                    obtain ⟨y39, ey39⟩ : ∃ y : Int32, y = z29_18 + Int32.ofInt 1 := ⟨_, rfl⟩
                    refine lv_iinc (v := y39) (lv' := [(18, .int y39), (0, .ref a0), (1, .int x1), (2, .int x2), (3, .int x3), (6, .int f6), (7, .int w8_0), (8, .int f11), (12, .long g20), (14, .long g25), (16, .long z38_16)]) X.1 X.2.1 dX0_partsWon_252 hl (k := 10) rfl ey39.symm (by decide) rfl (fun ls hl => ?_)
                    refine lv_goto (tgt := 156) X.1 X.2.1 dX0_partsWon_255 (by decide) ?_
                    exact ih29 H _ _ z38_16 y39 hG hS (lv_sub hl [1, 2, 3, 4, 5, 6, 7, 8, 9, 10, 0] rfl) (iv_of (iv_add (a' := 1) (b' := 30) ey39 (iv_lt (b' := 29) (iv_gt_of c33) hz29_18 hf32 (by decide +kernel)) (iv_c _ (a := 1) (b := 1) (by decide +kernel)) (by decide +kernel)) (a' := 0) (b' := 30) (by decide +kernel)) (iv_stepU ey39 (iv_lt (b' := 29) (iv_gt_of c33) hz29_18 hf32 (by decide +kernel)) (by decide +kernel) hN29)
                  refine lv_if_eq (tgt := 252) X.1 X.2.1 dX0_partsWon_181 (by decide) (fun c37 => ?_) (fun c37 => ?_)
                  · exact B38_252 H _ _ z29_16 hG hS (lv_sub hl [0, 1, 2, 3, 4, 5, 6, 7, 8, 9, 10] rfl)
                  · refine lv_iload X.1 X.2.1 dX0_partsWon_184 (lv_at hl 6 rfl) ?_
                    refine lv_iload X.1 X.2.1 dX0_partsWon_186 (lv_at hl 10 rfl) ?_
                    refine lv_ishr X.1 X.2.1 dX0_partsWon_188 ?_
                    refine lv_topi (fun f40 ef40 => ?_)
                    refine lv_iconst (v := 1) X.1 X.2.1 dX0_partsWon_189 (by decide +kernel) ?_
                    have B42_200 : ∀ (locs : List Loc) (ls : Array Slot) (w42_0 : Int64), va_S (fun q : Nat => base ≤ q) s.heap H locs → lv_has ls 22 [(0, .ref a0), (1, .int x1), (2, .int x2), (3, .int x3), (6, .int f6), (7, .int w8_0), (8, .int f11), (12, .long g20), (14, .long g25), (16, .long z29_16), (18, .int z29_18)] → W p l e (headSpec (Cond.code yX0_partsWon cX0_partsWon 22 (some .long) :: sg_tbl) ({ frames := 5, cells := 0, slots := 0, locals := 129 })).room s m #[.ref a0, .int x1, .int x2, .int x3, .long x4] below meth c H locs 0 0 (MQ below (va_Ql (fun r (_ : Unit) => (fun _ : Int64 => True) r) (fun _ => sgB (KT P) D vwCl base tys ad ks) (fun q : Nat => base ≤ q)) #[.ref a0, .int x1, .int x2, .int x3, .long x4] s 0 0 (fun q : Nat => base ≤ q)) (F0 m 200 ls [.long w42_0]) := by
                      intro locs ls w42_0 hS hl
                      refine lv_lstore (lv' := [(19, .long w42_0), (0, .ref a0), (1, .int x1), (2, .int x2), (3, .int x3), (6, .int f6), (7, .int w8_0), (8, .int f11), (12, .long g20), (14, .long g25), (16, .long z29_16), (18, .int z29_18)]) X.1 X.2.1 dX0_partsWon_200 hl (by decide) rfl (fun ls hl => ?_)
                      refine lv_iload X.1 X.2.1 dX0_partsWon_202 (lv_at hl 5 rfl) ?_
                      refine lv_iload X.1 X.2.1 dX0_partsWon_204 (lv_at hl 11 rfl) ?_
                      refine lv_ishr X.1 X.2.1 dX0_partsWon_206 ?_
                      refine lv_topi (fun f43 ef43 => ?_)
                      refine lv_iconst (v := 1) X.1 X.2.1 dX0_partsWon_207 (by decide +kernel) ?_
                      refine lv_iand X.1 X.2.1 dX0_partsWon_208 ?_
                      refine lv_topi (fun f44 ef44 => ?_)
                      have B46_217 : ∀ (locs : List Loc) (ls : Array Slot) (w46_0 : Int32), va_S (fun q : Nat => base ≤ q) s.heap H locs → lv_has ls 22 [(0, .ref a0), (1, .int x1), (2, .int x2), (3, .int x3), (6, .int f6), (7, .int w8_0), (8, .int f11), (12, .long g20), (14, .long g25), (16, .long z29_16), (18, .int z29_18), (19, .long w42_0)] → iv 0 1 w46_0 → W p l e (headSpec (Cond.code yX0_partsWon cX0_partsWon 22 (some .long) :: sg_tbl) ({ frames := 5, cells := 0, slots := 0, locals := 129 })).room s m #[.ref a0, .int x1, .int x2, .int x3, .long x4] below meth c H locs 0 0 (MQ below (va_Ql (fun r (_ : Unit) => (fun _ : Int64 => True) r) (fun _ => sgB (KT P) D vwCl base tys ad ks) (fun q : Nat => base ≤ q)) #[.ref a0, .int x1, .int x2, .int x3, .long x4] s 0 0 (fun q : Nat => base ≤ q)) (F0 m 217 ls [.int w46_0]) := by
                        intro locs ls w46_0 hS hl hw46_0
                        refine lv_istore (lv' := [(21, .int w46_0), (0, .ref a0), (1, .int x1), (2, .int x2), (3, .int x3), (6, .int f6), (7, .int w8_0), (8, .int f11), (12, .long g20), (14, .long g25), (16, .long z29_16), (18, .int z29_18), (19, .long w42_0)]) X.1 X.2.1 dX0_partsWon_217 hl (by decide) rfl (fun ls hl => ?_)
                        refine lv_lload X.1 X.2.1 dX0_partsWon_219 (lv_at hl 10 rfl) ?_
                        refine lv_iload X.1 X.2.1 dX0_partsWon_221 (lv_at hl 0 rfl) ?_
                        have B48_249 : ∀ (H : Heap) (locs : List Loc) (ls : Array Slot) (w48_0 : Int64), sgG (KT P) D vwCl (fun q : Nat => base ≤ q) tys ad ks H → va_S (fun q : Nat => base ≤ q) s.heap H locs → lv_has ls 22 [(0, .ref a0), (1, .int x1), (2, .int x2), (3, .int x3), (6, .int f6), (7, .int w8_0), (8, .int f11), (12, .long g20), (14, .long g25), (18, .int z29_18)] → W p l e (headSpec (Cond.code yX0_partsWon cX0_partsWon 22 (some .long) :: sg_tbl) ({ frames := 5, cells := 0, slots := 0, locals := 129 })).room s m #[.ref a0, .int x1, .int x2, .int x3, .long x4] below meth c H locs 0 0 (MQ below (va_Ql (fun r (_ : Unit) => (fun _ : Int64 => True) r) (fun _ => sgB (KT P) D vwCl base tys ad ks) (fun q : Nat => base ≤ q)) #[.ref a0, .int x1, .int x2, .int x3, .long x4] s 0 0 (fun q : Nat => base ≤ q)) (F0 m 249 ls [.long w48_0, .long z29_16]) := by
                          intro H locs ls w48_0 hG hS hl
                          refine lv_ladd X.1 X.2.1 dX0_partsWon_249 ?_
                          refine lv_topl (fun g49 eg49 => ?_)
                          refine lv_lstore (lv' := [(16, .long g49), (0, .ref a0), (1, .int x1), (2, .int x2), (3, .int x3), (6, .int f6), (7, .int w8_0), (8, .int f11), (12, .long g20), (14, .long g25), (18, .int z29_18)]) X.1 X.2.1 dX0_partsWon_250 hl (by decide) rfl (fun ls hl => ?_)
                          exact B38_252 H _ _ g49 hG hS (lv_sub hl [1, 2, 3, 4, 5, 6, 7, 8, 9, 0, 10] rfl)
                        refine lv_if_eq (tgt := 231) X.1 X.2.1 dX0_partsWon_223 (by decide) (fun c47 => ?_) (fun c47 => ?_)
                        · refine lv_aload_n X.1 X.2.1 dX0_partsWon_231 rfl (lv_at hl 1 rfl) ?_
                          refine lv_iload_n X.1 X.2.1 dX0_partsWon_232 rfl (lv_at hl 2 rfl) ?_
                          refine lv_iconst (v := 1) X.1 X.2.1 dX0_partsWon_233 (by decide +kernel) ?_
                          refine lv_iload X.1 X.2.1 dX0_partsWon_234 (lv_at hl 11 rfl) ?_
                          refine lv_ishl X.1 X.2.1 dX0_partsWon_236 ?_
                          refine lv_topi (fun f50 ef50 => ?_)
                          refine lv_ior X.1 X.2.1 dX0_partsWon_237 ?_
                          refine lv_topi (fun f51 ef51 => ?_)
                          refine lv_iload_n X.1 X.2.1 dX0_partsWon_238 rfl (lv_at hl 3 rfl) ?_
                          refine lv_iconst (v := 1) X.1 X.2.1 dX0_partsWon_239 (by decide +kernel) ?_
                          refine lv_iadd X.1 X.2.1 dX0_partsWon_240 ?_
                          refine lv_topi (fun f52 ef52 => ?_)
                          refine lv_iload_n X.1 X.2.1 dX0_partsWon_241 rfl (lv_at hl 4 rfl) ?_
                          refine lv_iconst (v := 1) X.1 X.2.1 dX0_partsWon_242 (by decide +kernel) ?_
                          refine lv_isub X.1 X.2.1 dX0_partsWon_243 ?_
                          refine lv_topi (fun f53 ef53 => ?_)
                          refine lv_lload X.1 X.2.1 dX0_partsWon_244 (lv_at hl 12 rfl) ?_
                          refine ca_X0_partsWon_0 X hK hG hC hS hb a0 h0 f51 f52 f53 (iv_of (iv_sub (a' := 0) (b' := 0) ef53 (iv_ler (c' := 1) (iv_ge_of c1) (iv_c 1 (a := 1) (b := 1) (by decide +kernel)) h3 (by decide +kernel)) (iv_c 1 (a := 1) (b := 1) (by decide +kernel)) (by decide +kernel)) (a' := (-2147483648)) (b' := 0) (by decide +kernel)) w42_0 wl_6_52 hl.1 (rest := [.long z29_16]) rfl (Nat.le_of_ble_eq_true rfl) ⟨Nat.le_of_ble_eq_true rfl, Nat.le_of_ble_eq_true rfl⟩ ⟨Nat.le_of_ble_eq_true rfl, Nat.le_of_ble_eq_true rfl⟩ dX0_partsWon_246 (fun g54 H locs hg54 hG hS => ?_)
                          exact B48_249 H _ _ g54 hG hS (lv_sub hl [1, 2, 3, 4, 5, 6, 7, 8, 9, 11] rfl)
                        · refine lv_lload X.1 X.2.1 dX0_partsWon_226 (lv_at hl 12 rfl) ?_
                          refine lv_goto (tgt := 249) X.1 X.2.1 dX0_partsWon_228 (by decide) ?_
                          exact B48_249 H _ _ w42_0 hG hS (lv_sub hl [1, 2, 3, 4, 5, 6, 7, 8, 9, 11] rfl)
                      refine lv_if_eq (tgt := 216) X.1 X.2.1 dX0_partsWon_209 (by decide) (fun c45 => ?_) (fun c45 => ?_)
                      · refine lv_iconst (v := 0) X.1 X.2.1 dX0_partsWon_216 (by decide +kernel) ?_
                        exact B46_217 _ _ 0 hS (lv_sub hl [1, 2, 3, 4, 5, 6, 7, 8, 9, 10, 11, 0] rfl) (iv_of (iv_c 0 (a := 0) (b := 0) (by decide +kernel)) (a' := 0) (b' := 1) (by decide +kernel))
                      · refine lv_iconst (v := 1) X.1 X.2.1 dX0_partsWon_212 (by decide +kernel) ?_
                        refine lv_goto (tgt := 217) X.1 X.2.1 dX0_partsWon_213 (by decide) ?_
                        exact B46_217 _ _ 1 hS (lv_sub hl [1, 2, 3, 4, 5, 6, 7, 8, 9, 10, 11, 0] rfl) (iv_of (iv_c 1 (a := 1) (b := 1) (by decide +kernel)) (a' := 0) (b' := 1) (by decide +kernel))
                    refine lv_icmp_ne (tgt := 198) X.1 X.2.1 dX0_partsWon_190 (by decide) (fun c41 => ?_) (fun c41 => ?_)
                    · refine lv_lload X.1 X.2.1 dX0_partsWon_198 (lv_at hl 7 rfl) ?_
                      exact B42_200 _ _ g20 hS (lv_sub hl [0, 1, 2, 3, 4, 5, 6, 7, 8, 9, 10] rfl)
                    · refine lv_lload X.1 X.2.1 dX0_partsWon_193 (lv_at hl 8 rfl) ?_
                      refine lv_goto (tgt := 200) X.1 X.2.1 dX0_partsWon_195 (by decide) ?_
                      exact B42_200 _ _ g25 hS (lv_sub hl [0, 1, 2, 3, 4, 5, 6, 7, 8, 9, 10] rfl)
            exact B29_156 _ H _ _ g28 0 hG hS (lv_sub hl [8, 9, 10, 11, 13, 7, 6, 3, 2, 1, 0] rfl) (iv_of (iv_c 0 (a := 0) (b := 0) (by decide +kernel)) (a' := 0) (b' := 30) (by decide +kernel)) (Nat.le_refl _)
          · refine lv_aload_n X.1 X.2.1 dX0_partsWon_83 rfl (lv_at hl 3 rfl) ?_
            refine lv_iload_n X.1 X.2.1 dX0_partsWon_84 rfl (lv_at hl 4 rfl) ?_
            refine lv_iload_n X.1 X.2.1 dX0_partsWon_85 rfl (lv_at hl 5 rfl) ?_
            refine lv_iconst (v := 1) X.1 X.2.1 dX0_partsWon_86 (by decide +kernel) ?_
            refine lv_iadd X.1 X.2.1 dX0_partsWon_87 ?_
            refine lv_topi (fun f55 ef55 => ?_)
            refine lv_iload_n X.1 X.2.1 dX0_partsWon_88 rfl (lv_at hl 6 rfl) ?_
            refine lv_iconst (v := 1) X.1 X.2.1 dX0_partsWon_89 (by decide +kernel) ?_
            refine lv_isub X.1 X.2.1 dX0_partsWon_90 ?_
            refine lv_topi (fun f56 ef56 => ?_)
            refine lv_lload X.1 X.2.1 dX0_partsWon_91 (lv_at hl 7 rfl) ?_
            refine ca_X0_partsWon_0 X hK hG hC hS hb a0 h0 x1 f55 f56 (iv_of (iv_sub (a' := 0) (b' := 0) ef56 (iv_ler (c' := 1) (iv_ge_of c1) (iv_c 1 (a := 1) (b := 1) (by decide +kernel)) h3 (by decide +kernel)) (iv_c 1 (a := 1) (b := 1) (by decide +kernel)) (by decide +kernel)) (a' := (-2147483648)) (b' := 0) (by decide +kernel)) x4 wl_6_52 hl.1 (rest := []) rfl (Nat.le_of_ble_eq_true rfl) ⟨Nat.le_of_ble_eq_true rfl, Nat.le_of_ble_eq_true rfl⟩ ⟨Nat.le_of_ble_eq_true rfl, Nat.le_of_ble_eq_true rfl⟩ dX0_partsWon_93 (fun g57 H locs hg57 hG hS => ?_)
            exact sg_lret X hr hlk hb hK hC hG hS trivial dX0_partsWon_96
        · refine lv_lconst (v := 0) X.1 X.2.1 dX0_partsWon_54 (by decide +kernel) ?_
          exact sg_lret X hr hlk hb hK hC hG hS trivial dX0_partsWon_55
      refine lv_icmp_ne (tgt := 37) X.1 X.2.1 dX0_partsWon_29 (by decide) (fun c7 => ?_) (fun c7 => ?_)
      · exact ((c7 (iv_one (iv_ler (c' := 1) (iv_ge_of c1) (iv_c 1 (a := 1) (b := 1) (by decide +kernel)) h3 (by decide +kernel)) (iv_c 1 (a := 1) (b := 1) (by decide +kernel)) (by decide +kernel)))).elim
      · refine lv_iload X.1 X.2.1 dX0_partsWon_32 (lv_at hl 0 rfl) ?_
        refine lv_goto (tgt := 47) X.1 X.2.1 dX0_partsWon_34 (by decide) ?_
        exact B8_47 _ _ f6 hS (lv_sub hl [1, 2, 3, 4, 5, 0] rfl)
    · refine lv_lconst (v := 0) X.1 X.2.1 dX0_partsWon_12 (by decide +kernel) ?_
      exact sg_lret X hr hlk hb hK hC hG hS trivial dX0_partsWon_13

theorem ca_X0_partsWon_1   (X : CallFix p m c cc nL s args sg_tbl own) (hK : va_K D vwCl tys s) (hG : sgG (KT P) D vwCl (fun q : Nat => base ≤ q) tys ad ks H) (hC : sgC base s) (hS : va_S (fun q : Nat => base ≤ q) s.heap H locs) (hb : base ≤ s.heap.size) (a0 : Nat) (h0 : isK ad ks 0 a0) (x1 : Int32) (x2 : Int32) (x3 : Int32) (h3 : iv (-2147483648) 1 x3) (x4 : Int64) (hl : Cond.methodLink own index yX0_partsWon ∈ sg_tbl) (hsize : ls.size = nL) (hst : st0 = [.int x1, .int x2, .int x3, .long x4].reverse ++ .ref a0 :: rest) (hW : (rest.map fun v => v.category).sum ≤ 8) (hR : 6 ≤ R.frames ∧ 170 ≤ R.locals) (hf : cells ≤ R.cells ∧ slots ≤ R.slots) (hdg : decode cc pc = .ok (.invokevirtual index, 3)) (kk : ∀ (r : Int64) (H1 : Heap) (locs1 : List Loc), (fun _ : Int64 => True) r → sgG (KT P) D vwCl (fun q : Nat => base ≤ q) tys ad ks H1 → va_S (fun q : Nat => base ≤ q) s.heap H1 locs1 → W p l e R s m args below meth c H1 locs1 cells slots Q (F0 m (pc + 3) ls (.long r :: rest))) : W p l e R s m args below meth c H locs cells slots Q (F0 m pc ls st0) :=
  sg_callVl X hK hG hC hS hb (m_X0_partsWon_1 l a0 h0 x1 x2 x3 h3 x4) h0 (k := 0) (ci := 0) rfl (C := RX0) (T := TX0) (N := 5) rfl wl_6_55 wl_1_10 wl_6_54 wl_0_46 (n := 4) (by decide +kernel) rfl rfl rfl hl hsize hst hW hR hf hdg kk

set_option maxHeartbeats 8000000 in
set_option maxRecDepth 100000 in
theorem m_X0_partsWon_2 (l : Launch) {D : va_G} {base : Nat} {tys : List (ClassId × FieldType)} {ad ks : List Nat} {P : sgPm} (a0 : Nat) (h0 : isK ad ks 0 a0) (x1 : Int32) (x2 : Int32) (x3 : Int32) (h3 : iv (-2147483648) 2 x3) (x4 : Int64) : sgMl l (KT P) D vwCl base tys ad ks yX0_partsWon cX0_partsWon 22 (some .long) ({ frames := 6, cells := 0, slots := 0, locals := 170 }) [.ref a0, .int x1, .int x2, .int x3, .long x4] (fun _ : Int64 => True) := by
  refine sg_ofW (by decide +kernel) (Nat.le_of_ble_eq_true rfl) (fun p e s m below meth c X hr hlk hb hK hC hG ls hl => ?_)
  have hS : va_S (fun q : Nat => base ≤ q) s.heap s.heap [] := va_S.rf
  have hl : lv_has ls 22 [(0, .ref a0), (1, .int x1), (2, .int x2), (3, .int x3), (4, .long x4)] := hl
  refine lv_iload_n X.1 X.2.1 dX0_partsWon_0 rfl (lv_at hl 3 rfl) ?_
  refine lv_iconst (v := 1) X.1 X.2.1 dX0_partsWon_1 (by decide +kernel) ?_
  refine lv_icmp_lt (tgt := 12) X.1 X.2.1 dX0_partsWon_2 (by decide) (fun c1 => ?_) (fun c1 => ?_)
  · refine lv_lconst (v := 0) X.1 X.2.1 dX0_partsWon_12 (by decide +kernel) ?_
    exact sg_lret X hr hlk hb hK hC hG hS trivial dX0_partsWon_13
  · refine lv_lload X.1 X.2.1 dX0_partsWon_5 (lv_at hl 4 rfl) ?_
    refine lv_lconst (v := 0) X.1 X.2.1 dX0_partsWon_7 (by decide +kernel) ?_
    refine W.lcmp X.1 X.2.1 dX0_partsWon_8 ?_
    refine lv_topi (fun f2 ef2 => ?_)
    refine lv_if_ne (tgt := 14) X.1 X.2.1 dX0_partsWon_9 (by decide) (fun c3 => ?_) (fun c3 => ?_)
    · refine lv_aload_n X.1 X.2.1 dX0_partsWon_14 rfl (lv_at hl 0 rfl) ?_
      refine gf_X0_0 X hK hG h0 wl_2_120 dX0_partsWon_15 (fun q4 hq4 kq4 => ?_)
      refine gf_X8_0 X hK hG hq4 wl_2_38 dX0_partsWon_18 (fun q5 hq5 kq5 => ?_)
      refine lv_iload_n X.1 X.2.1 dX0_partsWon_21 rfl (lv_at hl 1 rfl) ?_
      refine ca_X4_winners X hK hG hC (fun _ h => h) hS hb q5 hq5 x1 wl_6_56 hl.1 (rest := []) rfl (Nat.le_of_ble_eq_true rfl) ⟨Nat.le_of_ble_eq_true rfl, Nat.le_of_ble_eq_true rfl⟩ ⟨Nat.le_of_ble_eq_true rfl, Nat.le_of_ble_eq_true rfl⟩ dX0_partsWon_22 (fun f6 locs hf6 hS => ?_)
      refine lv_istore (lv' := [(6, .int f6), (0, .ref a0), (1, .int x1), (2, .int x2), (3, .int x3), (4, .long x4)]) X.1 X.2.1 dX0_partsWon_25 hl (by decide) rfl (fun ls hl => ?_)
      refine lv_iload_n X.1 X.2.1 dX0_partsWon_27 rfl (lv_at hl 4 rfl) ?_
      refine lv_iconst (v := 1) X.1 X.2.1 dX0_partsWon_28 (by decide +kernel) ?_
      have B8_47 : ∀ (locs : List Loc) (ls : Array Slot) (w8_0 : Int32), va_S (fun q : Nat => base ≤ q) s.heap s.heap locs → lv_has ls 22 [(0, .ref a0), (1, .int x1), (2, .int x2), (3, .int x3), (4, .long x4), (6, .int f6)] → W p l e (headSpec (Cond.code yX0_partsWon cX0_partsWon 22 (some .long) :: sg_tbl) ({ frames := 6, cells := 0, slots := 0, locals := 170 })).room s m #[.ref a0, .int x1, .int x2, .int x3, .long x4] below meth c s.heap locs 0 0 (MQ below (va_Ql (fun r (_ : Unit) => (fun _ : Int64 => True) r) (fun _ => sgB (KT P) D vwCl base tys ad ks) (fun q : Nat => base ≤ q)) #[.ref a0, .int x1, .int x2, .int x3, .long x4] s 0 0 (fun q : Nat => base ≤ q)) (F0 m 47 ls [.int w8_0]) := by
        intro locs ls w8_0 hS hl
        refine lv_istore (lv' := [(7, .int w8_0), (0, .ref a0), (1, .int x1), (2, .int x2), (3, .int x3), (4, .long x4), (6, .int f6)]) X.1 X.2.1 dX0_partsWon_47 hl (by decide) rfl (fun ls hl => ?_)
        refine lv_iload X.1 X.2.1 dX0_partsWon_49 (lv_at hl 0 rfl) ?_
        refine lv_if_ne (tgt := 56) X.1 X.2.1 dX0_partsWon_51 (by decide) (fun c9 => ?_) (fun c9 => ?_)
        · refine lv_aload_n X.1 X.2.1 dX0_partsWon_56 rfl (lv_at hl 1 rfl) ?_
          refine gg_X0_0 X hK hG h0 wl_2_120 kq4 dX0_partsWon_57 ?_
          refine lv_iload_n X.1 X.2.1 dX0_partsWon_60 rfl (lv_at hl 2 rfl) ?_
          refine lv_aload_n X.1 X.2.1 dX0_partsWon_61 rfl (lv_at hl 1 rfl) ?_
          refine gf_X0_1 X hK hG h0 wl_2_121 dX0_partsWon_62 (fun f10 hf10 kf10 => ?_)
          refine lv_iload_n X.1 X.2.1 dX0_partsWon_65 rfl (lv_at hl 3 rfl) ?_
          refine ca_X8_growing X hK hG hC hS hb q4 hq4 x1 f10 x2 wl_5_121 hl.1 (rest := []) rfl (Nat.le_of_ble_eq_true rfl) ⟨Nat.le_of_ble_eq_true rfl, Nat.le_of_ble_eq_true rfl⟩ ⟨Nat.le_of_ble_eq_true rfl, Nat.le_of_ble_eq_true rfl⟩ dX0_partsWon_66 (fun f11 H locs hf11 hG hS => ?_)
          refine lv_istore (lv' := [(8, .int f11), (7, .int w8_0), (0, .ref a0), (1, .int x1), (2, .int x2), (3, .int x3), (4, .long x4), (6, .int f6)]) X.1 X.2.1 dX0_partsWon_69 hl (by decide) rfl (fun ls hl => ?_)
          refine lv_iload X.1 X.2.1 dX0_partsWon_71 (lv_at hl 0 rfl) ?_
          refine ca_J6_bitCount_0f7a4 X hK hG hC (fun _ h => h) hS hb f11 wl_4_232 hl.1 (rest := []) rfl (Nat.le_of_ble_eq_true rfl) ⟨Nat.le_of_ble_eq_true rfl, Nat.le_of_ble_eq_true rfl⟩ ⟨Nat.le_of_ble_eq_true rfl, Nat.le_of_ble_eq_true rfl⟩ dX0_partsWon_73 (fun f12 locs hf12 hS => ?_)
          refine lv_istore (lv' := [(9, .int f12), (8, .int f11), (7, .int w8_0), (0, .ref a0), (1, .int x1), (2, .int x2), (3, .int x3), (4, .long x4), (6, .int f6)]) X.1 X.2.1 dX0_partsWon_76 hl (by decide) rfl (fun ls hl => ?_)
          refine lv_iload X.1 X.2.1 dX0_partsWon_78 (lv_at hl 0 rfl) ?_
          refine lv_if_ne (tgt := 97) X.1 X.2.1 dX0_partsWon_80 (by decide) (fun c13 => ?_) (fun c13 => ?_)
          · refine lv_lload X.1 X.2.1 dX0_partsWon_97 (lv_at hl 7 rfl) ?_
            refine lv_aload_n X.1 X.2.1 dX0_partsWon_99 rfl (lv_at hl 3 rfl) ?_
            refine gf_X0_2 X hK hG h0 wl_2_122 dX0_partsWon_100 (fun f14 hf14 kf14 => ?_)
            obtain ⟨g15, eg15⟩ : ∃ y : Int64, y = (f14 : Int32).toInt64 := ⟨_, rfl⟩
            refine lv_i2l (v := g15) X.1 X.2.1 dX0_partsWon_103 eg15.symm ?_
            refine lv_lmul X.1 X.2.1 dX0_partsWon_104 ?_
            refine lv_topl (fun g16 eg16 => ?_)
            refine lv_ldc2 X.1 X.2.1 X.2.2.2.1 (X.2.2.2.2 _ wl_6_57) dX0_partsWon_105 ?_
            refine lv_ldiv X.1 X.2.1 dX0_partsWon_108 (by decide +kernel) ?_
            refine lv_topl (fun g17 eg17 => ?_)
            refine lv_lstore (lv' := [(10, .long g17), (9, .int f12), (8, .int f11), (7, .int w8_0), (0, .ref a0), (1, .int x1), (2, .int x2), (3, .int x3), (4, .long x4), (6, .int f6)]) X.1 X.2.1 dX0_partsWon_109 hl (by decide) rfl (fun ls hl => ?_)
            refine lv_lload X.1 X.2.1 dX0_partsWon_111 (lv_at hl 8 rfl) ?_
            refine lv_lload X.1 X.2.1 dX0_partsWon_113 (lv_at hl 0 rfl) ?_
            refine lv_lsub X.1 X.2.1 dX0_partsWon_115 ?_
            refine lv_topl (fun g18 eg18 => ?_)
            refine lv_iload X.1 X.2.1 dX0_partsWon_116 (lv_at hl 1 rfl) ?_
            obtain ⟨g19, eg19⟩ : ∃ y : Int64, y = (f12 : Int32).toInt64 := ⟨_, rfl⟩
            refine lv_i2l (v := g19) X.1 X.2.1 dX0_partsWon_118 eg19.symm ?_
            refine lv_ldiv X.1 X.2.1 dX0_partsWon_119 (sg_i2l_ne0 eg19 (iv_ne0 (iv_ne_lo (a' := 1) c13 hf12 (by decide +kernel)) (by decide +kernel))) ?_
            refine lv_topl (fun g20 eg20 => ?_)
            refine lv_lstore (lv' := [(12, .long g20), (10, .long g17), (9, .int f12), (8, .int f11), (7, .int w8_0), (0, .ref a0), (1, .int x1), (2, .int x2), (3, .int x3), (4, .long x4), (6, .int f6)]) X.1 X.2.1 dX0_partsWon_120 hl (by decide) rfl (fun ls hl => ?_)
            refine lv_lload X.1 X.2.1 dX0_partsWon_122 (lv_at hl 9 rfl) ?_
            refine lv_lload X.1 X.2.1 dX0_partsWon_124 (lv_at hl 1 rfl) ?_
            refine lv_lsub X.1 X.2.1 dX0_partsWon_126 ?_
            refine lv_topl (fun g21 eg21 => ?_)
            refine lv_lload X.1 X.2.1 dX0_partsWon_127 (lv_at hl 0 rfl) ?_
            refine lv_iload X.1 X.2.1 dX0_partsWon_129 (lv_at hl 2 rfl) ?_
            refine lv_iconst (v := 1) X.1 X.2.1 dX0_partsWon_131 (by decide +kernel) ?_
            refine lv_isub X.1 X.2.1 dX0_partsWon_132 ?_
            refine lv_topi (fun f22 ef22 => ?_)
            obtain ⟨g23, eg23⟩ : ∃ y : Int64, y = (f22 : Int32).toInt64 := ⟨_, rfl⟩
            refine lv_i2l (v := g23) X.1 X.2.1 dX0_partsWon_133 eg23.symm ?_
            refine lv_lmul X.1 X.2.1 dX0_partsWon_134 ?_
            refine lv_topl (fun g24 eg24 => ?_)
            refine lv_lsub X.1 X.2.1 dX0_partsWon_135 ?_
            refine lv_topl (fun g25 eg25 => ?_)
            refine lv_lstore (lv' := [(14, .long g25), (12, .long g20), (10, .long g17), (9, .int f12), (8, .int f11), (7, .int w8_0), (0, .ref a0), (1, .int x1), (2, .int x2), (3, .int x3), (4, .long x4), (6, .int f6)]) X.1 X.2.1 dX0_partsWon_136 hl (by decide) rfl (fun ls hl => ?_)
            refine lv_aload_n X.1 X.2.1 dX0_partsWon_138 rfl (lv_at hl 6 rfl) ?_
            refine lv_iload_n X.1 X.2.1 dX0_partsWon_139 rfl (lv_at hl 7 rfl) ?_
            refine lv_iload_n X.1 X.2.1 dX0_partsWon_140 rfl (lv_at hl 8 rfl) ?_
            refine lv_iconst (v := 1) X.1 X.2.1 dX0_partsWon_141 (by decide +kernel) ?_
            refine lv_iadd X.1 X.2.1 dX0_partsWon_142 ?_
            refine lv_topi (fun f26 ef26 => ?_)
            refine lv_iload_n X.1 X.2.1 dX0_partsWon_143 rfl (lv_at hl 9 rfl) ?_
            refine lv_iconst (v := 1) X.1 X.2.1 dX0_partsWon_144 (by decide +kernel) ?_
            refine lv_isub X.1 X.2.1 dX0_partsWon_145 ?_
            refine lv_topi (fun f27 ef27 => ?_)
            refine lv_lload X.1 X.2.1 dX0_partsWon_146 (lv_at hl 2 rfl) ?_
            refine ca_X0_partsWon_1 X hK hG hC hS hb a0 h0 x1 f26 f27 (iv_of (iv_sub (a' := 0) (b' := 1) ef27 (iv_ler (c' := 1) (iv_ge_of c1) (iv_c 1 (a := 1) (b := 1) (by decide +kernel)) h3 (by decide +kernel)) (iv_c 1 (a := 1) (b := 1) (by decide +kernel)) (by decide +kernel)) (a' := (-2147483648)) (b' := 1) (by decide +kernel)) g17 wl_6_52 hl.1 (rest := []) rfl (Nat.le_of_ble_eq_true rfl) ⟨Nat.le_of_ble_eq_true rfl, Nat.le_of_ble_eq_true rfl⟩ ⟨Nat.le_of_ble_eq_true rfl, Nat.le_of_ble_eq_true rfl⟩ dX0_partsWon_148 (fun g28 H locs hg28 hG hS => ?_)
            refine lv_lstore (lv' := [(16, .long g28), (14, .long g25), (12, .long g20), (10, .long g17), (9, .int f12), (8, .int f11), (7, .int w8_0), (0, .ref a0), (1, .int x1), (2, .int x2), (3, .int x3), (4, .long x4), (6, .int f6)]) X.1 X.2.1 dX0_partsWon_151 hl (by decide) rfl (fun ls hl => ?_)
            refine lv_iconst (v := 0) X.1 X.2.1 dX0_partsWon_153 (by decide +kernel) ?_
            refine lv_istore (lv' := [(18, .int 0), (16, .long g28), (14, .long g25), (12, .long g20), (10, .long g17), (9, .int f12), (8, .int f11), (7, .int w8_0), (0, .ref a0), (1, .int x1), (2, .int x2), (3, .int x3), (4, .long x4), (6, .int f6)]) X.1 X.2.1 dX0_partsWon_154 hl (by decide) rfl (fun ls hl => ?_)
            have B29_156 : ∀ (N : Nat) (H : Heap) (locs : List Loc) (ls : Array Slot) (z29_16 : Int64) (z29_18 : Int32), sgG (KT P) D vwCl (fun q : Nat => base ≤ q) tys ad ks H → va_S (fun q : Nat => base ≤ q) s.heap H locs → lv_has ls 22 [(0, .ref a0), (1, .int x1), (2, .int x2), (3, .int x3), (6, .int f6), (7, .int w8_0), (8, .int f11), (12, .long g20), (14, .long g25), (16, .long z29_16), (18, .int z29_18)] → iv 0 30 z29_18 → (31 - z29_18.toInt).toNat ≤ N → W p l e (headSpec (Cond.code yX0_partsWon cX0_partsWon 22 (some .long) :: sg_tbl) ({ frames := 6, cells := 0, slots := 0, locals := 170 })).room s m #[.ref a0, .int x1, .int x2, .int x3, .long x4] below meth c H locs 0 0 (MQ below (va_Ql (fun r (_ : Unit) => (fun _ : Int64 => True) r) (fun _ => sgB (KT P) D vwCl base tys ad ks) (fun q : Nat => base ≤ q)) #[.ref a0, .int x1, .int x2, .int x3, .long x4] s 0 0 (fun q : Nat => base ≤ q)) (F0 m 156 ls []) := by
              intro N; induction N with
              | zero =>
                intro H locs ls z29_16 z29_18 hG hS hl hz29_18 hN
                exact absurd hN (by have := iv_up hz29_18; omega)
              | succ N ih29 =>
                intro H locs ls z29_16 z29_18 hG hS hl hz29_18 hN29
                refine lv_iload X.1 X.2.1 dX0_partsWon_156 (lv_at hl 10 rfl) ?_
                refine lv_aload_n X.1 X.2.1 dX0_partsWon_158 rfl (lv_at hl 0 rfl) ?_
                refine gf_X0_0 X hK hG h0 wl_2_120 dX0_partsWon_159 (fun q30 hq30 kq30 => ?_)
                refine gf_X8_0 X hK hG hq30 wl_2_38 dX0_partsWon_162 (fun q31 hq31 kq31 => ?_)
                refine gf_X4_5 X hK hG hq31 wl_1_219 dX0_partsWon_165 (fun f32 hf32 kf32 => ?_)
                refine lv_icmp_ge (tgt := 258) X.1 X.2.1 dX0_partsWon_168 (by decide) (fun c33 => ?_) (fun c33 => ?_)
                · refine lv_lload X.1 X.2.1 dX0_partsWon_258 (lv_at hl 9 rfl) ?_
                  exact sg_lret X hr hlk hb hK hC hG hS trivial dX0_partsWon_260
                · refine lv_iload X.1 X.2.1 dX0_partsWon_171 (lv_at hl 6 rfl) ?_
                  refine lv_iload X.1 X.2.1 dX0_partsWon_173 (lv_at hl 5 rfl) ?_
                  refine lv_iand X.1 X.2.1 dX0_partsWon_175 ?_
                  refine lv_topi (fun f34 ef34 => ?_)
                  refine lv_iconst (v := 1) X.1 X.2.1 dX0_partsWon_176 (by decide +kernel) ?_
                  refine lv_iload X.1 X.2.1 dX0_partsWon_177 (lv_at hl 10 rfl) ?_
                  refine lv_ishl X.1 X.2.1 dX0_partsWon_179 ?_
                  refine lv_topi (fun f35 ef35 => ?_)
                  refine lv_iand X.1 X.2.1 dX0_partsWon_180 ?_
                  refine lv_topi (fun f36 ef36 => ?_)
                  have B38_252 : ∀ (H : Heap) (locs : List Loc) (ls : Array Slot) (z38_16 : Int64), sgG (KT P) D vwCl (fun q : Nat => base ≤ q) tys ad ks H → va_S (fun q : Nat => base ≤ q) s.heap H locs → lv_has ls 22 [(0, .ref a0), (1, .int x1), (2, .int x2), (3, .int x3), (6, .int f6), (7, .int w8_0), (8, .int f11), (12, .long g20), (14, .long g25), (16, .long z38_16), (18, .int z29_18)] → W p l e (headSpec (Cond.code yX0_partsWon cX0_partsWon 22 (some .long) :: sg_tbl) ({ frames := 6, cells := 0, slots := 0, locals := 170 })).room s m #[.ref a0, .int x1, .int x2, .int x3, .long x4] below meth c H locs 0 0 (MQ below (va_Ql (fun r (_ : Unit) => (fun _ : Int64 => True) r) (fun _ => sgB (KT P) D vwCl base tys ad ks) (fun q : Nat => base ≤ q)) #[.ref a0, .int x1, .int x2, .int x3, .long x4] s 0 0 (fun q : Nat => base ≤ q)) (F0 m 252 ls []) := by
                    intro H locs ls z38_16 hG hS hl
                    obtain ⟨y39, ey39⟩ : ∃ y : Int32, y = z29_18 + Int32.ofInt 1 := ⟨_, rfl⟩
                    refine lv_iinc (v := y39) (lv' := [(18, .int y39), (0, .ref a0), (1, .int x1), (2, .int x2), (3, .int x3), (6, .int f6), (7, .int w8_0), (8, .int f11), (12, .long g20), (14, .long g25), (16, .long z38_16)]) X.1 X.2.1 dX0_partsWon_252 hl (k := 10) rfl ey39.symm (by decide) rfl (fun ls hl => ?_)
                    refine lv_goto (tgt := 156) X.1 X.2.1 dX0_partsWon_255 (by decide) ?_
                    exact ih29 H _ _ z38_16 y39 hG hS (lv_sub hl [1, 2, 3, 4, 5, 6, 7, 8, 9, 10, 0] rfl) (iv_of (iv_add (a' := 1) (b' := 30) ey39 (iv_lt (b' := 29) (iv_gt_of c33) hz29_18 hf32 (by decide +kernel)) (iv_c _ (a := 1) (b := 1) (by decide +kernel)) (by decide +kernel)) (a' := 0) (b' := 30) (by decide +kernel)) (iv_stepU ey39 (iv_lt (b' := 29) (iv_gt_of c33) hz29_18 hf32 (by decide +kernel)) (by decide +kernel) hN29)
                  refine lv_if_eq (tgt := 252) X.1 X.2.1 dX0_partsWon_181 (by decide) (fun c37 => ?_) (fun c37 => ?_)
                  · exact B38_252 H _ _ z29_16 hG hS (lv_sub hl [0, 1, 2, 3, 4, 5, 6, 7, 8, 9, 10] rfl)
                  · refine lv_iload X.1 X.2.1 dX0_partsWon_184 (lv_at hl 6 rfl) ?_
                    refine lv_iload X.1 X.2.1 dX0_partsWon_186 (lv_at hl 10 rfl) ?_
                    refine lv_ishr X.1 X.2.1 dX0_partsWon_188 ?_
                    refine lv_topi (fun f40 ef40 => ?_)
                    refine lv_iconst (v := 1) X.1 X.2.1 dX0_partsWon_189 (by decide +kernel) ?_
                    have B42_200 : ∀ (locs : List Loc) (ls : Array Slot) (w42_0 : Int64), va_S (fun q : Nat => base ≤ q) s.heap H locs → lv_has ls 22 [(0, .ref a0), (1, .int x1), (2, .int x2), (3, .int x3), (6, .int f6), (7, .int w8_0), (8, .int f11), (12, .long g20), (14, .long g25), (16, .long z29_16), (18, .int z29_18)] → W p l e (headSpec (Cond.code yX0_partsWon cX0_partsWon 22 (some .long) :: sg_tbl) ({ frames := 6, cells := 0, slots := 0, locals := 170 })).room s m #[.ref a0, .int x1, .int x2, .int x3, .long x4] below meth c H locs 0 0 (MQ below (va_Ql (fun r (_ : Unit) => (fun _ : Int64 => True) r) (fun _ => sgB (KT P) D vwCl base tys ad ks) (fun q : Nat => base ≤ q)) #[.ref a0, .int x1, .int x2, .int x3, .long x4] s 0 0 (fun q : Nat => base ≤ q)) (F0 m 200 ls [.long w42_0]) := by
                      intro locs ls w42_0 hS hl
                      refine lv_lstore (lv' := [(19, .long w42_0), (0, .ref a0), (1, .int x1), (2, .int x2), (3, .int x3), (6, .int f6), (7, .int w8_0), (8, .int f11), (12, .long g20), (14, .long g25), (16, .long z29_16), (18, .int z29_18)]) X.1 X.2.1 dX0_partsWon_200 hl (by decide) rfl (fun ls hl => ?_)
                      refine lv_iload X.1 X.2.1 dX0_partsWon_202 (lv_at hl 5 rfl) ?_
                      refine lv_iload X.1 X.2.1 dX0_partsWon_204 (lv_at hl 11 rfl) ?_
                      refine lv_ishr X.1 X.2.1 dX0_partsWon_206 ?_
                      refine lv_topi (fun f43 ef43 => ?_)
                      refine lv_iconst (v := 1) X.1 X.2.1 dX0_partsWon_207 (by decide +kernel) ?_
                      refine lv_iand X.1 X.2.1 dX0_partsWon_208 ?_
                      refine lv_topi (fun f44 ef44 => ?_)
                      have B46_217 : ∀ (locs : List Loc) (ls : Array Slot) (w46_0 : Int32), va_S (fun q : Nat => base ≤ q) s.heap H locs → lv_has ls 22 [(0, .ref a0), (1, .int x1), (2, .int x2), (3, .int x3), (6, .int f6), (7, .int w8_0), (8, .int f11), (12, .long g20), (14, .long g25), (16, .long z29_16), (18, .int z29_18), (19, .long w42_0)] → iv 0 1 w46_0 → W p l e (headSpec (Cond.code yX0_partsWon cX0_partsWon 22 (some .long) :: sg_tbl) ({ frames := 6, cells := 0, slots := 0, locals := 170 })).room s m #[.ref a0, .int x1, .int x2, .int x3, .long x4] below meth c H locs 0 0 (MQ below (va_Ql (fun r (_ : Unit) => (fun _ : Int64 => True) r) (fun _ => sgB (KT P) D vwCl base tys ad ks) (fun q : Nat => base ≤ q)) #[.ref a0, .int x1, .int x2, .int x3, .long x4] s 0 0 (fun q : Nat => base ≤ q)) (F0 m 217 ls [.int w46_0]) := by
                        intro locs ls w46_0 hS hl hw46_0
                        refine lv_istore (lv' := [(21, .int w46_0), (0, .ref a0), (1, .int x1), (2, .int x2), (3, .int x3), (6, .int f6), (7, .int w8_0), (8, .int f11), (12, .long g20), (14, .long g25), (16, .long z29_16), (18, .int z29_18), (19, .long w42_0)]) X.1 X.2.1 dX0_partsWon_217 hl (by decide) rfl (fun ls hl => ?_)
                        refine lv_lload X.1 X.2.1 dX0_partsWon_219 (lv_at hl 10 rfl) ?_
                        refine lv_iload X.1 X.2.1 dX0_partsWon_221 (lv_at hl 0 rfl) ?_
                        have B48_249 : ∀ (H : Heap) (locs : List Loc) (ls : Array Slot) (w48_0 : Int64), sgG (KT P) D vwCl (fun q : Nat => base ≤ q) tys ad ks H → va_S (fun q : Nat => base ≤ q) s.heap H locs → lv_has ls 22 [(0, .ref a0), (1, .int x1), (2, .int x2), (3, .int x3), (6, .int f6), (7, .int w8_0), (8, .int f11), (12, .long g20), (14, .long g25), (18, .int z29_18)] → W p l e (headSpec (Cond.code yX0_partsWon cX0_partsWon 22 (some .long) :: sg_tbl) ({ frames := 6, cells := 0, slots := 0, locals := 170 })).room s m #[.ref a0, .int x1, .int x2, .int x3, .long x4] below meth c H locs 0 0 (MQ below (va_Ql (fun r (_ : Unit) => (fun _ : Int64 => True) r) (fun _ => sgB (KT P) D vwCl base tys ad ks) (fun q : Nat => base ≤ q)) #[.ref a0, .int x1, .int x2, .int x3, .long x4] s 0 0 (fun q : Nat => base ≤ q)) (F0 m 249 ls [.long w48_0, .long z29_16]) := by
                          intro H locs ls w48_0 hG hS hl
                          refine lv_ladd X.1 X.2.1 dX0_partsWon_249 ?_
                          refine lv_topl (fun g49 eg49 => ?_)
                          refine lv_lstore (lv' := [(16, .long g49), (0, .ref a0), (1, .int x1), (2, .int x2), (3, .int x3), (6, .int f6), (7, .int w8_0), (8, .int f11), (12, .long g20), (14, .long g25), (18, .int z29_18)]) X.1 X.2.1 dX0_partsWon_250 hl (by decide) rfl (fun ls hl => ?_)
                          exact B38_252 H _ _ g49 hG hS (lv_sub hl [1, 2, 3, 4, 5, 6, 7, 8, 9, 0, 10] rfl)
                        refine lv_if_eq (tgt := 231) X.1 X.2.1 dX0_partsWon_223 (by decide) (fun c47 => ?_) (fun c47 => ?_)
                        · refine lv_aload_n X.1 X.2.1 dX0_partsWon_231 rfl (lv_at hl 1 rfl) ?_
                          refine lv_iload_n X.1 X.2.1 dX0_partsWon_232 rfl (lv_at hl 2 rfl) ?_
                          refine lv_iconst (v := 1) X.1 X.2.1 dX0_partsWon_233 (by decide +kernel) ?_
                          refine lv_iload X.1 X.2.1 dX0_partsWon_234 (lv_at hl 11 rfl) ?_
                          refine lv_ishl X.1 X.2.1 dX0_partsWon_236 ?_
                          refine lv_topi (fun f50 ef50 => ?_)
                          refine lv_ior X.1 X.2.1 dX0_partsWon_237 ?_
                          refine lv_topi (fun f51 ef51 => ?_)
                          refine lv_iload_n X.1 X.2.1 dX0_partsWon_238 rfl (lv_at hl 3 rfl) ?_
                          refine lv_iconst (v := 1) X.1 X.2.1 dX0_partsWon_239 (by decide +kernel) ?_
                          refine lv_iadd X.1 X.2.1 dX0_partsWon_240 ?_
                          refine lv_topi (fun f52 ef52 => ?_)
                          refine lv_iload_n X.1 X.2.1 dX0_partsWon_241 rfl (lv_at hl 4 rfl) ?_
                          refine lv_iconst (v := 1) X.1 X.2.1 dX0_partsWon_242 (by decide +kernel) ?_
                          refine lv_isub X.1 X.2.1 dX0_partsWon_243 ?_
                          refine lv_topi (fun f53 ef53 => ?_)
                          refine lv_lload X.1 X.2.1 dX0_partsWon_244 (lv_at hl 12 rfl) ?_
                          refine ca_X0_partsWon_1 X hK hG hC hS hb a0 h0 f51 f52 f53 (iv_of (iv_sub (a' := 0) (b' := 1) ef53 (iv_ler (c' := 1) (iv_ge_of c1) (iv_c 1 (a := 1) (b := 1) (by decide +kernel)) h3 (by decide +kernel)) (iv_c 1 (a := 1) (b := 1) (by decide +kernel)) (by decide +kernel)) (a' := (-2147483648)) (b' := 1) (by decide +kernel)) w42_0 wl_6_52 hl.1 (rest := [.long z29_16]) rfl (Nat.le_of_ble_eq_true rfl) ⟨Nat.le_of_ble_eq_true rfl, Nat.le_of_ble_eq_true rfl⟩ ⟨Nat.le_of_ble_eq_true rfl, Nat.le_of_ble_eq_true rfl⟩ dX0_partsWon_246 (fun g54 H locs hg54 hG hS => ?_)
                          exact B48_249 H _ _ g54 hG hS (lv_sub hl [1, 2, 3, 4, 5, 6, 7, 8, 9, 11] rfl)
                        · refine lv_lload X.1 X.2.1 dX0_partsWon_226 (lv_at hl 12 rfl) ?_
                          refine lv_goto (tgt := 249) X.1 X.2.1 dX0_partsWon_228 (by decide) ?_
                          exact B48_249 H _ _ w42_0 hG hS (lv_sub hl [1, 2, 3, 4, 5, 6, 7, 8, 9, 11] rfl)
                      refine lv_if_eq (tgt := 216) X.1 X.2.1 dX0_partsWon_209 (by decide) (fun c45 => ?_) (fun c45 => ?_)
                      · refine lv_iconst (v := 0) X.1 X.2.1 dX0_partsWon_216 (by decide +kernel) ?_
                        exact B46_217 _ _ 0 hS (lv_sub hl [1, 2, 3, 4, 5, 6, 7, 8, 9, 10, 11, 0] rfl) (iv_of (iv_c 0 (a := 0) (b := 0) (by decide +kernel)) (a' := 0) (b' := 1) (by decide +kernel))
                      · refine lv_iconst (v := 1) X.1 X.2.1 dX0_partsWon_212 (by decide +kernel) ?_
                        refine lv_goto (tgt := 217) X.1 X.2.1 dX0_partsWon_213 (by decide) ?_
                        exact B46_217 _ _ 1 hS (lv_sub hl [1, 2, 3, 4, 5, 6, 7, 8, 9, 10, 11, 0] rfl) (iv_of (iv_c 1 (a := 1) (b := 1) (by decide +kernel)) (a' := 0) (b' := 1) (by decide +kernel))
                    refine lv_icmp_ne (tgt := 198) X.1 X.2.1 dX0_partsWon_190 (by decide) (fun c41 => ?_) (fun c41 => ?_)
                    · refine lv_lload X.1 X.2.1 dX0_partsWon_198 (lv_at hl 7 rfl) ?_
                      exact B42_200 _ _ g20 hS (lv_sub hl [0, 1, 2, 3, 4, 5, 6, 7, 8, 9, 10] rfl)
                    · refine lv_lload X.1 X.2.1 dX0_partsWon_193 (lv_at hl 8 rfl) ?_
                      refine lv_goto (tgt := 200) X.1 X.2.1 dX0_partsWon_195 (by decide) ?_
                      exact B42_200 _ _ g25 hS (lv_sub hl [0, 1, 2, 3, 4, 5, 6, 7, 8, 9, 10] rfl)
            exact B29_156 _ H _ _ g28 0 hG hS (lv_sub hl [8, 9, 10, 11, 13, 7, 6, 3, 2, 1, 0] rfl) (iv_of (iv_c 0 (a := 0) (b := 0) (by decide +kernel)) (a' := 0) (b' := 30) (by decide +kernel)) (Nat.le_refl _)
          · refine lv_aload_n X.1 X.2.1 dX0_partsWon_83 rfl (lv_at hl 3 rfl) ?_
            refine lv_iload_n X.1 X.2.1 dX0_partsWon_84 rfl (lv_at hl 4 rfl) ?_
            refine lv_iload_n X.1 X.2.1 dX0_partsWon_85 rfl (lv_at hl 5 rfl) ?_
            refine lv_iconst (v := 1) X.1 X.2.1 dX0_partsWon_86 (by decide +kernel) ?_
            refine lv_iadd X.1 X.2.1 dX0_partsWon_87 ?_
            refine lv_topi (fun f55 ef55 => ?_)
            refine lv_iload_n X.1 X.2.1 dX0_partsWon_88 rfl (lv_at hl 6 rfl) ?_
            refine lv_iconst (v := 1) X.1 X.2.1 dX0_partsWon_89 (by decide +kernel) ?_
            refine lv_isub X.1 X.2.1 dX0_partsWon_90 ?_
            refine lv_topi (fun f56 ef56 => ?_)
            refine lv_lload X.1 X.2.1 dX0_partsWon_91 (lv_at hl 7 rfl) ?_
            refine ca_X0_partsWon_1 X hK hG hC hS hb a0 h0 x1 f55 f56 (iv_of (iv_sub (a' := 0) (b' := 1) ef56 (iv_ler (c' := 1) (iv_ge_of c1) (iv_c 1 (a := 1) (b := 1) (by decide +kernel)) h3 (by decide +kernel)) (iv_c 1 (a := 1) (b := 1) (by decide +kernel)) (by decide +kernel)) (a' := (-2147483648)) (b' := 1) (by decide +kernel)) x4 wl_6_52 hl.1 (rest := []) rfl (Nat.le_of_ble_eq_true rfl) ⟨Nat.le_of_ble_eq_true rfl, Nat.le_of_ble_eq_true rfl⟩ ⟨Nat.le_of_ble_eq_true rfl, Nat.le_of_ble_eq_true rfl⟩ dX0_partsWon_93 (fun g57 H locs hg57 hG hS => ?_)
            exact sg_lret X hr hlk hb hK hC hG hS trivial dX0_partsWon_96
        · refine lv_lconst (v := 0) X.1 X.2.1 dX0_partsWon_54 (by decide +kernel) ?_
          exact sg_lret X hr hlk hb hK hC hG hS trivial dX0_partsWon_55
      refine lv_icmp_ne (tgt := 37) X.1 X.2.1 dX0_partsWon_29 (by decide) (fun c7 => ?_) (fun c7 => ?_)
      · refine lv_aload_n X.1 X.2.1 dX0_partsWon_37 rfl (lv_at hl 1 rfl) ?_
        refine gg_X0_0 X hK hG h0 wl_2_120 kq4 dX0_partsWon_38 ?_
        refine gg_X8_0 X hK hG hq4 wl_2_38 kq5 dX0_partsWon_41 ?_
        refine gf_X4_6 X hK hG hq5 wl_1_223 dX0_partsWon_44 (fun f58 hf58 kf58 => ?_)
        exact B8_47 _ _ f58 hS (lv_sub hl [1, 2, 3, 4, 5, 0] rfl)
      · refine lv_iload X.1 X.2.1 dX0_partsWon_32 (lv_at hl 0 rfl) ?_
        refine lv_goto (tgt := 47) X.1 X.2.1 dX0_partsWon_34 (by decide) ?_
        exact B8_47 _ _ f6 hS (lv_sub hl [1, 2, 3, 4, 5, 0] rfl)
    · refine lv_lconst (v := 0) X.1 X.2.1 dX0_partsWon_12 (by decide +kernel) ?_
      exact sg_lret X hr hlk hb hK hC hG hS trivial dX0_partsWon_13

theorem ca_X0_partsWon_2   (X : CallFix p m c cc nL s args sg_tbl own) (hK : va_K D vwCl tys s) (hG : sgG (KT P) D vwCl (fun q : Nat => base ≤ q) tys ad ks H) (hC : sgC base s) (hS : va_S (fun q : Nat => base ≤ q) s.heap H locs) (hb : base ≤ s.heap.size) (a0 : Nat) (h0 : isK ad ks 0 a0) (x1 : Int32) (x2 : Int32) (x3 : Int32) (h3 : iv (-2147483648) 2 x3) (x4 : Int64) (hl : Cond.methodLink own index yX0_partsWon ∈ sg_tbl) (hsize : ls.size = nL) (hst : st0 = [.int x1, .int x2, .int x3, .long x4].reverse ++ .ref a0 :: rest) (hW : (rest.map fun v => v.category).sum ≤ 8) (hR : 7 ≤ R.frames ∧ 211 ≤ R.locals) (hf : cells ≤ R.cells ∧ slots ≤ R.slots) (hdg : decode cc pc = .ok (.invokevirtual index, 3)) (kk : ∀ (r : Int64) (H1 : Heap) (locs1 : List Loc), (fun _ : Int64 => True) r → sgG (KT P) D vwCl (fun q : Nat => base ≤ q) tys ad ks H1 → va_S (fun q : Nat => base ≤ q) s.heap H1 locs1 → W p l e R s m args below meth c H1 locs1 cells slots Q (F0 m (pc + 3) ls (.long r :: rest))) : W p l e R s m args below meth c H locs cells slots Q (F0 m pc ls st0) :=
  sg_callVl X hK hG hC hS hb (m_X0_partsWon_2 l a0 h0 x1 x2 x3 h3 x4) h0 (k := 0) (ci := 0) rfl (C := RX0) (T := TX0) (N := 5) rfl wl_6_55 wl_1_10 wl_6_54 wl_0_46 (n := 4) (by decide +kernel) rfl rfl rfl hl hsize hst hW hR hf hdg kk

set_option maxHeartbeats 8000000 in
set_option maxRecDepth 100000 in
theorem m_X0_partsWon_3 (l : Launch) {D : va_G} {base : Nat} {tys : List (ClassId × FieldType)} {ad ks : List Nat} {P : sgPm} (a0 : Nat) (h0 : isK ad ks 0 a0) (x1 : Int32) (x2 : Int32) (x3 : Int32) (h3 : iv (-2147483648) 3 x3) (x4 : Int64) : sgMl l (KT P) D vwCl base tys ad ks yX0_partsWon cX0_partsWon 22 (some .long) ({ frames := 7, cells := 0, slots := 0, locals := 211 }) [.ref a0, .int x1, .int x2, .int x3, .long x4] (fun _ : Int64 => True) := by
  refine sg_ofW (by decide +kernel) (Nat.le_of_ble_eq_true rfl) (fun p e s m below meth c X hr hlk hb hK hC hG ls hl => ?_)
  have hS : va_S (fun q : Nat => base ≤ q) s.heap s.heap [] := va_S.rf
  have hl : lv_has ls 22 [(0, .ref a0), (1, .int x1), (2, .int x2), (3, .int x3), (4, .long x4)] := hl
  refine lv_iload_n X.1 X.2.1 dX0_partsWon_0 rfl (lv_at hl 3 rfl) ?_
  refine lv_iconst (v := 1) X.1 X.2.1 dX0_partsWon_1 (by decide +kernel) ?_
  refine lv_icmp_lt (tgt := 12) X.1 X.2.1 dX0_partsWon_2 (by decide) (fun c1 => ?_) (fun c1 => ?_)
  · refine lv_lconst (v := 0) X.1 X.2.1 dX0_partsWon_12 (by decide +kernel) ?_
    exact sg_lret X hr hlk hb hK hC hG hS trivial dX0_partsWon_13
  · refine lv_lload X.1 X.2.1 dX0_partsWon_5 (lv_at hl 4 rfl) ?_
    refine lv_lconst (v := 0) X.1 X.2.1 dX0_partsWon_7 (by decide +kernel) ?_
    refine W.lcmp X.1 X.2.1 dX0_partsWon_8 ?_
    refine lv_topi (fun f2 ef2 => ?_)
    refine lv_if_ne (tgt := 14) X.1 X.2.1 dX0_partsWon_9 (by decide) (fun c3 => ?_) (fun c3 => ?_)
    · refine lv_aload_n X.1 X.2.1 dX0_partsWon_14 rfl (lv_at hl 0 rfl) ?_
      refine gf_X0_0 X hK hG h0 wl_2_120 dX0_partsWon_15 (fun q4 hq4 kq4 => ?_)
      refine gf_X8_0 X hK hG hq4 wl_2_38 dX0_partsWon_18 (fun q5 hq5 kq5 => ?_)
      refine lv_iload_n X.1 X.2.1 dX0_partsWon_21 rfl (lv_at hl 1 rfl) ?_
      refine ca_X4_winners X hK hG hC (fun _ h => h) hS hb q5 hq5 x1 wl_6_56 hl.1 (rest := []) rfl (Nat.le_of_ble_eq_true rfl) ⟨Nat.le_of_ble_eq_true rfl, Nat.le_of_ble_eq_true rfl⟩ ⟨Nat.le_of_ble_eq_true rfl, Nat.le_of_ble_eq_true rfl⟩ dX0_partsWon_22 (fun f6 locs hf6 hS => ?_)
      refine lv_istore (lv' := [(6, .int f6), (0, .ref a0), (1, .int x1), (2, .int x2), (3, .int x3), (4, .long x4)]) X.1 X.2.1 dX0_partsWon_25 hl (by decide) rfl (fun ls hl => ?_)
      refine lv_iload_n X.1 X.2.1 dX0_partsWon_27 rfl (lv_at hl 4 rfl) ?_
      refine lv_iconst (v := 1) X.1 X.2.1 dX0_partsWon_28 (by decide +kernel) ?_
      have B8_47 : ∀ (locs : List Loc) (ls : Array Slot) (w8_0 : Int32), va_S (fun q : Nat => base ≤ q) s.heap s.heap locs → lv_has ls 22 [(0, .ref a0), (1, .int x1), (2, .int x2), (3, .int x3), (4, .long x4), (6, .int f6)] → W p l e (headSpec (Cond.code yX0_partsWon cX0_partsWon 22 (some .long) :: sg_tbl) ({ frames := 7, cells := 0, slots := 0, locals := 211 })).room s m #[.ref a0, .int x1, .int x2, .int x3, .long x4] below meth c s.heap locs 0 0 (MQ below (va_Ql (fun r (_ : Unit) => (fun _ : Int64 => True) r) (fun _ => sgB (KT P) D vwCl base tys ad ks) (fun q : Nat => base ≤ q)) #[.ref a0, .int x1, .int x2, .int x3, .long x4] s 0 0 (fun q : Nat => base ≤ q)) (F0 m 47 ls [.int w8_0]) := by
        intro locs ls w8_0 hS hl
        refine lv_istore (lv' := [(7, .int w8_0), (0, .ref a0), (1, .int x1), (2, .int x2), (3, .int x3), (4, .long x4), (6, .int f6)]) X.1 X.2.1 dX0_partsWon_47 hl (by decide) rfl (fun ls hl => ?_)
        refine lv_iload X.1 X.2.1 dX0_partsWon_49 (lv_at hl 0 rfl) ?_
        refine lv_if_ne (tgt := 56) X.1 X.2.1 dX0_partsWon_51 (by decide) (fun c9 => ?_) (fun c9 => ?_)
        · refine lv_aload_n X.1 X.2.1 dX0_partsWon_56 rfl (lv_at hl 1 rfl) ?_
          refine gg_X0_0 X hK hG h0 wl_2_120 kq4 dX0_partsWon_57 ?_
          refine lv_iload_n X.1 X.2.1 dX0_partsWon_60 rfl (lv_at hl 2 rfl) ?_
          refine lv_aload_n X.1 X.2.1 dX0_partsWon_61 rfl (lv_at hl 1 rfl) ?_
          refine gf_X0_1 X hK hG h0 wl_2_121 dX0_partsWon_62 (fun f10 hf10 kf10 => ?_)
          refine lv_iload_n X.1 X.2.1 dX0_partsWon_65 rfl (lv_at hl 3 rfl) ?_
          refine ca_X8_growing X hK hG hC hS hb q4 hq4 x1 f10 x2 wl_5_121 hl.1 (rest := []) rfl (Nat.le_of_ble_eq_true rfl) ⟨Nat.le_of_ble_eq_true rfl, Nat.le_of_ble_eq_true rfl⟩ ⟨Nat.le_of_ble_eq_true rfl, Nat.le_of_ble_eq_true rfl⟩ dX0_partsWon_66 (fun f11 H locs hf11 hG hS => ?_)
          refine lv_istore (lv' := [(8, .int f11), (7, .int w8_0), (0, .ref a0), (1, .int x1), (2, .int x2), (3, .int x3), (4, .long x4), (6, .int f6)]) X.1 X.2.1 dX0_partsWon_69 hl (by decide) rfl (fun ls hl => ?_)
          refine lv_iload X.1 X.2.1 dX0_partsWon_71 (lv_at hl 0 rfl) ?_
          refine ca_J6_bitCount_0f7a4 X hK hG hC (fun _ h => h) hS hb f11 wl_4_232 hl.1 (rest := []) rfl (Nat.le_of_ble_eq_true rfl) ⟨Nat.le_of_ble_eq_true rfl, Nat.le_of_ble_eq_true rfl⟩ ⟨Nat.le_of_ble_eq_true rfl, Nat.le_of_ble_eq_true rfl⟩ dX0_partsWon_73 (fun f12 locs hf12 hS => ?_)
          refine lv_istore (lv' := [(9, .int f12), (8, .int f11), (7, .int w8_0), (0, .ref a0), (1, .int x1), (2, .int x2), (3, .int x3), (4, .long x4), (6, .int f6)]) X.1 X.2.1 dX0_partsWon_76 hl (by decide) rfl (fun ls hl => ?_)
          refine lv_iload X.1 X.2.1 dX0_partsWon_78 (lv_at hl 0 rfl) ?_
          refine lv_if_ne (tgt := 97) X.1 X.2.1 dX0_partsWon_80 (by decide) (fun c13 => ?_) (fun c13 => ?_)
          · refine lv_lload X.1 X.2.1 dX0_partsWon_97 (lv_at hl 7 rfl) ?_
            refine lv_aload_n X.1 X.2.1 dX0_partsWon_99 rfl (lv_at hl 3 rfl) ?_
            refine gf_X0_2 X hK hG h0 wl_2_122 dX0_partsWon_100 (fun f14 hf14 kf14 => ?_)
            obtain ⟨g15, eg15⟩ : ∃ y : Int64, y = (f14 : Int32).toInt64 := ⟨_, rfl⟩
            refine lv_i2l (v := g15) X.1 X.2.1 dX0_partsWon_103 eg15.symm ?_
            refine lv_lmul X.1 X.2.1 dX0_partsWon_104 ?_
            refine lv_topl (fun g16 eg16 => ?_)
            refine lv_ldc2 X.1 X.2.1 X.2.2.2.1 (X.2.2.2.2 _ wl_6_57) dX0_partsWon_105 ?_
            refine lv_ldiv X.1 X.2.1 dX0_partsWon_108 (by decide +kernel) ?_
            refine lv_topl (fun g17 eg17 => ?_)
            refine lv_lstore (lv' := [(10, .long g17), (9, .int f12), (8, .int f11), (7, .int w8_0), (0, .ref a0), (1, .int x1), (2, .int x2), (3, .int x3), (4, .long x4), (6, .int f6)]) X.1 X.2.1 dX0_partsWon_109 hl (by decide) rfl (fun ls hl => ?_)
            refine lv_lload X.1 X.2.1 dX0_partsWon_111 (lv_at hl 8 rfl) ?_
            refine lv_lload X.1 X.2.1 dX0_partsWon_113 (lv_at hl 0 rfl) ?_
            refine lv_lsub X.1 X.2.1 dX0_partsWon_115 ?_
            refine lv_topl (fun g18 eg18 => ?_)
            refine lv_iload X.1 X.2.1 dX0_partsWon_116 (lv_at hl 1 rfl) ?_
            obtain ⟨g19, eg19⟩ : ∃ y : Int64, y = (f12 : Int32).toInt64 := ⟨_, rfl⟩
            refine lv_i2l (v := g19) X.1 X.2.1 dX0_partsWon_118 eg19.symm ?_
            refine lv_ldiv X.1 X.2.1 dX0_partsWon_119 (sg_i2l_ne0 eg19 (iv_ne0 (iv_ne_lo (a' := 1) c13 hf12 (by decide +kernel)) (by decide +kernel))) ?_
            refine lv_topl (fun g20 eg20 => ?_)
            refine lv_lstore (lv' := [(12, .long g20), (10, .long g17), (9, .int f12), (8, .int f11), (7, .int w8_0), (0, .ref a0), (1, .int x1), (2, .int x2), (3, .int x3), (4, .long x4), (6, .int f6)]) X.1 X.2.1 dX0_partsWon_120 hl (by decide) rfl (fun ls hl => ?_)
            refine lv_lload X.1 X.2.1 dX0_partsWon_122 (lv_at hl 9 rfl) ?_
            refine lv_lload X.1 X.2.1 dX0_partsWon_124 (lv_at hl 1 rfl) ?_
            refine lv_lsub X.1 X.2.1 dX0_partsWon_126 ?_
            refine lv_topl (fun g21 eg21 => ?_)
            refine lv_lload X.1 X.2.1 dX0_partsWon_127 (lv_at hl 0 rfl) ?_
            refine lv_iload X.1 X.2.1 dX0_partsWon_129 (lv_at hl 2 rfl) ?_
            refine lv_iconst (v := 1) X.1 X.2.1 dX0_partsWon_131 (by decide +kernel) ?_
            refine lv_isub X.1 X.2.1 dX0_partsWon_132 ?_
            refine lv_topi (fun f22 ef22 => ?_)
            obtain ⟨g23, eg23⟩ : ∃ y : Int64, y = (f22 : Int32).toInt64 := ⟨_, rfl⟩
            refine lv_i2l (v := g23) X.1 X.2.1 dX0_partsWon_133 eg23.symm ?_
            refine lv_lmul X.1 X.2.1 dX0_partsWon_134 ?_
            refine lv_topl (fun g24 eg24 => ?_)
            refine lv_lsub X.1 X.2.1 dX0_partsWon_135 ?_
            refine lv_topl (fun g25 eg25 => ?_)
            refine lv_lstore (lv' := [(14, .long g25), (12, .long g20), (10, .long g17), (9, .int f12), (8, .int f11), (7, .int w8_0), (0, .ref a0), (1, .int x1), (2, .int x2), (3, .int x3), (4, .long x4), (6, .int f6)]) X.1 X.2.1 dX0_partsWon_136 hl (by decide) rfl (fun ls hl => ?_)
            refine lv_aload_n X.1 X.2.1 dX0_partsWon_138 rfl (lv_at hl 6 rfl) ?_
            refine lv_iload_n X.1 X.2.1 dX0_partsWon_139 rfl (lv_at hl 7 rfl) ?_
            refine lv_iload_n X.1 X.2.1 dX0_partsWon_140 rfl (lv_at hl 8 rfl) ?_
            refine lv_iconst (v := 1) X.1 X.2.1 dX0_partsWon_141 (by decide +kernel) ?_
            refine lv_iadd X.1 X.2.1 dX0_partsWon_142 ?_
            refine lv_topi (fun f26 ef26 => ?_)
            refine lv_iload_n X.1 X.2.1 dX0_partsWon_143 rfl (lv_at hl 9 rfl) ?_
            refine lv_iconst (v := 1) X.1 X.2.1 dX0_partsWon_144 (by decide +kernel) ?_
            refine lv_isub X.1 X.2.1 dX0_partsWon_145 ?_
            refine lv_topi (fun f27 ef27 => ?_)
            refine lv_lload X.1 X.2.1 dX0_partsWon_146 (lv_at hl 2 rfl) ?_
            refine ca_X0_partsWon_2 X hK hG hC hS hb a0 h0 x1 f26 f27 (iv_of (iv_sub (a' := 0) (b' := 2) ef27 (iv_ler (c' := 1) (iv_ge_of c1) (iv_c 1 (a := 1) (b := 1) (by decide +kernel)) h3 (by decide +kernel)) (iv_c 1 (a := 1) (b := 1) (by decide +kernel)) (by decide +kernel)) (a' := (-2147483648)) (b' := 2) (by decide +kernel)) g17 wl_6_52 hl.1 (rest := []) rfl (Nat.le_of_ble_eq_true rfl) ⟨Nat.le_of_ble_eq_true rfl, Nat.le_of_ble_eq_true rfl⟩ ⟨Nat.le_of_ble_eq_true rfl, Nat.le_of_ble_eq_true rfl⟩ dX0_partsWon_148 (fun g28 H locs hg28 hG hS => ?_)
            refine lv_lstore (lv' := [(16, .long g28), (14, .long g25), (12, .long g20), (10, .long g17), (9, .int f12), (8, .int f11), (7, .int w8_0), (0, .ref a0), (1, .int x1), (2, .int x2), (3, .int x3), (4, .long x4), (6, .int f6)]) X.1 X.2.1 dX0_partsWon_151 hl (by decide) rfl (fun ls hl => ?_)
            refine lv_iconst (v := 0) X.1 X.2.1 dX0_partsWon_153 (by decide +kernel) ?_
            refine lv_istore (lv' := [(18, .int 0), (16, .long g28), (14, .long g25), (12, .long g20), (10, .long g17), (9, .int f12), (8, .int f11), (7, .int w8_0), (0, .ref a0), (1, .int x1), (2, .int x2), (3, .int x3), (4, .long x4), (6, .int f6)]) X.1 X.2.1 dX0_partsWon_154 hl (by decide) rfl (fun ls hl => ?_)
            have B29_156 : ∀ (N : Nat) (H : Heap) (locs : List Loc) (ls : Array Slot) (z29_16 : Int64) (z29_18 : Int32), sgG (KT P) D vwCl (fun q : Nat => base ≤ q) tys ad ks H → va_S (fun q : Nat => base ≤ q) s.heap H locs → lv_has ls 22 [(0, .ref a0), (1, .int x1), (2, .int x2), (3, .int x3), (6, .int f6), (7, .int w8_0), (8, .int f11), (12, .long g20), (14, .long g25), (16, .long z29_16), (18, .int z29_18)] → iv 0 30 z29_18 → (31 - z29_18.toInt).toNat ≤ N → W p l e (headSpec (Cond.code yX0_partsWon cX0_partsWon 22 (some .long) :: sg_tbl) ({ frames := 7, cells := 0, slots := 0, locals := 211 })).room s m #[.ref a0, .int x1, .int x2, .int x3, .long x4] below meth c H locs 0 0 (MQ below (va_Ql (fun r (_ : Unit) => (fun _ : Int64 => True) r) (fun _ => sgB (KT P) D vwCl base tys ad ks) (fun q : Nat => base ≤ q)) #[.ref a0, .int x1, .int x2, .int x3, .long x4] s 0 0 (fun q : Nat => base ≤ q)) (F0 m 156 ls []) := by
              intro N; induction N with
              | zero =>
                intro H locs ls z29_16 z29_18 hG hS hl hz29_18 hN
                exact absurd hN (by have := iv_up hz29_18; omega)
              | succ N ih29 =>
                intro H locs ls z29_16 z29_18 hG hS hl hz29_18 hN29
                refine lv_iload X.1 X.2.1 dX0_partsWon_156 (lv_at hl 10 rfl) ?_
                refine lv_aload_n X.1 X.2.1 dX0_partsWon_158 rfl (lv_at hl 0 rfl) ?_
                refine gf_X0_0 X hK hG h0 wl_2_120 dX0_partsWon_159 (fun q30 hq30 kq30 => ?_)
                refine gf_X8_0 X hK hG hq30 wl_2_38 dX0_partsWon_162 (fun q31 hq31 kq31 => ?_)
                refine gf_X4_5 X hK hG hq31 wl_1_219 dX0_partsWon_165 (fun f32 hf32 kf32 => ?_)
                refine lv_icmp_ge (tgt := 258) X.1 X.2.1 dX0_partsWon_168 (by decide) (fun c33 => ?_) (fun c33 => ?_)
                · refine lv_lload X.1 X.2.1 dX0_partsWon_258 (lv_at hl 9 rfl) ?_
                  exact sg_lret X hr hlk hb hK hC hG hS trivial dX0_partsWon_260
                · refine lv_iload X.1 X.2.1 dX0_partsWon_171 (lv_at hl 6 rfl) ?_
                  refine lv_iload X.1 X.2.1 dX0_partsWon_173 (lv_at hl 5 rfl) ?_
                  refine lv_iand X.1 X.2.1 dX0_partsWon_175 ?_
                  refine lv_topi (fun f34 ef34 => ?_)
                  refine lv_iconst (v := 1) X.1 X.2.1 dX0_partsWon_176 (by decide +kernel) ?_
                  refine lv_iload X.1 X.2.1 dX0_partsWon_177 (lv_at hl 10 rfl) ?_
                  refine lv_ishl X.1 X.2.1 dX0_partsWon_179 ?_
                  refine lv_topi (fun f35 ef35 => ?_)
                  refine lv_iand X.1 X.2.1 dX0_partsWon_180 ?_
                  refine lv_topi (fun f36 ef36 => ?_)
                  have B38_252 : ∀ (H : Heap) (locs : List Loc) (ls : Array Slot) (z38_16 : Int64), sgG (KT P) D vwCl (fun q : Nat => base ≤ q) tys ad ks H → va_S (fun q : Nat => base ≤ q) s.heap H locs → lv_has ls 22 [(0, .ref a0), (1, .int x1), (2, .int x2), (3, .int x3), (6, .int f6), (7, .int w8_0), (8, .int f11), (12, .long g20), (14, .long g25), (16, .long z38_16), (18, .int z29_18)] → W p l e (headSpec (Cond.code yX0_partsWon cX0_partsWon 22 (some .long) :: sg_tbl) ({ frames := 7, cells := 0, slots := 0, locals := 211 })).room s m #[.ref a0, .int x1, .int x2, .int x3, .long x4] below meth c H locs 0 0 (MQ below (va_Ql (fun r (_ : Unit) => (fun _ : Int64 => True) r) (fun _ => sgB (KT P) D vwCl base tys ad ks) (fun q : Nat => base ≤ q)) #[.ref a0, .int x1, .int x2, .int x3, .long x4] s 0 0 (fun q : Nat => base ≤ q)) (F0 m 252 ls []) := by
                    intro H locs ls z38_16 hG hS hl
                    obtain ⟨y39, ey39⟩ : ∃ y : Int32, y = z29_18 + Int32.ofInt 1 := ⟨_, rfl⟩
                    refine lv_iinc (v := y39) (lv' := [(18, .int y39), (0, .ref a0), (1, .int x1), (2, .int x2), (3, .int x3), (6, .int f6), (7, .int w8_0), (8, .int f11), (12, .long g20), (14, .long g25), (16, .long z38_16)]) X.1 X.2.1 dX0_partsWon_252 hl (k := 10) rfl ey39.symm (by decide) rfl (fun ls hl => ?_)
                    refine lv_goto (tgt := 156) X.1 X.2.1 dX0_partsWon_255 (by decide) ?_
                    exact ih29 H _ _ z38_16 y39 hG hS (lv_sub hl [1, 2, 3, 4, 5, 6, 7, 8, 9, 10, 0] rfl) (iv_of (iv_add (a' := 1) (b' := 30) ey39 (iv_lt (b' := 29) (iv_gt_of c33) hz29_18 hf32 (by decide +kernel)) (iv_c _ (a := 1) (b := 1) (by decide +kernel)) (by decide +kernel)) (a' := 0) (b' := 30) (by decide +kernel)) (iv_stepU ey39 (iv_lt (b' := 29) (iv_gt_of c33) hz29_18 hf32 (by decide +kernel)) (by decide +kernel) hN29)
                  refine lv_if_eq (tgt := 252) X.1 X.2.1 dX0_partsWon_181 (by decide) (fun c37 => ?_) (fun c37 => ?_)
                  · exact B38_252 H _ _ z29_16 hG hS (lv_sub hl [0, 1, 2, 3, 4, 5, 6, 7, 8, 9, 10] rfl)
                  · refine lv_iload X.1 X.2.1 dX0_partsWon_184 (lv_at hl 6 rfl) ?_
                    refine lv_iload X.1 X.2.1 dX0_partsWon_186 (lv_at hl 10 rfl) ?_
                    refine lv_ishr X.1 X.2.1 dX0_partsWon_188 ?_
                    refine lv_topi (fun f40 ef40 => ?_)
                    refine lv_iconst (v := 1) X.1 X.2.1 dX0_partsWon_189 (by decide +kernel) ?_
                    have B42_200 : ∀ (locs : List Loc) (ls : Array Slot) (w42_0 : Int64), va_S (fun q : Nat => base ≤ q) s.heap H locs → lv_has ls 22 [(0, .ref a0), (1, .int x1), (2, .int x2), (3, .int x3), (6, .int f6), (7, .int w8_0), (8, .int f11), (12, .long g20), (14, .long g25), (16, .long z29_16), (18, .int z29_18)] → W p l e (headSpec (Cond.code yX0_partsWon cX0_partsWon 22 (some .long) :: sg_tbl) ({ frames := 7, cells := 0, slots := 0, locals := 211 })).room s m #[.ref a0, .int x1, .int x2, .int x3, .long x4] below meth c H locs 0 0 (MQ below (va_Ql (fun r (_ : Unit) => (fun _ : Int64 => True) r) (fun _ => sgB (KT P) D vwCl base tys ad ks) (fun q : Nat => base ≤ q)) #[.ref a0, .int x1, .int x2, .int x3, .long x4] s 0 0 (fun q : Nat => base ≤ q)) (F0 m 200 ls [.long w42_0]) := by
                      intro locs ls w42_0 hS hl
                      refine lv_lstore (lv' := [(19, .long w42_0), (0, .ref a0), (1, .int x1), (2, .int x2), (3, .int x3), (6, .int f6), (7, .int w8_0), (8, .int f11), (12, .long g20), (14, .long g25), (16, .long z29_16), (18, .int z29_18)]) X.1 X.2.1 dX0_partsWon_200 hl (by decide) rfl (fun ls hl => ?_)
                      refine lv_iload X.1 X.2.1 dX0_partsWon_202 (lv_at hl 5 rfl) ?_
                      refine lv_iload X.1 X.2.1 dX0_partsWon_204 (lv_at hl 11 rfl) ?_
                      refine lv_ishr X.1 X.2.1 dX0_partsWon_206 ?_
                      refine lv_topi (fun f43 ef43 => ?_)
                      refine lv_iconst (v := 1) X.1 X.2.1 dX0_partsWon_207 (by decide +kernel) ?_
                      refine lv_iand X.1 X.2.1 dX0_partsWon_208 ?_
                      refine lv_topi (fun f44 ef44 => ?_)
                      have B46_217 : ∀ (locs : List Loc) (ls : Array Slot) (w46_0 : Int32), va_S (fun q : Nat => base ≤ q) s.heap H locs → lv_has ls 22 [(0, .ref a0), (1, .int x1), (2, .int x2), (3, .int x3), (6, .int f6), (7, .int w8_0), (8, .int f11), (12, .long g20), (14, .long g25), (16, .long z29_16), (18, .int z29_18), (19, .long w42_0)] → iv 0 1 w46_0 → W p l e (headSpec (Cond.code yX0_partsWon cX0_partsWon 22 (some .long) :: sg_tbl) ({ frames := 7, cells := 0, slots := 0, locals := 211 })).room s m #[.ref a0, .int x1, .int x2, .int x3, .long x4] below meth c H locs 0 0 (MQ below (va_Ql (fun r (_ : Unit) => (fun _ : Int64 => True) r) (fun _ => sgB (KT P) D vwCl base tys ad ks) (fun q : Nat => base ≤ q)) #[.ref a0, .int x1, .int x2, .int x3, .long x4] s 0 0 (fun q : Nat => base ≤ q)) (F0 m 217 ls [.int w46_0]) := by
                        intro locs ls w46_0 hS hl hw46_0
                        refine lv_istore (lv' := [(21, .int w46_0), (0, .ref a0), (1, .int x1), (2, .int x2), (3, .int x3), (6, .int f6), (7, .int w8_0), (8, .int f11), (12, .long g20), (14, .long g25), (16, .long z29_16), (18, .int z29_18), (19, .long w42_0)]) X.1 X.2.1 dX0_partsWon_217 hl (by decide) rfl (fun ls hl => ?_)
                        refine lv_lload X.1 X.2.1 dX0_partsWon_219 (lv_at hl 10 rfl) ?_
                        refine lv_iload X.1 X.2.1 dX0_partsWon_221 (lv_at hl 0 rfl) ?_
                        have B48_249 : ∀ (H : Heap) (locs : List Loc) (ls : Array Slot) (w48_0 : Int64), sgG (KT P) D vwCl (fun q : Nat => base ≤ q) tys ad ks H → va_S (fun q : Nat => base ≤ q) s.heap H locs → lv_has ls 22 [(0, .ref a0), (1, .int x1), (2, .int x2), (3, .int x3), (6, .int f6), (7, .int w8_0), (8, .int f11), (12, .long g20), (14, .long g25), (18, .int z29_18)] → W p l e (headSpec (Cond.code yX0_partsWon cX0_partsWon 22 (some .long) :: sg_tbl) ({ frames := 7, cells := 0, slots := 0, locals := 211 })).room s m #[.ref a0, .int x1, .int x2, .int x3, .long x4] below meth c H locs 0 0 (MQ below (va_Ql (fun r (_ : Unit) => (fun _ : Int64 => True) r) (fun _ => sgB (KT P) D vwCl base tys ad ks) (fun q : Nat => base ≤ q)) #[.ref a0, .int x1, .int x2, .int x3, .long x4] s 0 0 (fun q : Nat => base ≤ q)) (F0 m 249 ls [.long w48_0, .long z29_16]) := by
                          intro H locs ls w48_0 hG hS hl
                          refine lv_ladd X.1 X.2.1 dX0_partsWon_249 ?_
                          refine lv_topl (fun g49 eg49 => ?_)
                          refine lv_lstore (lv' := [(16, .long g49), (0, .ref a0), (1, .int x1), (2, .int x2), (3, .int x3), (6, .int f6), (7, .int w8_0), (8, .int f11), (12, .long g20), (14, .long g25), (18, .int z29_18)]) X.1 X.2.1 dX0_partsWon_250 hl (by decide) rfl (fun ls hl => ?_)
                          exact B38_252 H _ _ g49 hG hS (lv_sub hl [1, 2, 3, 4, 5, 6, 7, 8, 9, 0, 10] rfl)
                        refine lv_if_eq (tgt := 231) X.1 X.2.1 dX0_partsWon_223 (by decide) (fun c47 => ?_) (fun c47 => ?_)
                        · refine lv_aload_n X.1 X.2.1 dX0_partsWon_231 rfl (lv_at hl 1 rfl) ?_
                          refine lv_iload_n X.1 X.2.1 dX0_partsWon_232 rfl (lv_at hl 2 rfl) ?_
                          refine lv_iconst (v := 1) X.1 X.2.1 dX0_partsWon_233 (by decide +kernel) ?_
                          refine lv_iload X.1 X.2.1 dX0_partsWon_234 (lv_at hl 11 rfl) ?_
                          refine lv_ishl X.1 X.2.1 dX0_partsWon_236 ?_
                          refine lv_topi (fun f50 ef50 => ?_)
                          refine lv_ior X.1 X.2.1 dX0_partsWon_237 ?_
                          refine lv_topi (fun f51 ef51 => ?_)
                          refine lv_iload_n X.1 X.2.1 dX0_partsWon_238 rfl (lv_at hl 3 rfl) ?_
                          refine lv_iconst (v := 1) X.1 X.2.1 dX0_partsWon_239 (by decide +kernel) ?_
                          refine lv_iadd X.1 X.2.1 dX0_partsWon_240 ?_
                          refine lv_topi (fun f52 ef52 => ?_)
                          refine lv_iload_n X.1 X.2.1 dX0_partsWon_241 rfl (lv_at hl 4 rfl) ?_
                          refine lv_iconst (v := 1) X.1 X.2.1 dX0_partsWon_242 (by decide +kernel) ?_
                          refine lv_isub X.1 X.2.1 dX0_partsWon_243 ?_
                          refine lv_topi (fun f53 ef53 => ?_)
                          refine lv_lload X.1 X.2.1 dX0_partsWon_244 (lv_at hl 12 rfl) ?_
                          refine ca_X0_partsWon_2 X hK hG hC hS hb a0 h0 f51 f52 f53 (iv_of (iv_sub (a' := 0) (b' := 2) ef53 (iv_ler (c' := 1) (iv_ge_of c1) (iv_c 1 (a := 1) (b := 1) (by decide +kernel)) h3 (by decide +kernel)) (iv_c 1 (a := 1) (b := 1) (by decide +kernel)) (by decide +kernel)) (a' := (-2147483648)) (b' := 2) (by decide +kernel)) w42_0 wl_6_52 hl.1 (rest := [.long z29_16]) rfl (Nat.le_of_ble_eq_true rfl) ⟨Nat.le_of_ble_eq_true rfl, Nat.le_of_ble_eq_true rfl⟩ ⟨Nat.le_of_ble_eq_true rfl, Nat.le_of_ble_eq_true rfl⟩ dX0_partsWon_246 (fun g54 H locs hg54 hG hS => ?_)
                          exact B48_249 H _ _ g54 hG hS (lv_sub hl [1, 2, 3, 4, 5, 6, 7, 8, 9, 11] rfl)
                        · refine lv_lload X.1 X.2.1 dX0_partsWon_226 (lv_at hl 12 rfl) ?_
                          refine lv_goto (tgt := 249) X.1 X.2.1 dX0_partsWon_228 (by decide) ?_
                          exact B48_249 H _ _ w42_0 hG hS (lv_sub hl [1, 2, 3, 4, 5, 6, 7, 8, 9, 11] rfl)
                      refine lv_if_eq (tgt := 216) X.1 X.2.1 dX0_partsWon_209 (by decide) (fun c45 => ?_) (fun c45 => ?_)
                      · refine lv_iconst (v := 0) X.1 X.2.1 dX0_partsWon_216 (by decide +kernel) ?_
                        exact B46_217 _ _ 0 hS (lv_sub hl [1, 2, 3, 4, 5, 6, 7, 8, 9, 10, 11, 0] rfl) (iv_of (iv_c 0 (a := 0) (b := 0) (by decide +kernel)) (a' := 0) (b' := 1) (by decide +kernel))
                      · refine lv_iconst (v := 1) X.1 X.2.1 dX0_partsWon_212 (by decide +kernel) ?_
                        refine lv_goto (tgt := 217) X.1 X.2.1 dX0_partsWon_213 (by decide) ?_
                        exact B46_217 _ _ 1 hS (lv_sub hl [1, 2, 3, 4, 5, 6, 7, 8, 9, 10, 11, 0] rfl) (iv_of (iv_c 1 (a := 1) (b := 1) (by decide +kernel)) (a' := 0) (b' := 1) (by decide +kernel))
                    refine lv_icmp_ne (tgt := 198) X.1 X.2.1 dX0_partsWon_190 (by decide) (fun c41 => ?_) (fun c41 => ?_)
                    · refine lv_lload X.1 X.2.1 dX0_partsWon_198 (lv_at hl 7 rfl) ?_
                      exact B42_200 _ _ g20 hS (lv_sub hl [0, 1, 2, 3, 4, 5, 6, 7, 8, 9, 10] rfl)
                    · refine lv_lload X.1 X.2.1 dX0_partsWon_193 (lv_at hl 8 rfl) ?_
                      refine lv_goto (tgt := 200) X.1 X.2.1 dX0_partsWon_195 (by decide) ?_
                      exact B42_200 _ _ g25 hS (lv_sub hl [0, 1, 2, 3, 4, 5, 6, 7, 8, 9, 10] rfl)
            exact B29_156 _ H _ _ g28 0 hG hS (lv_sub hl [8, 9, 10, 11, 13, 7, 6, 3, 2, 1, 0] rfl) (iv_of (iv_c 0 (a := 0) (b := 0) (by decide +kernel)) (a' := 0) (b' := 30) (by decide +kernel)) (Nat.le_refl _)
          · refine lv_aload_n X.1 X.2.1 dX0_partsWon_83 rfl (lv_at hl 3 rfl) ?_
            refine lv_iload_n X.1 X.2.1 dX0_partsWon_84 rfl (lv_at hl 4 rfl) ?_
            refine lv_iload_n X.1 X.2.1 dX0_partsWon_85 rfl (lv_at hl 5 rfl) ?_
            refine lv_iconst (v := 1) X.1 X.2.1 dX0_partsWon_86 (by decide +kernel) ?_
            refine lv_iadd X.1 X.2.1 dX0_partsWon_87 ?_
            refine lv_topi (fun f55 ef55 => ?_)
            refine lv_iload_n X.1 X.2.1 dX0_partsWon_88 rfl (lv_at hl 6 rfl) ?_
            refine lv_iconst (v := 1) X.1 X.2.1 dX0_partsWon_89 (by decide +kernel) ?_
            refine lv_isub X.1 X.2.1 dX0_partsWon_90 ?_
            refine lv_topi (fun f56 ef56 => ?_)
            refine lv_lload X.1 X.2.1 dX0_partsWon_91 (lv_at hl 7 rfl) ?_
            refine ca_X0_partsWon_2 X hK hG hC hS hb a0 h0 x1 f55 f56 (iv_of (iv_sub (a' := 0) (b' := 2) ef56 (iv_ler (c' := 1) (iv_ge_of c1) (iv_c 1 (a := 1) (b := 1) (by decide +kernel)) h3 (by decide +kernel)) (iv_c 1 (a := 1) (b := 1) (by decide +kernel)) (by decide +kernel)) (a' := (-2147483648)) (b' := 2) (by decide +kernel)) x4 wl_6_52 hl.1 (rest := []) rfl (Nat.le_of_ble_eq_true rfl) ⟨Nat.le_of_ble_eq_true rfl, Nat.le_of_ble_eq_true rfl⟩ ⟨Nat.le_of_ble_eq_true rfl, Nat.le_of_ble_eq_true rfl⟩ dX0_partsWon_93 (fun g57 H locs hg57 hG hS => ?_)
            exact sg_lret X hr hlk hb hK hC hG hS trivial dX0_partsWon_96
        · refine lv_lconst (v := 0) X.1 X.2.1 dX0_partsWon_54 (by decide +kernel) ?_
          exact sg_lret X hr hlk hb hK hC hG hS trivial dX0_partsWon_55
      refine lv_icmp_ne (tgt := 37) X.1 X.2.1 dX0_partsWon_29 (by decide) (fun c7 => ?_) (fun c7 => ?_)
      · refine lv_aload_n X.1 X.2.1 dX0_partsWon_37 rfl (lv_at hl 1 rfl) ?_
        refine gg_X0_0 X hK hG h0 wl_2_120 kq4 dX0_partsWon_38 ?_
        refine gg_X8_0 X hK hG hq4 wl_2_38 kq5 dX0_partsWon_41 ?_
        refine gf_X4_6 X hK hG hq5 wl_1_223 dX0_partsWon_44 (fun f58 hf58 kf58 => ?_)
        exact B8_47 _ _ f58 hS (lv_sub hl [1, 2, 3, 4, 5, 0] rfl)
      · refine lv_iload X.1 X.2.1 dX0_partsWon_32 (lv_at hl 0 rfl) ?_
        refine lv_goto (tgt := 47) X.1 X.2.1 dX0_partsWon_34 (by decide) ?_
        exact B8_47 _ _ f6 hS (lv_sub hl [1, 2, 3, 4, 5, 0] rfl)
    · refine lv_lconst (v := 0) X.1 X.2.1 dX0_partsWon_12 (by decide +kernel) ?_
      exact sg_lret X hr hlk hb hK hC hG hS trivial dX0_partsWon_13

theorem ca_X0_partsWon_3   (X : CallFix p m c cc nL s args sg_tbl own) (hK : va_K D vwCl tys s) (hG : sgG (KT P) D vwCl (fun q : Nat => base ≤ q) tys ad ks H) (hC : sgC base s) (hS : va_S (fun q : Nat => base ≤ q) s.heap H locs) (hb : base ≤ s.heap.size) (a0 : Nat) (h0 : isK ad ks 0 a0) (x1 : Int32) (x2 : Int32) (x3 : Int32) (h3 : iv (-2147483648) 3 x3) (x4 : Int64) (hl : Cond.methodLink own index yX0_partsWon ∈ sg_tbl) (hsize : ls.size = nL) (hst : st0 = [.int x1, .int x2, .int x3, .long x4].reverse ++ .ref a0 :: rest) (hW : (rest.map fun v => v.category).sum ≤ 8) (hR : 8 ≤ R.frames ∧ 252 ≤ R.locals) (hf : cells ≤ R.cells ∧ slots ≤ R.slots) (hdg : decode cc pc = .ok (.invokevirtual index, 3)) (kk : ∀ (r : Int64) (H1 : Heap) (locs1 : List Loc), (fun _ : Int64 => True) r → sgG (KT P) D vwCl (fun q : Nat => base ≤ q) tys ad ks H1 → va_S (fun q : Nat => base ≤ q) s.heap H1 locs1 → W p l e R s m args below meth c H1 locs1 cells slots Q (F0 m (pc + 3) ls (.long r :: rest))) : W p l e R s m args below meth c H locs cells slots Q (F0 m pc ls st0) :=
  sg_callVl X hK hG hC hS hb (m_X0_partsWon_3 l a0 h0 x1 x2 x3 h3 x4) h0 (k := 0) (ci := 0) rfl (C := RX0) (T := TX0) (N := 5) rfl wl_6_55 wl_1_10 wl_6_54 wl_0_46 (n := 4) (by decide +kernel) rfl rfl rfl hl hsize hst hW hR hf hdg kk
end
