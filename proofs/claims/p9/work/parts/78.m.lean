abbrev cX12_fault : ByteArray := prog_14_method_39_code
def yX12_fault : MethodName := ⟨RX12, "fault", "(I)I"⟩
abbrev cX12_text : ByteArray := prog_14_method_40_code
def yX12_text : MethodName := ⟨RX12, "text", "(I)I"⟩
theorem dX12_fault_0 : decode cX12_fault 0 = .ok (.aload_n 0, 1) := by decide +kernel
theorem dX12_fault_1 : decode cX12_fault 1 = .ok (.iconst 0, 1) := by decide +kernel
theorem dX12_fault_2 : decode cX12_fault 2 = .ok (.putfield 94, 3) := by decide +kernel
theorem dX12_fault_5 : decode cX12_fault 5 = .ok (.iload_n 1, 1) := by decide +kernel
theorem dX12_fault_6 : decode cX12_fault 6 = .ok (.i2l, 1) := by decide +kernel
theorem dX12_fault_7 : decode cX12_fault 7 = .ok (.lconst 0, 1) := by decide +kernel
theorem dX12_fault_8 : decode cX12_fault 8 = .ok (.ldc2_w 283, 3) := by decide +kernel
theorem dX12_fault_11 : decode cX12_fault 11 = .ok (.invokestatic 215, 3) := by decide +kernel
theorem dX12_fault_14 : decode cX12_fault 14 = .ok (.ifCond .ne 6, 3) := by decide +kernel
theorem dX12_fault_17 : decode cX12_fault 17 = .ok (.bipush (-2), 2) := by decide +kernel
theorem dX12_fault_19 : decode cX12_fault 19 = .ok (.ireturn, 1) := by decide +kernel
theorem dX12_fault_20 : decode cX12_fault 20 = .ok (.iload_n 1, 1) := by decide +kernel
theorem dX12_fault_21 : decode cX12_fault 21 = .ok (.ifCond .ne 7, 3) := by decide +kernel
theorem dX12_fault_24 : decode cX12_fault 24 = .ok (.aload_n 0, 1) := by decide +kernel
theorem dX12_fault_25 : decode cX12_fault 25 = .ok (.invokevirtual 285, 3) := by decide +kernel
theorem dX12_fault_28 : decode cX12_fault 28 = .ok (.iload_n 1, 1) := by decide +kernel
theorem dX12_fault_29 : decode cX12_fault 29 = .ok (.iconst 1, 1) := by decide +kernel
theorem dX12_fault_30 : decode cX12_fault 30 = .ok (.if_icmp .ne 16, 3) := by decide +kernel
theorem dX12_fault_33 : decode cX12_fault 33 = .ok (.aload_n 0, 1) := by decide +kernel
theorem dX12_fault_34 : decode cX12_fault 34 = .ok (.aload_n 0, 1) := by decide +kernel
theorem dX12_fault_35 : decode cX12_fault 35 = .ok (.getfield 9, 3) := by decide +kernel
theorem dX12_fault_38 : decode cX12_fault 38 = .ok (.iconst 0, 1) := by decide +kernel
theorem dX12_fault_39 : decode cX12_fault 39 = .ok (.aload_n 0, 1) := by decide +kernel
theorem dX12_fault_40 : decode cX12_fault 40 = .ok (.getfield 107, 3) := by decide +kernel
theorem dX12_fault_43 : decode cX12_fault 43 = .ok (.invokevirtual 288, 3) := by decide +kernel
theorem dX12_fault_46 : decode cX12_fault 46 = .ok (.iload_n 1, 1) := by decide +kernel
theorem dX12_fault_47 : decode cX12_fault 47 = .ok (.iconst 2, 1) := by decide +kernel
theorem dX12_fault_48 : decode cX12_fault 48 = .ok (.if_icmp .ne 7, 3) := by decide +kernel
theorem dX12_fault_51 : decode cX12_fault 51 = .ok (.aload_n 0, 1) := by decide +kernel
theorem dX12_fault_52 : decode cX12_fault 52 = .ok (.invokevirtual 291, 3) := by decide +kernel
theorem dX12_fault_55 : decode cX12_fault 55 = .ok (.aload_n 0, 1) := by decide +kernel
theorem dX12_fault_56 : decode cX12_fault 56 = .ok (.getfield 126, 3) := by decide +kernel
theorem dX12_fault_59 : decode cX12_fault 59 = .ok (.ireturn, 1) := by decide +kernel
theorem dX12_text_0 : decode cX12_text 0 = .ok (.aload_n 0, 1) := by decide +kernel
theorem dX12_text_1 : decode cX12_text 1 = .ok (.iconst 0, 1) := by decide +kernel
theorem dX12_text_2 : decode cX12_text 2 = .ok (.putfield 94, 3) := by decide +kernel
theorem dX12_text_5 : decode cX12_text 5 = .ok (.iload_n 1, 1) := by decide +kernel
theorem dX12_text_6 : decode cX12_text 6 = .ok (.i2l, 1) := by decide +kernel
theorem dX12_text_7 : decode cX12_text 7 = .ok (.lconst 0, 1) := by decide +kernel
theorem dX12_text_8 : decode cX12_text 8 = .ok (.ldc2_w 283, 3) := by decide +kernel
theorem dX12_text_11 : decode cX12_text 11 = .ok (.invokestatic 215, 3) := by decide +kernel
theorem dX12_text_14 : decode cX12_text 14 = .ok (.ifCond .eq 38, 3) := by decide +kernel
theorem dX12_text_17 : decode cX12_text 17 = .ok (.iload_n 1, 1) := by decide +kernel
theorem dX12_text_18 : decode cX12_text 18 = .ok (.iconst 1, 1) := by decide +kernel
theorem dX12_text_19 : decode cX12_text 19 = .ok (.if_icmp .ne 11, 3) := by decide +kernel
theorem dX12_text_22 : decode cX12_text 22 = .ok (.aload_n 0, 1) := by decide +kernel
theorem dX12_text_23 : decode cX12_text 23 = .ok (.getfield 294, 3) := by decide +kernel
theorem dX12_text_26 : decode cX12_text 26 = .ok (.iconst 4, 1) := by decide +kernel
theorem dX12_text_27 : decode cX12_text 27 = .ok (.if_icmp .eq 25, 3) := by decide +kernel
theorem dX12_text_30 : decode cX12_text 30 = .ok (.iload_n 1, 1) := by decide +kernel
theorem dX12_text_31 : decode cX12_text 31 = .ok (.iconst 2, 1) := by decide +kernel
theorem dX12_text_32 : decode cX12_text 32 = .ok (.if_icmp .ne 11, 3) := by decide +kernel
theorem dX12_text_35 : decode cX12_text 35 = .ok (.aload_n 0, 1) := by decide +kernel
theorem dX12_text_36 : decode cX12_text 36 = .ok (.getfield 297, 3) := by decide +kernel
theorem dX12_text_39 : decode cX12_text 39 = .ok (.iconst 4, 1) := by decide +kernel
theorem dX12_text_40 : decode cX12_text 40 = .ok (.if_icmp .eq 12, 3) := by decide +kernel
theorem dX12_text_43 : decode cX12_text 43 = .ok (.aload_n 0, 1) := by decide +kernel
theorem dX12_text_44 : decode cX12_text 44 = .ok (.iload_n 1, 1) := by decide +kernel
theorem dX12_text_45 : decode cX12_text 45 = .ok (.invokevirtual 300, 3) := by decide +kernel
theorem dX12_text_48 : decode cX12_text 48 = .ok (.iconst (-1), 1) := by decide +kernel
theorem dX12_text_49 : decode cX12_text 49 = .ok (.if_icmp .eq 5, 3) := by decide +kernel
theorem dX12_text_52 : decode cX12_text 52 = .ok (.iconst (-1), 1) := by decide +kernel
theorem dX12_text_53 : decode cX12_text 53 = .ok (.ireturn, 1) := by decide +kernel
theorem dX12_text_54 : decode cX12_text 54 = .ok (.aload_n 0, 1) := by decide +kernel
theorem dX12_text_55 : decode cX12_text 55 = .ok (.getfield 107, 3) := by decide +kernel
theorem dX12_text_58 : decode cX12_text 58 = .ok (.istore_n 2, 1) := by decide +kernel
theorem dX12_text_59 : decode cX12_text 59 = .ok (.aload_n 0, 1) := by decide +kernel
theorem dX12_text_60 : decode cX12_text 60 = .ok (.iconst 0, 1) := by decide +kernel
theorem dX12_text_61 : decode cX12_text 61 = .ok (.putfield 107, 3) := by decide +kernel
theorem dX12_text_64 : decode cX12_text 64 = .ok (.iload_n 1, 1) := by decide +kernel
theorem dX12_text_65 : decode cX12_text 65 = .ok (.iconst 1, 1) := by decide +kernel
theorem dX12_text_66 : decode cX12_text 66 = .ok (.if_icmp .ne 64, 3) := by decide +kernel
theorem dX12_text_69 : decode cX12_text 69 = .ok (.iconst 0, 1) := by decide +kernel
theorem dX12_text_70 : decode cX12_text 70 = .ok (.istore_n 3, 1) := by decide +kernel
theorem dX12_text_71 : decode cX12_text 71 = .ok (.iload_n 3, 1) := by decide +kernel
theorem dX12_text_72 : decode cX12_text 72 = .ok (.iload_n 2, 1) := by decide +kernel
theorem dX12_text_73 : decode cX12_text 73 = .ok (.if_icmp .ge 30, 3) := by decide +kernel
theorem dX12_text_76 : decode cX12_text 76 = .ok (.aload_n 0, 1) := by decide +kernel
theorem dX12_text_77 : decode cX12_text 77 = .ok (.getfield 13, 3) := by decide +kernel
theorem dX12_text_80 : decode cX12_text 80 = .ok (.sipush 240, 3) := by decide +kernel
theorem dX12_text_83 : decode cX12_text 83 = .ok (.aload_n 0, 1) := by decide +kernel
theorem dX12_text_84 : decode cX12_text 84 = .ok (.getfield 294, 3) := by decide +kernel
theorem dX12_text_87 : decode cX12_text 87 = .ok (.imul, 1) := by decide +kernel
theorem dX12_text_88 : decode cX12_text 88 = .ok (.iload_n 3, 1) := by decide +kernel
theorem dX12_text_89 : decode cX12_text 89 = .ok (.iadd, 1) := by decide +kernel
theorem dX12_text_90 : decode cX12_text 90 = .ok (.aload_n 0, 1) := by decide +kernel
theorem dX12_text_91 : decode cX12_text 91 = .ok (.getfield 9, 3) := by decide +kernel
theorem dX12_text_94 : decode cX12_text 94 = .ok (.iload_n 3, 1) := by decide +kernel
theorem dX12_text_95 : decode cX12_text 95 = .ok (.baload, 1) := by decide +kernel
theorem dX12_text_96 : decode cX12_text 96 = .ok (.bastore, 1) := by decide +kernel
theorem dX12_text_97 : decode cX12_text 97 = .ok (.iinc 3 1, 3) := by decide +kernel
theorem dX12_text_100 : decode cX12_text 100 = .ok (.goto (-29), 3) := by decide +kernel
theorem dX12_text_103 : decode cX12_text 103 = .ok (.aload_n 0, 1) := by decide +kernel
theorem dX12_text_104 : decode cX12_text 104 = .ok (.getfield 16, 3) := by decide +kernel
theorem dX12_text_107 : decode cX12_text 107 = .ok (.aload_n 0, 1) := by decide +kernel
theorem dX12_text_108 : decode cX12_text 108 = .ok (.getfield 294, 3) := by decide +kernel
theorem dX12_text_111 : decode cX12_text 111 = .ok (.iload_n 2, 1) := by decide +kernel
theorem dX12_text_112 : decode cX12_text 112 = .ok (.iastore, 1) := by decide +kernel
theorem dX12_text_113 : decode cX12_text 113 = .ok (.aload_n 0, 1) := by decide +kernel
theorem dX12_text_114 : decode cX12_text 114 = .ok (.dup, 1) := by decide +kernel
theorem dX12_text_115 : decode cX12_text 115 = .ok (.getfield 294, 3) := by decide +kernel
theorem dX12_text_118 : decode cX12_text 118 = .ok (.iconst 1, 1) := by decide +kernel
theorem dX12_text_119 : decode cX12_text 119 = .ok (.iadd, 1) := by decide +kernel
theorem dX12_text_120 : decode cX12_text 120 = .ok (.putfield 294, 3) := by decide +kernel
theorem dX12_text_123 : decode cX12_text 123 = .ok (.aload_n 0, 1) := by decide +kernel
theorem dX12_text_124 : decode cX12_text 124 = .ok (.getfield 294, 3) := by decide +kernel
theorem dX12_text_127 : decode cX12_text 127 = .ok (.iconst 1, 1) := by decide +kernel
theorem dX12_text_128 : decode cX12_text 128 = .ok (.isub, 1) := by decide +kernel
theorem dX12_text_129 : decode cX12_text 129 = .ok (.ireturn, 1) := by decide +kernel
theorem dX12_text_130 : decode cX12_text 130 = .ok (.iload_n 1, 1) := by decide +kernel
theorem dX12_text_131 : decode cX12_text 131 = .ok (.iconst 2, 1) := by decide +kernel
theorem dX12_text_132 : decode cX12_text 132 = .ok (.if_icmp .ne 73, 3) := by decide +kernel
theorem dX12_text_135 : decode cX12_text 135 = .ok (.iconst 0, 1) := by decide +kernel
theorem dX12_text_136 : decode cX12_text 136 = .ok (.istore_n 3, 1) := by decide +kernel
theorem dX12_text_137 : decode cX12_text 137 = .ok (.iload_n 3, 1) := by decide +kernel
theorem dX12_text_138 : decode cX12_text 138 = .ok (.bipush 64, 2) := by decide +kernel
theorem dX12_text_140 : decode cX12_text 140 = .ok (.if_icmp .ge 33, 3) := by decide +kernel
theorem dX12_text_143 : decode cX12_text 143 = .ok (.aload_n 0, 1) := by decide +kernel
theorem dX12_text_144 : decode cX12_text 144 = .ok (.getfield 46, 3) := by decide +kernel
theorem dX12_text_147 : decode cX12_text 147 = .ok (.bipush 64, 2) := by decide +kernel
theorem dX12_text_149 : decode cX12_text 149 = .ok (.aload_n 0, 1) := by decide +kernel
theorem dX12_text_150 : decode cX12_text 150 = .ok (.getfield 297, 3) := by decide +kernel
theorem dX12_text_153 : decode cX12_text 153 = .ok (.imul, 1) := by decide +kernel
theorem dX12_text_154 : decode cX12_text 154 = .ok (.iload_n 3, 1) := by decide +kernel
theorem dX12_text_155 : decode cX12_text 155 = .ok (.iadd, 1) := by decide +kernel
theorem dX12_text_156 : decode cX12_text 156 = .ok (.aload_n 0, 1) := by decide +kernel
theorem dX12_text_157 : decode cX12_text 157 = .ok (.getfield 46, 3) := by decide +kernel
theorem dX12_text_160 : decode cX12_text 160 = .ok (.sipush 256, 3) := by decide +kernel
theorem dX12_text_163 : decode cX12_text 163 = .ok (.iload_n 3, 1) := by decide +kernel
theorem dX12_text_164 : decode cX12_text 164 = .ok (.iadd, 1) := by decide +kernel
theorem dX12_text_165 : decode cX12_text 165 = .ok (.iaload, 1) := by decide +kernel
theorem dX12_text_166 : decode cX12_text 166 = .ok (.iastore, 1) := by decide +kernel
theorem dX12_text_167 : decode cX12_text 167 = .ok (.iinc 3 1, 3) := by decide +kernel
theorem dX12_text_170 : decode cX12_text 170 = .ok (.goto (-33), 3) := by decide +kernel
theorem dX12_text_173 : decode cX12_text 173 = .ok (.aload_n 0, 1) := by decide +kernel
theorem dX12_text_174 : decode cX12_text 174 = .ok (.getfield 49, 3) := by decide +kernel
theorem dX12_text_177 : decode cX12_text 177 = .ok (.aload_n 0, 1) := by decide +kernel
theorem dX12_text_178 : decode cX12_text 178 = .ok (.getfield 297, 3) := by decide +kernel
theorem dX12_text_181 : decode cX12_text 181 = .ok (.aload_n 0, 1) := by decide +kernel
theorem dX12_text_182 : decode cX12_text 182 = .ok (.getfield 49, 3) := by decide +kernel
theorem dX12_text_185 : decode cX12_text 185 = .ok (.iconst 4, 1) := by decide +kernel
theorem dX12_text_186 : decode cX12_text 186 = .ok (.iaload, 1) := by decide +kernel
theorem dX12_text_187 : decode cX12_text 187 = .ok (.iastore, 1) := by decide +kernel
theorem dX12_text_188 : decode cX12_text 188 = .ok (.aload_n 0, 1) := by decide +kernel
theorem dX12_text_189 : decode cX12_text 189 = .ok (.dup, 1) := by decide +kernel
theorem dX12_text_190 : decode cX12_text 190 = .ok (.getfield 297, 3) := by decide +kernel
theorem dX12_text_193 : decode cX12_text 193 = .ok (.iconst 1, 1) := by decide +kernel
theorem dX12_text_194 : decode cX12_text 194 = .ok (.iadd, 1) := by decide +kernel
theorem dX12_text_195 : decode cX12_text 195 = .ok (.putfield 297, 3) := by decide +kernel
theorem dX12_text_198 : decode cX12_text 198 = .ok (.aload_n 0, 1) := by decide +kernel
theorem dX12_text_199 : decode cX12_text 199 = .ok (.getfield 297, 3) := by decide +kernel
theorem dX12_text_202 : decode cX12_text 202 = .ok (.iconst 1, 1) := by decide +kernel
theorem dX12_text_203 : decode cX12_text 203 = .ok (.isub, 1) := by decide +kernel
theorem dX12_text_204 : decode cX12_text 204 = .ok (.ireturn, 1) := by decide +kernel
theorem dX12_text_205 : decode cX12_text 205 = .ok (.iconst 0, 1) := by decide +kernel
theorem dX12_text_206 : decode cX12_text 206 = .ok (.istore_n 3, 1) := by decide +kernel
theorem dX12_text_207 : decode cX12_text 207 = .ok (.iload_n 3, 1) := by decide +kernel
theorem dX12_text_208 : decode cX12_text 208 = .ok (.bipush 7, 2) := by decide +kernel
theorem dX12_text_210 : decode cX12_text 210 = .ok (.if_icmp .ge 21, 3) := by decide +kernel
theorem dX12_text_213 : decode cX12_text 213 = .ok (.aload_n 0, 1) := by decide +kernel
theorem dX12_text_214 : decode cX12_text 214 = .ok (.getfield 37, 3) := by decide +kernel
theorem dX12_text_217 : decode cX12_text 217 = .ok (.iload_n 3, 1) := by decide +kernel
theorem dX12_text_218 : decode cX12_text 218 = .ok (.aload_n 0, 1) := by decide +kernel
theorem dX12_text_219 : decode cX12_text 219 = .ok (.getfield 40, 3) := by decide +kernel
theorem dX12_text_222 : decode cX12_text 222 = .ok (.iload_n 3, 1) := by decide +kernel
theorem dX12_text_223 : decode cX12_text 223 = .ok (.iaload, 1) := by decide +kernel
theorem dX12_text_224 : decode cX12_text 224 = .ok (.iastore, 1) := by decide +kernel
theorem dX12_text_225 : decode cX12_text 225 = .ok (.iinc 3 1, 3) := by decide +kernel
theorem dX12_text_228 : decode cX12_text 228 = .ok (.goto (-21), 3) := by decide +kernel
theorem dX12_text_231 : decode cX12_text 231 = .ok (.aload_n 0, 1) := by decide +kernel
theorem dX12_text_232 : decode cX12_text 232 = .ok (.aload_n 0, 1) := by decide +kernel
theorem dX12_text_233 : decode cX12_text 233 = .ok (.getfield 37, 3) := by decide +kernel
theorem dX12_text_236 : decode cX12_text 236 = .ok (.iconst 0, 1) := by decide +kernel
theorem dX12_text_237 : decode cX12_text 237 = .ok (.iaload, 1) := by decide +kernel
theorem dX12_text_238 : decode cX12_text 238 = .ok (.aload_n 0, 1) := by decide +kernel
theorem dX12_text_239 : decode cX12_text 239 = .ok (.getfield 37, 3) := by decide +kernel
theorem dX12_text_242 : decode cX12_text 242 = .ok (.iconst 1, 1) := by decide +kernel
theorem dX12_text_243 : decode cX12_text 243 = .ok (.iaload, 1) := by decide +kernel
theorem dX12_text_244 : decode cX12_text 244 = .ok (.imul, 1) := by decide +kernel
theorem dX12_text_245 : decode cX12_text 245 = .ok (.putfield 302, 3) := by decide +kernel
theorem dX12_text_248 : decode cX12_text 248 = .ok (.aload_n 0, 1) := by decide +kernel
theorem dX12_text_249 : decode cX12_text 249 = .ok (.aload_n 0, 1) := by decide +kernel
theorem dX12_text_250 : decode cX12_text 250 = .ok (.getfield 263, 3) := by decide +kernel
theorem dX12_text_253 : decode cX12_text 253 = .ok (.putfield 305, 3) := by decide +kernel
theorem dX12_text_256 : decode cX12_text 256 = .ok (.iconst 0, 1) := by decide +kernel
theorem dX12_text_257 : decode cX12_text 257 = .ok (.istore_n 3, 1) := by decide +kernel
theorem dX12_text_258 : decode cX12_text 258 = .ok (.iload_n 3, 1) := by decide +kernel
theorem dX12_text_259 : decode cX12_text 259 = .ok (.sipush 249, 3) := by decide +kernel
theorem dX12_text_262 : decode cX12_text 262 = .ok (.if_icmp .ge 16, 3) := by decide +kernel
theorem dX12_text_265 : decode cX12_text 265 = .ok (.aload_n 0, 1) := by decide +kernel
theorem dX12_text_266 : decode cX12_text 266 = .ok (.getfield 52, 3) := by decide +kernel
theorem dX12_text_269 : decode cX12_text 269 = .ok (.iload_n 3, 1) := by decide +kernel
theorem dX12_text_270 : decode cX12_text 270 = .ok (.iconst 0, 1) := by decide +kernel
theorem dX12_text_271 : decode cX12_text 271 = .ok (.iastore, 1) := by decide +kernel
theorem dX12_text_272 : decode cX12_text 272 = .ok (.iinc 3 1, 3) := by decide +kernel
theorem dX12_text_275 : decode cX12_text 275 = .ok (.goto (-17), 3) := by decide +kernel
theorem dX12_text_278 : decode cX12_text 278 = .ok (.aload_n 0, 1) := by decide +kernel
theorem dX12_text_279 : decode cX12_text 279 = .ok (.getfield 52, 3) := by decide +kernel
theorem dX12_text_282 : decode cX12_text 282 = .ok (.iconst 0, 1) := by decide +kernel
theorem dX12_text_283 : decode cX12_text 283 = .ok (.aload_n 0, 1) := by decide +kernel
theorem dX12_text_284 : decode cX12_text 284 = .ok (.getfield 260, 3) := by decide +kernel
theorem dX12_text_287 : decode cX12_text 287 = .ok (.iastore, 1) := by decide +kernel
theorem dX12_text_288 : decode cX12_text 288 = .ok (.aload_n 0, 1) := by decide +kernel
theorem dX12_text_289 : decode cX12_text 289 = .ok (.getfield 52, 3) := by decide +kernel
theorem dX12_text_292 : decode cX12_text 292 = .ok (.iconst 2, 1) := by decide +kernel
theorem dX12_text_293 : decode cX12_text 293 = .ok (.aload_n 0, 1) := by decide +kernel
theorem dX12_text_294 : decode cX12_text 294 = .ok (.getfield 37, 3) := by decide +kernel
theorem dX12_text_297 : decode cX12_text 297 = .ok (.bipush 6, 2) := by decide +kernel
theorem dX12_text_299 : decode cX12_text 299 = .ok (.iaload, 1) := by decide +kernel
theorem dX12_text_300 : decode cX12_text 300 = .ok (.iastore, 1) := by decide +kernel
theorem dX12_text_301 : decode cX12_text 301 = .ok (.aload_n 0, 1) := by decide +kernel
theorem dX12_text_302 : decode cX12_text 302 = .ok (.iconst 0, 1) := by decide +kernel
theorem dX12_text_303 : decode cX12_text 303 = .ok (.putfield 308, 3) := by decide +kernel
theorem dX12_text_306 : decode cX12_text 306 = .ok (.aload_n 0, 1) := by decide +kernel
theorem dX12_text_307 : decode cX12_text 307 = .ok (.iconst 0, 1) := by decide +kernel
theorem dX12_text_308 : decode cX12_text 308 = .ok (.putfield 311, 3) := by decide +kernel
theorem dX12_text_311 : decode cX12_text 311 = .ok (.aload_n 0, 1) := by decide +kernel
theorem dX12_text_312 : decode cX12_text 312 = .ok (.iconst 0, 1) := by decide +kernel
theorem dX12_text_313 : decode cX12_text 313 = .ok (.putfield 314, 3) := by decide +kernel
theorem dX12_text_316 : decode cX12_text 316 = .ok (.aload_n 0, 1) := by decide +kernel
theorem dX12_text_317 : decode cX12_text 317 = .ok (.getfield 302, 3) := by decide +kernel
theorem dX12_text_320 : decode cX12_text 320 = .ok (.ireturn, 1) := by decide +kernel
theorem wl_7_122 : (.methodLink RX12 285 yX12_readLawn : Cond) ∈ sg_tbl := tb_7 _ (List.mem_of_getElem? (i := 122) (by decide +kernel)) (by decide +kernel)
theorem wl_8_27 : (.methodLink RX12 291 yX12_readGame : Cond) ∈ sg_tbl := tb_8 _ (List.mem_of_getElem? (i := 27) (by decide +kernel)) (by decide +kernel)
theorem wl_8_45 : (.methodLink RX12 300 yX12_fault : Cond) ∈ sg_tbl := tb_8 _ (List.mem_of_getElem? (i := 45) (by decide +kernel)) (by decide +kernel)
theorem wl_7_117 : (.code yX12_fault cX12_fault 2 (some .int) : Cond) ∈ sg_tbl := tb_7 _ (List.mem_of_getElem? (i := 117) (by decide +kernel)) (by decide +kernel)
theorem wl_7_115 : (.instanceMethod yX12_fault : Cond) ∈ sg_tbl := tb_7 _ (List.mem_of_getElem? (i := 115) (by decide +kernel)) (by decide +kernel)
theorem wl_7_116 : (.selects RX12 yX12_fault yX12_fault : Cond) ∈ sg_tbl := tb_7 _ (List.mem_of_getElem? (i := 116) (by decide +kernel)) (by decide +kernel)
theorem wl_8_44 : (.code yX12_text cX12_text 4 (some .int) : Cond) ∈ sg_tbl := tb_8 _ (List.mem_of_getElem? (i := 44) (by decide +kernel)) (by decide +kernel)
theorem wl_8_42 : (.instanceMethod yX12_text : Cond) ∈ sg_tbl := tb_8 _ (List.mem_of_getElem? (i := 42) (by decide +kernel)) (by decide +kernel)
theorem wl_8_43 : (.selects RX12 yX12_text yX12_text : Cond) ∈ sg_tbl := tb_8 _ (List.mem_of_getElem? (i := 43) (by decide +kernel)) (by decide +kernel)
section
variable {p : Program} {l : Launch} {e : Env} {R : Room} {s : State} {m : MethodId} {args : Array Value} {below : List Frame} {meth : Method} {c : Code} {H : Heap} {locs : List Loc} {cells slots : Nat} {Q : State → Prop} {cc : ByteArray} {nL pc : Nat} {ls : Array Slot} {rest : List Value} {own : String} {D : va_G} {A : Nat → Prop} {tys : List (ClassId × FieldType)} {ad ks : List Nat} {P : sgPm} {H0 : Heap} {index : Nat} {base : Nat} {st0 : List Value} {a : Nat}
theorem gf_X12_11   (X : CallFix p m c cc nL s args sg_tbl own) (hK : va_K D vwCl tys s) (hG : sgG (KT P) D vwCl A tys ad ks H) (ha : isK ad ks 12 a) (hl : Cond.fieldLink own index "LawnAheadModel" "fault" "I" ∈ sg_tbl) (hdg : decode cc pc = .ok (.getfield index, 3)) (kk : ∀ x : Int32, iv (-1) 241 x → fld D H 12 a 11 (.int x) → W p l e R s m args below meth c H locs cells slots Q (F0 m (pc + 3) ls (.int x :: rest))) : W p l e R s m args below meth c H locs cells slots Q (F0 m pc ls (.ref a :: rest)) :=
  sg_get X hK hG ha (k := 12) (ci := 12) rfl (C := RX12) (T := TX12) (N := 53) rfl inL_X12 11 (by decide) rfl hl (fun _ h => h) hdg (fun v hv hf => by obtain ⟨x, rfl, hx⟩ := hv; exact kk x hx hf)
theorem gf_X12_11m  {mr : Int} (X : CallFix p m c cc nL s args sg_tbl own) (hK : va_K D vwCl tys s) (hG : sgG (KM mr P) D vwCl A tys ad ks H) (ha : isK ad ks 12 a) (hl : Cond.fieldLink own index "LawnAheadModel" "fault" "I" ∈ sg_tbl) (hdg : decode cc pc = .ok (.getfield index, 3)) (kk : ∀ x : Int32, iv (-1) 241 x → fld D H 12 a 11 (.int x) → W p l e R s m args below meth c H locs cells slots Q (F0 m (pc + 3) ls (.int x :: rest))) : W p l e R s m args below meth c H locs cells slots Q (F0 m pc ls (.ref a :: rest)) :=
  sg_get X hK hG ha (k := 12) (ci := 12) rfl (C := RX12) (T := TX12) (N := 53) rfl inL_X12 11 (by decide) rfl hl (fun _ h => h) hdg (fun v hv hf => by obtain ⟨x, rfl, hx⟩ := hv; exact kk x hx hf)
theorem gf_X12_18y  {mr : Int} (X : CallFix p m c cc nL s args sg_tbl own) (hK : va_K D vwCl tys s) (hG : sgG (KX mr P) D vwCl A tys ad ks H) (ha : isK ad ks 12 a) (hl : Cond.fieldLink own index "LawnAheadModel" "rule" "[I" ∈ sg_tbl) (hdg : decode cc pc = .ok (.getfield index, 3)) (kk : ∀ x : Nat, isK ad ks 49 x → fld D H 12 a 18 (.ref x) → W p l e R s m args below meth c H locs cells slots Q (F0 m (pc + 3) ls (.ref x :: rest))) : W p l e R s m args below meth c H locs cells slots Q (F0 m pc ls (.ref a :: rest)) :=
  sg_get X hK hG ha (k := 12) (ci := 12) rfl (C := RX12) (T := TX12) (N := 53) rfl inL_X12 18 (by decide) rfl hl (fun _ h => h) hdg (fun v hv hf => by
    obtain ⟨h1, -⟩ | ⟨x, rfl, hx⟩ := hv
    · cases h1
    · exact kk x hx hf)
theorem gf_X12_19y  {mr : Int} (X : CallFix p m c cc nL s args sg_tbl own) (hK : va_K D vwCl tys s) (hG : sgG (KX mr P) D vwCl A tys ad ks H) (ha : isK ad ks 12 a) (hl : Cond.fieldLink own index "LawnAheadModel" "ruleRead" "[I" ∈ sg_tbl) (hdg : decode cc pc = .ok (.getfield index, 3)) (kk : ∀ x : Nat, isK ad ks 50 x → fld D H 12 a 19 (.ref x) → W p l e R s m args below meth c H locs cells slots Q (F0 m (pc + 3) ls (.ref x :: rest))) : W p l e R s m args below meth c H locs cells slots Q (F0 m pc ls (.ref a :: rest)) :=
  sg_get X hK hG ha (k := 12) (ci := 12) rfl (C := RX12) (T := TX12) (N := 53) rfl inL_X12 19 (by decide) rfl hl (fun _ h => h) hdg (fun v hv hf => by
    obtain ⟨h1, -⟩ | ⟨x, rfl, hx⟩ := hv
    · cases h1
    · exact kk x hx hf)
theorem gf_X12_25   (X : CallFix p m c cc nL s args sg_tbl own) (hK : va_K D vwCl tys s) (hG : sgG (KT P) D vwCl A tys ad ks H) (ha : isK ad ks 12 a) (hl : Cond.fieldLink own index "LawnAheadModel" "tuftsRead" "I" ∈ sg_tbl) (hdg : decode cc pc = .ok (.getfield index, 3)) (kk : ∀ x : Int32, iv (-2147483648) 2147483647 x → fld D H 12 a 25 (.int x) → W p l e R s m args below meth c H locs cells slots Q (F0 m (pc + 3) ls (.int x :: rest))) : W p l e R s m args below meth c H locs cells slots Q (F0 m pc ls (.ref a :: rest)) :=
  sg_get X hK hG ha (k := 12) (ci := 12) rfl (C := RX12) (T := TX12) (N := 53) rfl inL_X12 25 (by decide) rfl hl (fun _ h => h) hdg (fun v hv hf => by obtain ⟨x, rfl, hx⟩ := hv; exact kk x hx hf)
theorem gf_X12_26   (X : CallFix p m c cc nL s args sg_tbl own) (hK : va_K D vwCl tys s) (hG : sgG (KT P) D vwCl A tys ad ks H) (ha : isK ad ks 12 a) (hl : Cond.fieldLink own index "LawnAheadModel" "bedsRead" "I" ∈ sg_tbl) (hdg : decode cc pc = .ok (.getfield index, 3)) (kk : ∀ x : Int32, iv (-2147483648) 2147483647 x → fld D H 12 a 26 (.int x) → W p l e R s m args below meth c H locs cells slots Q (F0 m (pc + 3) ls (.int x :: rest))) : W p l e R s m args below meth c H locs cells slots Q (F0 m pc ls (.ref a :: rest)) :=
  sg_get X hK hG ha (k := 12) (ci := 12) rfl (C := RX12) (T := TX12) (N := 53) rfl inL_X12 26 (by decide) rfl hl (fun _ h => h) hdg (fun v hv hf => by obtain ⟨x, rfl, hx⟩ := hv; exact kk x hx hf)
theorem gf_X12_6m  {mr : Int} (X : CallFix p m c cc nL s args sg_tbl own) (hK : va_K D vwCl tys s) (hG : sgG (KM mr P) D vwCl A tys ad ks H) (ha : isK ad ks 12 a) (hl : Cond.fieldLink own index "LawnAheadModel" "length" "I" ∈ sg_tbl) (hdg : decode cc pc = .ok (.getfield index, 3)) (kk : ∀ x : Int32, iv 0 240 x → fld D H 12 a 6 (.int x) → W p l e R s m args below meth c H locs cells slots Q (F0 m (pc + 3) ls (.int x :: rest))) : W p l e R s m args below meth c H locs cells slots Q (F0 m pc ls (.ref a :: rest)) :=
  sg_get X hK hG ha (k := 12) (ci := 12) rfl (C := RX12) (T := TX12) (N := 53) rfl inL_X12 6 (by decide) rfl hl (fun _ h => h) hdg (fun v hv hf => by obtain ⟨x, rfl, hx⟩ := hv; exact kk x hx hf)
theorem gg_X12_11   (X : CallFix p m c cc nL s args sg_tbl own) (hK : va_K D vwCl tys s) (hG : sgG (KT P) D vwCl A tys ad ks H) (ha : isK ad ks 12 a) (hl : Cond.fieldLink own index "LawnAheadModel" "fault" "I" ∈ sg_tbl) {v : Value} (hf : fld D H 12 a 11 v) (hdg : decode cc pc = .ok (.getfield index, 3)) (kk : W p l e R s m args below meth c H locs cells slots Q (F0 m (pc + 3) ls (v :: rest))) : W p l e R s m args below meth c H locs cells slots Q (F0 m pc ls (.ref a :: rest)) :=
  sg_getf X hK hG ha (k := 12) (ci := 12) rfl (C := RX12) (T := TX12) (N := 53) rfl inL_X12 11 (by decide) (show 11 < 53 by decide) hl (fun _ h => h) hf hdg kk
theorem gg_X12_18y  {mr : Int} (X : CallFix p m c cc nL s args sg_tbl own) (hK : va_K D vwCl tys s) (hG : sgG (KX mr P) D vwCl A tys ad ks H) (ha : isK ad ks 12 a) (hl : Cond.fieldLink own index "LawnAheadModel" "rule" "[I" ∈ sg_tbl) {v : Value} (hf : fld D H 12 a 18 v) (hdg : decode cc pc = .ok (.getfield index, 3)) (kk : W p l e R s m args below meth c H locs cells slots Q (F0 m (pc + 3) ls (v :: rest))) : W p l e R s m args below meth c H locs cells slots Q (F0 m pc ls (.ref a :: rest)) :=
  sg_getf X hK hG ha (k := 12) (ci := 12) rfl (C := RX12) (T := TX12) (N := 53) rfl inL_X12 18 (by decide) (show 18 < 53 by decide) hl (fun _ h => h) hf hdg kk
theorem gg_X12_22   (X : CallFix p m c cc nL s args sg_tbl own) (hK : va_K D vwCl tys s) (hG : sgG (KT P) D vwCl A tys ad ks H) (ha : isK ad ks 12 a) (hl : Cond.fieldLink own index "LawnAheadModel" "gameLong" "[I" ∈ sg_tbl) {v : Value} (hf : fld D H 12 a 22 v) (hdg : decode cc pc = .ok (.getfield index, 3)) (kk : W p l e R s m args below meth c H locs cells slots Q (F0 m (pc + 3) ls (v :: rest))) : W p l e R s m args below meth c H locs cells slots Q (F0 m pc ls (.ref a :: rest)) :=
  sg_getf X hK hG ha (k := 12) (ci := 12) rfl (C := RX12) (T := TX12) (N := 53) rfl inL_X12 22 (by decide) (show 22 < 53 by decide) hl (fun _ h => h) hf hdg kk
theorem gg_X12_29   (X : CallFix p m c cc nL s args sg_tbl own) (hK : va_K D vwCl tys s) (hG : sgG (KT P) D vwCl A tys ad ks H) (ha : isK ad ks 12 a) (hl : Cond.fieldLink own index "LawnAheadModel" "games" "I" ∈ sg_tbl) {v : Value} (hf : fld D H 12 a 29 v) (hdg : decode cc pc = .ok (.getfield index, 3)) (kk : W p l e R s m args below meth c H locs cells slots Q (F0 m (pc + 3) ls (v :: rest))) : W p l e R s m args below meth c H locs cells slots Q (F0 m pc ls (.ref a :: rest)) :=
  sg_getf X hK hG ha (k := 12) (ci := 12) rfl (C := RX12) (T := TX12) (N := 53) rfl inL_X12 29 (by decide) (show 29 < 53 by decide) hl (fun _ h => h) hf hdg kk
theorem gg_X12_7   (X : CallFix p m c cc nL s args sg_tbl own) (hK : va_K D vwCl tys s) (hG : sgG (KT P) D vwCl A tys ad ks H) (ha : isK ad ks 12 a) (hl : Cond.fieldLink own index "LawnAheadModel" "lawMany" "I" ∈ sg_tbl) {v : Value} (hf : fld D H 12 a 7 v) (hdg : decode cc pc = .ok (.getfield index, 3)) (kk : W p l e R s m args below meth c H locs cells slots Q (F0 m (pc + 3) ls (v :: rest))) : W p l e R s m args below meth c H locs cells slots Q (F0 m pc ls (.ref a :: rest)) :=
  sg_getf X hK hG ha (k := 12) (ci := 12) rfl (C := RX12) (T := TX12) (N := 53) rfl inL_X12 7 (by decide) (show 7 < 53 by decide) hl (fun _ h => h) hf hdg kk
theorem pf_X12_23y  {x : Int32} {mr : Int} (X : CallFix p m c cc nL s args sg_tbl own) (hK : va_K D vwCl tys s) (hG : sgG (KX mr P) D vwCl A tys ad ks H) (hS : va_S A H0 H locs) (ha : isK ad ks 12 a) (hl : Cond.fieldLink own index "LawnAheadModel" "cells" "I" ∈ sg_tbl) (hv : okV ad ks (.inl (0, 30)) (.int x)) (hdg : decode cc pc = .ok (.putfield index, 3)) (kk : ∀ (H1 : Heap) (locs1 : List Loc), sgG (KX mr P) D vwCl A tys ad ks H1 → va_S A H0 H1 locs1 → fld D H1 12 a 23 (.int x) → sgFr (KX mr P) D vwCl ad ks H H1 (fun a' j' => a' = a ∧ j' = 23) → W p l e R s m args below meth c H1 locs1 cells slots Q (F0 m (pc + 3) ls rest)) : W p l e R s m args below meth c H locs cells slots Q (F0 m pc ls (.int x :: .ref a :: rest)) :=
  sg_put X hK hG hS ha (k := 12) (ci := 12) rfl (C := RX12) (T := TX12) (N := 53) rfl inL_X12 tyX12 tyX12_ok nmX12 23 (by decide) rfl hl (fun _ h => h) rfl (ty := .int) rfl rfl rfl hv hdg kk
theorem pf_X12_24  {x : Int32}  (X : CallFix p m c cc nL s args sg_tbl own) (hK : va_K D vwCl tys s) (hG : sgG (KT P) D vwCl A tys ad ks H) (hS : va_S A H0 H locs) (ha : isK ad ks 12 a) (hl : Cond.fieldLink own index "LawnAheadModel" "beds" "I" ∈ sg_tbl) (hv : okV ad ks (.inl ((-2147483648), 2147483647)) (.int x)) (hdg : decode cc pc = .ok (.putfield index, 3)) (kk : ∀ (H1 : Heap) (locs1 : List Loc), sgG (KT P) D vwCl A tys ad ks H1 → va_S A H0 H1 locs1 → fld D H1 12 a 24 (.int x) → sgFr (KT P) D vwCl ad ks H H1 (fun a' j' => a' = a ∧ j' = 24) → W p l e R s m args below meth c H1 locs1 cells slots Q (F0 m (pc + 3) ls rest)) : W p l e R s m args below meth c H locs cells slots Q (F0 m pc ls (.int x :: .ref a :: rest)) :=
  sg_put X hK hG hS ha (k := 12) (ci := 12) rfl (C := RX12) (T := TX12) (N := 53) rfl inL_X12 tyX12 tyX12_ok nmX12 24 (by decide) rfl hl (fun _ h => h) rfl (ty := .int) rfl rfl rfl hv hdg kk
theorem pf_X12_29p   (X : CallFix p m c cc nL s args sg_tbl own) (hK : va_K D vwCl tys s) (hG : sgG (KT P) D vwCl A tys ad ks H) {x : Int32} (hS : va_S A H0 H locs) (ha : isK ad ks 12 a) (hl : Cond.fieldLink own index "LawnAheadModel" "games" "I" ∈ sg_tbl) {n : Fin 5} (hv : iv (n.val : Int) (n.val : Int) x) (hdg : decode cc pc = .ok (.putfield index, 3)) (kk : ∀ (H1 : Heap) (locs1 : List Loc), sgG (KT (P.1, P.2.1, P.2.2.1, P.2.2.2.1, P.2.2.2.2.1, P.2.2.2.2.2.1, P.2.2.2.2.2.2.1, P.2.2.2.2.2.2.2.1, P.2.2.2.2.2.2.2.2.1, n, P.2.2.2.2.2.2.2.2.2.2)) D vwCl A tys ad ks H1 → va_S A H0 H1 locs1 → W p l e R s m args below meth c H1 locs1 cells slots Q (F0 m (pc + 3) ls rest)) : W p l e R s m args below meth c H locs cells slots Q (F0 m pc ls (.int x :: .ref a :: rest)) :=
  sg_put1 (kt' := KT (P.1, P.2.1, P.2.2.1, P.2.2.2.1, P.2.2.2.2.1, P.2.2.2.2.2.1, P.2.2.2.2.2.2.1, P.2.2.2.2.2.2.2.1, P.2.2.2.2.2.2.2.2.1, n, P.2.2.2.2.2.2.2.2.2.2)) X hK hG hS ha (k := 12) (by decide) (ci := 12) (fts := [.inl ((-2147483648), 2147483647), .inr (.inl (false, 45)), .inr (.inl (false, 46)), .inr (.inl (false, 47)), .inr (.inl (false, 48)), .inr (.inr true), .inl (0, 240), .inl ((P.2.2.2.2.2.2.2.2.1.val : Int), (P.2.2.2.2.2.2.2.2.1.val : Int)), .inl ((-2147483648), 2147483647), .inl (0, 240), .inl ((-2147483648), 2147483647), .inl ((-1), 241), .inl (0, 6), .inl ((-2147483648), 2147483647), .inl ((-2147483648), 2147483647), .inr (.inr true), .inr (.inr true), .inl (0, 1), .inr (.inl (false, 49)), .inr (.inl (false, 50)), .inr (.inl (false, 51)), .inr (.inl (false, 52)), .inr (.inl (false, 53)), .inl (sgC1 P, sgC1 P), .inl ((-2147483648), 2147483647), .inl ((-2147483648), 2147483647), .inl ((-2147483648), 2147483647), .inl ((-2147483648), 2147483647), .inl ((-2147483648), 2147483647), .inl ((P.2.2.2.2.2.2.2.2.2.1.val : Int), (P.2.2.2.2.2.2.2.2.2.1.val : Int)), .inl (0, 1), .inl (0, 1), .inr (.inl (false, 54)), .inr (.inl (false, 55)), .inl ((-1), 3), .inl (P.2.2.2.2.2.1, P.2.2.2.2.2.1), .inr (.inl (false, 56)), .inr (.inl (false, 57)), .inr (.inl (false, 58)), .inl (0, 40), .inr (.inr false), .inr (.inl (false, 59)), .inl ((-2147483648), 2147483647), .inl ((-2147483648), 2147483647), .inr (.inl (false, 60)), .inr (.inl (false, 61)), .inr (.inl (false, 62)), .inl (0, 12), .inr (.inl (false, 63)), .inr (.inl (false, 64)), .inl (0, 12), .inr (.inl (false, 65)), .inl (0, 1)]) (fts' := [.inl ((-2147483648), 2147483647), .inr (.inl (false, 45)), .inr (.inl (false, 46)), .inr (.inl (false, 47)), .inr (.inl (false, 48)), .inr (.inr true), .inl (0, 240), .inl (((P.1, P.2.1, P.2.2.1, P.2.2.2.1, P.2.2.2.2.1, P.2.2.2.2.2.1, P.2.2.2.2.2.2.1, P.2.2.2.2.2.2.2.1, P.2.2.2.2.2.2.2.2.1, n, P.2.2.2.2.2.2.2.2.2.2).2.2.2.2.2.2.2.2.1.val : Int), ((P.1, P.2.1, P.2.2.1, P.2.2.2.1, P.2.2.2.2.1, P.2.2.2.2.2.1, P.2.2.2.2.2.2.1, P.2.2.2.2.2.2.2.1, P.2.2.2.2.2.2.2.2.1, n, P.2.2.2.2.2.2.2.2.2.2).2.2.2.2.2.2.2.2.1.val : Int)), .inl ((-2147483648), 2147483647), .inl (0, 240), .inl ((-2147483648), 2147483647), .inl ((-1), 241), .inl (0, 6), .inl ((-2147483648), 2147483647), .inl ((-2147483648), 2147483647), .inr (.inr true), .inr (.inr true), .inl (0, 1), .inr (.inl (false, 49)), .inr (.inl (false, 50)), .inr (.inl (false, 51)), .inr (.inl (false, 52)), .inr (.inl (false, 53)), .inl (sgC1 P, sgC1 P), .inl ((-2147483648), 2147483647), .inl ((-2147483648), 2147483647), .inl ((-2147483648), 2147483647), .inl ((-2147483648), 2147483647), .inl ((-2147483648), 2147483647), .inl (((P.1, P.2.1, P.2.2.1, P.2.2.2.1, P.2.2.2.2.1, P.2.2.2.2.2.1, P.2.2.2.2.2.2.1, P.2.2.2.2.2.2.2.1, P.2.2.2.2.2.2.2.2.1, n, P.2.2.2.2.2.2.2.2.2.2).2.2.2.2.2.2.2.2.2.1.val : Int), ((P.1, P.2.1, P.2.2.1, P.2.2.2.1, P.2.2.2.2.1, P.2.2.2.2.2.1, P.2.2.2.2.2.2.1, P.2.2.2.2.2.2.2.1, P.2.2.2.2.2.2.2.2.1, n, P.2.2.2.2.2.2.2.2.2.2).2.2.2.2.2.2.2.2.2.1.val : Int)), .inl (0, 1), .inl (0, 1), .inr (.inl (false, 54)), .inr (.inl (false, 55)), .inl ((-1), 3), .inl ((P.1, P.2.1, P.2.2.1, P.2.2.2.1, P.2.2.2.2.1, P.2.2.2.2.2.1, P.2.2.2.2.2.2.1, P.2.2.2.2.2.2.2.1, P.2.2.2.2.2.2.2.2.1, n, P.2.2.2.2.2.2.2.2.2.2).2.2.2.2.2.1, (P.1, P.2.1, P.2.2.1, P.2.2.2.1, P.2.2.2.2.1, P.2.2.2.2.2.1, P.2.2.2.2.2.2.1, P.2.2.2.2.2.2.2.1, P.2.2.2.2.2.2.2.2.1, n, P.2.2.2.2.2.2.2.2.2.2).2.2.2.2.2.1), .inr (.inl (false, 56)), .inr (.inl (false, 57)), .inr (.inl (false, 58)), .inl (0, 40), .inr (.inr false), .inr (.inl (false, 59)), .inl ((-2147483648), 2147483647), .inl ((-2147483648), 2147483647), .inr (.inl (false, 60)), .inr (.inl (false, 61)), .inr (.inl (false, 62)), .inl (0, 12), .inr (.inl (false, 63)), .inr (.inl (false, 64)), .inl (0, 12), .inr (.inl (false, 65)), .inl (0, 1)]) rfl rfl (C := RX12) (T := TX12) (N := 53) rfl inL_X12 tyX12 tyX12_ok nmX12 29 (by decide) rfl (t' := .inl ((n.val : Int), (n.val : Int))) rfl (fun i hi => by match i, hi with
    | 0, hi => rfl
    | 1, hi => rfl
    | 2, hi => rfl
    | 3, hi => rfl
    | 4, hi => rfl
    | 5, hi => rfl
    | 6, hi => rfl
    | 7, hi => rfl
    | 8, hi => rfl
    | 9, hi => rfl
    | 10, hi => rfl
    | 11, hi => rfl
    | 12, hi => rfl
    | 13, hi => rfl
    | 14, hi => rfl
    | 15, hi => rfl
    | 16, hi => rfl
    | 17, hi => rfl
    | 18, hi => rfl
    | 19, hi => rfl
    | 20, hi => rfl
    | 21, hi => rfl
    | 22, hi => rfl
    | 23, hi => rfl
    | 24, hi => rfl
    | 25, hi => rfl
    | 26, hi => rfl
    | 27, hi => rfl
    | 28, hi => rfl
    | 29, hi => exact absurd rfl hi
    | 30, hi => rfl
    | 31, hi => rfl
    | 32, hi => rfl
    | 33, hi => rfl
    | 34, hi => rfl
    | 35, hi => rfl
    | 36, hi => rfl
    | 37, hi => rfl
    | 38, hi => rfl
    | 39, hi => rfl
    | 40, hi => rfl
    | 41, hi => rfl
    | 42, hi => rfl
    | 43, hi => rfl
    | 44, hi => rfl
    | 45, hi => rfl
    | 46, hi => rfl
    | 47, hi => rfl
    | 48, hi => rfl
    | 49, hi => rfl
    | 50, hi => rfl
    | 51, hi => rfl
    | 52, hi => rfl
    | i + 53, hi => rfl) (fun i hi => by match i, hi with
    | 0, hi => rfl
    | 1, hi => rfl
    | 2, hi => rfl
    | 3, hi => rfl
    | 4, hi => rfl
    | 5, hi => rfl
    | 6, hi => rfl
    | 7, hi => rfl
    | 8, hi => rfl
    | 9, hi => rfl
    | 10, hi => rfl
    | 11, hi => rfl
    | 12, hi => exact absurd rfl hi
    | 13, hi => rfl
    | 14, hi => rfl
    | 15, hi => rfl
    | 16, hi => rfl
    | 17, hi => rfl
    | 18, hi => rfl
    | 19, hi => rfl
    | 20, hi => rfl
    | 21, hi => rfl
    | 22, hi => rfl
    | 23, hi => rfl
    | 24, hi => rfl
    | 25, hi => rfl
    | 26, hi => rfl
    | 27, hi => rfl
    | 28, hi => rfl
    | 29, hi => rfl
    | 30, hi => rfl
    | 31, hi => rfl
    | 32, hi => rfl
    | 33, hi => rfl
    | 34, hi => rfl
    | 35, hi => rfl
    | 36, hi => rfl
    | 37, hi => rfl
    | 38, hi => rfl
    | 39, hi => rfl
    | 40, hi => rfl
    | 41, hi => rfl
    | 42, hi => rfl
    | 43, hi => rfl
    | 44, hi => rfl
    | 45, hi => rfl
    | 46, hi => rfl
    | 47, hi => rfl
    | 48, hi => rfl
    | 49, hi => rfl
    | 50, hi => rfl
    | 51, hi => rfl
    | 52, hi => rfl
    | 53, hi => rfl
    | 54, hi => rfl
    | 55, hi => rfl
    | 56, hi => rfl
    | 57, hi => rfl
    | 58, hi => rfl
    | 59, hi => rfl
    | 60, hi => rfl
    | 61, hi => rfl
    | 62, hi => rfl
    | 63, hi => rfl
    | 64, hi => rfl
    | 65, hi => rfl
    | 66, hi => rfl
    | i + 67, hi => rfl) hl (fun _ h => h) rfl (ty := .int) rfl rfl rfl ⟨_, rfl, hv⟩ hdg kk
theorem pf_X12_6m  {x : Int32} {mr : Int} (X : CallFix p m c cc nL s args sg_tbl own) (hK : va_K D vwCl tys s) (hG : sgG (KM mr P) D vwCl A tys ad ks H) (hS : va_S A H0 H locs) (ha : isK ad ks 12 a) (hl : Cond.fieldLink own index "LawnAheadModel" "length" "I" ∈ sg_tbl) (hv : okV ad ks (.inl (0, 240)) (.int x)) (hdg : decode cc pc = .ok (.putfield index, 3)) (kk : ∀ (H1 : Heap) (locs1 : List Loc), sgG (KM mr P) D vwCl A tys ad ks H1 → va_S A H0 H1 locs1 → fld D H1 12 a 6 (.int x) → sgFr (KM mr P) D vwCl ad ks H H1 (fun a' j' => a' = a ∧ j' = 6) → W p l e R s m args below meth c H1 locs1 cells slots Q (F0 m (pc + 3) ls rest)) : W p l e R s m args below meth c H locs cells slots Q (F0 m pc ls (.int x :: .ref a :: rest)) :=
  sg_put X hK hG hS ha (k := 12) (ci := 12) rfl (C := RX12) (T := TX12) (N := 53) rfl inL_X12 tyX12 tyX12_ok nmX12 6 (by decide) rfl hl (fun _ h => h) rfl (ty := .int) rfl rfl rfl hv hdg kk
theorem pf_X12_7p   (X : CallFix p m c cc nL s args sg_tbl own) (hK : va_K D vwCl tys s) (hG : sgG (KT P) D vwCl A tys ad ks H) {x : Int32} (hS : va_S A H0 H locs) (ha : isK ad ks 12 a) (hl : Cond.fieldLink own index "LawnAheadModel" "lawMany" "I" ∈ sg_tbl) {n : Fin 5} (hv : iv (n.val : Int) (n.val : Int) x) (hdg : decode cc pc = .ok (.putfield index, 3)) (kk : ∀ (H1 : Heap) (locs1 : List Loc), sgG (KT (P.1, P.2.1, P.2.2.1, P.2.2.2.1, P.2.2.2.2.1, P.2.2.2.2.2.1, P.2.2.2.2.2.2.1, P.2.2.2.2.2.2.2.1, n, P.2.2.2.2.2.2.2.2.2)) D vwCl A tys ad ks H1 → va_S A H0 H1 locs1 → W p l e R s m args below meth c H1 locs1 cells slots Q (F0 m (pc + 3) ls rest)) : W p l e R s m args below meth c H locs cells slots Q (F0 m pc ls (.int x :: .ref a :: rest)) :=
  sg_put1 (kt' := KT (P.1, P.2.1, P.2.2.1, P.2.2.2.1, P.2.2.2.2.1, P.2.2.2.2.2.1, P.2.2.2.2.2.2.1, P.2.2.2.2.2.2.2.1, n, P.2.2.2.2.2.2.2.2.2)) X hK hG hS ha (k := 12) (by decide) (ci := 12) (fts := [.inl ((-2147483648), 2147483647), .inr (.inl (false, 45)), .inr (.inl (false, 46)), .inr (.inl (false, 47)), .inr (.inl (false, 48)), .inr (.inr true), .inl (0, 240), .inl ((P.2.2.2.2.2.2.2.2.1.val : Int), (P.2.2.2.2.2.2.2.2.1.val : Int)), .inl ((-2147483648), 2147483647), .inl (0, 240), .inl ((-2147483648), 2147483647), .inl ((-1), 241), .inl (0, 6), .inl ((-2147483648), 2147483647), .inl ((-2147483648), 2147483647), .inr (.inr true), .inr (.inr true), .inl (0, 1), .inr (.inl (false, 49)), .inr (.inl (false, 50)), .inr (.inl (false, 51)), .inr (.inl (false, 52)), .inr (.inl (false, 53)), .inl (sgC1 P, sgC1 P), .inl ((-2147483648), 2147483647), .inl ((-2147483648), 2147483647), .inl ((-2147483648), 2147483647), .inl ((-2147483648), 2147483647), .inl ((-2147483648), 2147483647), .inl ((P.2.2.2.2.2.2.2.2.2.1.val : Int), (P.2.2.2.2.2.2.2.2.2.1.val : Int)), .inl (0, 1), .inl (0, 1), .inr (.inl (false, 54)), .inr (.inl (false, 55)), .inl ((-1), 3), .inl (P.2.2.2.2.2.1, P.2.2.2.2.2.1), .inr (.inl (false, 56)), .inr (.inl (false, 57)), .inr (.inl (false, 58)), .inl (0, 40), .inr (.inr false), .inr (.inl (false, 59)), .inl ((-2147483648), 2147483647), .inl ((-2147483648), 2147483647), .inr (.inl (false, 60)), .inr (.inl (false, 61)), .inr (.inl (false, 62)), .inl (0, 12), .inr (.inl (false, 63)), .inr (.inl (false, 64)), .inl (0, 12), .inr (.inl (false, 65)), .inl (0, 1)]) (fts' := [.inl ((-2147483648), 2147483647), .inr (.inl (false, 45)), .inr (.inl (false, 46)), .inr (.inl (false, 47)), .inr (.inl (false, 48)), .inr (.inr true), .inl (0, 240), .inl (((P.1, P.2.1, P.2.2.1, P.2.2.2.1, P.2.2.2.2.1, P.2.2.2.2.2.1, P.2.2.2.2.2.2.1, P.2.2.2.2.2.2.2.1, n, P.2.2.2.2.2.2.2.2.2).2.2.2.2.2.2.2.2.1.val : Int), ((P.1, P.2.1, P.2.2.1, P.2.2.2.1, P.2.2.2.2.1, P.2.2.2.2.2.1, P.2.2.2.2.2.2.1, P.2.2.2.2.2.2.2.1, n, P.2.2.2.2.2.2.2.2.2).2.2.2.2.2.2.2.2.1.val : Int)), .inl ((-2147483648), 2147483647), .inl (0, 240), .inl ((-2147483648), 2147483647), .inl ((-1), 241), .inl (0, 6), .inl ((-2147483648), 2147483647), .inl ((-2147483648), 2147483647), .inr (.inr true), .inr (.inr true), .inl (0, 1), .inr (.inl (false, 49)), .inr (.inl (false, 50)), .inr (.inl (false, 51)), .inr (.inl (false, 52)), .inr (.inl (false, 53)), .inl (sgC1 P, sgC1 P), .inl ((-2147483648), 2147483647), .inl ((-2147483648), 2147483647), .inl ((-2147483648), 2147483647), .inl ((-2147483648), 2147483647), .inl ((-2147483648), 2147483647), .inl (((P.1, P.2.1, P.2.2.1, P.2.2.2.1, P.2.2.2.2.1, P.2.2.2.2.2.1, P.2.2.2.2.2.2.1, P.2.2.2.2.2.2.2.1, n, P.2.2.2.2.2.2.2.2.2).2.2.2.2.2.2.2.2.2.1.val : Int), ((P.1, P.2.1, P.2.2.1, P.2.2.2.1, P.2.2.2.2.1, P.2.2.2.2.2.1, P.2.2.2.2.2.2.1, P.2.2.2.2.2.2.2.1, n, P.2.2.2.2.2.2.2.2.2).2.2.2.2.2.2.2.2.2.1.val : Int)), .inl (0, 1), .inl (0, 1), .inr (.inl (false, 54)), .inr (.inl (false, 55)), .inl ((-1), 3), .inl ((P.1, P.2.1, P.2.2.1, P.2.2.2.1, P.2.2.2.2.1, P.2.2.2.2.2.1, P.2.2.2.2.2.2.1, P.2.2.2.2.2.2.2.1, n, P.2.2.2.2.2.2.2.2.2).2.2.2.2.2.1, (P.1, P.2.1, P.2.2.1, P.2.2.2.1, P.2.2.2.2.1, P.2.2.2.2.2.1, P.2.2.2.2.2.2.1, P.2.2.2.2.2.2.2.1, n, P.2.2.2.2.2.2.2.2.2).2.2.2.2.2.1), .inr (.inl (false, 56)), .inr (.inl (false, 57)), .inr (.inl (false, 58)), .inl (0, 40), .inr (.inr false), .inr (.inl (false, 59)), .inl ((-2147483648), 2147483647), .inl ((-2147483648), 2147483647), .inr (.inl (false, 60)), .inr (.inl (false, 61)), .inr (.inl (false, 62)), .inl (0, 12), .inr (.inl (false, 63)), .inr (.inl (false, 64)), .inl (0, 12), .inr (.inl (false, 65)), .inl (0, 1)]) rfl rfl (C := RX12) (T := TX12) (N := 53) rfl inL_X12 tyX12 tyX12_ok nmX12 7 (by decide) rfl (t' := .inl ((n.val : Int), (n.val : Int))) rfl (fun i hi => by match i, hi with
    | 0, hi => rfl
    | 1, hi => rfl
    | 2, hi => rfl
    | 3, hi => rfl
    | 4, hi => rfl
    | 5, hi => rfl
    | 6, hi => rfl
    | 7, hi => exact absurd rfl hi
    | 8, hi => rfl
    | 9, hi => rfl
    | 10, hi => rfl
    | 11, hi => rfl
    | 12, hi => rfl
    | 13, hi => rfl
    | 14, hi => rfl
    | 15, hi => rfl
    | 16, hi => rfl
    | 17, hi => rfl
    | 18, hi => rfl
    | 19, hi => rfl
    | 20, hi => rfl
    | 21, hi => rfl
    | 22, hi => rfl
    | 23, hi => rfl
    | 24, hi => rfl
    | 25, hi => rfl
    | 26, hi => rfl
    | 27, hi => rfl
    | 28, hi => rfl
    | 29, hi => rfl
    | 30, hi => rfl
    | 31, hi => rfl
    | 32, hi => rfl
    | 33, hi => rfl
    | 34, hi => rfl
    | 35, hi => rfl
    | 36, hi => rfl
    | 37, hi => rfl
    | 38, hi => rfl
    | 39, hi => rfl
    | 40, hi => rfl
    | 41, hi => rfl
    | 42, hi => rfl
    | 43, hi => rfl
    | 44, hi => rfl
    | 45, hi => rfl
    | 46, hi => rfl
    | 47, hi => rfl
    | 48, hi => rfl
    | 49, hi => rfl
    | 50, hi => rfl
    | 51, hi => rfl
    | 52, hi => rfl
    | i + 53, hi => rfl) (fun i hi => by match i, hi with
    | 0, hi => rfl
    | 1, hi => rfl
    | 2, hi => rfl
    | 3, hi => rfl
    | 4, hi => rfl
    | 5, hi => rfl
    | 6, hi => rfl
    | 7, hi => rfl
    | 8, hi => rfl
    | 9, hi => rfl
    | 10, hi => rfl
    | 11, hi => rfl
    | 12, hi => exact absurd rfl hi
    | 13, hi => rfl
    | 14, hi => rfl
    | 15, hi => rfl
    | 16, hi => rfl
    | 17, hi => rfl
    | 18, hi => rfl
    | 19, hi => rfl
    | 20, hi => rfl
    | 21, hi => rfl
    | 22, hi => rfl
    | 23, hi => rfl
    | 24, hi => rfl
    | 25, hi => rfl
    | 26, hi => rfl
    | 27, hi => rfl
    | 28, hi => rfl
    | 29, hi => rfl
    | 30, hi => rfl
    | 31, hi => rfl
    | 32, hi => rfl
    | 33, hi => rfl
    | 34, hi => rfl
    | 35, hi => rfl
    | 36, hi => rfl
    | 37, hi => rfl
    | 38, hi => rfl
    | 39, hi => rfl
    | 40, hi => rfl
    | 41, hi => rfl
    | 42, hi => rfl
    | 43, hi => rfl
    | 44, hi => rfl
    | 45, hi => rfl
    | 46, hi => rfl
    | 47, hi => rfl
    | 48, hi => rfl
    | 49, hi => rfl
    | 50, hi => rfl
    | 51, hi => rfl
    | 52, hi => rfl
    | 53, hi => rfl
    | 54, hi => rfl
    | 55, hi => rfl
    | 56, hi => rfl
    | 57, hi => rfl
    | 58, hi => rfl
    | 59, hi => rfl
    | 60, hi => rfl
    | 61, hi => rfl
    | 62, hi => rfl
    | 63, hi => rfl
    | 64, hi => rfl
    | 65, hi => rfl
    | 66, hi => rfl
    | i + 67, hi => rfl) hl (fun _ h => h) rfl (ty := .int) rfl rfl rfl ⟨_, rfl, hv⟩ hdg kk
theorem al_45  {i : Int32}  (X : CallFix p m c cc nL s args sg_tbl own) (hK : va_K D vwCl tys s) (hG : sgG (KT P) D vwCl A tys ad ks H) (ha : isK ad ks 45 a) (hin : vp_in i 240) (hdg : decode cc pc = .ok (.baload, 1)) (kk : ∀ x : Int32, iv (-2147483648) 2147483647 x → W p l e R s m args below meth c H locs cells slots Q (F0 m (pc + 1) ls (.int x :: rest))) : W p l e R s m args below meth c H locs cells slots Q (F0 m pc ls (.int i :: .ref a :: rest)) :=
  sg_bald X hK hG ha (k := 45) rfl hin hdg (fun x hx => by obtain ⟨y, h1, h2⟩ := hx; cases h1; exact kk _ h2)
theorem al_49y  {i : Int32} {mr : Int} (X : CallFix p m c cc nL s args sg_tbl own) (hK : va_K D vwCl tys s) (hG : sgG (KX mr P) D vwCl A tys ad ks H) (ha : isK ad ks 49 a) (hin : vp_in i 7) (hdg : decode cc pc = .ok (.iaload, 1)) (kk : ∀ x : Int32, okV ad ks ((sg_rr mr : Nat → sgT) i.toNatClampNeg) (.int x) → W p l e R s m args below meth c H locs cells slots Q (F0 m (pc + 1) ls (.int x :: rest))) : W p l e R s m args below meth c H locs cells slots Q (F0 m pc ls (.int i :: .ref a :: rest)) :=
  sg_iald X hK hG ha (k := 49) rfl hin hdg kk
theorem al_50y  {i : Int32} {mr : Int} (X : CallFix p m c cc nL s args sg_tbl own) (hK : va_K D vwCl tys s) (hG : sgG (KX mr P) D vwCl A tys ad ks H) (ha : isK ad ks 50 a) (hin : vp_in i 7) (hdg : decode cc pc = .ok (.iaload, 1)) (kk : ∀ x : Int32, okV ad ks ((sg_rr 7 : Nat → sgT) i.toNatClampNeg) (.int x) → W p l e R s m args below meth c H locs cells slots Q (F0 m (pc + 1) ls (.int x :: rest))) : W p l e R s m args below meth c H locs cells slots Q (F0 m pc ls (.int i :: .ref a :: rest)) :=
  sg_iald X hK hG ha (k := 50) rfl hin hdg kk
theorem as_46  {i : Int32} {x : Int32}  (X : CallFix p m c cc nL s args sg_tbl own) (hK : va_K D vwCl tys s) (hG : sgG (KT P) D vwCl A tys ad ks H) (hS : va_S A H0 H locs) (ha : isK ad ks 46 a) (hin : vp_in i 960) (hv : okV ad ks (.inl ((-2147483648), 2147483647)) (.int (vp_nar .byte x))) (hdg : decode cc pc = .ok (.bastore, 1)) (kk : ∀ (H1 : Heap) (locs1 : List Loc), sgG (KT P) D vwCl A tys ad ks H1 → va_S A H0 H1 locs1 → sgFr (KT P) D vwCl ad ks H H1 (fun _ _ => False) → W p l e R s m args below meth c H1 locs1 cells slots Q (F0 m (pc + 1) ls rest)) : W p l e R s m args below meth c H locs cells slots Q (F0 m pc ls (.int x :: .int i :: .ref a :: rest)) :=
  sg_bast X hK hG hS ha (k := 46) rfl hin hv hdg kk
theorem as_47  {i : Int32} {x : Int32}  (X : CallFix p m c cc nL s args sg_tbl own) (hK : va_K D vwCl tys s) (hG : sgG (KT P) D vwCl A tys ad ks H) (hS : va_S A H0 H locs) (ha : isK ad ks 47 a) (hin : vp_in i 4) (hv : okV ad ks (.inl (0, 240)) (.int x)) (hdg : decode cc pc = .ok (.iastore, 1)) (kk : ∀ (H1 : Heap) (locs1 : List Loc), sgG (KT P) D vwCl A tys ad ks H1 → va_S A H0 H1 locs1 → sgFr (KT P) D vwCl ad ks H H1 (fun _ _ => False) → W p l e R s m args below meth c H1 locs1 cells slots Q (F0 m (pc + 1) ls rest)) : W p l e R s m args below meth c H locs cells slots Q (F0 m pc ls (.int x :: .int i :: .ref a :: rest)) :=
  sg_iast X hK hG hS ha (k := 47) rfl hin hv hdg kk
theorem as_52  {i : Int32} {x : Int32}  (X : CallFix p m c cc nL s args sg_tbl own) (hK : va_K D vwCl tys s) (hG : sgG (KT P) D vwCl A tys ad ks H) (hS : va_S A H0 H locs) (ha : isK ad ks 52 a) (hin : vp_in i 320) (hv : okV ad ks ((sg_ga (sgG0 P) : Nat → sgT) i.toNatClampNeg) (.int x)) (hdg : decode cc pc = .ok (.iastore, 1)) (kk : ∀ (H1 : Heap) (locs1 : List Loc), sgG (KT P) D vwCl A tys ad ks H1 → va_S A H0 H1 locs1 → sgFr (KT P) D vwCl ad ks H H1 (fun _ _ => False) → W p l e R s m args below meth c H1 locs1 cells slots Q (F0 m (pc + 1) ls rest)) : W p l e R s m args below meth c H locs cells slots Q (F0 m pc ls (.int x :: .int i :: .ref a :: rest)) :=
  sg_iast X hK hG hS ha (k := 52) rfl hin hv hdg kk
theorem as_53  {i : Int32} {x : Int32}  (X : CallFix p m c cc nL s args sg_tbl own) (hK : va_K D vwCl tys s) (hG : sgG (KT P) D vwCl A tys ad ks H) (hS : va_S A H0 H locs) (ha : isK ad ks 53 a) (hin : vp_in i 5) (hv : okV ad ks ((sg_gl (sgGl P) : Nat → sgT) i.toNatClampNeg) (.int x)) (hdg : decode cc pc = .ok (.iastore, 1)) (kk : ∀ (H1 : Heap) (locs1 : List Loc), sgG (KT P) D vwCl A tys ad ks H1 → va_S A H0 H1 locs1 → sgFr (KT P) D vwCl ad ks H H1 (fun _ _ => False) → W p l e R s m args below meth c H1 locs1 cells slots Q (F0 m (pc + 1) ls rest)) : W p l e R s m args below meth c H locs cells slots Q (F0 m pc ls (.int x :: .int i :: .ref a :: rest)) :=
  sg_iast X hK hG hS ha (k := 53) rfl hin hv hdg kk
set_option maxHeartbeats 8000000 in
set_option maxRecDepth 100000 in
theorem m_X12_fault_0 (l : Launch) {D : va_G} {base : Nat} {tys : List (ClassId × FieldType)} {ad ks : List Nat} {P : sgPm} (a0 : Nat) (h0 : isK ad ks 12 a0) (x1 : Int32) (h1 : iv 0 0 x1) : Met l yX12_fault (Cond.code yX12_fault cX12_fault 2 (some .int) :: sg_tbl) ({ frames := 8, cells := 0, slots := 0, locals := 176 }) (va_Pc [.ref a0, .int x1] (sgB (KT P) D vwCl base tys ad ks)) (va_Qi (fun r (u : Int32) => u = r ∧ (fun r : Int32 => True) r) (fun u t => sgB (KT P) D vwCl base tys ad ks t ∧ (u = -1 → sgB (KM 7 P) D vwCl base tys ad ks t)) (fun q : Nat => base ≤ q)) 0 0 (fun q : Nat => base ≤ q) := by
  refine sg_ofW (by decide +kernel) (Nat.le_of_ble_eq_true rfl) (fun p e s m below meth c X hr hlk hb hK hC hG ls hl => ?_)
  have hS : va_S (fun q : Nat => base ≤ q) s.heap s.heap [] := va_S.rf
  have hl : lv_has ls 2 [(0, .ref a0), (1, .int x1)] := hl
  refine lv_aload_n X.1 X.2.1 dX12_fault_0 rfl (lv_at hl 0 rfl) ?_
  refine lv_iconst (v := 0) X.1 X.2.1 dX12_fault_1 (by decide +kernel) ?_
  refine pf_X12_0 X hK hG hS h0 wl_6_178 ⟨_, rfl, (iv_top _)⟩ dX12_fault_2 (fun H locs hG hS ku1 ru1 => ?_)
  refine lv_iload_n X.1 X.2.1 dX12_fault_5 rfl (lv_at hl 1 rfl) ?_
  obtain ⟨g2, eg2⟩ : ∃ y : Int64, y = (x1 : Int32).toInt64 := ⟨_, rfl⟩
  refine lv_i2l (v := g2) X.1 X.2.1 dX12_fault_6 eg2.symm ?_
  refine lv_lconst (v := 0) X.1 X.2.1 dX12_fault_7 (by decide +kernel) ?_
  refine lv_ldc2 X.1 X.2.1 X.2.2.2.1 (X.2.2.2.2 _ wl_7_118) dX12_fault_8 ?_
  refine ca_X12_isIn X hK hG hC (fun _ h => h) hS hb g2 0 2 wl_7_119 hl.1 (rest := []) rfl (Nat.le_of_ble_eq_true rfl) ⟨Nat.le_of_ble_eq_true rfl, Nat.le_of_ble_eq_true rfl⟩ ⟨Nat.le_of_ble_eq_true rfl, Nat.le_of_ble_eq_true rfl⟩ dX12_fault_11 (fun f3 locs hf3 hS => ?_)
  refine lv_if_ne (tgt := 20) X.1 X.2.1 dX12_fault_14 (by decide) (fun c4 => ?_) (fun c4 => ?_)
  · refine lv_iload_n X.1 X.2.1 dX12_fault_20 rfl (lv_at hl 1 rfl) ?_
    refine lv_if_ne (tgt := 28) X.1 X.2.1 dX12_fault_21 (by decide) (fun c5 => ?_) (fun c5 => ?_)
    · exact ((c5 (iv_one h1 (iv_c 0 (a := 0) (b := 0) (by decide +kernel)) (by decide +kernel)))).elim
    · refine lv_aload_n X.1 X.2.1 dX12_fault_24 rfl (lv_at hl 0 rfl) ?_
      refine ca_X12_readLawn X hK hG hC hS hb a0 h0 wl_7_122 hl.1 (rest := []) rfl (Nat.le_of_ble_eq_true rfl) ⟨Nat.le_of_ble_eq_true rfl, Nat.le_of_ble_eq_true rfl⟩ ⟨Nat.le_of_ble_eq_true rfl, Nat.le_of_ble_eq_true rfl⟩ dX12_fault_25 (fun tg6 H locs htg6 hWg6 hS => ?_)
      obtain ⟨hBg6, hWg6⟩ := hWg6
      rcases hWg6 with hCg6 | ⟨w7, kw7, hw7⟩
      · have hG := hCg6.2.2.2
        rw [htg6] at hG
        refine lv_iload_n X.1 X.2.1 dX12_fault_28 rfl (lv_at hl 1 rfl) ?_
        refine lv_iconst (v := 1) X.1 X.2.1 dX12_fault_29 (by decide +kernel) ?_
        refine lv_icmp_ne (tgt := 46) X.1 X.2.1 dX12_fault_30 (by decide) (fun c8 => ?_) (fun c8 => ?_)
        · refine lv_iload_n X.1 X.2.1 dX12_fault_46 rfl (lv_at hl 1 rfl) ?_
          refine lv_iconst (v := 2) X.1 X.2.1 dX12_fault_47 (by decide +kernel) ?_
          refine lv_icmp_ne (tgt := 55) X.1 X.2.1 dX12_fault_48 (by decide) (fun c9 => ?_) (fun c9 => ?_)
          · refine lv_aload_n X.1 X.2.1 dX12_fault_55 rfl (lv_at hl 0 rfl) ?_
            refine gf_X12_11m X hK hG h0 wl_6_189 dX12_fault_56 (fun f10 hf10 kf10 => ?_)
            have hGm := hG
            have hG : sgG (KT P) D vwCl _ tys ad ks _ := sgm_weak (by omega) hG
            exact sg_iret2 X hr hlk hS trivial (fun t ht hW => ⟨sg_post hb hK hC hG hS ht hW, fun _ => sg_post hb hK hC hGm hS ht hW⟩) dX12_fault_59
          · exact ((iv_no (a := 2) (b := 0) (iv_eqm c9 h1 (iv_c 2 (a := 2) (b := 2) (by decide +kernel)) (by decide +kernel)) (by decide +kernel))).elim
        · exact ((iv_no (a := 1) (b := 0) (iv_eqm c8 h1 (iv_c 1 (a := 1) (b := 1) (by decide +kernel)) (by decide +kernel)) (by decide +kernel))).elim
      · have hG := hBg6.2.2.2
        rw [htg6] at hG kw7
        refine lv_iload_n X.1 X.2.1 dX12_fault_28 rfl (lv_at hl 1 rfl) ?_
        refine lv_iconst (v := 1) X.1 X.2.1 dX12_fault_29 (by decide +kernel) ?_
        refine lv_icmp_ne (tgt := 46) X.1 X.2.1 dX12_fault_30 (by decide) (fun c11 => ?_) (fun c11 => ?_)
        · refine lv_iload_n X.1 X.2.1 dX12_fault_46 rfl (lv_at hl 1 rfl) ?_
          refine lv_iconst (v := 2) X.1 X.2.1 dX12_fault_47 (by decide +kernel) ?_
          refine lv_icmp_ne (tgt := 55) X.1 X.2.1 dX12_fault_48 (by decide) (fun c12 => ?_) (fun c12 => ?_)
          · refine lv_aload_n X.1 X.2.1 dX12_fault_55 rfl (lv_at hl 0 rfl) ?_
            refine gg_X12_11 X hK hG h0 wl_6_189 kw7 dX12_fault_56 ?_
            exact sg_iret2 X hr hlk hS trivial (fun t ht hW => ⟨sg_post hb hK hC hG hS ht hW, fun hr => absurd hr (iv_ne1 hw7)⟩) dX12_fault_59
          · exact ((iv_no (a := 2) (b := 0) (iv_eqm c12 h1 (iv_c 2 (a := 2) (b := 2) (by decide +kernel)) (by decide +kernel)) (by decide +kernel))).elim
        · exact ((iv_no (a := 1) (b := 0) (iv_eqm c11 h1 (iv_c 1 (a := 1) (b := 1) (by decide +kernel)) (by decide +kernel)) (by decide +kernel))).elim
  · refine lv_bipush (v := (-2)) X.1 X.2.1 dX12_fault_17 (by decide +kernel) ?_
    exact sg_iret2 X hr hlk hS trivial (fun t ht hW => ⟨sg_post hb hK hC hG hS ht hW, fun hr => absurd hr (by decide)⟩) dX12_fault_19

theorem ca_X12_fault_0   (X : CallFix p m c cc nL s args sg_tbl own) (hK : va_K D vwCl tys s) (hG : sgG (KT P) D vwCl (fun q : Nat => base ≤ q) tys ad ks H) (hC : sgC base s) (hS : va_S (fun q : Nat => base ≤ q) s.heap H locs) (hb : base ≤ s.heap.size) (a0 : Nat) (h0 : isK ad ks 12 a0) (x1 : Int32) (h1 : iv 0 0 x1) (hl : Cond.methodLink own index yX12_fault ∈ sg_tbl) (hsize : ls.size = nL) (hst : st0 = [.int x1].reverse ++ .ref a0 :: rest) (hW : (rest.map fun v => v.category).sum ≤ 8) (hR : 9 ≤ R.frames ∧ 197 ≤ R.locals) (hf : cells ≤ R.cells ∧ slots ≤ R.slots) (hdg : decode cc pc = .ok (.invokevirtual index, 3)) (kk : ∀ (r : Int32) (t : State) (H1 : Heap) (locs1 : List Loc), t.heap = H1 → (fun r : Int32 => True) r → (sgB (KT P) D vwCl base tys ad ks t ∧ (r = -1 → sgB (KM 7 P) D vwCl base tys ad ks t)) → va_S (fun q : Nat => base ≤ q) s.heap H1 locs1 → W p l e R s m args below meth c H1 locs1 cells slots Q (F0 m (pc + 3) ls (.int r :: rest))) : W p l e R s m args below meth c H locs cells slots Q (F0 m pc ls st0) :=
  sg_callV2i X hK hG hC hS hb (m_X12_fault_0 l a0 h0 x1 h1) h0 (k := 12) (ci := 12) rfl (C := RX12) (T := TX12) (N := 53) rfl wl_7_117 wl_1_13 wl_7_115 wl_7_116 (n := 1) (by decide +kernel) rfl rfl rfl hl hsize hst hW hR hf hdg kk

set_option maxHeartbeats 8000000 in
set_option maxRecDepth 100000 in
theorem m_X12_fault (l : Launch) {D : va_G} {base : Nat} {tys : List (ClassId × FieldType)} {ad ks : List Nat} {P : sgPm} (a0 : Nat) (h0 : isK ad ks 12 a0) (x1 : Int32) : sgMi l (KT P) D vwCl base tys ad ks yX12_fault cX12_fault 2 (some .int) ({ frames := 32, cells := 0, slots := 0, locals := 746 }) [.ref a0, .int x1] (fun r : Int32 => True) := by
  refine sg_ofW (by decide +kernel) (Nat.le_of_ble_eq_true rfl) (fun p e s m below meth c X hr hlk hb hK hC hG ls hl => ?_)
  have hS : va_S (fun q : Nat => base ≤ q) s.heap s.heap [] := va_S.rf
  have hl : lv_has ls 2 [(0, .ref a0), (1, .int x1)] := hl
  refine lv_aload_n X.1 X.2.1 dX12_fault_0 rfl (lv_at hl 0 rfl) ?_
  refine lv_iconst (v := 0) X.1 X.2.1 dX12_fault_1 (by decide +kernel) ?_
  refine pf_X12_0 X hK hG hS h0 wl_6_178 ⟨_, rfl, (iv_top _)⟩ dX12_fault_2 (fun H locs hG hS ku1 ru1 => ?_)
  refine lv_iload_n X.1 X.2.1 dX12_fault_5 rfl (lv_at hl 1 rfl) ?_
  obtain ⟨g2, eg2⟩ : ∃ y : Int64, y = (x1 : Int32).toInt64 := ⟨_, rfl⟩
  refine lv_i2l (v := g2) X.1 X.2.1 dX12_fault_6 eg2.symm ?_
  refine lv_lconst (v := 0) X.1 X.2.1 dX12_fault_7 (by decide +kernel) ?_
  refine lv_ldc2 X.1 X.2.1 X.2.2.2.1 (X.2.2.2.2 _ wl_7_118) dX12_fault_8 ?_
  refine ca_X12_isIn X hK hG hC (fun _ h => h) hS hb g2 0 2 wl_7_119 hl.1 (rest := []) rfl (Nat.le_of_ble_eq_true rfl) ⟨Nat.le_of_ble_eq_true rfl, Nat.le_of_ble_eq_true rfl⟩ ⟨Nat.le_of_ble_eq_true rfl, Nat.le_of_ble_eq_true rfl⟩ dX12_fault_11 (fun f3 locs hf3 hS => ?_)
  refine lv_if_ne (tgt := 20) X.1 X.2.1 dX12_fault_14 (by decide) (fun c4 => ?_) (fun c4 => ?_)
  · refine lv_iload_n X.1 X.2.1 dX12_fault_20 rfl (lv_at hl 1 rfl) ?_
    refine lv_if_ne (tgt := 28) X.1 X.2.1 dX12_fault_21 (by decide) (fun c5 => ?_) (fun c5 => ?_)
    · refine lv_iload_n X.1 X.2.1 dX12_fault_28 rfl (lv_at hl 1 rfl) ?_
      refine lv_iconst (v := 1) X.1 X.2.1 dX12_fault_29 (by decide +kernel) ?_
      refine lv_icmp_ne (tgt := 46) X.1 X.2.1 dX12_fault_30 (by decide) (fun c6 => ?_) (fun c6 => ?_)
      · refine lv_iload_n X.1 X.2.1 dX12_fault_46 rfl (lv_at hl 1 rfl) ?_
        refine lv_iconst (v := 2) X.1 X.2.1 dX12_fault_47 (by decide +kernel) ?_
        refine lv_icmp_ne (tgt := 55) X.1 X.2.1 dX12_fault_48 (by decide) (fun c7 => ?_) (fun c7 => ?_)
        · exact ((c7 (iv_one (iv_ne_lo (a' := 2) c6 (iv_ne_lo (a' := 1) c5 (sg_isin (a := 0) (b := 2) (hf3.2 c4) eg2 (by decide +kernel) (by decide +kernel)) (by decide +kernel)) (by decide +kernel)) (iv_c 2 (a := 2) (b := 2) (by decide +kernel)) (by decide +kernel)))).elim
        · refine lv_aload_n X.1 X.2.1 dX12_fault_51 rfl (lv_at hl 0 rfl) ?_
          refine ca_X12_readGame X hK hG hC hS hb a0 h0 wl_8_27 hl.1 (rest := []) rfl (Nat.le_of_ble_eq_true rfl) ⟨Nat.le_of_ble_eq_true rfl, Nat.le_of_ble_eq_true rfl⟩ ⟨Nat.le_of_ble_eq_true rfl, Nat.le_of_ble_eq_true rfl⟩ dX12_fault_52 (fun H locs hG hS => ?_)
          refine lv_aload_n X.1 X.2.1 dX12_fault_55 rfl (lv_at hl 0 rfl) ?_
          refine gf_X12_11 X hK hG h0 wl_6_189 dX12_fault_56 (fun f9 hf9 kf9 => ?_)
          exact sg_iret X hr hlk hb hK hC hG hS trivial dX12_fault_59
      · refine lv_aload_n X.1 X.2.1 dX12_fault_33 rfl (lv_at hl 0 rfl) ?_
        refine lv_aload_n X.1 X.2.1 dX12_fault_34 rfl (lv_at hl 0 rfl) ?_
        refine gf_X12_1 X hK hG h0 wl_6_179 dX12_fault_35 (fun q10 hq10 kq10 => ?_)
        refine lv_iconst (v := 0) X.1 X.2.1 dX12_fault_38 (by decide +kernel) ?_
        refine lv_aload_n X.1 X.2.1 dX12_fault_39 rfl (lv_at hl 0 rfl) ?_
        refine gf_X12_6 X hK hG h0 wl_6_184 dX12_fault_40 (fun f11 hf11 kf11 => ?_)
        refine ca_X12_goThrough_t X hK hG hC hS hb a0 h0 q10 hq10 0 (iv_c 0 (a := 0) (b := 0) (by decide +kernel)) f11 hf11 wl_7_206 hl.1 (rest := []) rfl (Nat.le_of_ble_eq_true rfl) ⟨Nat.le_of_ble_eq_true rfl, Nat.le_of_ble_eq_true rfl⟩ ⟨Nat.le_of_ble_eq_true rfl, Nat.le_of_ble_eq_true rfl⟩ dX12_fault_43 (fun H locs hG hS => ?_)
        refine lv_iload_n X.1 X.2.1 dX12_fault_46 rfl (lv_at hl 1 rfl) ?_
        refine lv_iconst (v := 2) X.1 X.2.1 dX12_fault_47 (by decide +kernel) ?_
        refine lv_icmp_ne (tgt := 55) X.1 X.2.1 dX12_fault_48 (by decide) (fun c13 => ?_) (fun c13 => ?_)
        · refine lv_aload_n X.1 X.2.1 dX12_fault_55 rfl (lv_at hl 0 rfl) ?_
          refine gf_X12_11 X hK hG h0 wl_6_189 dX12_fault_56 (fun f14 hf14 kf14 => ?_)
          exact sg_iret X hr hlk hb hK hC hG hS trivial dX12_fault_59
        · exact ((iv_no (a := 2) (b := 1) (iv_eqm c13 (iv_eqm (a' := 1) (b' := 1) c6 (iv_ne_lo (a' := 1) c5 (sg_isin (a := 0) (b := 2) (hf3.2 c4) eg2 (by decide +kernel) (by decide +kernel)) (by decide +kernel)) (iv_c 1 (a := 1) (b := 1) (by decide +kernel)) (by decide +kernel)) (iv_c 2 (a := 2) (b := 2) (by decide +kernel)) (by decide +kernel)) (by decide +kernel))).elim
    · refine lv_aload_n X.1 X.2.1 dX12_fault_24 rfl (lv_at hl 0 rfl) ?_
      refine ca_X12_readLawn X hK hG hC hS hb a0 h0 wl_7_122 hl.1 (rest := []) rfl (Nat.le_of_ble_eq_true rfl) ⟨Nat.le_of_ble_eq_true rfl, Nat.le_of_ble_eq_true rfl⟩ ⟨Nat.le_of_ble_eq_true rfl, Nat.le_of_ble_eq_true rfl⟩ dX12_fault_25 (fun tg15 H locs htg15 hWg15 hS => ?_)
      obtain ⟨hBg15, hWg15⟩ := hWg15
      rcases hWg15 with hCg15 | ⟨w16, kw16, hw16⟩
      · have hG := hCg15.2.2.2
        rw [htg15] at hG
        refine lv_iload_n X.1 X.2.1 dX12_fault_28 rfl (lv_at hl 1 rfl) ?_
        refine lv_iconst (v := 1) X.1 X.2.1 dX12_fault_29 (by decide +kernel) ?_
        refine lv_icmp_ne (tgt := 46) X.1 X.2.1 dX12_fault_30 (by decide) (fun c17 => ?_) (fun c17 => ?_)
        · refine lv_iload_n X.1 X.2.1 dX12_fault_46 rfl (lv_at hl 1 rfl) ?_
          refine lv_iconst (v := 2) X.1 X.2.1 dX12_fault_47 (by decide +kernel) ?_
          refine lv_icmp_ne (tgt := 55) X.1 X.2.1 dX12_fault_48 (by decide) (fun c18 => ?_) (fun c18 => ?_)
          · refine lv_aload_n X.1 X.2.1 dX12_fault_55 rfl (lv_at hl 0 rfl) ?_
            refine gf_X12_11m X hK hG h0 wl_6_189 dX12_fault_56 (fun f19 hf19 kf19 => ?_)
            have hG : sgG (KT P) D vwCl _ tys ad ks _ := sgm_weak (by omega) hG
            exact sg_iret X hr hlk hb hK hC hG hS trivial dX12_fault_59
          · exact ((iv_no (a := 2) (b := 0) (iv_eqm c18 (iv_eqm (a' := 0) (b' := 0) c5 (sg_isin (a := 0) (b := 2) (hf3.2 c4) eg2 (by decide +kernel) (by decide +kernel)) (iv_c 0 (a := 0) (b := 0) (by decide +kernel)) (by decide +kernel)) (iv_c 2 (a := 2) (b := 2) (by decide +kernel)) (by decide +kernel)) (by decide +kernel))).elim
        · exact ((iv_no (a := 1) (b := 0) (iv_eqm c17 (iv_eqm (a' := 0) (b' := 0) c5 (sg_isin (a := 0) (b := 2) (hf3.2 c4) eg2 (by decide +kernel) (by decide +kernel)) (iv_c 0 (a := 0) (b := 0) (by decide +kernel)) (by decide +kernel)) (iv_c 1 (a := 1) (b := 1) (by decide +kernel)) (by decide +kernel)) (by decide +kernel))).elim
      · have hG := hBg15.2.2.2
        rw [htg15] at hG kw16
        refine lv_iload_n X.1 X.2.1 dX12_fault_28 rfl (lv_at hl 1 rfl) ?_
        refine lv_iconst (v := 1) X.1 X.2.1 dX12_fault_29 (by decide +kernel) ?_
        refine lv_icmp_ne (tgt := 46) X.1 X.2.1 dX12_fault_30 (by decide) (fun c20 => ?_) (fun c20 => ?_)
        · refine lv_iload_n X.1 X.2.1 dX12_fault_46 rfl (lv_at hl 1 rfl) ?_
          refine lv_iconst (v := 2) X.1 X.2.1 dX12_fault_47 (by decide +kernel) ?_
          refine lv_icmp_ne (tgt := 55) X.1 X.2.1 dX12_fault_48 (by decide) (fun c21 => ?_) (fun c21 => ?_)
          · refine lv_aload_n X.1 X.2.1 dX12_fault_55 rfl (lv_at hl 0 rfl) ?_
            refine gg_X12_11 X hK hG h0 wl_6_189 kw16 dX12_fault_56 ?_
            exact sg_iret X hr hlk hb hK hC hG hS trivial dX12_fault_59
          · exact ((iv_no (a := 2) (b := 0) (iv_eqm c21 (iv_eqm (a' := 0) (b' := 0) c5 (sg_isin (a := 0) (b := 2) (hf3.2 c4) eg2 (by decide +kernel) (by decide +kernel)) (iv_c 0 (a := 0) (b := 0) (by decide +kernel)) (by decide +kernel)) (iv_c 2 (a := 2) (b := 2) (by decide +kernel)) (by decide +kernel)) (by decide +kernel))).elim
        · exact ((iv_no (a := 1) (b := 0) (iv_eqm c20 (iv_eqm (a' := 0) (b' := 0) c5 (sg_isin (a := 0) (b := 2) (hf3.2 c4) eg2 (by decide +kernel) (by decide +kernel)) (iv_c 0 (a := 0) (b := 0) (by decide +kernel)) (by decide +kernel)) (iv_c 1 (a := 1) (b := 1) (by decide +kernel)) (by decide +kernel)) (by decide +kernel))).elim
  · refine lv_bipush (v := (-2)) X.1 X.2.1 dX12_fault_17 (by decide +kernel) ?_
    exact sg_iret X hr hlk hb hK hC hG hS trivial dX12_fault_19

theorem ca_X12_fault   (X : CallFix p m c cc nL s args sg_tbl own) (hK : va_K D vwCl tys s) (hG : sgG (KT P) D vwCl (fun q : Nat => base ≤ q) tys ad ks H) (hC : sgC base s) (hS : va_S (fun q : Nat => base ≤ q) s.heap H locs) (hb : base ≤ s.heap.size) (a0 : Nat) (h0 : isK ad ks 12 a0) (x1 : Int32) (hl : Cond.methodLink own index yX12_fault ∈ sg_tbl) (hsize : ls.size = nL) (hst : st0 = [.int x1].reverse ++ .ref a0 :: rest) (hW : (rest.map fun v => v.category).sum ≤ 8) (hR : 33 ≤ R.frames ∧ 767 ≤ R.locals) (hf : cells ≤ R.cells ∧ slots ≤ R.slots) (hdg : decode cc pc = .ok (.invokevirtual index, 3)) (kk : ∀ (r : Int32) (H1 : Heap) (locs1 : List Loc), (fun r : Int32 => True) r → sgG (KT P) D vwCl (fun q : Nat => base ≤ q) tys ad ks H1 → va_S (fun q : Nat => base ≤ q) s.heap H1 locs1 → W p l e R s m args below meth c H1 locs1 cells slots Q (F0 m (pc + 3) ls (.int r :: rest))) : W p l e R s m args below meth c H locs cells slots Q (F0 m pc ls st0) :=
  sg_callVi X hK hG hC hS hb (m_X12_fault l a0 h0 x1) h0 (k := 12) (ci := 12) rfl (C := RX12) (T := TX12) (N := 53) rfl wl_7_117 wl_1_13 wl_7_115 wl_7_116 (n := 1) (by decide +kernel) rfl rfl rfl hl hsize hst hW hR hf hdg kk

set_option maxHeartbeats 8000000 in
set_option maxRecDepth 100000 in
theorem m_X12_text (l : Launch) {D : va_G} {base : Nat} {tys : List (ClassId × FieldType)} {ad ks : List Nat} {P : sgPm} (hp10 : sgPin P = none) (a0 : Nat) (h0 : isK ad ks 12 a0) (x1 : Int32) : Met l yX12_text (Cond.code yX12_text cX12_text 4 (some .int) :: sg_tbl) ({ frames := 33, cells := 0, slots := 0, locals := 767 }) (va_Pc [.ref a0, .int x1] (sgB (KT P) D vwCl base tys ad ks)) (va_Qi (fun r (u : Int32) => u = r ∧ (fun r : Int32 => True) r) (fun u t => ∃ P1 : sgPm, sgKeep P P1 ∧ sgPin P1 = none ∧ sgB (KT P1) D vwCl base tys ad ks t) (fun q : Nat => base ≤ q)) 0 0 (fun q : Nat => base ≤ q) := by
  refine sg_ofW (by decide +kernel) (Nat.le_of_ble_eq_true rfl) (fun p e s m below meth c X hr hlk hb hK hC hG ls hl => ?_)
  have hS : va_S (fun q : Nat => base ≤ q) s.heap s.heap [] := va_S.rf
  have hl : lv_has ls 4 [(0, .ref a0), (1, .int x1)] := hl
  refine lv_aload_n X.1 X.2.1 dX12_text_0 rfl (lv_at hl 0 rfl) ?_
  refine lv_iconst (v := 0) X.1 X.2.1 dX12_text_1 (by decide +kernel) ?_
  refine pf_X12_0 X hK hG hS h0 wl_6_178 ⟨_, rfl, (iv_top _)⟩ dX12_text_2 (fun H locs hG hS ku1 ru1 => ?_)
  refine lv_iload_n X.1 X.2.1 dX12_text_5 rfl (lv_at hl 1 rfl) ?_
  obtain ⟨g2, eg2⟩ : ∃ y : Int64, y = (x1 : Int32).toInt64 := ⟨_, rfl⟩
  refine lv_i2l (v := g2) X.1 X.2.1 dX12_text_6 eg2.symm ?_
  refine lv_lconst (v := 0) X.1 X.2.1 dX12_text_7 (by decide +kernel) ?_
  refine lv_ldc2 X.1 X.2.1 X.2.2.2.1 (X.2.2.2.2 _ wl_7_118) dX12_text_8 ?_
  refine ca_X12_isIn X hK hG hC (fun _ h => h) hS hb g2 0 2 wl_7_119 hl.1 (rest := []) rfl (Nat.le_of_ble_eq_true rfl) ⟨Nat.le_of_ble_eq_true rfl, Nat.le_of_ble_eq_true rfl⟩ ⟨Nat.le_of_ble_eq_true rfl, Nat.le_of_ble_eq_true rfl⟩ dX12_text_11 (fun f3 locs hf3 hS => ?_)
  refine lv_if_eq (tgt := 52) X.1 X.2.1 dX12_text_14 (by decide) (fun c4 => ?_) (fun c4 => ?_)
  · refine lv_iconst (v := (-1)) X.1 X.2.1 dX12_text_52 (by decide +kernel) ?_
    exact sg_iret2 X hr hlk hS trivial (fun t ht hW => ⟨P, ⟨rfl, rfl, Nat.le_refl _, Nat.le_add_right _ _⟩, hp10, sg_post hb hK hC hG hS ht hW⟩) dX12_text_53
  · by_cases k5 : x1.toInt = 0
    · have hk5 : iv 0 0 x1 := ⟨by omega, by omega⟩
      refine lv_iload_n X.1 X.2.1 dX12_text_17 rfl (lv_at hl 1 rfl) ?_
      refine lv_iconst (v := 1) X.1 X.2.1 dX12_text_18 (by decide +kernel) ?_
      refine lv_icmp_ne (tgt := 30) X.1 X.2.1 dX12_text_19 (by decide) (fun c6 => ?_) (fun c6 => ?_)
      · refine lv_iload_n X.1 X.2.1 dX12_text_30 rfl (lv_at hl 1 rfl) ?_
        refine lv_iconst (v := 2) X.1 X.2.1 dX12_text_31 (by decide +kernel) ?_
        refine lv_icmp_ne (tgt := 43) X.1 X.2.1 dX12_text_32 (by decide) (fun c7 => ?_) (fun c7 => ?_)
        · refine lv_aload_n X.1 X.2.1 dX12_text_43 rfl (lv_at hl 0 rfl) ?_
          refine lv_iload_n X.1 X.2.1 dX12_text_44 rfl (lv_at hl 1 rfl) ?_
          refine ca_X12_fault_0 X hK hG hC hS hb a0 h0 x1 hk5 wl_8_45 hl.1 (rest := []) rfl (Nat.le_of_ble_eq_true rfl) ⟨Nat.le_of_ble_eq_true rfl, Nat.le_of_ble_eq_true rfl⟩ ⟨Nat.le_of_ble_eq_true rfl, Nat.le_of_ble_eq_true rfl⟩ dX12_text_45 (fun f8 tf8 H locs htf8 hf8 hWf8 hS => ?_)
          obtain ⟨hBf8, hMf8⟩ := hWf8
          have hG := hBf8.2.2.2
          rw [htf8] at hG
          refine lv_iconst (v := (-1)) X.1 X.2.1 dX12_text_48 (by decide +kernel) ?_
          refine lv_icmp_eq (tgt := 54) X.1 X.2.1 dX12_text_49 (by decide) (fun c9 => ?_) (fun c9 => ?_)
          · have hG := (hMf8 c9).2.2.2
            rw [htf8] at hG
            refine lv_aload_n X.1 X.2.1 dX12_text_54 rfl (lv_at hl 0 rfl) ?_
            refine gf_X12_6m X hK hG h0 wl_6_184 dX12_text_55 (fun f10 hf10 kf10 => ?_)
            refine lv_istore_n (lv' := [(2, .int f10), (0, .ref a0), (1, .int x1)]) X.1 X.2.1 dX12_text_58 rfl hl (by decide) rfl (fun ls hl => ?_)
            refine lv_aload_n X.1 X.2.1 dX12_text_59 rfl (lv_at hl 1 rfl) ?_
            refine lv_iconst (v := 0) X.1 X.2.1 dX12_text_60 (by decide +kernel) ?_
            refine pf_X12_6m X hK hG hS h0 wl_6_184 ⟨_, rfl, (iv_of (iv_c 0 (a := 0) (b := 0) (by decide +kernel)) (a' := 0) (b' := 240) (by decide +kernel))⟩ dX12_text_61 (fun H locs hG hS ku11 ru11 => ?_)
            refine lv_iload_n X.1 X.2.1 dX12_text_64 rfl (lv_at hl 2 rfl) ?_
            refine lv_iconst (v := 1) X.1 X.2.1 dX12_text_65 (by decide +kernel) ?_
            refine lv_icmp_ne (tgt := 130) X.1 X.2.1 dX12_text_66 (by decide) (fun c12 => ?_) (fun c12 => ?_)
            · refine lv_iload_n X.1 X.2.1 dX12_text_130 rfl (lv_at hl 2 rfl) ?_
              refine lv_iconst (v := 2) X.1 X.2.1 dX12_text_131 (by decide +kernel) ?_
              refine lv_icmp_ne (tgt := 205) X.1 X.2.1 dX12_text_132 (by decide) (fun c13 => ?_) (fun c13 => ?_)
              · have hG := kx_of hG
                refine lv_iconst (v := 0) X.1 X.2.1 dX12_text_205 (by decide +kernel) ?_
                refine lv_istore_n (lv' := [(3, .int 0), (2, .int f10), (0, .ref a0), (1, .int x1)]) X.1 X.2.1 dX12_text_206 rfl hl (by decide) rfl (fun ls hl => ?_)
                have B14_207 : ∀ (N : Nat) (H : Heap) (locs : List Loc) (ls : Array Slot) (z14_3 : Int32), sgG (KX z14_3.toInt P) D vwCl (fun q : Nat => base ≤ q) tys ad ks H → va_S (fun q : Nat => base ≤ q) s.heap H locs → lv_has ls 4 [(0, .ref a0), (3, .int z14_3)] → iv 0 7 z14_3 → (8 - z14_3.toInt).toNat ≤ N → W p l e (headSpec (Cond.code yX12_text cX12_text 4 (some .int) :: sg_tbl) ({ frames := 33, cells := 0, slots := 0, locals := 767 })).room s m #[.ref a0, .int x1] below meth c H locs 0 0 (MQ below (va_Qi (fun r (u : Int32) => u = r ∧ (fun r : Int32 => True) r) (fun u t => ∃ P1 : sgPm, sgKeep P P1 ∧ sgPin P1 = none ∧ sgB (KT P1) D vwCl base tys ad ks t) (fun q : Nat => base ≤ q)) #[.ref a0, .int x1] s 0 0 (fun q : Nat => base ≤ q)) (F0 m 207 ls []) := by
                  intro N; induction N with
                  | zero =>
                    intro H locs ls z14_3 hG hS hl hz14_3 hN
                    exact absurd hN (by have := iv_up hz14_3; omega)
                  | succ N ih14 =>
                    intro H locs ls z14_3 hG hS hl hz14_3 hN14
                    refine lv_iload_n X.1 X.2.1 dX12_text_207 rfl (lv_at hl 1 rfl) ?_
                    refine lv_bipush (v := 7) X.1 X.2.1 dX12_text_208 (by decide +kernel) ?_
                    refine lv_icmp_ge (tgt := 231) X.1 X.2.1 dX12_text_210 (by decide) (fun c15 => ?_) (fun c15 => ?_)
                    · have bq16 : 7 ≤ z14_3.toInt ∧ z14_3.toInt ≤ 7 := (iv_ler (c' := 7) c15 (iv_c 7 (a := 7) (b := 7) (by decide +kernel)) hz14_3 (by decide +kernel))
                      have cq17 : (7 : Int32).toInt = 7 := by decide +kernel
                      have rr18 : (7 : Int32).toInt ≤ (z14_3 : Int32).toInt := Int32.le_iff_toInt_le.mp c15
                      rw [show z14_3.toInt = (7 : Int) from by omega] at hG
                      refine lv_aload_n X.1 X.2.1 dX12_text_231 rfl (lv_at hl 0 rfl) ?_
                      refine lv_aload_n X.1 X.2.1 dX12_text_232 rfl (lv_at hl 0 rfl) ?_
                      refine gf_X12_18y X hK hG h0 wl_6_196 dX12_text_233 (fun q19 hq19 kq19 => ?_)
                      refine lv_iconst (v := 0) X.1 X.2.1 dX12_text_236 (by decide +kernel) ?_
                      refine al_49y X hK hG hq19 (iv_vpin (iv_c 0 (a := 0) (b := 0) (by decide +kernel)) (by decide +kernel)) dX12_text_237 (fun f20 hf20 => ?_)
                      have of20 := hf20
                      have hf20 : iv 1 6 f20 := sg_rr7 hf20 (iv_c 0 (a := 0) (b := 0) (by decide +kernel)) (by decide +kernel) rfl
                      refine lv_aload_n X.1 X.2.1 dX12_text_238 rfl (lv_at hl 0 rfl) ?_
                      refine gg_X12_18y X hK hG h0 wl_6_196 kq19 dX12_text_239 ?_
                      refine lv_iconst (v := 1) X.1 X.2.1 dX12_text_242 (by decide +kernel) ?_
                      refine al_49y X hK hG hq19 (iv_vpin (iv_c 1 (a := 1) (b := 1) (by decide +kernel)) (by decide +kernel)) dX12_text_243 (fun f21 hf21 => ?_)
                      have of21 := hf21
                      have hf21 : iv 1 5 f21 := sg_rr7 hf21 (iv_c 1 (a := 1) (b := 1) (by decide +kernel)) (by decide +kernel) rfl
                      refine lv_imul X.1 X.2.1 dX12_text_244 ?_
                      refine lv_topi (fun f22 ef22 => ?_)
                      refine pf_X12_23y X hK hG hS h0 wl_6_201 ⟨_, rfl, (iv_of (iv_mul (a' := 1) (b' := 30) ef22 hf20 hf21 (by decide +kernel)) (a' := 0) (b' := 30) (by decide +kernel))⟩ dX12_text_245 (fun H locs hG hS ku23 ru23 => ?_)
                      obtain ⟨w0, kw0, hw0⟩ := sg_elpk hG hq19 (k := 49) (n := 7) (el := sg_rr 7) rfl (i := 0) (by decide)
                      have hw0 : iv 1 6 w0 := by obtain ⟨y, h1, h2⟩ := hw0; cases h1; exact h2
                      have hG := kx_to (by decide) hG h0 hq19 ku23 (iv_mul (a' := 1) (b' := 30) ef22 hf20 hf21 (by decide +kernel)) kw0 hw0
                      refine lv_aload_n X.1 X.2.1 dX12_text_248 rfl (lv_at hl 0 rfl) ?_
                      refine lv_aload_n X.1 X.2.1 dX12_text_249 rfl (lv_at hl 0 rfl) ?_
                      refine gf_X12_26 X hK hG h0 wl_6_204 dX12_text_250 (fun f24 hf24 kf24 => ?_)
                      refine pf_X12_24 X hK hG hS h0 wl_6_202 ⟨_, rfl, (iv_top _)⟩ dX12_text_253 (fun H locs hG hS ku25 ru25 => ?_)
                      refine lv_iconst (v := 0) X.1 X.2.1 dX12_text_256 (by decide +kernel) ?_
                      refine lv_istore_n (lv' := [(3, .int 0), (0, .ref a0)]) X.1 X.2.1 dX12_text_257 rfl hl (by decide) rfl (fun ls hl => ?_)
                      have B26_258 : ∀ (N : Nat) (H : Heap) (locs : List Loc) (ls : Array Slot) (z26_3 : Int32), sgG (KT (sgLw P w0.toInt (f22 : Int32).toInt)) D vwCl (fun q : Nat => base ≤ q) tys ad ks H → va_S (fun q : Nat => base ≤ q) s.heap H locs → lv_has ls 4 [(0, .ref a0), (3, .int z26_3)] → iv 0 249 z26_3 → (250 - z26_3.toInt).toNat ≤ N → W p l e (headSpec (Cond.code yX12_text cX12_text 4 (some .int) :: sg_tbl) ({ frames := 33, cells := 0, slots := 0, locals := 767 })).room s m #[.ref a0, .int x1] below meth c H locs 0 0 (MQ below (va_Qi (fun r (u : Int32) => u = r ∧ (fun r : Int32 => True) r) (fun u t => ∃ P1 : sgPm, sgKeep P P1 ∧ sgPin P1 = none ∧ sgB (KT P1) D vwCl base tys ad ks t) (fun q : Nat => base ≤ q)) #[.ref a0, .int x1] s 0 0 (fun q : Nat => base ≤ q)) (F0 m 258 ls []) := by
                        intro N; induction N with
                        | zero =>
                          intro H locs ls z26_3 hG hS hl hz26_3 hN
                          exact absurd hN (by have := iv_up hz26_3; omega)
                        | succ N ih26 =>
                          intro H locs ls z26_3 hG hS hl hz26_3 hN26
                          refine lv_iload_n X.1 X.2.1 dX12_text_258 rfl (lv_at hl 1 rfl) ?_
                          refine lv_sipush (v := 249) X.1 X.2.1 dX12_text_259 (by decide +kernel) ?_
                          refine lv_icmp_ge (tgt := 278) X.1 X.2.1 dX12_text_262 (by decide) (fun c27 => ?_) (fun c27 => ?_)
                          · refine lv_aload_n X.1 X.2.1 dX12_text_278 rfl (lv_at hl 0 rfl) ?_
                            refine gf_X12_32 X hK hG h0 wl_6_210 dX12_text_279 (fun q28 hq28 kq28 => ?_)
                            refine lv_iconst (v := 0) X.1 X.2.1 dX12_text_282 (by decide +kernel) ?_
                            refine lv_aload_n X.1 X.2.1 dX12_text_283 rfl (lv_at hl 0 rfl) ?_
                            refine gf_X12_25 X hK hG h0 wl_6_203 dX12_text_284 (fun f29 hf29 kf29 => ?_)
                            refine as_54 X hK hG hS hq28 (iv_vpin (iv_c 0 (a := 0) (b := 0) (by decide +kernel)) (by decide +kernel)) (sg_nw_none hp10 (sg_at_now (a := (-2147483648)) (b := 2147483647) (iv_c 0 (a := 0) (b := 0) (by decide +kernel)) (by decide +kernel) rfl (iv_top f29))) dX12_text_287 (fun H locs hG hS ru30 => ?_)
                            refine lv_aload_n X.1 X.2.1 dX12_text_288 rfl (lv_at hl 0 rfl) ?_
                            refine gg_X12_32 X hK hG h0 wl_6_210 (ru30 _ _ _ _ _ _ _ h0 rfl rfl (by decide) (fun z => z.elim) kq28) dX12_text_289 ?_
                            refine lv_iconst (v := 2) X.1 X.2.1 dX12_text_292 (by decide +kernel) ?_
                            refine lv_aload_n X.1 X.2.1 dX12_text_293 rfl (lv_at hl 0 rfl) ?_
                            refine gf_X12_18 X hK hG h0 wl_6_196 dX12_text_294 (fun q31 hq31 kq31 => ?_)
                            refine lv_bipush (v := 6) X.1 X.2.1 dX12_text_297 (by decide +kernel) ?_
                            refine al_49 X hK hG hq31 (iv_vpin (iv_c 6 (a := 6) (b := 6) (by decide +kernel)) (by decide +kernel)) dX12_text_299 (fun f32 hf32 => ?_)
                            have of32 := hf32
                            have hf32 : iv 0 1 f32 := sg_r1 rfl hf32 (iv_c 6 (a := 6) (b := 6) (by decide +kernel)) (by decide +kernel) rfl
                            refine as_54 X hK hG hS hq28 (iv_vpin (iv_c 2 (a := 2) (b := 2) (by decide +kernel)) (by decide +kernel)) (sg_nw_ne (sg_nei0 (iv_c 2 (a := 2) (b := 2) (by decide +kernel)) (by decide +kernel)) (sg_at_now (a := 0) (b := 1) (iv_c 2 (a := 2) (b := 2) (by decide +kernel)) (by decide +kernel) rfl hf32)) dX12_text_300 (fun H locs hG hS ru33 => ?_)
                            refine lv_aload_n X.1 X.2.1 dX12_text_301 rfl (lv_at hl 0 rfl) ?_
                            refine lv_iconst (v := 0) X.1 X.2.1 dX12_text_302 (by decide +kernel) ?_
                            refine pf_X12_50 X hK hG hS h0 wl_6_228 ⟨_, rfl, (iv_of (iv_c 0 (a := 0) (b := 0) (by decide +kernel)) (a' := 0) (b' := 12) (by decide +kernel))⟩ dX12_text_303 (fun H locs hG hS ku34 ru34 => ?_)
                            refine lv_aload_n X.1 X.2.1 dX12_text_306 rfl (lv_at hl 0 rfl) ?_
                            refine lv_iconst (v := 0) X.1 X.2.1 dX12_text_307 (by decide +kernel) ?_
                            refine pf_X12_39 X hK hG hS h0 wl_6_217 ⟨_, rfl, (iv_of (iv_c 0 (a := 0) (b := 0) (by decide +kernel)) (a' := 0) (b' := 40) (by decide +kernel))⟩ dX12_text_308 (fun H locs hG hS ku35 ru35 => ?_)
                            refine lv_aload_n X.1 X.2.1 dX12_text_311 rfl (lv_at hl 0 rfl) ?_
                            refine lv_iconst (v := 0) X.1 X.2.1 dX12_text_312 (by decide +kernel) ?_
                            refine pf_X12_52 X hK hG hS h0 wl_6_230 ⟨_, rfl, (iv_of (iv_c 0 (a := 0) (b := 0) (by decide +kernel)) (a' := 0) (b' := 1) (by decide +kernel))⟩ dX12_text_313 (fun H locs hG hS ku36 ru36 => ?_)
                            refine lv_aload_n X.1 X.2.1 dX12_text_316 rfl (lv_at hl 0 rfl) ?_
                            refine gf_X12_23s X hK hG h0 rfl wl_6_201 dX12_text_317 (fun f37 hf37 kf37 => ?_)
                            exact sg_iret2 X hr hlk hS trivial (fun t ht hW => ⟨(sgLw P w0.toInt (f22 : Int32).toInt), ⟨rfl, rfl, Nat.le_refl _, Nat.le_add_right _ _⟩, hp10, sg_post hb hK hC hG hS ht hW⟩) dX12_text_320
                          · refine lv_aload_n X.1 X.2.1 dX12_text_265 rfl (lv_at hl 0 rfl) ?_
                            refine gf_X12_32 X hK hG h0 wl_6_210 dX12_text_266 (fun q38 hq38 kq38 => ?_)
                            refine lv_iload_n X.1 X.2.1 dX12_text_269 rfl (lv_at hl 1 rfl) ?_
                            refine lv_iconst (v := 0) X.1 X.2.1 dX12_text_270 (by decide +kernel) ?_
                            refine as_54 X hK hG hS hq38 (iv_vpin (iv_lt (b' := 248) (iv_gt_of c27) hz26_3 (iv_c 249 (a := 249) (b := 249) (by decide +kernel)) (by decide +kernel)) (by decide +kernel)) (sg_nw_none hp10 sg_zero_now) dX12_text_271 (fun H locs hG hS ru39 => ?_)
                            obtain ⟨y40, ey40⟩ : ∃ y : Int32, y = z26_3 + Int32.ofInt 1 := ⟨_, rfl⟩
                            refine lv_iinc (v := y40) (lv' := [(3, .int y40), (0, .ref a0)]) X.1 X.2.1 dX12_text_272 hl (k := 1) rfl ey40.symm (by decide) rfl (fun ls hl => ?_)
                            refine lv_goto (tgt := 258) X.1 X.2.1 dX12_text_275 (by decide) ?_
                            exact ih26 H _ _ y40 hG hS (lv_sub hl [1, 0] rfl) (iv_of (iv_add (a' := 1) (b' := 249) ey40 (iv_lt (b' := 248) (iv_gt_of c27) hz26_3 (iv_c 249 (a := 249) (b := 249) (by decide +kernel)) (by decide +kernel)) (iv_c _ (a := 1) (b := 1) (by decide +kernel)) (by decide +kernel)) (a' := 0) (b' := 249) (by decide +kernel)) (iv_stepU ey40 (iv_lt (b' := 248) (iv_gt_of c27) hz26_3 (iv_c 249 (a := 249) (b := 249) (by decide +kernel)) (by decide +kernel)) (by decide +kernel) hN26)
                      exact B26_258 _ H _ _ 0 hG hS (lv_sub hl [1, 0] rfl) (iv_of (iv_c 0 (a := 0) (b := 0) (by decide +kernel)) (a' := 0) (b' := 249) (by decide +kernel)) (Nat.le_refl _)
                    · refine lv_aload_n X.1 X.2.1 dX12_text_213 rfl (lv_at hl 0 rfl) ?_
                      refine gf_X12_18y X hK hG h0 wl_6_196 dX12_text_214 (fun q41 hq41 kq41 => ?_)
                      refine lv_iload_n X.1 X.2.1 dX12_text_217 rfl (lv_at hl 1 rfl) ?_
                      refine lv_aload_n X.1 X.2.1 dX12_text_218 rfl (lv_at hl 0 rfl) ?_
                      refine gf_X12_19y X hK hG h0 wl_6_197 dX12_text_219 (fun q42 hq42 kq42 => ?_)
                      refine lv_iload_n X.1 X.2.1 dX12_text_222 rfl (lv_at hl 1 rfl) ?_
                      refine al_50y X hK hG hq42 (iv_vpin (iv_lt (b' := 6) (iv_gt_of c15) hz14_3 (iv_c 7 (a := 7) (b := 7) (by decide +kernel)) (by decide +kernel)) (by decide +kernel)) dX12_text_223 (fun f43 hf43 => ?_)
                      have of43 := hf43
                      have hf43 : iv (-2147483648) 2147483647 f43 := iv_top f43
                      refine as_49x X hK hG hS hq41 (iv_vpin (iv_lt (b' := 6) (iv_gt_of c15) hz14_3 (iv_c 7 (a := 7) (b := 7) (by decide +kernel)) (by decide +kernel)) (by decide +kernel)) (show z14_3.toInt = z14_3.toInt from rfl) (sg_rr_rl rfl ((iv_lt (b' := 6) (iv_gt_of c15) hz14_3 (iv_c 7 (a := 7) (b := 7) (by decide +kernel)) (by decide +kernel))).1 (by have := ((iv_lt (b' := 6) (iv_gt_of c15) hz14_3 (iv_c 7 (a := 7) (b := 7) (by decide +kernel)) (by decide +kernel))).2; omega) of43) dX12_text_224 (fun H locs hG hS => ?_)
                      obtain ⟨y45, ey45⟩ : ∃ y : Int32, y = z14_3 + Int32.ofInt 1 := ⟨_, rfl⟩
                      refine lv_iinc (v := y45) (lv' := [(3, .int y45), (0, .ref a0)]) X.1 X.2.1 dX12_text_225 hl (k := 1) rfl ey45.symm (by decide) rfl (fun ls hl => ?_)
                      refine lv_goto (tgt := 207) X.1 X.2.1 dX12_text_228 (by decide) ?_
                      have bq46 : 0 ≤ z14_3.toInt ∧ z14_3.toInt ≤ 6 := (iv_lt (b' := 6) (iv_gt_of c15) hz14_3 (iv_c 7 (a := 7) (b := 7) (by decide +kernel)) (by decide +kernel))
                      have xy45 : y45.toInt = z14_3.toInt + 1 := sg_inc (k := 1) ey45 (iv_lt (b' := 6) (iv_gt_of c15) hz14_3 (iv_c 7 (a := 7) (b := 7) (by decide +kernel)) (by decide +kernel)) (by decide +kernel)
                      have hG := sg_cast hG (show (KX (z14_3.toInt + 1) P) = (KX (y45 : Int32).toInt P) from by rw [show (y45 : Int32).toInt = (z14_3.toInt + 1) from by omega])
                      exact ih14 H _ _ y45 hG hS (lv_sub hl [1, 0] rfl) (iv_of (iv_add (a' := 1) (b' := 7) ey45 (iv_lt (b' := 6) (iv_gt_of c15) hz14_3 (iv_c 7 (a := 7) (b := 7) (by decide +kernel)) (by decide +kernel)) (iv_c _ (a := 1) (b := 1) (by decide +kernel)) (by decide +kernel)) (a' := 0) (b' := 7) (by decide +kernel)) (iv_stepU ey45 (iv_lt (b' := 6) (iv_gt_of c15) hz14_3 (iv_c 7 (a := 7) (b := 7) (by decide +kernel)) (by decide +kernel)) (by decide +kernel) hN14)
                have cq47 : (0 : Int32).toInt = 0 := by decide +kernel
                have hG := sg_cast hG (show (KX 0 P) = (KX (0 : Int32).toInt P) from by rw [show (0 : Int32).toInt = 0 from by omega])
                exact B14_207 _ H _ _ 0 hG hS (lv_sub hl [2, 0] rfl) (iv_of (iv_c 0 (a := 0) (b := 0) (by decide +kernel)) (a' := 0) (b' := 7) (by decide +kernel)) (Nat.le_refl _)
              · exact ((iv_no (a := 2) (b := 0) (iv_eqm c13 hk5 (iv_c 2 (a := 2) (b := 2) (by decide +kernel)) (by decide +kernel)) (by decide +kernel))).elim
            · exact ((iv_no (a := 1) (b := 0) (iv_eqm c12 hk5 (iv_c 1 (a := 1) (b := 1) (by decide +kernel)) (by decide +kernel)) (by decide +kernel))).elim
          · refine lv_iconst (v := (-1)) X.1 X.2.1 dX12_text_52 (by decide +kernel) ?_
            exact sg_iret2 X hr hlk hS trivial (fun t ht hW => ⟨P, ⟨rfl, rfl, Nat.le_refl _, Nat.le_add_right _ _⟩, hp10, sg_post hb hK hC hG hS ht hW⟩) dX12_text_53
        · exact ((iv_no (a := 2) (b := 0) (iv_eqm c7 hk5 (iv_c 2 (a := 2) (b := 2) (by decide +kernel)) (by decide +kernel)) (by decide +kernel))).elim
      · exact ((iv_no (a := 1) (b := 0) (iv_eqm c6 hk5 (iv_c 1 (a := 1) (b := 1) (by decide +kernel)) (by decide +kernel)) (by decide +kernel))).elim
    by_cases k48 : x1.toInt = 1
    · have hk48 : iv 1 1 x1 := ⟨by omega, by omega⟩
      refine lv_iload_n X.1 X.2.1 dX12_text_17 rfl (lv_at hl 1 rfl) ?_
      refine lv_iconst (v := 1) X.1 X.2.1 dX12_text_18 (by decide +kernel) ?_
      refine lv_icmp_ne (tgt := 30) X.1 X.2.1 dX12_text_19 (by decide) (fun c49 => ?_) (fun c49 => ?_)
      · exact ((c49 (iv_one hk48 (iv_c 1 (a := 1) (b := 1) (by decide +kernel)) (by decide +kernel)))).elim
      · refine lv_aload_n X.1 X.2.1 dX12_text_22 rfl (lv_at hl 0 rfl) ?_
        refine gf_X12_7 X hK hG h0 wl_6_185 dX12_text_23 (fun f50 hf50 pf50 kf50 => ?_)
        refine lv_iconst (v := 4) X.1 X.2.1 dX12_text_26 (by decide +kernel) ?_
        refine lv_icmp_eq (tgt := 52) X.1 X.2.1 dX12_text_27 (by decide) (fun c51 => ?_) (fun c51 => ?_)
        · refine lv_iconst (v := (-1)) X.1 X.2.1 dX12_text_52 (by decide +kernel) ?_
          exact sg_iret2 X hr hlk hS trivial (fun t ht hW => ⟨P, ⟨rfl, rfl, Nat.le_refl _, Nat.le_add_right _ _⟩, hp10, sg_post hb hK hC hG hS ht hW⟩) dX12_text_53
        · refine lv_iload_n X.1 X.2.1 dX12_text_30 rfl (lv_at hl 1 rfl) ?_
          refine lv_iconst (v := 2) X.1 X.2.1 dX12_text_31 (by decide +kernel) ?_
          refine lv_icmp_ne (tgt := 43) X.1 X.2.1 dX12_text_32 (by decide) (fun c52 => ?_) (fun c52 => ?_)
          · refine lv_aload_n X.1 X.2.1 dX12_text_43 rfl (lv_at hl 0 rfl) ?_
            refine lv_iload_n X.1 X.2.1 dX12_text_44 rfl (lv_at hl 1 rfl) ?_
            refine ca_X12_fault X hK hG hC hS hb a0 h0 x1 wl_8_45 hl.1 (rest := []) rfl (Nat.le_of_ble_eq_true rfl) ⟨Nat.le_of_ble_eq_true rfl, Nat.le_of_ble_eq_true rfl⟩ ⟨Nat.le_of_ble_eq_true rfl, Nat.le_of_ble_eq_true rfl⟩ dX12_text_45 (fun f53 H locs hf53 hG hS => ?_)
            refine lv_iconst (v := (-1)) X.1 X.2.1 dX12_text_48 (by decide +kernel) ?_
            refine lv_icmp_eq (tgt := 54) X.1 X.2.1 dX12_text_49 (by decide) (fun c54 => ?_) (fun c54 => ?_)
            · refine lv_aload_n X.1 X.2.1 dX12_text_54 rfl (lv_at hl 0 rfl) ?_
              refine gf_X12_6 X hK hG h0 wl_6_184 dX12_text_55 (fun f55 hf55 kf55 => ?_)
              refine lv_istore_n (lv' := [(2, .int f55), (0, .ref a0), (1, .int x1)]) X.1 X.2.1 dX12_text_58 rfl hl (by decide) rfl (fun ls hl => ?_)
              refine lv_aload_n X.1 X.2.1 dX12_text_59 rfl (lv_at hl 1 rfl) ?_
              refine lv_iconst (v := 0) X.1 X.2.1 dX12_text_60 (by decide +kernel) ?_
              refine pf_X12_6 X hK hG hS h0 wl_6_184 ⟨_, rfl, (iv_of (iv_c 0 (a := 0) (b := 0) (by decide +kernel)) (a' := 0) (b' := 240) (by decide +kernel))⟩ dX12_text_61 (fun H locs hG hS ku56 ru56 => ?_)
              refine lv_iload_n X.1 X.2.1 dX12_text_64 rfl (lv_at hl 2 rfl) ?_
              refine lv_iconst (v := 1) X.1 X.2.1 dX12_text_65 (by decide +kernel) ?_
              refine lv_icmp_ne (tgt := 130) X.1 X.2.1 dX12_text_66 (by decide) (fun c57 => ?_) (fun c57 => ?_)
              · exact ((c57 (iv_one hk48 (iv_c 1 (a := 1) (b := 1) (by decide +kernel)) (by decide +kernel)))).elim
              · refine lv_iconst (v := 0) X.1 X.2.1 dX12_text_69 (by decide +kernel) ?_
                refine lv_istore_n (lv' := [(3, .int 0), (2, .int f55), (0, .ref a0), (1, .int x1)]) X.1 X.2.1 dX12_text_70 rfl hl (by decide) rfl (fun ls hl => ?_)
                have B58_71 : ∀ (N : Nat) (H : Heap) (locs : List Loc) (ls : Array Slot) (z58_3 : Int32), sgG (KT P) D vwCl (fun q : Nat => base ≤ q) tys ad ks H → va_S (fun q : Nat => base ≤ q) s.heap H locs → lv_has ls 4 [(0, .ref a0), (2, .int f55), (3, .int z58_3)] → iv 0 240 z58_3 → (241 - z58_3.toInt).toNat ≤ N → W p l e (headSpec (Cond.code yX12_text cX12_text 4 (some .int) :: sg_tbl) ({ frames := 33, cells := 0, slots := 0, locals := 767 })).room s m #[.ref a0, .int x1] below meth c H locs 0 0 (MQ below (va_Qi (fun r (u : Int32) => u = r ∧ (fun r : Int32 => True) r) (fun u t => ∃ P1 : sgPm, sgKeep P P1 ∧ sgPin P1 = none ∧ sgB (KT P1) D vwCl base tys ad ks t) (fun q : Nat => base ≤ q)) #[.ref a0, .int x1] s 0 0 (fun q : Nat => base ≤ q)) (F0 m 71 ls []) := by
                  intro N; induction N with
                  | zero =>
                    intro H locs ls z58_3 hG hS hl hz58_3 hN
                    exact absurd hN (by have := iv_up hz58_3; omega)
                  | succ N ih58 =>
                    intro H locs ls z58_3 hG hS hl hz58_3 hN58
                    refine lv_iload_n X.1 X.2.1 dX12_text_71 rfl (lv_at hl 2 rfl) ?_
                    refine lv_iload_n X.1 X.2.1 dX12_text_72 rfl (lv_at hl 1 rfl) ?_
                    refine lv_icmp_ge (tgt := 103) X.1 X.2.1 dX12_text_73 (by decide) (fun c59 => ?_) (fun c59 => ?_)
                    · refine lv_aload_n X.1 X.2.1 dX12_text_103 rfl (lv_at hl 0 rfl) ?_
                      refine gf_X12_3 X hK hG h0 wl_6_181 dX12_text_104 (fun q60 hq60 kq60 => ?_)
                      refine lv_aload_n X.1 X.2.1 dX12_text_107 rfl (lv_at hl 0 rfl) ?_
                      refine gf_X12_7 X hK hG h0 wl_6_185 dX12_text_108 (fun f61 hf61 pf61 kf61 => ?_)
                      refine lv_iload_n X.1 X.2.1 dX12_text_111 rfl (lv_at hl 1 rfl) ?_
                      refine as_47 X hK hG hS hq60 (iv_vpin (sg_pin3 pf50 (iv_ne_hi (b' := 3) c51 hf50 (by decide +kernel)) pf61) (by decide +kernel)) ⟨_, rfl, hf55⟩ dX12_text_112 (fun H locs hG hS ru62 => ?_)
                      refine lv_aload_n X.1 X.2.1 dX12_text_113 rfl (lv_at hl 0 rfl) ?_
                      refine lv_dup X.1 X.2.1 dX12_text_114 rfl ?_
                      refine gg_X12_7 X hK hG h0 wl_6_185 (ru62 _ _ _ _ _ _ _ h0 rfl rfl (by decide) (fun z => z.elim) kf61) dX12_text_115 ?_
                      refine lv_iconst (v := 1) X.1 X.2.1 dX12_text_118 (by decide +kernel) ?_
                      refine lv_iadd X.1 X.2.1 dX12_text_119 ?_
                      refine lv_topi (fun f63 ef63 => ?_)
                      obtain ⟨n64, hn64⟩ := sg_pin pf50 (iv_ne_hi (b' := 3) c51 hf50 (by decide +kernel)) pf61 ef63
                      refine pf_X12_7p X hK hG hS h0 wl_6_185 (n := n64) (sg_pinv hn64) dX12_text_120 (fun H locs hG hS => ?_)
                      refine lv_aload_n X.1 X.2.1 dX12_text_123 rfl (lv_at hl 0 rfl) ?_
                      refine gf_X12_7 X hK hG h0 wl_6_185 dX12_text_124 (fun f65 hf65 pf65 kf65 => ?_)
                      refine lv_iconst (v := 1) X.1 X.2.1 dX12_text_127 (by decide +kernel) ?_
                      refine lv_isub X.1 X.2.1 dX12_text_128 ?_
                      refine lv_topi (fun f66 ef66 => ?_)
                      exact sg_iret2 X hr hlk hS trivial (fun t ht hW => ⟨(P.1, P.2.1, P.2.2.1, P.2.2.2.1, P.2.2.2.2.1, P.2.2.2.2.2.1, P.2.2.2.2.2.2.1, P.2.2.2.2.2.2.2.1, n64, P.2.2.2.2.2.2.2.2.2), ⟨rfl, rfl, Nat.le_refl _, Nat.le_add_right _ _⟩, hp10, sg_post hb hK hC hG hS ht hW⟩) dX12_text_129
                    · refine lv_aload_n X.1 X.2.1 dX12_text_76 rfl (lv_at hl 0 rfl) ?_
                      refine gf_X12_2 X hK hG h0 wl_6_180 dX12_text_77 (fun q67 hq67 kq67 => ?_)
                      refine lv_sipush (v := 240) X.1 X.2.1 dX12_text_80 (by decide +kernel) ?_
                      refine lv_aload_n X.1 X.2.1 dX12_text_83 rfl (lv_at hl 0 rfl) ?_
                      refine gf_X12_7 X hK hG h0 wl_6_185 dX12_text_84 (fun f68 hf68 pf68 kf68 => ?_)
                      refine lv_imul X.1 X.2.1 dX12_text_87 ?_
                      refine lv_topi (fun f69 ef69 => ?_)
                      refine lv_iload_n X.1 X.2.1 dX12_text_88 rfl (lv_at hl 2 rfl) ?_
                      refine lv_iadd X.1 X.2.1 dX12_text_89 ?_
                      refine lv_topi (fun f70 ef70 => ?_)
                      refine lv_aload_n X.1 X.2.1 dX12_text_90 rfl (lv_at hl 0 rfl) ?_
                      refine gf_X12_1 X hK hG h0 wl_6_179 dX12_text_91 (fun q71 hq71 kq71 => ?_)
                      refine lv_iload_n X.1 X.2.1 dX12_text_94 rfl (lv_at hl 2 rfl) ?_
                      refine al_45 X hK hG hq71 (iv_vpin (iv_lt (b' := 239) (iv_gt_of c59) hz58_3 hf55 (by decide +kernel)) (by decide +kernel)) dX12_text_95 (fun f72 hf72 => ?_)
                      refine as_46 X hK hG hS hq67 (iv_vpin (iv_add (a' := 0) (b' := 959) ef70 (iv_mul (a' := 0) (b' := 720) ef69 (iv_c 240 (a := 240) (b := 240) (by decide +kernel)) (sg_pin3 pf50 (iv_ne_hi (b' := 3) c51 hf50 (by decide +kernel)) pf68) (by decide +kernel)) (iv_lt (b' := 239) (iv_gt_of c59) hz58_3 hf55 (by decide +kernel)) (by decide +kernel)) (by decide +kernel)) ⟨_, rfl, (iv_top _)⟩ dX12_text_96 (fun H locs hG hS ru73 => ?_)
                      obtain ⟨y74, ey74⟩ : ∃ y : Int32, y = z58_3 + Int32.ofInt 1 := ⟨_, rfl⟩
                      refine lv_iinc (v := y74) (lv' := [(3, .int y74), (0, .ref a0), (2, .int f55)]) X.1 X.2.1 dX12_text_97 hl (k := 2) rfl ey74.symm (by decide) rfl (fun ls hl => ?_)
                      refine lv_goto (tgt := 71) X.1 X.2.1 dX12_text_100 (by decide) ?_
                      exact ih58 H _ _ y74 hG hS (lv_sub hl [1, 2, 0] rfl) (iv_of (iv_add (a' := 1) (b' := 240) ey74 (iv_lt (b' := 239) (iv_gt_of c59) hz58_3 hf55 (by decide +kernel)) (iv_c _ (a := 1) (b := 1) (by decide +kernel)) (by decide +kernel)) (a' := 0) (b' := 240) (by decide +kernel)) (iv_stepU ey74 (iv_lt (b' := 239) (iv_gt_of c59) hz58_3 hf55 (by decide +kernel)) (by decide +kernel) hN58)
                exact B58_71 _ H _ _ 0 hG hS (lv_sub hl [2, 1, 0] rfl) (iv_of (iv_c 0 (a := 0) (b := 0) (by decide +kernel)) (a' := 0) (b' := 240) (by decide +kernel)) (Nat.le_refl _)
            · refine lv_iconst (v := (-1)) X.1 X.2.1 dX12_text_52 (by decide +kernel) ?_
              exact sg_iret2 X hr hlk hS trivial (fun t ht hW => ⟨P, ⟨rfl, rfl, Nat.le_refl _, Nat.le_add_right _ _⟩, hp10, sg_post hb hK hC hG hS ht hW⟩) dX12_text_53
          · exact ((iv_no (a := 2) (b := 1) (iv_eqm c52 hk48 (iv_c 2 (a := 2) (b := 2) (by decide +kernel)) (by decide +kernel)) (by decide +kernel))).elim
    by_cases k75 : x1.toInt = 2
    · have hk75 : iv 2 2 x1 := ⟨by omega, by omega⟩
      refine lv_iload_n X.1 X.2.1 dX12_text_17 rfl (lv_at hl 1 rfl) ?_
      refine lv_iconst (v := 1) X.1 X.2.1 dX12_text_18 (by decide +kernel) ?_
      refine lv_icmp_ne (tgt := 30) X.1 X.2.1 dX12_text_19 (by decide) (fun c76 => ?_) (fun c76 => ?_)
      · refine lv_iload_n X.1 X.2.1 dX12_text_30 rfl (lv_at hl 1 rfl) ?_
        refine lv_iconst (v := 2) X.1 X.2.1 dX12_text_31 (by decide +kernel) ?_
        refine lv_icmp_ne (tgt := 43) X.1 X.2.1 dX12_text_32 (by decide) (fun c77 => ?_) (fun c77 => ?_)
        · exact ((c77 (iv_one hk75 (iv_c 2 (a := 2) (b := 2) (by decide +kernel)) (by decide +kernel)))).elim
        · refine lv_aload_n X.1 X.2.1 dX12_text_35 rfl (lv_at hl 0 rfl) ?_
          refine gf_X12_29 X hK hG h0 wl_6_207 dX12_text_36 (fun f78 hf78 pf78 kf78 => ?_)
          refine lv_iconst (v := 4) X.1 X.2.1 dX12_text_39 (by decide +kernel) ?_
          refine lv_icmp_eq (tgt := 52) X.1 X.2.1 dX12_text_40 (by decide) (fun c79 => ?_) (fun c79 => ?_)
          · refine lv_iconst (v := (-1)) X.1 X.2.1 dX12_text_52 (by decide +kernel) ?_
            exact sg_iret2 X hr hlk hS trivial (fun t ht hW => ⟨P, ⟨rfl, rfl, Nat.le_refl _, Nat.le_add_right _ _⟩, hp10, sg_post hb hK hC hG hS ht hW⟩) dX12_text_53
          · refine lv_aload_n X.1 X.2.1 dX12_text_43 rfl (lv_at hl 0 rfl) ?_
            refine lv_iload_n X.1 X.2.1 dX12_text_44 rfl (lv_at hl 1 rfl) ?_
            refine ca_X12_fault X hK hG hC hS hb a0 h0 x1 wl_8_45 hl.1 (rest := []) rfl (Nat.le_of_ble_eq_true rfl) ⟨Nat.le_of_ble_eq_true rfl, Nat.le_of_ble_eq_true rfl⟩ ⟨Nat.le_of_ble_eq_true rfl, Nat.le_of_ble_eq_true rfl⟩ dX12_text_45 (fun f80 H locs hf80 hG hS => ?_)
            refine lv_iconst (v := (-1)) X.1 X.2.1 dX12_text_48 (by decide +kernel) ?_
            refine lv_icmp_eq (tgt := 54) X.1 X.2.1 dX12_text_49 (by decide) (fun c81 => ?_) (fun c81 => ?_)
            · refine lv_aload_n X.1 X.2.1 dX12_text_54 rfl (lv_at hl 0 rfl) ?_
              refine gf_X12_6 X hK hG h0 wl_6_184 dX12_text_55 (fun f82 hf82 kf82 => ?_)
              refine lv_istore_n (lv' := [(2, .int f82), (0, .ref a0), (1, .int x1)]) X.1 X.2.1 dX12_text_58 rfl hl (by decide) rfl (fun ls hl => ?_)
              refine lv_aload_n X.1 X.2.1 dX12_text_59 rfl (lv_at hl 1 rfl) ?_
              refine lv_iconst (v := 0) X.1 X.2.1 dX12_text_60 (by decide +kernel) ?_
              refine pf_X12_6 X hK hG hS h0 wl_6_184 ⟨_, rfl, (iv_of (iv_c 0 (a := 0) (b := 0) (by decide +kernel)) (a' := 0) (b' := 240) (by decide +kernel))⟩ dX12_text_61 (fun H locs hG hS ku83 ru83 => ?_)
              refine lv_iload_n X.1 X.2.1 dX12_text_64 rfl (lv_at hl 2 rfl) ?_
              refine lv_iconst (v := 1) X.1 X.2.1 dX12_text_65 (by decide +kernel) ?_
              refine lv_icmp_ne (tgt := 130) X.1 X.2.1 dX12_text_66 (by decide) (fun c84 => ?_) (fun c84 => ?_)
              · refine lv_iload_n X.1 X.2.1 dX12_text_130 rfl (lv_at hl 2 rfl) ?_
                refine lv_iconst (v := 2) X.1 X.2.1 dX12_text_131 (by decide +kernel) ?_
                refine lv_icmp_ne (tgt := 205) X.1 X.2.1 dX12_text_132 (by decide) (fun c85 => ?_) (fun c85 => ?_)
                · exact ((c85 (iv_one hk75 (iv_c 2 (a := 2) (b := 2) (by decide +kernel)) (by decide +kernel)))).elim
                · refine lv_iconst (v := 0) X.1 X.2.1 dX12_text_135 (by decide +kernel) ?_
                  refine lv_istore_n (lv' := [(3, .int 0), (2, .int f82), (0, .ref a0), (1, .int x1)]) X.1 X.2.1 dX12_text_136 rfl hl (by decide) rfl (fun ls hl => ?_)
                  have B86_137 : ∀ (N : Nat) (H : Heap) (locs : List Loc) (ls : Array Slot) (z86_3 : Int32) (G86 : Nat → Int), sgG (KT (sgGs P G86 (sgGl P))) D vwCl (fun q : Nat => base ≤ q) tys ad ks H → va_S (fun q : Nat => base ≤ q) s.heap H locs → lv_has ls 4 [(0, .ref a0), (3, .int z86_3)] → iv 0 64 z86_3 → (65 - z86_3.toInt).toNat ≤ N → W p l e (headSpec (Cond.code yX12_text cX12_text 4 (some .int) :: sg_tbl) ({ frames := 33, cells := 0, slots := 0, locals := 767 })).room s m #[.ref a0, .int x1] below meth c H locs 0 0 (MQ below (va_Qi (fun r (u : Int32) => u = r ∧ (fun r : Int32 => True) r) (fun u t => ∃ P1 : sgPm, sgKeep P P1 ∧ sgPin P1 = none ∧ sgB (KT P1) D vwCl base tys ad ks t) (fun q : Nat => base ≤ q)) #[.ref a0, .int x1] s 0 0 (fun q : Nat => base ≤ q)) (F0 m 137 ls []) := by
                    intro N; induction N with
                    | zero =>
                      intro H locs ls z86_3 G86 hG hS hl hz86_3 hN
                      exact absurd hN (by have := iv_up hz86_3; omega)
                    | succ N ih86 =>
                      intro H locs ls z86_3 G86 hG hS hl hz86_3 hN86
                      refine lv_iload_n X.1 X.2.1 dX12_text_137 rfl (lv_at hl 1 rfl) ?_
                      refine lv_bipush (v := 64) X.1 X.2.1 dX12_text_138 (by decide +kernel) ?_
                      refine lv_icmp_ge (tgt := 173) X.1 X.2.1 dX12_text_140 (by decide) (fun c87 => ?_) (fun c87 => ?_)
                      · refine lv_aload_n X.1 X.2.1 dX12_text_173 rfl (lv_at hl 0 rfl) ?_
                        refine gf_X12_22 X hK hG h0 wl_6_200 dX12_text_174 (fun q88 hq88 kq88 => ?_)
                        refine lv_aload_n X.1 X.2.1 dX12_text_177 rfl (lv_at hl 0 rfl) ?_
                        refine gf_X12_29 X hK hG h0 wl_6_207 dX12_text_178 (fun f89 hf89 pf89 kf89 => ?_)
                        refine lv_aload_n X.1 X.2.1 dX12_text_181 rfl (lv_at hl 0 rfl) ?_
                        refine gg_X12_22 X hK hG h0 wl_6_200 kq88 dX12_text_182 ?_
                        refine lv_iconst (v := 4) X.1 X.2.1 dX12_text_185 (by decide +kernel) ?_
                        refine al_53 X hK hG hq88 (iv_vpin (iv_c 4 (a := 4) (b := 4) (by decide +kernel)) (by decide +kernel)) dX12_text_186 (fun f90 hf90 => ?_)
                        have of90 := hf90
                        have hf90 : iv 0 16 f90 := sg_glr hf90
                        refine as_53g (P := P) (G := G86) (gl := sgGl P) X hK hG hS hq88 (iv_vpin (sg_pin3 pf78 (iv_ne_hi (b' := 3) c79 hf78 (by decide +kernel)) pf89) (by decide +kernel)) hf90 dX12_text_187 (fun H locs gl92 hG hS => ?_)
                        refine lv_aload_n X.1 X.2.1 dX12_text_188 rfl (lv_at hl 0 rfl) ?_
                        refine lv_dup X.1 X.2.1 dX12_text_189 rfl ?_
                        refine gf_X12_29 X hK hG h0 wl_6_207 dX12_text_190 (fun f93 hf93 pf93 kf93 => ?_)
                        refine lv_iconst (v := 1) X.1 X.2.1 dX12_text_193 (by decide +kernel) ?_
                        refine lv_iadd X.1 X.2.1 dX12_text_194 ?_
                        refine lv_topi (fun f94 ef94 => ?_)
                        obtain ⟨n95, hn95⟩ := sg_pin pf78 (iv_ne_hi (b' := 3) c79 hf78 (by decide +kernel)) pf93 ef94
                        refine pf_X12_29p X hK hG hS h0 wl_6_207 (n := n95) (sg_pinv hn95) dX12_text_195 (fun H locs hG hS => ?_)
                        refine lv_aload_n X.1 X.2.1 dX12_text_198 rfl (lv_at hl 0 rfl) ?_
                        refine gf_X12_29 X hK hG h0 wl_6_207 dX12_text_199 (fun f96 hf96 pf96 kf96 => ?_)
                        refine lv_iconst (v := 1) X.1 X.2.1 dX12_text_202 (by decide +kernel) ?_
                        refine lv_isub X.1 X.2.1 dX12_text_203 ?_
                        refine lv_topi (fun f97 ef97 => ?_)
                        exact sg_iret2 X hr hlk hS trivial (fun t ht hW => ⟨((sgGs P G86 gl92).1, (sgGs P G86 gl92).2.1, (sgGs P G86 gl92).2.2.1, (sgGs P G86 gl92).2.2.2.1, (sgGs P G86 gl92).2.2.2.2.1, (sgGs P G86 gl92).2.2.2.2.2.1, (sgGs P G86 gl92).2.2.2.2.2.2.1, (sgGs P G86 gl92).2.2.2.2.2.2.2.1, (sgGs P G86 gl92).2.2.2.2.2.2.2.2.1, n95, (sgGs P G86 gl92).2.2.2.2.2.2.2.2.2.2), ⟨rfl, rfl, Nat.le_refl _, Nat.le_add_right _ _⟩, hp10, sg_post hb hK hC hG hS ht hW⟩) dX12_text_204
                      · refine lv_aload_n X.1 X.2.1 dX12_text_143 rfl (lv_at hl 0 rfl) ?_
                        refine gf_X12_21 X hK hG h0 wl_6_199 dX12_text_144 (fun q98 hq98 kq98 => ?_)
                        refine lv_bipush (v := 64) X.1 X.2.1 dX12_text_147 (by decide +kernel) ?_
                        refine lv_aload_n X.1 X.2.1 dX12_text_149 rfl (lv_at hl 0 rfl) ?_
                        refine gf_X12_29 X hK hG h0 wl_6_207 dX12_text_150 (fun f99 hf99 pf99 kf99 => ?_)
                        refine lv_imul X.1 X.2.1 dX12_text_153 ?_
                        refine lv_topi (fun f100 ef100 => ?_)
                        refine lv_iload_n X.1 X.2.1 dX12_text_154 rfl (lv_at hl 1 rfl) ?_
                        refine lv_iadd X.1 X.2.1 dX12_text_155 ?_
                        refine lv_topi (fun f101 ef101 => ?_)
                        refine lv_aload_n X.1 X.2.1 dX12_text_156 rfl (lv_at hl 0 rfl) ?_
                        refine gg_X12_21 X hK hG h0 wl_6_199 kq98 dX12_text_157 ?_
                        refine lv_sipush (v := 256) X.1 X.2.1 dX12_text_160 (by decide +kernel) ?_
                        refine lv_iload_n X.1 X.2.1 dX12_text_163 rfl (lv_at hl 1 rfl) ?_
                        refine lv_iadd X.1 X.2.1 dX12_text_164 ?_
                        refine lv_topi (fun f102 ef102 => ?_)
                        refine al_52 X hK hG hq98 (iv_vpin (iv_add (a' := 256) (b' := 319) ef102 (iv_c 256 (a := 256) (b := 256) (by decide +kernel)) (iv_lt (b' := 63) (iv_gt_of c87) hz86_3 (iv_c 64 (a := 64) (b := 64) (by decide +kernel)) (by decide +kernel)) (by decide +kernel)) (by decide +kernel)) dX12_text_165 (fun f103 hf103 => ?_)
                        have of103 := hf103
                        have hf103 : iv (-2147483648) 2147483647 f103 := iv_top f103
                        refine as_52g (P := P) (G := G86) (gl := sgGl P) X hK hG hS hq98 (iv_vpin (iv_add (a' := 0) (b' := 255) ef101 (iv_mul (a' := 0) (b' := 192) ef100 (iv_c 64 (a := 64) (b := 64) (by decide +kernel)) (sg_pin3 pf78 (iv_ne_hi (b' := 3) c79 hf78 (by decide +kernel)) pf99) (by decide +kernel)) (iv_lt (b' := 63) (iv_gt_of c87) hz86_3 (iv_c 64 (a := 64) (b := 64) (by decide +kernel)) (by decide +kernel)) (by decide +kernel)) (by decide +kernel)) dX12_text_166 (fun H locs hG hS => ?_)
                        obtain ⟨y105, ey105⟩ : ∃ y : Int32, y = z86_3 + Int32.ofInt 1 := ⟨_, rfl⟩
                        refine lv_iinc (v := y105) (lv' := [(3, .int y105), (0, .ref a0)]) X.1 X.2.1 dX12_text_167 hl (k := 1) rfl ey105.symm (by decide) rfl (fun ls hl => ?_)
                        refine lv_goto (tgt := 137) X.1 X.2.1 dX12_text_170 (by decide) ?_
                        exact ih86 H _ _ y105 (fun j => if j = (f101 : Int32).toNatClampNeg then (f103 : Int32).toInt else G86 j) hG hS (lv_sub hl [1, 0] rfl) (iv_of (iv_add (a' := 1) (b' := 64) ey105 (iv_lt (b' := 63) (iv_gt_of c87) hz86_3 (iv_c 64 (a := 64) (b := 64) (by decide +kernel)) (by decide +kernel)) (iv_c _ (a := 1) (b := 1) (by decide +kernel)) (by decide +kernel)) (a' := 0) (b' := 64) (by decide +kernel)) (iv_stepU ey105 (iv_lt (b' := 63) (iv_gt_of c87) hz86_3 (iv_c 64 (a := 64) (b := 64) (by decide +kernel)) (by decide +kernel)) (by decide +kernel) hN86)
                  exact B86_137 _ H _ _ 0 (sgG0 P) hG hS (lv_sub hl [2, 0] rfl) (iv_of (iv_c 0 (a := 0) (b := 0) (by decide +kernel)) (a' := 0) (b' := 64) (by decide +kernel)) (Nat.le_refl _)
              · exact ((iv_no (a := 2) (b := 1) (iv_eqm c84 hk75 (iv_c 1 (a := 1) (b := 1) (by decide +kernel)) (by decide +kernel)) (by decide +kernel))).elim
            · refine lv_iconst (v := (-1)) X.1 X.2.1 dX12_text_52 (by decide +kernel) ?_
              exact sg_iret2 X hr hlk hS trivial (fun t ht hW => ⟨P, ⟨rfl, rfl, Nat.le_refl _, Nat.le_add_right _ _⟩, hp10, sg_post hb hK hC hG hS ht hW⟩) dX12_text_53
      · exact ((iv_no (a := 2) (b := 1) (iv_eqm c76 hk75 (iv_c 1 (a := 1) (b := 1) (by decide +kernel)) (by decide +kernel)) (by decide +kernel))).elim
    exact absurd (sg_isin (a := 0) (b := 2) (hf3.2 c4) eg2 (by decide +kernel) (by decide +kernel)) (fun hh => by have := hh.1; have := hh.2; omega)

theorem ca_X12_text   (X : CallFix p m c cc nL s args sg_tbl own) (hK : va_K D vwCl tys s) (hG : sgG (KT P) D vwCl (fun q : Nat => base ≤ q) tys ad ks H) (hC : sgC base s) (hS : va_S (fun q : Nat => base ≤ q) s.heap H locs) (hb : base ≤ s.heap.size) (hp10 : sgPin P = none) (a0 : Nat) (h0 : isK ad ks 12 a0) (x1 : Int32) (hl : Cond.methodLink own index yX12_text ∈ sg_tbl) (hsize : ls.size = nL) (hst : st0 = [.int x1].reverse ++ .ref a0 :: rest) (hW : (rest.map fun v => v.category).sum ≤ 8) (hR : 34 ≤ R.frames ∧ 790 ≤ R.locals) (hf : cells ≤ R.cells ∧ slots ≤ R.slots) (hdg : decode cc pc = .ok (.invokevirtual index, 3)) (kk : ∀ (r : Int32) (t : State) (H1 : Heap) (locs1 : List Loc), t.heap = H1 → (fun r : Int32 => True) r → (∃ P1 : sgPm, sgKeep P P1 ∧ sgPin P1 = none ∧ sgB (KT P1) D vwCl base tys ad ks t) → va_S (fun q : Nat => base ≤ q) s.heap H1 locs1 → W p l e R s m args below meth c H1 locs1 cells slots Q (F0 m (pc + 3) ls (.int r :: rest))) : W p l e R s m args below meth c H locs cells slots Q (F0 m pc ls st0) :=
  sg_callV2i X hK hG hC hS hb (m_X12_text l hp10 a0 h0 x1) h0 (k := 12) (ci := 12) rfl (C := RX12) (T := TX12) (N := 53) rfl wl_8_44 wl_1_13 wl_8_42 wl_8_43 (n := 1) (by decide +kernel) rfl rfl rfl hl hsize hst hW hR hf hdg kk
end
