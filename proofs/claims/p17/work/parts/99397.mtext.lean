abbrev cX12_text : ByteArray := prog_14_method_40_code
def yX12_text : MethodName := ⟨RX12, "text", "(I)I"⟩
theorem dX12_text_0 : decode cX12_text 0 = .ok (.aload_n 0, 1) := by decide +kernel
theorem dX12_text_1 : decode cX12_text 1 = .ok (.iconst 0, 1) := by decide +kernel
theorem dX12_text_2 : decode cX12_text 2 = .ok (.putfield 94, 3) := by decide +kernel
theorem dX12_text_5 : decode cX12_text 5 = .ok (.iload_n 1, 1) := by decide +kernel
theorem dX12_text_6 : decode cX12_text 6 = .ok (.i2l, 1) := by decide +kernel
theorem dX12_text_7 : decode cX12_text 7 = .ok (.lconst 0, 1) := by decide +kernel
theorem dX12_text_8 : decode cX12_text 8 = .ok (.ldc2_w 283, 3) := by decide +kernel
theorem dX12_text_11 : decode cX12_text 11 = .ok (.invokestatic 215, 3) := by decide +kernel
theorem dX12_text_14 : decode cX12_text 14 = .ok (.ifCond .eq 38, 3) := by decide +kernel
theorem dX12_text_17 : decode cX12_text 17 = .ok (.iload_n 1, 1) := by decide +kernel
theorem dX12_text_18 : decode cX12_text 18 = .ok (.iconst 1, 1) := by decide +kernel
theorem dX12_text_19 : decode cX12_text 19 = .ok (.if_icmp .ne 11, 3) := by decide +kernel
theorem dX12_text_22 : decode cX12_text 22 = .ok (.aload_n 0, 1) := by decide +kernel
theorem dX12_text_23 : decode cX12_text 23 = .ok (.getfield 294, 3) := by decide +kernel
theorem dX12_text_26 : decode cX12_text 26 = .ok (.iconst 4, 1) := by decide +kernel
theorem dX12_text_27 : decode cX12_text 27 = .ok (.if_icmp .eq 25, 3) := by decide +kernel
theorem dX12_text_30 : decode cX12_text 30 = .ok (.iload_n 1, 1) := by decide +kernel
theorem dX12_text_31 : decode cX12_text 31 = .ok (.iconst 2, 1) := by decide +kernel
theorem dX12_text_32 : decode cX12_text 32 = .ok (.if_icmp .ne 11, 3) := by decide +kernel
theorem dX12_text_35 : decode cX12_text 35 = .ok (.aload_n 0, 1) := by decide +kernel
theorem dX12_text_36 : decode cX12_text 36 = .ok (.getfield 297, 3) := by decide +kernel
theorem dX12_text_39 : decode cX12_text 39 = .ok (.iconst 4, 1) := by decide +kernel
theorem dX12_text_40 : decode cX12_text 40 = .ok (.if_icmp .eq 12, 3) := by decide +kernel
theorem dX12_text_43 : decode cX12_text 43 = .ok (.aload_n 0, 1) := by decide +kernel
theorem dX12_text_44 : decode cX12_text 44 = .ok (.iload_n 1, 1) := by decide +kernel
theorem dX12_text_45 : decode cX12_text 45 = .ok (.invokevirtual 300, 3) := by decide +kernel
theorem dX12_text_48 : decode cX12_text 48 = .ok (.iconst (-1), 1) := by decide +kernel
theorem dX12_text_49 : decode cX12_text 49 = .ok (.if_icmp .eq 5, 3) := by decide +kernel
theorem dX12_text_52 : decode cX12_text 52 = .ok (.iconst (-1), 1) := by decide +kernel
theorem dX12_text_53 : decode cX12_text 53 = .ok (.ireturn, 1) := by decide +kernel
theorem dX12_text_54 : decode cX12_text 54 = .ok (.aload_n 0, 1) := by decide +kernel
theorem dX12_text_55 : decode cX12_text 55 = .ok (.getfield 107, 3) := by decide +kernel
theorem dX12_text_58 : decode cX12_text 58 = .ok (.istore_n 2, 1) := by decide +kernel
theorem dX12_text_59 : decode cX12_text 59 = .ok (.aload_n 0, 1) := by decide +kernel
theorem dX12_text_60 : decode cX12_text 60 = .ok (.iconst 0, 1) := by decide +kernel
theorem dX12_text_61 : decode cX12_text 61 = .ok (.putfield 107, 3) := by decide +kernel
theorem dX12_text_64 : decode cX12_text 64 = .ok (.iload_n 1, 1) := by decide +kernel
theorem dX12_text_65 : decode cX12_text 65 = .ok (.iconst 1, 1) := by decide +kernel
theorem dX12_text_66 : decode cX12_text 66 = .ok (.if_icmp .ne 64, 3) := by decide +kernel
theorem dX12_text_69 : decode cX12_text 69 = .ok (.iconst 0, 1) := by decide +kernel
theorem dX12_text_70 : decode cX12_text 70 = .ok (.istore_n 3, 1) := by decide +kernel
theorem dX12_text_71 : decode cX12_text 71 = .ok (.iload_n 3, 1) := by decide +kernel
theorem dX12_text_72 : decode cX12_text 72 = .ok (.iload_n 2, 1) := by decide +kernel
theorem dX12_text_73 : decode cX12_text 73 = .ok (.if_icmp .ge 30, 3) := by decide +kernel
theorem dX12_text_76 : decode cX12_text 76 = .ok (.aload_n 0, 1) := by decide +kernel
theorem dX12_text_77 : decode cX12_text 77 = .ok (.getfield 13, 3) := by decide +kernel
theorem dX12_text_80 : decode cX12_text 80 = .ok (.sipush 240, 3) := by decide +kernel
theorem dX12_text_83 : decode cX12_text 83 = .ok (.aload_n 0, 1) := by decide +kernel
theorem dX12_text_84 : decode cX12_text 84 = .ok (.getfield 294, 3) := by decide +kernel
theorem dX12_text_87 : decode cX12_text 87 = .ok (.imul, 1) := by decide +kernel
theorem dX12_text_88 : decode cX12_text 88 = .ok (.iload_n 3, 1) := by decide +kernel
theorem dX12_text_89 : decode cX12_text 89 = .ok (.iadd, 1) := by decide +kernel
theorem dX12_text_90 : decode cX12_text 90 = .ok (.aload_n 0, 1) := by decide +kernel
theorem dX12_text_91 : decode cX12_text 91 = .ok (.getfield 9, 3) := by decide +kernel
theorem dX12_text_94 : decode cX12_text 94 = .ok (.iload_n 3, 1) := by decide +kernel
theorem dX12_text_95 : decode cX12_text 95 = .ok (.baload, 1) := by decide +kernel
theorem dX12_text_96 : decode cX12_text 96 = .ok (.bastore, 1) := by decide +kernel
theorem dX12_text_97 : decode cX12_text 97 = .ok (.iinc 3 1, 3) := by decide +kernel
theorem dX12_text_100 : decode cX12_text 100 = .ok (.goto (-29), 3) := by decide +kernel
theorem dX12_text_103 : decode cX12_text 103 = .ok (.aload_n 0, 1) := by decide +kernel
theorem dX12_text_104 : decode cX12_text 104 = .ok (.getfield 16, 3) := by decide +kernel
theorem dX12_text_107 : decode cX12_text 107 = .ok (.aload_n 0, 1) := by decide +kernel
theorem dX12_text_108 : decode cX12_text 108 = .ok (.getfield 294, 3) := by decide +kernel
theorem dX12_text_111 : decode cX12_text 111 = .ok (.iload_n 2, 1) := by decide +kernel
theorem dX12_text_112 : decode cX12_text 112 = .ok (.iastore, 1) := by decide +kernel
theorem dX12_text_113 : decode cX12_text 113 = .ok (.aload_n 0, 1) := by decide +kernel
theorem dX12_text_114 : decode cX12_text 114 = .ok (.dup, 1) := by decide +kernel
theorem dX12_text_115 : decode cX12_text 115 = .ok (.getfield 294, 3) := by decide +kernel
theorem dX12_text_118 : decode cX12_text 118 = .ok (.iconst 1, 1) := by decide +kernel
theorem dX12_text_119 : decode cX12_text 119 = .ok (.iadd, 1) := by decide +kernel
theorem dX12_text_120 : decode cX12_text 120 = .ok (.putfield 294, 3) := by decide +kernel
theorem dX12_text_123 : decode cX12_text 123 = .ok (.aload_n 0, 1) := by decide +kernel
theorem dX12_text_124 : decode cX12_text 124 = .ok (.getfield 294, 3) := by decide +kernel
theorem dX12_text_127 : decode cX12_text 127 = .ok (.iconst 1, 1) := by decide +kernel
theorem dX12_text_128 : decode cX12_text 128 = .ok (.isub, 1) := by decide +kernel
theorem dX12_text_129 : decode cX12_text 129 = .ok (.ireturn, 1) := by decide +kernel
theorem dX12_text_130 : decode cX12_text 130 = .ok (.iload_n 1, 1) := by decide +kernel
theorem dX12_text_131 : decode cX12_text 131 = .ok (.iconst 2, 1) := by decide +kernel
theorem dX12_text_132 : decode cX12_text 132 = .ok (.if_icmp .ne 73, 3) := by decide +kernel
theorem dX12_text_135 : decode cX12_text 135 = .ok (.iconst 0, 1) := by decide +kernel
theorem dX12_text_136 : decode cX12_text 136 = .ok (.istore_n 3, 1) := by decide +kernel
theorem dX12_text_137 : decode cX12_text 137 = .ok (.iload_n 3, 1) := by decide +kernel
theorem dX12_text_138 : decode cX12_text 138 = .ok (.bipush 64, 2) := by decide +kernel
theorem dX12_text_140 : decode cX12_text 140 = .ok (.if_icmp .ge 33, 3) := by decide +kernel
theorem dX12_text_143 : decode cX12_text 143 = .ok (.aload_n 0, 1) := by decide +kernel
theorem dX12_text_144 : decode cX12_text 144 = .ok (.getfield 46, 3) := by decide +kernel
theorem dX12_text_147 : decode cX12_text 147 = .ok (.bipush 64, 2) := by decide +kernel
theorem dX12_text_149 : decode cX12_text 149 = .ok (.aload_n 0, 1) := by decide +kernel
theorem dX12_text_150 : decode cX12_text 150 = .ok (.getfield 297, 3) := by decide +kernel
theorem dX12_text_153 : decode cX12_text 153 = .ok (.imul, 1) := by decide +kernel
theorem dX12_text_154 : decode cX12_text 154 = .ok (.iload_n 3, 1) := by decide +kernel
theorem dX12_text_155 : decode cX12_text 155 = .ok (.iadd, 1) := by decide +kernel
theorem dX12_text_156 : decode cX12_text 156 = .ok (.aload_n 0, 1) := by decide +kernel
theorem dX12_text_157 : decode cX12_text 157 = .ok (.getfield 46, 3) := by decide +kernel
theorem dX12_text_160 : decode cX12_text 160 = .ok (.sipush 256, 3) := by decide +kernel
theorem dX12_text_163 : decode cX12_text 163 = .ok (.iload_n 3, 1) := by decide +kernel
theorem dX12_text_164 : decode cX12_text 164 = .ok (.iadd, 1) := by decide +kernel
theorem dX12_text_165 : decode cX12_text 165 = .ok (.iaload, 1) := by decide +kernel
theorem dX12_text_166 : decode cX12_text 166 = .ok (.iastore, 1) := by decide +kernel
theorem dX12_text_167 : decode cX12_text 167 = .ok (.iinc 3 1, 3) := by decide +kernel
theorem dX12_text_170 : decode cX12_text 170 = .ok (.goto (-33), 3) := by decide +kernel
theorem dX12_text_173 : decode cX12_text 173 = .ok (.aload_n 0, 1) := by decide +kernel
theorem dX12_text_174 : decode cX12_text 174 = .ok (.getfield 49, 3) := by decide +kernel
theorem dX12_text_177 : decode cX12_text 177 = .ok (.aload_n 0, 1) := by decide +kernel
theorem dX12_text_178 : decode cX12_text 178 = .ok (.getfield 297, 3) := by decide +kernel
theorem dX12_text_181 : decode cX12_text 181 = .ok (.aload_n 0, 1) := by decide +kernel
theorem dX12_text_182 : decode cX12_text 182 = .ok (.getfield 49, 3) := by decide +kernel
theorem dX12_text_185 : decode cX12_text 185 = .ok (.iconst 4, 1) := by decide +kernel
theorem dX12_text_186 : decode cX12_text 186 = .ok (.iaload, 1) := by decide +kernel
theorem dX12_text_187 : decode cX12_text 187 = .ok (.iastore, 1) := by decide +kernel
theorem dX12_text_188 : decode cX12_text 188 = .ok (.aload_n 0, 1) := by decide +kernel
theorem dX12_text_189 : decode cX12_text 189 = .ok (.dup, 1) := by decide +kernel
theorem dX12_text_190 : decode cX12_text 190 = .ok (.getfield 297, 3) := by decide +kernel
theorem dX12_text_193 : decode cX12_text 193 = .ok (.iconst 1, 1) := by decide +kernel
theorem dX12_text_194 : decode cX12_text 194 = .ok (.iadd, 1) := by decide +kernel
theorem dX12_text_195 : decode cX12_text 195 = .ok (.putfield 297, 3) := by decide +kernel
theorem dX12_text_198 : decode cX12_text 198 = .ok (.aload_n 0, 1) := by decide +kernel
theorem dX12_text_199 : decode cX12_text 199 = .ok (.getfield 297, 3) := by decide +kernel
theorem dX12_text_202 : decode cX12_text 202 = .ok (.iconst 1, 1) := by decide +kernel
theorem dX12_text_203 : decode cX12_text 203 = .ok (.isub, 1) := by decide +kernel
theorem dX12_text_204 : decode cX12_text 204 = .ok (.ireturn, 1) := by decide +kernel
theorem dX12_text_205 : decode cX12_text 205 = .ok (.iconst 0, 1) := by decide +kernel
theorem dX12_text_206 : decode cX12_text 206 = .ok (.istore_n 3, 1) := by decide +kernel
theorem dX12_text_207 : decode cX12_text 207 = .ok (.iload_n 3, 1) := by decide +kernel
theorem dX12_text_208 : decode cX12_text 208 = .ok (.bipush 7, 2) := by decide +kernel
theorem dX12_text_210 : decode cX12_text 210 = .ok (.if_icmp .ge 21, 3) := by decide +kernel
theorem dX12_text_213 : decode cX12_text 213 = .ok (.aload_n 0, 1) := by decide +kernel
theorem dX12_text_214 : decode cX12_text 214 = .ok (.getfield 37, 3) := by decide +kernel
theorem dX12_text_217 : decode cX12_text 217 = .ok (.iload_n 3, 1) := by decide +kernel
theorem dX12_text_218 : decode cX12_text 218 = .ok (.aload_n 0, 1) := by decide +kernel
theorem dX12_text_219 : decode cX12_text 219 = .ok (.getfield 40, 3) := by decide +kernel
theorem dX12_text_222 : decode cX12_text 222 = .ok (.iload_n 3, 1) := by decide +kernel
theorem dX12_text_223 : decode cX12_text 223 = .ok (.iaload, 1) := by decide +kernel
theorem dX12_text_224 : decode cX12_text 224 = .ok (.iastore, 1) := by decide +kernel
theorem dX12_text_225 : decode cX12_text 225 = .ok (.iinc 3 1, 3) := by decide +kernel
theorem dX12_text_228 : decode cX12_text 228 = .ok (.goto (-21), 3) := by decide +kernel
theorem dX12_text_231 : decode cX12_text 231 = .ok (.aload_n 0, 1) := by decide +kernel
theorem dX12_text_232 : decode cX12_text 232 = .ok (.aload_n 0, 1) := by decide +kernel
theorem dX12_text_233 : decode cX12_text 233 = .ok (.getfield 37, 3) := by decide +kernel
theorem dX12_text_236 : decode cX12_text 236 = .ok (.iconst 0, 1) := by decide +kernel
theorem dX12_text_237 : decode cX12_text 237 = .ok (.iaload, 1) := by decide +kernel
theorem dX12_text_238 : decode cX12_text 238 = .ok (.aload_n 0, 1) := by decide +kernel
theorem dX12_text_239 : decode cX12_text 239 = .ok (.getfield 37, 3) := by decide +kernel
theorem dX12_text_242 : decode cX12_text 242 = .ok (.iconst 1, 1) := by decide +kernel
theorem dX12_text_243 : decode cX12_text 243 = .ok (.iaload, 1) := by decide +kernel
theorem dX12_text_244 : decode cX12_text 244 = .ok (.imul, 1) := by decide +kernel
theorem dX12_text_245 : decode cX12_text 245 = .ok (.putfield 302, 3) := by decide +kernel
theorem dX12_text_248 : decode cX12_text 248 = .ok (.aload_n 0, 1) := by decide +kernel
theorem dX12_text_249 : decode cX12_text 249 = .ok (.aload_n 0, 1) := by decide +kernel
theorem dX12_text_250 : decode cX12_text 250 = .ok (.getfield 263, 3) := by decide +kernel
theorem dX12_text_253 : decode cX12_text 253 = .ok (.putfield 305, 3) := by decide +kernel
theorem dX12_text_256 : decode cX12_text 256 = .ok (.iconst 0, 1) := by decide +kernel
theorem dX12_text_257 : decode cX12_text 257 = .ok (.istore_n 3, 1) := by decide +kernel
theorem dX12_text_258 : decode cX12_text 258 = .ok (.iload_n 3, 1) := by decide +kernel
theorem dX12_text_259 : decode cX12_text 259 = .ok (.sipush 249, 3) := by decide +kernel
theorem dX12_text_262 : decode cX12_text 262 = .ok (.if_icmp .ge 16, 3) := by decide +kernel
theorem dX12_text_265 : decode cX12_text 265 = .ok (.aload_n 0, 1) := by decide +kernel
theorem dX12_text_266 : decode cX12_text 266 = .ok (.getfield 52, 3) := by decide +kernel
theorem dX12_text_269 : decode cX12_text 269 = .ok (.iload_n 3, 1) := by decide +kernel
theorem dX12_text_270 : decode cX12_text 270 = .ok (.iconst 0, 1) := by decide +kernel
theorem dX12_text_271 : decode cX12_text 271 = .ok (.iastore, 1) := by decide +kernel
theorem dX12_text_272 : decode cX12_text 272 = .ok (.iinc 3 1, 3) := by decide +kernel
theorem dX12_text_275 : decode cX12_text 275 = .ok (.goto (-17), 3) := by decide +kernel
theorem dX12_text_278 : decode cX12_text 278 = .ok (.aload_n 0, 1) := by decide +kernel
theorem dX12_text_279 : decode cX12_text 279 = .ok (.getfield 52, 3) := by decide +kernel
theorem dX12_text_282 : decode cX12_text 282 = .ok (.iconst 0, 1) := by decide +kernel
theorem dX12_text_283 : decode cX12_text 283 = .ok (.aload_n 0, 1) := by decide +kernel
theorem dX12_text_284 : decode cX12_text 284 = .ok (.getfield 260, 3) := by decide +kernel
theorem dX12_text_287 : decode cX12_text 287 = .ok (.iastore, 1) := by decide +kernel
theorem dX12_text_288 : decode cX12_text 288 = .ok (.aload_n 0, 1) := by decide +kernel
theorem dX12_text_289 : decode cX12_text 289 = .ok (.getfield 52, 3) := by decide +kernel
theorem dX12_text_292 : decode cX12_text 292 = .ok (.iconst 2, 1) := by decide +kernel
theorem dX12_text_293 : decode cX12_text 293 = .ok (.aload_n 0, 1) := by decide +kernel
theorem dX12_text_294 : decode cX12_text 294 = .ok (.getfield 37, 3) := by decide +kernel
theorem dX12_text_297 : decode cX12_text 297 = .ok (.bipush 6, 2) := by decide +kernel
theorem dX12_text_299 : decode cX12_text 299 = .ok (.iaload, 1) := by decide +kernel
theorem dX12_text_300 : decode cX12_text 300 = .ok (.iastore, 1) := by decide +kernel
theorem dX12_text_301 : decode cX12_text 301 = .ok (.aload_n 0, 1) := by decide +kernel
theorem dX12_text_302 : decode cX12_text 302 = .ok (.iconst 0, 1) := by decide +kernel
theorem dX12_text_303 : decode cX12_text 303 = .ok (.putfield 308, 3) := by decide +kernel
theorem dX12_text_306 : decode cX12_text 306 = .ok (.aload_n 0, 1) := by decide +kernel
theorem dX12_text_307 : decode cX12_text 307 = .ok (.iconst 0, 1) := by decide +kernel
theorem dX12_text_308 : decode cX12_text 308 = .ok (.putfield 311, 3) := by decide +kernel
theorem dX12_text_311 : decode cX12_text 311 = .ok (.aload_n 0, 1) := by decide +kernel
theorem dX12_text_312 : decode cX12_text 312 = .ok (.iconst 0, 1) := by decide +kernel
theorem dX12_text_313 : decode cX12_text 313 = .ok (.putfield 314, 3) := by decide +kernel
theorem dX12_text_316 : decode cX12_text 316 = .ok (.aload_n 0, 1) := by decide +kernel
theorem dX12_text_317 : decode cX12_text 317 = .ok (.getfield 302, 3) := by decide +kernel
theorem dX12_text_320 : decode cX12_text 320 = .ok (.ireturn, 1) := by decide +kernel
theorem wl_8_45 : (.methodLink RX12 300 yX12_fault : Cond) ∈ sg_tbl := tb_8 _ (List.mem_of_getElem? (i := 45) (by decide +kernel)) (by decide +kernel)
theorem wl_8_44 : (.code yX12_text cX12_text 4 (some .int) : Cond) ∈ sg_tbl := tb_8 _ (List.mem_of_getElem? (i := 44) (by decide +kernel)) (by decide +kernel)
theorem wl_8_42 : (.instanceMethod yX12_text : Cond) ∈ sg_tbl := tb_8 _ (List.mem_of_getElem? (i := 42) (by decide +kernel)) (by decide +kernel)
theorem wl_8_43 : (.selects RX12 yX12_text yX12_text : Cond) ∈ sg_tbl := tb_8 _ (List.mem_of_getElem? (i := 43) (by decide +kernel)) (by decide +kernel)
section
variable {p : Program} {l : Launch} {e : Env} {R : Room} {s : State} {m : MethodId} {args : Array Value} {below : List Frame} {meth : Method} {c : Code} {H : Heap} {locs : List Loc} {cells slots : Nat} {Q : State → Prop} {cc : ByteArray} {nL pc : Nat} {ls : Array Slot} {rest : List Value} {own : String} {D : va_G} {A : Nat → Prop} {tys : List (ClassId × FieldType)} {ad ks : List Nat} {P : sgPm} {H0 : Heap} {index : Nat} {base : Nat} {st0 : List Value} {a : Nat}
theorem gf_X12_18y  {f : Nat → Int} {mr : Int} (X : CallFix p m c cc nL s args sg_tbl own) (hK : va_K D vwCl tys s) (hG : sgG (KX f mr P) D vwCl A tys ad ks H) (ha : isK ad ks 12 a) (hl : Cond.fieldLink own index "LawnAheadModel" "rule" "[I" ∈ sg_tbl) (hdg : decode cc pc = .ok (.getfield index, 3)) (kk : ∀ x : Nat, isK ad ks 49 x → fld D H 12 a 18 (.ref x) → W p l e R s m args below meth c H locs cells slots Q (F0 m (pc + 3) ls (.ref x :: rest))) : W p l e R s m args below meth c H locs cells slots Q (F0 m pc ls (.ref a :: rest)) :=
  sg_get X hK hG ha (k := 12) (ci := 12) rfl (C := RX12) (T := TX12) (N := 53) rfl inL_X12 18 (by decide) rfl hl (fun _ h => h) hdg (fun v hv hf => by
    obtain ⟨h1, -⟩ | ⟨x, rfl, hx⟩ := hv
    · cases h1
    · exact kk x hx hf)
theorem gf_X12_19y  {f : Nat → Int} {mr : Int} (X : CallFix p m c cc nL s args sg_tbl own) (hK : va_K D vwCl tys s) (hG : sgG (KX f mr P) D vwCl A tys ad ks H) (ha : isK ad ks 12 a) (hl : Cond.fieldLink own index "LawnAheadModel" "ruleRead" "[I" ∈ sg_tbl) (hdg : decode cc pc = .ok (.getfield index, 3)) (kk : ∀ x : Nat, isK ad ks 50 x → fld D H 12 a 19 (.ref x) → W p l e R s m args below meth c H locs cells slots Q (F0 m (pc + 3) ls (.ref x :: rest))) : W p l e R s m args below meth c H locs cells slots Q (F0 m pc ls (.ref a :: rest)) :=
  sg_get X hK hG ha (k := 12) (ci := 12) rfl (C := RX12) (T := TX12) (N := 53) rfl inL_X12 19 (by decide) rfl hl (fun _ h => h) hdg (fun v hv hf => by
    obtain ⟨h1, -⟩ | ⟨x, rfl, hx⟩ := hv
    · cases h1
    · exact kk x hx hf)
theorem gf_X12_21j  {f : Nat → Int × Int} {cc0 : Int × Int} (X : CallFix p m c cc nL s args sg_tbl own) (hK : va_K D vwCl tys s) (hG : sgG (KQ f cc0 P) D vwCl A tys ad ks H) (ha : isK ad ks 12 a) (hl : Cond.fieldLink own index "LawnAheadModel" "game" "[I" ∈ sg_tbl) (hdg : decode cc pc = .ok (.getfield index, 3)) (kk : ∀ x : Nat, isK ad ks 52 x → fld D H 12 a 21 (.ref x) → W p l e R s m args below meth c H locs cells slots Q (F0 m (pc + 3) ls (.ref x :: rest))) : W p l e R s m args below meth c H locs cells slots Q (F0 m pc ls (.ref a :: rest)) :=
  sg_get X hK hG ha (k := 12) (ci := 12) rfl (C := RX12) (T := TX12) (N := 53) rfl inL_X12 21 (by decide) rfl hl (fun _ h => h) hdg (fun v hv hf => by
    obtain ⟨h1, -⟩ | ⟨x, rfl, hx⟩ := hv
    · cases h1
    · exact kk x hx hf)
theorem gf_X12_22j  {f : Nat → Int × Int} {cc0 : Int × Int} (X : CallFix p m c cc nL s args sg_tbl own) (hK : va_K D vwCl tys s) (hG : sgG (KQ f cc0 P) D vwCl A tys ad ks H) (ha : isK ad ks 12 a) (hl : Cond.fieldLink own index "LawnAheadModel" "gameLong" "[I" ∈ sg_tbl) (hdg : decode cc pc = .ok (.getfield index, 3)) (kk : ∀ x : Nat, isK ad ks 53 x → fld D H 12 a 22 (.ref x) → W p l e R s m args below meth c H locs cells slots Q (F0 m (pc + 3) ls (.ref x :: rest))) : W p l e R s m args below meth c H locs cells slots Q (F0 m pc ls (.ref a :: rest)) :=
  sg_get X hK hG ha (k := 12) (ci := 12) rfl (C := RX12) (T := TX12) (N := 53) rfl inL_X12 22 (by decide) rfl hl (fun _ h => h) hdg (fun v hv hf => by
    obtain ⟨h1, -⟩ | ⟨x, rfl, hx⟩ := hv
    · cases h1
    · exact kk x hx hf)
theorem gf_X12_25   (X : CallFix p m c cc nL s args sg_tbl own) (hK : va_K D vwCl tys s) (hG : sgG (KT P) D vwCl A tys ad ks H) (ha : isK ad ks 12 a) (hl : Cond.fieldLink own index "LawnAheadModel" "tuftsRead" "I" ∈ sg_tbl) (hdg : decode cc pc = .ok (.getfield index, 3)) (kk : ∀ x : Int32, iv (-2147483648) 2147483647 x → fld D H 12 a 25 (.int x) → W p l e R s m args below meth c H locs cells slots Q (F0 m (pc + 3) ls (.int x :: rest))) : W p l e R s m args below meth c H locs cells slots Q (F0 m pc ls (.ref a :: rest)) :=
  sg_get X hK hG ha (k := 12) (ci := 12) rfl (C := RX12) (T := TX12) (N := 53) rfl inL_X12 25 (by decide) rfl hl (fun _ h => h) hdg (fun v hv hf => by obtain ⟨x, rfl, hx⟩ := hv; exact kk x hx hf)
theorem gf_X12_26   (X : CallFix p m c cc nL s args sg_tbl own) (hK : va_K D vwCl tys s) (hG : sgG (KT P) D vwCl A tys ad ks H) (ha : isK ad ks 12 a) (hl : Cond.fieldLink own index "LawnAheadModel" "bedsRead" "I" ∈ sg_tbl) (hdg : decode cc pc = .ok (.getfield index, 3)) (kk : ∀ x : Int32, iv (-2147483648) 2147483647 x → fld D H 12 a 26 (.int x) → W p l e R s m args below meth c H locs cells slots Q (F0 m (pc + 3) ls (.int x :: rest))) : W p l e R s m args below meth c H locs cells slots Q (F0 m pc ls (.ref a :: rest)) :=
  sg_get X hK hG ha (k := 12) (ci := 12) rfl (C := RX12) (T := TX12) (N := 53) rfl inL_X12 26 (by decide) rfl hl (fun _ h => h) hdg (fun v hv hf => by obtain ⟨x, rfl, hx⟩ := hv; exact kk x hx hf)
theorem gf_X12_29j  {f : Nat → Int × Int} {cc0 : Int × Int} (X : CallFix p m c cc nL s args sg_tbl own) (hK : va_K D vwCl tys s) (hG : sgG (KQ f cc0 P) D vwCl A tys ad ks H) (ha : isK ad ks 12 a) (hl : Cond.fieldLink own index "LawnAheadModel" "games" "I" ∈ sg_tbl) (hdg : decode cc pc = .ok (.getfield index, 3)) (kk : ∀ x : Int32, iv 0 4 x → iv (P.2.2.2.2.2.2.2.2.2.1.val : Int) (P.2.2.2.2.2.2.2.2.2.1.val : Int) x → fld D H 12 a 29 (.int x) → W p l e R s m args below meth c H locs cells slots Q (F0 m (pc + 3) ls (.int x :: rest))) : W p l e R s m args below meth c H locs cells slots Q (F0 m pc ls (.ref a :: rest)) :=
  sg_get X hK hG ha (k := 12) (ci := 12) rfl (C := RX12) (T := TX12) (N := 53) rfl inL_X12 29 (by decide) rfl hl (fun _ h => h) hdg (fun v hv hf => by obtain ⟨x, rfl, hx⟩ := hv; exact kk x (sg_pin4 hx) hx hf)
theorem gf_X12_6j  {f : Nat → Int × Int} {cc0 : Int × Int} (X : CallFix p m c cc nL s args sg_tbl own) (hK : va_K D vwCl tys s) (hG : sgG (KQ f cc0 P) D vwCl A tys ad ks H) (ha : isK ad ks 12 a) (hl : Cond.fieldLink own index "LawnAheadModel" "length" "I" ∈ sg_tbl) (hdg : decode cc pc = .ok (.getfield index, 3)) (kk : ∀ x : Int32, iv 0 240 x → iv (sgC240 (sgL2 P)) (sgC240 (sgL2 P)) x → fld D H 12 a 6 (.int x) → W p l e R s m args below meth c H locs cells slots Q (F0 m (pc + 3) ls (.int x :: rest))) : W p l e R s m args below meth c H locs cells slots Q (F0 m pc ls (.ref a :: rest)) :=
  sg_get X hK hG ha (k := 12) (ci := 12) rfl (C := RX12) (T := TX12) (N := 53) rfl inL_X12 6 (by decide) rfl hl (fun _ h => h) hdg (fun v hv hf => by obtain ⟨x, rfl, hx⟩ := hv; exact kk x (sgC240_iv hx) hx hf)
theorem gf_X12_6k  {f : Nat → Int} (X : CallFix p m c cc nL s args sg_tbl own) (hK : va_K D vwCl tys s) (hG : sgG (KN f P) D vwCl A tys ad ks H) (ha : isK ad ks 12 a) (hl : Cond.fieldLink own index "LawnAheadModel" "length" "I" ∈ sg_tbl) (hdg : decode cc pc = .ok (.getfield index, 3)) (kk : ∀ x : Int32, iv 0 240 x → iv (sgC240 (sgL2 P)) (sgC240 (sgL2 P)) x → fld D H 12 a 6 (.int x) → W p l e R s m args below meth c H locs cells slots Q (F0 m (pc + 3) ls (.int x :: rest))) : W p l e R s m args below meth c H locs cells slots Q (F0 m pc ls (.ref a :: rest)) :=
  sg_get X hK hG ha (k := 12) (ci := 12) rfl (C := RX12) (T := TX12) (N := 53) rfl inL_X12 6 (by decide) rfl hl (fun _ h => h) hdg (fun v hv hf => by obtain ⟨x, rfl, hx⟩ := hv; exact kk x (sgC240_iv hx) hx hf)
theorem gg_X12_18y  {f : Nat → Int} {mr : Int} (X : CallFix p m c cc nL s args sg_tbl own) (hK : va_K D vwCl tys s) (hG : sgG (KX f mr P) D vwCl A tys ad ks H) (ha : isK ad ks 12 a) (hl : Cond.fieldLink own index "LawnAheadModel" "rule" "[I" ∈ sg_tbl) {v : Value} (hf : fld D H 12 a 18 v) (hdg : decode cc pc = .ok (.getfield index, 3)) (kk : W p l e R s m args below meth c H locs cells slots Q (F0 m (pc + 3) ls (v :: rest))) : W p l e R s m args below meth c H locs cells slots Q (F0 m pc ls (.ref a :: rest)) :=
  sg_getf X hK hG ha (k := 12) (ci := 12) rfl (C := RX12) (T := TX12) (N := 53) rfl inL_X12 18 (by decide) (show 18 < 53 by decide) hl (fun _ h => h) hf hdg kk
theorem gg_X12_21j  {f : Nat → Int × Int} {cc0 : Int × Int} (X : CallFix p m c cc nL s args sg_tbl own) (hK : va_K D vwCl tys s) (hG : sgG (KQ f cc0 P) D vwCl A tys ad ks H) (ha : isK ad ks 12 a) (hl : Cond.fieldLink own index "LawnAheadModel" "game" "[I" ∈ sg_tbl) {v : Value} (hf : fld D H 12 a 21 v) (hdg : decode cc pc = .ok (.getfield index, 3)) (kk : W p l e R s m args below meth c H locs cells slots Q (F0 m (pc + 3) ls (v :: rest))) : W p l e R s m args below meth c H locs cells slots Q (F0 m pc ls (.ref a :: rest)) :=
  sg_getf X hK hG ha (k := 12) (ci := 12) rfl (C := RX12) (T := TX12) (N := 53) rfl inL_X12 21 (by decide) (show 21 < 53 by decide) hl (fun _ h => h) hf hdg kk
theorem gg_X12_22   (X : CallFix p m c cc nL s args sg_tbl own) (hK : va_K D vwCl tys s) (hG : sgG (KT P) D vwCl A tys ad ks H) (ha : isK ad ks 12 a) (hl : Cond.fieldLink own index "LawnAheadModel" "gameLong" "[I" ∈ sg_tbl) {v : Value} (hf : fld D H 12 a 22 v) (hdg : decode cc pc = .ok (.getfield index, 3)) (kk : W p l e R s m args below meth c H locs cells slots Q (F0 m (pc + 3) ls (v :: rest))) : W p l e R s m args below meth c H locs cells slots Q (F0 m pc ls (.ref a :: rest)) :=
  sg_getf X hK hG ha (k := 12) (ci := 12) rfl (C := RX12) (T := TX12) (N := 53) rfl inL_X12 22 (by decide) (show 22 < 53 by decide) hl (fun _ h => h) hf hdg kk
theorem gg_X12_22j  {f : Nat → Int × Int} {cc0 : Int × Int} (X : CallFix p m c cc nL s args sg_tbl own) (hK : va_K D vwCl tys s) (hG : sgG (KQ f cc0 P) D vwCl A tys ad ks H) (ha : isK ad ks 12 a) (hl : Cond.fieldLink own index "LawnAheadModel" "gameLong" "[I" ∈ sg_tbl) {v : Value} (hf : fld D H 12 a 22 v) (hdg : decode cc pc = .ok (.getfield index, 3)) (kk : W p l e R s m args below meth c H locs cells slots Q (F0 m (pc + 3) ls (v :: rest))) : W p l e R s m args below meth c H locs cells slots Q (F0 m pc ls (.ref a :: rest)) :=
  sg_getf X hK hG ha (k := 12) (ci := 12) rfl (C := RX12) (T := TX12) (N := 53) rfl inL_X12 22 (by decide) (show 22 < 53 by decide) hl (fun _ h => h) hf hdg kk
theorem gg_X12_29   (X : CallFix p m c cc nL s args sg_tbl own) (hK : va_K D vwCl tys s) (hG : sgG (KT P) D vwCl A tys ad ks H) (ha : isK ad ks 12 a) (hl : Cond.fieldLink own index "LawnAheadModel" "games" "I" ∈ sg_tbl) {v : Value} (hf : fld D H 12 a 29 v) (hdg : decode cc pc = .ok (.getfield index, 3)) (kk : W p l e R s m args below meth c H locs cells slots Q (F0 m (pc + 3) ls (v :: rest))) : W p l e R s m args below meth c H locs cells slots Q (F0 m pc ls (.ref a :: rest)) :=
  sg_getf X hK hG ha (k := 12) (ci := 12) rfl (C := RX12) (T := TX12) (N := 53) rfl inL_X12 29 (by decide) (show 29 < 53 by decide) hl (fun _ h => h) hf hdg kk
theorem gg_X12_7   (X : CallFix p m c cc nL s args sg_tbl own) (hK : va_K D vwCl tys s) (hG : sgG (KT P) D vwCl A tys ad ks H) (ha : isK ad ks 12 a) (hl : Cond.fieldLink own index "LawnAheadModel" "lawMany" "I" ∈ sg_tbl) {v : Value} (hf : fld D H 12 a 7 v) (hdg : decode cc pc = .ok (.getfield index, 3)) (kk : W p l e R s m args below meth c H locs cells slots Q (F0 m (pc + 3) ls (v :: rest))) : W p l e R s m args below meth c H locs cells slots Q (F0 m pc ls (.ref a :: rest)) :=
  sg_getf X hK hG ha (k := 12) (ci := 12) rfl (C := RX12) (T := TX12) (N := 53) rfl inL_X12 7 (by decide) (show 7 < 53 by decide) hl (fun _ h => h) hf hdg kk
theorem pf_X12_23y  {x : Int32} {f : Nat → Int} {mr : Int} (X : CallFix p m c cc nL s args sg_tbl own) (hK : va_K D vwCl tys s) (hG : sgG (KX f mr P) D vwCl A tys ad ks H) (hS : va_S A H0 H locs) (ha : isK ad ks 12 a) (hl : Cond.fieldLink own index "LawnAheadModel" "cells" "I" ∈ sg_tbl) (hv : okV ad ks (.inl (0, 30)) (.int x)) (hdg : decode cc pc = .ok (.putfield index, 3)) (kk : ∀ (H1 : Heap) (locs1 : List Loc), sgG (KX f mr P) D vwCl A tys ad ks H1 → va_S A H0 H1 locs1 → fld D H1 12 a 23 (.int x) → sgFr (KX f mr P) D vwCl ad ks H H1 (fun a' j' => a' = a ∧ j' = 23) → W p l e R s m args below meth c H1 locs1 cells slots Q (F0 m (pc + 3) ls rest)) : W p l e R s m args below meth c H locs cells slots Q (F0 m pc ls (.int x :: .ref a :: rest)) :=
  sg_put X hK hG hS ha (k := 12) (ci := 12) rfl (C := RX12) (T := TX12) (N := 53) rfl inL_X12 tyX12 tyX12_ok nmX12 23 (by decide) rfl hl (fun _ h => h) rfl (ty := .int) rfl rfl rfl hv hdg kk
theorem pf_X12_24  {x : Int32}  (X : CallFix p m c cc nL s args sg_tbl own) (hK : va_K D vwCl tys s) (hG : sgG (KT P) D vwCl A tys ad ks H) (hS : va_S A H0 H locs) (ha : isK ad ks 12 a) (hl : Cond.fieldLink own index "LawnAheadModel" "beds" "I" ∈ sg_tbl) (hv : okV ad ks (.inl ((-2147483648), 2147483647)) (.int x)) (hdg : decode cc pc = .ok (.putfield index, 3)) (kk : ∀ (H1 : Heap) (locs1 : List Loc), sgG (KT P) D vwCl A tys ad ks H1 → va_S A H0 H1 locs1 → fld D H1 12 a 24 (.int x) → sgFr (KT P) D vwCl ad ks H H1 (fun a' j' => a' = a ∧ j' = 24) → W p l e R s m args below meth c H1 locs1 cells slots Q (F0 m (pc + 3) ls rest)) : W p l e R s m args below meth c H locs cells slots Q (F0 m pc ls (.int x :: .ref a :: rest)) :=
  sg_put X hK hG hS ha (k := 12) (ci := 12) rfl (C := RX12) (T := TX12) (N := 53) rfl inL_X12 tyX12 tyX12_ok nmX12 24 (by decide) rfl hl (fun _ h => h) rfl (ty := .int) rfl rfl rfl hv hdg kk
theorem pf_X12_29p   (X : CallFix p m c cc nL s args sg_tbl own) (hK : va_K D vwCl tys s) (hG : sgG (KT P) D vwCl A tys ad ks H) {x : Int32} (hS : va_S A H0 H locs) (ha : isK ad ks 12 a) (hl : Cond.fieldLink own index "LawnAheadModel" "games" "I" ∈ sg_tbl) {n : Fin 5} (hv : iv (n.val : Int) (n.val : Int) x) (hdg : decode cc pc = .ok (.putfield index, 3)) (kk : ∀ (H1 : Heap) (locs1 : List Loc), sgG (KT (P.1, P.2.1, P.2.2.1, P.2.2.2.1, P.2.2.2.2.1, P.2.2.2.2.2.1, P.2.2.2.2.2.2.1, P.2.2.2.2.2.2.2.1, P.2.2.2.2.2.2.2.2.1, n, P.2.2.2.2.2.2.2.2.2.2)) D vwCl A tys ad ks H1 → va_S A H0 H1 locs1 → W p l e R s m args below meth c H1 locs1 cells slots Q (F0 m (pc + 3) ls rest)) : W p l e R s m args below meth c H locs cells slots Q (F0 m pc ls (.int x :: .ref a :: rest)) :=
  sg_put1 (kt' := KT (P.1, P.2.1, P.2.2.1, P.2.2.2.1, P.2.2.2.2.1, P.2.2.2.2.2.1, P.2.2.2.2.2.2.1, P.2.2.2.2.2.2.2.1, P.2.2.2.2.2.2.2.2.1, n, P.2.2.2.2.2.2.2.2.2.2)) X hK hG hS ha (k := 12) (by decide) (ci := 12) (fts := [.inl ((-2147483648), 2147483647), .inr (.inl (false, 45)), .inr (.inl (false, 46)), .inr (.inl (false, 47)), .inr (.inl (false, 48)), .inr (.inr true), .inl (sgC240 (sgL2 P), sgC240 (sgL2 P)), .inl ((P.2.2.2.2.2.2.2.2.1.val : Int), (P.2.2.2.2.2.2.2.2.1.val : Int)), .inl ((-2147483648), 2147483647), .inl (0, 240), .inl ((-2147483648), 2147483647), .inl ((-1), 241), .inl (0, 6), .inl ((-2147483648), 2147483647), .inl ((-2147483648), 2147483647), .inr (.inr true), .inr (.inr true), .inl (0, 1), .inr (.inl (false, 49)), .inr (.inl (false, 50)), .inr (.inl (false, 51)), .inr (.inl (false, 52)), .inr (.inl (false, 53)), .inl (sgC1 P, sgC1 P), .inl ((-2147483648), 2147483647), .inl ((-2147483648), 2147483647), .inl ((-2147483648), 2147483647), .inl ((-2147483648), 2147483647), .inl ((-2147483648), 2147483647), .inl ((P.2.2.2.2.2.2.2.2.2.1.val : Int), (P.2.2.2.2.2.2.2.2.2.1.val : Int)), .inl (0, 1), .inl (0, 1), .inr (.inl (false, 54)), .inr (.inl (false, 55)), .inl ((-1), 3), .inl (P.2.2.2.2.2.1, P.2.2.2.2.2.1), .inr (.inl (false, 56)), .inr (.inl (false, 57)), .inr (.inl (false, 58)), .inl (0, 40), .inr (.inr false), .inr (.inl (false, 59)), .inl ((-2147483648), 2147483647), .inl ((-2147483648), 2147483647), .inr (.inl (false, 60)), .inr (.inl (false, 61)), .inr (.inl (false, 62)), .inl (0, 12), .inr (.inl (false, 63)), .inr (.inl (false, 64)), .inl (0, 12), .inr (.inl (false, 65)), .inl (0, 1)]) (fts' := [.inl ((-2147483648), 2147483647), .inr (.inl (false, 45)), .inr (.inl (false, 46)), .inr (.inl (false, 47)), .inr (.inl (false, 48)), .inr (.inr true), .inl (sgC240 (sgL2 P), sgC240 (sgL2 P)), .inl (((P.1, P.2.1, P.2.2.1, P.2.2.2.1, P.2.2.2.2.1, P.2.2.2.2.2.1, P.2.2.2.2.2.2.1, P.2.2.2.2.2.2.2.1, P.2.2.2.2.2.2.2.2.1, n, P.2.2.2.2.2.2.2.2.2.2).2.2.2.2.2.2.2.2.1.val : Int), ((P.1, P.2.1, P.2.2.1, P.2.2.2.1, P.2.2.2.2.1, P.2.2.2.2.2.1, P.2.2.2.2.2.2.1, P.2.2.2.2.2.2.2.1, P.2.2.2.2.2.2.2.2.1, n, P.2.2.2.2.2.2.2.2.2.2).2.2.2.2.2.2.2.2.1.val : Int)), .inl ((-2147483648), 2147483647), .inl (0, 240), .inl ((-2147483648), 2147483647), .inl ((-1), 241), .inl (0, 6), .inl ((-2147483648), 2147483647), .inl ((-2147483648), 2147483647), .inr (.inr true), .inr (.inr true), .inl (0, 1), .inr (.inl (false, 49)), .inr (.inl (false, 50)), .inr (.inl (false, 51)), .inr (.inl (false, 52)), .inr (.inl (false, 53)), .inl (sgC1 P, sgC1 P), .inl ((-2147483648), 2147483647), .inl ((-2147483648), 2147483647), .inl ((-2147483648), 2147483647), .inl ((-2147483648), 2147483647), .inl ((-2147483648), 2147483647), .inl (((P.1, P.2.1, P.2.2.1, P.2.2.2.1, P.2.2.2.2.1, P.2.2.2.2.2.1, P.2.2.2.2.2.2.1, P.2.2.2.2.2.2.2.1, P.2.2.2.2.2.2.2.2.1, n, P.2.2.2.2.2.2.2.2.2.2).2.2.2.2.2.2.2.2.2.1.val : Int), ((P.1, P.2.1, P.2.2.1, P.2.2.2.1, P.2.2.2.2.1, P.2.2.2.2.2.1, P.2.2.2.2.2.2.1, P.2.2.2.2.2.2.2.1, P.2.2.2.2.2.2.2.2.1, n, P.2.2.2.2.2.2.2.2.2.2).2.2.2.2.2.2.2.2.2.1.val : Int)), .inl (0, 1), .inl (0, 1), .inr (.inl (false, 54)), .inr (.inl (false, 55)), .inl ((-1), 3), .inl ((P.1, P.2.1, P.2.2.1, P.2.2.2.1, P.2.2.2.2.1, P.2.2.2.2.2.1, P.2.2.2.2.2.2.1, P.2.2.2.2.2.2.2.1, P.2.2.2.2.2.2.2.2.1, n, P.2.2.2.2.2.2.2.2.2.2).2.2.2.2.2.1, (P.1, P.2.1, P.2.2.1, P.2.2.2.1, P.2.2.2.2.1, P.2.2.2.2.2.1, P.2.2.2.2.2.2.1, P.2.2.2.2.2.2.2.1, P.2.2.2.2.2.2.2.2.1, n, P.2.2.2.2.2.2.2.2.2.2).2.2.2.2.2.1), .inr (.inl (false, 56)), .inr (.inl (false, 57)), .inr (.inl (false, 58)), .inl (0, 40), .inr (.inr false), .inr (.inl (false, 59)), .inl ((-2147483648), 2147483647), .inl ((-2147483648), 2147483647), .inr (.inl (false, 60)), .inr (.inl (false, 61)), .inr (.inl (false, 62)), .inl (0, 12), .inr (.inl (false, 63)), .inr (.inl (false, 64)), .inl (0, 12), .inr (.inl (false, 65)), .inl (0, 1)]) rfl rfl (C := RX12) (T := TX12) (N := 53) rfl inL_X12 tyX12 tyX12_ok nmX12 29 (by decide) rfl (t' := .inl ((n.val : Int), (n.val : Int))) rfl (fun i hi => by match i, hi with
    | 0, hi => rfl
    | 1, hi => rfl
    | 2, hi => rfl
    | 3, hi => rfl
    | 4, hi => rfl
    | 5, hi => rfl
    | 6, hi => rfl
    | 7, hi => rfl
    | 8, hi => rfl
    | 9, hi => rfl
    | 10, hi => rfl
    | 11, hi => rfl
    | 12, hi => rfl
    | 13, hi => rfl
    | 14, hi => rfl
    | 15, hi => rfl
    | 16, hi => rfl
    | 17, hi => rfl
    | 18, hi => rfl
    | 19, hi => rfl
    | 20, hi => rfl
    | 21, hi => rfl
    | 22, hi => rfl
    | 23, hi => rfl
    | 24, hi => rfl
    | 25, hi => rfl
    | 26, hi => rfl
    | 27, hi => rfl
    | 28, hi => rfl
    | 29, hi => exact absurd rfl hi
    | 30, hi => rfl
    | 31, hi => rfl
    | 32, hi => rfl
    | 33, hi => rfl
    | 34, hi => rfl
    | 35, hi => rfl
    | 36, hi => rfl
    | 37, hi => rfl
    | 38, hi => rfl
    | 39, hi => rfl
    | 40, hi => rfl
    | 41, hi => rfl
    | 42, hi => rfl
    | 43, hi => rfl
    | 44, hi => rfl
    | 45, hi => rfl
    | 46, hi => rfl
    | 47, hi => rfl
    | 48, hi => rfl
    | 49, hi => rfl
    | 50, hi => rfl
    | 51, hi => rfl
    | 52, hi => rfl
    | i + 53, hi => rfl) (fun i hi => by match i, hi with
    | 0, hi => rfl
    | 1, hi => rfl
    | 2, hi => rfl
    | 3, hi => rfl
    | 4, hi => rfl
    | 5, hi => rfl
    | 6, hi => rfl
    | 7, hi => rfl
    | 8, hi => rfl
    | 9, hi => rfl
    | 10, hi => rfl
    | 11, hi => rfl
    | 12, hi => exact absurd rfl hi
    | 13, hi => rfl
    | 14, hi => rfl
    | 15, hi => rfl
    | 16, hi => rfl
    | 17, hi => rfl
    | 18, hi => rfl
    | 19, hi => rfl
    | 20, hi => rfl
    | 21, hi => rfl
    | 22, hi => rfl
    | 23, hi => rfl
    | 24, hi => rfl
    | 25, hi => rfl
    | 26, hi => rfl
    | 27, hi => rfl
    | 28, hi => rfl
    | 29, hi => rfl
    | 30, hi => rfl
    | 31, hi => rfl
    | 32, hi => rfl
    | 33, hi => rfl
    | 34, hi => rfl
    | 35, hi => rfl
    | 36, hi => rfl
    | 37, hi => rfl
    | 38, hi => rfl
    | 39, hi => rfl
    | 40, hi => rfl
    | 41, hi => rfl
    | 42, hi => rfl
    | 43, hi => rfl
    | 44, hi => rfl
    | 45, hi => rfl
    | 46, hi => rfl
    | 47, hi => rfl
    | 48, hi => rfl
    | 49, hi => rfl
    | 50, hi => rfl
    | 51, hi => rfl
    | 52, hi => rfl
    | 53, hi => rfl
    | 54, hi => rfl
    | 55, hi => rfl
    | 56, hi => rfl
    | 57, hi => rfl
    | 58, hi => rfl
    | 59, hi => rfl
    | 60, hi => rfl
    | 61, hi => rfl
    | 62, hi => rfl
    | 63, hi => rfl
    | 64, hi => rfl
    | 65, hi => rfl
    | 66, hi => rfl
    | 67, hi => rfl
    | i + 68, hi => rfl) hl (fun _ h => h) rfl (ty := .int) rfl rfl rfl ⟨_, rfl, hv⟩ hdg kk
theorem pf_X12_7p   (X : CallFix p m c cc nL s args sg_tbl own) (hK : va_K D vwCl tys s) (hG : sgG (KT P) D vwCl A tys ad ks H) {x : Int32} (hS : va_S A H0 H locs) (ha : isK ad ks 12 a) (hl : Cond.fieldLink own index "LawnAheadModel" "lawMany" "I" ∈ sg_tbl) {n : Fin 5} (hv : iv (n.val : Int) (n.val : Int) x) (hdg : decode cc pc = .ok (.putfield index, 3)) (kk : ∀ (H1 : Heap) (locs1 : List Loc), sgG (KT (P.1, P.2.1, P.2.2.1, P.2.2.2.1, P.2.2.2.2.1, P.2.2.2.2.2.1, P.2.2.2.2.2.2.1, P.2.2.2.2.2.2.2.1, n, P.2.2.2.2.2.2.2.2.2)) D vwCl A tys ad ks H1 → va_S A H0 H1 locs1 → W p l e R s m args below meth c H1 locs1 cells slots Q (F0 m (pc + 3) ls rest)) : W p l e R s m args below meth c H locs cells slots Q (F0 m pc ls (.int x :: .ref a :: rest)) :=
  sg_put1 (kt' := KT (P.1, P.2.1, P.2.2.1, P.2.2.2.1, P.2.2.2.2.1, P.2.2.2.2.2.1, P.2.2.2.2.2.2.1, P.2.2.2.2.2.2.2.1, n, P.2.2.2.2.2.2.2.2.2)) X hK hG hS ha (k := 12) (by decide) (ci := 12) (fts := [.inl ((-2147483648), 2147483647), .inr (.inl (false, 45)), .inr (.inl (false, 46)), .inr (.inl (false, 47)), .inr (.inl (false, 48)), .inr (.inr true), .inl (sgC240 (sgL2 P), sgC240 (sgL2 P)), .inl ((P.2.2.2.2.2.2.2.2.1.val : Int), (P.2.2.2.2.2.2.2.2.1.val : Int)), .inl ((-2147483648), 2147483647), .inl (0, 240), .inl ((-2147483648), 2147483647), .inl ((-1), 241), .inl (0, 6), .inl ((-2147483648), 2147483647), .inl ((-2147483648), 2147483647), .inr (.inr true), .inr (.inr true), .inl (0, 1), .inr (.inl (false, 49)), .inr (.inl (false, 50)), .inr (.inl (false, 51)), .inr (.inl (false, 52)), .inr (.inl (false, 53)), .inl (sgC1 P, sgC1 P), .inl ((-2147483648), 2147483647), .inl ((-2147483648), 2147483647), .inl ((-2147483648), 2147483647), .inl ((-2147483648), 2147483647), .inl ((-2147483648), 2147483647), .inl ((P.2.2.2.2.2.2.2.2.2.1.val : Int), (P.2.2.2.2.2.2.2.2.2.1.val : Int)), .inl (0, 1), .inl (0, 1), .inr (.inl (false, 54)), .inr (.inl (false, 55)), .inl ((-1), 3), .inl (P.2.2.2.2.2.1, P.2.2.2.2.2.1), .inr (.inl (false, 56)), .inr (.inl (false, 57)), .inr (.inl (false, 58)), .inl (0, 40), .inr (.inr false), .inr (.inl (false, 59)), .inl ((-2147483648), 2147483647), .inl ((-2147483648), 2147483647), .inr (.inl (false, 60)), .inr (.inl (false, 61)), .inr (.inl (false, 62)), .inl (0, 12), .inr (.inl (false, 63)), .inr (.inl (false, 64)), .inl (0, 12), .inr (.inl (false, 65)), .inl (0, 1)]) (fts' := [.inl ((-2147483648), 2147483647), .inr (.inl (false, 45)), .inr (.inl (false, 46)), .inr (.inl (false, 47)), .inr (.inl (false, 48)), .inr (.inr true), .inl (sgC240 (sgL2 P), sgC240 (sgL2 P)), .inl (((P.1, P.2.1, P.2.2.1, P.2.2.2.1, P.2.2.2.2.1, P.2.2.2.2.2.1, P.2.2.2.2.2.2.1, P.2.2.2.2.2.2.2.1, n, P.2.2.2.2.2.2.2.2.2).2.2.2.2.2.2.2.2.1.val : Int), ((P.1, P.2.1, P.2.2.1, P.2.2.2.1, P.2.2.2.2.1, P.2.2.2.2.2.1, P.2.2.2.2.2.2.1, P.2.2.2.2.2.2.2.1, n, P.2.2.2.2.2.2.2.2.2).2.2.2.2.2.2.2.2.1.val : Int)), .inl ((-2147483648), 2147483647), .inl (0, 240), .inl ((-2147483648), 2147483647), .inl ((-1), 241), .inl (0, 6), .inl ((-2147483648), 2147483647), .inl ((-2147483648), 2147483647), .inr (.inr true), .inr (.inr true), .inl (0, 1), .inr (.inl (false, 49)), .inr (.inl (false, 50)), .inr (.inl (false, 51)), .inr (.inl (false, 52)), .inr (.inl (false, 53)), .inl (sgC1 P, sgC1 P), .inl ((-2147483648), 2147483647), .inl ((-2147483648), 2147483647), .inl ((-2147483648), 2147483647), .inl ((-2147483648), 2147483647), .inl ((-2147483648), 2147483647), .inl (((P.1, P.2.1, P.2.2.1, P.2.2.2.1, P.2.2.2.2.1, P.2.2.2.2.2.1, P.2.2.2.2.2.2.1, P.2.2.2.2.2.2.2.1, n, P.2.2.2.2.2.2.2.2.2).2.2.2.2.2.2.2.2.2.1.val : Int), ((P.1, P.2.1, P.2.2.1, P.2.2.2.1, P.2.2.2.2.1, P.2.2.2.2.2.1, P.2.2.2.2.2.2.1, P.2.2.2.2.2.2.2.1, n, P.2.2.2.2.2.2.2.2.2).2.2.2.2.2.2.2.2.2.1.val : Int)), .inl (0, 1), .inl (0, 1), .inr (.inl (false, 54)), .inr (.inl (false, 55)), .inl ((-1), 3), .inl ((P.1, P.2.1, P.2.2.1, P.2.2.2.1, P.2.2.2.2.1, P.2.2.2.2.2.1, P.2.2.2.2.2.2.1, P.2.2.2.2.2.2.2.1, n, P.2.2.2.2.2.2.2.2.2).2.2.2.2.2.1, (P.1, P.2.1, P.2.2.1, P.2.2.2.1, P.2.2.2.2.1, P.2.2.2.2.2.1, P.2.2.2.2.2.2.1, P.2.2.2.2.2.2.2.1, n, P.2.2.2.2.2.2.2.2.2).2.2.2.2.2.1), .inr (.inl (false, 56)), .inr (.inl (false, 57)), .inr (.inl (false, 58)), .inl (0, 40), .inr (.inr false), .inr (.inl (false, 59)), .inl ((-2147483648), 2147483647), .inl ((-2147483648), 2147483647), .inr (.inl (false, 60)), .inr (.inl (false, 61)), .inr (.inl (false, 62)), .inl (0, 12), .inr (.inl (false, 63)), .inr (.inl (false, 64)), .inl (0, 12), .inr (.inl (false, 65)), .inl (0, 1)]) rfl rfl (C := RX12) (T := TX12) (N := 53) rfl inL_X12 tyX12 tyX12_ok nmX12 7 (by decide) rfl (t' := .inl ((n.val : Int), (n.val : Int))) rfl (fun i hi => by match i, hi with
    | 0, hi => rfl
    | 1, hi => rfl
    | 2, hi => rfl
    | 3, hi => rfl
    | 4, hi => rfl
    | 5, hi => rfl
    | 6, hi => rfl
    | 7, hi => exact absurd rfl hi
    | 8, hi => rfl
    | 9, hi => rfl
    | 10, hi => rfl
    | 11, hi => rfl
    | 12, hi => rfl
    | 13, hi => rfl
    | 14, hi => rfl
    | 15, hi => rfl
    | 16, hi => rfl
    | 17, hi => rfl
    | 18, hi => rfl
    | 19, hi => rfl
    | 20, hi => rfl
    | 21, hi => rfl
    | 22, hi => rfl
    | 23, hi => rfl
    | 24, hi => rfl
    | 25, hi => rfl
    | 26, hi => rfl
    | 27, hi => rfl
    | 28, hi => rfl
    | 29, hi => rfl
    | 30, hi => rfl
    | 31, hi => rfl
    | 32, hi => rfl
    | 33, hi => rfl
    | 34, hi => rfl
    | 35, hi => rfl
    | 36, hi => rfl
    | 37, hi => rfl
    | 38, hi => rfl
    | 39, hi => rfl
    | 40, hi => rfl
    | 41, hi => rfl
    | 42, hi => rfl
    | 43, hi => rfl
    | 44, hi => rfl
    | 45, hi => rfl
    | 46, hi => rfl
    | 47, hi => rfl
    | 48, hi => rfl
    | 49, hi => rfl
    | 50, hi => rfl
    | 51, hi => rfl
    | 52, hi => rfl
    | i + 53, hi => rfl) (fun i hi => by match i, hi with
    | 0, hi => rfl
    | 1, hi => rfl
    | 2, hi => rfl
    | 3, hi => rfl
    | 4, hi => rfl
    | 5, hi => rfl
    | 6, hi => rfl
    | 7, hi => rfl
    | 8, hi => rfl
    | 9, hi => rfl
    | 10, hi => rfl
    | 11, hi => rfl
    | 12, hi => exact absurd rfl hi
    | 13, hi => rfl
    | 14, hi => rfl
    | 15, hi => rfl
    | 16, hi => rfl
    | 17, hi => rfl
    | 18, hi => rfl
    | 19, hi => rfl
    | 20, hi => rfl
    | 21, hi => rfl
    | 22, hi => rfl
    | 23, hi => rfl
    | 24, hi => rfl
    | 25, hi => rfl
    | 26, hi => rfl
    | 27, hi => rfl
    | 28, hi => rfl
    | 29, hi => rfl
    | 30, hi => rfl
    | 31, hi => rfl
    | 32, hi => rfl
    | 33, hi => rfl
    | 34, hi => rfl
    | 35, hi => rfl
    | 36, hi => rfl
    | 37, hi => rfl
    | 38, hi => rfl
    | 39, hi => rfl
    | 40, hi => rfl
    | 41, hi => rfl
    | 42, hi => rfl
    | 43, hi => rfl
    | 44, hi => rfl
    | 45, hi => rfl
    | 46, hi => rfl
    | 47, hi => rfl
    | 48, hi => rfl
    | 49, hi => rfl
    | 50, hi => rfl
    | 51, hi => rfl
    | 52, hi => rfl
    | 53, hi => rfl
    | 54, hi => rfl
    | 55, hi => rfl
    | 56, hi => rfl
    | 57, hi => rfl
    | 58, hi => rfl
    | 59, hi => rfl
    | 60, hi => rfl
    | 61, hi => rfl
    | 62, hi => rfl
    | 63, hi => rfl
    | 64, hi => rfl
    | 65, hi => rfl
    | 66, hi => rfl
    | 67, hi => rfl
    | i + 68, hi => rfl) hl (fun _ h => h) rfl (ty := .int) rfl rfl rfl ⟨_, rfl, hv⟩ hdg kk
theorem al_45  {i : Int32}  (X : CallFix p m c cc nL s args sg_tbl own) (hK : va_K D vwCl tys s) (hG : sgG (KT P) D vwCl A tys ad ks H) (ha : isK ad ks 45 a) (hin : vp_in i 240) (hdg : decode cc pc = .ok (.baload, 1)) (kk : ∀ x : Int32, okV ad ks ((sg_tp (sgT2 P) : Nat → sgT) i.toNatClampNeg) (.int x) → W p l e R s m args below meth c H locs cells slots Q (F0 m (pc + 1) ls (.int x :: rest))) : W p l e R s m args below meth c H locs cells slots Q (F0 m pc ls (.int i :: .ref a :: rest)) :=
  sg_bald X hK hG ha (k := 45) rfl hin hdg kk
theorem al_49y  {i : Int32} {f : Nat → Int} {mr : Int} (X : CallFix p m c cc nL s args sg_tbl own) (hK : va_K D vwCl tys s) (hG : sgG (KX f mr P) D vwCl A tys ad ks H) (ha : isK ad ks 49 a) (hin : vp_in i 7) (hdg : decode cc pc = .ok (.iaload, 1)) (kk : ∀ x : Int32, okV ad ks ((sg_rqf f mr : Nat → sgT) i.toNatClampNeg) (.int x) → W p l e R s m args below meth c H locs cells slots Q (F0 m (pc + 1) ls (.int x :: rest))) : W p l e R s m args below meth c H locs cells slots Q (F0 m pc ls (.int i :: .ref a :: rest)) :=
  sg_iald X hK hG ha (k := 49) rfl hin hdg kk
theorem al_50y  {i : Int32} {f : Nat → Int} {mr : Int} (X : CallFix p m c cc nL s args sg_tbl own) (hK : va_K D vwCl tys s) (hG : sgG (KX f mr P) D vwCl A tys ad ks H) (ha : isK ad ks 50 a) (hin : vp_in i 7) (hdg : decode cc pc = .ok (.iaload, 1)) (kk : ∀ x : Int32, okV ad ks ((sg_rqf f 7 : Nat → sgT) i.toNatClampNeg) (.int x) → W p l e R s m args below meth c H locs cells slots Q (F0 m (pc + 1) ls (.int x :: rest))) : W p l e R s m args below meth c H locs cells slots Q (F0 m pc ls (.int i :: .ref a :: rest)) :=
  sg_iald X hK hG ha (k := 50) rfl hin hdg kk
theorem al_52j  {i : Int32} {f : Nat → Int × Int} {cc0 : Int × Int} (X : CallFix p m c cc nL s args sg_tbl own) (hK : va_K D vwCl tys s) (hG : sgG (KQ f cc0 P) D vwCl A tys ad ks H) (ha : isK ad ks 52 a) (hin : vp_in i 320) (hdg : decode cc pc = .ok (.iaload, 1)) (kk : ∀ x : Int32, okV ad ks ((sg_gq (sgG0 P) f : Nat → sgT) i.toNatClampNeg) (.int x) → W p l e R s m args below meth c H locs cells slots Q (F0 m (pc + 1) ls (.int x :: rest))) : W p l e R s m args below meth c H locs cells slots Q (F0 m pc ls (.int i :: .ref a :: rest)) :=
  sg_iald X hK hG ha (k := 52) rfl hin hdg kk
theorem al_53j  {i : Int32} {f : Nat → Int × Int} {cc0 : Int × Int} (X : CallFix p m c cc nL s args sg_tbl own) (hK : va_K D vwCl tys s) (hG : sgG (KQ f cc0 P) D vwCl A tys ad ks H) (ha : isK ad ks 53 a) (hin : vp_in i 5) (hdg : decode cc pc = .ok (.iaload, 1)) (kk : ∀ x : Int32, okV ad ks ((sg_glq (sgGl P) cc0 : Nat → sgT) i.toNatClampNeg) (.int x) → W p l e R s m args below meth c H locs cells slots Q (F0 m (pc + 1) ls (.int x :: rest))) : W p l e R s m args below meth c H locs cells slots Q (F0 m pc ls (.int i :: .ref a :: rest)) :=
  sg_iald X hK hG ha (k := 53) rfl hin hdg kk
theorem as_46  {i : Int32} {x : Int32}  (X : CallFix p m c cc nL s args sg_tbl own) (hK : va_K D vwCl tys s) (hG : sgG (KT P) D vwCl A tys ad ks H) (hS : va_S A H0 H locs) (ha : isK ad ks 46 a) (hin : vp_in i 960) (hv : okV ad ks (.inl ((-2147483648), 2147483647)) (.int (vp_nar .byte x))) (hdg : decode cc pc = .ok (.bastore, 1)) (kk : ∀ (H1 : Heap) (locs1 : List Loc), sgG (KT P) D vwCl A tys ad ks H1 → va_S A H0 H1 locs1 → sgFr (KT P) D vwCl ad ks H H1 (fun _ _ => False) → W p l e R s m args below meth c H1 locs1 cells slots Q (F0 m (pc + 1) ls rest)) : W p l e R s m args below meth c H locs cells slots Q (F0 m pc ls (.int x :: .int i :: .ref a :: rest)) :=
  sg_bast X hK hG hS ha (k := 46) rfl hin hv hdg kk
theorem as_47  {i : Int32} {x : Int32}  (X : CallFix p m c cc nL s args sg_tbl own) (hK : va_K D vwCl tys s) (hG : sgG (KT P) D vwCl A tys ad ks H) (hS : va_S A H0 H locs) (ha : isK ad ks 47 a) (hin : vp_in i 4) (hv : okV ad ks (.inl (0, 240)) (.int x)) (hdg : decode cc pc = .ok (.iastore, 1)) (kk : ∀ (H1 : Heap) (locs1 : List Loc), sgG (KT P) D vwCl A tys ad ks H1 → va_S A H0 H1 locs1 → sgFr (KT P) D vwCl ad ks H H1 (fun _ _ => False) → W p l e R s m args below meth c H1 locs1 cells slots Q (F0 m (pc + 1) ls rest)) : W p l e R s m args below meth c H locs cells slots Q (F0 m pc ls (.int x :: .int i :: .ref a :: rest)) :=
  sg_iast X hK hG hS ha (k := 47) rfl hin hv hdg kk
theorem as_52  {i : Int32} {x : Int32}  (X : CallFix p m c cc nL s args sg_tbl own) (hK : va_K D vwCl tys s) (hG : sgG (KT P) D vwCl A tys ad ks H) (hS : va_S A H0 H locs) (ha : isK ad ks 52 a) (hin : vp_in i 320) (hv : okV ad ks ((sg_ga (sgG0 P) : Nat → sgT) i.toNatClampNeg) (.int x)) (hdg : decode cc pc = .ok (.iastore, 1)) (kk : ∀ (H1 : Heap) (locs1 : List Loc), sgG (KT P) D vwCl A tys ad ks H1 → va_S A H0 H1 locs1 → sgFr (KT P) D vwCl ad ks H H1 (fun _ _ => False) → W p l e R s m args below meth c H1 locs1 cells slots Q (F0 m (pc + 1) ls rest)) : W p l e R s m args below meth c H locs cells slots Q (F0 m pc ls (.int x :: .int i :: .ref a :: rest)) :=
  sg_iast X hK hG hS ha (k := 52) rfl hin hv hdg kk
theorem as_53  {i : Int32} {x : Int32}  (X : CallFix p m c cc nL s args sg_tbl own) (hK : va_K D vwCl tys s) (hG : sgG (KT P) D vwCl A tys ad ks H) (hS : va_S A H0 H locs) (ha : isK ad ks 53 a) (hin : vp_in i 5) (hv : okV ad ks ((sg_gl (sgGl P) : Nat → sgT) i.toNatClampNeg) (.int x)) (hdg : decode cc pc = .ok (.iastore, 1)) (kk : ∀ (H1 : Heap) (locs1 : List Loc), sgG (KT P) D vwCl A tys ad ks H1 → va_S A H0 H1 locs1 → sgFr (KT P) D vwCl ad ks H H1 (fun _ _ => False) → W p l e R s m args below meth c H1 locs1 cells slots Q (F0 m (pc + 1) ls rest)) : W p l e R s m args below meth c H locs cells slots Q (F0 m pc ls (.int x :: .int i :: .ref a :: rest)) :=
  sg_iast X hK hG hS ha (k := 53) rfl hin hv hdg kk
set_option maxHeartbeats 8000000 in
set_option maxRecDepth 100000 in
theorem m_X12_text_e0 (l : Launch) {D : va_G} {base : Nat} {tys : List (ClassId × FieldType)} {ad ks : List Nat} {P : sgPm} (hp10 : sgPin P = none) (a0 : Nat) (h0 : isK ad ks 12 a0) (x1 : Int32) (h1 : iv 0 0 x1) (hl0 : 0 ≤ sgL2 P ∧ sgL2 P ≤ 240) (hby : sgBy2 P) : Met l yX12_text (Cond.code yX12_text cX12_text 4 (some .int) :: sg_tbl) ({ frames := 33, cells := 0, slots := 0, locals := 767 }) (va_Pc [.ref a0, .int x1] (sgB (KT P) D vwCl base tys ad ks)) (va_Qi (fun r (u : Int32) => u = r ∧ (fun r : Int32 => True) r) (fun u t => ∃ P1 : sgPm, sgKeep P P1 ∧ sgPin P1 = none ∧ sgSd2 P P1 ∧ sgGm P1 = sgGm P ∧ ((∃ q9 : sgLwn, lnTr (sgU2 P) (sgL2 P) q9 ∧ sgEf2 0 0 0 P P1 ∧ (P1.2.2.2.2.1 = true ∧ sgRw P1 = q9.1) ∧ sgGk P P1 ∧ u.toInt = q9.1 0 * q9.1 1) ∨ (¬ lnTk2 (sgU2 P) (sgL2 P) ∧ sgEf2 (sgL2 P) 0 0 P P1 ∧ sgLs P P1 ∧ sgGk P P1 ∧ u.toInt = -1)) ∧ sgB (KT P1) D vwCl base tys ad ks t) (fun q : Nat => base ≤ q)) 0 0 (fun q : Nat => base ≤ q) := by
  refine sg_ofW (by decide +kernel) (Nat.le_of_ble_eq_true rfl) (fun p e s m below meth c X hr hlk hb hK hC hG ls hl => ?_)
  have hS : va_S (fun q : Nat => base ≤ q) s.heap s.heap [] := va_S.rf
  have hl : lv_has ls 4 [(0, .ref a0), (1, .int x1)] := hl
  refine lv_aload_n X.1 X.2.1 dX12_text_0 rfl (lv_at hl 0 rfl) ?_
  refine lv_iconst (v := 0) X.1 X.2.1 dX12_text_1 (by decide +kernel) ?_
  refine pf_X12_0 X hK hG hS h0 wl_6_178 ⟨_, rfl, (iv_top _)⟩ dX12_text_2 (fun H locs hG hS ku1 ru1 => ?_)
  refine lv_iload_n X.1 X.2.1 dX12_text_5 rfl (lv_at hl 1 rfl) ?_
  obtain ⟨g2, eg2⟩ : ∃ y : Int64, y = (x1 : Int32).toInt64 := ⟨_, rfl⟩
  refine lv_i2l (v := g2) X.1 X.2.1 dX12_text_6 eg2.symm ?_
  refine lv_lconst (v := 0) X.1 X.2.1 dX12_text_7 (by decide +kernel) ?_
  refine lv_ldc2 X.1 X.2.1 X.2.2.2.1 (X.2.2.2.2 _ wl_7_118) dX12_text_8 ?_
  refine ca_X12_isIn_e X hK hG hC (fun _ h => h) hS hb g2 0 2 wl_7_119 hl.1 (rest := []) rfl (Nat.le_of_ble_eq_true rfl) ⟨Nat.le_of_ble_eq_true rfl, Nat.le_of_ble_eq_true rfl⟩ ⟨Nat.le_of_ble_eq_true rfl, Nat.le_of_ble_eq_true rfl⟩ dX12_text_11 (fun f3 locs hf3 hS => ?_)
  refine lv_if_eq (tgt := 52) X.1 X.2.1 dX12_text_14 (by decide) (fun c4 => ?_) (fun c4 => ?_)
  · exact absurd (vq_so0 (b := 0) (c := 2) (vq_says0 hf3 c4) eg2 (by decide +kernel) (by decide +kernel)) (by have z1 := h1.1; have z2 := h1.2; omega)
  · refine lv_iload_n X.1 X.2.1 dX12_text_17 rfl (lv_at hl 1 rfl) ?_
    refine lv_iconst (v := 1) X.1 X.2.1 dX12_text_18 (by decide +kernel) ?_
    refine lv_icmp_ne (tgt := 30) X.1 X.2.1 dX12_text_19 (by decide) (fun c5 => ?_) (fun c5 => ?_)
    · refine lv_iload_n X.1 X.2.1 dX12_text_30 rfl (lv_at hl 1 rfl) ?_
      refine lv_iconst (v := 2) X.1 X.2.1 dX12_text_31 (by decide +kernel) ?_
      refine lv_icmp_ne (tgt := 43) X.1 X.2.1 dX12_text_32 (by decide) (fun c6 => ?_) (fun c6 => ?_)
      · refine lv_aload_n X.1 X.2.1 dX12_text_43 rfl (lv_at hl 0 rfl) ?_
        refine lv_iload_n X.1 X.2.1 dX12_text_44 rfl (lv_at hl 1 rfl) ?_
        refine ca_X12_fault_e0 X hK hG hC hS hb a0 h0 x1 h1 ⟨by omega, by omega⟩ hby wl_8_45 hl.1 (rest := []) rfl (Nat.le_of_ble_eq_true rfl) ⟨Nat.le_of_ble_eq_true rfl, Nat.le_of_ble_eq_true rfl⟩ ⟨Nat.le_of_ble_eq_true rfl, Nat.le_of_ble_eq_true rfl⟩ dX12_text_45 (fun f7 tf7 H locs htf7 hf7 hWf7 hS => ?_)
        rcases hWf7 with ⟨xv8, q1, kv8, hBf7⟩ | ⟨okv8, wv8, qv8, pv8, nv8, w1v8, w2v8, xv8, hBf7⟩
        · have hG := hBf7.2.2.2
          rw [htf7] at hG
          have hru := lnTr_ok kv8
          have yv8 : iv (-1) (-1) f7 := ⟨by omega, by omega⟩
          refine lv_iconst (v := (-1)) X.1 X.2.1 dX12_text_48 (by decide +kernel) ?_
          refine lv_icmp_eq (tgt := 54) X.1 X.2.1 dX12_text_49 (by decide) (fun c9 => ?_) (fun c9 => ?_)
          · refine lv_aload_n X.1 X.2.1 dX12_text_54 rfl (lv_at hl 0 rfl) ?_
            refine gf_X12_6k X hK hG h0 wl_6_184 dX12_text_55 (fun f10 hf10 pf10 kf10 => ?_)
            refine lv_istore_n (lv' := [(2, .int f10), (0, .ref a0), (1, .int x1)]) X.1 X.2.1 dX12_text_58 rfl hl (by decide) rfl (fun ls hl => ?_)
            refine lv_aload_n X.1 X.2.1 dX12_text_59 rfl (lv_at hl 1 rfl) ?_
            refine lv_iconst (v := 0) X.1 X.2.1 dX12_text_60 (by decide +kernel) ?_
            have hG : sgG (KN q1.1 (sgSt P (sgT1 P) (sgL1 P) (sgT2 P) (sgL2 P))) D vwCl _ tys ad ks _ := hG
            refine pf_X12_6qk X hK hG hS h0 wl_6_184 (iv_of (iv_c 0 (a := 0) (b := 0) (by decide +kernel)) (a' := 0) (b' := 240) (by decide +kernel)) dX12_text_61 (fun H locs hG hS => ?_)
            refine lv_iload_n X.1 X.2.1 dX12_text_64 rfl (lv_at hl 2 rfl) ?_
            refine lv_iconst (v := 1) X.1 X.2.1 dX12_text_65 (by decide +kernel) ?_
            refine lv_icmp_ne (tgt := 130) X.1 X.2.1 dX12_text_66 (by decide) (fun c11 => ?_) (fun c11 => ?_)
            · refine lv_iload_n X.1 X.2.1 dX12_text_130 rfl (lv_at hl 2 rfl) ?_
              refine lv_iconst (v := 2) X.1 X.2.1 dX12_text_131 (by decide +kernel) ?_
              refine lv_icmp_ne (tgt := 205) X.1 X.2.1 dX12_text_132 (by decide) (fun c12 => ?_) (fun c12 => ?_)
              · have hG := kx_of hG
                refine lv_iconst (v := 0) X.1 X.2.1 dX12_text_205 (by decide +kernel) ?_
                refine lv_istore_n (lv' := [(3, .int 0), (2, .int f10), (0, .ref a0), (1, .int x1)]) X.1 X.2.1 dX12_text_206 rfl hl (by decide) rfl (fun ls hl => ?_)
                have B13_207 : ∀ (N : Nat) (H : Heap) (locs : List Loc) (ls : Array Slot) (z13_3 : Int32), sgG (KX q1.1 z13_3.toInt (sgSt P (sgT1 P) (sgL1 P) (sgT2 P) (0 : Int32).toInt)) D vwCl (fun q : Nat => base ≤ q) tys ad ks H → va_S (fun q : Nat => base ≤ q) s.heap H locs → lv_has ls 4 [(0, .ref a0), (3, .int z13_3)] → iv 0 7 z13_3 → (8 - z13_3.toInt).toNat ≤ N → W p l e (headSpec (Cond.code yX12_text cX12_text 4 (some .int) :: sg_tbl) ({ frames := 33, cells := 0, slots := 0, locals := 767 })).room s m #[.ref a0, .int x1] below meth c H locs 0 0 (MQ below (va_Qi (fun r (u : Int32) => u = r ∧ (fun r : Int32 => True) r) (fun u t => ∃ P1 : sgPm, sgKeep P P1 ∧ sgPin P1 = none ∧ sgSd2 P P1 ∧ sgGm P1 = sgGm P ∧ ((∃ q9 : sgLwn, lnTr (sgU2 P) (sgL2 P) q9 ∧ sgEf2 0 0 0 P P1 ∧ (P1.2.2.2.2.1 = true ∧ sgRw P1 = q9.1) ∧ sgGk P P1 ∧ u.toInt = q9.1 0 * q9.1 1) ∨ (¬ lnTk2 (sgU2 P) (sgL2 P) ∧ sgEf2 (sgL2 P) 0 0 P P1 ∧ sgLs P P1 ∧ sgGk P P1 ∧ u.toInt = -1)) ∧ sgB (KT P1) D vwCl base tys ad ks t) (fun q : Nat => base ≤ q)) #[.ref a0, .int x1] s 0 0 (fun q : Nat => base ≤ q)) (F0 m 207 ls []) := by
                  intro N; induction N with
                  | zero =>
                    intro H locs ls z13_3 hG hS hl hz13_3 hN
                    exact absurd hN (by have := iv_up hz13_3; omega)
                  | succ N ih13 =>
                    intro H locs ls z13_3 hG hS hl hz13_3 hN13
                    refine lv_iload_n X.1 X.2.1 dX12_text_207 rfl (lv_at hl 1 rfl) ?_
                    refine lv_bipush (v := 7) X.1 X.2.1 dX12_text_208 (by decide +kernel) ?_
                    refine lv_icmp_ge (tgt := 231) X.1 X.2.1 dX12_text_210 (by decide) (fun c14 => ?_) (fun c14 => ?_)
                    · have bq15 : 7 ≤ z13_3.toInt ∧ z13_3.toInt ≤ 7 := (iv_ler (c' := 7) c14 (iv_c 7 (a := 7) (b := 7) (by decide +kernel)) hz13_3 (by decide +kernel))
                      have cq16 : (7 : Int32).toInt = 7 := by decide +kernel
                      have rr17 : (7 : Int32).toInt ≤ (z13_3 : Int32).toInt := Int32.le_iff_toInt_le.mp c14
                      rw [show z13_3.toInt = (7 : Int) from by omega] at hG
                      refine lv_aload_n X.1 X.2.1 dX12_text_231 rfl (lv_at hl 0 rfl) ?_
                      refine lv_aload_n X.1 X.2.1 dX12_text_232 rfl (lv_at hl 0 rfl) ?_
                      refine gf_X12_18y X hK hG h0 wl_6_196 dX12_text_233 (fun q18 hq18 kq18 => ?_)
                      refine lv_iconst (v := 0) X.1 X.2.1 dX12_text_236 (by decide +kernel) ?_
                      refine al_49y X hK hG hq18 (iv_vpin (iv_c 0 (a := 0) (b := 0) (by decide +kernel)) (by decide +kernel)) dX12_text_237 (fun f19 hf19 => ?_)
                      have of19 := hf19
                      have hf19 : iv 1 6 f19 := sg_rf7 hru hf19 (iv_c 0 (a := 0) (b := 0) (by decide +kernel)) (by decide +kernel) (by decide) rfl
                      have r0x : f19.toInt = q1.1 0 := sg_rf_at (sg_cl (iv_c 0 (a := 0) (b := 0) (by decide +kernel)) (by decide)) (by decide) of19
                      refine lv_aload_n X.1 X.2.1 dX12_text_238 rfl (lv_at hl 0 rfl) ?_
                      refine gg_X12_18y X hK hG h0 wl_6_196 kq18 dX12_text_239 ?_
                      refine lv_iconst (v := 1) X.1 X.2.1 dX12_text_242 (by decide +kernel) ?_
                      refine al_49y X hK hG hq18 (iv_vpin (iv_c 1 (a := 1) (b := 1) (by decide +kernel)) (by decide +kernel)) dX12_text_243 (fun f20 hf20 => ?_)
                      have of20 := hf20
                      have hf20 : iv 1 5 f20 := sg_rf7 hru hf20 (iv_c 1 (a := 1) (b := 1) (by decide +kernel)) (by decide +kernel) (by decide) rfl
                      have r1x : f20.toInt = q1.1 1 := sg_rf_at (sg_cl (iv_c 1 (a := 1) (b := 1) (by decide +kernel)) (by decide)) (by decide) of20
                      refine lv_imul X.1 X.2.1 dX12_text_244 ?_
                      refine lv_topi (fun f21 ef21 => ?_)
                      refine pf_X12_23y X hK hG hS h0 wl_6_201 ⟨_, rfl, (iv_of (iv_mul (a' := 1) (b' := 30) ef21 hf19 hf20 (by decide +kernel)) (a' := 0) (b' := 30) (by decide +kernel))⟩ dX12_text_245 (fun H locs hG hS ku22 ru22 => ?_)
                      have hcx : f21.toInt = q1.1 0 * q1.1 1 := sg_mulx ef21 hf19 hf20 r0x r1x
                      have hc23 : iv 1 30 f21 := (iv_mul (a' := 1) (b' := 30) ef21 hf19 hf20 (by decide +kernel))
                      have hG := kx_to hG h0 ku22 hc23 hru
                      refine lv_aload_n X.1 X.2.1 dX12_text_248 rfl (lv_at hl 0 rfl) ?_
                      refine lv_aload_n X.1 X.2.1 dX12_text_249 rfl (lv_at hl 0 rfl) ?_
                      refine gf_X12_26 X hK hG h0 wl_6_204 dX12_text_250 (fun f23 hf23 kf23 => ?_)
                      refine pf_X12_24 X hK hG hS h0 wl_6_202 ⟨_, rfl, (iv_top _)⟩ dX12_text_253 (fun H locs hG hS ku24 ru24 => ?_)
                      refine lv_iconst (v := 0) X.1 X.2.1 dX12_text_256 (by decide +kernel) ?_
                      refine lv_istore_n (lv' := [(3, .int 0), (0, .ref a0)]) X.1 X.2.1 dX12_text_257 rfl hl (by decide) rfl (fun ls hl => ?_)
                      have B25_258 : ∀ (N : Nat) (H : Heap) (locs : List Loc) (ls : Array Slot) (z25_3 : Int32), sgG (KT (sgLw (sgSt P (sgT1 P) (sgL1 P) (sgT2 P) (0 : Int32).toInt) q1.1 (f21 : Int32).toInt)) D vwCl (fun q : Nat => base ≤ q) tys ad ks H → va_S (fun q : Nat => base ≤ q) s.heap H locs → lv_has ls 4 [(0, .ref a0), (3, .int z25_3)] → iv 0 249 z25_3 → (250 - z25_3.toInt).toNat ≤ N → W p l e (headSpec (Cond.code yX12_text cX12_text 4 (some .int) :: sg_tbl) ({ frames := 33, cells := 0, slots := 0, locals := 767 })).room s m #[.ref a0, .int x1] below meth c H locs 0 0 (MQ below (va_Qi (fun r (u : Int32) => u = r ∧ (fun r : Int32 => True) r) (fun u t => ∃ P1 : sgPm, sgKeep P P1 ∧ sgPin P1 = none ∧ sgSd2 P P1 ∧ sgGm P1 = sgGm P ∧ ((∃ q9 : sgLwn, lnTr (sgU2 P) (sgL2 P) q9 ∧ sgEf2 0 0 0 P P1 ∧ (P1.2.2.2.2.1 = true ∧ sgRw P1 = q9.1) ∧ sgGk P P1 ∧ u.toInt = q9.1 0 * q9.1 1) ∨ (¬ lnTk2 (sgU2 P) (sgL2 P) ∧ sgEf2 (sgL2 P) 0 0 P P1 ∧ sgLs P P1 ∧ sgGk P P1 ∧ u.toInt = -1)) ∧ sgB (KT P1) D vwCl base tys ad ks t) (fun q : Nat => base ≤ q)) #[.ref a0, .int x1] s 0 0 (fun q : Nat => base ≤ q)) (F0 m 258 ls []) := by
                        intro N; induction N with
                        | zero =>
                          intro H locs ls z25_3 hG hS hl hz25_3 hN
                          exact absurd hN (by have := iv_up hz25_3; omega)
                        | succ N ih25 =>
                          intro H locs ls z25_3 hG hS hl hz25_3 hN25
                          refine lv_iload_n X.1 X.2.1 dX12_text_258 rfl (lv_at hl 1 rfl) ?_
                          refine lv_sipush (v := 249) X.1 X.2.1 dX12_text_259 (by decide +kernel) ?_
                          refine lv_icmp_ge (tgt := 278) X.1 X.2.1 dX12_text_262 (by decide) (fun c26 => ?_) (fun c26 => ?_)
                          · refine lv_aload_n X.1 X.2.1 dX12_text_278 rfl (lv_at hl 0 rfl) ?_
                            refine gf_X12_32 X hK hG h0 wl_6_210 dX12_text_279 (fun q27 hq27 kq27 => ?_)
                            refine lv_iconst (v := 0) X.1 X.2.1 dX12_text_282 (by decide +kernel) ?_
                            refine lv_aload_n X.1 X.2.1 dX12_text_283 rfl (lv_at hl 0 rfl) ?_
                            refine gf_X12_25 X hK hG h0 wl_6_203 dX12_text_284 (fun f28 hf28 kf28 => ?_)
                            refine as_54 X hK hG hS hq27 (iv_vpin (iv_c 0 (a := 0) (b := 0) (by decide +kernel)) (by decide +kernel)) (sg_nw_none hp10 (sg_at_now (a := (-2147483648)) (b := 2147483647) (iv_c 0 (a := 0) (b := 0) (by decide +kernel)) (by decide +kernel) rfl (iv_top f28))) dX12_text_287 (fun H locs hG hS ru29 => ?_)
                            refine lv_aload_n X.1 X.2.1 dX12_text_288 rfl (lv_at hl 0 rfl) ?_
                            refine gg_X12_32 X hK hG h0 wl_6_210 (ru29 _ _ _ _ _ _ _ h0 rfl rfl (by decide) (fun z => z.elim) kq27) dX12_text_289 ?_
                            refine lv_iconst (v := 2) X.1 X.2.1 dX12_text_292 (by decide +kernel) ?_
                            refine lv_aload_n X.1 X.2.1 dX12_text_293 rfl (lv_at hl 0 rfl) ?_
                            refine gf_X12_18 X hK hG h0 wl_6_196 dX12_text_294 (fun q30 hq30 kq30 => ?_)
                            refine lv_bipush (v := 6) X.1 X.2.1 dX12_text_297 (by decide +kernel) ?_
                            refine al_49 X hK hG hq30 (iv_vpin (iv_c 6 (a := 6) (b := 6) (by decide +kernel)) (by decide +kernel)) dX12_text_299 (fun f31 hf31 => ?_)
                            have of31 := hf31
                            have hf31 : iv 0 1 f31 := sg_r1 rfl hf31 (iv_c 6 (a := 6) (b := 6) (by decide +kernel)) (by decide +kernel) rfl
                            refine as_54 X hK hG hS hq27 (iv_vpin (iv_c 2 (a := 2) (b := 2) (by decide +kernel)) (by decide +kernel)) (sg_nw_ne (sg_nei0 (iv_c 2 (a := 2) (b := 2) (by decide +kernel)) (by decide +kernel)) (sg_at_now (a := 0) (b := 1) (iv_c 2 (a := 2) (b := 2) (by decide +kernel)) (by decide +kernel) rfl hf31)) dX12_text_300 (fun H locs hG hS ru32 => ?_)
                            refine lv_aload_n X.1 X.2.1 dX12_text_301 rfl (lv_at hl 0 rfl) ?_
                            refine lv_iconst (v := 0) X.1 X.2.1 dX12_text_302 (by decide +kernel) ?_
                            refine pf_X12_50 X hK hG hS h0 wl_6_228 ⟨_, rfl, (iv_of (iv_c 0 (a := 0) (b := 0) (by decide +kernel)) (a' := 0) (b' := 12) (by decide +kernel))⟩ dX12_text_303 (fun H locs hG hS ku33 ru33 => ?_)
                            refine lv_aload_n X.1 X.2.1 dX12_text_306 rfl (lv_at hl 0 rfl) ?_
                            refine lv_iconst (v := 0) X.1 X.2.1 dX12_text_307 (by decide +kernel) ?_
                            refine pf_X12_39 X hK hG hS h0 wl_6_217 ⟨_, rfl, (iv_of (iv_c 0 (a := 0) (b := 0) (by decide +kernel)) (a' := 0) (b' := 40) (by decide +kernel))⟩ dX12_text_308 (fun H locs hG hS ku34 ru34 => ?_)
                            refine lv_aload_n X.1 X.2.1 dX12_text_311 rfl (lv_at hl 0 rfl) ?_
                            refine lv_iconst (v := 0) X.1 X.2.1 dX12_text_312 (by decide +kernel) ?_
                            refine pf_X12_52 X hK hG hS h0 wl_6_230 ⟨_, rfl, (iv_of (iv_c 0 (a := 0) (b := 0) (by decide +kernel)) (a' := 0) (b' := 1) (by decide +kernel))⟩ dX12_text_313 (fun H locs hG hS ku35 ru35 => ?_)
                            refine lv_aload_n X.1 X.2.1 dX12_text_316 rfl (lv_at hl 0 rfl) ?_
                            refine gf_X12_23s X hK hG h0 rfl wl_6_201 dX12_text_317 (fun f36 hf36 kf36 => ?_)
                            obtain ⟨v23, o23, f23⟩ := sg_peek hG h0 (k := 12) (ci := 12) rfl (r := (RX12, TX12, 53)) rfl 23 (by decide) rfl
                            obtain ⟨x23, rfl, hx23⟩ := o23
                            obtain rfl : f36 = x23 := by have z := fld_fun kf36 f23; cases z; rfl
                            have hxx : f36.toInt = (f21 : Int32).toInt := (vq_iv hx23).trans (sgC1_Lw hc23)
                            have hxy : f36.toInt = q1.1 0 * q1.1 1 := hxx.trans hcx
                            have hsd : sgSd2 P (sgLw (sgSt P (sgT1 P) (sgL1 P) (sgT2 P) (0 : Int32).toInt) q1.1 (f21 : Int32).toInt) := (by have z0 : (0 : Int32).toInt = 0 := (by decide +kernel); simp only [sgSd2, sgT1, sgL1, sgT2, sgL2, sgTp, sgSt, sgLw, sgGs, sgN, sgPl, sgG0, sgGl, sgRw, sgW, sgNc, sgPin, z0, Nat.add_zero, Nat.le_refl, Nat.le_add_right, and_self, true_and, and_true])
                            have hef : sgEf2 0 0 0 P (sgLw (sgSt P (sgT1 P) (sgL1 P) (sgT2 P) (0 : Int32).toInt) q1.1 (f21 : Int32).toInt) := (by have z0 : (0 : Int32).toInt = 0 := (by decide +kernel); simp only [sgEf2, sgT1, sgL1, sgT2, sgL2, sgTp, sgSt, sgLw, sgGs, sgN, sgPl, sgG0, sgGl, sgRw, sgW, sgNc, sgPin, z0, Nat.add_zero, Nat.le_refl, Nat.le_add_right, and_self, true_and, and_true])
                            have hkp : sgKeep P (sgLw (sgSt P (sgT1 P) (sgL1 P) (sgT2 P) (0 : Int32).toInt) q1.1 (f21 : Int32).toInt) := (by have z0 : (0 : Int32).toInt = 0 := (by decide +kernel); simp only [sgKeep, sgT1, sgL1, sgT2, sgL2, sgTp, sgSt, sgLw, sgGs, sgN, sgPl, sgG0, sgGl, sgRw, sgW, sgNc, sgPin, z0, Nat.add_zero, Nat.le_refl, Nat.le_add_right, and_self, true_and, and_true])
                            have hpn : sgPin (sgLw (sgSt P (sgT1 P) (sgL1 P) (sgT2 P) (0 : Int32).toInt) q1.1 (f21 : Int32).toInt) = none := (by have z0 : (0 : Int32).toInt = 0 := (by decide +kernel); simp only [sgT1, sgL1, sgT2, sgL2, sgTp, sgSt, sgLw, sgGs, sgN, sgPl, sgG0, sgGl, sgRw, sgW, sgNc, sgPin, z0, Nat.add_zero, Nat.le_refl, Nat.le_add_right, and_self, true_and, and_true]; exact hp10)
                            have hgm : sgGm (sgLw (sgSt P (sgT1 P) (sgL1 P) (sgT2 P) (0 : Int32).toInt) q1.1 (f21 : Int32).toInt) = sgGm P := (by have z0 : (0 : Int32).toInt = 0 := (by decide +kernel); simp only [sgGm, sgT1, sgL1, sgT2, sgL2, sgTp, sgSt, sgLw, sgGs, sgN, sgPl, sgG0, sgGl, sgRw, sgW, sgNc, sgPin, z0, Nat.add_zero, Nat.le_refl, Nat.le_add_right, and_self, true_and, and_true])
                            have hls : (sgLw (sgSt P (sgT1 P) (sgL1 P) (sgT2 P) (0 : Int32).toInt) q1.1 (f21 : Int32).toInt).2.2.2.2.1 = true ∧ sgRw (sgLw (sgSt P (sgT1 P) (sgL1 P) (sgT2 P) (0 : Int32).toInt) q1.1 (f21 : Int32).toInt) = q1.1 := (by have z0 : (0 : Int32).toInt = 0 := (by decide +kernel); simp only [sgLs, sgT1, sgL1, sgT2, sgL2, sgTp, sgSt, sgLw, sgGs, sgN, sgPl, sgG0, sgGl, sgRw, sgW, sgNc, sgPin, z0, Nat.add_zero, Nat.le_refl, Nat.le_add_right, and_self, true_and, and_true])
                            have hgk : sgGk P (sgLw (sgSt P (sgT1 P) (sgL1 P) (sgT2 P) (0 : Int32).toInt) q1.1 (f21 : Int32).toInt) := (by have z0 : (0 : Int32).toInt = 0 := (by decide +kernel); simp only [sgGk, sgT1, sgL1, sgT2, sgL2, sgTp, sgSt, sgLw, sgGs, sgN, sgPl, sgG0, sgGl, sgRw, sgW, sgNc, sgPin, z0, Nat.add_zero, Nat.le_refl, Nat.le_add_right, and_self, true_and, and_true])
                            exact sg_iret2 X hr hlk hS trivial (fun t ht hW => ⟨_, hkp, hpn, hsd, hgm, Or.inl ⟨q1, kv8, hef, hls, hgk, hxy⟩, sg_post hb hK hC hG hS ht hW⟩) dX12_text_320
                          · refine lv_aload_n X.1 X.2.1 dX12_text_265 rfl (lv_at hl 0 rfl) ?_
                            refine gf_X12_32 X hK hG h0 wl_6_210 dX12_text_266 (fun q37 hq37 kq37 => ?_)
                            refine lv_iload_n X.1 X.2.1 dX12_text_269 rfl (lv_at hl 1 rfl) ?_
                            refine lv_iconst (v := 0) X.1 X.2.1 dX12_text_270 (by decide +kernel) ?_
                            refine as_54 X hK hG hS hq37 (iv_vpin (iv_lt (b' := 248) (iv_gt_of c26) hz25_3 (iv_c 249 (a := 249) (b := 249) (by decide +kernel)) (by decide +kernel)) (by decide +kernel)) (sg_nw_none hp10 sg_zero_now) dX12_text_271 (fun H locs hG hS ru38 => ?_)
                            obtain ⟨y39, ey39⟩ : ∃ y : Int32, y = z25_3 + Int32.ofInt 1 := ⟨_, rfl⟩
                            refine lv_iinc (v := y39) (lv' := [(3, .int y39), (0, .ref a0)]) X.1 X.2.1 dX12_text_272 hl (k := 1) rfl ey39.symm (by decide) rfl (fun ls hl => ?_)
                            refine lv_goto (tgt := 258) X.1 X.2.1 dX12_text_275 (by decide) ?_
                            exact ih25 H _ _ y39 hG hS (lv_sub hl [1, 0] rfl) (iv_of (iv_add (a' := 1) (b' := 249) ey39 (iv_lt (b' := 248) (iv_gt_of c26) hz25_3 (iv_c 249 (a := 249) (b := 249) (by decide +kernel)) (by decide +kernel)) (iv_c _ (a := 1) (b := 1) (by decide +kernel)) (by decide +kernel)) (a' := 0) (b' := 249) (by decide +kernel)) (iv_stepU ey39 (iv_lt (b' := 248) (iv_gt_of c26) hz25_3 (iv_c 249 (a := 249) (b := 249) (by decide +kernel)) (by decide +kernel)) (by decide +kernel) hN25)
                      exact B25_258 _ H _ _ 0 hG hS (lv_sub hl [1, 0] rfl) (iv_of (iv_c 0 (a := 0) (b := 0) (by decide +kernel)) (a' := 0) (b' := 249) (by decide +kernel)) (Nat.le_refl _)
                    · refine lv_aload_n X.1 X.2.1 dX12_text_213 rfl (lv_at hl 0 rfl) ?_
                      refine gf_X12_18y X hK hG h0 wl_6_196 dX12_text_214 (fun q40 hq40 kq40 => ?_)
                      refine lv_iload_n X.1 X.2.1 dX12_text_217 rfl (lv_at hl 1 rfl) ?_
                      refine lv_aload_n X.1 X.2.1 dX12_text_218 rfl (lv_at hl 0 rfl) ?_
                      refine gf_X12_19y X hK hG h0 wl_6_197 dX12_text_219 (fun q41 hq41 kq41 => ?_)
                      refine lv_iload_n X.1 X.2.1 dX12_text_222 rfl (lv_at hl 1 rfl) ?_
                      refine al_50y X hK hG hq41 (iv_vpin (iv_lt (b' := 6) (iv_gt_of c14) hz13_3 (iv_c 7 (a := 7) (b := 7) (by decide +kernel)) (by decide +kernel)) (by decide +kernel)) dX12_text_223 (fun f42 hf42 => ?_)
                      have of42 := hf42
                      have hf42 : iv (-2147483648) 2147483647 f42 := iv_top f42
                      refine as_49x X hK hG hS hq40 (iv_vpin (iv_lt (b' := 6) (iv_gt_of c14) hz13_3 (iv_c 7 (a := 7) (b := 7) (by decide +kernel)) (by decide +kernel)) (by decide +kernel)) (show z13_3.toInt = z13_3.toInt from rfl) (sg_rf_rl rfl ((iv_lt (b' := 6) (iv_gt_of c14) hz13_3 (iv_c 7 (a := 7) (b := 7) (by decide +kernel)) (by decide +kernel))).1 (by have := ((iv_lt (b' := 6) (iv_gt_of c14) hz13_3 (iv_c 7 (a := 7) (b := 7) (by decide +kernel)) (by decide +kernel))).2; omega) of42) dX12_text_224 (fun H locs hG hS => ?_)
                      obtain ⟨y44, ey44⟩ : ∃ y : Int32, y = z13_3 + Int32.ofInt 1 := ⟨_, rfl⟩
                      refine lv_iinc (v := y44) (lv' := [(3, .int y44), (0, .ref a0)]) X.1 X.2.1 dX12_text_225 hl (k := 1) rfl ey44.symm (by decide) rfl (fun ls hl => ?_)
                      refine lv_goto (tgt := 207) X.1 X.2.1 dX12_text_228 (by decide) ?_
                      have bq45 : 0 ≤ z13_3.toInt ∧ z13_3.toInt ≤ 6 := (iv_lt (b' := 6) (iv_gt_of c14) hz13_3 (iv_c 7 (a := 7) (b := 7) (by decide +kernel)) (by decide +kernel))
                      have xy44 : y44.toInt = z13_3.toInt + 1 := sg_inc (k := 1) ey44 (iv_lt (b' := 6) (iv_gt_of c14) hz13_3 (iv_c 7 (a := 7) (b := 7) (by decide +kernel)) (by decide +kernel)) (by decide +kernel)
                      have hG := sg_cast hG (show (KX q1.1 (z13_3.toInt + 1) (sgSt P (sgT1 P) (sgL1 P) (sgT2 P) (0 : Int32).toInt)) = (KX q1.1 (y44 : Int32).toInt (sgSt P (sgT1 P) (sgL1 P) (sgT2 P) (0 : Int32).toInt)) from by rw [show (y44 : Int32).toInt = (z13_3.toInt + 1) from by omega])
                      exact ih13 H _ _ y44 hG hS (lv_sub hl [1, 0] rfl) (iv_of (iv_add (a' := 1) (b' := 7) ey44 (iv_lt (b' := 6) (iv_gt_of c14) hz13_3 (iv_c 7 (a := 7) (b := 7) (by decide +kernel)) (by decide +kernel)) (iv_c _ (a := 1) (b := 1) (by decide +kernel)) (by decide +kernel)) (a' := 0) (b' := 7) (by decide +kernel)) (iv_stepU ey44 (iv_lt (b' := 6) (iv_gt_of c14) hz13_3 (iv_c 7 (a := 7) (b := 7) (by decide +kernel)) (by decide +kernel)) (by decide +kernel) hN13)
                have cq46 : (0 : Int32).toInt = 0 := by decide +kernel
                have hG := sg_cast hG (show (KX q1.1 0 (sgSt P (sgT1 P) (sgL1 P) (sgT2 P) (0 : Int32).toInt)) = (KX q1.1 (0 : Int32).toInt (sgSt P (sgT1 P) (sgL1 P) (sgT2 P) (0 : Int32).toInt)) from by rw [show (0 : Int32).toInt = 0 from by omega])
                exact B13_207 _ H _ _ 0 hG hS (lv_sub hl [2, 0] rfl) (iv_of (iv_c 0 (a := 0) (b := 0) (by decide +kernel)) (a' := 0) (b' := 7) (by decide +kernel)) (Nat.le_refl _)
              · exact ((iv_no (a := 2) (b := 0) (iv_eqm c12 h1 (iv_c 2 (a := 2) (b := 2) (by decide +kernel)) (by decide +kernel)) (by decide +kernel))).elim
            · exact ((iv_no (a := 1) (b := 0) (iv_eqm c11 h1 (iv_c 1 (a := 1) (b := 1) (by decide +kernel)) (by decide +kernel)) (by decide +kernel))).elim
          · exact ((c9 (iv_one yv8 (iv_c (-1) (a := (-1)) (b := (-1)) (by decide +kernel)) (by decide +kernel)))).elim
        · have hG := hBf7.2.2.2
          rw [htf7] at hG
          have yv8 : iv 0 240 f7 := vq_of xv8 ⟨w1v8, w2v8⟩
          refine lv_iconst (v := (-1)) X.1 X.2.1 dX12_text_48 (by decide +kernel) ?_
          refine lv_icmp_eq (tgt := 54) X.1 X.2.1 dX12_text_49 (by decide) (fun c47 => ?_) (fun c47 => ?_)
          · exact ((iv_no (a := 0) (b := (-1)) (iv_eqm c47 yv8 (iv_c (-1) (a := (-1)) (b := (-1)) (by decide +kernel)) (by decide +kernel)) (by decide +kernel))).elim
          · refine lv_iconst (v := (-1)) X.1 X.2.1 dX12_text_52 (by decide +kernel) ?_
            exact sg_iret2 X hr hlk hS trivial (fun t ht hW => ⟨P, ⟨rfl, rfl, Nat.le_refl _, Nat.le_add_right _ _⟩, hp10, sgSd2_rf, rfl, Or.inr ⟨(lnTk2_no pv8 nv8), sgEf2_rf, sgLs_rf, sgGk_rf, (by decide +kernel)⟩, sg_post hb hK hC hG hS ht hW⟩) dX12_text_53
      · exact ((iv_no (a := 2) (b := 0) (iv_eqm c6 h1 (iv_c 2 (a := 2) (b := 2) (by decide +kernel)) (by decide +kernel)) (by decide +kernel))).elim
    · exact ((iv_no (a := 1) (b := 0) (iv_eqm c5 h1 (iv_c 1 (a := 1) (b := 1) (by decide +kernel)) (by decide +kernel)) (by decide +kernel))).elim

theorem ca_X12_text_e0   (X : CallFix p m c cc nL s args sg_tbl own) (hK : va_K D vwCl tys s) (hG : sgG (KT P) D vwCl (fun q : Nat => base ≤ q) tys ad ks H) (hC : sgC base s) (hS : va_S (fun q : Nat => base ≤ q) s.heap H locs) (hb : base ≤ s.heap.size) (hp10 : sgPin P = none) (a0 : Nat) (h0 : isK ad ks 12 a0) (x1 : Int32) (h1 : iv 0 0 x1) (hl0 : 0 ≤ sgL2 P ∧ sgL2 P ≤ 240) (hby : sgBy2 P) (hl : Cond.methodLink own index yX12_text ∈ sg_tbl) (hsize : ls.size = nL) (hst : st0 = [.int x1].reverse ++ .ref a0 :: rest) (hW : (rest.map fun v => v.category).sum ≤ 8) (hR : 34 ≤ R.frames ∧ 790 ≤ R.locals) (hf : cells ≤ R.cells ∧ slots ≤ R.slots) (hdg : decode cc pc = .ok (.invokevirtual index, 3)) (kk : ∀ (r : Int32) (t : State) (H1 : Heap) (locs1 : List Loc), t.heap = H1 → (fun r : Int32 => True) r → (∃ P1 : sgPm, sgKeep P P1 ∧ sgPin P1 = none ∧ sgSd2 P P1 ∧ sgGm P1 = sgGm P ∧ ((∃ q9 : sgLwn, lnTr (sgU2 P) (sgL2 P) q9 ∧ sgEf2 0 0 0 P P1 ∧ (P1.2.2.2.2.1 = true ∧ sgRw P1 = q9.1) ∧ sgGk P P1 ∧ r.toInt = q9.1 0 * q9.1 1) ∨ (¬ lnTk2 (sgU2 P) (sgL2 P) ∧ sgEf2 (sgL2 P) 0 0 P P1 ∧ sgLs P P1 ∧ sgGk P P1 ∧ r.toInt = -1)) ∧ sgB (KT P1) D vwCl base tys ad ks t) → va_S (fun q : Nat => base ≤ q) s.heap H1 locs1 → W p l e R s m args below meth c H1 locs1 cells slots Q (F0 m (pc + 3) ls (.int r :: rest))) : W p l e R s m args below meth c H locs cells slots Q (F0 m pc ls st0) :=
  sg_callV2i X hK hG hC hS hb (m_X12_text_e0 l hp10 a0 h0 x1 h1 hl0 hby) h0 (k := 12) (ci := 12) rfl (C := RX12) (T := TX12) (N := 53) rfl wl_8_44 wl_1_13 wl_8_42 wl_8_43 (n := 1) (by decide +kernel) rfl rfl rfl hl hsize hst hW hR hf hdg kk

set_option maxHeartbeats 8000000 in
set_option maxRecDepth 100000 in
theorem m_X12_text_e1 (l : Launch) {D : va_G} {base : Nat} {tys : List (ClassId × FieldType)} {ad ks : List Nat} {P : sgPm} (hp10 : sgPin P = none) (a0 : Nat) (h0 : isK ad ks 12 a0) (x1 : Int32) (h1 : iv 1 1 x1) (hl0 : 0 ≤ sgL2 P ∧ sgL2 P ≤ 240) (hby : sgBy2 P) : Met l yX12_text (Cond.code yX12_text cX12_text 4 (some .int) :: sg_tbl) ({ frames := 33, cells := 0, slots := 0, locals := 767 }) (va_Pc [.ref a0, .int x1] (sgB (KT P) D vwCl base tys ad ks)) (va_Qi (fun r (u : Int32) => u = r ∧ (fun r : Int32 => True) r) (fun u t => ∃ P1 : sgPm, sgKeep P P1 ∧ sgPin P1 = none ∧ sgSd2 P P1 ∧ sgGm P1 = sgGm P ∧ (((P.2.2.2.2.2.2.2.2.1.val < 4 ∧ (∃ a1 : Int, vLawM (sgU2 P) (sgL2 P) = (true, a1))) ∧ sgEf2 0 1 0 P P1 ∧ sgLs P P1 ∧ sgGk P P1 ∧ u.toInt = (P.2.2.2.2.2.2.2.2.1.val : Int)) ∨ (¬ (P.2.2.2.2.2.2.2.2.1.val < 4 ∧ (∃ a1 : Int, vLawM (sgU2 P) (sgL2 P) = (true, a1))) ∧ sgEf2 (sgL2 P) 0 0 P P1 ∧ sgLs P P1 ∧ sgGk P P1 ∧ u.toInt = -1)) ∧ sgB (KT P1) D vwCl base tys ad ks t) (fun q : Nat => base ≤ q)) 0 0 (fun q : Nat => base ≤ q) := by
  refine sg_ofW (by decide +kernel) (Nat.le_of_ble_eq_true rfl) (fun p e s m below meth c X hr hlk hb hK hC hG ls hl => ?_)
  have hS : va_S (fun q : Nat => base ≤ q) s.heap s.heap [] := va_S.rf
  have hl : lv_has ls 4 [(0, .ref a0), (1, .int x1)] := hl
  refine lv_aload_n X.1 X.2.1 dX12_text_0 rfl (lv_at hl 0 rfl) ?_
  refine lv_iconst (v := 0) X.1 X.2.1 dX12_text_1 (by decide +kernel) ?_
  refine pf_X12_0 X hK hG hS h0 wl_6_178 ⟨_, rfl, (iv_top _)⟩ dX12_text_2 (fun H locs hG hS ku1 ru1 => ?_)
  refine lv_iload_n X.1 X.2.1 dX12_text_5 rfl (lv_at hl 1 rfl) ?_
  obtain ⟨g2, eg2⟩ : ∃ y : Int64, y = (x1 : Int32).toInt64 := ⟨_, rfl⟩
  refine lv_i2l (v := g2) X.1 X.2.1 dX12_text_6 eg2.symm ?_
  refine lv_lconst (v := 0) X.1 X.2.1 dX12_text_7 (by decide +kernel) ?_
  refine lv_ldc2 X.1 X.2.1 X.2.2.2.1 (X.2.2.2.2 _ wl_7_118) dX12_text_8 ?_
  refine ca_X12_isIn_e X hK hG hC (fun _ h => h) hS hb g2 0 2 wl_7_119 hl.1 (rest := []) rfl (Nat.le_of_ble_eq_true rfl) ⟨Nat.le_of_ble_eq_true rfl, Nat.le_of_ble_eq_true rfl⟩ ⟨Nat.le_of_ble_eq_true rfl, Nat.le_of_ble_eq_true rfl⟩ dX12_text_11 (fun f3 locs hf3 hS => ?_)
  refine lv_if_eq (tgt := 52) X.1 X.2.1 dX12_text_14 (by decide) (fun c4 => ?_) (fun c4 => ?_)
  · exact absurd (vq_so0 (b := 0) (c := 2) (vq_says0 hf3 c4) eg2 (by decide +kernel) (by decide +kernel)) (by have z1 := h1.1; have z2 := h1.2; omega)
  · refine lv_iload_n X.1 X.2.1 dX12_text_17 rfl (lv_at hl 1 rfl) ?_
    refine lv_iconst (v := 1) X.1 X.2.1 dX12_text_18 (by decide +kernel) ?_
    refine lv_icmp_ne (tgt := 30) X.1 X.2.1 dX12_text_19 (by decide) (fun c5 => ?_) (fun c5 => ?_)
    · exact ((c5 (iv_one h1 (iv_c 1 (a := 1) (b := 1) (by decide +kernel)) (by decide +kernel)))).elim
    · refine lv_aload_n X.1 X.2.1 dX12_text_22 rfl (lv_at hl 0 rfl) ?_
      refine gf_X12_7 X hK hG h0 wl_6_185 dX12_text_23 (fun f6 hf6 pf6 kf6 => ?_)
      refine lv_iconst (v := 4) X.1 X.2.1 dX12_text_26 (by decide +kernel) ?_
      refine lv_icmp_eq (tgt := 52) X.1 X.2.1 dX12_text_27 (by decide) (fun c7 => ?_) (fun c7 => ?_)
      · refine lv_iconst (v := (-1)) X.1 X.2.1 dX12_text_52 (by decide +kernel) ?_
        exact sg_iret2 X hr hlk hS trivial (fun t ht hW => ⟨P, ⟨rfl, rfl, Nat.le_refl _, Nat.le_add_right _ _⟩, hp10, sgSd2_rf, rfl, Or.inr ⟨(fun z => sg_pin4n pf6 c7 z.1), sgEf2_rf, sgLs_rf, sgGk_rf, (by decide +kernel)⟩, sg_post hb hK hC hG hS ht hW⟩) dX12_text_53
      · refine lv_iload_n X.1 X.2.1 dX12_text_30 rfl (lv_at hl 1 rfl) ?_
        refine lv_iconst (v := 2) X.1 X.2.1 dX12_text_31 (by decide +kernel) ?_
        refine lv_icmp_ne (tgt := 43) X.1 X.2.1 dX12_text_32 (by decide) (fun c8 => ?_) (fun c8 => ?_)
        · refine lv_aload_n X.1 X.2.1 dX12_text_43 rfl (lv_at hl 0 rfl) ?_
          refine lv_iload_n X.1 X.2.1 dX12_text_44 rfl (lv_at hl 1 rfl) ?_
          refine ca_X12_fault_e1 X hK hG hC hS hb a0 h0 x1 h1 ⟨by omega, by omega⟩ hby wl_8_45 hl.1 (rest := []) rfl (Nat.le_of_ble_eq_true rfl) ⟨Nat.le_of_ble_eq_true rfl, Nat.le_of_ble_eq_true rfl⟩ ⟨Nat.le_of_ble_eq_true rfl, Nat.le_of_ble_eq_true rfl⟩ dX12_text_45 (fun f9 tf9 H locs htf9 hf9 hWf9 hS => ?_)
          rcases hWf9 with ⟨xv10, kv10, hBf9⟩ | ⟨wv10, pv10, w1v10, w2v10, xv10, hBf9⟩
          · have hG := hBf9.2.2.2
            rw [htf9] at hG
            have yv10 : iv (-1) (-1) f9 := ⟨by omega, by omega⟩
            refine lv_iconst (v := (-1)) X.1 X.2.1 dX12_text_48 (by decide +kernel) ?_
            refine lv_icmp_eq (tgt := 54) X.1 X.2.1 dX12_text_49 (by decide) (fun c11 => ?_) (fun c11 => ?_)
            · refine lv_aload_n X.1 X.2.1 dX12_text_54 rfl (lv_at hl 0 rfl) ?_
              refine gf_X12_6 X hK hG h0 wl_6_184 dX12_text_55 (fun f12 hf12 pf12 kf12 => ?_)
              refine lv_istore_n (lv' := [(2, .int f12), (0, .ref a0), (1, .int x1)]) X.1 X.2.1 dX12_text_58 rfl hl (by decide) rfl (fun ls hl => ?_)
              refine lv_aload_n X.1 X.2.1 dX12_text_59 rfl (lv_at hl 1 rfl) ?_
              refine lv_iconst (v := 0) X.1 X.2.1 dX12_text_60 (by decide +kernel) ?_
              have hG := sg_st hG
              refine pf_X12_6q X hK hG hS h0 wl_6_184 (iv_of (iv_c 0 (a := 0) (b := 0) (by decide +kernel)) (a' := 0) (b' := 240) (by decide +kernel)) dX12_text_61 (fun H locs hG hS => ?_)
              refine lv_iload_n X.1 X.2.1 dX12_text_64 rfl (lv_at hl 2 rfl) ?_
              refine lv_iconst (v := 1) X.1 X.2.1 dX12_text_65 (by decide +kernel) ?_
              refine lv_icmp_ne (tgt := 130) X.1 X.2.1 dX12_text_66 (by decide) (fun c13 => ?_) (fun c13 => ?_)
              · exact ((c13 (iv_one h1 (iv_c 1 (a := 1) (b := 1) (by decide +kernel)) (by decide +kernel)))).elim
              · refine lv_iconst (v := 0) X.1 X.2.1 dX12_text_69 (by decide +kernel) ?_
                refine lv_istore_n (lv' := [(3, .int 0), (2, .int f12), (0, .ref a0), (1, .int x1)]) X.1 X.2.1 dX12_text_70 rfl hl (by decide) rfl (fun ls hl => ?_)
                have B14_71 : ∀ (N : Nat) (H : Heap) (locs : List Loc) (ls : Array Slot) (z14_3 : Int32), sgG (KT (sgSt P (sgT1 P) (sgL1 P) (sgT2 P) (0 : Int32).toInt)) D vwCl (fun q : Nat => base ≤ q) tys ad ks H → va_S (fun q : Nat => base ≤ q) s.heap H locs → lv_has ls 4 [(0, .ref a0), (2, .int f12), (3, .int z14_3)] → iv 0 240 z14_3 → (241 - z14_3.toInt).toNat ≤ N → W p l e (headSpec (Cond.code yX12_text cX12_text 4 (some .int) :: sg_tbl) ({ frames := 33, cells := 0, slots := 0, locals := 767 })).room s m #[.ref a0, .int x1] below meth c H locs 0 0 (MQ below (va_Qi (fun r (u : Int32) => u = r ∧ (fun r : Int32 => True) r) (fun u t => ∃ P1 : sgPm, sgKeep P P1 ∧ sgPin P1 = none ∧ sgSd2 P P1 ∧ sgGm P1 = sgGm P ∧ (((P.2.2.2.2.2.2.2.2.1.val < 4 ∧ (∃ a1 : Int, vLawM (sgU2 P) (sgL2 P) = (true, a1))) ∧ sgEf2 0 1 0 P P1 ∧ sgLs P P1 ∧ sgGk P P1 ∧ u.toInt = (P.2.2.2.2.2.2.2.2.1.val : Int)) ∨ (¬ (P.2.2.2.2.2.2.2.2.1.val < 4 ∧ (∃ a1 : Int, vLawM (sgU2 P) (sgL2 P) = (true, a1))) ∧ sgEf2 (sgL2 P) 0 0 P P1 ∧ sgLs P P1 ∧ sgGk P P1 ∧ u.toInt = -1)) ∧ sgB (KT P1) D vwCl base tys ad ks t) (fun q : Nat => base ≤ q)) #[.ref a0, .int x1] s 0 0 (fun q : Nat => base ≤ q)) (F0 m 71 ls []) := by
                  intro N; induction N with
                  | zero =>
                    intro H locs ls z14_3 hG hS hl hz14_3 hN
                    exact absurd hN (by have := iv_up hz14_3; omega)
                  | succ N ih14 =>
                    intro H locs ls z14_3 hG hS hl hz14_3 hN14
                    refine lv_iload_n X.1 X.2.1 dX12_text_71 rfl (lv_at hl 2 rfl) ?_
                    refine lv_iload_n X.1 X.2.1 dX12_text_72 rfl (lv_at hl 1 rfl) ?_
                    refine lv_icmp_ge (tgt := 103) X.1 X.2.1 dX12_text_73 (by decide) (fun c15 => ?_) (fun c15 => ?_)
                    · refine lv_aload_n X.1 X.2.1 dX12_text_103 rfl (lv_at hl 0 rfl) ?_
                      refine gf_X12_3 X hK hG h0 wl_6_181 dX12_text_104 (fun q16 hq16 kq16 => ?_)
                      refine lv_aload_n X.1 X.2.1 dX12_text_107 rfl (lv_at hl 0 rfl) ?_
                      refine gf_X12_7 X hK hG h0 wl_6_185 dX12_text_108 (fun f17 hf17 pf17 kf17 => ?_)
                      refine lv_iload_n X.1 X.2.1 dX12_text_111 rfl (lv_at hl 1 rfl) ?_
                      refine as_47 X hK hG hS hq16 (iv_vpin (sg_pin3 pf6 (iv_ne_hi (b' := 3) c7 hf6 (by decide +kernel)) pf17) (by decide +kernel)) ⟨_, rfl, hf12⟩ dX12_text_112 (fun H locs hG hS ru18 => ?_)
                      refine lv_aload_n X.1 X.2.1 dX12_text_113 rfl (lv_at hl 0 rfl) ?_
                      refine lv_dup X.1 X.2.1 dX12_text_114 rfl ?_
                      refine gg_X12_7 X hK hG h0 wl_6_185 (ru18 _ _ _ _ _ _ _ h0 rfl rfl (by decide) (fun z => z.elim) kf17) dX12_text_115 ?_
                      refine lv_iconst (v := 1) X.1 X.2.1 dX12_text_118 (by decide +kernel) ?_
                      refine lv_iadd X.1 X.2.1 dX12_text_119 ?_
                      refine lv_topi (fun f19 ef19 => ?_)
                      obtain ⟨n20, hn20⟩ := sg_pin pf6 (iv_ne_hi (b' := 3) c7 hf6 (by decide +kernel)) pf17 ef19
                      refine pf_X12_7p X hK hG hS h0 wl_6_185 (n := n20) (sg_pinv hn20) dX12_text_120 (fun H locs hG hS => ?_)
                      refine lv_aload_n X.1 X.2.1 dX12_text_123 rfl (lv_at hl 0 rfl) ?_
                      refine gf_X12_7 X hK hG h0 wl_6_185 dX12_text_124 (fun f21 hf21 pf21 kf21 => ?_)
                      refine lv_iconst (v := 1) X.1 X.2.1 dX12_text_127 (by decide +kernel) ?_
                      refine lv_isub X.1 X.2.1 dX12_text_128 ?_
                      refine lv_topi (fun f22 ef22 => ?_)
                      have hsd : sgSd2 P ((sgSt P (sgT1 P) (sgL1 P) (sgT2 P) (0 : Int32).toInt).1, (sgSt P (sgT1 P) (sgL1 P) (sgT2 P) (0 : Int32).toInt).2.1, (sgSt P (sgT1 P) (sgL1 P) (sgT2 P) (0 : Int32).toInt).2.2.1, (sgSt P (sgT1 P) (sgL1 P) (sgT2 P) (0 : Int32).toInt).2.2.2.1, (sgSt P (sgT1 P) (sgL1 P) (sgT2 P) (0 : Int32).toInt).2.2.2.2.1, (sgSt P (sgT1 P) (sgL1 P) (sgT2 P) (0 : Int32).toInt).2.2.2.2.2.1, (sgSt P (sgT1 P) (sgL1 P) (sgT2 P) (0 : Int32).toInt).2.2.2.2.2.2.1, (sgSt P (sgT1 P) (sgL1 P) (sgT2 P) (0 : Int32).toInt).2.2.2.2.2.2.2.1, n20, (sgSt P (sgT1 P) (sgL1 P) (sgT2 P) (0 : Int32).toInt).2.2.2.2.2.2.2.2.2) := (by have z0 : (0 : Int32).toInt = 0 := (by decide +kernel); simp only [sgSd2, sgT1, sgL1, sgT2, sgL2, sgTp, sgSt, sgLw, sgGs, sgN, sgPl, sgG0, sgGl, sgRw, sgW, sgNc, sgPin, z0, Nat.add_zero, Nat.le_refl, Nat.le_add_right, and_self, true_and, and_true])
                      have z1 := (sg_pinS pf17 ef19 hn20)
                      have hef : sgEf2 0 1 0 P ((sgSt P (sgT1 P) (sgL1 P) (sgT2 P) (0 : Int32).toInt).1, (sgSt P (sgT1 P) (sgL1 P) (sgT2 P) (0 : Int32).toInt).2.1, (sgSt P (sgT1 P) (sgL1 P) (sgT2 P) (0 : Int32).toInt).2.2.1, (sgSt P (sgT1 P) (sgL1 P) (sgT2 P) (0 : Int32).toInt).2.2.2.1, (sgSt P (sgT1 P) (sgL1 P) (sgT2 P) (0 : Int32).toInt).2.2.2.2.1, (sgSt P (sgT1 P) (sgL1 P) (sgT2 P) (0 : Int32).toInt).2.2.2.2.2.1, (sgSt P (sgT1 P) (sgL1 P) (sgT2 P) (0 : Int32).toInt).2.2.2.2.2.2.1, (sgSt P (sgT1 P) (sgL1 P) (sgT2 P) (0 : Int32).toInt).2.2.2.2.2.2.2.1, n20, (sgSt P (sgT1 P) (sgL1 P) (sgT2 P) (0 : Int32).toInt).2.2.2.2.2.2.2.2.2) := (by have z0 : (0 : Int32).toInt = 0 := (by decide +kernel); simp only [sgEf2, sgT1, sgL1, sgT2, sgL2, sgTp, sgSt, sgLw, sgGs, sgN, sgPl, sgG0, sgGl, sgRw, sgW, sgNc, sgPin, z0, Nat.add_zero, Nat.le_refl, Nat.le_add_right, and_self, true_and, and_true, z1])
                      have hkp : sgKeep P ((sgSt P (sgT1 P) (sgL1 P) (sgT2 P) (0 : Int32).toInt).1, (sgSt P (sgT1 P) (sgL1 P) (sgT2 P) (0 : Int32).toInt).2.1, (sgSt P (sgT1 P) (sgL1 P) (sgT2 P) (0 : Int32).toInt).2.2.1, (sgSt P (sgT1 P) (sgL1 P) (sgT2 P) (0 : Int32).toInt).2.2.2.1, (sgSt P (sgT1 P) (sgL1 P) (sgT2 P) (0 : Int32).toInt).2.2.2.2.1, (sgSt P (sgT1 P) (sgL1 P) (sgT2 P) (0 : Int32).toInt).2.2.2.2.2.1, (sgSt P (sgT1 P) (sgL1 P) (sgT2 P) (0 : Int32).toInt).2.2.2.2.2.2.1, (sgSt P (sgT1 P) (sgL1 P) (sgT2 P) (0 : Int32).toInt).2.2.2.2.2.2.2.1, n20, (sgSt P (sgT1 P) (sgL1 P) (sgT2 P) (0 : Int32).toInt).2.2.2.2.2.2.2.2.2) := (by have z0 : (0 : Int32).toInt = 0 := (by decide +kernel); simp only [sgKeep, sgT1, sgL1, sgT2, sgL2, sgTp, sgSt, sgLw, sgGs, sgN, sgPl, sgG0, sgGl, sgRw, sgW, sgNc, sgPin, z0, Nat.add_zero, Nat.le_refl, Nat.le_add_right, and_self, true_and, and_true])
                      have hpn : sgPin ((sgSt P (sgT1 P) (sgL1 P) (sgT2 P) (0 : Int32).toInt).1, (sgSt P (sgT1 P) (sgL1 P) (sgT2 P) (0 : Int32).toInt).2.1, (sgSt P (sgT1 P) (sgL1 P) (sgT2 P) (0 : Int32).toInt).2.2.1, (sgSt P (sgT1 P) (sgL1 P) (sgT2 P) (0 : Int32).toInt).2.2.2.1, (sgSt P (sgT1 P) (sgL1 P) (sgT2 P) (0 : Int32).toInt).2.2.2.2.1, (sgSt P (sgT1 P) (sgL1 P) (sgT2 P) (0 : Int32).toInt).2.2.2.2.2.1, (sgSt P (sgT1 P) (sgL1 P) (sgT2 P) (0 : Int32).toInt).2.2.2.2.2.2.1, (sgSt P (sgT1 P) (sgL1 P) (sgT2 P) (0 : Int32).toInt).2.2.2.2.2.2.2.1, n20, (sgSt P (sgT1 P) (sgL1 P) (sgT2 P) (0 : Int32).toInt).2.2.2.2.2.2.2.2.2) = none := (by have z0 : (0 : Int32).toInt = 0 := (by decide +kernel); simp only [sgT1, sgL1, sgT2, sgL2, sgTp, sgSt, sgLw, sgGs, sgN, sgPl, sgG0, sgGl, sgRw, sgW, sgNc, sgPin, z0, Nat.add_zero, Nat.le_refl, Nat.le_add_right, and_self, true_and, and_true]; exact hp10)
                      have hgm : sgGm ((sgSt P (sgT1 P) (sgL1 P) (sgT2 P) (0 : Int32).toInt).1, (sgSt P (sgT1 P) (sgL1 P) (sgT2 P) (0 : Int32).toInt).2.1, (sgSt P (sgT1 P) (sgL1 P) (sgT2 P) (0 : Int32).toInt).2.2.1, (sgSt P (sgT1 P) (sgL1 P) (sgT2 P) (0 : Int32).toInt).2.2.2.1, (sgSt P (sgT1 P) (sgL1 P) (sgT2 P) (0 : Int32).toInt).2.2.2.2.1, (sgSt P (sgT1 P) (sgL1 P) (sgT2 P) (0 : Int32).toInt).2.2.2.2.2.1, (sgSt P (sgT1 P) (sgL1 P) (sgT2 P) (0 : Int32).toInt).2.2.2.2.2.2.1, (sgSt P (sgT1 P) (sgL1 P) (sgT2 P) (0 : Int32).toInt).2.2.2.2.2.2.2.1, n20, (sgSt P (sgT1 P) (sgL1 P) (sgT2 P) (0 : Int32).toInt).2.2.2.2.2.2.2.2.2) = sgGm P := (by have z0 : (0 : Int32).toInt = 0 := (by decide +kernel); simp only [sgGm, sgT1, sgL1, sgT2, sgL2, sgTp, sgSt, sgLw, sgGs, sgN, sgPl, sgG0, sgGl, sgRw, sgW, sgNc, sgPin, z0, Nat.add_zero, Nat.le_refl, Nat.le_add_right, and_self, true_and, and_true])
                      have hls : sgLs P ((sgSt P (sgT1 P) (sgL1 P) (sgT2 P) (0 : Int32).toInt).1, (sgSt P (sgT1 P) (sgL1 P) (sgT2 P) (0 : Int32).toInt).2.1, (sgSt P (sgT1 P) (sgL1 P) (sgT2 P) (0 : Int32).toInt).2.2.1, (sgSt P (sgT1 P) (sgL1 P) (sgT2 P) (0 : Int32).toInt).2.2.2.1, (sgSt P (sgT1 P) (sgL1 P) (sgT2 P) (0 : Int32).toInt).2.2.2.2.1, (sgSt P (sgT1 P) (sgL1 P) (sgT2 P) (0 : Int32).toInt).2.2.2.2.2.1, (sgSt P (sgT1 P) (sgL1 P) (sgT2 P) (0 : Int32).toInt).2.2.2.2.2.2.1, (sgSt P (sgT1 P) (sgL1 P) (sgT2 P) (0 : Int32).toInt).2.2.2.2.2.2.2.1, n20, (sgSt P (sgT1 P) (sgL1 P) (sgT2 P) (0 : Int32).toInt).2.2.2.2.2.2.2.2.2) := (by have z0 : (0 : Int32).toInt = 0 := (by decide +kernel); simp only [sgLs, sgT1, sgL1, sgT2, sgL2, sgTp, sgSt, sgLw, sgGs, sgN, sgPl, sgG0, sgGl, sgRw, sgW, sgNc, sgPin, z0, Nat.add_zero, Nat.le_refl, Nat.le_add_right, and_self, true_and, and_true])
                      have hgk : sgGk P ((sgSt P (sgT1 P) (sgL1 P) (sgT2 P) (0 : Int32).toInt).1, (sgSt P (sgT1 P) (sgL1 P) (sgT2 P) (0 : Int32).toInt).2.1, (sgSt P (sgT1 P) (sgL1 P) (sgT2 P) (0 : Int32).toInt).2.2.1, (sgSt P (sgT1 P) (sgL1 P) (sgT2 P) (0 : Int32).toInt).2.2.2.1, (sgSt P (sgT1 P) (sgL1 P) (sgT2 P) (0 : Int32).toInt).2.2.2.2.1, (sgSt P (sgT1 P) (sgL1 P) (sgT2 P) (0 : Int32).toInt).2.2.2.2.2.1, (sgSt P (sgT1 P) (sgL1 P) (sgT2 P) (0 : Int32).toInt).2.2.2.2.2.2.1, (sgSt P (sgT1 P) (sgL1 P) (sgT2 P) (0 : Int32).toInt).2.2.2.2.2.2.2.1, n20, (sgSt P (sgT1 P) (sgL1 P) (sgT2 P) (0 : Int32).toInt).2.2.2.2.2.2.2.2.2) := (by have z0 : (0 : Int32).toInt = 0 := (by decide +kernel); simp only [sgGk, sgT1, sgL1, sgT2, sgL2, sgTp, sgSt, sgLw, sgGs, sgN, sgPl, sgG0, sgGl, sgRw, sgW, sgNc, sgPin, z0, Nat.add_zero, Nat.le_refl, Nat.le_add_right, and_self, true_and, and_true])
                      exact sg_iret2 X hr hlk hS trivial (fun t ht hW => ⟨_, hkp, hpn, hsd, hgm, Or.inl ⟨⟨sg_pin4l pf6 c7, kv10⟩, hef, hls, hgk, sg_pinM pf21 ef22 z1⟩, sg_post hb hK hC hG hS ht hW⟩) dX12_text_129
                    · refine lv_aload_n X.1 X.2.1 dX12_text_76 rfl (lv_at hl 0 rfl) ?_
                      refine gf_X12_2 X hK hG h0 wl_6_180 dX12_text_77 (fun q23 hq23 kq23 => ?_)
                      refine lv_sipush (v := 240) X.1 X.2.1 dX12_text_80 (by decide +kernel) ?_
                      refine lv_aload_n X.1 X.2.1 dX12_text_83 rfl (lv_at hl 0 rfl) ?_
                      refine gf_X12_7 X hK hG h0 wl_6_185 dX12_text_84 (fun f24 hf24 pf24 kf24 => ?_)
                      refine lv_imul X.1 X.2.1 dX12_text_87 ?_
                      refine lv_topi (fun f25 ef25 => ?_)
                      refine lv_iload_n X.1 X.2.1 dX12_text_88 rfl (lv_at hl 2 rfl) ?_
                      refine lv_iadd X.1 X.2.1 dX12_text_89 ?_
                      refine lv_topi (fun f26 ef26 => ?_)
                      refine lv_aload_n X.1 X.2.1 dX12_text_90 rfl (lv_at hl 0 rfl) ?_
                      refine gf_X12_1 X hK hG h0 wl_6_179 dX12_text_91 (fun q27 hq27 kq27 => ?_)
                      refine lv_iload_n X.1 X.2.1 dX12_text_94 rfl (lv_at hl 2 rfl) ?_
                      refine al_45 X hK hG hq27 (iv_vpin (iv_lt (b' := 239) (iv_gt_of c15) hz14_3 hf12 (by decide +kernel)) (by decide +kernel)) dX12_text_95 (fun f28 hf28 => ?_)
                      have of28 := hf28
                      have hf28 : iv (-2147483648) 2147483647 f28 := iv_top f28
                      refine as_46 X hK hG hS hq23 (iv_vpin (iv_add (a' := 0) (b' := 959) ef26 (iv_mul (a' := 0) (b' := 720) ef25 (iv_c 240 (a := 240) (b := 240) (by decide +kernel)) (sg_pin3 pf6 (iv_ne_hi (b' := 3) c7 hf6 (by decide +kernel)) pf24) (by decide +kernel)) (iv_lt (b' := 239) (iv_gt_of c15) hz14_3 hf12 (by decide +kernel)) (by decide +kernel)) (by decide +kernel)) ⟨_, rfl, (iv_top _)⟩ dX12_text_96 (fun H locs hG hS ru29 => ?_)
                      obtain ⟨y30, ey30⟩ : ∃ y : Int32, y = z14_3 + Int32.ofInt 1 := ⟨_, rfl⟩
                      refine lv_iinc (v := y30) (lv' := [(3, .int y30), (0, .ref a0), (2, .int f12)]) X.1 X.2.1 dX12_text_97 hl (k := 2) rfl ey30.symm (by decide) rfl (fun ls hl => ?_)
                      refine lv_goto (tgt := 71) X.1 X.2.1 dX12_text_100 (by decide) ?_
                      exact ih14 H _ _ y30 hG hS (lv_sub hl [1, 2, 0] rfl) (iv_of (iv_add (a' := 1) (b' := 240) ey30 (iv_lt (b' := 239) (iv_gt_of c15) hz14_3 hf12 (by decide +kernel)) (iv_c _ (a := 1) (b := 1) (by decide +kernel)) (by decide +kernel)) (a' := 0) (b' := 240) (by decide +kernel)) (iv_stepU ey30 (iv_lt (b' := 239) (iv_gt_of c15) hz14_3 hf12 (by decide +kernel)) (by decide +kernel) hN14)
                exact B14_71 _ H _ _ 0 hG hS (lv_sub hl [2, 1, 0] rfl) (iv_of (iv_c 0 (a := 0) (b := 0) (by decide +kernel)) (a' := 0) (b' := 240) (by decide +kernel)) (Nat.le_refl _)
            · exact ((c11 (iv_one yv10 (iv_c (-1) (a := (-1)) (b := (-1)) (by decide +kernel)) (by decide +kernel)))).elim
          · have hG := hBf9.2.2.2
            rw [htf9] at hG
            have yv10 : iv 0 240 f9 := vq_of xv10 ⟨w1v10, w2v10⟩
            refine lv_iconst (v := (-1)) X.1 X.2.1 dX12_text_48 (by decide +kernel) ?_
            refine lv_icmp_eq (tgt := 54) X.1 X.2.1 dX12_text_49 (by decide) (fun c31 => ?_) (fun c31 => ?_)
            · exact ((iv_no (a := 0) (b := (-1)) (iv_eqm c31 yv10 (iv_c (-1) (a := (-1)) (b := (-1)) (by decide +kernel)) (by decide +kernel)) (by decide +kernel))).elim
            · refine lv_iconst (v := (-1)) X.1 X.2.1 dX12_text_52 (by decide +kernel) ?_
              exact sg_iret2 X hr hlk hS trivial (fun t ht hW => ⟨P, ⟨rfl, rfl, Nat.le_refl _, Nat.le_add_right _ _⟩, hp10, sgSd2_rf, rfl, Or.inr ⟨(fun z => (fun z => by obtain ⟨a9, z⟩ := z; rw [pv10] at z; cases z) z.2), sgEf2_rf, sgLs_rf, sgGk_rf, (by decide +kernel)⟩, sg_post hb hK hC hG hS ht hW⟩) dX12_text_53
        · exact ((iv_no (a := 2) (b := 1) (iv_eqm c8 h1 (iv_c 2 (a := 2) (b := 2) (by decide +kernel)) (by decide +kernel)) (by decide +kernel))).elim

theorem ca_X12_text_e1   (X : CallFix p m c cc nL s args sg_tbl own) (hK : va_K D vwCl tys s) (hG : sgG (KT P) D vwCl (fun q : Nat => base ≤ q) tys ad ks H) (hC : sgC base s) (hS : va_S (fun q : Nat => base ≤ q) s.heap H locs) (hb : base ≤ s.heap.size) (hp10 : sgPin P = none) (a0 : Nat) (h0 : isK ad ks 12 a0) (x1 : Int32) (h1 : iv 1 1 x1) (hl0 : 0 ≤ sgL2 P ∧ sgL2 P ≤ 240) (hby : sgBy2 P) (hl : Cond.methodLink own index yX12_text ∈ sg_tbl) (hsize : ls.size = nL) (hst : st0 = [.int x1].reverse ++ .ref a0 :: rest) (hW : (rest.map fun v => v.category).sum ≤ 8) (hR : 34 ≤ R.frames ∧ 790 ≤ R.locals) (hf : cells ≤ R.cells ∧ slots ≤ R.slots) (hdg : decode cc pc = .ok (.invokevirtual index, 3)) (kk : ∀ (r : Int32) (t : State) (H1 : Heap) (locs1 : List Loc), t.heap = H1 → (fun r : Int32 => True) r → (∃ P1 : sgPm, sgKeep P P1 ∧ sgPin P1 = none ∧ sgSd2 P P1 ∧ sgGm P1 = sgGm P ∧ (((P.2.2.2.2.2.2.2.2.1.val < 4 ∧ (∃ a1 : Int, vLawM (sgU2 P) (sgL2 P) = (true, a1))) ∧ sgEf2 0 1 0 P P1 ∧ sgLs P P1 ∧ sgGk P P1 ∧ r.toInt = (P.2.2.2.2.2.2.2.2.1.val : Int)) ∨ (¬ (P.2.2.2.2.2.2.2.2.1.val < 4 ∧ (∃ a1 : Int, vLawM (sgU2 P) (sgL2 P) = (true, a1))) ∧ sgEf2 (sgL2 P) 0 0 P P1 ∧ sgLs P P1 ∧ sgGk P P1 ∧ r.toInt = -1)) ∧ sgB (KT P1) D vwCl base tys ad ks t) → va_S (fun q : Nat => base ≤ q) s.heap H1 locs1 → W p l e R s m args below meth c H1 locs1 cells slots Q (F0 m (pc + 3) ls (.int r :: rest))) : W p l e R s m args below meth c H locs cells slots Q (F0 m pc ls st0) :=
  sg_callV2i X hK hG hC hS hb (m_X12_text_e1 l hp10 a0 h0 x1 h1 hl0 hby) h0 (k := 12) (ci := 12) rfl (C := RX12) (T := TX12) (N := 53) rfl wl_8_44 wl_1_13 wl_8_42 wl_8_43 (n := 1) (by decide +kernel) rfl rfl rfl hl hsize hst hW hR hf hdg kk

set_option maxHeartbeats 8000000 in
set_option maxRecDepth 100000 in
theorem m_X12_text_e2 (l : Launch) {D : va_G} {base : Nat} {tys : List (ClassId × FieldType)} {ad ks : List Nat} {P : sgPm} (hp10 : sgPin P = none) (a0 : Nat) (h0 : isK ad ks 12 a0) (x1 : Int32) (h1 : iv 2 2 x1) (hl0 : 0 ≤ sgL2 P ∧ sgL2 P ≤ 240) (hby : sgBy2 P) : Met l yX12_text (Cond.code yX12_text cX12_text 4 (some .int) :: sg_tbl) ({ frames := 33, cells := 0, slots := 0, locals := 767 }) (va_Pc [.ref a0, .int x1] (sgB (KT P) D vwCl base tys ad ks)) (va_Qi (fun r (u : Int32) => u = r ∧ (fun r : Int32 => True) r) (fun u t => ∃ P1 : sgPm, sgKeep P P1 ∧ sgPin P1 = none ∧ sgSd2 P P1 ∧ sgGm P1 = sgGm P ∧ (((P.2.2.2.2.2.2.2.2.2.1.val < 4 ∧ (∃ a1 : Int, vGame (sgU2 P) (sgL2 P) = (true, a1))) ∧ sgEf2 0 0 1 P P1 ∧ sgLs P P1 ∧ sgTo2 P P1 ∧ u.toInt = (P.2.2.2.2.2.2.2.2.2.1.val : Int)) ∨ (¬ (P.2.2.2.2.2.2.2.2.2.1.val < 4 ∧ (∃ a1 : Int, vGame (sgU2 P) (sgL2 P) = (true, a1))) ∧ sgEf2 (sgL2 P) 0 0 P P1 ∧ sgLs P P1 ∧ sgGk P P1 ∧ u.toInt = -1)) ∧ sgB (KT P1) D vwCl base tys ad ks t) (fun q : Nat => base ≤ q)) 0 0 (fun q : Nat => base ≤ q) := by
  refine sg_ofW (by decide +kernel) (Nat.le_of_ble_eq_true rfl) (fun p e s m below meth c X hr hlk hb hK hC hG ls hl => ?_)
  have hS : va_S (fun q : Nat => base ≤ q) s.heap s.heap [] := va_S.rf
  have hl : lv_has ls 4 [(0, .ref a0), (1, .int x1)] := hl
  refine lv_aload_n X.1 X.2.1 dX12_text_0 rfl (lv_at hl 0 rfl) ?_
  refine lv_iconst (v := 0) X.1 X.2.1 dX12_text_1 (by decide +kernel) ?_
  refine pf_X12_0 X hK hG hS h0 wl_6_178 ⟨_, rfl, (iv_top _)⟩ dX12_text_2 (fun H locs hG hS ku1 ru1 => ?_)
  refine lv_iload_n X.1 X.2.1 dX12_text_5 rfl (lv_at hl 1 rfl) ?_
  obtain ⟨g2, eg2⟩ : ∃ y : Int64, y = (x1 : Int32).toInt64 := ⟨_, rfl⟩
  refine lv_i2l (v := g2) X.1 X.2.1 dX12_text_6 eg2.symm ?_
  refine lv_lconst (v := 0) X.1 X.2.1 dX12_text_7 (by decide +kernel) ?_
  refine lv_ldc2 X.1 X.2.1 X.2.2.2.1 (X.2.2.2.2 _ wl_7_118) dX12_text_8 ?_
  refine ca_X12_isIn_e X hK hG hC (fun _ h => h) hS hb g2 0 2 wl_7_119 hl.1 (rest := []) rfl (Nat.le_of_ble_eq_true rfl) ⟨Nat.le_of_ble_eq_true rfl, Nat.le_of_ble_eq_true rfl⟩ ⟨Nat.le_of_ble_eq_true rfl, Nat.le_of_ble_eq_true rfl⟩ dX12_text_11 (fun f3 locs hf3 hS => ?_)
  refine lv_if_eq (tgt := 52) X.1 X.2.1 dX12_text_14 (by decide) (fun c4 => ?_) (fun c4 => ?_)
  · exact absurd (vq_so0 (b := 0) (c := 2) (vq_says0 hf3 c4) eg2 (by decide +kernel) (by decide +kernel)) (by have z1 := h1.1; have z2 := h1.2; omega)
  · refine lv_iload_n X.1 X.2.1 dX12_text_17 rfl (lv_at hl 1 rfl) ?_
    refine lv_iconst (v := 1) X.1 X.2.1 dX12_text_18 (by decide +kernel) ?_
    refine lv_icmp_ne (tgt := 30) X.1 X.2.1 dX12_text_19 (by decide) (fun c5 => ?_) (fun c5 => ?_)
    · refine lv_iload_n X.1 X.2.1 dX12_text_30 rfl (lv_at hl 1 rfl) ?_
      refine lv_iconst (v := 2) X.1 X.2.1 dX12_text_31 (by decide +kernel) ?_
      refine lv_icmp_ne (tgt := 43) X.1 X.2.1 dX12_text_32 (by decide) (fun c6 => ?_) (fun c6 => ?_)
      · exact ((c6 (iv_one h1 (iv_c 2 (a := 2) (b := 2) (by decide +kernel)) (by decide +kernel)))).elim
      · refine lv_aload_n X.1 X.2.1 dX12_text_35 rfl (lv_at hl 0 rfl) ?_
        refine gf_X12_29 X hK hG h0 wl_6_207 dX12_text_36 (fun f7 hf7 pf7 kf7 => ?_)
        refine lv_iconst (v := 4) X.1 X.2.1 dX12_text_39 (by decide +kernel) ?_
        refine lv_icmp_eq (tgt := 52) X.1 X.2.1 dX12_text_40 (by decide) (fun c8 => ?_) (fun c8 => ?_)
        · refine lv_iconst (v := (-1)) X.1 X.2.1 dX12_text_52 (by decide +kernel) ?_
          exact sg_iret2 X hr hlk hS trivial (fun t ht hW => ⟨P, ⟨rfl, rfl, Nat.le_refl _, Nat.le_add_right _ _⟩, hp10, sgSd2_rf, rfl, Or.inr ⟨(fun z => sg_pin4n pf7 c8 z.1), sgEf2_rf, sgLs_rf, sgGk_rf, (by decide +kernel)⟩, sg_post hb hK hC hG hS ht hW⟩) dX12_text_53
        · refine lv_aload_n X.1 X.2.1 dX12_text_43 rfl (lv_at hl 0 rfl) ?_
          refine lv_iload_n X.1 X.2.1 dX12_text_44 rfl (lv_at hl 1 rfl) ?_
          refine ca_X12_fault_e2 X hK hG hC hS hb a0 h0 x1 h1 ⟨by omega, by omega⟩ hby wl_8_45 hl.1 (rest := []) rfl (Nat.le_of_ble_eq_true rfl) ⟨Nat.le_of_ble_eq_true rfl, Nat.le_of_ble_eq_true rfl⟩ ⟨Nat.le_of_ble_eq_true rfl, Nat.le_of_ble_eq_true rfl⟩ dX12_text_45 (fun f9 tf9 H locs htf9 hf9 hWf9 hS => ?_)
          rcases hWf9 with ⟨xv10, kq9, fq9, cq9, hk9, hc9, hm9, kv10, hBf9⟩ | ⟨wv10, pv10, w1v10, w2v10, xv10, hBf9⟩
          · have hG := hBf9.2.2.2
            rw [htf9] at hG
            have hn17 : kq9 < 17 := Nat.lt_succ_of_le hk9.2.2.1
            have yv10 : iv (-1) (-1) f9 := ⟨by omega, by omega⟩
            refine lv_iconst (v := (-1)) X.1 X.2.1 dX12_text_48 (by decide +kernel) ?_
            refine lv_icmp_eq (tgt := 54) X.1 X.2.1 dX12_text_49 (by decide) (fun c11 => ?_) (fun c11 => ?_)
            · refine lv_aload_n X.1 X.2.1 dX12_text_54 rfl (lv_at hl 0 rfl) ?_
              refine gf_X12_6j X hK hG h0 wl_6_184 dX12_text_55 (fun f12 hf12 pf12 kf12 => ?_)
              refine lv_istore_n (lv' := [(2, .int f12), (0, .ref a0), (1, .int x1)]) X.1 X.2.1 dX12_text_58 rfl hl (by decide) rfl (fun ls hl => ?_)
              refine lv_aload_n X.1 X.2.1 dX12_text_59 rfl (lv_at hl 1 rfl) ?_
              refine lv_iconst (v := 0) X.1 X.2.1 dX12_text_60 (by decide +kernel) ?_
              have hG := kq_st hG
              refine pf_X12_6qj X hK hG hS h0 wl_6_184 (iv_of (iv_c 0 (a := 0) (b := 0) (by decide +kernel)) (a' := 0) (b' := 240) (by decide +kernel)) dX12_text_61 (fun H locs hG hS => ?_)
              refine lv_iload_n X.1 X.2.1 dX12_text_64 rfl (lv_at hl 2 rfl) ?_
              refine lv_iconst (v := 1) X.1 X.2.1 dX12_text_65 (by decide +kernel) ?_
              refine lv_icmp_ne (tgt := 130) X.1 X.2.1 dX12_text_66 (by decide) (fun c13 => ?_) (fun c13 => ?_)
              · refine lv_iload_n X.1 X.2.1 dX12_text_130 rfl (lv_at hl 2 rfl) ?_
                refine lv_iconst (v := 2) X.1 X.2.1 dX12_text_131 (by decide +kernel) ?_
                refine lv_icmp_ne (tgt := 205) X.1 X.2.1 dX12_text_132 (by decide) (fun c14 => ?_) (fun c14 => ?_)
                · exact ((c14 (iv_one h1 (iv_c 2 (a := 2) (b := 2) (by decide +kernel)) (by decide +kernel)))).elim
                · refine lv_iconst (v := 0) X.1 X.2.1 dX12_text_135 (by decide +kernel) ?_
                  refine lv_istore_n (lv' := [(3, .int 0), (2, .int f12), (0, .ref a0), (1, .int x1)]) X.1 X.2.1 dX12_text_136 rfl hl (by decide) rfl (fun ls hl => ?_)
                  have B15_137 : ∀ (N : Nat) (H : Heap) (locs : List Loc) (ls : Array Slot) (z15_3 : Int32) (G15 : Nat → Int), sgG (KQ fq9 cq9 (sgGs (sgSt P (sgT1 P) (sgL1 P) (sgT2 P) (0 : Int32).toInt) G15 (sgGl (sgSt P (sgT1 P) (sgL1 P) (sgT2 P) (0 : Int32).toInt)))) D vwCl (fun q : Nat => base ≤ q) tys ad ks H → va_S (fun q : Nat => base ≤ q) s.heap H locs → lv_has ls 4 [(0, .ref a0), (3, .int z15_3)] → iv 0 64 z15_3 → (gCp (sgG0 P) G15 fq9 P.2.2.2.2.2.2.2.2.2.1.val (z15_3 : Int32).toInt) → (65 - z15_3.toInt).toNat ≤ N → W p l e (headSpec (Cond.code yX12_text cX12_text 4 (some .int) :: sg_tbl) ({ frames := 33, cells := 0, slots := 0, locals := 767 })).room s m #[.ref a0, .int x1] below meth c H locs 0 0 (MQ below (va_Qi (fun r (u : Int32) => u = r ∧ (fun r : Int32 => True) r) (fun u t => ∃ P1 : sgPm, sgKeep P P1 ∧ sgPin P1 = none ∧ sgSd2 P P1 ∧ sgGm P1 = sgGm P ∧ (((P.2.2.2.2.2.2.2.2.2.1.val < 4 ∧ (∃ a1 : Int, vGame (sgU2 P) (sgL2 P) = (true, a1))) ∧ sgEf2 0 0 1 P P1 ∧ sgLs P P1 ∧ sgTo2 P P1 ∧ u.toInt = (P.2.2.2.2.2.2.2.2.2.1.val : Int)) ∨ (¬ (P.2.2.2.2.2.2.2.2.2.1.val < 4 ∧ (∃ a1 : Int, vGame (sgU2 P) (sgL2 P) = (true, a1))) ∧ sgEf2 (sgL2 P) 0 0 P P1 ∧ sgLs P P1 ∧ sgGk P P1 ∧ u.toInt = -1)) ∧ sgB (KT P1) D vwCl base tys ad ks t) (fun q : Nat => base ≤ q)) #[.ref a0, .int x1] s 0 0 (fun q : Nat => base ≤ q)) (F0 m 137 ls []) := by
                    intro N; induction N with
                    | zero =>
                      intro H locs ls z15_3 G15 hG hS hl hz15_3 xf15 hN
                      exact absurd hN (by have := iv_up hz15_3; omega)
                    | succ N ih15 =>
                      intro H locs ls z15_3 G15 hG hS hl hz15_3 xf15 hN15
                      refine lv_iload_n X.1 X.2.1 dX12_text_137 rfl (lv_at hl 1 rfl) ?_
                      refine lv_bipush (v := 64) X.1 X.2.1 dX12_text_138 (by decide +kernel) ?_
                      refine lv_icmp_ge (tgt := 173) X.1 X.2.1 dX12_text_140 (by decide) (fun c16 => ?_) (fun c16 => ?_)
                      · refine lv_aload_n X.1 X.2.1 dX12_text_173 rfl (lv_at hl 0 rfl) ?_
                        refine gf_X12_22j X hK hG h0 wl_6_200 dX12_text_174 (fun q17 hq17 kq17 => ?_)
                        refine lv_aload_n X.1 X.2.1 dX12_text_177 rfl (lv_at hl 0 rfl) ?_
                        refine gf_X12_29j X hK hG h0 wl_6_207 dX12_text_178 (fun f18 hf18 pf18 kf18 => ?_)
                        refine lv_aload_n X.1 X.2.1 dX12_text_181 rfl (lv_at hl 0 rfl) ?_
                        refine gg_X12_22j X hK hG h0 wl_6_200 kq17 dX12_text_182 ?_
                        refine lv_iconst (v := 4) X.1 X.2.1 dX12_text_185 (by decide +kernel) ?_
                        refine al_53j X hK hG hq17 (iv_vpin (iv_c 4 (a := 4) (b := 4) (by decide +kernel)) (by decide +kernel)) dX12_text_186 (fun f19 hf19 => ?_)
                        have of19 := hf19
                        have hf19 : iv 0 16 f19 := sg_glr (gl_gl hf19)
                        have hx17 : f19.toInt = (((⟨kq9, hn17⟩ : Fin 17).val : Nat) : Int) := glq_rd of19 (sg_cl (iv_c 4 (a := 4) (b := 4) (by decide +kernel)) (by decide)) hk9.2.2.1 hc9
                        refine as_53Q (P := (sgSt P (sgT1 P) (sgL1 P) (sgT2 P) (0 : Int32).toInt)) (G := G15) (gl := sgGl (sgSt P (sgT1 P) (sgL1 P) (sgT2 P) (0 : Int32).toInt)) (n := (⟨kq9, hn17⟩ : Fin 17)) X hK hG hS hq17 (iv_vpin (sg_pin3 pf7 (iv_ne_hi (b' := 3) c8 hf7 (by decide +kernel)) pf18) (by decide +kernel)) (sg_lt4 (sg_pin3 pf7 (iv_ne_hi (b' := 3) c8 hf7 (by decide +kernel)) pf18) (by decide +kernel)) hx17 dX12_text_187 (fun H locs hG hS => ?_)
                        have hG := kq_toKT hG
                        refine lv_aload_n X.1 X.2.1 dX12_text_188 rfl (lv_at hl 0 rfl) ?_
                        refine lv_dup X.1 X.2.1 dX12_text_189 rfl ?_
                        refine gf_X12_29 X hK hG h0 wl_6_207 dX12_text_190 (fun f22 hf22 pf22 kf22 => ?_)
                        refine lv_iconst (v := 1) X.1 X.2.1 dX12_text_193 (by decide +kernel) ?_
                        refine lv_iadd X.1 X.2.1 dX12_text_194 ?_
                        refine lv_topi (fun f23 ef23 => ?_)
                        obtain ⟨n24, hn24⟩ := sg_pin pf7 (iv_ne_hi (b' := 3) c8 hf7 (by decide +kernel)) pf22 ef23
                        refine pf_X12_29p X hK hG hS h0 wl_6_207 (n := n24) (sg_pinv hn24) dX12_text_195 (fun H locs hG hS => ?_)
                        refine lv_aload_n X.1 X.2.1 dX12_text_198 rfl (lv_at hl 0 rfl) ?_
                        refine gf_X12_29 X hK hG h0 wl_6_207 dX12_text_199 (fun f25 hf25 pf25 kf25 => ?_)
                        refine lv_iconst (v := 1) X.1 X.2.1 dX12_text_202 (by decide +kernel) ?_
                        refine lv_isub X.1 X.2.1 dX12_text_203 ?_
                        refine lv_topi (fun f26 ef26 => ?_)
                        have hsd : sgSd2 P ((sgGs (sgSt P (sgT1 P) (sgL1 P) (sgT2 P) (0 : Int32).toInt) G15 (fun j => if j = (f18 : Int32).toNatClampNeg then (⟨kq9, hn17⟩ : Fin 17) else sgGl (sgSt P (sgT1 P) (sgL1 P) (sgT2 P) (0 : Int32).toInt) j)).1, (sgGs (sgSt P (sgT1 P) (sgL1 P) (sgT2 P) (0 : Int32).toInt) G15 (fun j => if j = (f18 : Int32).toNatClampNeg then (⟨kq9, hn17⟩ : Fin 17) else sgGl (sgSt P (sgT1 P) (sgL1 P) (sgT2 P) (0 : Int32).toInt) j)).2.1, (sgGs (sgSt P (sgT1 P) (sgL1 P) (sgT2 P) (0 : Int32).toInt) G15 (fun j => if j = (f18 : Int32).toNatClampNeg then (⟨kq9, hn17⟩ : Fin 17) else sgGl (sgSt P (sgT1 P) (sgL1 P) (sgT2 P) (0 : Int32).toInt) j)).2.2.1, (sgGs (sgSt P (sgT1 P) (sgL1 P) (sgT2 P) (0 : Int32).toInt) G15 (fun j => if j = (f18 : Int32).toNatClampNeg then (⟨kq9, hn17⟩ : Fin 17) else sgGl (sgSt P (sgT1 P) (sgL1 P) (sgT2 P) (0 : Int32).toInt) j)).2.2.2.1, (sgGs (sgSt P (sgT1 P) (sgL1 P) (sgT2 P) (0 : Int32).toInt) G15 (fun j => if j = (f18 : Int32).toNatClampNeg then (⟨kq9, hn17⟩ : Fin 17) else sgGl (sgSt P (sgT1 P) (sgL1 P) (sgT2 P) (0 : Int32).toInt) j)).2.2.2.2.1, (sgGs (sgSt P (sgT1 P) (sgL1 P) (sgT2 P) (0 : Int32).toInt) G15 (fun j => if j = (f18 : Int32).toNatClampNeg then (⟨kq9, hn17⟩ : Fin 17) else sgGl (sgSt P (sgT1 P) (sgL1 P) (sgT2 P) (0 : Int32).toInt) j)).2.2.2.2.2.1, (sgGs (sgSt P (sgT1 P) (sgL1 P) (sgT2 P) (0 : Int32).toInt) G15 (fun j => if j = (f18 : Int32).toNatClampNeg then (⟨kq9, hn17⟩ : Fin 17) else sgGl (sgSt P (sgT1 P) (sgL1 P) (sgT2 P) (0 : Int32).toInt) j)).2.2.2.2.2.2.1, (sgGs (sgSt P (sgT1 P) (sgL1 P) (sgT2 P) (0 : Int32).toInt) G15 (fun j => if j = (f18 : Int32).toNatClampNeg then (⟨kq9, hn17⟩ : Fin 17) else sgGl (sgSt P (sgT1 P) (sgL1 P) (sgT2 P) (0 : Int32).toInt) j)).2.2.2.2.2.2.2.1, (sgGs (sgSt P (sgT1 P) (sgL1 P) (sgT2 P) (0 : Int32).toInt) G15 (fun j => if j = (f18 : Int32).toNatClampNeg then (⟨kq9, hn17⟩ : Fin 17) else sgGl (sgSt P (sgT1 P) (sgL1 P) (sgT2 P) (0 : Int32).toInt) j)).2.2.2.2.2.2.2.2.1, n24, (sgGs (sgSt P (sgT1 P) (sgL1 P) (sgT2 P) (0 : Int32).toInt) G15 (fun j => if j = (f18 : Int32).toNatClampNeg then (⟨kq9, hn17⟩ : Fin 17) else sgGl (sgSt P (sgT1 P) (sgL1 P) (sgT2 P) (0 : Int32).toInt) j)).2.2.2.2.2.2.2.2.2.2) := (by have z0 : (0 : Int32).toInt = 0 := (by decide +kernel); simp only [sgSd2, sgT1, sgL1, sgT2, sgL2, sgTp, sgSt, sgLw, sgGs, sgN, sgPl, sgG0, sgGl, sgRw, sgW, sgNc, sgPin, z0, Nat.add_zero, Nat.le_refl, Nat.le_add_right, and_self, true_and, and_true])
                        have z1 := (sg_pinS pf22 ef23 hn24)
                        have hef : sgEf2 0 0 1 P ((sgGs (sgSt P (sgT1 P) (sgL1 P) (sgT2 P) (0 : Int32).toInt) G15 (fun j => if j = (f18 : Int32).toNatClampNeg then (⟨kq9, hn17⟩ : Fin 17) else sgGl (sgSt P (sgT1 P) (sgL1 P) (sgT2 P) (0 : Int32).toInt) j)).1, (sgGs (sgSt P (sgT1 P) (sgL1 P) (sgT2 P) (0 : Int32).toInt) G15 (fun j => if j = (f18 : Int32).toNatClampNeg then (⟨kq9, hn17⟩ : Fin 17) else sgGl (sgSt P (sgT1 P) (sgL1 P) (sgT2 P) (0 : Int32).toInt) j)).2.1, (sgGs (sgSt P (sgT1 P) (sgL1 P) (sgT2 P) (0 : Int32).toInt) G15 (fun j => if j = (f18 : Int32).toNatClampNeg then (⟨kq9, hn17⟩ : Fin 17) else sgGl (sgSt P (sgT1 P) (sgL1 P) (sgT2 P) (0 : Int32).toInt) j)).2.2.1, (sgGs (sgSt P (sgT1 P) (sgL1 P) (sgT2 P) (0 : Int32).toInt) G15 (fun j => if j = (f18 : Int32).toNatClampNeg then (⟨kq9, hn17⟩ : Fin 17) else sgGl (sgSt P (sgT1 P) (sgL1 P) (sgT2 P) (0 : Int32).toInt) j)).2.2.2.1, (sgGs (sgSt P (sgT1 P) (sgL1 P) (sgT2 P) (0 : Int32).toInt) G15 (fun j => if j = (f18 : Int32).toNatClampNeg then (⟨kq9, hn17⟩ : Fin 17) else sgGl (sgSt P (sgT1 P) (sgL1 P) (sgT2 P) (0 : Int32).toInt) j)).2.2.2.2.1, (sgGs (sgSt P (sgT1 P) (sgL1 P) (sgT2 P) (0 : Int32).toInt) G15 (fun j => if j = (f18 : Int32).toNatClampNeg then (⟨kq9, hn17⟩ : Fin 17) else sgGl (sgSt P (sgT1 P) (sgL1 P) (sgT2 P) (0 : Int32).toInt) j)).2.2.2.2.2.1, (sgGs (sgSt P (sgT1 P) (sgL1 P) (sgT2 P) (0 : Int32).toInt) G15 (fun j => if j = (f18 : Int32).toNatClampNeg then (⟨kq9, hn17⟩ : Fin 17) else sgGl (sgSt P (sgT1 P) (sgL1 P) (sgT2 P) (0 : Int32).toInt) j)).2.2.2.2.2.2.1, (sgGs (sgSt P (sgT1 P) (sgL1 P) (sgT2 P) (0 : Int32).toInt) G15 (fun j => if j = (f18 : Int32).toNatClampNeg then (⟨kq9, hn17⟩ : Fin 17) else sgGl (sgSt P (sgT1 P) (sgL1 P) (sgT2 P) (0 : Int32).toInt) j)).2.2.2.2.2.2.2.1, (sgGs (sgSt P (sgT1 P) (sgL1 P) (sgT2 P) (0 : Int32).toInt) G15 (fun j => if j = (f18 : Int32).toNatClampNeg then (⟨kq9, hn17⟩ : Fin 17) else sgGl (sgSt P (sgT1 P) (sgL1 P) (sgT2 P) (0 : Int32).toInt) j)).2.2.2.2.2.2.2.2.1, n24, (sgGs (sgSt P (sgT1 P) (sgL1 P) (sgT2 P) (0 : Int32).toInt) G15 (fun j => if j = (f18 : Int32).toNatClampNeg then (⟨kq9, hn17⟩ : Fin 17) else sgGl (sgSt P (sgT1 P) (sgL1 P) (sgT2 P) (0 : Int32).toInt) j)).2.2.2.2.2.2.2.2.2.2) := (by have z0 : (0 : Int32).toInt = 0 := (by decide +kernel); simp only [sgEf2, sgT1, sgL1, sgT2, sgL2, sgTp, sgSt, sgLw, sgGs, sgN, sgPl, sgG0, sgGl, sgRw, sgW, sgNc, sgPin, z0, Nat.add_zero, Nat.le_refl, Nat.le_add_right, and_self, true_and, and_true, z1])
                        have hkp : sgKeep P ((sgGs (sgSt P (sgT1 P) (sgL1 P) (sgT2 P) (0 : Int32).toInt) G15 (fun j => if j = (f18 : Int32).toNatClampNeg then (⟨kq9, hn17⟩ : Fin 17) else sgGl (sgSt P (sgT1 P) (sgL1 P) (sgT2 P) (0 : Int32).toInt) j)).1, (sgGs (sgSt P (sgT1 P) (sgL1 P) (sgT2 P) (0 : Int32).toInt) G15 (fun j => if j = (f18 : Int32).toNatClampNeg then (⟨kq9, hn17⟩ : Fin 17) else sgGl (sgSt P (sgT1 P) (sgL1 P) (sgT2 P) (0 : Int32).toInt) j)).2.1, (sgGs (sgSt P (sgT1 P) (sgL1 P) (sgT2 P) (0 : Int32).toInt) G15 (fun j => if j = (f18 : Int32).toNatClampNeg then (⟨kq9, hn17⟩ : Fin 17) else sgGl (sgSt P (sgT1 P) (sgL1 P) (sgT2 P) (0 : Int32).toInt) j)).2.2.1, (sgGs (sgSt P (sgT1 P) (sgL1 P) (sgT2 P) (0 : Int32).toInt) G15 (fun j => if j = (f18 : Int32).toNatClampNeg then (⟨kq9, hn17⟩ : Fin 17) else sgGl (sgSt P (sgT1 P) (sgL1 P) (sgT2 P) (0 : Int32).toInt) j)).2.2.2.1, (sgGs (sgSt P (sgT1 P) (sgL1 P) (sgT2 P) (0 : Int32).toInt) G15 (fun j => if j = (f18 : Int32).toNatClampNeg then (⟨kq9, hn17⟩ : Fin 17) else sgGl (sgSt P (sgT1 P) (sgL1 P) (sgT2 P) (0 : Int32).toInt) j)).2.2.2.2.1, (sgGs (sgSt P (sgT1 P) (sgL1 P) (sgT2 P) (0 : Int32).toInt) G15 (fun j => if j = (f18 : Int32).toNatClampNeg then (⟨kq9, hn17⟩ : Fin 17) else sgGl (sgSt P (sgT1 P) (sgL1 P) (sgT2 P) (0 : Int32).toInt) j)).2.2.2.2.2.1, (sgGs (sgSt P (sgT1 P) (sgL1 P) (sgT2 P) (0 : Int32).toInt) G15 (fun j => if j = (f18 : Int32).toNatClampNeg then (⟨kq9, hn17⟩ : Fin 17) else sgGl (sgSt P (sgT1 P) (sgL1 P) (sgT2 P) (0 : Int32).toInt) j)).2.2.2.2.2.2.1, (sgGs (sgSt P (sgT1 P) (sgL1 P) (sgT2 P) (0 : Int32).toInt) G15 (fun j => if j = (f18 : Int32).toNatClampNeg then (⟨kq9, hn17⟩ : Fin 17) else sgGl (sgSt P (sgT1 P) (sgL1 P) (sgT2 P) (0 : Int32).toInt) j)).2.2.2.2.2.2.2.1, (sgGs (sgSt P (sgT1 P) (sgL1 P) (sgT2 P) (0 : Int32).toInt) G15 (fun j => if j = (f18 : Int32).toNatClampNeg then (⟨kq9, hn17⟩ : Fin 17) else sgGl (sgSt P (sgT1 P) (sgL1 P) (sgT2 P) (0 : Int32).toInt) j)).2.2.2.2.2.2.2.2.1, n24, (sgGs (sgSt P (sgT1 P) (sgL1 P) (sgT2 P) (0 : Int32).toInt) G15 (fun j => if j = (f18 : Int32).toNatClampNeg then (⟨kq9, hn17⟩ : Fin 17) else sgGl (sgSt P (sgT1 P) (sgL1 P) (sgT2 P) (0 : Int32).toInt) j)).2.2.2.2.2.2.2.2.2.2) := (by have z0 : (0 : Int32).toInt = 0 := (by decide +kernel); simp only [sgKeep, sgT1, sgL1, sgT2, sgL2, sgTp, sgSt, sgLw, sgGs, sgN, sgPl, sgG0, sgGl, sgRw, sgW, sgNc, sgPin, z0, Nat.add_zero, Nat.le_refl, Nat.le_add_right, and_self, true_and, and_true])
                        have hpn : sgPin ((sgGs (sgSt P (sgT1 P) (sgL1 P) (sgT2 P) (0 : Int32).toInt) G15 (fun j => if j = (f18 : Int32).toNatClampNeg then (⟨kq9, hn17⟩ : Fin 17) else sgGl (sgSt P (sgT1 P) (sgL1 P) (sgT2 P) (0 : Int32).toInt) j)).1, (sgGs (sgSt P (sgT1 P) (sgL1 P) (sgT2 P) (0 : Int32).toInt) G15 (fun j => if j = (f18 : Int32).toNatClampNeg then (⟨kq9, hn17⟩ : Fin 17) else sgGl (sgSt P (sgT1 P) (sgL1 P) (sgT2 P) (0 : Int32).toInt) j)).2.1, (sgGs (sgSt P (sgT1 P) (sgL1 P) (sgT2 P) (0 : Int32).toInt) G15 (fun j => if j = (f18 : Int32).toNatClampNeg then (⟨kq9, hn17⟩ : Fin 17) else sgGl (sgSt P (sgT1 P) (sgL1 P) (sgT2 P) (0 : Int32).toInt) j)).2.2.1, (sgGs (sgSt P (sgT1 P) (sgL1 P) (sgT2 P) (0 : Int32).toInt) G15 (fun j => if j = (f18 : Int32).toNatClampNeg then (⟨kq9, hn17⟩ : Fin 17) else sgGl (sgSt P (sgT1 P) (sgL1 P) (sgT2 P) (0 : Int32).toInt) j)).2.2.2.1, (sgGs (sgSt P (sgT1 P) (sgL1 P) (sgT2 P) (0 : Int32).toInt) G15 (fun j => if j = (f18 : Int32).toNatClampNeg then (⟨kq9, hn17⟩ : Fin 17) else sgGl (sgSt P (sgT1 P) (sgL1 P) (sgT2 P) (0 : Int32).toInt) j)).2.2.2.2.1, (sgGs (sgSt P (sgT1 P) (sgL1 P) (sgT2 P) (0 : Int32).toInt) G15 (fun j => if j = (f18 : Int32).toNatClampNeg then (⟨kq9, hn17⟩ : Fin 17) else sgGl (sgSt P (sgT1 P) (sgL1 P) (sgT2 P) (0 : Int32).toInt) j)).2.2.2.2.2.1, (sgGs (sgSt P (sgT1 P) (sgL1 P) (sgT2 P) (0 : Int32).toInt) G15 (fun j => if j = (f18 : Int32).toNatClampNeg then (⟨kq9, hn17⟩ : Fin 17) else sgGl (sgSt P (sgT1 P) (sgL1 P) (sgT2 P) (0 : Int32).toInt) j)).2.2.2.2.2.2.1, (sgGs (sgSt P (sgT1 P) (sgL1 P) (sgT2 P) (0 : Int32).toInt) G15 (fun j => if j = (f18 : Int32).toNatClampNeg then (⟨kq9, hn17⟩ : Fin 17) else sgGl (sgSt P (sgT1 P) (sgL1 P) (sgT2 P) (0 : Int32).toInt) j)).2.2.2.2.2.2.2.1, (sgGs (sgSt P (sgT1 P) (sgL1 P) (sgT2 P) (0 : Int32).toInt) G15 (fun j => if j = (f18 : Int32).toNatClampNeg then (⟨kq9, hn17⟩ : Fin 17) else sgGl (sgSt P (sgT1 P) (sgL1 P) (sgT2 P) (0 : Int32).toInt) j)).2.2.2.2.2.2.2.2.1, n24, (sgGs (sgSt P (sgT1 P) (sgL1 P) (sgT2 P) (0 : Int32).toInt) G15 (fun j => if j = (f18 : Int32).toNatClampNeg then (⟨kq9, hn17⟩ : Fin 17) else sgGl (sgSt P (sgT1 P) (sgL1 P) (sgT2 P) (0 : Int32).toInt) j)).2.2.2.2.2.2.2.2.2.2) = none := (by have z0 : (0 : Int32).toInt = 0 := (by decide +kernel); simp only [sgT1, sgL1, sgT2, sgL2, sgTp, sgSt, sgLw, sgGs, sgN, sgPl, sgG0, sgGl, sgRw, sgW, sgNc, sgPin, z0, Nat.add_zero, Nat.le_refl, Nat.le_add_right, and_self, true_and, and_true]; exact hp10)
                        have hgm : sgGm ((sgGs (sgSt P (sgT1 P) (sgL1 P) (sgT2 P) (0 : Int32).toInt) G15 (fun j => if j = (f18 : Int32).toNatClampNeg then (⟨kq9, hn17⟩ : Fin 17) else sgGl (sgSt P (sgT1 P) (sgL1 P) (sgT2 P) (0 : Int32).toInt) j)).1, (sgGs (sgSt P (sgT1 P) (sgL1 P) (sgT2 P) (0 : Int32).toInt) G15 (fun j => if j = (f18 : Int32).toNatClampNeg then (⟨kq9, hn17⟩ : Fin 17) else sgGl (sgSt P (sgT1 P) (sgL1 P) (sgT2 P) (0 : Int32).toInt) j)).2.1, (sgGs (sgSt P (sgT1 P) (sgL1 P) (sgT2 P) (0 : Int32).toInt) G15 (fun j => if j = (f18 : Int32).toNatClampNeg then (⟨kq9, hn17⟩ : Fin 17) else sgGl (sgSt P (sgT1 P) (sgL1 P) (sgT2 P) (0 : Int32).toInt) j)).2.2.1, (sgGs (sgSt P (sgT1 P) (sgL1 P) (sgT2 P) (0 : Int32).toInt) G15 (fun j => if j = (f18 : Int32).toNatClampNeg then (⟨kq9, hn17⟩ : Fin 17) else sgGl (sgSt P (sgT1 P) (sgL1 P) (sgT2 P) (0 : Int32).toInt) j)).2.2.2.1, (sgGs (sgSt P (sgT1 P) (sgL1 P) (sgT2 P) (0 : Int32).toInt) G15 (fun j => if j = (f18 : Int32).toNatClampNeg then (⟨kq9, hn17⟩ : Fin 17) else sgGl (sgSt P (sgT1 P) (sgL1 P) (sgT2 P) (0 : Int32).toInt) j)).2.2.2.2.1, (sgGs (sgSt P (sgT1 P) (sgL1 P) (sgT2 P) (0 : Int32).toInt) G15 (fun j => if j = (f18 : Int32).toNatClampNeg then (⟨kq9, hn17⟩ : Fin 17) else sgGl (sgSt P (sgT1 P) (sgL1 P) (sgT2 P) (0 : Int32).toInt) j)).2.2.2.2.2.1, (sgGs (sgSt P (sgT1 P) (sgL1 P) (sgT2 P) (0 : Int32).toInt) G15 (fun j => if j = (f18 : Int32).toNatClampNeg then (⟨kq9, hn17⟩ : Fin 17) else sgGl (sgSt P (sgT1 P) (sgL1 P) (sgT2 P) (0 : Int32).toInt) j)).2.2.2.2.2.2.1, (sgGs (sgSt P (sgT1 P) (sgL1 P) (sgT2 P) (0 : Int32).toInt) G15 (fun j => if j = (f18 : Int32).toNatClampNeg then (⟨kq9, hn17⟩ : Fin 17) else sgGl (sgSt P (sgT1 P) (sgL1 P) (sgT2 P) (0 : Int32).toInt) j)).2.2.2.2.2.2.2.1, (sgGs (sgSt P (sgT1 P) (sgL1 P) (sgT2 P) (0 : Int32).toInt) G15 (fun j => if j = (f18 : Int32).toNatClampNeg then (⟨kq9, hn17⟩ : Fin 17) else sgGl (sgSt P (sgT1 P) (sgL1 P) (sgT2 P) (0 : Int32).toInt) j)).2.2.2.2.2.2.2.2.1, n24, (sgGs (sgSt P (sgT1 P) (sgL1 P) (sgT2 P) (0 : Int32).toInt) G15 (fun j => if j = (f18 : Int32).toNatClampNeg then (⟨kq9, hn17⟩ : Fin 17) else sgGl (sgSt P (sgT1 P) (sgL1 P) (sgT2 P) (0 : Int32).toInt) j)).2.2.2.2.2.2.2.2.2.2) = sgGm P := (by have z0 : (0 : Int32).toInt = 0 := (by decide +kernel); simp only [sgGm, sgT1, sgL1, sgT2, sgL2, sgTp, sgSt, sgLw, sgGs, sgN, sgPl, sgG0, sgGl, sgRw, sgW, sgNc, sgPin, z0, Nat.add_zero, Nat.le_refl, Nat.le_add_right, and_self, true_and, and_true])
                        have hls : sgLs P ((sgGs (sgSt P (sgT1 P) (sgL1 P) (sgT2 P) (0 : Int32).toInt) G15 (fun j => if j = (f18 : Int32).toNatClampNeg then (⟨kq9, hn17⟩ : Fin 17) else sgGl (sgSt P (sgT1 P) (sgL1 P) (sgT2 P) (0 : Int32).toInt) j)).1, (sgGs (sgSt P (sgT1 P) (sgL1 P) (sgT2 P) (0 : Int32).toInt) G15 (fun j => if j = (f18 : Int32).toNatClampNeg then (⟨kq9, hn17⟩ : Fin 17) else sgGl (sgSt P (sgT1 P) (sgL1 P) (sgT2 P) (0 : Int32).toInt) j)).2.1, (sgGs (sgSt P (sgT1 P) (sgL1 P) (sgT2 P) (0 : Int32).toInt) G15 (fun j => if j = (f18 : Int32).toNatClampNeg then (⟨kq9, hn17⟩ : Fin 17) else sgGl (sgSt P (sgT1 P) (sgL1 P) (sgT2 P) (0 : Int32).toInt) j)).2.2.1, (sgGs (sgSt P (sgT1 P) (sgL1 P) (sgT2 P) (0 : Int32).toInt) G15 (fun j => if j = (f18 : Int32).toNatClampNeg then (⟨kq9, hn17⟩ : Fin 17) else sgGl (sgSt P (sgT1 P) (sgL1 P) (sgT2 P) (0 : Int32).toInt) j)).2.2.2.1, (sgGs (sgSt P (sgT1 P) (sgL1 P) (sgT2 P) (0 : Int32).toInt) G15 (fun j => if j = (f18 : Int32).toNatClampNeg then (⟨kq9, hn17⟩ : Fin 17) else sgGl (sgSt P (sgT1 P) (sgL1 P) (sgT2 P) (0 : Int32).toInt) j)).2.2.2.2.1, (sgGs (sgSt P (sgT1 P) (sgL1 P) (sgT2 P) (0 : Int32).toInt) G15 (fun j => if j = (f18 : Int32).toNatClampNeg then (⟨kq9, hn17⟩ : Fin 17) else sgGl (sgSt P (sgT1 P) (sgL1 P) (sgT2 P) (0 : Int32).toInt) j)).2.2.2.2.2.1, (sgGs (sgSt P (sgT1 P) (sgL1 P) (sgT2 P) (0 : Int32).toInt) G15 (fun j => if j = (f18 : Int32).toNatClampNeg then (⟨kq9, hn17⟩ : Fin 17) else sgGl (sgSt P (sgT1 P) (sgL1 P) (sgT2 P) (0 : Int32).toInt) j)).2.2.2.2.2.2.1, (sgGs (sgSt P (sgT1 P) (sgL1 P) (sgT2 P) (0 : Int32).toInt) G15 (fun j => if j = (f18 : Int32).toNatClampNeg then (⟨kq9, hn17⟩ : Fin 17) else sgGl (sgSt P (sgT1 P) (sgL1 P) (sgT2 P) (0 : Int32).toInt) j)).2.2.2.2.2.2.2.1, (sgGs (sgSt P (sgT1 P) (sgL1 P) (sgT2 P) (0 : Int32).toInt) G15 (fun j => if j = (f18 : Int32).toNatClampNeg then (⟨kq9, hn17⟩ : Fin 17) else sgGl (sgSt P (sgT1 P) (sgL1 P) (sgT2 P) (0 : Int32).toInt) j)).2.2.2.2.2.2.2.2.1, n24, (sgGs (sgSt P (sgT1 P) (sgL1 P) (sgT2 P) (0 : Int32).toInt) G15 (fun j => if j = (f18 : Int32).toNatClampNeg then (⟨kq9, hn17⟩ : Fin 17) else sgGl (sgSt P (sgT1 P) (sgL1 P) (sgT2 P) (0 : Int32).toInt) j)).2.2.2.2.2.2.2.2.2.2) := (by have z0 : (0 : Int32).toInt = 0 := (by decide +kernel); simp only [sgLs, sgT1, sgL1, sgT2, sgL2, sgTp, sgSt, sgLw, sgGs, sgN, sgPl, sgG0, sgGl, sgRw, sgW, sgNc, sgPin, z0, Nat.add_zero, Nat.le_refl, Nat.le_add_right, and_self, true_and, and_true])
                        have hg0 : sgG0 ((sgGs (sgSt P (sgT1 P) (sgL1 P) (sgT2 P) (0 : Int32).toInt) G15 (fun j => if j = (f18 : Int32).toNatClampNeg then (⟨kq9, hn17⟩ : Fin 17) else sgGl (sgSt P (sgT1 P) (sgL1 P) (sgT2 P) (0 : Int32).toInt) j)).1, (sgGs (sgSt P (sgT1 P) (sgL1 P) (sgT2 P) (0 : Int32).toInt) G15 (fun j => if j = (f18 : Int32).toNatClampNeg then (⟨kq9, hn17⟩ : Fin 17) else sgGl (sgSt P (sgT1 P) (sgL1 P) (sgT2 P) (0 : Int32).toInt) j)).2.1, (sgGs (sgSt P (sgT1 P) (sgL1 P) (sgT2 P) (0 : Int32).toInt) G15 (fun j => if j = (f18 : Int32).toNatClampNeg then (⟨kq9, hn17⟩ : Fin 17) else sgGl (sgSt P (sgT1 P) (sgL1 P) (sgT2 P) (0 : Int32).toInt) j)).2.2.1, (sgGs (sgSt P (sgT1 P) (sgL1 P) (sgT2 P) (0 : Int32).toInt) G15 (fun j => if j = (f18 : Int32).toNatClampNeg then (⟨kq9, hn17⟩ : Fin 17) else sgGl (sgSt P (sgT1 P) (sgL1 P) (sgT2 P) (0 : Int32).toInt) j)).2.2.2.1, (sgGs (sgSt P (sgT1 P) (sgL1 P) (sgT2 P) (0 : Int32).toInt) G15 (fun j => if j = (f18 : Int32).toNatClampNeg then (⟨kq9, hn17⟩ : Fin 17) else sgGl (sgSt P (sgT1 P) (sgL1 P) (sgT2 P) (0 : Int32).toInt) j)).2.2.2.2.1, (sgGs (sgSt P (sgT1 P) (sgL1 P) (sgT2 P) (0 : Int32).toInt) G15 (fun j => if j = (f18 : Int32).toNatClampNeg then (⟨kq9, hn17⟩ : Fin 17) else sgGl (sgSt P (sgT1 P) (sgL1 P) (sgT2 P) (0 : Int32).toInt) j)).2.2.2.2.2.1, (sgGs (sgSt P (sgT1 P) (sgL1 P) (sgT2 P) (0 : Int32).toInt) G15 (fun j => if j = (f18 : Int32).toNatClampNeg then (⟨kq9, hn17⟩ : Fin 17) else sgGl (sgSt P (sgT1 P) (sgL1 P) (sgT2 P) (0 : Int32).toInt) j)).2.2.2.2.2.2.1, (sgGs (sgSt P (sgT1 P) (sgL1 P) (sgT2 P) (0 : Int32).toInt) G15 (fun j => if j = (f18 : Int32).toNatClampNeg then (⟨kq9, hn17⟩ : Fin 17) else sgGl (sgSt P (sgT1 P) (sgL1 P) (sgT2 P) (0 : Int32).toInt) j)).2.2.2.2.2.2.2.1, (sgGs (sgSt P (sgT1 P) (sgL1 P) (sgT2 P) (0 : Int32).toInt) G15 (fun j => if j = (f18 : Int32).toNatClampNeg then (⟨kq9, hn17⟩ : Fin 17) else sgGl (sgSt P (sgT1 P) (sgL1 P) (sgT2 P) (0 : Int32).toInt) j)).2.2.2.2.2.2.2.2.1, n24, (sgGs (sgSt P (sgT1 P) (sgL1 P) (sgT2 P) (0 : Int32).toInt) G15 (fun j => if j = (f18 : Int32).toNatClampNeg then (⟨kq9, hn17⟩ : Fin 17) else sgGl (sgSt P (sgT1 P) (sgL1 P) (sgT2 P) (0 : Int32).toInt) j)).2.2.2.2.2.2.2.2.2.2) = G15 := by simp only [sgT1, sgL1, sgT2, sgL2, sgTp, sgSt, sgLw, sgGs, sgN, sgPl, sgG0, sgGl, sgRw, sgW, sgNc, sgPin, Nat.add_zero, Nat.le_refl, Nat.le_add_right, and_self, true_and, and_true]
                        have hgl : sgGl ((sgGs (sgSt P (sgT1 P) (sgL1 P) (sgT2 P) (0 : Int32).toInt) G15 (fun j => if j = (f18 : Int32).toNatClampNeg then (⟨kq9, hn17⟩ : Fin 17) else sgGl (sgSt P (sgT1 P) (sgL1 P) (sgT2 P) (0 : Int32).toInt) j)).1, (sgGs (sgSt P (sgT1 P) (sgL1 P) (sgT2 P) (0 : Int32).toInt) G15 (fun j => if j = (f18 : Int32).toNatClampNeg then (⟨kq9, hn17⟩ : Fin 17) else sgGl (sgSt P (sgT1 P) (sgL1 P) (sgT2 P) (0 : Int32).toInt) j)).2.1, (sgGs (sgSt P (sgT1 P) (sgL1 P) (sgT2 P) (0 : Int32).toInt) G15 (fun j => if j = (f18 : Int32).toNatClampNeg then (⟨kq9, hn17⟩ : Fin 17) else sgGl (sgSt P (sgT1 P) (sgL1 P) (sgT2 P) (0 : Int32).toInt) j)).2.2.1, (sgGs (sgSt P (sgT1 P) (sgL1 P) (sgT2 P) (0 : Int32).toInt) G15 (fun j => if j = (f18 : Int32).toNatClampNeg then (⟨kq9, hn17⟩ : Fin 17) else sgGl (sgSt P (sgT1 P) (sgL1 P) (sgT2 P) (0 : Int32).toInt) j)).2.2.2.1, (sgGs (sgSt P (sgT1 P) (sgL1 P) (sgT2 P) (0 : Int32).toInt) G15 (fun j => if j = (f18 : Int32).toNatClampNeg then (⟨kq9, hn17⟩ : Fin 17) else sgGl (sgSt P (sgT1 P) (sgL1 P) (sgT2 P) (0 : Int32).toInt) j)).2.2.2.2.1, (sgGs (sgSt P (sgT1 P) (sgL1 P) (sgT2 P) (0 : Int32).toInt) G15 (fun j => if j = (f18 : Int32).toNatClampNeg then (⟨kq9, hn17⟩ : Fin 17) else sgGl (sgSt P (sgT1 P) (sgL1 P) (sgT2 P) (0 : Int32).toInt) j)).2.2.2.2.2.1, (sgGs (sgSt P (sgT1 P) (sgL1 P) (sgT2 P) (0 : Int32).toInt) G15 (fun j => if j = (f18 : Int32).toNatClampNeg then (⟨kq9, hn17⟩ : Fin 17) else sgGl (sgSt P (sgT1 P) (sgL1 P) (sgT2 P) (0 : Int32).toInt) j)).2.2.2.2.2.2.1, (sgGs (sgSt P (sgT1 P) (sgL1 P) (sgT2 P) (0 : Int32).toInt) G15 (fun j => if j = (f18 : Int32).toNatClampNeg then (⟨kq9, hn17⟩ : Fin 17) else sgGl (sgSt P (sgT1 P) (sgL1 P) (sgT2 P) (0 : Int32).toInt) j)).2.2.2.2.2.2.2.1, (sgGs (sgSt P (sgT1 P) (sgL1 P) (sgT2 P) (0 : Int32).toInt) G15 (fun j => if j = (f18 : Int32).toNatClampNeg then (⟨kq9, hn17⟩ : Fin 17) else sgGl (sgSt P (sgT1 P) (sgL1 P) (sgT2 P) (0 : Int32).toInt) j)).2.2.2.2.2.2.2.2.1, n24, (sgGs (sgSt P (sgT1 P) (sgL1 P) (sgT2 P) (0 : Int32).toInt) G15 (fun j => if j = (f18 : Int32).toNatClampNeg then (⟨kq9, hn17⟩ : Fin 17) else sgGl (sgSt P (sgT1 P) (sgL1 P) (sgT2 P) (0 : Int32).toInt) j)).2.2.2.2.2.2.2.2.2.2) = (fun j => if j = (f18 : Int32).toNatClampNeg then (⟨kq9, hn17⟩ : Fin 17) else sgGl P j) := by simp only [sgT1, sgL1, sgT2, sgL2, sgTp, sgSt, sgLw, sgGs, sgN, sgPl, sgG0, sgGl, sgRw, sgW, sgNc, sgPin, Nat.add_zero, Nat.le_refl, Nat.le_add_right, and_self, true_and, and_true]
                        have h64 : (64 : Int) ≤ z15_3.toInt := by have z1 := Int32.le_iff_toInt_le.mp c16; have z2 : (64 : Int32).toInt = 64 := (by decide +kernel); omega
                        have hgk : sgTo2 P ((sgGs (sgSt P (sgT1 P) (sgL1 P) (sgT2 P) (0 : Int32).toInt) G15 (fun j => if j = (f18 : Int32).toNatClampNeg then (⟨kq9, hn17⟩ : Fin 17) else sgGl (sgSt P (sgT1 P) (sgL1 P) (sgT2 P) (0 : Int32).toInt) j)).1, (sgGs (sgSt P (sgT1 P) (sgL1 P) (sgT2 P) (0 : Int32).toInt) G15 (fun j => if j = (f18 : Int32).toNatClampNeg then (⟨kq9, hn17⟩ : Fin 17) else sgGl (sgSt P (sgT1 P) (sgL1 P) (sgT2 P) (0 : Int32).toInt) j)).2.1, (sgGs (sgSt P (sgT1 P) (sgL1 P) (sgT2 P) (0 : Int32).toInt) G15 (fun j => if j = (f18 : Int32).toNatClampNeg then (⟨kq9, hn17⟩ : Fin 17) else sgGl (sgSt P (sgT1 P) (sgL1 P) (sgT2 P) (0 : Int32).toInt) j)).2.2.1, (sgGs (sgSt P (sgT1 P) (sgL1 P) (sgT2 P) (0 : Int32).toInt) G15 (fun j => if j = (f18 : Int32).toNatClampNeg then (⟨kq9, hn17⟩ : Fin 17) else sgGl (sgSt P (sgT1 P) (sgL1 P) (sgT2 P) (0 : Int32).toInt) j)).2.2.2.1, (sgGs (sgSt P (sgT1 P) (sgL1 P) (sgT2 P) (0 : Int32).toInt) G15 (fun j => if j = (f18 : Int32).toNatClampNeg then (⟨kq9, hn17⟩ : Fin 17) else sgGl (sgSt P (sgT1 P) (sgL1 P) (sgT2 P) (0 : Int32).toInt) j)).2.2.2.2.1, (sgGs (sgSt P (sgT1 P) (sgL1 P) (sgT2 P) (0 : Int32).toInt) G15 (fun j => if j = (f18 : Int32).toNatClampNeg then (⟨kq9, hn17⟩ : Fin 17) else sgGl (sgSt P (sgT1 P) (sgL1 P) (sgT2 P) (0 : Int32).toInt) j)).2.2.2.2.2.1, (sgGs (sgSt P (sgT1 P) (sgL1 P) (sgT2 P) (0 : Int32).toInt) G15 (fun j => if j = (f18 : Int32).toNatClampNeg then (⟨kq9, hn17⟩ : Fin 17) else sgGl (sgSt P (sgT1 P) (sgL1 P) (sgT2 P) (0 : Int32).toInt) j)).2.2.2.2.2.2.1, (sgGs (sgSt P (sgT1 P) (sgL1 P) (sgT2 P) (0 : Int32).toInt) G15 (fun j => if j = (f18 : Int32).toNatClampNeg then (⟨kq9, hn17⟩ : Fin 17) else sgGl (sgSt P (sgT1 P) (sgL1 P) (sgT2 P) (0 : Int32).toInt) j)).2.2.2.2.2.2.2.1, (sgGs (sgSt P (sgT1 P) (sgL1 P) (sgT2 P) (0 : Int32).toInt) G15 (fun j => if j = (f18 : Int32).toNatClampNeg then (⟨kq9, hn17⟩ : Fin 17) else sgGl (sgSt P (sgT1 P) (sgL1 P) (sgT2 P) (0 : Int32).toInt) j)).2.2.2.2.2.2.2.2.1, n24, (sgGs (sgSt P (sgT1 P) (sgL1 P) (sgT2 P) (0 : Int32).toInt) G15 (fun j => if j = (f18 : Int32).toNatClampNeg then (⟨kq9, hn17⟩ : Fin 17) else sgGl (sgSt P (sgT1 P) (sgL1 P) (sgT2 P) (0 : Int32).toInt) j)).2.2.2.2.2.2.2.2.2.2) := ⟨kq9, hk9, by rw [hg0, hgl]; exact gTold_of xf15 h64 hk9.2.2.1 hm9 (sg_pinc pf18) rfl rfl⟩
                        exact sg_iret2 X hr hlk hS trivial (fun t ht hW => ⟨_, hkp, hpn, hsd, hgm, Or.inl ⟨⟨sg_pin4l pf7 c8, kv10⟩, hef, hls, hgk, sg_pinM pf25 ef26 z1⟩, sg_post hb hK hC hG hS ht hW⟩) dX12_text_204
                      · refine lv_aload_n X.1 X.2.1 dX12_text_143 rfl (lv_at hl 0 rfl) ?_
                        refine gf_X12_21j X hK hG h0 wl_6_199 dX12_text_144 (fun q27 hq27 kq27 => ?_)
                        refine lv_bipush (v := 64) X.1 X.2.1 dX12_text_147 (by decide +kernel) ?_
                        refine lv_aload_n X.1 X.2.1 dX12_text_149 rfl (lv_at hl 0 rfl) ?_
                        refine gf_X12_29j X hK hG h0 wl_6_207 dX12_text_150 (fun f28 hf28 pf28 kf28 => ?_)
                        refine lv_imul X.1 X.2.1 dX12_text_153 ?_
                        refine lv_topi (fun f29 ef29 => ?_)
                        refine lv_iload_n X.1 X.2.1 dX12_text_154 rfl (lv_at hl 1 rfl) ?_
                        refine lv_iadd X.1 X.2.1 dX12_text_155 ?_
                        refine lv_topi (fun f30 ef30 => ?_)
                        refine lv_aload_n X.1 X.2.1 dX12_text_156 rfl (lv_at hl 0 rfl) ?_
                        refine gg_X12_21j X hK hG h0 wl_6_199 kq27 dX12_text_157 ?_
                        refine lv_sipush (v := 256) X.1 X.2.1 dX12_text_160 (by decide +kernel) ?_
                        refine lv_iload_n X.1 X.2.1 dX12_text_163 rfl (lv_at hl 1 rfl) ?_
                        refine lv_iadd X.1 X.2.1 dX12_text_164 ?_
                        refine lv_topi (fun f31 ef31 => ?_)
                        refine al_52j X hK hG hq27 (iv_vpin (iv_add (a' := 256) (b' := 319) ef31 (iv_c 256 (a := 256) (b := 256) (by decide +kernel)) (iv_lt (b' := 63) (iv_gt_of c16) hz15_3 (iv_c 64 (a := 64) (b := 64) (by decide +kernel)) (by decide +kernel)) (by decide +kernel)) (by decide +kernel)) dX12_text_165 (fun f32 hf32 => ?_)
                        have of32 := hf32
                        have hf32 : iv (-2147483648) 2147483647 f32 := iv_top f32
                        have hi9 := sg_exq ef29 ef30 pf28 (sg_pin3 pf7 (iv_ne_hi (b' := 3) c8 hf7 (by decide +kernel)) pf28) (iv_lt (b' := 63) (iv_gt_of c16) hz15_3 (iv_c 64 (a := 64) (b := 64) (by decide +kernel)) (by decide +kernel))
                        have hj9 := sg_exr ef31 (iv_lt (b' := 63) (iv_gt_of c16) hz15_3 (iv_c 64 (a := 64) (b := 64) (by decide +kernel)) (by decide +kernel))
                        have hx9 : ∀ t : Int, fq9 (256 + z15_3.toNatClampNeg) = (t, t) → f32.toInt = t := fun t ht => gq_rd of32 (by rw [hj9]; omega) (by rw [hj9]; exact ht)
                        refine as_52Q (P := (sgSt P (sgT1 P) (sgL1 P) (sgT2 P) (0 : Int32).toInt)) (G := G15) (gl := sgGl (sgSt P (sgT1 P) (sgL1 P) (sgT2 P) (0 : Int32).toInt)) X hK hG hS hq27 (iv_vpin (iv_add (a' := 0) (b' := 255) ef30 (iv_mul (a' := 0) (b' := 192) ef29 (iv_c 64 (a := 64) (b := 64) (by decide +kernel)) (sg_pin3 pf7 (iv_ne_hi (b' := 3) c8 hf7 (by decide +kernel)) pf28) (by decide +kernel)) (iv_lt (b' := 63) (iv_gt_of c16) hz15_3 (iv_c 64 (a := 64) (b := 64) (by decide +kernel)) (by decide +kernel)) (by decide +kernel)) (by decide +kernel)) (sg_lt256 (iv_add (a' := 0) (b' := 255) ef30 (iv_mul (a' := 0) (b' := 192) ef29 (iv_c 64 (a := 64) (b := 64) (by decide +kernel)) (sg_pin3 pf7 (iv_ne_hi (b' := 3) c8 hf7 (by decide +kernel)) pf28) (by decide +kernel)) (iv_lt (b' := 63) (iv_gt_of c16) hz15_3 (iv_c 64 (a := 64) (b := 64) (by decide +kernel)) (by decide +kernel)) (by decide +kernel)) (by decide +kernel)) dX12_text_166 (fun H locs hG hS => ?_)
                        obtain ⟨y34, ey34⟩ : ∃ y : Int32, y = z15_3 + Int32.ofInt 1 := ⟨_, rfl⟩
                        refine lv_iinc (v := y34) (lv' := [(3, .int y34), (0, .ref a0)]) X.1 X.2.1 dX12_text_167 hl (k := 1) rfl ey34.symm (by decide) rfl (fun ls hl => ?_)
                        refine lv_goto (tgt := 137) X.1 X.2.1 dX12_text_170 (by decide) ?_
                        exact ih15 H _ _ y34 (fun j => if j = (f30 : Int32).toNatClampNeg then (f32 : Int32).toInt else G15 j) hG hS (lv_sub hl [1, 0] rfl) (iv_of (iv_add (a' := 1) (b' := 64) ey34 (iv_lt (b' := 63) (iv_gt_of c16) hz15_3 (iv_c 64 (a := 64) (b := 64) (by decide +kernel)) (by decide +kernel)) (iv_c _ (a := 1) (b := 1) (by decide +kernel)) (by decide +kernel)) (a' := 0) (b' := 64) (by decide +kernel)) (gCp_s xf15 (hz15_3).1 hi9 hx9 (sg_inc (k := 1) ey34 (iv_lt (b' := 63) (iv_gt_of c16) hz15_3 (iv_c 64 (a := 64) (b := 64) (by decide +kernel)) (by decide +kernel)) (by decide +kernel))) (iv_stepU ey34 (iv_lt (b' := 63) (iv_gt_of c16) hz15_3 (iv_c 64 (a := 64) (b := 64) (by decide +kernel)) (by decide +kernel)) (by decide +kernel) hN15)
                  have hG := kq_gsof hG
                  exact B15_137 _ H _ _ 0 (sgG0 (sgSt P (sgT1 P) (sgL1 P) (sgT2 P) (0 : Int32).toInt)) hG hS (lv_sub hl [2, 0] rfl) (iv_of (iv_c 0 (a := 0) (b := 0) (by decide +kernel)) (a' := 0) (b' := 64) (by decide +kernel)) (gCp_0 (by decide +kernel) stG_St.1) (Nat.le_refl _)
              · exact ((iv_no (a := 2) (b := 1) (iv_eqm c13 h1 (iv_c 1 (a := 1) (b := 1) (by decide +kernel)) (by decide +kernel)) (by decide +kernel))).elim
            · exact ((c11 (iv_one yv10 (iv_c (-1) (a := (-1)) (b := (-1)) (by decide +kernel)) (by decide +kernel)))).elim
          · have hG := hBf9.2.2.2
            rw [htf9] at hG
            have yv10 : iv 0 240 f9 := vq_of xv10 ⟨w1v10, w2v10⟩
            refine lv_iconst (v := (-1)) X.1 X.2.1 dX12_text_48 (by decide +kernel) ?_
            refine lv_icmp_eq (tgt := 54) X.1 X.2.1 dX12_text_49 (by decide) (fun c35 => ?_) (fun c35 => ?_)
            · exact ((iv_no (a := 0) (b := (-1)) (iv_eqm c35 yv10 (iv_c (-1) (a := (-1)) (b := (-1)) (by decide +kernel)) (by decide +kernel)) (by decide +kernel))).elim
            · refine lv_iconst (v := (-1)) X.1 X.2.1 dX12_text_52 (by decide +kernel) ?_
              exact sg_iret2 X hr hlk hS trivial (fun t ht hW => ⟨P, ⟨rfl, rfl, Nat.le_refl _, Nat.le_add_right _ _⟩, hp10, sgSd2_rf, rfl, Or.inr ⟨(fun z => (fun z => by obtain ⟨a9, z⟩ := z; rw [pv10] at z; cases z) z.2), sgEf2_rf, sgLs_rf, sgGk_rf, (by decide +kernel)⟩, sg_post hb hK hC hG hS ht hW⟩) dX12_text_53
    · exact ((iv_no (a := 2) (b := 1) (iv_eqm c5 h1 (iv_c 1 (a := 1) (b := 1) (by decide +kernel)) (by decide +kernel)) (by decide +kernel))).elim

theorem ca_X12_text_e2   (X : CallFix p m c cc nL s args sg_tbl own) (hK : va_K D vwCl tys s) (hG : sgG (KT P) D vwCl (fun q : Nat => base ≤ q) tys ad ks H) (hC : sgC base s) (hS : va_S (fun q : Nat => base ≤ q) s.heap H locs) (hb : base ≤ s.heap.size) (hp10 : sgPin P = none) (a0 : Nat) (h0 : isK ad ks 12 a0) (x1 : Int32) (h1 : iv 2 2 x1) (hl0 : 0 ≤ sgL2 P ∧ sgL2 P ≤ 240) (hby : sgBy2 P) (hl : Cond.methodLink own index yX12_text ∈ sg_tbl) (hsize : ls.size = nL) (hst : st0 = [.int x1].reverse ++ .ref a0 :: rest) (hW : (rest.map fun v => v.category).sum ≤ 8) (hR : 34 ≤ R.frames ∧ 790 ≤ R.locals) (hf : cells ≤ R.cells ∧ slots ≤ R.slots) (hdg : decode cc pc = .ok (.invokevirtual index, 3)) (kk : ∀ (r : Int32) (t : State) (H1 : Heap) (locs1 : List Loc), t.heap = H1 → (fun r : Int32 => True) r → (∃ P1 : sgPm, sgKeep P P1 ∧ sgPin P1 = none ∧ sgSd2 P P1 ∧ sgGm P1 = sgGm P ∧ (((P.2.2.2.2.2.2.2.2.2.1.val < 4 ∧ (∃ a1 : Int, vGame (sgU2 P) (sgL2 P) = (true, a1))) ∧ sgEf2 0 0 1 P P1 ∧ sgLs P P1 ∧ sgTo2 P P1 ∧ r.toInt = (P.2.2.2.2.2.2.2.2.2.1.val : Int)) ∨ (¬ (P.2.2.2.2.2.2.2.2.2.1.val < 4 ∧ (∃ a1 : Int, vGame (sgU2 P) (sgL2 P) = (true, a1))) ∧ sgEf2 (sgL2 P) 0 0 P P1 ∧ sgLs P P1 ∧ sgGk P P1 ∧ r.toInt = -1)) ∧ sgB (KT P1) D vwCl base tys ad ks t) → va_S (fun q : Nat => base ≤ q) s.heap H1 locs1 → W p l e R s m args below meth c H1 locs1 cells slots Q (F0 m (pc + 3) ls (.int r :: rest))) : W p l e R s m args below meth c H locs cells slots Q (F0 m pc ls st0) :=
  sg_callV2i X hK hG hC hS hb (m_X12_text_e2 l hp10 a0 h0 x1 h1 hl0 hby) h0 (k := 12) (ci := 12) rfl (C := RX12) (T := TX12) (N := 53) rfl wl_8_44 wl_1_13 wl_8_42 wl_8_43 (n := 1) (by decide +kernel) rfl rfl rfl hl hsize hst hW hR hf hdg kk

set_option maxHeartbeats 8000000 in
set_option maxRecDepth 100000 in
theorem m_X12_text_en (l : Launch) {D : va_G} {base : Nat} {tys : List (ClassId × FieldType)} {ad ks : List Nat} {P : sgPm} (hp10 : sgPin P = none) (a0 : Nat) (h0 : isK ad ks 12 a0) (x1 : Int32) (hso : x1.toInt < 0 ∨ 2 < x1.toInt) : Met l yX12_text (Cond.code yX12_text cX12_text 4 (some .int) :: sg_tbl) ({ frames := 33, cells := 0, slots := 0, locals := 767 }) (va_Pc [.ref a0, .int x1] (sgB (KT P) D vwCl base tys ad ks)) (va_Qi (fun r (u : Int32) => u = r ∧ (fun r : Int32 => True) r) (fun u t => ∃ P1 : sgPm, sgKeep P P1 ∧ sgPin P1 = none ∧ sgSd2 P P1 ∧ sgGm P1 = sgGm P ∧ (sgEf2 (sgL2 P) 0 0 P P1 ∧ sgLs P P1 ∧ sgGk P P1 ∧ u.toInt = -1) ∧ sgB (KT P1) D vwCl base tys ad ks t) (fun q : Nat => base ≤ q)) 0 0 (fun q : Nat => base ≤ q) := by
  refine sg_ofW (by decide +kernel) (Nat.le_of_ble_eq_true rfl) (fun p e s m below meth c X hr hlk hb hK hC hG ls hl => ?_)
  have hS : va_S (fun q : Nat => base ≤ q) s.heap s.heap [] := va_S.rf
  have hl : lv_has ls 4 [(0, .ref a0), (1, .int x1)] := hl
  refine lv_aload_n X.1 X.2.1 dX12_text_0 rfl (lv_at hl 0 rfl) ?_
  refine lv_iconst (v := 0) X.1 X.2.1 dX12_text_1 (by decide +kernel) ?_
  refine pf_X12_0 X hK hG hS h0 wl_6_178 ⟨_, rfl, (iv_top _)⟩ dX12_text_2 (fun H locs hG hS ku1 ru1 => ?_)
  refine lv_iload_n X.1 X.2.1 dX12_text_5 rfl (lv_at hl 1 rfl) ?_
  obtain ⟨g2, eg2⟩ : ∃ y : Int64, y = (x1 : Int32).toInt64 := ⟨_, rfl⟩
  refine lv_i2l (v := g2) X.1 X.2.1 dX12_text_6 eg2.symm ?_
  refine lv_lconst (v := 0) X.1 X.2.1 dX12_text_7 (by decide +kernel) ?_
  refine lv_ldc2 X.1 X.2.1 X.2.2.2.1 (X.2.2.2.2 _ wl_7_118) dX12_text_8 ?_
  refine ca_X12_isIn_e X hK hG hC (fun _ h => h) hS hb g2 0 2 wl_7_119 hl.1 (rest := []) rfl (Nat.le_of_ble_eq_true rfl) ⟨Nat.le_of_ble_eq_true rfl, Nat.le_of_ble_eq_true rfl⟩ ⟨Nat.le_of_ble_eq_true rfl, Nat.le_of_ble_eq_true rfl⟩ dX12_text_11 (fun f3 locs hf3 hS => ?_)
  refine lv_if_eq (tgt := 52) X.1 X.2.1 dX12_text_14 (by decide) (fun c4 => ?_) (fun c4 => ?_)
  · refine lv_iconst (v := (-1)) X.1 X.2.1 dX12_text_52 (by decide +kernel) ?_
    exact sg_iret2 X hr hlk hS trivial (fun t ht hW => ⟨P, ⟨rfl, rfl, Nat.le_refl _, Nat.le_add_right _ _⟩, hp10, sgSd2_rf, rfl, ⟨sgEf2_rf, sgLs_rf, sgGk_rf, by decide +kernel⟩, sg_post hb hK hC hG hS ht hW⟩) dX12_text_53
  · exact absurd (vq_so1 (b := 0) (c := 2) (vq_says1 hf3 c4) eg2 (by decide +kernel) (by decide +kernel)) (by omega)

theorem ca_X12_text_en   (X : CallFix p m c cc nL s args sg_tbl own) (hK : va_K D vwCl tys s) (hG : sgG (KT P) D vwCl (fun q : Nat => base ≤ q) tys ad ks H) (hC : sgC base s) (hS : va_S (fun q : Nat => base ≤ q) s.heap H locs) (hb : base ≤ s.heap.size) (hp10 : sgPin P = none) (a0 : Nat) (h0 : isK ad ks 12 a0) (x1 : Int32) (hso : x1.toInt < 0 ∨ 2 < x1.toInt) (hl : Cond.methodLink own index yX12_text ∈ sg_tbl) (hsize : ls.size = nL) (hst : st0 = [.int x1].reverse ++ .ref a0 :: rest) (hW : (rest.map fun v => v.category).sum ≤ 8) (hR : 34 ≤ R.frames ∧ 790 ≤ R.locals) (hf : cells ≤ R.cells ∧ slots ≤ R.slots) (hdg : decode cc pc = .ok (.invokevirtual index, 3)) (kk : ∀ (r : Int32) (t : State) (H1 : Heap) (locs1 : List Loc), t.heap = H1 → (fun r : Int32 => True) r → (∃ P1 : sgPm, sgKeep P P1 ∧ sgPin P1 = none ∧ sgSd2 P P1 ∧ sgGm P1 = sgGm P ∧ (sgEf2 (sgL2 P) 0 0 P P1 ∧ sgLs P P1 ∧ sgGk P P1 ∧ r.toInt = -1) ∧ sgB (KT P1) D vwCl base tys ad ks t) → va_S (fun q : Nat => base ≤ q) s.heap H1 locs1 → W p l e R s m args below meth c H1 locs1 cells slots Q (F0 m (pc + 3) ls (.int r :: rest))) : W p l e R s m args below meth c H locs cells slots Q (F0 m pc ls st0) :=
  sg_callV2i X hK hG hC hS hb (m_X12_text_en l hp10 a0 h0 x1 hso) h0 (k := 12) (ci := 12) rfl (C := RX12) (T := TX12) (N := 53) rfl wl_8_44 wl_1_13 wl_8_42 wl_8_43 (n := 1) (by decide +kernel) rfl rfl rfl hl hsize hst hW hR hf hdg kk
end
