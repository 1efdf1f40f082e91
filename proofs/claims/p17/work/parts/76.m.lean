abbrev cX12_readClause : ByteArray := prog_14_method_34_code
def yX12_readClause : MethodName := ⟨RX12, "readClause", "()V"⟩
theorem dX12_readClause_0 : decode cX12_readClause 0 = .ok (.aload_n 0, 1) := by decide +kernel
theorem dX12_readClause_1 : decode cX12_readClause 1 = .ok (.invokevirtual 136, 3) := by decide +kernel
theorem dX12_readClause_4 : decode cX12_readClause 4 = .ok (.istore_n 1, 1) := by decide +kernel
theorem dX12_readClause_5 : decode cX12_readClause 5 = .ok (.iload_n 1, 1) := by decide +kernel
theorem dX12_readClause_6 : decode cX12_readClause 6 = .ok (.bipush 115, 2) := by decide +kernel
theorem dX12_readClause_8 : decode cX12_readClause 8 = .ok (.if_icmp .ne 10, 3) := by decide +kernel
theorem dX12_readClause_11 : decode cX12_readClause 11 = .ok (.aload_n 0, 1) := by decide +kernel
theorem dX12_readClause_12 : decode cX12_readClause 12 = .ok (.getfield 240, 3) := by decide +kernel
theorem dX12_readClause_15 : decode cX12_readClause 15 = .ok (.ifCond .eq 33, 3) := by decide +kernel
theorem dX12_readClause_18 : decode cX12_readClause 18 = .ok (.iload_n 1, 1) := by decide +kernel
theorem dX12_readClause_19 : decode cX12_readClause 19 = .ok (.bipush 116, 2) := by decide +kernel
theorem dX12_readClause_21 : decode cX12_readClause 21 = .ok (.if_icmp .ne 12, 3) := by decide +kernel
theorem dX12_readClause_24 : decode cX12_readClause 24 = .ok (.aload_n 0, 1) := by decide +kernel
theorem dX12_readClause_25 : decode cX12_readClause 25 = .ok (.getfield 243, 3) := by decide +kernel
theorem dX12_readClause_28 : decode cX12_readClause 28 = .ok (.bipush 12, 2) := by decide +kernel
theorem dX12_readClause_30 : decode cX12_readClause 30 = .ok (.if_icmp .lt 18, 3) := by decide +kernel
theorem dX12_readClause_33 : decode cX12_readClause 33 = .ok (.iload_n 1, 1) := by decide +kernel
theorem dX12_readClause_34 : decode cX12_readClause 34 = .ok (.bipush 98, 2) := by decide +kernel
theorem dX12_readClause_36 : decode cX12_readClause 36 = .ok (.if_icmp .ne 16, 3) := by decide +kernel
theorem dX12_readClause_39 : decode cX12_readClause 39 = .ok (.aload_n 0, 1) := by decide +kernel
theorem dX12_readClause_40 : decode cX12_readClause 40 = .ok (.getfield 246, 3) := by decide +kernel
theorem dX12_readClause_43 : decode cX12_readClause 43 = .ok (.bipush 8, 2) := by decide +kernel
theorem dX12_readClause_45 : decode cX12_readClause 45 = .ok (.if_icmp .ge 7, 3) := by decide +kernel
theorem dX12_readClause_48 : decode cX12_readClause 48 = .ok (.iconst 1, 1) := by decide +kernel
theorem dX12_readClause_49 : decode cX12_readClause 49 = .ok (.goto 4, 3) := by decide +kernel
theorem dX12_readClause_52 : decode cX12_readClause 52 = .ok (.iconst 0, 1) := by decide +kernel
theorem dX12_readClause_53 : decode cX12_readClause 53 = .ok (.istore_n 2, 1) := by decide +kernel
theorem dX12_readClause_54 : decode cX12_readClause 54 = .ok (.iload_n 2, 1) := by decide +kernel
theorem dX12_readClause_55 : decode cX12_readClause 55 = .ok (.ifCond .ne 9, 3) := by decide +kernel
theorem dX12_readClause_58 : decode cX12_readClause 58 = .ok (.aload_n 0, 1) := by decide +kernel
theorem dX12_readClause_59 : decode cX12_readClause 59 = .ok (.invokevirtual 132, 3) := by decide +kernel
theorem dX12_readClause_62 : decode cX12_readClause 62 = .ok (.pop, 1) := by decide +kernel
theorem dX12_readClause_63 : decode cX12_readClause 63 = .ok (.return_, 1) := by decide +kernel
theorem dX12_readClause_64 : decode cX12_readClause 64 = .ok (.aload_n 0, 1) := by decide +kernel
theorem dX12_readClause_65 : decode cX12_readClause 65 = .ok (.dup, 1) := by decide +kernel
theorem dX12_readClause_66 : decode cX12_readClause 66 = .ok (.getfield 117, 3) := by decide +kernel
theorem dX12_readClause_69 : decode cX12_readClause 69 = .ok (.iconst 1, 1) := by decide +kernel
theorem dX12_readClause_70 : decode cX12_readClause 70 = .ok (.iadd, 1) := by decide +kernel
theorem dX12_readClause_71 : decode cX12_readClause 71 = .ok (.putfield 117, 3) := by decide +kernel
theorem dX12_readClause_74 : decode cX12_readClause 74 = .ok (.iload_n 1, 1) := by decide +kernel
theorem dX12_readClause_75 : decode cX12_readClause 75 = .ok (.bipush 115, 2) := by decide +kernel
theorem dX12_readClause_77 : decode cX12_readClause 77 = .ok (.if_icmp .ne 20, 3) := by decide +kernel
theorem dX12_readClause_80 : decode cX12_readClause 80 = .ok (.aload_n 0, 1) := by decide +kernel
theorem dX12_readClause_81 : decode cX12_readClause 81 = .ok (.iconst 1, 1) := by decide +kernel
theorem dX12_readClause_82 : decode cX12_readClause 82 = .ok (.putfield 240, 3) := by decide +kernel
theorem dX12_readClause_85 : decode cX12_readClause 85 = .ok (.aload_n 0, 1) := by decide +kernel
theorem dX12_readClause_86 : decode cX12_readClause 86 = .ok (.iload_n 1, 1) := by decide +kernel
theorem dX12_readClause_87 : decode cX12_readClause 87 = .ok (.aload_n 0, 1) := by decide +kernel
theorem dX12_readClause_88 : decode cX12_readClause 88 = .ok (.getfield 40, 3) := by decide +kernel
theorem dX12_readClause_91 : decode cX12_readClause 91 = .ok (.ldc 249, 2) := by decide +kernel
theorem dX12_readClause_93 : decode cX12_readClause 93 = .ok (.invokevirtual 251, 3) := by decide +kernel
theorem dX12_readClause_96 : decode cX12_readClause 96 = .ok (.return_, 1) := by decide +kernel
theorem dX12_readClause_97 : decode cX12_readClause 97 = .ok (.aload_n 0, 1) := by decide +kernel
theorem dX12_readClause_98 : decode cX12_readClause 98 = .ok (.iload_n 1, 1) := by decide +kernel
theorem dX12_readClause_99 : decode cX12_readClause 99 = .ok (.aload_n 0, 1) := by decide +kernel
theorem dX12_readClause_100 : decode cX12_readClause 100 = .ok (.getfield 43, 3) := by decide +kernel
theorem dX12_readClause_103 : decode cX12_readClause 103 = .ok (.ldc 255, 2) := by decide +kernel
theorem dX12_readClause_105 : decode cX12_readClause 105 = .ok (.invokevirtual 251, 3) := by decide +kernel
theorem dX12_readClause_108 : decode cX12_readClause 108 = .ok (.aload_n 0, 1) := by decide +kernel
theorem dX12_readClause_109 : decode cX12_readClause 109 = .ok (.getfield 126, 3) := by decide +kernel
theorem dX12_readClause_112 : decode cX12_readClause 112 = .ok (.iconst (-1), 1) := by decide +kernel
theorem dX12_readClause_113 : decode cX12_readClause 113 = .ok (.if_icmp .eq 4, 3) := by decide +kernel
theorem dX12_readClause_116 : decode cX12_readClause 116 = .ok (.return_, 1) := by decide +kernel
theorem dX12_readClause_117 : decode cX12_readClause 117 = .ok (.aload_n 0, 1) := by decide +kernel
theorem dX12_readClause_118 : decode cX12_readClause 118 = .ok (.aload_n 0, 1) := by decide +kernel
theorem dX12_readClause_119 : decode cX12_readClause 119 = .ok (.getfield 257, 3) := by decide +kernel
theorem dX12_readClause_122 : decode cX12_readClause 122 = .ok (.ifCond .ne 24, 3) := by decide +kernel
theorem dX12_readClause_125 : decode cX12_readClause 125 = .ok (.aload_n 0, 1) := by decide +kernel
theorem dX12_readClause_126 : decode cX12_readClause 126 = .ok (.getfield 260, 3) := by decide +kernel
theorem dX12_readClause_129 : decode cX12_readClause 129 = .ok (.aload_n 0, 1) := by decide +kernel
theorem dX12_readClause_130 : decode cX12_readClause 130 = .ok (.getfield 263, 3) := by decide +kernel
theorem dX12_readClause_133 : decode cX12_readClause 133 = .ok (.ior, 1) := by decide +kernel
theorem dX12_readClause_134 : decode cX12_readClause 134 = .ok (.aload_n 0, 1) := by decide +kernel
theorem dX12_readClause_135 : decode cX12_readClause 135 = .ok (.getfield 43, 3) := by decide +kernel
theorem dX12_readClause_138 : decode cX12_readClause 138 = .ok (.iconst 0, 1) := by decide +kernel
theorem dX12_readClause_139 : decode cX12_readClause 139 = .ok (.iaload, 1) := by decide +kernel
theorem dX12_readClause_140 : decode cX12_readClause 140 = .ok (.invokestatic 227, 3) := by decide +kernel
theorem dX12_readClause_143 : decode cX12_readClause 143 = .ok (.ifCond .eq 7, 3) := by decide +kernel
theorem dX12_readClause_146 : decode cX12_readClause 146 = .ok (.iconst 1, 1) := by decide +kernel
theorem dX12_readClause_147 : decode cX12_readClause 147 = .ok (.goto 4, 3) := by decide +kernel
theorem dX12_readClause_150 : decode cX12_readClause 150 = .ok (.iconst 0, 1) := by decide +kernel
theorem dX12_readClause_151 : decode cX12_readClause 151 = .ok (.putfield 257, 3) := by decide +kernel
theorem dX12_readClause_154 : decode cX12_readClause 154 = .ok (.iload_n 1, 1) := by decide +kernel
theorem dX12_readClause_155 : decode cX12_readClause 155 = .ok (.bipush 116, 2) := by decide +kernel
theorem dX12_readClause_157 : decode cX12_readClause 157 = .ok (.if_icmp .ne 33, 3) := by decide +kernel
theorem dX12_readClause_160 : decode cX12_readClause 160 = .ok (.aload_n 0, 1) := by decide +kernel
theorem dX12_readClause_161 : decode cX12_readClause 161 = .ok (.dup, 1) := by decide +kernel
theorem dX12_readClause_162 : decode cX12_readClause 162 = .ok (.getfield 260, 3) := by decide +kernel
theorem dX12_readClause_165 : decode cX12_readClause 165 = .ok (.iconst 1, 1) := by decide +kernel
theorem dX12_readClause_166 : decode cX12_readClause 166 = .ok (.aload_n 0, 1) := by decide +kernel
theorem dX12_readClause_167 : decode cX12_readClause 167 = .ok (.getfield 43, 3) := by decide +kernel
theorem dX12_readClause_170 : decode cX12_readClause 170 = .ok (.iconst 0, 1) := by decide +kernel
theorem dX12_readClause_171 : decode cX12_readClause 171 = .ok (.iaload, 1) := by decide +kernel
theorem dX12_readClause_172 : decode cX12_readClause 172 = .ok (.ishl, 1) := by decide +kernel
theorem dX12_readClause_173 : decode cX12_readClause 173 = .ok (.ior, 1) := by decide +kernel
theorem dX12_readClause_174 : decode cX12_readClause 174 = .ok (.putfield 260, 3) := by decide +kernel
theorem dX12_readClause_177 : decode cX12_readClause 177 = .ok (.aload_n 0, 1) := by decide +kernel
theorem dX12_readClause_178 : decode cX12_readClause 178 = .ok (.dup, 1) := by decide +kernel
theorem dX12_readClause_179 : decode cX12_readClause 179 = .ok (.getfield 243, 3) := by decide +kernel
theorem dX12_readClause_182 : decode cX12_readClause 182 = .ok (.iconst 1, 1) := by decide +kernel
theorem dX12_readClause_183 : decode cX12_readClause 183 = .ok (.iadd, 1) := by decide +kernel
theorem dX12_readClause_184 : decode cX12_readClause 184 = .ok (.putfield 243, 3) := by decide +kernel
theorem dX12_readClause_187 : decode cX12_readClause 187 = .ok (.goto 30, 3) := by decide +kernel
theorem dX12_readClause_190 : decode cX12_readClause 190 = .ok (.aload_n 0, 1) := by decide +kernel
theorem dX12_readClause_191 : decode cX12_readClause 191 = .ok (.dup, 1) := by decide +kernel
theorem dX12_readClause_192 : decode cX12_readClause 192 = .ok (.getfield 263, 3) := by decide +kernel
theorem dX12_readClause_195 : decode cX12_readClause 195 = .ok (.iconst 1, 1) := by decide +kernel
theorem dX12_readClause_196 : decode cX12_readClause 196 = .ok (.aload_n 0, 1) := by decide +kernel
theorem dX12_readClause_197 : decode cX12_readClause 197 = .ok (.getfield 43, 3) := by decide +kernel
theorem dX12_readClause_200 : decode cX12_readClause 200 = .ok (.iconst 0, 1) := by decide +kernel
theorem dX12_readClause_201 : decode cX12_readClause 201 = .ok (.iaload, 1) := by decide +kernel
theorem dX12_readClause_202 : decode cX12_readClause 202 = .ok (.ishl, 1) := by decide +kernel
theorem dX12_readClause_203 : decode cX12_readClause 203 = .ok (.ior, 1) := by decide +kernel
theorem dX12_readClause_204 : decode cX12_readClause 204 = .ok (.putfield 263, 3) := by decide +kernel
theorem dX12_readClause_207 : decode cX12_readClause 207 = .ok (.aload_n 0, 1) := by decide +kernel
theorem dX12_readClause_208 : decode cX12_readClause 208 = .ok (.dup, 1) := by decide +kernel
theorem dX12_readClause_209 : decode cX12_readClause 209 = .ok (.getfield 246, 3) := by decide +kernel
theorem dX12_readClause_212 : decode cX12_readClause 212 = .ok (.iconst 1, 1) := by decide +kernel
theorem dX12_readClause_213 : decode cX12_readClause 213 = .ok (.iadd, 1) := by decide +kernel
theorem dX12_readClause_214 : decode cX12_readClause 214 = .ok (.putfield 246, 3) := by decide +kernel
theorem dX12_readClause_217 : decode cX12_readClause 217 = .ok (.return_, 1) := by decide +kernel
theorem wl_6_206 : (.fieldLink RX12 246 "LawnAheadModel" "bedMany" "I" : Cond) ∈ sg_tbl := tb_6 _ (List.mem_of_getElem? (i := 206) (by decide +kernel)) (by decide +kernel)
theorem wl_6_198 : (.fieldLink RX12 43 "LawnAheadModel" "one" "[I" : Cond) ∈ sg_tbl := tb_6 _ (List.mem_of_getElem? (i := 198) (by decide +kernel)) (by decide +kernel)
theorem wl_7_146 : (.methodLink RX12 251 yX12_readItems : Cond) ∈ sg_tbl := tb_7 _ (List.mem_of_getElem? (i := 146) (by decide +kernel)) (by decide +kernel)
theorem wl_6_209 : (.fieldLink RX12 257 "LawnAheadModel" "isDoubled" "Z" : Cond) ∈ sg_tbl := tb_6 _ (List.mem_of_getElem? (i := 209) (by decide +kernel)) (by decide +kernel)
theorem wl_6_204 : (.fieldLink RX12 263 "LawnAheadModel" "bedsRead" "I" : Cond) ∈ sg_tbl := tb_6 _ (List.mem_of_getElem? (i := 204) (by decide +kernel)) (by decide +kernel)
theorem wl_6_203 : (.fieldLink RX12 260 "LawnAheadModel" "tuftsRead" "I" : Cond) ∈ sg_tbl := tb_6 _ (List.mem_of_getElem? (i := 203) (by decide +kernel)) (by decide +kernel)
theorem wl_6_205 : (.fieldLink RX12 243 "LawnAheadModel" "tuftMany" "I" : Cond) ∈ sg_tbl := tb_6 _ (List.mem_of_getElem? (i := 205) (by decide +kernel)) (by decide +kernel)
theorem wl_6_208 : (.fieldLink RX12 240 "LawnAheadModel" "hasRules" "Z" : Cond) ∈ sg_tbl := tb_6 _ (List.mem_of_getElem? (i := 208) (by decide +kernel)) (by decide +kernel)
theorem wl_6_197 : (.fieldLink RX12 40 "LawnAheadModel" "ruleRead" "[I" : Cond) ∈ sg_tbl := tb_6 _ (List.mem_of_getElem? (i := 197) (by decide +kernel)) (by decide +kernel)
theorem wl_7_136 : (.code yX12_readClause cX12_readClause 3 none : Cond) ∈ sg_tbl := tb_7 _ (List.mem_of_getElem? (i := 136) (by decide +kernel)) (by decide +kernel)
theorem wl_7_135 : (.instanceMethod yX12_readClause : Cond) ∈ sg_tbl := tb_7 _ (List.mem_of_getElem? (i := 135) (by decide +kernel)) (by decide +kernel)
theorem wl_0_51 : (.selects RX12 yX12_readClause yX12_readClause : Cond) ∈ sg_tbl := tb_0 _ (List.mem_of_getElem? (i := 51) (by decide +kernel)) (by decide +kernel)
section
variable {p : Program} {l : Launch} {e : Env} {R : Room} {s : State} {m : MethodId} {args : Array Value} {below : List Frame} {meth : Method} {c : Code} {H : Heap} {locs : List Loc} {cells slots : Nat} {Q : State → Prop} {cc : ByteArray} {nL pc : Nat} {ls : Array Slot} {rest : List Value} {own : String} {D : va_G} {A : Nat → Prop} {tys : List (ClassId × FieldType)} {ad ks : List Nat} {P : sgPm} {H0 : Heap} {index : Nat} {base : Nat} {st0 : List Value} {a : Nat}
theorem gf_X12_19r  {b : Bool} {d lo hi mr f : Int} (X : CallFix p m c cc nL s args sg_tbl own) (hK : va_K D vwCl tys s) (hG : sgG (KR b d lo hi mr f P) D vwCl A tys ad ks H) (ha : isK ad ks 12 a) (hl : Cond.fieldLink own index "LawnAheadModel" "ruleRead" "[I" ∈ sg_tbl) (hdg : decode cc pc = .ok (.getfield index, 3)) (kk : ∀ x : Nat, isK ad ks 50 x → fld D H 12 a 19 (.ref x) → W p l e R s m args below meth c H locs cells slots Q (F0 m (pc + 3) ls (.ref x :: rest))) : W p l e R s m args below meth c H locs cells slots Q (F0 m pc ls (.ref a :: rest)) :=
  sg_get X hK hG ha (k := 12) (ci := 12) rfl (C := RX12) (T := TX12) (N := 53) rfl inL_X12 19 (by decide) rfl hl (fun _ h => h) hdg (fun v hv hf => by
    obtain ⟨h1, -⟩ | ⟨x, rfl, hx⟩ := hv
    · cases h1
    · exact kk x hx hf)
theorem gf_X12_20r  {b : Bool} {d lo hi mr f : Int} (X : CallFix p m c cc nL s args sg_tbl own) (hK : va_K D vwCl tys s) (hG : sgG (KR b d lo hi mr f P) D vwCl A tys ad ks H) (ha : isK ad ks 12 a) (hl : Cond.fieldLink own index "LawnAheadModel" "one" "[I" ∈ sg_tbl) (hdg : decode cc pc = .ok (.getfield index, 3)) (kk : ∀ x : Nat, isK ad ks 51 x → fld D H 12 a 20 (.ref x) → W p l e R s m args below meth c H locs cells slots Q (F0 m (pc + 3) ls (.ref x :: rest))) : W p l e R s m args below meth c H locs cells slots Q (F0 m pc ls (.ref a :: rest)) :=
  sg_get X hK hG ha (k := 12) (ci := 12) rfl (C := RX12) (T := TX12) (N := 53) rfl inL_X12 20 (by decide) rfl hl (fun _ h => h) hdg (fun v hv hf => by
    obtain ⟨h1, -⟩ | ⟨x, rfl, hx⟩ := hv
    · cases h1
    · exact kk x hx hf)
theorem gf_X12_25r  {b : Bool} {d lo hi mr f : Int} (X : CallFix p m c cc nL s args sg_tbl own) (hK : va_K D vwCl tys s) (hG : sgG (KR b d lo hi mr f P) D vwCl A tys ad ks H) (ha : isK ad ks 12 a) (hl : Cond.fieldLink own index "LawnAheadModel" "tuftsRead" "I" ∈ sg_tbl) (hdg : decode cc pc = .ok (.getfield index, 3)) (kk : ∀ x : Int32, iv (-2147483648) 2147483647 x → fld D H 12 a 25 (.int x) → W p l e R s m args below meth c H locs cells slots Q (F0 m (pc + 3) ls (.int x :: rest))) : W p l e R s m args below meth c H locs cells slots Q (F0 m pc ls (.ref a :: rest)) :=
  sg_get X hK hG ha (k := 12) (ci := 12) rfl (C := RX12) (T := TX12) (N := 53) rfl inL_X12 25 (by decide) rfl hl (fun _ h => h) hdg (fun v hv hf => by obtain ⟨x, rfl, hx⟩ := hv; exact kk x hx hf)
theorem gf_X12_26r  {b : Bool} {d lo hi mr f : Int} (X : CallFix p m c cc nL s args sg_tbl own) (hK : va_K D vwCl tys s) (hG : sgG (KR b d lo hi mr f P) D vwCl A tys ad ks H) (ha : isK ad ks 12 a) (hl : Cond.fieldLink own index "LawnAheadModel" "bedsRead" "I" ∈ sg_tbl) (hdg : decode cc pc = .ok (.getfield index, 3)) (kk : ∀ x : Int32, iv (-2147483648) 2147483647 x → fld D H 12 a 26 (.int x) → W p l e R s m args below meth c H locs cells slots Q (F0 m (pc + 3) ls (.int x :: rest))) : W p l e R s m args below meth c H locs cells slots Q (F0 m pc ls (.ref a :: rest)) :=
  sg_get X hK hG ha (k := 12) (ci := 12) rfl (C := RX12) (T := TX12) (N := 53) rfl inL_X12 26 (by decide) rfl hl (fun _ h => h) hdg (fun v hv hf => by obtain ⟨x, rfl, hx⟩ := hv; exact kk x hx hf)
theorem gf_X12_27r  {b : Bool} {d lo hi mr f : Int} (X : CallFix p m c cc nL s args sg_tbl own) (hK : va_K D vwCl tys s) (hG : sgG (KR b d lo hi mr f P) D vwCl A tys ad ks H) (ha : isK ad ks 12 a) (hl : Cond.fieldLink own index "LawnAheadModel" "tuftMany" "I" ∈ sg_tbl) (hdg : decode cc pc = .ok (.getfield index, 3)) (kk : ∀ x : Int32, iv (-2147483648) 2147483647 x → fld D H 12 a 27 (.int x) → W p l e R s m args below meth c H locs cells slots Q (F0 m (pc + 3) ls (.int x :: rest))) : W p l e R s m args below meth c H locs cells slots Q (F0 m pc ls (.ref a :: rest)) :=
  sg_get X hK hG ha (k := 12) (ci := 12) rfl (C := RX12) (T := TX12) (N := 53) rfl inL_X12 27 (by decide) rfl hl (fun _ h => h) hdg (fun v hv hf => by obtain ⟨x, rfl, hx⟩ := hv; exact kk x hx hf)
theorem gf_X12_28r  {b : Bool} {d lo hi mr f : Int} (X : CallFix p m c cc nL s args sg_tbl own) (hK : va_K D vwCl tys s) (hG : sgG (KR b d lo hi mr f P) D vwCl A tys ad ks H) (ha : isK ad ks 12 a) (hl : Cond.fieldLink own index "LawnAheadModel" "bedMany" "I" ∈ sg_tbl) (hdg : decode cc pc = .ok (.getfield index, 3)) (kk : ∀ x : Int32, iv (-2147483648) 2147483647 x → fld D H 12 a 28 (.int x) → W p l e R s m args below meth c H locs cells slots Q (F0 m (pc + 3) ls (.int x :: rest))) : W p l e R s m args below meth c H locs cells slots Q (F0 m pc ls (.ref a :: rest)) :=
  sg_get X hK hG ha (k := 12) (ci := 12) rfl (C := RX12) (T := TX12) (N := 53) rfl inL_X12 28 (by decide) rfl hl (fun _ h => h) hdg (fun v hv hf => by obtain ⟨x, rfl, hx⟩ := hv; exact kk x hx hf)
theorem gf_X12_30r  {b : Bool} {d lo hi mr f : Int} (X : CallFix p m c cc nL s args sg_tbl own) (hK : va_K D vwCl tys s) (hG : sgG (KR b d lo hi mr f P) D vwCl A tys ad ks H) (ha : isK ad ks 12 a) (hl : Cond.fieldLink own index "LawnAheadModel" "hasRules" "Z" ∈ sg_tbl) (hdg : decode cc pc = .ok (.getfield index, 3)) (kk : ∀ x : Int32, iv 0 1 x → fld D H 12 a 30 (.int x) → W p l e R s m args below meth c H locs cells slots Q (F0 m (pc + 3) ls (.int x :: rest))) : W p l e R s m args below meth c H locs cells slots Q (F0 m pc ls (.ref a :: rest)) :=
  sg_get X hK hG ha (k := 12) (ci := 12) rfl (C := RX12) (T := TX12) (N := 53) rfl inL_X12 30 (by decide) rfl hl (fun _ h => h) hdg (fun v hv hf => by obtain ⟨x, rfl, hx⟩ := hv; exact kk x hx hf)
theorem gf_X12_31r  {b : Bool} {d lo hi mr f : Int} (X : CallFix p m c cc nL s args sg_tbl own) (hK : va_K D vwCl tys s) (hG : sgG (KR b d lo hi mr f P) D vwCl A tys ad ks H) (ha : isK ad ks 12 a) (hl : Cond.fieldLink own index "LawnAheadModel" "isDoubled" "Z" ∈ sg_tbl) (hdg : decode cc pc = .ok (.getfield index, 3)) (kk : ∀ x : Int32, iv 0 1 x → fld D H 12 a 31 (.int x) → W p l e R s m args below meth c H locs cells slots Q (F0 m (pc + 3) ls (.int x :: rest))) : W p l e R s m args below meth c H locs cells slots Q (F0 m pc ls (.ref a :: rest)) :=
  sg_get X hK hG ha (k := 12) (ci := 12) rfl (C := RX12) (T := TX12) (N := 53) rfl inL_X12 31 (by decide) rfl hl (fun _ h => h) hdg (fun v hv hf => by obtain ⟨x, rfl, hx⟩ := hv; exact kk x hx hf)
theorem pf_X12_25r  {x : Int32} {b : Bool} {d lo hi mr f : Int} (X : CallFix p m c cc nL s args sg_tbl own) (hK : va_K D vwCl tys s) (hG : sgG (KR b d lo hi mr f P) D vwCl A tys ad ks H) (hS : va_S A H0 H locs) (ha : isK ad ks 12 a) (hl : Cond.fieldLink own index "LawnAheadModel" "tuftsRead" "I" ∈ sg_tbl) (hv : okV ad ks (.inl ((-2147483648), 2147483647)) (.int x)) (hdg : decode cc pc = .ok (.putfield index, 3)) (kk : ∀ (H1 : Heap) (locs1 : List Loc), sgG (KR b d lo hi mr f P) D vwCl A tys ad ks H1 → va_S A H0 H1 locs1 → fld D H1 12 a 25 (.int x) → sgFr (KR b d lo hi mr f P) D vwCl ad ks H H1 (fun a' j' => a' = a ∧ j' = 25) → W p l e R s m args below meth c H1 locs1 cells slots Q (F0 m (pc + 3) ls rest)) : W p l e R s m args below meth c H locs cells slots Q (F0 m pc ls (.int x :: .ref a :: rest)) :=
  sg_put X hK hG hS ha (k := 12) (ci := 12) rfl (C := RX12) (T := TX12) (N := 53) rfl inL_X12 tyX12 tyX12_ok nmX12 25 (by decide) rfl hl (fun _ h => h) rfl (ty := .int) rfl rfl rfl hv hdg kk
theorem pf_X12_26r  {x : Int32} {b : Bool} {d lo hi mr f : Int} (X : CallFix p m c cc nL s args sg_tbl own) (hK : va_K D vwCl tys s) (hG : sgG (KR b d lo hi mr f P) D vwCl A tys ad ks H) (hS : va_S A H0 H locs) (ha : isK ad ks 12 a) (hl : Cond.fieldLink own index "LawnAheadModel" "bedsRead" "I" ∈ sg_tbl) (hv : okV ad ks (.inl ((-2147483648), 2147483647)) (.int x)) (hdg : decode cc pc = .ok (.putfield index, 3)) (kk : ∀ (H1 : Heap) (locs1 : List Loc), sgG (KR b d lo hi mr f P) D vwCl A tys ad ks H1 → va_S A H0 H1 locs1 → fld D H1 12 a 26 (.int x) → sgFr (KR b d lo hi mr f P) D vwCl ad ks H H1 (fun a' j' => a' = a ∧ j' = 26) → W p l e R s m args below meth c H1 locs1 cells slots Q (F0 m (pc + 3) ls rest)) : W p l e R s m args below meth c H locs cells slots Q (F0 m pc ls (.int x :: .ref a :: rest)) :=
  sg_put X hK hG hS ha (k := 12) (ci := 12) rfl (C := RX12) (T := TX12) (N := 53) rfl inL_X12 tyX12 tyX12_ok nmX12 26 (by decide) rfl hl (fun _ h => h) rfl (ty := .int) rfl rfl rfl hv hdg kk
theorem pf_X12_27r  {x : Int32} {b : Bool} {d lo hi mr f : Int} (X : CallFix p m c cc nL s args sg_tbl own) (hK : va_K D vwCl tys s) (hG : sgG (KR b d lo hi mr f P) D vwCl A tys ad ks H) (hS : va_S A H0 H locs) (ha : isK ad ks 12 a) (hl : Cond.fieldLink own index "LawnAheadModel" "tuftMany" "I" ∈ sg_tbl) (hv : okV ad ks (.inl ((-2147483648), 2147483647)) (.int x)) (hdg : decode cc pc = .ok (.putfield index, 3)) (kk : ∀ (H1 : Heap) (locs1 : List Loc), sgG (KR b d lo hi mr f P) D vwCl A tys ad ks H1 → va_S A H0 H1 locs1 → fld D H1 12 a 27 (.int x) → sgFr (KR b d lo hi mr f P) D vwCl ad ks H H1 (fun a' j' => a' = a ∧ j' = 27) → W p l e R s m args below meth c H1 locs1 cells slots Q (F0 m (pc + 3) ls rest)) : W p l e R s m args below meth c H locs cells slots Q (F0 m pc ls (.int x :: .ref a :: rest)) :=
  sg_put X hK hG hS ha (k := 12) (ci := 12) rfl (C := RX12) (T := TX12) (N := 53) rfl inL_X12 tyX12 tyX12_ok nmX12 27 (by decide) rfl hl (fun _ h => h) rfl (ty := .int) rfl rfl rfl hv hdg kk
theorem pf_X12_28r  {x : Int32} {b : Bool} {d lo hi mr f : Int} (X : CallFix p m c cc nL s args sg_tbl own) (hK : va_K D vwCl tys s) (hG : sgG (KR b d lo hi mr f P) D vwCl A tys ad ks H) (hS : va_S A H0 H locs) (ha : isK ad ks 12 a) (hl : Cond.fieldLink own index "LawnAheadModel" "bedMany" "I" ∈ sg_tbl) (hv : okV ad ks (.inl ((-2147483648), 2147483647)) (.int x)) (hdg : decode cc pc = .ok (.putfield index, 3)) (kk : ∀ (H1 : Heap) (locs1 : List Loc), sgG (KR b d lo hi mr f P) D vwCl A tys ad ks H1 → va_S A H0 H1 locs1 → fld D H1 12 a 28 (.int x) → sgFr (KR b d lo hi mr f P) D vwCl ad ks H H1 (fun a' j' => a' = a ∧ j' = 28) → W p l e R s m args below meth c H1 locs1 cells slots Q (F0 m (pc + 3) ls rest)) : W p l e R s m args below meth c H locs cells slots Q (F0 m pc ls (.int x :: .ref a :: rest)) :=
  sg_put X hK hG hS ha (k := 12) (ci := 12) rfl (C := RX12) (T := TX12) (N := 53) rfl inL_X12 tyX12 tyX12_ok nmX12 28 (by decide) rfl hl (fun _ h => h) rfl (ty := .int) rfl rfl rfl hv hdg kk
theorem pf_X12_30r  {x : Int32} {b : Bool} {d lo hi mr f : Int} (X : CallFix p m c cc nL s args sg_tbl own) (hK : va_K D vwCl tys s) (hG : sgG (KR b d lo hi mr f P) D vwCl A tys ad ks H) (hS : va_S A H0 H locs) (ha : isK ad ks 12 a) (hl : Cond.fieldLink own index "LawnAheadModel" "hasRules" "Z" ∈ sg_tbl) (hv : okV ad ks (.inl (0, 1)) (.int x)) (hdg : decode cc pc = .ok (.putfield index, 3)) (kk : ∀ (H1 : Heap) (locs1 : List Loc), sgG (KR b d lo hi mr f P) D vwCl A tys ad ks H1 → va_S A H0 H1 locs1 → fld D H1 12 a 30 (.int x) → sgFr (KR b d lo hi mr f P) D vwCl ad ks H H1 (fun a' j' => a' = a ∧ j' = 30) → W p l e R s m args below meth c H1 locs1 cells slots Q (F0 m (pc + 3) ls rest)) : W p l e R s m args below meth c H locs cells slots Q (F0 m pc ls (.int x :: .ref a :: rest)) :=
  sg_put X hK hG hS ha (k := 12) (ci := 12) rfl (C := RX12) (T := TX12) (N := 53) rfl inL_X12 tyX12 tyX12_ok nmX12 30 (by decide) rfl hl (fun _ h => h) rfl (ty := .boolean) rfl (by obtain ⟨y, h1, h2⟩ := hv; cases h1; exact sg_zn h2) (by obtain ⟨y, h1, h2⟩ := hv; cases h1; rcases iv_01 h2 with rfl | rfl <;> rfl) hv hdg kk
theorem pf_X12_31r  {x : Int32} {b : Bool} {d lo hi mr f : Int} (X : CallFix p m c cc nL s args sg_tbl own) (hK : va_K D vwCl tys s) (hG : sgG (KR b d lo hi mr f P) D vwCl A tys ad ks H) (hS : va_S A H0 H locs) (ha : isK ad ks 12 a) (hl : Cond.fieldLink own index "LawnAheadModel" "isDoubled" "Z" ∈ sg_tbl) (hv : okV ad ks (.inl (0, 1)) (.int x)) (hdg : decode cc pc = .ok (.putfield index, 3)) (kk : ∀ (H1 : Heap) (locs1 : List Loc), sgG (KR b d lo hi mr f P) D vwCl A tys ad ks H1 → va_S A H0 H1 locs1 → fld D H1 12 a 31 (.int x) → sgFr (KR b d lo hi mr f P) D vwCl ad ks H H1 (fun a' j' => a' = a ∧ j' = 31) → W p l e R s m args below meth c H1 locs1 cells slots Q (F0 m (pc + 3) ls rest)) : W p l e R s m args below meth c H locs cells slots Q (F0 m pc ls (.int x :: .ref a :: rest)) :=
  sg_put X hK hG hS ha (k := 12) (ci := 12) rfl (C := RX12) (T := TX12) (N := 53) rfl inL_X12 tyX12 tyX12_ok nmX12 31 (by decide) rfl hl (fun _ h => h) rfl (ty := .boolean) rfl (by obtain ⟨y, h1, h2⟩ := hv; cases h1; exact sg_zn h2) (by obtain ⟨y, h1, h2⟩ := hv; cases h1; rcases iv_01 h2 with rfl | rfl <;> rfl) hv hdg kk
theorem al_51r  {i : Int32} {b : Bool} {d lo hi mr f : Int} (X : CallFix p m c cc nL s args sg_tbl own) (hK : va_K D vwCl tys s) (hG : sgG (KR b d lo hi mr f P) D vwCl A tys ad ks H) (ha : isK ad ks 51 a) (hin : vp_in i 1) (hdg : decode cc pc = .ok (.iaload, 1)) (kk : ∀ x : Int32, iv (-2147483648) 2147483647 x → W p l e R s m args below meth c H locs cells slots Q (F0 m (pc + 1) ls (.int x :: rest))) : W p l e R s m args below meth c H locs cells slots Q (F0 m pc ls (.int i :: .ref a :: rest)) :=
  sg_iald X hK hG ha (k := 51) rfl hin hdg (fun x hx => by obtain ⟨y, h1, h2⟩ := hx; cases h1; exact kk _ h2)
set_option maxHeartbeats 8000000 in
set_option maxRecDepth 100000 in
theorem m_X12_readClause (l : Launch) {D : va_G} {base : Nat} {tys : List (ClassId × FieldType)} {ad ks : List Nat} {P : sgPm}{b : Bool} {lo : Int}  (a0 : Nat) (h0 : isK ad ks 12 a0) (hlo : 0 ≤ lo ∧ lo ≤ 241) : Met l yX12_readClause (Cond.code yX12_readClause cX12_readClause 3 none :: sg_tbl) ({ frames := 6, cells := 0, slots := 0, locals := 132 }) (va_Pc [.ref a0] (sgB (KR b 0 lo 241 7 (-1) P) D vwCl base tys ad ks)) (va_Qv (fun (_ : Unit) => True) (fun _ => (fun t : State => sgB (KR b 0 lo 241 7 (-1) P) D vwCl base tys ad ks t ∨ sgB (KR b 0 lo 241 0 0 P) D vwCl base tys ad ks t)) (fun q : Nat => base ≤ q)) 0 0 (fun q : Nat => base ≤ q) := by
  refine sg_ofW (by decide +kernel) (Nat.le_of_ble_eq_true rfl) (fun p e s m below meth c X hr hlk hb hK hC hG ls hl => ?_)
  have hS : va_S (fun q : Nat => base ≤ q) s.heap s.heap [] := va_S.rf
  have hl : lv_has ls 3 [(0, .ref a0)] := hl
  refine lv_aload_n X.1 X.2.1 dX12_readClause_0 rfl (lv_at hl 0 rfl) ?_
  refine ca_X12_look X hK hG hC hS hb a0 h0 ⟨by omega, by omega, by omega, by omega, by omega⟩ ⟨by omega, by omega, by omega⟩ wl_7_137 hl.1 (rest := []) rfl (Nat.le_of_ble_eq_true rfl) ⟨Nat.le_of_ble_eq_true rfl, Nat.le_of_ble_eq_true rfl⟩ ⟨Nat.le_of_ble_eq_true rfl, Nat.le_of_ble_eq_true rfl⟩ dX12_readClause_1 (fun f1 tf1 H locs htf1 hf1 hWf1 hS => ?_)
  obtain ⟨hBf1, v2, kv2, hv2, lv2⟩ := hWf1
  have hG := hBf1.2.2.2
  rw [htf1] at hG kv2
  have ⟨lav2, uav2⟩ : lo ≤ v2.toInt ∧ v2.toInt ≤ 241 := hv2
  have hv2 : iv 0 241 v2 := ⟨by omega, by omega⟩
  refine lv_istore_n (lv' := [(1, .int f1), (0, .ref a0)]) X.1 X.2.1 dX12_readClause_4 rfl hl (by decide) rfl (fun ls hl => ?_)
  refine lv_iload_n X.1 X.2.1 dX12_readClause_5 rfl (lv_at hl 0 rfl) ?_
  refine lv_bipush (v := 115) X.1 X.2.1 dX12_readClause_6 (by decide +kernel) ?_
  refine lv_icmp_ne (tgt := 18) X.1 X.2.1 dX12_readClause_8 (by decide) (fun c3 => ?_) (fun c3 => ?_)
  · refine lv_iload_n X.1 X.2.1 dX12_readClause_18 rfl (lv_at hl 0 rfl) ?_
    refine lv_bipush (v := 116) X.1 X.2.1 dX12_readClause_19 (by decide +kernel) ?_
    refine lv_icmp_ne (tgt := 33) X.1 X.2.1 dX12_readClause_21 (by decide) (fun c4 => ?_) (fun c4 => ?_)
    · refine lv_iload_n X.1 X.2.1 dX12_readClause_33 rfl (lv_at hl 0 rfl) ?_
      refine lv_bipush (v := 98) X.1 X.2.1 dX12_readClause_34 (by decide +kernel) ?_
      refine lv_icmp_ne (tgt := 52) X.1 X.2.1 dX12_readClause_36 (by decide) (fun c5 => ?_) (fun c5 => ?_)
      · refine lv_iconst (v := 0) X.1 X.2.1 dX12_readClause_52 (by decide +kernel) ?_
        refine lv_istore_n (lv' := [(2, .int 0), (1, .int f1), (0, .ref a0)]) X.1 X.2.1 dX12_readClause_53 rfl hl (by decide) rfl (fun ls hl => ?_)
        refine lv_iload_n X.1 X.2.1 dX12_readClause_54 rfl (lv_at hl 0 rfl) ?_
        refine lv_if_ne (tgt := 64) X.1 X.2.1 dX12_readClause_55 (by decide) (fun c6 => ?_) (fun c6 => ?_)
        · exact ((c6 (iv_one (iv_c 0 (a := 0) (b := 0) (by decide +kernel)) (iv_c 0 (a := 0) (b := 0) (by decide +kernel)) (by decide +kernel)))).elim
        · refine lv_aload_n X.1 X.2.1 dX12_readClause_58 rfl (lv_at hl 2 rfl) ?_
          refine ca_X12_fails X hK hG hC hS hb a0 h0 ⟨by omega, by omega, by omega, by omega, by omega⟩ wl_7_141 hl.1 (rest := []) rfl (Nat.le_of_ble_eq_true rfl) ⟨Nat.le_of_ble_eq_true rfl, Nat.le_of_ble_eq_true rfl⟩ ⟨Nat.le_of_ble_eq_true rfl, Nat.le_of_ble_eq_true rfl⟩ dX12_readClause_59 (fun f7 H locs hf7 hG hS => ?_)
          refine lv_pop X.1 X.2.1 dX12_readClause_62 rfl ?_
          exact sg_vret2 X hr hlk hS (fun t ht hW => (Or.inl (sg_post hb hK hC hG hS ht hW))) dX12_readClause_63
      · refine lv_aload_n X.1 X.2.1 dX12_readClause_39 rfl (lv_at hl 1 rfl) ?_
        refine gf_X12_28r X hK hG h0 wl_6_206 dX12_readClause_40 (fun f8 hf8 kf8 => ?_)
        refine lv_bipush (v := 8) X.1 X.2.1 dX12_readClause_43 (by decide +kernel) ?_
        refine lv_icmp_ge (tgt := 52) X.1 X.2.1 dX12_readClause_45 (by decide) (fun c9 => ?_) (fun c9 => ?_)
        · refine lv_iconst (v := 0) X.1 X.2.1 dX12_readClause_52 (by decide +kernel) ?_
          refine lv_istore_n (lv' := [(2, .int 0), (1, .int f1), (0, .ref a0)]) X.1 X.2.1 dX12_readClause_53 rfl hl (by decide) rfl (fun ls hl => ?_)
          refine lv_iload_n X.1 X.2.1 dX12_readClause_54 rfl (lv_at hl 0 rfl) ?_
          refine lv_if_ne (tgt := 64) X.1 X.2.1 dX12_readClause_55 (by decide) (fun c10 => ?_) (fun c10 => ?_)
          · exact ((c10 (iv_one (iv_c 0 (a := 0) (b := 0) (by decide +kernel)) (iv_c 0 (a := 0) (b := 0) (by decide +kernel)) (by decide +kernel)))).elim
          · refine lv_aload_n X.1 X.2.1 dX12_readClause_58 rfl (lv_at hl 2 rfl) ?_
            refine ca_X12_fails X hK hG hC hS hb a0 h0 ⟨by omega, by omega, by omega, by omega, by omega⟩ wl_7_141 hl.1 (rest := []) rfl (Nat.le_of_ble_eq_true rfl) ⟨Nat.le_of_ble_eq_true rfl, Nat.le_of_ble_eq_true rfl⟩ ⟨Nat.le_of_ble_eq_true rfl, Nat.le_of_ble_eq_true rfl⟩ dX12_readClause_59 (fun f11 H locs hf11 hG hS => ?_)
            refine lv_pop X.1 X.2.1 dX12_readClause_62 rfl ?_
            exact sg_vret2 X hr hlk hS (fun t ht hW => (Or.inl (sg_post hb hK hC hG hS ht hW))) dX12_readClause_63
        · refine lv_iconst (v := 1) X.1 X.2.1 dX12_readClause_48 (by decide +kernel) ?_
          refine lv_goto (tgt := 53) X.1 X.2.1 dX12_readClause_49 (by decide) ?_
          refine lv_istore_n (lv' := [(2, .int 1), (1, .int f1), (0, .ref a0)]) X.1 X.2.1 dX12_readClause_53 rfl hl (by decide) rfl (fun ls hl => ?_)
          refine lv_iload_n X.1 X.2.1 dX12_readClause_54 rfl (lv_at hl 0 rfl) ?_
          refine lv_if_ne (tgt := 64) X.1 X.2.1 dX12_readClause_55 (by decide) (fun c12 => ?_) (fun c12 => ?_)
          · refine lv_aload_n X.1 X.2.1 dX12_readClause_64 rfl (lv_at hl 2 rfl) ?_
            refine lv_dup X.1 X.2.1 dX12_readClause_65 rfl ?_
            refine gg_X12_10r X hK hG h0 wl_6_188 kv2 dX12_readClause_66 ?_
            refine lv_iconst (v := 1) X.1 X.2.1 dX12_readClause_69 (by decide +kernel) ?_
            refine lv_iadd X.1 X.2.1 dX12_readClause_70 ?_
            refine lv_topi (fun f13 ef13 => ?_)
            have sf13 : f13.toInt = v2.toInt + 1 := sg_inc (k := 1) ef13 (sg_lk (iv_eqm (a' := 98) (b' := 98) c5 hf1 (iv_c 98 (a := 98) (b := 98) (by decide +kernel)) (by decide +kernel)) lv2 hv2) (by decide +kernel)
            have uf13 : f13.toInt ≤ 241 := Int.le_trans ((iv_add (a' := 1) (b' := 240) ef13 (sg_lk (iv_eqm (a' := 98) (b' := 98) c5 hf1 (iv_c 98 (a := 98) (b := 98) (by decide +kernel)) (by decide +kernel)) lv2 hv2) (iv_c 1 (a := 1) (b := 1) (by decide +kernel)) (by decide +kernel))).2 (by omega)
            refine pf_X12_10R (lo2 := f13.toInt) (hi2 := 241) X hK hG hS h0 wl_6_188 ⟨_, rfl, Int.le_refl _, uf13⟩ dX12_readClause_71 (fun H locs hG hS => ?_)
            refine lv_iload_n X.1 X.2.1 dX12_readClause_74 rfl (lv_at hl 1 rfl) ?_
            refine lv_bipush (v := 115) X.1 X.2.1 dX12_readClause_75 (by decide +kernel) ?_
            refine lv_icmp_ne (tgt := 97) X.1 X.2.1 dX12_readClause_77 (by decide) (fun c14 => ?_) (fun c14 => ?_)
            · refine lv_aload_n X.1 X.2.1 dX12_readClause_97 rfl (lv_at hl 2 rfl) ?_
              refine lv_iload_n X.1 X.2.1 dX12_readClause_98 rfl (lv_at hl 1 rfl) ?_
              refine lv_aload_n X.1 X.2.1 dX12_readClause_99 rfl (lv_at hl 2 rfl) ?_
              refine gf_X12_20r X hK hG h0 wl_6_198 dX12_readClause_100 (fun q15 hq15 kq15 => ?_)
              obtain ⟨t16, vt16, pt16, rt16⟩ := hC.2.2.2.2.1
              refine va_ldcS X.1 X.2.1 X.2.2.2.1 rt16 dX12_readClause_103 ?_
              refine ca_X12_readItems_o X hK hG hC hS hb pt16 a0 h0 f1 q15 hq15 ⟨by omega, by omega, by omega, by omega, by omega⟩ (by omega) (sg_htb (by decide +kernel)) wl_7_146 hl.1 (rest := []) rfl (Nat.le_of_ble_eq_true rfl) ⟨Nat.le_of_ble_eq_true rfl, Nat.le_of_ble_eq_true rfl⟩ ⟨Nat.le_of_ble_eq_true rfl, Nat.le_of_ble_eq_true rfl⟩ dX12_readClause_105 (fun tg17 H locs htg17 hWg17 hS => ?_)
              have hG := hWg17.2.2.2
              rw [htg17] at hG
              refine lv_aload_n X.1 X.2.1 dX12_readClause_108 rfl (lv_at hl 2 rfl) ?_
              refine gf_X12_11r X hK hG h0 wl_6_189 dX12_readClause_109 (fun f18 hf18 kf18 => ?_)
              have ⟨laf18, uaf18⟩ : (-1) ≤ f18.toInt ∧ f18.toInt ≤ 241 := hf18
              have hf18 : iv (-1) 241 f18 := ⟨by omega, by omega⟩
              refine lv_iconst (v := (-1)) X.1 X.2.1 dX12_readClause_112 (by decide +kernel) ?_
              refine lv_icmp_eq (tgt := 117) X.1 X.2.1 dX12_readClause_113 (by decide) (fun c19 => ?_) (fun c19 => ?_)
              · refine lv_aload_n X.1 X.2.1 dX12_readClause_117 rfl (lv_at hl 2 rfl) ?_
                refine lv_aload_n X.1 X.2.1 dX12_readClause_118 rfl (lv_at hl 2 rfl) ?_
                refine gf_X12_31r X hK hG h0 wl_6_209 dX12_readClause_119 (fun f20 hf20 kf20 => ?_)
                have B22_151 : ∀ (locs : List Loc) (ls : Array Slot) (w22_0 : Int32), va_S (fun q : Nat => base ≤ q) s.heap H locs → lv_has ls 3 [(0, .ref a0), (1, .int f1)] → iv 0 1 w22_0 → W p l e (headSpec (Cond.code yX12_readClause cX12_readClause 3 none :: sg_tbl) ({ frames := 6, cells := 0, slots := 0, locals := 132 })).room s m #[.ref a0] below meth c H locs 0 0 (MQ below (va_Qv (fun (_ : Unit) => True) (fun _ => (fun t : State => sgB (KR b 0 lo 241 7 (-1) P) D vwCl base tys ad ks t ∨ sgB (KR b 0 lo 241 0 0 P) D vwCl base tys ad ks t)) (fun q : Nat => base ≤ q)) #[.ref a0] s 0 0 (fun q : Nat => base ≤ q)) (F0 m 151 ls [.int w22_0, .ref a0]) := by
                  intro locs ls w22_0 hS hl hw22_0
                  refine pf_X12_31r X hK hG hS h0 wl_6_209 ⟨_, rfl, hw22_0⟩ dX12_readClause_151 (fun H locs hG hS ku23 ru23 => ?_)
                  refine lv_iload_n X.1 X.2.1 dX12_readClause_154 rfl (lv_at hl 1 rfl) ?_
                  refine lv_bipush (v := 116) X.1 X.2.1 dX12_readClause_155 (by decide +kernel) ?_
                  refine lv_icmp_ne (tgt := 190) X.1 X.2.1 dX12_readClause_157 (by decide) (fun c24 => ?_) (fun c24 => ?_)
                  · refine lv_aload_n X.1 X.2.1 dX12_readClause_190 rfl (lv_at hl 0 rfl) ?_
                    refine lv_dup X.1 X.2.1 dX12_readClause_191 rfl ?_
                    refine gf_X12_26r X hK hG h0 wl_6_204 dX12_readClause_192 (fun f25 hf25 kf25 => ?_)
                    refine lv_iconst (v := 1) X.1 X.2.1 dX12_readClause_195 (by decide +kernel) ?_
                    refine lv_aload_n X.1 X.2.1 dX12_readClause_196 rfl (lv_at hl 0 rfl) ?_
                    refine gf_X12_20r X hK hG h0 wl_6_198 dX12_readClause_197 (fun q26 hq26 kq26 => ?_)
                    refine lv_iconst (v := 0) X.1 X.2.1 dX12_readClause_200 (by decide +kernel) ?_
                    refine al_51r X hK hG hq26 (iv_vpin (iv_c 0 (a := 0) (b := 0) (by decide +kernel)) (by decide +kernel)) dX12_readClause_201 (fun f27 hf27 => ?_)
                    refine lv_ishl X.1 X.2.1 dX12_readClause_202 ?_
                    refine lv_topi (fun f28 ef28 => ?_)
                    refine lv_ior X.1 X.2.1 dX12_readClause_203 ?_
                    refine lv_topi (fun f29 ef29 => ?_)
                    refine pf_X12_26r X hK hG hS h0 wl_6_204 ⟨_, rfl, (iv_top _)⟩ dX12_readClause_204 (fun H locs hG hS ku30 ru30 => ?_)
                    refine lv_aload_n X.1 X.2.1 dX12_readClause_207 rfl (lv_at hl 0 rfl) ?_
                    refine lv_dup X.1 X.2.1 dX12_readClause_208 rfl ?_
                    refine gf_X12_28r X hK hG h0 wl_6_206 dX12_readClause_209 (fun f31 hf31 kf31 => ?_)
                    refine lv_iconst (v := 1) X.1 X.2.1 dX12_readClause_212 (by decide +kernel) ?_
                    refine lv_iadd X.1 X.2.1 dX12_readClause_213 ?_
                    refine lv_topi (fun f32 ef32 => ?_)
                    refine pf_X12_28r X hK hG hS h0 wl_6_206 ⟨_, rfl, (iv_top _)⟩ dX12_readClause_214 (fun H locs hG hS ku33 ru33 => ?_)
                    have hG := sgr_weak (d' := 0) (lo' := lo) (hi' := 241) (f' := (-1)) hG (by omega) (by omega) (by omega) (by omega)
                    exact sg_vret2 X hr hlk hS (fun t ht hW => (Or.inl (sg_post hb hK hC hG hS ht hW))) dX12_readClause_217
                  · exact ((iv_no (a := 116) (b := 98) (iv_eqm c24 (iv_eqm (a' := 98) (b' := 98) c5 hf1 (iv_c 98 (a := 98) (b := 98) (by decide +kernel)) (by decide +kernel)) (iv_c 116 (a := 116) (b := 116) (by decide +kernel)) (by decide +kernel)) (by decide +kernel))).elim
                have B34_146 : ∀ (locs : List Loc) (ls : Array Slot), va_S (fun q : Nat => base ≤ q) s.heap H locs → lv_has ls 3 [(0, .ref a0), (1, .int f1)] → W p l e (headSpec (Cond.code yX12_readClause cX12_readClause 3 none :: sg_tbl) ({ frames := 6, cells := 0, slots := 0, locals := 132 })).room s m #[.ref a0] below meth c H locs 0 0 (MQ below (va_Qv (fun (_ : Unit) => True) (fun _ => (fun t : State => sgB (KR b 0 lo 241 7 (-1) P) D vwCl base tys ad ks t ∨ sgB (KR b 0 lo 241 0 0 P) D vwCl base tys ad ks t)) (fun q : Nat => base ≤ q)) #[.ref a0] s 0 0 (fun q : Nat => base ≤ q)) (F0 m 146 ls [.ref a0]) := by
                  intro locs ls hS hl
                  refine lv_iconst (v := 1) X.1 X.2.1 dX12_readClause_146 (by decide +kernel) ?_
                  refine lv_goto (tgt := 151) X.1 X.2.1 dX12_readClause_147 (by decide) ?_
                  exact B22_151 _ _ 1 hS (lv_sub hl [0, 1] rfl) (iv_of (iv_c 1 (a := 1) (b := 1) (by decide +kernel)) (a' := 0) (b' := 1) (by decide +kernel))
                refine lv_if_ne (tgt := 146) X.1 X.2.1 dX12_readClause_122 (by decide) (fun c21 => ?_) (fun c21 => ?_)
                · exact B34_146 _ _ hS (lv_sub hl [2, 1] rfl)
                · refine lv_aload_n X.1 X.2.1 dX12_readClause_125 rfl (lv_at hl 2 rfl) ?_
                  refine gf_X12_25r X hK hG h0 wl_6_203 dX12_readClause_126 (fun f35 hf35 kf35 => ?_)
                  refine lv_aload_n X.1 X.2.1 dX12_readClause_129 rfl (lv_at hl 2 rfl) ?_
                  refine gf_X12_26r X hK hG h0 wl_6_204 dX12_readClause_130 (fun f36 hf36 kf36 => ?_)
                  refine lv_ior X.1 X.2.1 dX12_readClause_133 ?_
                  refine lv_topi (fun f37 ef37 => ?_)
                  refine lv_aload_n X.1 X.2.1 dX12_readClause_134 rfl (lv_at hl 2 rfl) ?_
                  refine gf_X12_20r X hK hG h0 wl_6_198 dX12_readClause_135 (fun q38 hq38 kq38 => ?_)
                  refine lv_iconst (v := 0) X.1 X.2.1 dX12_readClause_138 (by decide +kernel) ?_
                  refine al_51r X hK hG hq38 (iv_vpin (iv_c 0 (a := 0) (b := 0) (by decide +kernel)) (by decide +kernel)) dX12_readClause_139 (fun f39 hf39 => ?_)
                  refine ca_X12_has X hK (sgr_toKT hG (by omega) (by omega) (by omega)) hC (fun _ h => h) hS hb f37 f39 wl_7_174 hl.1 (rest := [.ref a0]) rfl (Nat.le_of_ble_eq_true rfl) ⟨Nat.le_of_ble_eq_true rfl, Nat.le_of_ble_eq_true rfl⟩ ⟨Nat.le_of_ble_eq_true rfl, Nat.le_of_ble_eq_true rfl⟩ dX12_readClause_140 (fun f40 locs hf40 hS => ?_)
                  refine lv_if_eq (tgt := 150) X.1 X.2.1 dX12_readClause_143 (by decide) (fun c41 => ?_) (fun c41 => ?_)
                  · refine lv_iconst (v := 0) X.1 X.2.1 dX12_readClause_150 (by decide +kernel) ?_
                    exact B22_151 _ _ 0 hS (lv_sub hl [2, 1] rfl) (iv_of (iv_c 0 (a := 0) (b := 0) (by decide +kernel)) (a' := 0) (b' := 1) (by decide +kernel))
                  · exact B34_146 _ _ hS (lv_sub hl [2, 1] rfl)
              · have hG := sgr_weak (d' := 0) (lo' := lo) (hi' := 241) (f' := (-1)) hG (by omega) (by omega) (by omega) (by omega)
                exact sg_vret2 X hr hlk hS (fun t ht hW => (Or.inl (sg_post hb hK hC hG hS ht hW))) dX12_readClause_116
            · exact ((iv_no (a := 115) (b := 98) (iv_eqm c14 (iv_eqm (a' := 98) (b' := 98) c5 hf1 (iv_c 98 (a := 98) (b := 98) (by decide +kernel)) (by decide +kernel)) (iv_c 115 (a := 115) (b := 115) (by decide +kernel)) (by decide +kernel)) (by decide +kernel))).elim
          · exact ((iv_no (a := 1) (b := 0) (iv_eqm c12 (iv_c 1 (a := 1) (b := 1) (by decide +kernel)) (iv_c 0 (a := 0) (b := 0) (by decide +kernel)) (by decide +kernel)) (by decide +kernel))).elim
    · refine lv_aload_n X.1 X.2.1 dX12_readClause_24 rfl (lv_at hl 1 rfl) ?_
      refine gf_X12_27r X hK hG h0 wl_6_205 dX12_readClause_25 (fun f42 hf42 kf42 => ?_)
      refine lv_bipush (v := 12) X.1 X.2.1 dX12_readClause_28 (by decide +kernel) ?_
      refine lv_icmp_lt (tgt := 48) X.1 X.2.1 dX12_readClause_30 (by decide) (fun c43 => ?_) (fun c43 => ?_)
      · refine lv_iconst (v := 1) X.1 X.2.1 dX12_readClause_48 (by decide +kernel) ?_
        refine lv_goto (tgt := 53) X.1 X.2.1 dX12_readClause_49 (by decide) ?_
        refine lv_istore_n (lv' := [(2, .int 1), (1, .int f1), (0, .ref a0)]) X.1 X.2.1 dX12_readClause_53 rfl hl (by decide) rfl (fun ls hl => ?_)
        refine lv_iload_n X.1 X.2.1 dX12_readClause_54 rfl (lv_at hl 0 rfl) ?_
        refine lv_if_ne (tgt := 64) X.1 X.2.1 dX12_readClause_55 (by decide) (fun c44 => ?_) (fun c44 => ?_)
        · refine lv_aload_n X.1 X.2.1 dX12_readClause_64 rfl (lv_at hl 2 rfl) ?_
          refine lv_dup X.1 X.2.1 dX12_readClause_65 rfl ?_
          refine gg_X12_10r X hK hG h0 wl_6_188 kv2 dX12_readClause_66 ?_
          refine lv_iconst (v := 1) X.1 X.2.1 dX12_readClause_69 (by decide +kernel) ?_
          refine lv_iadd X.1 X.2.1 dX12_readClause_70 ?_
          refine lv_topi (fun f45 ef45 => ?_)
          have sf45 : f45.toInt = v2.toInt + 1 := sg_inc (k := 1) ef45 (sg_lk (iv_eqm (a' := 116) (b' := 116) c4 hf1 (iv_c 116 (a := 116) (b := 116) (by decide +kernel)) (by decide +kernel)) lv2 hv2) (by decide +kernel)
          have uf45 : f45.toInt ≤ 241 := Int.le_trans ((iv_add (a' := 1) (b' := 240) ef45 (sg_lk (iv_eqm (a' := 116) (b' := 116) c4 hf1 (iv_c 116 (a := 116) (b := 116) (by decide +kernel)) (by decide +kernel)) lv2 hv2) (iv_c 1 (a := 1) (b := 1) (by decide +kernel)) (by decide +kernel))).2 (by omega)
          refine pf_X12_10R (lo2 := f45.toInt) (hi2 := 241) X hK hG hS h0 wl_6_188 ⟨_, rfl, Int.le_refl _, uf45⟩ dX12_readClause_71 (fun H locs hG hS => ?_)
          refine lv_iload_n X.1 X.2.1 dX12_readClause_74 rfl (lv_at hl 1 rfl) ?_
          refine lv_bipush (v := 115) X.1 X.2.1 dX12_readClause_75 (by decide +kernel) ?_
          refine lv_icmp_ne (tgt := 97) X.1 X.2.1 dX12_readClause_77 (by decide) (fun c46 => ?_) (fun c46 => ?_)
          · refine lv_aload_n X.1 X.2.1 dX12_readClause_97 rfl (lv_at hl 2 rfl) ?_
            refine lv_iload_n X.1 X.2.1 dX12_readClause_98 rfl (lv_at hl 1 rfl) ?_
            refine lv_aload_n X.1 X.2.1 dX12_readClause_99 rfl (lv_at hl 2 rfl) ?_
            refine gf_X12_20r X hK hG h0 wl_6_198 dX12_readClause_100 (fun q47 hq47 kq47 => ?_)
            obtain ⟨t48, vt48, pt48, rt48⟩ := hC.2.2.2.2.1
            refine va_ldcS X.1 X.2.1 X.2.2.2.1 rt48 dX12_readClause_103 ?_
            refine ca_X12_readItems_o X hK hG hC hS hb pt48 a0 h0 f1 q47 hq47 ⟨by omega, by omega, by omega, by omega, by omega⟩ (by omega) (sg_htb (by decide +kernel)) wl_7_146 hl.1 (rest := []) rfl (Nat.le_of_ble_eq_true rfl) ⟨Nat.le_of_ble_eq_true rfl, Nat.le_of_ble_eq_true rfl⟩ ⟨Nat.le_of_ble_eq_true rfl, Nat.le_of_ble_eq_true rfl⟩ dX12_readClause_105 (fun tg49 H locs htg49 hWg49 hS => ?_)
            have hG := hWg49.2.2.2
            rw [htg49] at hG
            refine lv_aload_n X.1 X.2.1 dX12_readClause_108 rfl (lv_at hl 2 rfl) ?_
            refine gf_X12_11r X hK hG h0 wl_6_189 dX12_readClause_109 (fun f50 hf50 kf50 => ?_)
            have ⟨laf50, uaf50⟩ : (-1) ≤ f50.toInt ∧ f50.toInt ≤ 241 := hf50
            have hf50 : iv (-1) 241 f50 := ⟨by omega, by omega⟩
            refine lv_iconst (v := (-1)) X.1 X.2.1 dX12_readClause_112 (by decide +kernel) ?_
            refine lv_icmp_eq (tgt := 117) X.1 X.2.1 dX12_readClause_113 (by decide) (fun c51 => ?_) (fun c51 => ?_)
            · refine lv_aload_n X.1 X.2.1 dX12_readClause_117 rfl (lv_at hl 2 rfl) ?_
              refine lv_aload_n X.1 X.2.1 dX12_readClause_118 rfl (lv_at hl 2 rfl) ?_
              refine gf_X12_31r X hK hG h0 wl_6_209 dX12_readClause_119 (fun f52 hf52 kf52 => ?_)
              have B54_151 : ∀ (locs : List Loc) (ls : Array Slot) (w54_0 : Int32), va_S (fun q : Nat => base ≤ q) s.heap H locs → lv_has ls 3 [(0, .ref a0), (1, .int f1)] → iv 0 1 w54_0 → W p l e (headSpec (Cond.code yX12_readClause cX12_readClause 3 none :: sg_tbl) ({ frames := 6, cells := 0, slots := 0, locals := 132 })).room s m #[.ref a0] below meth c H locs 0 0 (MQ below (va_Qv (fun (_ : Unit) => True) (fun _ => (fun t : State => sgB (KR b 0 lo 241 7 (-1) P) D vwCl base tys ad ks t ∨ sgB (KR b 0 lo 241 0 0 P) D vwCl base tys ad ks t)) (fun q : Nat => base ≤ q)) #[.ref a0] s 0 0 (fun q : Nat => base ≤ q)) (F0 m 151 ls [.int w54_0, .ref a0]) := by
                intro locs ls w54_0 hS hl hw54_0
                refine pf_X12_31r X hK hG hS h0 wl_6_209 ⟨_, rfl, hw54_0⟩ dX12_readClause_151 (fun H locs hG hS ku55 ru55 => ?_)
                refine lv_iload_n X.1 X.2.1 dX12_readClause_154 rfl (lv_at hl 1 rfl) ?_
                refine lv_bipush (v := 116) X.1 X.2.1 dX12_readClause_155 (by decide +kernel) ?_
                refine lv_icmp_ne (tgt := 190) X.1 X.2.1 dX12_readClause_157 (by decide) (fun c56 => ?_) (fun c56 => ?_)
                · exact ((c56 (iv_one (iv_eqm (a' := 116) (b' := 116) c4 hf1 (iv_c 116 (a := 116) (b := 116) (by decide +kernel)) (by decide +kernel)) (iv_c 116 (a := 116) (b := 116) (by decide +kernel)) (by decide +kernel)))).elim
                · refine lv_aload_n X.1 X.2.1 dX12_readClause_160 rfl (lv_at hl 0 rfl) ?_
                  refine lv_dup X.1 X.2.1 dX12_readClause_161 rfl ?_
                  refine gf_X12_25r X hK hG h0 wl_6_203 dX12_readClause_162 (fun f57 hf57 kf57 => ?_)
                  refine lv_iconst (v := 1) X.1 X.2.1 dX12_readClause_165 (by decide +kernel) ?_
                  refine lv_aload_n X.1 X.2.1 dX12_readClause_166 rfl (lv_at hl 0 rfl) ?_
                  refine gf_X12_20r X hK hG h0 wl_6_198 dX12_readClause_167 (fun q58 hq58 kq58 => ?_)
                  refine lv_iconst (v := 0) X.1 X.2.1 dX12_readClause_170 (by decide +kernel) ?_
                  refine al_51r X hK hG hq58 (iv_vpin (iv_c 0 (a := 0) (b := 0) (by decide +kernel)) (by decide +kernel)) dX12_readClause_171 (fun f59 hf59 => ?_)
                  refine lv_ishl X.1 X.2.1 dX12_readClause_172 ?_
                  refine lv_topi (fun f60 ef60 => ?_)
                  refine lv_ior X.1 X.2.1 dX12_readClause_173 ?_
                  refine lv_topi (fun f61 ef61 => ?_)
                  refine pf_X12_25r X hK hG hS h0 wl_6_203 ⟨_, rfl, (iv_top _)⟩ dX12_readClause_174 (fun H locs hG hS ku62 ru62 => ?_)
                  refine lv_aload_n X.1 X.2.1 dX12_readClause_177 rfl (lv_at hl 0 rfl) ?_
                  refine lv_dup X.1 X.2.1 dX12_readClause_178 rfl ?_
                  refine gf_X12_27r X hK hG h0 wl_6_205 dX12_readClause_179 (fun f63 hf63 kf63 => ?_)
                  refine lv_iconst (v := 1) X.1 X.2.1 dX12_readClause_182 (by decide +kernel) ?_
                  refine lv_iadd X.1 X.2.1 dX12_readClause_183 ?_
                  refine lv_topi (fun f64 ef64 => ?_)
                  refine pf_X12_27r X hK hG hS h0 wl_6_205 ⟨_, rfl, (iv_top _)⟩ dX12_readClause_184 (fun H locs hG hS ku65 ru65 => ?_)
                  refine lv_goto (tgt := 217) X.1 X.2.1 dX12_readClause_187 (by decide) ?_
                  have hG := sgr_weak (d' := 0) (lo' := lo) (hi' := 241) (f' := (-1)) hG (by omega) (by omega) (by omega) (by omega)
                  exact sg_vret2 X hr hlk hS (fun t ht hW => (Or.inl (sg_post hb hK hC hG hS ht hW))) dX12_readClause_217
              have B66_146 : ∀ (locs : List Loc) (ls : Array Slot), va_S (fun q : Nat => base ≤ q) s.heap H locs → lv_has ls 3 [(0, .ref a0), (1, .int f1)] → W p l e (headSpec (Cond.code yX12_readClause cX12_readClause 3 none :: sg_tbl) ({ frames := 6, cells := 0, slots := 0, locals := 132 })).room s m #[.ref a0] below meth c H locs 0 0 (MQ below (va_Qv (fun (_ : Unit) => True) (fun _ => (fun t : State => sgB (KR b 0 lo 241 7 (-1) P) D vwCl base tys ad ks t ∨ sgB (KR b 0 lo 241 0 0 P) D vwCl base tys ad ks t)) (fun q : Nat => base ≤ q)) #[.ref a0] s 0 0 (fun q : Nat => base ≤ q)) (F0 m 146 ls [.ref a0]) := by
                intro locs ls hS hl
                refine lv_iconst (v := 1) X.1 X.2.1 dX12_readClause_146 (by decide +kernel) ?_
                refine lv_goto (tgt := 151) X.1 X.2.1 dX12_readClause_147 (by decide) ?_
                exact B54_151 _ _ 1 hS (lv_sub hl [0, 1] rfl) (iv_of (iv_c 1 (a := 1) (b := 1) (by decide +kernel)) (a' := 0) (b' := 1) (by decide +kernel))
              refine lv_if_ne (tgt := 146) X.1 X.2.1 dX12_readClause_122 (by decide) (fun c53 => ?_) (fun c53 => ?_)
              · exact B66_146 _ _ hS (lv_sub hl [2, 1] rfl)
              · refine lv_aload_n X.1 X.2.1 dX12_readClause_125 rfl (lv_at hl 2 rfl) ?_
                refine gf_X12_25r X hK hG h0 wl_6_203 dX12_readClause_126 (fun f67 hf67 kf67 => ?_)
                refine lv_aload_n X.1 X.2.1 dX12_readClause_129 rfl (lv_at hl 2 rfl) ?_
                refine gf_X12_26r X hK hG h0 wl_6_204 dX12_readClause_130 (fun f68 hf68 kf68 => ?_)
                refine lv_ior X.1 X.2.1 dX12_readClause_133 ?_
                refine lv_topi (fun f69 ef69 => ?_)
                refine lv_aload_n X.1 X.2.1 dX12_readClause_134 rfl (lv_at hl 2 rfl) ?_
                refine gf_X12_20r X hK hG h0 wl_6_198 dX12_readClause_135 (fun q70 hq70 kq70 => ?_)
                refine lv_iconst (v := 0) X.1 X.2.1 dX12_readClause_138 (by decide +kernel) ?_
                refine al_51r X hK hG hq70 (iv_vpin (iv_c 0 (a := 0) (b := 0) (by decide +kernel)) (by decide +kernel)) dX12_readClause_139 (fun f71 hf71 => ?_)
                refine ca_X12_has X hK (sgr_toKT hG (by omega) (by omega) (by omega)) hC (fun _ h => h) hS hb f69 f71 wl_7_174 hl.1 (rest := [.ref a0]) rfl (Nat.le_of_ble_eq_true rfl) ⟨Nat.le_of_ble_eq_true rfl, Nat.le_of_ble_eq_true rfl⟩ ⟨Nat.le_of_ble_eq_true rfl, Nat.le_of_ble_eq_true rfl⟩ dX12_readClause_140 (fun f72 locs hf72 hS => ?_)
                refine lv_if_eq (tgt := 150) X.1 X.2.1 dX12_readClause_143 (by decide) (fun c73 => ?_) (fun c73 => ?_)
                · refine lv_iconst (v := 0) X.1 X.2.1 dX12_readClause_150 (by decide +kernel) ?_
                  exact B54_151 _ _ 0 hS (lv_sub hl [2, 1] rfl) (iv_of (iv_c 0 (a := 0) (b := 0) (by decide +kernel)) (a' := 0) (b' := 1) (by decide +kernel))
                · exact B66_146 _ _ hS (lv_sub hl [2, 1] rfl)
            · have hG := sgr_weak (d' := 0) (lo' := lo) (hi' := 241) (f' := (-1)) hG (by omega) (by omega) (by omega) (by omega)
              exact sg_vret2 X hr hlk hS (fun t ht hW => (Or.inl (sg_post hb hK hC hG hS ht hW))) dX12_readClause_116
          · exact ((iv_no (a := 116) (b := 115) (iv_eqm c46 (iv_eqm (a' := 116) (b' := 116) c4 hf1 (iv_c 116 (a := 116) (b := 116) (by decide +kernel)) (by decide +kernel)) (iv_c 115 (a := 115) (b := 115) (by decide +kernel)) (by decide +kernel)) (by decide +kernel))).elim
        · exact ((iv_no (a := 1) (b := 0) (iv_eqm c44 (iv_c 1 (a := 1) (b := 1) (by decide +kernel)) (iv_c 0 (a := 0) (b := 0) (by decide +kernel)) (by decide +kernel)) (by decide +kernel))).elim
      · refine lv_iload_n X.1 X.2.1 dX12_readClause_33 rfl (lv_at hl 0 rfl) ?_
        refine lv_bipush (v := 98) X.1 X.2.1 dX12_readClause_34 (by decide +kernel) ?_
        refine lv_icmp_ne (tgt := 52) X.1 X.2.1 dX12_readClause_36 (by decide) (fun c74 => ?_) (fun c74 => ?_)
        · refine lv_iconst (v := 0) X.1 X.2.1 dX12_readClause_52 (by decide +kernel) ?_
          refine lv_istore_n (lv' := [(2, .int 0), (1, .int f1), (0, .ref a0)]) X.1 X.2.1 dX12_readClause_53 rfl hl (by decide) rfl (fun ls hl => ?_)
          refine lv_iload_n X.1 X.2.1 dX12_readClause_54 rfl (lv_at hl 0 rfl) ?_
          refine lv_if_ne (tgt := 64) X.1 X.2.1 dX12_readClause_55 (by decide) (fun c75 => ?_) (fun c75 => ?_)
          · exact ((c75 (iv_one (iv_c 0 (a := 0) (b := 0) (by decide +kernel)) (iv_c 0 (a := 0) (b := 0) (by decide +kernel)) (by decide +kernel)))).elim
          · refine lv_aload_n X.1 X.2.1 dX12_readClause_58 rfl (lv_at hl 2 rfl) ?_
            refine ca_X12_fails X hK hG hC hS hb a0 h0 ⟨by omega, by omega, by omega, by omega, by omega⟩ wl_7_141 hl.1 (rest := []) rfl (Nat.le_of_ble_eq_true rfl) ⟨Nat.le_of_ble_eq_true rfl, Nat.le_of_ble_eq_true rfl⟩ ⟨Nat.le_of_ble_eq_true rfl, Nat.le_of_ble_eq_true rfl⟩ dX12_readClause_59 (fun f76 H locs hf76 hG hS => ?_)
            refine lv_pop X.1 X.2.1 dX12_readClause_62 rfl ?_
            exact sg_vret2 X hr hlk hS (fun t ht hW => (Or.inl (sg_post hb hK hC hG hS ht hW))) dX12_readClause_63
        · exact ((iv_no (a := 116) (b := 98) (iv_eqm c74 (iv_eqm (a' := 116) (b' := 116) c4 hf1 (iv_c 116 (a := 116) (b := 116) (by decide +kernel)) (by decide +kernel)) (iv_c 98 (a := 98) (b := 98) (by decide +kernel)) (by decide +kernel)) (by decide +kernel))).elim
  · refine lv_aload_n X.1 X.2.1 dX12_readClause_11 rfl (lv_at hl 1 rfl) ?_
    refine gf_X12_30r X hK hG h0 wl_6_208 dX12_readClause_12 (fun f77 hf77 kf77 => ?_)
    refine lv_if_eq (tgt := 48) X.1 X.2.1 dX12_readClause_15 (by decide) (fun c78 => ?_) (fun c78 => ?_)
    · refine lv_iconst (v := 1) X.1 X.2.1 dX12_readClause_48 (by decide +kernel) ?_
      refine lv_goto (tgt := 53) X.1 X.2.1 dX12_readClause_49 (by decide) ?_
      refine lv_istore_n (lv' := [(2, .int 1), (1, .int f1), (0, .ref a0)]) X.1 X.2.1 dX12_readClause_53 rfl hl (by decide) rfl (fun ls hl => ?_)
      refine lv_iload_n X.1 X.2.1 dX12_readClause_54 rfl (lv_at hl 0 rfl) ?_
      refine lv_if_ne (tgt := 64) X.1 X.2.1 dX12_readClause_55 (by decide) (fun c79 => ?_) (fun c79 => ?_)
      · refine lv_aload_n X.1 X.2.1 dX12_readClause_64 rfl (lv_at hl 2 rfl) ?_
        refine lv_dup X.1 X.2.1 dX12_readClause_65 rfl ?_
        refine gg_X12_10r X hK hG h0 wl_6_188 kv2 dX12_readClause_66 ?_
        refine lv_iconst (v := 1) X.1 X.2.1 dX12_readClause_69 (by decide +kernel) ?_
        refine lv_iadd X.1 X.2.1 dX12_readClause_70 ?_
        refine lv_topi (fun f80 ef80 => ?_)
        have sf80 : f80.toInt = v2.toInt + 1 := sg_inc (k := 1) ef80 (sg_lk (iv_eqm (a' := 115) (b' := 115) c3 hf1 (iv_c 115 (a := 115) (b := 115) (by decide +kernel)) (by decide +kernel)) lv2 hv2) (by decide +kernel)
        have uf80 : f80.toInt ≤ 241 := Int.le_trans ((iv_add (a' := 1) (b' := 240) ef80 (sg_lk (iv_eqm (a' := 115) (b' := 115) c3 hf1 (iv_c 115 (a := 115) (b := 115) (by decide +kernel)) (by decide +kernel)) lv2 hv2) (iv_c 1 (a := 1) (b := 1) (by decide +kernel)) (by decide +kernel))).2 (by omega)
        refine pf_X12_10R (lo2 := f80.toInt) (hi2 := 241) X hK hG hS h0 wl_6_188 ⟨_, rfl, Int.le_refl _, uf80⟩ dX12_readClause_71 (fun H locs hG hS => ?_)
        refine lv_iload_n X.1 X.2.1 dX12_readClause_74 rfl (lv_at hl 1 rfl) ?_
        refine lv_bipush (v := 115) X.1 X.2.1 dX12_readClause_75 (by decide +kernel) ?_
        refine lv_icmp_ne (tgt := 97) X.1 X.2.1 dX12_readClause_77 (by decide) (fun c81 => ?_) (fun c81 => ?_)
        · exact ((c81 (iv_one (iv_eqm (a' := 115) (b' := 115) c3 hf1 (iv_c 115 (a := 115) (b := 115) (by decide +kernel)) (by decide +kernel)) (iv_c 115 (a := 115) (b := 115) (by decide +kernel)) (by decide +kernel)))).elim
        · refine lv_aload_n X.1 X.2.1 dX12_readClause_80 rfl (lv_at hl 2 rfl) ?_
          refine lv_iconst (v := 1) X.1 X.2.1 dX12_readClause_81 (by decide +kernel) ?_
          refine pf_X12_30r X hK hG hS h0 wl_6_208 ⟨_, rfl, (iv_of (iv_c 1 (a := 1) (b := 1) (by decide +kernel)) (a' := 0) (b' := 1) (by decide +kernel))⟩ dX12_readClause_82 (fun H locs hG hS ku82 ru82 => ?_)
          refine lv_aload_n X.1 X.2.1 dX12_readClause_85 rfl (lv_at hl 2 rfl) ?_
          refine lv_iload_n X.1 X.2.1 dX12_readClause_86 rfl (lv_at hl 1 rfl) ?_
          refine lv_aload_n X.1 X.2.1 dX12_readClause_87 rfl (lv_at hl 2 rfl) ?_
          refine gf_X12_19r X hK hG h0 wl_6_197 dX12_readClause_88 (fun q83 hq83 kq83 => ?_)
          obtain ⟨t84, vt84, pt84, rt84⟩ := hC.2.2.2.1
          refine va_ldcS X.1 X.2.1 X.2.2.2.1 rt84 dX12_readClause_91 ?_
          refine ca_X12_readItems_s X hK hG hC hS hb pt84 a0 h0 f1 (iv_eqm (a' := 115) (b' := 115) c3 hf1 (iv_c 115 (a := 115) (b := 115) (by decide +kernel)) (by decide +kernel)) q83 hq83 ⟨by omega, by omega⟩ (sg_htb (by decide +kernel)) wl_7_146 hl.1 (rest := []) rfl (Nat.le_of_ble_eq_true rfl) ⟨Nat.le_of_ble_eq_true rfl, Nat.le_of_ble_eq_true rfl⟩ ⟨Nat.le_of_ble_eq_true rfl, Nat.le_of_ble_eq_true rfl⟩ dX12_readClause_93 (fun tg85 H locs htg85 hWg85 hS => ?_)
          rcases hWg85 with hBg85 | hBg85
          · have hG := hBg85.2.2.2
            rw [htg85] at hG
            have hG := sgr_weak (d' := 0) (lo' := lo) (hi' := 241) (f' := (-1)) hG (by omega) (by omega) (by omega) (by omega)
            exact sg_vret2 X hr hlk hS (fun t ht hW => (Or.inl (sg_post hb hK hC hG hS ht hW))) dX12_readClause_96
          · have hG := hBg85.2.2.2
            rw [htg85] at hG
            have hG := sgr_weak (d' := 0) (lo' := lo) (hi' := 241) (f' := 0) hG (by omega) (by omega) (by omega) (by omega)
            exact sg_vret2 X hr hlk hS (fun t ht hW => (Or.inr (sg_post hb hK hC hG hS ht hW))) dX12_readClause_96
      · exact ((iv_no (a := 1) (b := 0) (iv_eqm c79 (iv_c 1 (a := 1) (b := 1) (by decide +kernel)) (iv_c 0 (a := 0) (b := 0) (by decide +kernel)) (by decide +kernel)) (by decide +kernel))).elim
    · refine lv_iload_n X.1 X.2.1 dX12_readClause_18 rfl (lv_at hl 0 rfl) ?_
      refine lv_bipush (v := 116) X.1 X.2.1 dX12_readClause_19 (by decide +kernel) ?_
      refine lv_icmp_ne (tgt := 33) X.1 X.2.1 dX12_readClause_21 (by decide) (fun c86 => ?_) (fun c86 => ?_)
      · refine lv_iload_n X.1 X.2.1 dX12_readClause_33 rfl (lv_at hl 0 rfl) ?_
        refine lv_bipush (v := 98) X.1 X.2.1 dX12_readClause_34 (by decide +kernel) ?_
        refine lv_icmp_ne (tgt := 52) X.1 X.2.1 dX12_readClause_36 (by decide) (fun c87 => ?_) (fun c87 => ?_)
        · refine lv_iconst (v := 0) X.1 X.2.1 dX12_readClause_52 (by decide +kernel) ?_
          refine lv_istore_n (lv' := [(2, .int 0), (1, .int f1), (0, .ref a0)]) X.1 X.2.1 dX12_readClause_53 rfl hl (by decide) rfl (fun ls hl => ?_)
          refine lv_iload_n X.1 X.2.1 dX12_readClause_54 rfl (lv_at hl 0 rfl) ?_
          refine lv_if_ne (tgt := 64) X.1 X.2.1 dX12_readClause_55 (by decide) (fun c88 => ?_) (fun c88 => ?_)
          · exact ((c88 (iv_one (iv_c 0 (a := 0) (b := 0) (by decide +kernel)) (iv_c 0 (a := 0) (b := 0) (by decide +kernel)) (by decide +kernel)))).elim
          · refine lv_aload_n X.1 X.2.1 dX12_readClause_58 rfl (lv_at hl 2 rfl) ?_
            refine ca_X12_fails X hK hG hC hS hb a0 h0 ⟨by omega, by omega, by omega, by omega, by omega⟩ wl_7_141 hl.1 (rest := []) rfl (Nat.le_of_ble_eq_true rfl) ⟨Nat.le_of_ble_eq_true rfl, Nat.le_of_ble_eq_true rfl⟩ ⟨Nat.le_of_ble_eq_true rfl, Nat.le_of_ble_eq_true rfl⟩ dX12_readClause_59 (fun f89 H locs hf89 hG hS => ?_)
            refine lv_pop X.1 X.2.1 dX12_readClause_62 rfl ?_
            exact sg_vret2 X hr hlk hS (fun t ht hW => (Or.inl (sg_post hb hK hC hG hS ht hW))) dX12_readClause_63
        · exact ((iv_no (a := 115) (b := 98) (iv_eqm c87 (iv_eqm (a' := 115) (b' := 115) c3 hf1 (iv_c 115 (a := 115) (b := 115) (by decide +kernel)) (by decide +kernel)) (iv_c 98 (a := 98) (b := 98) (by decide +kernel)) (by decide +kernel)) (by decide +kernel))).elim
      · exact ((iv_no (a := 116) (b := 115) (iv_eqm c86 (iv_eqm (a' := 115) (b' := 115) c3 hf1 (iv_c 115 (a := 115) (b := 115) (by decide +kernel)) (by decide +kernel)) (iv_c 116 (a := 116) (b := 116) (by decide +kernel)) (by decide +kernel)) (by decide +kernel))).elim

theorem ca_X12_readClause  {b : Bool} {lo : Int}  (X : CallFix p m c cc nL s args sg_tbl own) (hK : va_K D vwCl tys s) (hG : sgG (KR b 0 lo 241 7 (-1) P) D vwCl (fun q : Nat => base ≤ q) tys ad ks H) (hC : sgC base s) (hS : va_S (fun q : Nat => base ≤ q) s.heap H locs) (hb : base ≤ s.heap.size) (a0 : Nat) (h0 : isK ad ks 12 a0) (hlo : 0 ≤ lo ∧ lo ≤ 241) (hl : Cond.methodLink own index yX12_readClause ∈ sg_tbl) (hsize : ls.size = nL) (hst : st0 = [].reverse ++ .ref a0 :: rest) (hW : (rest.map fun v => v.category).sum ≤ 8) (hR : 7 ≤ R.frames ∧ 154 ≤ R.locals) (hf : cells ≤ R.cells ∧ slots ≤ R.slots) (hdg : decode cc pc = .ok (.invokevirtual index, 3)) (kk : ∀ (t : State) (H1 : Heap) (locs1 : List Loc), t.heap = H1 → ((fun t : State => sgB (KR b 0 lo 241 7 (-1) P) D vwCl base tys ad ks t ∨ sgB (KR b 0 lo 241 0 0 P) D vwCl base tys ad ks t) t) → va_S (fun q : Nat => base ≤ q) s.heap H1 locs1 → W p l e R s m args below meth c H1 locs1 cells slots Q (F0 m (pc + 3) ls rest)) : W p l e R s m args below meth c H locs cells slots Q (F0 m pc ls st0) :=
  sg_callV2v X hK hG hC hS hb (m_X12_readClause l a0 h0 hlo) h0 (k := 12) (ci := 12) rfl (C := RX12) (T := TX12) (N := 53) rfl wl_7_136 wl_1_13 wl_7_135 wl_0_51 (n := 0) (by decide +kernel) rfl rfl rfl hl hsize hst hW hR hf hdg kk
end
