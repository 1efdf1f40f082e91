theorem dX12_missing_20 : decode cX12_missing 20 = .ok (.iload_n 2, 1) := by decide +kernel
theorem dX12_missing_21 : decode cX12_missing 21 = .ok (.ifCond .lt 18, 3) := by decide +kernel
theorem dX12_missing_24 : decode cX12_missing 24 = .ok (.iload_n 2, 1) := by decide +kernel
theorem dX12_missing_25 : decode cX12_missing 25 = .ok (.iconst 1, 1) := by decide +kernel
theorem dX12_missing_26 : decode cX12_missing 26 = .ok (.aload_n 0, 1) := by decide +kernel
theorem dX12_missing_27 : decode cX12_missing 27 = .ok (.getfield 302, 3) := by decide +kernel
theorem dX12_missing_30 : decode cX12_missing 30 = .ok (.ishl, 1) := by decide +kernel
theorem dX12_missing_31 : decode cX12_missing 31 = .ok (.if_icmp .ge 8, 3) := by decide +kernel
theorem dX12_missing_34 : decode cX12_missing 34 = .ok (.iload_n 3, 1) := by decide +kernel
theorem dX12_missing_35 : decode cX12_missing 35 = .ok (.iconst (-1), 1) := by decide +kernel
theorem dX12_missing_36 : decode cX12_missing 36 = .ok (.if_icmp .ge 5, 3) := by decide +kernel
theorem dX12_missing_41 : decode cX12_missing 41 = .ok (.iconst 0, 1) := by decide +kernel
theorem dX12_missing_42 : decode cX12_missing 42 = .ok (.istore 4, 2) := by decide +kernel
theorem dX12_missing_44 : decode cX12_missing 44 = .ok (.iconst 0, 1) := by decide +kernel
theorem dX12_missing_45 : decode cX12_missing 45 = .ok (.istore 5, 2) := by decide +kernel
theorem dX12_missing_47 : decode cX12_missing 47 = .ok (.iload 5, 2) := by decide +kernel
theorem dX12_missing_49 : decode cX12_missing 49 = .ok (.aload_n 0, 1) := by decide +kernel
theorem dX12_missing_50 : decode cX12_missing 50 = .ok (.getfield 49, 3) := by decide +kernel
theorem dX12_missing_53 : decode cX12_missing 53 = .ok (.iload_n 1, 1) := by decide +kernel
theorem dX12_missing_54 : decode cX12_missing 54 = .ok (.iaload, 1) := by decide +kernel
theorem dX12_missing_55 : decode cX12_missing 55 = .ok (.if_icmp .ge 56, 3) := by decide +kernel
theorem dX12_missing_58 : decode cX12_missing 58 = .ok (.iload 4, 2) := by decide +kernel
theorem dX12_missing_60 : decode cX12_missing 60 = .ok (.aload_n 0, 1) := by decide +kernel
theorem dX12_missing_61 : decode cX12_missing 61 = .ok (.getfield 46, 3) := by decide +kernel
theorem dX12_missing_64 : decode cX12_missing 64 = .ok (.iconst 4, 1) := by decide +kernel
theorem dX12_missing_65 : decode cX12_missing 65 = .ok (.bipush 16, 2) := by decide +kernel
theorem dX12_missing_67 : decode cX12_missing 67 = .ok (.iload_n 1, 1) := by decide +kernel
theorem dX12_missing_68 : decode cX12_missing 68 = .ok (.imul, 1) := by decide +kernel
theorem dX12_missing_69 : decode cX12_missing 69 = .ok (.iload 5, 2) := by decide +kernel
theorem dX12_missing_71 : decode cX12_missing 71 = .ok (.iadd, 1) := by decide +kernel
theorem dX12_missing_72 : decode cX12_missing 72 = .ok (.imul, 1) := by decide +kernel
theorem dX12_missing_73 : decode cX12_missing 73 = .ok (.iaload, 1) := by decide +kernel
theorem dX12_missing_74 : decode cX12_missing 74 = .ok (.ifCond .ne 27, 3) := by decide +kernel
theorem dX12_missing_77 : decode cX12_missing 77 = .ok (.aload_n 0, 1) := by decide +kernel
theorem dX12_missing_78 : decode cX12_missing 78 = .ok (.getfield 46, 3) := by decide +kernel
theorem dX12_missing_81 : decode cX12_missing 81 = .ok (.iconst 4, 1) := by decide +kernel
theorem dX12_missing_82 : decode cX12_missing 82 = .ok (.bipush 16, 2) := by decide +kernel
theorem dX12_missing_84 : decode cX12_missing 84 = .ok (.iload_n 1, 1) := by decide +kernel
theorem dX12_missing_85 : decode cX12_missing 85 = .ok (.imul, 1) := by decide +kernel
theorem dX12_missing_86 : decode cX12_missing 86 = .ok (.iload 5, 2) := by decide +kernel
theorem dX12_missing_88 : decode cX12_missing 88 = .ok (.iadd, 1) := by decide +kernel
theorem dX12_missing_89 : decode cX12_missing 89 = .ok (.imul, 1) := by decide +kernel
theorem dX12_missing_90 : decode cX12_missing 90 = .ok (.iconst 1, 1) := by decide +kernel
theorem dX12_missing_91 : decode cX12_missing 91 = .ok (.iadd, 1) := by decide +kernel
theorem dX12_missing_92 : decode cX12_missing 92 = .ok (.iaload, 1) := by decide +kernel
theorem dX12_missing_93 : decode cX12_missing 93 = .ok (.iconst (-1), 1) := by decide +kernel
theorem dX12_missing_94 : decode cX12_missing 94 = .ok (.if_icmp .ne 7, 3) := by decide +kernel
theorem dX12_missing_97 : decode cX12_missing 97 = .ok (.iconst 1, 1) := by decide +kernel
theorem dX12_missing_98 : decode cX12_missing 98 = .ok (.goto 4, 3) := by decide +kernel
theorem dX12_missing_101 : decode cX12_missing 101 = .ok (.iconst 0, 1) := by decide +kernel
theorem dX12_missing_102 : decode cX12_missing 102 = .ok (.iadd, 1) := by decide +kernel
theorem dX12_missing_103 : decode cX12_missing 103 = .ok (.istore 4, 2) := by decide +kernel
theorem dX12_missing_105 : decode cX12_missing 105 = .ok (.iinc 5 1, 3) := by decide +kernel
theorem dX12_missing_108 : decode cX12_missing 108 = .ok (.goto (-61), 3) := by decide +kernel
theorem dX12_missing_111 : decode cX12_missing 111 = .ok (.iload 4, 2) := by decide +kernel
theorem dX12_missing_113 : decode cX12_missing 113 = .ok (.iconst 3, 1) := by decide +kernel
theorem dX12_missing_114 : decode cX12_missing 114 = .ok (.if_icmp .le 5, 3) := by decide +kernel
theorem dX12_missing_117 : decode cX12_missing 117 = .ok (.iconst (-1), 1) := by decide +kernel
theorem dX12_missing_118 : decode cX12_missing 118 = .ok (.ireturn, 1) := by decide +kernel
theorem dX12_missing_119 : decode cX12_missing 119 = .ok (.iload 4, 2) := by decide +kernel
theorem dX12_missing_121 : decode cX12_missing 121 = .ok (.ifCond .ne 7, 3) := by decide +kernel
theorem dX12_missing_124 : decode cX12_missing 124 = .ok (.iconst 1, 1) := by decide +kernel
theorem dX12_missing_125 : decode cX12_missing 125 = .ok (.goto 29, 3) := by decide +kernel
theorem dX12_missing_128 : decode cX12_missing 128 = .ok (.iload 4, 2) := by decide +kernel
theorem dX12_missing_130 : decode cX12_missing 130 = .ok (.iconst 1, 1) := by decide +kernel
theorem dX12_missing_131 : decode cX12_missing 131 = .ok (.if_icmp .ne 8, 3) := by decide +kernel
theorem dX12_missing_134 : decode cX12_missing 134 = .ok (.bipush 30, 2) := by decide +kernel
theorem dX12_missing_136 : decode cX12_missing 136 = .ok (.goto 18, 3) := by decide +kernel
theorem dX12_missing_139 : decode cX12_missing 139 = .ok (.iload 4, 2) := by decide +kernel
theorem dX12_missing_141 : decode cX12_missing 141 = .ok (.iconst 2, 1) := by decide +kernel
theorem dX12_missing_142 : decode cX12_missing 142 = .ok (.if_icmp .ne 9, 3) := by decide +kernel
theorem dX12_missing_145 : decode cX12_missing 145 = .ok (.sipush 900, 3) := by decide +kernel
theorem dX12_missing_148 : decode cX12_missing 148 = .ok (.goto 6, 3) := by decide +kernel
theorem dX12_missing_151 : decode cX12_missing 151 = .ok (.sipush 27000, 3) := by decide +kernel
theorem dX12_missing_154 : decode cX12_missing 154 = .ok (.istore 5, 2) := by decide +kernel
theorem dX12_missing_156 : decode cX12_missing 156 = .ok (.iconst 0, 1) := by decide +kernel
theorem dX12_missing_157 : decode cX12_missing 157 = .ok (.istore 6, 2) := by decide +kernel
theorem dX12_missing_159 : decode cX12_missing 159 = .ok (.iconst 0, 1) := by decide +kernel
theorem dX12_missing_160 : decode cX12_missing 160 = .ok (.istore 7, 2) := by decide +kernel
theorem dX12_missing_162 : decode cX12_missing 162 = .ok (.iload 7, 2) := by decide +kernel
theorem dX12_missing_164 : decode cX12_missing 164 = .ok (.iload 5, 2) := by decide +kernel
theorem dX12_missing_166 : decode cX12_missing 166 = .ok (.if_icmp .ge 107, 3) := by decide +kernel
theorem dX12_missing_169 : decode cX12_missing 169 = .ok (.iload 7, 2) := by decide +kernel
theorem dX12_missing_171 : decode cX12_missing 171 = .ok (.istore 8, 2) := by decide +kernel
theorem dX12_missing_173 : decode cX12_missing 173 = .ok (.iconst 1, 1) := by decide +kernel
theorem dX12_missing_174 : decode cX12_missing 174 = .ok (.istore 9, 2) := by decide +kernel
theorem dX12_missing_176 : decode cX12_missing 176 = .ok (.iload 4, 2) := by decide +kernel
theorem dX12_missing_178 : decode cX12_missing 178 = .ok (.iconst 1, 1) := by decide +kernel
theorem dX12_missing_179 : decode cX12_missing 179 = .ok (.isub, 1) := by decide +kernel
theorem dX12_missing_180 : decode cX12_missing 180 = .ok (.istore 10, 2) := by decide +kernel
theorem dX12_missing_182 : decode cX12_missing 182 = .ok (.iload 10, 2) := by decide +kernel
theorem dX12_missing_184 : decode cX12_missing 184 = .ok (.ifCond .lt 54, 3) := by decide +kernel
theorem dX12_missing_187 : decode cX12_missing 187 = .ok (.aload_n 0, 1) := by decide +kernel
theorem dX12_missing_188 : decode cX12_missing 188 = .ok (.getfield 72, 3) := by decide +kernel
theorem dX12_missing_191 : decode cX12_missing 191 = .ok (.iload 10, 2) := by decide +kernel
theorem dX12_missing_193 : decode cX12_missing 193 = .ok (.iload 8, 2) := by decide +kernel
theorem dX12_missing_195 : decode cX12_missing 195 = .ok (.bipush 30, 2) := by decide +kernel
theorem dX12_missing_197 : decode cX12_missing 197 = .ok (.irem, 1) := by decide +kernel
theorem dX12_missing_198 : decode cX12_missing 198 = .ok (.iastore, 1) := by decide +kernel
theorem dX12_missing_199 : decode cX12_missing 199 = .ok (.iload 8, 2) := by decide +kernel
theorem dX12_missing_201 : decode cX12_missing 201 = .ok (.bipush 30, 2) := by decide +kernel
theorem dX12_missing_203 : decode cX12_missing 203 = .ok (.idiv, 1) := by decide +kernel
theorem dX12_missing_204 : decode cX12_missing 204 = .ok (.istore 8, 2) := by decide +kernel
theorem dX12_missing_206 : decode cX12_missing 206 = .ok (.iload 9, 2) := by decide +kernel
theorem dX12_missing_208 : decode cX12_missing 208 = .ok (.ifCond .eq 21, 3) := by decide +kernel
theorem dX12_missing_211 : decode cX12_missing 211 = .ok (.aload_n 0, 1) := by decide +kernel
theorem dX12_missing_212 : decode cX12_missing 212 = .ok (.getfield 72, 3) := by decide +kernel
theorem dX12_missing_215 : decode cX12_missing 215 = .ok (.iload 10, 2) := by decide +kernel
theorem dX12_missing_217 : decode cX12_missing 217 = .ok (.iaload, 1) := by decide +kernel
theorem dX12_missing_218 : decode cX12_missing 218 = .ok (.aload_n 0, 1) := by decide +kernel
theorem dX12_missing_219 : decode cX12_missing 219 = .ok (.getfield 302, 3) := by decide +kernel
theorem dX12_missing_222 : decode cX12_missing 222 = .ok (.if_icmp .ge 7, 3) := by decide +kernel
theorem dX12_missing_225 : decode cX12_missing 225 = .ok (.iconst 1, 1) := by decide +kernel
theorem dX12_missing_226 : decode cX12_missing 226 = .ok (.goto 4, 3) := by decide +kernel
theorem dX12_missing_229 : decode cX12_missing 229 = .ok (.iconst 0, 1) := by decide +kernel
theorem dX12_missing_230 : decode cX12_missing 230 = .ok (.istore 9, 2) := by decide +kernel
theorem dX12_missing_232 : decode cX12_missing 232 = .ok (.iinc 10 (-1), 3) := by decide +kernel
theorem dX12_missing_235 : decode cX12_missing 235 = .ok (.goto (-53), 3) := by decide +kernel
theorem dX12_missing_238 : decode cX12_missing 238 = .ok (.iload 9, 2) := by decide +kernel
theorem dX12_missing_240 : decode cX12_missing 240 = .ok (.ifCond .eq 27, 3) := by decide +kernel
theorem dX12_missing_243 : decode cX12_missing 243 = .ok (.aload_n 0, 1) := by decide +kernel
theorem dX12_missing_244 : decode cX12_missing 244 = .ok (.iload_n 1, 1) := by decide +kernel
theorem dX12_missing_245 : decode cX12_missing 245 = .ok (.iload_n 2, 1) := by decide +kernel
theorem dX12_missing_246 : decode cX12_missing 246 = .ok (.invokevirtual 465, 3) := by decide +kernel
theorem dX12_missing_249 : decode cX12_missing 249 = .ok (.ifCond .ne 6, 3) := by decide +kernel
theorem dX12_missing_252 : decode cX12_missing 252 = .ok (.goto 15, 3) := by decide +kernel
theorem dX12_missing_255 : decode cX12_missing 255 = .ok (.iload 6, 2) := by decide +kernel
theorem dX12_missing_257 : decode cX12_missing 257 = .ok (.iload_n 3, 1) := by decide +kernel
theorem dX12_missing_258 : decode cX12_missing 258 = .ok (.if_icmp .ne 6, 3) := by decide +kernel
theorem dX12_missing_261 : decode cX12_missing 261 = .ok (.iload 7, 2) := by decide +kernel
theorem dX12_missing_263 : decode cX12_missing 263 = .ok (.ireturn, 1) := by decide +kernel
theorem dX12_missing_264 : decode cX12_missing 264 = .ok (.iinc 6 1, 3) := by decide +kernel
theorem dX12_missing_267 : decode cX12_missing 267 = .ok (.iinc 7 1, 3) := by decide +kernel
theorem dX12_missing_270 : decode cX12_missing 270 = .ok (.goto (-108), 3) := by decide +kernel
theorem dX12_missing_273 : decode cX12_missing 273 = .ok (.iload_n 3, 1) := by decide +kernel
theorem dX12_missing_274 : decode cX12_missing 274 = .ok (.iconst (-1), 1) := by decide +kernel
theorem dX12_missing_275 : decode cX12_missing 275 = .ok (.if_icmp .ne 8, 3) := by decide +kernel
theorem dX12_missing_278 : decode cX12_missing 278 = .ok (.iload 6, 2) := by decide +kernel
theorem dX12_missing_280 : decode cX12_missing 280 = .ok (.goto 4, 3) := by decide +kernel
theorem dX12_missing_283 : decode cX12_missing 283 = .ok (.iconst (-1), 1) := by decide +kernel
theorem dX12_missing_284 : decode cX12_missing 284 = .ok (.ireturn, 1) := by decide +kernel
theorem wl_8_231 : (.methodLink RX12 465 yX12_comesTo : Cond) ∈ sg_tbl := tb_8 _ (List.mem_of_getElem? (i := 231) (by decide +kernel)) (by decide +kernel)
section
variable {p : Program} {l : Launch} {e : Env} {R : Room} {s : State} {m : MethodId} {args : Array Value} {below : List Frame} {meth : Method} {c : Code} {H : Heap} {locs : List Loc} {cells slots : Nat} {Q : State → Prop} {cc : ByteArray} {nL pc : Nat} {ls : Array Slot} {rest : List Value} {own : String} {D : va_G} {A : Nat → Prop} {tys : List (ClassId × FieldType)} {ad ks : List Nat} {P : sgPm} {H0 : Heap} {index : Nat} {base : Nat} {st0 : List Value} {a : Nat}
theorem gg_X12_41   (X : CallFix p m c cc nL s args sg_tbl own) (hK : va_K D vwCl tys s) (hG : sgG (KT P) D vwCl A tys ad ks H) (ha : isK ad ks 12 a) (hl : Cond.fieldLink own index "LawnAheadModel" "leaves" "[I" ∈ sg_tbl) {v : Value} (hf : fld D H 12 a 41 v) (hdg : decode cc pc = .ok (.getfield index, 3)) (kk : W p l e R s m args below meth c H locs cells slots Q (F0 m (pc + 3) ls (v :: rest))) : W p l e R s m args below meth c H locs cells slots Q (F0 m pc ls (.ref a :: rest)) :=
  sg_getf X hK hG ha (k := 12) (ci := 12) rfl (C := RX12) (T := TX12) (N := 53) rfl inL_X12 41 (by decide) (show 41 < 53 by decide) hl (fun _ h => h) hf hdg kk
theorem as_59  {i : Int32} {x : Int32}  (X : CallFix p m c cc nL s args sg_tbl own) (hK : va_K D vwCl tys s) (hG : sgG (KT P) D vwCl A tys ad ks H) (hS : va_S A H0 H locs) (ha : isK ad ks 59 a) (hin : vp_in i 3) (hv : okV ad ks (.inl ((-2147483648), 2147483647)) (.int x)) (hdg : decode cc pc = .ok (.iastore, 1)) (kk : ∀ (H1 : Heap) (locs1 : List Loc), sgG (KT P) D vwCl A tys ad ks H1 → va_S A H0 H1 locs1 → sgFr (KT P) D vwCl ad ks H H1 (fun _ _ => False) → W p l e R s m args below meth c H1 locs1 cells slots Q (F0 m (pc + 1) ls rest)) : W p l e R s m args below meth c H locs cells slots Q (F0 m pc ls (.int x :: .int i :: .ref a :: rest)) :=
  sg_iast X hK hG hS ha (k := 59) rfl hin hv hdg kk
set_option maxHeartbeats 8000000 in
set_option maxRecDepth 100000 in
theorem m_X12_missing_1 (l : Launch) {D : va_G} {base : Nat} {tys : List (ClassId × FieldType)} {ad ks : List Nat} {P : sgPm} (hp4 : P.2.2.2.2.1 = true) (a0 : Nat) (h0 : isK ad ks 12 a0) (x1 : Int32) (x2 : Int32) (x3 : Int32) (hN : sgN P + 432000 ≤ 1000000000) : Met l yX12_missing (Cond.code yX12_missing cX12_missing 11 (some .int) :: sg_tbl) ({ frames := 38, cells := 0, slots := 0, locals := 892 }) (va_Pc [.ref a0, .int x1, .int x2, .int x3] (sgB (KT P) D vwCl base tys ad ks)) (va_Qi (fun r (u : Int32) => u = r ∧ (fun r : Int32 => True) r) (fun u t => sgB (KT (sgAt P (sgN P + 432000))) D vwCl base tys ad ks t) (fun q : Nat => base ≤ q)) 0 0 (fun q : Nat => base ≤ q) := by
  refine sg_ofW (by decide +kernel) (Nat.le_of_ble_eq_true rfl) (fun p e s m below meth c X hr hlk hb hK hC hG ls hl => ?_)
  have hS : va_S (fun q : Nat => base ≤ q) s.heap s.heap [] := va_S.rf
  have hl : lv_has ls 11 [(0, .ref a0), (1, .int x1), (2, .int x2), (3, .int x3)] := hl
  refine lv_aload_n X.1 X.2.1 dX12_missing_0 rfl (lv_at hl 0 rfl) ?_
  refine lv_iconst (v := 0) X.1 X.2.1 dX12_missing_1 (by decide +kernel) ?_
  refine pf_X12_0 X hK hG hS h0 wl_6_178 ⟨_, rfl, (iv_top _)⟩ dX12_missing_2 (fun H locs hG hS ku1 ru1 => ?_)
  refine lv_aload_n X.1 X.2.1 dX12_missing_5 rfl (lv_at hl 0 rfl) ?_
  refine lv_iload_n X.1 X.2.1 dX12_missing_6 rfl (lv_at hl 1 rfl) ?_
  refine ca_X12_isGame X hK hG hC (fun _ h => h) hS hb a0 h0 x1 wl_8_195 hl.1 (rest := []) rfl (Nat.le_of_ble_eq_true rfl) ⟨Nat.le_of_ble_eq_true rfl, Nat.le_of_ble_eq_true rfl⟩ ⟨Nat.le_of_ble_eq_true rfl, Nat.le_of_ble_eq_true rfl⟩ dX12_missing_7 (fun f2 locs hf2 hS => ?_)
  refine lv_if_eq (tgt := 39) X.1 X.2.1 dX12_missing_10 (by decide) (fun c3 => ?_) (fun c3 => ?_)
  · refine lv_iconst (v := (-1)) X.1 X.2.1 dX12_missing_39 (by decide +kernel) ?_
    have hG : sgG (KT (sgAt P (sgN P + 432000))) D vwCl _ tys ad ks _ := sg_moreN (P := P) (show (sgN P) ≤ (sgN P + 432000) from by omega) hG
    exact sg_iret2 X hr hlk hS trivial (fun t ht hW => sg_post hb hK hC hG hS ht hW) dX12_missing_40
  · refine lv_aload_n X.1 X.2.1 dX12_missing_13 rfl (lv_at hl 0 rfl) ?_
    refine gf_X12_23s X hK hG h0 hp4 wl_6_201 dX12_missing_14 (fun f4 hf4 kf4 => ?_)
    refine lv_if_eq (tgt := 39) X.1 X.2.1 dX12_missing_17 (by decide) (fun c5 => ?_) (fun c5 => ?_)
    · exact ((iv_no (a := 1) (b := 0) (iv_eqm c5 hf4 (iv_c 0 (a := 0) (b := 0) (by decide +kernel)) (by decide +kernel)) (by decide +kernel))).elim
    · refine lv_iload_n X.1 X.2.1 dX12_missing_20 rfl (lv_at hl 2 rfl) ?_
      refine lv_if_lt (tgt := 39) X.1 X.2.1 dX12_missing_21 (by decide) (fun c6 => ?_) (fun c6 => ?_)
      · refine lv_iconst (v := (-1)) X.1 X.2.1 dX12_missing_39 (by decide +kernel) ?_
        have bq7 : 0 ≤ x1.toInt ∧ x1.toInt ≤ 3 := (hf2.2 c3)
        have hG : sgG (KT (sgAt P (sgN P + 432000))) D vwCl _ tys ad ks _ := sg_moreN (P := P) (show (sgN P) ≤ (sgN P + 432000) from by omega) hG
        exact sg_iret2 X hr hlk hS trivial (fun t ht hW => sg_post hb hK hC hG hS ht hW) dX12_missing_40
      · refine lv_iload_n X.1 X.2.1 dX12_missing_24 rfl (lv_at hl 2 rfl) ?_
        refine lv_iconst (v := 1) X.1 X.2.1 dX12_missing_25 (by decide +kernel) ?_
        refine lv_aload_n X.1 X.2.1 dX12_missing_26 rfl (lv_at hl 0 rfl) ?_
        refine gg_X12_23 X hK hG h0 wl_6_201 kf4 dX12_missing_27 ?_
        refine lv_ishl X.1 X.2.1 dX12_missing_30 ?_
        refine lv_topi (fun f8 ef8 => ?_)
        refine lv_icmp_ge (tgt := 39) X.1 X.2.1 dX12_missing_31 (by decide) (fun c9 => ?_) (fun c9 => ?_)
        · refine lv_iconst (v := (-1)) X.1 X.2.1 dX12_missing_39 (by decide +kernel) ?_
          have bq10 : 0 ≤ x1.toInt ∧ x1.toInt ≤ 3 := (hf2.2 c3)
          have hG : sgG (KT (sgAt P (sgN P + 432000))) D vwCl _ tys ad ks _ := sg_moreN (P := P) (show (sgN P) ≤ (sgN P + 432000) from by omega) hG
          exact sg_iret2 X hr hlk hS trivial (fun t ht hW => sg_post hb hK hC hG hS ht hW) dX12_missing_40
        · refine lv_iload_n X.1 X.2.1 dX12_missing_34 rfl (lv_at hl 3 rfl) ?_
          refine lv_iconst (v := (-1)) X.1 X.2.1 dX12_missing_35 (by decide +kernel) ?_
          refine lv_icmp_ge (tgt := 41) X.1 X.2.1 dX12_missing_36 (by decide) (fun c11 => ?_) (fun c11 => ?_)
          · refine lv_iconst (v := 0) X.1 X.2.1 dX12_missing_41 (by decide +kernel) ?_
            refine lv_istore (lv' := [(4, .int 0), (0, .ref a0), (1, .int x1), (2, .int x2), (3, .int x3)]) X.1 X.2.1 dX12_missing_42 hl (by decide) rfl (fun ls hl => ?_)
            refine lv_iconst (v := 0) X.1 X.2.1 dX12_missing_44 (by decide +kernel) ?_
            refine lv_istore (lv' := [(5, .int 0), (4, .int 0), (0, .ref a0), (1, .int x1), (2, .int x2), (3, .int x3)]) X.1 X.2.1 dX12_missing_45 hl (by decide) rfl (fun ls hl => ?_)
            have B12_47 : ∀ (N : Nat) (locs : List Loc) (ls : Array Slot) (z12_4 : Int32) (z12_5 : Int32), va_S (fun q : Nat => base ≤ q) s.heap H locs → lv_has ls 11 [(0, .ref a0), (1, .int x1), (2, .int x2), (3, .int x3), (4, .int z12_4), (5, .int z12_5)] → iv 0 16 z12_4 → iv 0 16 z12_5 → z12_4.toInt = (sg_ms (sgG0 P) x1.toInt.toNat z12_5.toInt.toNat : Int) → (17 - z12_5.toInt).toNat ≤ N → W p l e (headSpec (Cond.code yX12_missing cX12_missing 11 (some .int) :: sg_tbl) ({ frames := 38, cells := 0, slots := 0, locals := 892 })).room s m #[.ref a0, .int x1, .int x2, .int x3] below meth c H locs 0 0 (MQ below (va_Qi (fun r (u : Int32) => u = r ∧ (fun r : Int32 => True) r) (fun u t => sgB (KT (sgAt P (sgN P + 432000))) D vwCl base tys ad ks t) (fun q : Nat => base ≤ q)) #[.ref a0, .int x1, .int x2, .int x3] s 0 0 (fun q : Nat => base ≤ q)) (F0 m 47 ls []) := by
              intro N; induction N with
              | zero =>
                intro locs ls z12_4 z12_5 hS hl hz12_4 hz12_5 xf12 hN
                exact absurd hN (by have := iv_up hz12_5; omega)
              | succ N ih12 =>
                intro locs ls z12_4 z12_5 hS hl hz12_4 hz12_5 xf12 hN12
                refine lv_iload X.1 X.2.1 dX12_missing_47 (lv_at hl 5 rfl) ?_
                refine lv_aload_n X.1 X.2.1 dX12_missing_49 rfl (lv_at hl 0 rfl) ?_
                refine gf_X12_22 X hK hG h0 wl_6_200 dX12_missing_50 (fun q13 hq13 kq13 => ?_)
                refine lv_iload_n X.1 X.2.1 dX12_missing_53 rfl (lv_at hl 1 rfl) ?_
                refine al_53 X hK hG hq13 (iv_vpin (hf2.2 c3) (by decide +kernel)) dX12_missing_54 (fun f14 hf14 => ?_)
                have of14 := hf14
                have hf14 : iv 0 16 f14 := sg_glr hf14
                refine lv_icmp_ge (tgt := 111) X.1 X.2.1 dX12_missing_55 (by decide) (fun c15 => ?_) (fun c15 => ?_)
                · refine lv_iload X.1 X.2.1 dX12_missing_111 (lv_at hl 4 rfl) ?_
                  refine lv_iconst (v := 3) X.1 X.2.1 dX12_missing_113 (by decide +kernel) ?_
                  refine lv_icmp_le (tgt := 119) X.1 X.2.1 dX12_missing_114 (by decide) (fun c16 => ?_) (fun c16 => ?_)
                  · have bq17 : 0 ≤ z12_4.toInt ∧ z12_4.toInt ≤ 3 := (iv_le (b' := 3) c16 hz12_4 (iv_c 3 (a := 3) (b := 3) (by decide +kernel)) (by decide +kernel))
                    have bq18 : (-2147483648) ≤ x2.toInt ∧ x2.toInt ≤ 2147483647 := (iv_top x2)
                    have cq19 : (0 : Int32).toInt = 0 := by decide +kernel
                    have rr20 : (0 : Int32).toInt ≤ (x2 : Int32).toInt := Int32.le_iff_toInt_le.mp (iv_ge_of c6)
                    have bq21 : 2 ≤ f8.toInt ∧ f8.toInt ≤ 1073741824 := (sg_shl1 ef8 hf4 (by decide +kernel))
                    have rr22 : (x2 : Int32).toInt < (f8 : Int32).toInt := Int32.lt_iff_toInt_lt.mp (iv_gt_of c9)
                    have bq23 : (-2147483648) ≤ x3.toInt ∧ x3.toInt ≤ 2147483647 := (iv_top x3)
                    have cq24 : ((-1) : Int32).toInt = (-1) := by decide +kernel
                    have rr25 : ((-1) : Int32).toInt ≤ (x3 : Int32).toInt := Int32.le_iff_toInt_le.mp c11
                    have bq26 : 0 ≤ z12_5.toInt ∧ z12_5.toInt ≤ 16 := hz12_5
                    have bq27 : 0 ≤ f14.toInt ∧ f14.toInt ≤ 16 := hf14
                    have rr28 : (f14 : Int32).toInt ≤ (z12_5 : Int32).toInt := Int32.le_iff_toInt_le.mp c15
                    have cq29 : (3 : Int32).toInt = 3 := by decide +kernel
                    have rr30 : (z12_4 : Int32).toInt ≤ (3 : Int32).toInt := Int32.le_iff_toInt_le.mp c16
                    have gll31 := sg_glv of14 (hf2.2 c3)
                    have hms : sg_ms (sgG0 P) x1.toInt.toNat (sgGl P x1.toInt.toNat).val ≤ 3 := Nat.le_trans (sg_ms_mono (sgG0 P) x1.toInt.toNat (show (sgGl P x1.toInt.toNat).val ≤ z12_5.toInt.toNat from by omega)) (by omega)
                    refine lv_iload X.1 X.2.1 dX12_missing_119 (lv_at hl 4 rfl) ?_
                    have B33_154 : ∀ (locs : List Loc) (ls : Array Slot) (w33_0 : Int32), va_S (fun q : Nat => base ≤ q) s.heap H locs → lv_has ls 11 [(0, .ref a0), (1, .int x1), (2, .int x2), (3, .int x3), (4, .int z12_4)] → iv 1 27000 w33_0 → W p l e (headSpec (Cond.code yX12_missing cX12_missing 11 (some .int) :: sg_tbl) ({ frames := 38, cells := 0, slots := 0, locals := 892 })).room s m #[.ref a0, .int x1, .int x2, .int x3] below meth c H locs 0 0 (MQ below (va_Qi (fun r (u : Int32) => u = r ∧ (fun r : Int32 => True) r) (fun u t => sgB (KT (sgAt P (sgN P + 432000))) D vwCl base tys ad ks t) (fun q : Nat => base ≤ q)) #[.ref a0, .int x1, .int x2, .int x3] s 0 0 (fun q : Nat => base ≤ q)) (F0 m 154 ls [.int w33_0]) := by
                      intro locs ls w33_0 hS hl hw33_0
                      refine lv_istore (lv' := [(5, .int w33_0), (0, .ref a0), (1, .int x1), (2, .int x2), (3, .int x3), (4, .int z12_4)]) X.1 X.2.1 dX12_missing_154 hl (by decide) rfl (fun ls hl => ?_)
                      refine lv_iconst (v := 0) X.1 X.2.1 dX12_missing_156 (by decide +kernel) ?_
                      refine lv_istore (lv' := [(6, .int 0), (5, .int w33_0), (0, .ref a0), (1, .int x1), (2, .int x2), (3, .int x3), (4, .int z12_4)]) X.1 X.2.1 dX12_missing_157 hl (by decide) rfl (fun ls hl => ?_)
                      refine lv_iconst (v := 0) X.1 X.2.1 dX12_missing_159 (by decide +kernel) ?_
                      refine lv_istore (lv' := [(7, .int 0), (6, .int 0), (5, .int w33_0), (0, .ref a0), (1, .int x1), (2, .int x2), (3, .int x3), (4, .int z12_4)]) X.1 X.2.1 dX12_missing_160 hl (by decide) rfl (fun ls hl => ?_)
                      have B34_162 : ∀ (N : Nat) (H : Heap) (locs : List Loc) (ls : Array Slot) (z34_6 : Int32) (z34_7 : Int32) (n34 : Nat), sgN P ≤ n34 → (n34 : Int) ≤ sgN P + 16 * z34_7.toInt → sgG (KT (sgAt P n34)) D vwCl (fun q : Nat => base ≤ q) tys ad ks H → va_S (fun q : Nat => base ≤ q) s.heap H locs → lv_has ls 11 [(0, .ref a0), (1, .int x1), (2, .int x2), (3, .int x3), (4, .int z12_4), (5, .int w33_0), (6, .int z34_6), (7, .int z34_7)] → iv 0 27000 z34_7 → (27001 - z34_7.toInt).toNat ≤ N → W p l e (headSpec (Cond.code yX12_missing cX12_missing 11 (some .int) :: sg_tbl) ({ frames := 38, cells := 0, slots := 0, locals := 892 })).room s m #[.ref a0, .int x1, .int x2, .int x3] below meth c H locs 0 0 (MQ below (va_Qi (fun r (u : Int32) => u = r ∧ (fun r : Int32 => True) r) (fun u t => sgB (KT (sgAt P (sgN P + 432000))) D vwCl base tys ad ks t) (fun q : Nat => base ≤ q)) #[.ref a0, .int x1, .int x2, .int x3] s 0 0 (fun q : Nat => base ≤ q)) (F0 m 162 ls []) := by
                        intro N; induction N with
                        | zero =>
                          intro H locs ls z34_6 z34_7 n34 jn34 jo34 hG hS hl hz34_7 hN
                          exact absurd hN (by have := iv_up hz34_7; omega)
                        | succ N ih34 =>
                          intro H locs ls z34_6 z34_7 n34 jn34 jo34 hG hS hl hz34_7 hN34
                          refine lv_iload X.1 X.2.1 dX12_missing_162 (lv_at hl 7 rfl) ?_
                          refine lv_iload X.1 X.2.1 dX12_missing_164 (lv_at hl 5 rfl) ?_
                          refine lv_icmp_ge (tgt := 273) X.1 X.2.1 dX12_missing_166 (by decide) (fun c35 => ?_) (fun c35 => ?_)
                          · refine lv_iload_n X.1 X.2.1 dX12_missing_273 rfl (lv_at hl 3 rfl) ?_
                            refine lv_iconst (v := (-1)) X.1 X.2.1 dX12_missing_274 (by decide +kernel) ?_
                            refine lv_icmp_ne (tgt := 283) X.1 X.2.1 dX12_missing_275 (by decide) (fun c36 => ?_) (fun c36 => ?_)
                            · refine lv_iconst (v := (-1)) X.1 X.2.1 dX12_missing_283 (by decide +kernel) ?_
                              have bq37 : 0 ≤ x1.toInt ∧ x1.toInt ≤ 3 := (hf2.2 c3)
                              have bq38 : 0 ≤ z12_4.toInt ∧ z12_4.toInt ≤ 3 := (iv_le (b' := 3) c16 hz12_4 (iv_c 3 (a := 3) (b := 3) (by decide +kernel)) (by decide +kernel))
                              have bq39 : 1 ≤ w33_0.toInt ∧ w33_0.toInt ≤ 27000 := hw33_0
                              have bq40 : 1 ≤ z34_7.toInt ∧ z34_7.toInt ≤ 27000 := (iv_ler (c' := 1) c35 hw33_0 hz34_7 (by decide +kernel))
                              have hG : sgG (KT (sgAt P (sgN P + 432000))) D vwCl _ tys ad ks _ := sg_moreN (P := (sgAt P n34)) (show n34 ≤ (sgN P + 432000) from by have jb7 := hz34_7.1; have jc7 := hz34_7.2; have jd7 : iv 1 27000 z34_7 := (iv_ler (c' := 1) c35 hw33_0 hz34_7 (by decide +kernel)); have je7 := jd7.2; omega) hG
                              exact sg_iret2 X hr hlk hS trivial (fun t ht hW => sg_post hb hK hC hG hS ht hW) dX12_missing_284
                            · refine lv_iload X.1 X.2.1 dX12_missing_278 (lv_at hl 6 rfl) ?_
                              refine lv_goto (tgt := 284) X.1 X.2.1 dX12_missing_280 (by decide) ?_
                              have bq41 : 0 ≤ x1.toInt ∧ x1.toInt ≤ 3 := (hf2.2 c3)
                              have bq42 : 0 ≤ z12_4.toInt ∧ z12_4.toInt ≤ 3 := (iv_le (b' := 3) c16 hz12_4 (iv_c 3 (a := 3) (b := 3) (by decide +kernel)) (by decide +kernel))
                              have bq43 : 1 ≤ w33_0.toInt ∧ w33_0.toInt ≤ 27000 := hw33_0
                              have bq44 : 1 ≤ z34_7.toInt ∧ z34_7.toInt ≤ 27000 := (iv_ler (c' := 1) c35 hw33_0 hz34_7 (by decide +kernel))
                              have hG : sgG (KT (sgAt P (sgN P + 432000))) D vwCl _ tys ad ks _ := sg_moreN (P := (sgAt P n34)) (show n34 ≤ (sgN P + 432000) from by have jb7 := hz34_7.1; have jc7 := hz34_7.2; have jd7 : iv 1 27000 z34_7 := (iv_ler (c' := 1) c35 hw33_0 hz34_7 (by decide +kernel)); have je7 := jd7.2; omega) hG
                              exact sg_iret2 X hr hlk hS trivial (fun t ht hW => sg_post hb hK hC hG hS ht hW) dX12_missing_284
                          · refine lv_iload X.1 X.2.1 dX12_missing_169 (lv_at hl 7 rfl) ?_
                            refine lv_istore (lv' := [(8, .int z34_7), (0, .ref a0), (1, .int x1), (2, .int x2), (3, .int x3), (4, .int z12_4), (5, .int w33_0), (6, .int z34_6), (7, .int z34_7)]) X.1 X.2.1 dX12_missing_171 hl (by decide) rfl (fun ls hl => ?_)
                            refine lv_iconst (v := 1) X.1 X.2.1 dX12_missing_173 (by decide +kernel) ?_
                            refine lv_istore (lv' := [(9, .int 1), (8, .int z34_7), (0, .ref a0), (1, .int x1), (2, .int x2), (3, .int x3), (4, .int z12_4), (5, .int w33_0), (6, .int z34_6), (7, .int z34_7)]) X.1 X.2.1 dX12_missing_174 hl (by decide) rfl (fun ls hl => ?_)
                            refine lv_iload X.1 X.2.1 dX12_missing_176 (lv_at hl 6 rfl) ?_
                            refine lv_iconst (v := 1) X.1 X.2.1 dX12_missing_178 (by decide +kernel) ?_
                            refine lv_isub X.1 X.2.1 dX12_missing_179 ?_
                            refine lv_topi (fun f45 ef45 => ?_)
                            refine lv_istore (lv' := [(10, .int f45), (9, .int 1), (8, .int z34_7), (0, .ref a0), (1, .int x1), (2, .int x2), (3, .int x3), (4, .int z12_4), (5, .int w33_0), (6, .int z34_6), (7, .int z34_7)]) X.1 X.2.1 dX12_missing_180 hl (by decide) rfl (fun ls hl => ?_)
                            have B46_182 : ∀ (N : Nat) (H : Heap) (locs : List Loc) (ls : Array Slot) (z46_8 : Int32) (z46_9 : Int32) (z46_10 : Int32) (n46 : Nat), n34 ≤ n46 → (n46 : Int) ≤ sgN P + 16 * z34_7.toInt → sgG (KT (sgAt P n46)) D vwCl (fun q : Nat => base ≤ q) tys ad ks H → va_S (fun q : Nat => base ≤ q) s.heap H locs → lv_has ls 11 [(0, .ref a0), (1, .int x1), (2, .int x2), (3, .int x3), (4, .int z12_4), (5, .int w33_0), (6, .int z34_6), (7, .int z34_7), (8, .int z46_8), (9, .int z46_9), (10, .int z46_10)] → iv 0 1193046 z46_8 → iv 0 1 z46_9 → iv (-1) 2 z46_10 → (z46_10.toInt - (-2)).toNat ≤ N → W p l e (headSpec (Cond.code yX12_missing cX12_missing 11 (some .int) :: sg_tbl) ({ frames := 38, cells := 0, slots := 0, locals := 892 })).room s m #[.ref a0, .int x1, .int x2, .int x3] below meth c H locs 0 0 (MQ below (va_Qi (fun r (u : Int32) => u = r ∧ (fun r : Int32 => True) r) (fun u t => sgB (KT (sgAt P (sgN P + 432000))) D vwCl base tys ad ks t) (fun q : Nat => base ≤ q)) #[.ref a0, .int x1, .int x2, .int x3] s 0 0 (fun q : Nat => base ≤ q)) (F0 m 182 ls []) := by
                              intro N; induction N with
                              | zero =>
                                intro H locs ls z46_8 z46_9 z46_10 n46 jn46 jo46 hG hS hl hz46_8 hz46_9 hz46_10 hN
                                exact absurd hN (by have := iv_dn hz46_10; omega)
                              | succ N ih46 =>
                                intro H locs ls z46_8 z46_9 z46_10 n46 jn46 jo46 hG hS hl hz46_8 hz46_9 hz46_10 hN46
                                refine lv_iload X.1 X.2.1 dX12_missing_182 (lv_at hl 10 rfl) ?_
                                refine lv_if_lt (tgt := 238) X.1 X.2.1 dX12_missing_184 (by decide) (fun c47 => ?_) (fun c47 => ?_)
                                · refine lv_iload X.1 X.2.1 dX12_missing_238 (lv_at hl 9 rfl) ?_
                                  have B49_267 : ∀ (H : Heap) (locs : List Loc) (ls : Array Slot) (z49_6 : Int32) (n49 : Nat), n46 ≤ n49 → (n49 : Int) ≤ sgN P + 16 * z34_7.toInt + 16 → sgG (KT (sgAt P n49)) D vwCl (fun q : Nat => base ≤ q) tys ad ks H → va_S (fun q : Nat => base ≤ q) s.heap H locs → lv_has ls 11 [(0, .ref a0), (1, .int x1), (2, .int x2), (3, .int x3), (4, .int z12_4), (5, .int w33_0), (6, .int z49_6), (7, .int z34_7)] → W p l e (headSpec (Cond.code yX12_missing cX12_missing 11 (some .int) :: sg_tbl) ({ frames := 38, cells := 0, slots := 0, locals := 892 })).room s m #[.ref a0, .int x1, .int x2, .int x3] below meth c H locs 0 0 (MQ below (va_Qi (fun r (u : Int32) => u = r ∧ (fun r : Int32 => True) r) (fun u t => sgB (KT (sgAt P (sgN P + 432000))) D vwCl base tys ad ks t) (fun q : Nat => base ≤ q)) #[.ref a0, .int x1, .int x2, .int x3] s 0 0 (fun q : Nat => base ≤ q)) (F0 m 267 ls []) := by
                                    intro H locs ls z49_6 n49 jn49 jo49 hG hS hl
                                    obtain ⟨y50, ey50⟩ : ∃ y : Int32, y = z34_7 + Int32.ofInt 1 := ⟨_, rfl⟩
                                    refine lv_iinc (v := y50) (lv' := [(7, .int y50), (0, .ref a0), (1, .int x1), (2, .int x2), (3, .int x3), (4, .int z12_4), (5, .int w33_0), (6, .int z49_6)]) X.1 X.2.1 dX12_missing_267 hl (k := 7) rfl ey50.symm (by decide) rfl (fun ls hl => ?_)
                                    refine lv_goto (tgt := 162) X.1 X.2.1 dX12_missing_270 (by decide) ?_
                                    have bq51 : 0 ≤ z34_7.toInt ∧ z34_7.toInt ≤ 26999 := (iv_lt (b' := 26999) (iv_gt_of c35) hz34_7 hw33_0 (by decide +kernel))
                                    have xy50 : y50.toInt = z34_7.toInt + 1 := sg_inc (k := 1) ey50 (iv_lt (b' := 26999) (iv_gt_of c35) hz34_7 hw33_0 (by decide +kernel)) (by decide +kernel)
                                    exact ih34 H _ _ z49_6 y50 n49 (by omega) (by omega) hG hS (lv_sub hl [1, 2, 3, 4, 5, 6, 7, 0] rfl) (iv_of (iv_add (a' := 1) (b' := 27000) ey50 (iv_lt (b' := 26999) (iv_gt_of c35) hz34_7 hw33_0 (by decide +kernel)) (iv_c _ (a := 1) (b := 1) (by decide +kernel)) (by decide +kernel)) (a' := 0) (b' := 27000) (by decide +kernel)) (iv_stepU ey50 (iv_lt (b' := 26999) (iv_gt_of c35) hz34_7 hw33_0 (by decide +kernel)) (by decide +kernel) hN34)
                                  refine lv_if_eq (tgt := 267) X.1 X.2.1 dX12_missing_240 (by decide) (fun c48 => ?_) (fun c48 => ?_)
                                  · exact B49_267 H _ _ z34_6 n46 (by omega) (by omega) hG hS (lv_sub hl [0, 1, 2, 3, 4, 5, 6, 7] rfl)
                                  · refine lv_aload_n X.1 X.2.1 dX12_missing_243 rfl (lv_at hl 0 rfl) ?_
                                    refine lv_iload_n X.1 X.2.1 dX12_missing_244 rfl (lv_at hl 1 rfl) ?_
                                    refine lv_iload_n X.1 X.2.1 dX12_missing_245 rfl (lv_at hl 2 rfl) ?_
                                    refine ca_X12_comesTo_1 X hK hG hC hS hb hp4 a0 h0 x1 (hf2.2 c3) x2 (show n46 + 16 ≤ 1000000000 from by have jb7 := hz34_7.1; have jc7 := hz34_7.2; have jd7 : iv 0 26999 z34_7 := (iv_lt (b' := 26999) (iv_gt_of c35) hz34_7 hw33_0 (by decide +kernel)); have je7 := jd7.2; omega) hms wl_8_231 hl.1 (rest := []) rfl (Nat.le_of_ble_eq_true rfl) ⟨Nat.le_of_ble_eq_true rfl, Nat.le_of_ble_eq_true rfl⟩ ⟨Nat.le_of_ble_eq_true rfl, Nat.le_of_ble_eq_true rfl⟩ dX12_missing_246 (fun f52 tf52 H locs htf52 hf52 hWf52 hS => ?_)
                                    have hG : sgG (KT (sgAt P (n46 + 16))) D vwCl _ tys ad ks _ := hWf52.2.2.2
                                    rw [htf52] at hG
                                    refine lv_if_ne (tgt := 255) X.1 X.2.1 dX12_missing_249 (by decide) (fun c53 => ?_) (fun c53 => ?_)
                                    · refine lv_iload X.1 X.2.1 dX12_missing_255 (lv_at hl 6 rfl) ?_
                                      refine lv_iload_n X.1 X.2.1 dX12_missing_257 rfl (lv_at hl 3 rfl) ?_
                                      refine lv_icmp_ne (tgt := 264) X.1 X.2.1 dX12_missing_258 (by decide) (fun c54 => ?_) (fun c54 => ?_)
                                      · obtain ⟨y55, ey55⟩ : ∃ y : Int32, y = z34_6 + Int32.ofInt 1 := ⟨_, rfl⟩
                                        refine lv_iinc (v := y55) (lv' := [(6, .int y55), (0, .ref a0), (1, .int x1), (2, .int x2), (3, .int x3), (4, .int z12_4), (5, .int w33_0), (7, .int z34_7), (8, .int z46_8), (9, .int z46_9), (10, .int z46_10)]) X.1 X.2.1 dX12_missing_264 hl (k := 6) rfl ey55.symm (by decide) rfl (fun ls hl => ?_)
                                        exact B49_267 H _ _ y55 (n46 + 16) (by omega) (by omega) hG hS (lv_sub hl [1, 2, 3, 4, 5, 6, 0, 7] rfl)
                                      · refine lv_iload X.1 X.2.1 dX12_missing_261 (lv_at hl 7 rfl) ?_
                                        have bq56 : 0 ≤ x1.toInt ∧ x1.toInt ≤ 3 := (hf2.2 c3)
                                        have bq57 : 0 ≤ z12_4.toInt ∧ z12_4.toInt ≤ 3 := (iv_le (b' := 3) c16 hz12_4 (iv_c 3 (a := 3) (b := 3) (by decide +kernel)) (by decide +kernel))
                                        have bq58 : 1 ≤ w33_0.toInt ∧ w33_0.toInt ≤ 27000 := hw33_0
                                        have bq59 : 0 ≤ z34_7.toInt ∧ z34_7.toInt ≤ 26999 := (iv_lt (b' := 26999) (iv_gt_of c35) hz34_7 hw33_0 (by decide +kernel))
                                        have bq60 : 1 ≤ z46_9.toInt ∧ z46_9.toInt ≤ 1 := (iv_ne_lo (a' := 1) c48 hz46_9 (by decide +kernel))
                                        have hG : sgG (KT (sgAt P (sgN P + 432000))) D vwCl _ tys ad ks _ := sg_moreN (P := (sgAt P (n46 + 16))) (show (n46 + 16) ≤ (sgN P + 432000) from by omega) hG
                                        exact sg_iret2 X hr hlk hS trivial (fun t ht hW => sg_post hb hK hC hG hS ht hW) dX12_missing_263
                                    · refine lv_goto (tgt := 267) X.1 X.2.1 dX12_missing_252 (by decide) ?_
                                      exact B49_267 H _ _ z34_6 (n46 + 16) (by omega) (by omega) hG hS (lv_sub hl [0, 1, 2, 3, 4, 5, 6, 7] rfl)
                                · refine lv_aload_n X.1 X.2.1 dX12_missing_187 rfl (lv_at hl 0 rfl) ?_
                                  refine gf_X12_41 X hK hG h0 wl_6_219 dX12_missing_188 (fun q61 hq61 kq61 => ?_)
                                  refine lv_iload X.1 X.2.1 dX12_missing_191 (lv_at hl 10 rfl) ?_
                                  refine lv_iload X.1 X.2.1 dX12_missing_193 (lv_at hl 8 rfl) ?_
                                  refine lv_bipush (v := 30) X.1 X.2.1 dX12_missing_195 (by decide +kernel) ?_
                                  refine lv_irem X.1 X.2.1 dX12_missing_197 (iv_ne0 (iv_c 30 (a := 30) (b := 30) (by decide +kernel)) (by decide +kernel)) ?_
                                  refine lv_topi (fun f62 ef62 => ?_)
                                  refine as_59 X hK hG hS hq61 (iv_vpin (iv_ler (c' := 0) (iv_ge_of c47) (iv_c 0 (a := 0) (b := 0) (by decide +kernel)) hz46_10 (by decide +kernel)) (by decide +kernel)) ⟨_, rfl, (iv_top _)⟩ dX12_missing_198 (fun H locs hG hS ru63 => ?_)
                                  refine lv_iload X.1 X.2.1 dX12_missing_199 (lv_at hl 8 rfl) ?_
                                  refine lv_bipush (v := 30) X.1 X.2.1 dX12_missing_201 (by decide +kernel) ?_
                                  refine lv_idiv X.1 X.2.1 dX12_missing_203 (iv_ne0 (iv_c 30 (a := 30) (b := 30) (by decide +kernel)) (by decide +kernel)) ?_
                                  refine lv_topi (fun f64 ef64 => ?_)
                                  refine lv_istore (lv' := [(8, .int f64), (0, .ref a0), (1, .int x1), (2, .int x2), (3, .int x3), (4, .int z12_4), (5, .int w33_0), (6, .int z34_6), (7, .int z34_7), (9, .int z46_9), (10, .int z46_10)]) X.1 X.2.1 dX12_missing_204 hl (by decide) rfl (fun ls hl => ?_)
                                  refine lv_iload X.1 X.2.1 dX12_missing_206 (lv_at hl 9 rfl) ?_
                                  have B66_230 : ∀ (locs : List Loc) (ls : Array Slot) (w66_0 : Int32), va_S (fun q : Nat => base ≤ q) s.heap H locs → lv_has ls 11 [(0, .ref a0), (1, .int x1), (2, .int x2), (3, .int x3), (4, .int z12_4), (5, .int w33_0), (6, .int z34_6), (7, .int z34_7), (8, .int f64), (10, .int z46_10)] → iv 0 1 w66_0 → W p l e (headSpec (Cond.code yX12_missing cX12_missing 11 (some .int) :: sg_tbl) ({ frames := 38, cells := 0, slots := 0, locals := 892 })).room s m #[.ref a0, .int x1, .int x2, .int x3] below meth c H locs 0 0 (MQ below (va_Qi (fun r (u : Int32) => u = r ∧ (fun r : Int32 => True) r) (fun u t => sgB (KT (sgAt P (sgN P + 432000))) D vwCl base tys ad ks t) (fun q : Nat => base ≤ q)) #[.ref a0, .int x1, .int x2, .int x3] s 0 0 (fun q : Nat => base ≤ q)) (F0 m 230 ls [.int w66_0]) := by
                                    intro locs ls w66_0 hS hl hw66_0
                                    refine lv_istore (lv' := [(9, .int w66_0), (0, .ref a0), (1, .int x1), (2, .int x2), (3, .int x3), (4, .int z12_4), (5, .int w33_0), (6, .int z34_6), (7, .int z34_7), (8, .int f64), (10, .int z46_10)]) X.1 X.2.1 dX12_missing_230 hl (by decide) rfl (fun ls hl => ?_)
                                    obtain ⟨y67, ey67⟩ : ∃ y : Int32, y = z46_10 + Int32.ofInt (-1) := ⟨_, rfl⟩
                                    refine lv_iinc (v := y67) (lv' := [(10, .int y67), (9, .int w66_0), (0, .ref a0), (1, .int x1), (2, .int x2), (3, .int x3), (4, .int z12_4), (5, .int w33_0), (6, .int z34_6), (7, .int z34_7), (8, .int f64)]) X.1 X.2.1 dX12_missing_232 hl (k := 10) rfl ey67.symm (by decide) rfl (fun ls hl => ?_)
                                    refine lv_goto (tgt := 182) X.1 X.2.1 dX12_missing_235 (by decide) ?_
                                    exact ih46 H _ _ f64 w66_0 y67 n46 (by omega) (by omega) hG hS (lv_sub hl [2, 3, 4, 5, 6, 7, 8, 9, 10, 1, 0] rfl) (iv_of (iv_div (a' := 0) (b' := 39768) ef64 hz46_8 (iv_c 30 (a := 30) (b := 30) (by decide +kernel)) (by decide +kernel)) (a' := 0) (b' := 1193046) (by decide +kernel)) hw66_0 (iv_of (iv_add (a' := (-1)) (b' := 1) ey67 (iv_ler (c' := 0) (iv_ge_of c47) (iv_c 0 (a := 0) (b := 0) (by decide +kernel)) hz46_10 (by decide +kernel)) (iv_c _ (a := (-1)) (b := (-1)) (by decide +kernel)) (by decide +kernel)) (a' := (-1)) (b' := 2) (by decide +kernel)) (iv_stepD ey67 (iv_ler (c' := 0) (iv_ge_of c47) (iv_c 0 (a := 0) (b := 0) (by decide +kernel)) hz46_10 (by decide +kernel)) (by decide +kernel) hN46)
                                  have B68_229 : ∀ (locs : List Loc) (ls : Array Slot), va_S (fun q : Nat => base ≤ q) s.heap H locs → lv_has ls 11 [(0, .ref a0), (1, .int x1), (2, .int x2), (3, .int x3), (4, .int z12_4), (5, .int w33_0), (6, .int z34_6), (7, .int z34_7), (8, .int f64), (10, .int z46_10)] → W p l e (headSpec (Cond.code yX12_missing cX12_missing 11 (some .int) :: sg_tbl) ({ frames := 38, cells := 0, slots := 0, locals := 892 })).room s m #[.ref a0, .int x1, .int x2, .int x3] below meth c H locs 0 0 (MQ below (va_Qi (fun r (u : Int32) => u = r ∧ (fun r : Int32 => True) r) (fun u t => sgB (KT (sgAt P (sgN P + 432000))) D vwCl base tys ad ks t) (fun q : Nat => base ≤ q)) #[.ref a0, .int x1, .int x2, .int x3] s 0 0 (fun q : Nat => base ≤ q)) (F0 m 229 ls []) := by
                                    intro locs ls hS hl
                                    refine lv_iconst (v := 0) X.1 X.2.1 dX12_missing_229 (by decide +kernel) ?_
                                    exact B66_230 _ _ 0 hS (lv_sub hl [0, 1, 2, 3, 4, 5, 6, 7, 8, 9] rfl) (iv_of (iv_c 0 (a := 0) (b := 0) (by decide +kernel)) (a' := 0) (b' := 1) (by decide +kernel))
                                  refine lv_if_eq (tgt := 229) X.1 X.2.1 dX12_missing_208 (by decide) (fun c65 => ?_) (fun c65 => ?_)
                                  · exact B68_229 _ _ hS (lv_sub hl [1, 2, 3, 4, 5, 6, 7, 8, 0, 10] rfl)
                                  · refine lv_aload_n X.1 X.2.1 dX12_missing_211 rfl (lv_at hl 1 rfl) ?_
                                    refine gg_X12_41 X hK hG h0 wl_6_219 (ru63 _ _ _ _ _ _ _ h0 rfl rfl (by decide) (fun z => z.elim) kq61) dX12_missing_212 ?_
                                    refine lv_iload X.1 X.2.1 dX12_missing_215 (lv_at hl 10 rfl) ?_
                                    refine al_59 X hK hG hq61 (iv_vpin (iv_ler (c' := 0) (iv_ge_of c47) (iv_c 0 (a := 0) (b := 0) (by decide +kernel)) hz46_10 (by decide +kernel)) (by decide +kernel)) dX12_missing_217 (fun f69 hf69 => ?_)
                                    refine lv_aload_n X.1 X.2.1 dX12_missing_218 rfl (lv_at hl 1 rfl) ?_
                                    refine gf_X12_23s X hK hG h0 hp4 wl_6_201 dX12_missing_219 (fun f70 hf70 kf70 => ?_)
                                    refine lv_icmp_ge (tgt := 229) X.1 X.2.1 dX12_missing_222 (by decide) (fun c71 => ?_) (fun c71 => ?_)
                                    · exact B68_229 _ _ hS (lv_sub hl [1, 2, 3, 4, 5, 6, 7, 8, 0, 10] rfl)
                                    · refine lv_iconst (v := 1) X.1 X.2.1 dX12_missing_225 (by decide +kernel) ?_
                                      refine lv_goto (tgt := 230) X.1 X.2.1 dX12_missing_226 (by decide) ?_
                                      exact B66_230 _ _ 1 hS (lv_sub hl [1, 2, 3, 4, 5, 6, 7, 8, 0, 10] rfl) (iv_of (iv_c 1 (a := 1) (b := 1) (by decide +kernel)) (a' := 0) (b' := 1) (by decide +kernel))
                            exact B46_182 _ H _ _ z34_7 1 f45 n34 (by omega) (by omega) hG hS (lv_sub hl [3, 4, 5, 6, 7, 8, 9, 10, 2, 1, 0] rfl) (iv_of (iv_lt (b' := 26999) (iv_gt_of c35) hz34_7 hw33_0 (by decide +kernel)) (a' := 0) (b' := 1193046) (by decide +kernel)) (iv_of (iv_c 1 (a := 1) (b := 1) (by decide +kernel)) (a' := 0) (b' := 1) (by decide +kernel)) (iv_sub (a' := (-1)) (b' := 2) ef45 (iv_le (b' := 3) c16 hz12_4 (iv_c 3 (a := 3) (b := 3) (by decide +kernel)) (by decide +kernel)) (iv_c 1 (a := 1) (b := 1) (by decide +kernel)) (by decide +kernel)) (Nat.le_refl _)
                      have cq72 : (0 : Int32).toInt = 0 := by decide +kernel
                      exact B34_162 _ H _ _ 0 0 (sgN P) (by omega) (by omega) hG hS (lv_sub hl [3, 4, 5, 6, 7, 2, 1, 0] rfl) (iv_of (iv_c 0 (a := 0) (b := 0) (by decide +kernel)) (a' := 0) (b' := 27000) (by decide +kernel)) (Nat.le_refl _)
                    refine lv_if_ne (tgt := 128) X.1 X.2.1 dX12_missing_121 (by decide) (fun c32 => ?_) (fun c32 => ?_)
                    · refine lv_iload X.1 X.2.1 dX12_missing_128 (lv_at hl 4 rfl) ?_
                      refine lv_iconst (v := 1) X.1 X.2.1 dX12_missing_130 (by decide +kernel) ?_
                      refine lv_icmp_ne (tgt := 139) X.1 X.2.1 dX12_missing_131 (by decide) (fun c73 => ?_) (fun c73 => ?_)
                      · refine lv_iload X.1 X.2.1 dX12_missing_139 (lv_at hl 4 rfl) ?_
                        refine lv_iconst (v := 2) X.1 X.2.1 dX12_missing_141 (by decide +kernel) ?_
                        refine lv_icmp_ne (tgt := 151) X.1 X.2.1 dX12_missing_142 (by decide) (fun c74 => ?_) (fun c74 => ?_)
                        · refine lv_sipush (v := 27000) X.1 X.2.1 dX12_missing_151 (by decide +kernel) ?_
                          exact B33_154 _ _ 27000 hS (lv_sub hl [0, 1, 2, 3, 4] rfl) (iv_of (iv_c 27000 (a := 27000) (b := 27000) (by decide +kernel)) (a' := 1) (b' := 27000) (by decide +kernel))
                        · refine lv_sipush (v := 900) X.1 X.2.1 dX12_missing_145 (by decide +kernel) ?_
                          refine lv_goto (tgt := 154) X.1 X.2.1 dX12_missing_148 (by decide) ?_
                          exact B33_154 _ _ 900 hS (lv_sub hl [0, 1, 2, 3, 4] rfl) (iv_of (iv_c 900 (a := 900) (b := 900) (by decide +kernel)) (a' := 1) (b' := 27000) (by decide +kernel))
                      · refine lv_bipush (v := 30) X.1 X.2.1 dX12_missing_134 (by decide +kernel) ?_
                        refine lv_goto (tgt := 154) X.1 X.2.1 dX12_missing_136 (by decide) ?_
                        exact B33_154 _ _ 30 hS (lv_sub hl [0, 1, 2, 3, 4] rfl) (iv_of (iv_c 30 (a := 30) (b := 30) (by decide +kernel)) (a' := 1) (b' := 27000) (by decide +kernel))
                    · refine lv_iconst (v := 1) X.1 X.2.1 dX12_missing_124 (by decide +kernel) ?_
                      refine lv_goto (tgt := 154) X.1 X.2.1 dX12_missing_125 (by decide) ?_
                      exact B33_154 _ _ 1 hS (lv_sub hl [0, 1, 2, 3, 4] rfl) (iv_of (iv_c 1 (a := 1) (b := 1) (by decide +kernel)) (a' := 1) (b' := 27000) (by decide +kernel))
                  · refine lv_iconst (v := (-1)) X.1 X.2.1 dX12_missing_117 (by decide +kernel) ?_
                    have bq75 : 0 ≤ x1.toInt ∧ x1.toInt ≤ 3 := (hf2.2 c3)
                    have bq76 : 4 ≤ z12_4.toInt ∧ z12_4.toInt ≤ 16 := (iv_ltr (c' := 4) (iv_gt_of c16) (iv_c 3 (a := 3) (b := 3) (by decide +kernel)) hz12_4 (by decide +kernel))
                    have bq77 : 0 ≤ z12_5.toInt ∧ z12_5.toInt ≤ 16 := hz12_5
                    have hG : sgG (KT (sgAt P (sgN P + 432000))) D vwCl _ tys ad ks _ := sg_moreN (P := P) (show (sgN P) ≤ (sgN P + 432000) from by omega) hG
                    exact sg_iret2 X hr hlk hS trivial (fun t ht hW => sg_post hb hK hC hG hS ht hW) dX12_missing_118
                · refine lv_iload X.1 X.2.1 dX12_missing_58 (lv_at hl 4 rfl) ?_
                  refine lv_aload_n X.1 X.2.1 dX12_missing_60 rfl (lv_at hl 0 rfl) ?_
                  refine gf_X12_21 X hK hG h0 wl_6_199 dX12_missing_61 (fun q78 hq78 kq78 => ?_)
                  refine lv_iconst (v := 4) X.1 X.2.1 dX12_missing_64 (by decide +kernel) ?_
                  refine lv_bipush (v := 16) X.1 X.2.1 dX12_missing_65 (by decide +kernel) ?_
                  refine lv_iload_n X.1 X.2.1 dX12_missing_67 rfl (lv_at hl 1 rfl) ?_
                  refine lv_imul X.1 X.2.1 dX12_missing_68 ?_
                  refine lv_topi (fun f79 ef79 => ?_)
                  refine lv_iload X.1 X.2.1 dX12_missing_69 (lv_at hl 5 rfl) ?_
                  refine lv_iadd X.1 X.2.1 dX12_missing_71 ?_
                  refine lv_topi (fun f80 ef80 => ?_)
                  refine lv_imul X.1 X.2.1 dX12_missing_72 ?_
                  refine lv_topi (fun f81 ef81 => ?_)
                  refine al_52 X hK hG hq78 (iv_vpin (iv_mul (a' := 0) (b' := 252) ef81 (iv_c 4 (a := 4) (b := 4) (by decide +kernel)) (iv_add (a' := 0) (b' := 63) ef80 (iv_mul (a' := 0) (b' := 48) ef79 (iv_c 16 (a := 16) (b := 16) (by decide +kernel)) (hf2.2 c3) (by decide +kernel)) (iv_lt (b' := 15) (iv_gt_of c15) hz12_5 hf14 (by decide +kernel)) (by decide +kernel)) (by decide +kernel)) (by decide +kernel)) dX12_missing_73 (fun f82 hf82 => ?_)
                  have of82 := hf82
                  have hf82 : iv (-2147483648) 2147483647 f82 := iv_top f82
                  refine lv_if_ne (tgt := 101) X.1 X.2.1 dX12_missing_74 (by decide) (fun c83 => ?_) (fun c83 => ?_)
                  · refine lv_iconst (v := 0) X.1 X.2.1 dX12_missing_101 (by decide +kernel) ?_
                    refine lv_iadd X.1 X.2.1 dX12_missing_102 ?_
                    refine lv_topi (fun f84 ef84 => ?_)
                    refine lv_istore (lv' := [(4, .int f84), (0, .ref a0), (1, .int x1), (2, .int x2), (3, .int x3), (5, .int z12_5)]) X.1 X.2.1 dX12_missing_103 hl (by decide) rfl (fun ls hl => ?_)
                    obtain ⟨y85, ey85⟩ : ∃ y : Int32, y = z12_5 + Int32.ofInt 1 := ⟨_, rfl⟩
                    refine lv_iinc (v := y85) (lv' := [(5, .int y85), (4, .int f84), (0, .ref a0), (1, .int x1), (2, .int x2), (3, .int x3)]) X.1 X.2.1 dX12_missing_105 hl (k := 5) rfl ey85.symm (by decide) rfl (fun ls hl => ?_)
                    refine lv_goto (tgt := 47) X.1 X.2.1 dX12_missing_108 (by decide) ?_
                    have bq86 : 0 ≤ z12_5.toInt ∧ z12_5.toInt ≤ 15 := (iv_lt (b' := 15) (iv_gt_of c15) hz12_5 hf14 (by decide +kernel))
                    have xy85 : y85.toInt = z12_5.toInt + 1 := sg_inc (k := 1) ey85 (iv_lt (b' := 15) (iv_gt_of c15) hz12_5 hf14 (by decide +kernel)) (by decide +kernel)
                    have bq87 : 0 ≤ z12_4.toInt ∧ z12_4.toInt ≤ 16 := hz12_4
                    have xf84 : f84.toInt = z12_4.toInt + 0 := sg_inc (k := 0) ef84 hz12_4 (by decide +kernel)
                    have bq88 : 0 ≤ z12_5.toInt ∧ z12_5.toInt ≤ 15 := (iv_lt (b' := 15) (iv_gt_of c15) hz12_5 hf14 (by decide +kernel))
                    have bq89 : 0 ≤ x1.toInt ∧ x1.toInt ≤ 3 := (hf2.2 c3)
                    have cq91 : (4 : Int32).toInt = 4 := by decide +kernel
                    have cq92 : (16 : Int32).toInt = 16 := by decide +kernel
                    have xf79 : f79.toInt = 16 * x1.toInt := sg_exmul ef79 (iv_c 16 (a := 16) (b := 16) (by decide +kernel)) (hf2.2 c3) (by decide +kernel) (by decide +kernel) rfl
                    have xf80 : f80.toInt = f79.toInt + z12_5.toInt := sg_exadd ef80 (iv_mul (a' := 0) (b' := 48) ef79 (iv_c 16 (a := 16) (b := 16) (by decide +kernel)) (hf2.2 c3) (by decide +kernel)) (iv_lt (b' := 15) (iv_gt_of c15) hz12_5 hf14 (by decide +kernel)) (by decide +kernel) rfl rfl
                    have xf81 : f81.toInt = 4 * f80.toInt := sg_exmul ef81 (iv_c 4 (a := 4) (b := 4) (by decide +kernel)) (iv_add (a' := 0) (b' := 63) ef80 (iv_mul (a' := 0) (b' := 48) ef79 (iv_c 16 (a := 16) (b := 16) (by decide +kernel)) (hf2.2 c3) (by decide +kernel)) (iv_lt (b' := 15) (iv_gt_of c15) hz12_5 hf14 (by decide +kernel)) (by decide +kernel)) (by decide +kernel) (by decide +kernel) rfl
                    have gag90 : f82.toInt = sgG0 P (64 * x1.toInt.toNat + 4 * z12_5.toInt.toNat) := sg_gav of82 (by omega) (by omega)
                    have gbg93 := sg_ne0' c83
                    have ms1 : sg_ms (sgG0 P) x1.toInt.toNat (z12_5.toInt.toNat + 1) = sg_ms (sgG0 P) x1.toInt.toNat z12_5.toInt.toNat := sg_ms_no (by omega)
                    have msl := sg_ms_le (sgG0 P) x1.toInt.toNat z12_5.toInt.toNat
                    have gll94 := sg_glv of14 (hf2.2 c3)
                    have bq95 : (-2147483648) ≤ x2.toInt ∧ x2.toInt ≤ 2147483647 := (iv_top x2)
                    have cq96 : (0 : Int32).toInt = 0 := by decide +kernel
                    have rr97 : (0 : Int32).toInt ≤ (x2 : Int32).toInt := Int32.le_iff_toInt_le.mp (iv_ge_of c6)
                    have bq98 : 2 ≤ f8.toInt ∧ f8.toInt ≤ 1073741824 := (sg_shl1 ef8 hf4 (by decide +kernel))
                    have rr99 : (x2 : Int32).toInt < (f8 : Int32).toInt := Int32.lt_iff_toInt_lt.mp (iv_gt_of c9)
                    have bq100 : (-2147483648) ≤ x3.toInt ∧ x3.toInt ≤ 2147483647 := (iv_top x3)
                    have cq101 : ((-1) : Int32).toInt = (-1) := by decide +kernel
                    have rr102 : ((-1) : Int32).toInt ≤ (x3 : Int32).toInt := Int32.le_iff_toInt_le.mp c11
                    have bq103 : 0 ≤ f14.toInt ∧ f14.toInt ≤ 16 := hf14
                    have rr104 : (z12_5 : Int32).toInt < (f14 : Int32).toInt := Int32.lt_iff_toInt_lt.mp (iv_gt_of c15)
                    have bq105 : 0 ≤ z12_5.toInt ∧ z12_5.toInt ≤ 15 := (iv_lt (b' := 15) (iv_gt_of c15) hz12_5 hf14 (by decide +kernel))
                    have xy85 : y85.toInt = z12_5.toInt + 1 := sg_inc (k := 1) ey85 (iv_lt (b' := 15) (iv_gt_of c15) hz12_5 hf14 (by decide +kernel)) (by decide +kernel)
                    have bq106 : 0 ≤ z12_4.toInt ∧ z12_4.toInt ≤ 16 := hz12_4
                    have xf84 : f84.toInt = z12_4.toInt + 0 := sg_inc (k := 0) ef84 hz12_4 (by decide +kernel)
                    have mk : y85.toInt.toNat = z12_5.toInt.toNat + 1 := by omega
                    rw [← mk] at ms1
                    exact ih12 _ _ f84 y85 hS (lv_sub hl [2, 3, 4, 5, 1, 0] rfl) ⟨by omega, by omega⟩ (iv_of (iv_add (a' := 1) (b' := 16) ey85 (iv_lt (b' := 15) (iv_gt_of c15) hz12_5 hf14 (by decide +kernel)) (iv_c _ (a := 1) (b := 1) (by decide +kernel)) (by decide +kernel)) (a' := 0) (b' := 16) (by decide +kernel)) (by omega) (iv_stepU ey85 (iv_lt (b' := 15) (iv_gt_of c15) hz12_5 hf14 (by decide +kernel)) (by decide +kernel) hN12)
                  · refine lv_aload_n X.1 X.2.1 dX12_missing_77 rfl (lv_at hl 0 rfl) ?_
                    refine gg_X12_21 X hK hG h0 wl_6_199 kq78 dX12_missing_78 ?_
                    refine lv_iconst (v := 4) X.1 X.2.1 dX12_missing_81 (by decide +kernel) ?_
                    refine lv_bipush (v := 16) X.1 X.2.1 dX12_missing_82 (by decide +kernel) ?_
                    refine lv_iload_n X.1 X.2.1 dX12_missing_84 rfl (lv_at hl 1 rfl) ?_
                    refine lv_imul X.1 X.2.1 dX12_missing_85 ?_
                    refine lv_topi (fun f107 ef107 => ?_)
                    refine lv_iload X.1 X.2.1 dX12_missing_86 (lv_at hl 5 rfl) ?_
                    refine lv_iadd X.1 X.2.1 dX12_missing_88 ?_
                    refine lv_topi (fun f108 ef108 => ?_)
                    refine lv_imul X.1 X.2.1 dX12_missing_89 ?_
                    refine lv_topi (fun f109 ef109 => ?_)
                    refine lv_iconst (v := 1) X.1 X.2.1 dX12_missing_90 (by decide +kernel) ?_
                    refine lv_iadd X.1 X.2.1 dX12_missing_91 ?_
                    refine lv_topi (fun f110 ef110 => ?_)
                    refine al_52 X hK hG hq78 (iv_vpin (iv_add (a' := 1) (b' := 253) ef110 (iv_mul (a' := 0) (b' := 252) ef109 (iv_c 4 (a := 4) (b := 4) (by decide +kernel)) (iv_add (a' := 0) (b' := 63) ef108 (iv_mul (a' := 0) (b' := 48) ef107 (iv_c 16 (a := 16) (b := 16) (by decide +kernel)) (hf2.2 c3) (by decide +kernel)) (iv_lt (b' := 15) (iv_gt_of c15) hz12_5 hf14 (by decide +kernel)) (by decide +kernel)) (by decide +kernel)) (iv_c 1 (a := 1) (b := 1) (by decide +kernel)) (by decide +kernel)) (by decide +kernel)) dX12_missing_92 (fun f111 hf111 => ?_)
                    have of111 := hf111
                    have hf111 : iv (-2147483648) 2147483647 f111 := iv_top f111
                    refine lv_iconst (v := (-1)) X.1 X.2.1 dX12_missing_93 (by decide +kernel) ?_
                    refine lv_icmp_ne (tgt := 101) X.1 X.2.1 dX12_missing_94 (by decide) (fun c112 => ?_) (fun c112 => ?_)
                    · refine lv_iconst (v := 0) X.1 X.2.1 dX12_missing_101 (by decide +kernel) ?_
                      refine lv_iadd X.1 X.2.1 dX12_missing_102 ?_
                      refine lv_topi (fun f113 ef113 => ?_)
                      refine lv_istore (lv' := [(4, .int f113), (0, .ref a0), (1, .int x1), (2, .int x2), (3, .int x3), (5, .int z12_5)]) X.1 X.2.1 dX12_missing_103 hl (by decide) rfl (fun ls hl => ?_)
                      obtain ⟨y114, ey114⟩ : ∃ y : Int32, y = z12_5 + Int32.ofInt 1 := ⟨_, rfl⟩
                      refine lv_iinc (v := y114) (lv' := [(5, .int y114), (4, .int f113), (0, .ref a0), (1, .int x1), (2, .int x2), (3, .int x3)]) X.1 X.2.1 dX12_missing_105 hl (k := 5) rfl ey114.symm (by decide) rfl (fun ls hl => ?_)
                      refine lv_goto (tgt := 47) X.1 X.2.1 dX12_missing_108 (by decide) ?_
                      have bq115 : 0 ≤ z12_5.toInt ∧ z12_5.toInt ≤ 15 := (iv_lt (b' := 15) (iv_gt_of c15) hz12_5 hf14 (by decide +kernel))
                      have xy114 : y114.toInt = z12_5.toInt + 1 := sg_inc (k := 1) ey114 (iv_lt (b' := 15) (iv_gt_of c15) hz12_5 hf14 (by decide +kernel)) (by decide +kernel)
                      have bq116 : 0 ≤ z12_4.toInt ∧ z12_4.toInt ≤ 16 := hz12_4
                      have xf113 : f113.toInt = z12_4.toInt + 0 := sg_inc (k := 0) ef113 hz12_4 (by decide +kernel)
                      have bq117 : 0 ≤ z12_5.toInt ∧ z12_5.toInt ≤ 15 := (iv_lt (b' := 15) (iv_gt_of c15) hz12_5 hf14 (by decide +kernel))
                      have bq118 : 0 ≤ x1.toInt ∧ x1.toInt ≤ 3 := (hf2.2 c3)
                      have cq120 : (4 : Int32).toInt = 4 := by decide +kernel
                      have cq121 : (16 : Int32).toInt = 16 := by decide +kernel
                      have xf79 : f79.toInt = 16 * x1.toInt := sg_exmul ef79 (iv_c 16 (a := 16) (b := 16) (by decide +kernel)) (hf2.2 c3) (by decide +kernel) (by decide +kernel) rfl
                      have xf80 : f80.toInt = f79.toInt + z12_5.toInt := sg_exadd ef80 (iv_mul (a' := 0) (b' := 48) ef79 (iv_c 16 (a := 16) (b := 16) (by decide +kernel)) (hf2.2 c3) (by decide +kernel)) (iv_lt (b' := 15) (iv_gt_of c15) hz12_5 hf14 (by decide +kernel)) (by decide +kernel) rfl rfl
                      have xf81 : f81.toInt = 4 * f80.toInt := sg_exmul ef81 (iv_c 4 (a := 4) (b := 4) (by decide +kernel)) (iv_add (a' := 0) (b' := 63) ef80 (iv_mul (a' := 0) (b' := 48) ef79 (iv_c 16 (a := 16) (b := 16) (by decide +kernel)) (hf2.2 c3) (by decide +kernel)) (iv_lt (b' := 15) (iv_gt_of c15) hz12_5 hf14 (by decide +kernel)) (by decide +kernel)) (by decide +kernel) (by decide +kernel) rfl
                      have gag119 : f82.toInt = sgG0 P (64 * x1.toInt.toNat + 4 * z12_5.toInt.toNat) := sg_gav of82 (by omega) (by omega)
                      have gbg122 := sg_eq0 c83
                      have xf107 : f107.toInt = 16 * x1.toInt := sg_exmul ef107 (iv_c 16 (a := 16) (b := 16) (by decide +kernel)) (hf2.2 c3) (by decide +kernel) (by decide +kernel) rfl
                      have xf108 : f108.toInt = f107.toInt + z12_5.toInt := sg_exadd ef108 (iv_mul (a' := 0) (b' := 48) ef107 (iv_c 16 (a := 16) (b := 16) (by decide +kernel)) (hf2.2 c3) (by decide +kernel)) (iv_lt (b' := 15) (iv_gt_of c15) hz12_5 hf14 (by decide +kernel)) (by decide +kernel) rfl rfl
                      have xf109 : f109.toInt = 4 * f108.toInt := sg_exmul ef109 (iv_c 4 (a := 4) (b := 4) (by decide +kernel)) (iv_add (a' := 0) (b' := 63) ef108 (iv_mul (a' := 0) (b' := 48) ef107 (iv_c 16 (a := 16) (b := 16) (by decide +kernel)) (hf2.2 c3) (by decide +kernel)) (iv_lt (b' := 15) (iv_gt_of c15) hz12_5 hf14 (by decide +kernel)) (by decide +kernel)) (by decide +kernel) (by decide +kernel) rfl
                      have xf110 : f110.toInt = f109.toInt + 1 := sg_inc (k := 1) ef110 (iv_mul (a' := 0) (b' := 252) ef109 (iv_c 4 (a := 4) (b := 4) (by decide +kernel)) (iv_add (a' := 0) (b' := 63) ef108 (iv_mul (a' := 0) (b' := 48) ef107 (iv_c 16 (a := 16) (b := 16) (by decide +kernel)) (hf2.2 c3) (by decide +kernel)) (iv_lt (b' := 15) (iv_gt_of c15) hz12_5 hf14 (by decide +kernel)) (by decide +kernel)) (by decide +kernel)) (by decide +kernel)
                      have gag123 : f111.toInt = sgG0 P (64 * x1.toInt.toNat + 4 * z12_5.toInt.toNat + 1) := sg_gav of111 (by omega) (by omega)
                      have gbg124 := sg_nem1 c112
                      have ms1 : sg_ms (sgG0 P) x1.toInt.toNat (z12_5.toInt.toNat + 1) = sg_ms (sgG0 P) x1.toInt.toNat z12_5.toInt.toNat := sg_ms_no (by omega)
                      have msl := sg_ms_le (sgG0 P) x1.toInt.toNat z12_5.toInt.toNat
                      have gll125 := sg_glv of14 (hf2.2 c3)
                      have bq126 : (-2147483648) ≤ x2.toInt ∧ x2.toInt ≤ 2147483647 := (iv_top x2)
                      have cq127 : (0 : Int32).toInt = 0 := by decide +kernel
                      have rr128 : (0 : Int32).toInt ≤ (x2 : Int32).toInt := Int32.le_iff_toInt_le.mp (iv_ge_of c6)
                      have bq129 : 2 ≤ f8.toInt ∧ f8.toInt ≤ 1073741824 := (sg_shl1 ef8 hf4 (by decide +kernel))
                      have rr130 : (x2 : Int32).toInt < (f8 : Int32).toInt := Int32.lt_iff_toInt_lt.mp (iv_gt_of c9)
                      have bq131 : (-2147483648) ≤ x3.toInt ∧ x3.toInt ≤ 2147483647 := (iv_top x3)
                      have cq132 : ((-1) : Int32).toInt = (-1) := by decide +kernel
                      have rr133 : ((-1) : Int32).toInt ≤ (x3 : Int32).toInt := Int32.le_iff_toInt_le.mp c11
                      have bq134 : 0 ≤ f14.toInt ∧ f14.toInt ≤ 16 := hf14
                      have rr135 : (z12_5 : Int32).toInt < (f14 : Int32).toInt := Int32.lt_iff_toInt_lt.mp (iv_gt_of c15)
                      have bq136 : 0 ≤ z12_5.toInt ∧ z12_5.toInt ≤ 15 := (iv_lt (b' := 15) (iv_gt_of c15) hz12_5 hf14 (by decide +kernel))
                      have xy114 : y114.toInt = z12_5.toInt + 1 := sg_inc (k := 1) ey114 (iv_lt (b' := 15) (iv_gt_of c15) hz12_5 hf14 (by decide +kernel)) (by decide +kernel)
                      have bq137 : 0 ≤ z12_4.toInt ∧ z12_4.toInt ≤ 16 := hz12_4
                      have xf113 : f113.toInt = z12_4.toInt + 0 := sg_inc (k := 0) ef113 hz12_4 (by decide +kernel)
                      have mk : y114.toInt.toNat = z12_5.toInt.toNat + 1 := by omega
                      rw [← mk] at ms1
                      exact ih12 _ _ f113 y114 hS (lv_sub hl [2, 3, 4, 5, 1, 0] rfl) ⟨by omega, by omega⟩ (iv_of (iv_add (a' := 1) (b' := 16) ey114 (iv_lt (b' := 15) (iv_gt_of c15) hz12_5 hf14 (by decide +kernel)) (iv_c _ (a := 1) (b := 1) (by decide +kernel)) (by decide +kernel)) (a' := 0) (b' := 16) (by decide +kernel)) (by omega) (iv_stepU ey114 (iv_lt (b' := 15) (iv_gt_of c15) hz12_5 hf14 (by decide +kernel)) (by decide +kernel) hN12)
                    · refine lv_iconst (v := 1) X.1 X.2.1 dX12_missing_97 (by decide +kernel) ?_
                      refine lv_goto (tgt := 102) X.1 X.2.1 dX12_missing_98 (by decide) ?_
                      refine lv_iadd X.1 X.2.1 dX12_missing_102 ?_
                      refine lv_topi (fun f138 ef138 => ?_)
                      refine lv_istore (lv' := [(4, .int f138), (0, .ref a0), (1, .int x1), (2, .int x2), (3, .int x3), (5, .int z12_5)]) X.1 X.2.1 dX12_missing_103 hl (by decide) rfl (fun ls hl => ?_)
                      obtain ⟨y139, ey139⟩ : ∃ y : Int32, y = z12_5 + Int32.ofInt 1 := ⟨_, rfl⟩
                      refine lv_iinc (v := y139) (lv' := [(5, .int y139), (4, .int f138), (0, .ref a0), (1, .int x1), (2, .int x2), (3, .int x3)]) X.1 X.2.1 dX12_missing_105 hl (k := 5) rfl ey139.symm (by decide) rfl (fun ls hl => ?_)
                      refine lv_goto (tgt := 47) X.1 X.2.1 dX12_missing_108 (by decide) ?_
                      have bq140 : 0 ≤ z12_5.toInt ∧ z12_5.toInt ≤ 15 := (iv_lt (b' := 15) (iv_gt_of c15) hz12_5 hf14 (by decide +kernel))
                      have xy139 : y139.toInt = z12_5.toInt + 1 := sg_inc (k := 1) ey139 (iv_lt (b' := 15) (iv_gt_of c15) hz12_5 hf14 (by decide +kernel)) (by decide +kernel)
                      have bq141 : 0 ≤ z12_4.toInt ∧ z12_4.toInt ≤ 16 := hz12_4
                      have xf138 : f138.toInt = z12_4.toInt + 1 := sg_inc (k := 1) ef138 hz12_4 (by decide +kernel)
                      have bq142 : 0 ≤ z12_5.toInt ∧ z12_5.toInt ≤ 15 := (iv_lt (b' := 15) (iv_gt_of c15) hz12_5 hf14 (by decide +kernel))
                      have bq143 : 0 ≤ x1.toInt ∧ x1.toInt ≤ 3 := (hf2.2 c3)
                      have cq145 : (4 : Int32).toInt = 4 := by decide +kernel
                      have cq146 : (16 : Int32).toInt = 16 := by decide +kernel
                      have xf79 : f79.toInt = 16 * x1.toInt := sg_exmul ef79 (iv_c 16 (a := 16) (b := 16) (by decide +kernel)) (hf2.2 c3) (by decide +kernel) (by decide +kernel) rfl
                      have xf80 : f80.toInt = f79.toInt + z12_5.toInt := sg_exadd ef80 (iv_mul (a' := 0) (b' := 48) ef79 (iv_c 16 (a := 16) (b := 16) (by decide +kernel)) (hf2.2 c3) (by decide +kernel)) (iv_lt (b' := 15) (iv_gt_of c15) hz12_5 hf14 (by decide +kernel)) (by decide +kernel) rfl rfl
                      have xf81 : f81.toInt = 4 * f80.toInt := sg_exmul ef81 (iv_c 4 (a := 4) (b := 4) (by decide +kernel)) (iv_add (a' := 0) (b' := 63) ef80 (iv_mul (a' := 0) (b' := 48) ef79 (iv_c 16 (a := 16) (b := 16) (by decide +kernel)) (hf2.2 c3) (by decide +kernel)) (iv_lt (b' := 15) (iv_gt_of c15) hz12_5 hf14 (by decide +kernel)) (by decide +kernel)) (by decide +kernel) (by decide +kernel) rfl
                      have gag144 : f82.toInt = sgG0 P (64 * x1.toInt.toNat + 4 * z12_5.toInt.toNat) := sg_gav of82 (by omega) (by omega)
                      have gbg147 := sg_eq0 c83
                      have xf107 : f107.toInt = 16 * x1.toInt := sg_exmul ef107 (iv_c 16 (a := 16) (b := 16) (by decide +kernel)) (hf2.2 c3) (by decide +kernel) (by decide +kernel) rfl
                      have xf108 : f108.toInt = f107.toInt + z12_5.toInt := sg_exadd ef108 (iv_mul (a' := 0) (b' := 48) ef107 (iv_c 16 (a := 16) (b := 16) (by decide +kernel)) (hf2.2 c3) (by decide +kernel)) (iv_lt (b' := 15) (iv_gt_of c15) hz12_5 hf14 (by decide +kernel)) (by decide +kernel) rfl rfl
                      have xf109 : f109.toInt = 4 * f108.toInt := sg_exmul ef109 (iv_c 4 (a := 4) (b := 4) (by decide +kernel)) (iv_add (a' := 0) (b' := 63) ef108 (iv_mul (a' := 0) (b' := 48) ef107 (iv_c 16 (a := 16) (b := 16) (by decide +kernel)) (hf2.2 c3) (by decide +kernel)) (iv_lt (b' := 15) (iv_gt_of c15) hz12_5 hf14 (by decide +kernel)) (by decide +kernel)) (by decide +kernel) (by decide +kernel) rfl
                      have xf110 : f110.toInt = f109.toInt + 1 := sg_inc (k := 1) ef110 (iv_mul (a' := 0) (b' := 252) ef109 (iv_c 4 (a := 4) (b := 4) (by decide +kernel)) (iv_add (a' := 0) (b' := 63) ef108 (iv_mul (a' := 0) (b' := 48) ef107 (iv_c 16 (a := 16) (b := 16) (by decide +kernel)) (hf2.2 c3) (by decide +kernel)) (iv_lt (b' := 15) (iv_gt_of c15) hz12_5 hf14 (by decide +kernel)) (by decide +kernel)) (by decide +kernel)) (by decide +kernel)
                      have gag148 : f111.toInt = sgG0 P (64 * x1.toInt.toNat + 4 * z12_5.toInt.toNat + 1) := sg_gav of111 (by omega) (by omega)
                      have gbg149 := sg_eqm1 c112
                      have ms1 : sg_ms (sgG0 P) x1.toInt.toNat (z12_5.toInt.toNat + 1) = sg_ms (sgG0 P) x1.toInt.toNat z12_5.toInt.toNat + 1 := sg_ms_yes (by omega) (by omega)
                      have msl := sg_ms_le (sgG0 P) x1.toInt.toNat z12_5.toInt.toNat
                      have gll150 := sg_glv of14 (hf2.2 c3)
                      have bq151 : (-2147483648) ≤ x2.toInt ∧ x2.toInt ≤ 2147483647 := (iv_top x2)
                      have cq152 : (0 : Int32).toInt = 0 := by decide +kernel
                      have rr153 : (0 : Int32).toInt ≤ (x2 : Int32).toInt := Int32.le_iff_toInt_le.mp (iv_ge_of c6)
                      have bq154 : 2 ≤ f8.toInt ∧ f8.toInt ≤ 1073741824 := (sg_shl1 ef8 hf4 (by decide +kernel))
                      have rr155 : (x2 : Int32).toInt < (f8 : Int32).toInt := Int32.lt_iff_toInt_lt.mp (iv_gt_of c9)
                      have bq156 : (-2147483648) ≤ x3.toInt ∧ x3.toInt ≤ 2147483647 := (iv_top x3)
                      have cq157 : ((-1) : Int32).toInt = (-1) := by decide +kernel
                      have rr158 : ((-1) : Int32).toInt ≤ (x3 : Int32).toInt := Int32.le_iff_toInt_le.mp c11
                      have bq159 : 0 ≤ f14.toInt ∧ f14.toInt ≤ 16 := hf14
                      have rr160 : (z12_5 : Int32).toInt < (f14 : Int32).toInt := Int32.lt_iff_toInt_lt.mp (iv_gt_of c15)
                      have bq161 : 0 ≤ z12_5.toInt ∧ z12_5.toInt ≤ 15 := (iv_lt (b' := 15) (iv_gt_of c15) hz12_5 hf14 (by decide +kernel))
                      have xy139 : y139.toInt = z12_5.toInt + 1 := sg_inc (k := 1) ey139 (iv_lt (b' := 15) (iv_gt_of c15) hz12_5 hf14 (by decide +kernel)) (by decide +kernel)
                      have bq162 : 0 ≤ z12_4.toInt ∧ z12_4.toInt ≤ 16 := hz12_4
                      have xf138 : f138.toInt = z12_4.toInt + 1 := sg_inc (k := 1) ef138 hz12_4 (by decide +kernel)
                      have mk : y139.toInt.toNat = z12_5.toInt.toNat + 1 := by omega
                      rw [← mk] at ms1
                      exact ih12 _ _ f138 y139 hS (lv_sub hl [2, 3, 4, 5, 1, 0] rfl) ⟨by omega, by omega⟩ (iv_of (iv_add (a' := 1) (b' := 16) ey139 (iv_lt (b' := 15) (iv_gt_of c15) hz12_5 hf14 (by decide +kernel)) (iv_c _ (a := 1) (b := 1) (by decide +kernel)) (by decide +kernel)) (a' := 0) (b' := 16) (by decide +kernel)) (by omega) (iv_stepU ey139 (iv_lt (b' := 15) (iv_gt_of c15) hz12_5 hf14 (by decide +kernel)) (by decide +kernel) hN12)
            have cq163 : (0 : Int32).toInt = 0 := by decide +kernel
            have ms0 : sg_ms (sgG0 P) x1.toInt.toNat (0 : Int32).toInt.toNat = 0 := by rw [show (0 : Int32).toInt.toNat = 0 from by decide +kernel]; rfl
            exact B12_47 _ _ _ 0 0 hS (lv_sub hl [2, 3, 4, 5, 1, 0] rfl) (iv_of (iv_c 0 (a := 0) (b := 0) (by decide +kernel)) (a' := 0) (b' := 16) (by decide +kernel)) (iv_of (iv_c 0 (a := 0) (b := 0) (by decide +kernel)) (a' := 0) (b' := 16) (by decide +kernel)) (by omega) (Nat.le_refl _)
          · refine lv_iconst (v := (-1)) X.1 X.2.1 dX12_missing_39 (by decide +kernel) ?_
            have bq164 : 0 ≤ x1.toInt ∧ x1.toInt ≤ 3 := (hf2.2 c3)
            have hG : sgG (KT (sgAt P (sgN P + 432000))) D vwCl _ tys ad ks _ := sg_moreN (P := P) (show (sgN P) ≤ (sgN P + 432000) from by omega) hG
            exact sg_iret2 X hr hlk hS trivial (fun t ht hW => sg_post hb hK hC hG hS ht hW) dX12_missing_40

theorem ca_X12_missing_1   (X : CallFix p m c cc nL s args sg_tbl own) (hK : va_K D vwCl tys s) (hG : sgG (KT P) D vwCl (fun q : Nat => base ≤ q) tys ad ks H) (hC : sgC base s) (hS : va_S (fun q : Nat => base ≤ q) s.heap H locs) (hb : base ≤ s.heap.size) (hp4 : P.2.2.2.2.1 = true) (a0 : Nat) (h0 : isK ad ks 12 a0) (x1 : Int32) (x2 : Int32) (x3 : Int32) (hN : sgN P + 432000 ≤ 1000000000) (hl : Cond.methodLink own index yX12_missing ∈ sg_tbl) (hsize : ls.size = nL) (hst : st0 = [.int x1, .int x2, .int x3].reverse ++ .ref a0 :: rest) (hW : (rest.map fun v => v.category).sum ≤ 8) (hR : 39 ≤ R.frames ∧ 922 ≤ R.locals) (hf : cells ≤ R.cells ∧ slots ≤ R.slots) (hdg : decode cc pc = .ok (.invokevirtual index, 3)) (kk : ∀ (r : Int32) (t : State) (H1 : Heap) (locs1 : List Loc), t.heap = H1 → (fun r : Int32 => True) r → (sgB (KT (sgAt P (sgN P + 432000))) D vwCl base tys ad ks t) → va_S (fun q : Nat => base ≤ q) s.heap H1 locs1 → W p l e R s m args below meth c H1 locs1 cells slots Q (F0 m (pc + 3) ls (.int r :: rest))) : W p l e R s m args below meth c H locs cells slots Q (F0 m pc ls st0) :=
  sg_callV2i X hK hG hC hS hb (m_X12_missing_1 l hp4 a0 h0 x1 x2 x3 hN) h0 (k := 12) (ci := 12) rfl (C := RX12) (T := TX12) (N := 53) rfl wl_8_230 wl_1_13 wl_8_228 wl_8_229 (n := 3) (by decide +kernel) rfl rfl rfl hl hsize hst hW hR hf hdg kk
end
