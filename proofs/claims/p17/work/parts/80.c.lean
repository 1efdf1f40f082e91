abbrev cX2_listLocalCuts : ByteArray := prog_4_method_8_code
def yX2_listLocalCuts : MethodName := ⟨RX2, "listLocalCuts", "(I)I"⟩
abbrev cX2_local : ByteArray := prog_4_method_7_code
def yX2_local : MethodName := ⟨RX2, "local", "(II)I"⟩
abbrev cX2_sumPart : ByteArray := prog_4_method_10_code
def yX2_sumPart : MethodName := ⟨RX2, "sumPart", "(II)V"⟩
theorem dX2_listLocalCuts_0 : decode cX2_listLocalCuts 0 = .ok (.aload_n 0, 1) := by decide +kernel
theorem dX2_listLocalCuts_1 : decode cX2_listLocalCuts 1 = .ok (.getfield 23, 3) := by decide +kernel
theorem dX2_listLocalCuts_4 : decode cX2_listLocalCuts 4 = .ok (.aload_n 0, 1) := by decide +kernel
theorem dX2_listLocalCuts_5 : decode cX2_listLocalCuts 5 = .ok (.getfield 9, 3) := by decide +kernel
theorem dX2_listLocalCuts_8 : decode cX2_listLocalCuts 8 = .ok (.iload_n 1, 1) := by decide +kernel
theorem dX2_listLocalCuts_9 : decode cX2_listLocalCuts 9 = .ok (.iaload, 1) := by decide +kernel
theorem dX2_listLocalCuts_10 : decode cX2_listLocalCuts 10 = .ok (.invokevirtual 64, 3) := by decide +kernel
theorem dX2_listLocalCuts_13 : decode cX2_listLocalCuts 13 = .ok (.iconst 0, 1) := by decide +kernel
theorem dX2_listLocalCuts_14 : decode cX2_listLocalCuts 14 = .ok (.istore_n 2, 1) := by decide +kernel
theorem dX2_listLocalCuts_15 : decode cX2_listLocalCuts 15 = .ok (.iload_n 2, 1) := by decide +kernel
theorem dX2_listLocalCuts_16 : decode cX2_listLocalCuts 16 = .ok (.aload_n 0, 1) := by decide +kernel
theorem dX2_listLocalCuts_17 : decode cX2_listLocalCuts 17 = .ok (.getfield 23, 3) := by decide +kernel
theorem dX2_listLocalCuts_20 : decode cX2_listLocalCuts 20 = .ok (.getfield 68, 3) := by decide +kernel
theorem dX2_listLocalCuts_23 : decode cX2_listLocalCuts 23 = .ok (.if_icmp .ge 29, 3) := by decide +kernel
theorem dX2_listLocalCuts_26 : decode cX2_listLocalCuts 26 = .ok (.aload_n 0, 1) := by decide +kernel
theorem dX2_listLocalCuts_27 : decode cX2_listLocalCuts 27 = .ok (.getfield 20, 3) := by decide +kernel
theorem dX2_listLocalCuts_30 : decode cX2_listLocalCuts 30 = .ok (.iload_n 2, 1) := by decide +kernel
theorem dX2_listLocalCuts_31 : decode cX2_listLocalCuts 31 = .ok (.aload_n 0, 1) := by decide +kernel
theorem dX2_listLocalCuts_32 : decode cX2_listLocalCuts 32 = .ok (.iload_n 1, 1) := by decide +kernel
theorem dX2_listLocalCuts_33 : decode cX2_listLocalCuts 33 = .ok (.aload_n 0, 1) := by decide +kernel
theorem dX2_listLocalCuts_34 : decode cX2_listLocalCuts 34 = .ok (.getfield 23, 3) := by decide +kernel
theorem dX2_listLocalCuts_37 : decode cX2_listLocalCuts 37 = .ok (.getfield 71, 3) := by decide +kernel
theorem dX2_listLocalCuts_40 : decode cX2_listLocalCuts 40 = .ok (.iload_n 2, 1) := by decide +kernel
theorem dX2_listLocalCuts_41 : decode cX2_listLocalCuts 41 = .ok (.iaload, 1) := by decide +kernel
theorem dX2_listLocalCuts_42 : decode cX2_listLocalCuts 42 = .ok (.invokevirtual 74, 3) := by decide +kernel
theorem dX2_listLocalCuts_45 : decode cX2_listLocalCuts 45 = .ok (.iastore, 1) := by decide +kernel
theorem dX2_listLocalCuts_46 : decode cX2_listLocalCuts 46 = .ok (.iinc 2 1, 3) := by decide +kernel
theorem dX2_listLocalCuts_49 : decode cX2_listLocalCuts 49 = .ok (.goto (-34), 3) := by decide +kernel
theorem dX2_listLocalCuts_52 : decode cX2_listLocalCuts 52 = .ok (.aload_n 0, 1) := by decide +kernel
theorem dX2_listLocalCuts_53 : decode cX2_listLocalCuts 53 = .ok (.getfield 23, 3) := by decide +kernel
theorem dX2_listLocalCuts_56 : decode cX2_listLocalCuts 56 = .ok (.getfield 68, 3) := by decide +kernel
theorem dX2_listLocalCuts_59 : decode cX2_listLocalCuts 59 = .ok (.ireturn, 1) := by decide +kernel
theorem dX2_local_0 : decode cX2_local 0 = .ok (.iconst 0, 1) := by decide +kernel
theorem dX2_local_1 : decode cX2_local 1 = .ok (.istore_n 3, 1) := by decide +kernel
theorem dX2_local_2 : decode cX2_local 2 = .ok (.iconst 0, 1) := by decide +kernel
theorem dX2_local_3 : decode cX2_local 3 = .ok (.istore 4, 2) := by decide +kernel
theorem dX2_local_5 : decode cX2_local 5 = .ok (.iconst 0, 1) := by decide +kernel
theorem dX2_local_6 : decode cX2_local 6 = .ok (.istore 5, 2) := by decide +kernel
theorem dX2_local_8 : decode cX2_local 8 = .ok (.iload 5, 2) := by decide +kernel
theorem dX2_local_10 : decode cX2_local 10 = .ok (.bipush 30, 2) := by decide +kernel
theorem dX2_local_12 : decode cX2_local 12 = .ok (.if_icmp .ge 38, 3) := by decide +kernel
theorem dX2_local_15 : decode cX2_local 15 = .ok (.aload_n 0, 1) := by decide +kernel
theorem dX2_local_16 : decode cX2_local 16 = .ok (.getfield 9, 3) := by decide +kernel
theorem dX2_local_19 : decode cX2_local 19 = .ok (.iload_n 1, 1) := by decide +kernel
theorem dX2_local_20 : decode cX2_local 20 = .ok (.iaload, 1) := by decide +kernel
theorem dX2_local_21 : decode cX2_local 21 = .ok (.iload 5, 2) := by decide +kernel
theorem dX2_local_23 : decode cX2_local 23 = .ok (.ishr, 1) := by decide +kernel
theorem dX2_local_24 : decode cX2_local 24 = .ok (.iconst 1, 1) := by decide +kernel
theorem dX2_local_25 : decode cX2_local 25 = .ok (.iand, 1) := by decide +kernel
theorem dX2_local_26 : decode cX2_local 26 = .ok (.ifCond .eq 18, 3) := by decide +kernel
theorem dX2_local_29 : decode cX2_local 29 = .ok (.iload_n 3, 1) := by decide +kernel
theorem dX2_local_30 : decode cX2_local 30 = .ok (.iload_n 2, 1) := by decide +kernel
theorem dX2_local_31 : decode cX2_local 31 = .ok (.iload 5, 2) := by decide +kernel
theorem dX2_local_33 : decode cX2_local 33 = .ok (.ishr, 1) := by decide +kernel
theorem dX2_local_34 : decode cX2_local 34 = .ok (.iconst 1, 1) := by decide +kernel
theorem dX2_local_35 : decode cX2_local 35 = .ok (.iand, 1) := by decide +kernel
theorem dX2_local_36 : decode cX2_local 36 = .ok (.iload 4, 2) := by decide +kernel
theorem dX2_local_38 : decode cX2_local 38 = .ok (.ishl, 1) := by decide +kernel
theorem dX2_local_39 : decode cX2_local 39 = .ok (.ior, 1) := by decide +kernel
theorem dX2_local_40 : decode cX2_local 40 = .ok (.istore_n 3, 1) := by decide +kernel
theorem dX2_local_41 : decode cX2_local 41 = .ok (.iinc 4 1, 3) := by decide +kernel
theorem dX2_local_44 : decode cX2_local 44 = .ok (.iinc 5 1, 3) := by decide +kernel
theorem dX2_local_47 : decode cX2_local 47 = .ok (.goto (-39), 3) := by decide +kernel
theorem dX2_local_50 : decode cX2_local 50 = .ok (.iload_n 3, 1) := by decide +kernel
theorem dX2_local_51 : decode cX2_local 51 = .ok (.ireturn, 1) := by decide +kernel
theorem dX2_sumPart_0 : decode cX2_sumPart 0 = .ok (.iload_n 2, 1) := by decide +kernel
theorem dX2_sumPart_1 : decode cX2_sumPart 1 = .ok (.ifCond .ne 7, 3) := by decide +kernel
theorem dX2_sumPart_4 : decode cX2_sumPart 4 = .ok (.iconst 0, 1) := by decide +kernel
theorem dX2_sumPart_5 : decode cX2_sumPart 5 = .ok (.goto 8, 3) := by decide +kernel
theorem dX2_sumPart_8 : decode cX2_sumPart 8 = .ok (.aload_n 0, 1) := by decide +kernel
theorem dX2_sumPart_9 : decode cX2_sumPart 9 = .ok (.iload_n 1, 1) := by decide +kernel
theorem dX2_sumPart_10 : decode cX2_sumPart 10 = .ok (.invokevirtual 84, 3) := by decide +kernel
theorem dX2_sumPart_13 : decode cX2_sumPart 13 = .ok (.istore_n 3, 1) := by decide +kernel
theorem dX2_sumPart_14 : decode cX2_sumPart 14 = .ok (.aload_n 0, 1) := by decide +kernel
theorem dX2_sumPart_15 : decode cX2_sumPart 15 = .ok (.getfield 15, 3) := by decide +kernel
theorem dX2_sumPart_18 : decode cX2_sumPart 18 = .ok (.iload_n 1, 1) := by decide +kernel
theorem dX2_sumPart_19 : decode cX2_sumPart 19 = .ok (.iaload, 1) := by decide +kernel
theorem dX2_sumPart_20 : decode cX2_sumPart 20 = .ok (.istore 4, 2) := by decide +kernel
theorem dX2_sumPart_22 : decode cX2_sumPart 22 = .ok (.iconst 0, 1) := by decide +kernel
theorem dX2_sumPart_23 : decode cX2_sumPart 23 = .ok (.istore 5, 2) := by decide +kernel
theorem dX2_sumPart_25 : decode cX2_sumPart 25 = .ok (.iload 5, 2) := by decide +kernel
theorem dX2_sumPart_27 : decode cX2_sumPart 27 = .ok (.iload_n 2, 1) := by decide +kernel
theorem dX2_sumPart_28 : decode cX2_sumPart 28 = .ok (.if_icmp .ge 89, 3) := by decide +kernel
theorem dX2_sumPart_31 : decode cX2_sumPart 31 = .ok (.iconst 0, 1) := by decide +kernel
theorem dX2_sumPart_32 : decode cX2_sumPart 32 = .ok (.istore 6, 2) := by decide +kernel
theorem dX2_sumPart_34 : decode cX2_sumPart 34 = .ok (.iconst 0, 1) := by decide +kernel
theorem dX2_sumPart_35 : decode cX2_sumPart 35 = .ok (.istore 7, 2) := by decide +kernel
theorem dX2_sumPart_37 : decode cX2_sumPart 37 = .ok (.iload 7, 2) := by decide +kernel
theorem dX2_sumPart_39 : decode cX2_sumPart 39 = .ok (.iload_n 3, 1) := by decide +kernel
theorem dX2_sumPart_40 : decode cX2_sumPart 40 = .ok (.if_icmp .ge 54, 3) := by decide +kernel
theorem dX2_sumPart_43 : decode cX2_sumPart 43 = .ok (.iload 5, 2) := by decide +kernel
theorem dX2_sumPart_45 : decode cX2_sumPart 45 = .ok (.aload_n 0, 1) := by decide +kernel
theorem dX2_sumPart_46 : decode cX2_sumPart 46 = .ok (.getfield 20, 3) := by decide +kernel
theorem dX2_sumPart_49 : decode cX2_sumPart 49 = .ok (.iload 7, 2) := by decide +kernel
theorem dX2_sumPart_51 : decode cX2_sumPart 51 = .ok (.iaload, 1) := by decide +kernel
theorem dX2_sumPart_52 : decode cX2_sumPart 52 = .ok (.iand, 1) := by decide +kernel
theorem dX2_sumPart_53 : decode cX2_sumPart 53 = .ok (.aload_n 0, 1) := by decide +kernel
theorem dX2_sumPart_54 : decode cX2_sumPart 54 = .ok (.getfield 20, 3) := by decide +kernel
theorem dX2_sumPart_57 : decode cX2_sumPart 57 = .ok (.iload 7, 2) := by decide +kernel
theorem dX2_sumPart_59 : decode cX2_sumPart 59 = .ok (.iaload, 1) := by decide +kernel
theorem dX2_sumPart_60 : decode cX2_sumPart 60 = .ok (.if_icmp .ne 28, 3) := by decide +kernel
theorem dX2_sumPart_63 : decode cX2_sumPart 63 = .ok (.iload 6, 2) := by decide +kernel
theorem dX2_sumPart_65 : decode cX2_sumPart 65 = .ok (.iconst 1, 1) := by decide +kernel
theorem dX2_sumPart_66 : decode cX2_sumPart 66 = .ok (.aload_n 0, 1) := by decide +kernel
theorem dX2_sumPart_67 : decode cX2_sumPart 67 = .ok (.getfield 77, 3) := by decide +kernel
theorem dX2_sumPart_70 : decode cX2_sumPart 70 = .ok (.iload 4, 2) := by decide +kernel
theorem dX2_sumPart_72 : decode cX2_sumPart 72 = .ok (.iload 5, 2) := by decide +kernel
theorem dX2_sumPart_74 : decode cX2_sumPart 74 = .ok (.aload_n 0, 1) := by decide +kernel
theorem dX2_sumPart_75 : decode cX2_sumPart 75 = .ok (.getfield 20, 3) := by decide +kernel
theorem dX2_sumPart_78 : decode cX2_sumPart 78 = .ok (.iload 7, 2) := by decide +kernel
theorem dX2_sumPart_80 : decode cX2_sumPart 80 = .ok (.iaload, 1) := by decide +kernel
theorem dX2_sumPart_81 : decode cX2_sumPart 81 = .ok (.ixor, 1) := by decide +kernel
theorem dX2_sumPart_82 : decode cX2_sumPart 82 = .ok (.iadd, 1) := by decide +kernel
theorem dX2_sumPart_83 : decode cX2_sumPart 83 = .ok (.iaload, 1) := by decide +kernel
theorem dX2_sumPart_84 : decode cX2_sumPart 84 = .ok (.ishl, 1) := by decide +kernel
theorem dX2_sumPart_85 : decode cX2_sumPart 85 = .ok (.ior, 1) := by decide +kernel
theorem dX2_sumPart_86 : decode cX2_sumPart 86 = .ok (.istore 6, 2) := by decide +kernel
theorem dX2_sumPart_88 : decode cX2_sumPart 88 = .ok (.iinc 7 1, 3) := by decide +kernel
theorem dX2_sumPart_91 : decode cX2_sumPart 91 = .ok (.goto (-54), 3) := by decide +kernel
theorem dX2_sumPart_94 : decode cX2_sumPart 94 = .ok (.aload_n 0, 1) := by decide +kernel
theorem dX2_sumPart_95 : decode cX2_sumPart 95 = .ok (.getfield 77, 3) := by decide +kernel
theorem dX2_sumPart_98 : decode cX2_sumPart 98 = .ok (.iload 4, 2) := by decide +kernel
theorem dX2_sumPart_100 : decode cX2_sumPart 100 = .ok (.iload 5, 2) := by decide +kernel
theorem dX2_sumPart_102 : decode cX2_sumPart 102 = .ok (.iadd, 1) := by decide +kernel
theorem dX2_sumPart_103 : decode cX2_sumPart 103 = .ok (.iload 6, 2) := by decide +kernel
theorem dX2_sumPart_105 : decode cX2_sumPart 105 = .ok (.iconst (-1), 1) := by decide +kernel
theorem dX2_sumPart_106 : decode cX2_sumPart 106 = .ok (.ixor, 1) := by decide +kernel
theorem dX2_sumPart_107 : decode cX2_sumPart 107 = .ok (.invokestatic 87, 3) := by decide +kernel
theorem dX2_sumPart_110 : decode cX2_sumPart 110 = .ok (.iastore, 1) := by decide +kernel
theorem dX2_sumPart_111 : decode cX2_sumPart 111 = .ok (.iinc 5 1, 3) := by decide +kernel
theorem dX2_sumPart_114 : decode cX2_sumPart 114 = .ok (.goto (-89), 3) := by decide +kernel
theorem dX2_sumPart_117 : decode cX2_sumPart 117 = .ok (.return_, 1) := by decide +kernel
theorem wl_5_170 : (.methodLink RX2 64 yX8_listCuts : Cond) ∈ sg_tbl := tb_5 _ (List.mem_of_getElem? (i := 170) (by decide +kernel)) (by decide +kernel)
theorem wl_2_52 : (.fieldLink RX2 68 "LawnAhead$Sight" "listed" "I" : Cond) ∈ sg_tbl := tb_2 _ (List.mem_of_getElem? (i := 52) (by decide +kernel)) (by decide +kernel)
theorem wl_2_148 : (.fieldLink RX2 20 "LawnAhead$Ends" "localCuts" "[I" : Cond) ∈ sg_tbl := tb_2 _ (List.mem_of_getElem? (i := 148) (by decide +kernel)) (by decide +kernel)
theorem wl_2_50 : (.fieldLink RX2 71 "LawnAhead$Sight" "taken" "[I" : Cond) ∈ sg_tbl := tb_2 _ (List.mem_of_getElem? (i := 50) (by decide +kernel)) (by decide +kernel)
theorem wl_5_171 : (.methodLink RX2 74 yX2_local : Cond) ∈ sg_tbl := tb_5 _ (List.mem_of_getElem? (i := 171) (by decide +kernel)) (by decide +kernel)
theorem wl_2_147 : (.fieldLink RX2 15 "LawnAhead$Ends" "places" "[I" : Cond) ∈ sg_tbl := tb_2 _ (List.mem_of_getElem? (i := 147) (by decide +kernel)) (by decide +kernel)
theorem wl_2_149 : (.fieldLink RX2 77 "LawnAhead$Ends" "sums" "[I" : Cond) ∈ sg_tbl := tb_2 _ (List.mem_of_getElem? (i := 149) (by decide +kernel)) (by decide +kernel)
theorem wl_5_175 : (.methodLink RX2 87 yJ6_numberOfTrailingZeros_0f7a4 : Cond) ∈ sg_tbl := tb_5 _ (List.mem_of_getElem? (i := 175) (by decide +kernel)) (by decide +kernel)
theorem wl_5_166 : (.methodLink RX2 84 yX2_listLocalCuts : Cond) ∈ sg_tbl := tb_5 _ (List.mem_of_getElem? (i := 166) (by decide +kernel)) (by decide +kernel)
theorem wl_5_174 : (.code yX2_local cX2_local 6 (some .int) : Cond) ∈ sg_tbl := tb_5 _ (List.mem_of_getElem? (i := 174) (by decide +kernel)) (by decide +kernel)
theorem wl_5_173 : (.instanceMethod yX2_local : Cond) ∈ sg_tbl := tb_5 _ (List.mem_of_getElem? (i := 173) (by decide +kernel)) (by decide +kernel)
theorem wl_0_38 : (.selects RX2 yX2_local yX2_local : Cond) ∈ sg_tbl := tb_0 _ (List.mem_of_getElem? (i := 38) (by decide +kernel)) (by decide +kernel)
theorem wl_5_169 : (.code yX2_listLocalCuts cX2_listLocalCuts 3 (some .int) : Cond) ∈ sg_tbl := tb_5 _ (List.mem_of_getElem? (i := 169) (by decide +kernel)) (by decide +kernel)
theorem wl_5_168 : (.instanceMethod yX2_listLocalCuts : Cond) ∈ sg_tbl := tb_5 _ (List.mem_of_getElem? (i := 168) (by decide +kernel)) (by decide +kernel)
theorem wl_0_37 : (.selects RX2 yX2_listLocalCuts yX2_listLocalCuts : Cond) ∈ sg_tbl := tb_0 _ (List.mem_of_getElem? (i := 37) (by decide +kernel)) (by decide +kernel)
theorem wl_5_165 : (.code yX2_sumPart cX2_sumPart 8 none : Cond) ∈ sg_tbl := tb_5 _ (List.mem_of_getElem? (i := 165) (by decide +kernel)) (by decide +kernel)
theorem wl_5_164 : (.instanceMethod yX2_sumPart : Cond) ∈ sg_tbl := tb_5 _ (List.mem_of_getElem? (i := 164) (by decide +kernel)) (by decide +kernel)
theorem wl_0_36 : (.selects RX2 yX2_sumPart yX2_sumPart : Cond) ∈ sg_tbl := tb_0 _ (List.mem_of_getElem? (i := 36) (by decide +kernel)) (by decide +kernel)
section
variable {p : Program} {l : Launch} {e : Env} {R : Room} {s : State} {m : MethodId} {args : Array Value} {below : List Frame} {meth : Method} {c : Code} {H : Heap} {locs : List Loc} {cells slots : Nat} {Q : State → Prop} {cc : ByteArray} {nL pc : Nat} {ls : Array Slot} {rest : List Value} {own : String} {D : va_G} {A : Nat → Prop} {tys : List (ClassId × FieldType)} {ad ks : List Nat} {P : sgPm} {H0 : Heap} {index : Nat} {base : Nat} {st0 : List Value} {a : Nat}
theorem gf_X2_2   (X : CallFix p m c cc nL s args sg_tbl own) (hK : va_K D vwCl tys s) (hG : sgG (KT P) D vwCl A tys ad ks H) (ha : isK ad ks 2 a) (hl : Cond.fieldLink own index "LawnAhead$Ends" "places" "[I" ∈ sg_tbl) (hdg : decode cc pc = .ok (.getfield index, 3)) (kk : ∀ x : Nat, isK ad ks 16 x → fld D H 2 a 2 (.ref x) → W p l e R s m args below meth c H locs cells slots Q (F0 m (pc + 3) ls (.ref x :: rest))) : W p l e R s m args below meth c H locs cells slots Q (F0 m pc ls (.ref a :: rest)) :=
  sg_get X hK hG ha (k := 2) (ci := 2) rfl (C := RX2) (T := TX2) (N := 10) rfl inL_X2 2 (by decide) rfl hl (fun _ h => h) hdg (fun v hv hf => by
    obtain ⟨h1, -⟩ | ⟨x, rfl, hx⟩ := hv
    · cases h1
    · exact kk x hx hf)
theorem gf_X2_3   (X : CallFix p m c cc nL s args sg_tbl own) (hK : va_K D vwCl tys s) (hG : sgG (KT P) D vwCl A tys ad ks H) (ha : isK ad ks 2 a) (hl : Cond.fieldLink own index "LawnAhead$Ends" "localCuts" "[I" ∈ sg_tbl) (hdg : decode cc pc = .ok (.getfield index, 3)) (kk : ∀ x : Nat, isK ad ks 17 x → fld D H 2 a 3 (.ref x) → W p l e R s m args below meth c H locs cells slots Q (F0 m (pc + 3) ls (.ref x :: rest))) : W p l e R s m args below meth c H locs cells slots Q (F0 m pc ls (.ref a :: rest)) :=
  sg_get X hK hG ha (k := 2) (ci := 2) rfl (C := RX2) (T := TX2) (N := 10) rfl inL_X2 3 (by decide) rfl hl (fun _ h => h) hdg (fun v hv hf => by
    obtain ⟨h1, -⟩ | ⟨x, rfl, hx⟩ := hv
    · cases h1
    · exact kk x hx hf)
theorem gf_X2_4s   (X : CallFix p m c cc nL s args sg_tbl own) (hK : va_K D vwCl tys s) (hG : sgG (KT P) D vwCl A tys ad ks H) (ha : isK ad ks 2 a) (hp : P.2.1 = true) (hl : Cond.fieldLink own index "LawnAhead$Ends" "sums" "[I" ∈ sg_tbl) (hdg : decode cc pc = .ok (.getfield index, 3)) (kk : ∀ x : Nat, isK ad ks 18 x → fld D H 2 a 4 (.ref x) → W p l e R s m args below meth c H locs cells slots Q (F0 m (pc + 3) ls (.ref x :: rest))) : W p l e R s m args below meth c H locs cells slots Q (F0 m pc ls (.ref a :: rest)) :=
  sg_get X hK hG ha (k := 2) (ci := 2) rfl (C := RX2) (T := TX2) (N := 10) rfl inL_X2 4 (by decide) rfl hl (fun _ h => h) hdg (fun v hv hf => by
    rw [hp] at hv
    obtain ⟨h1, -⟩ | ⟨x, rfl, hx⟩ := hv
    · cases h1
    · exact kk x hx hf)
theorem gg_X2_0   (X : CallFix p m c cc nL s args sg_tbl own) (hK : va_K D vwCl tys s) (hG : sgG (KT P) D vwCl A tys ad ks H) (ha : isK ad ks 2 a) (hl : Cond.fieldLink own index "LawnAhead$Ends" "sight" "LLawnAhead$Sight;" ∈ sg_tbl) {v : Value} (hf : fld D H 2 a 0 v) (hdg : decode cc pc = .ok (.getfield index, 3)) (kk : W p l e R s m args below meth c H locs cells slots Q (F0 m (pc + 3) ls (v :: rest))) : W p l e R s m args below meth c H locs cells slots Q (F0 m pc ls (.ref a :: rest)) :=
  sg_getf X hK hG ha (k := 2) (ci := 2) rfl (C := RX2) (T := TX2) (N := 10) rfl inL_X2 0 (by decide) (show 0 < 10 by decide) hl (fun _ h => h) hf hdg kk
theorem gg_X2_3   (X : CallFix p m c cc nL s args sg_tbl own) (hK : va_K D vwCl tys s) (hG : sgG (KT P) D vwCl A tys ad ks H) (ha : isK ad ks 2 a) (hl : Cond.fieldLink own index "LawnAhead$Ends" "localCuts" "[I" ∈ sg_tbl) {v : Value} (hf : fld D H 2 a 3 v) (hdg : decode cc pc = .ok (.getfield index, 3)) (kk : W p l e R s m args below meth c H locs cells slots Q (F0 m (pc + 3) ls (v :: rest))) : W p l e R s m args below meth c H locs cells slots Q (F0 m pc ls (.ref a :: rest)) :=
  sg_getf X hK hG ha (k := 2) (ci := 2) rfl (C := RX2) (T := TX2) (N := 10) rfl inL_X2 3 (by decide) (show 3 < 10 by decide) hl (fun _ h => h) hf hdg kk
theorem as_17  {i : Int32} {x : Int32}  (X : CallFix p m c cc nL s args sg_tbl own) (hK : va_K D vwCl tys s) (hG : sgG (KT P) D vwCl A tys ad ks H) (hS : va_S A H0 H locs) (ha : isK ad ks 17 a) (hin : vp_in i 270) (hv : okV ad ks (.inl ((-2147483648), 2147483647)) (.int x)) (hdg : decode cc pc = .ok (.iastore, 1)) (kk : ∀ (H1 : Heap) (locs1 : List Loc), sgG (KT P) D vwCl A tys ad ks H1 → va_S A H0 H1 locs1 → sgFr (KT P) D vwCl ad ks H H1 (fun _ _ => False) → W p l e R s m args below meth c H1 locs1 cells slots Q (F0 m (pc + 1) ls rest)) : W p l e R s m args below meth c H locs cells slots Q (F0 m pc ls (.int x :: .int i :: .ref a :: rest)) :=
  sg_iast X hK hG hS ha (k := 17) rfl hin hv hdg kk
theorem as_18  {i : Int32} {x : Int32}  (X : CallFix p m c cc nL s args sg_tbl own) (hK : va_K D vwCl tys s) (hG : sgG (KT P) D vwCl A tys ad ks H) (hS : va_S A H0 H locs) (ha : isK ad ks 18 a) (hin : vp_in i 8256) (hv : okV ad ks (.inl ((-2147483648), 2147483647)) (.int x)) (hdg : decode cc pc = .ok (.iastore, 1)) (kk : ∀ (H1 : Heap) (locs1 : List Loc), sgG (KT P) D vwCl A tys ad ks H1 → va_S A H0 H1 locs1 → sgFr (KT P) D vwCl ad ks H H1 (fun _ _ => False) → W p l e R s m args below meth c H1 locs1 cells slots Q (F0 m (pc + 1) ls rest)) : W p l e R s m args below meth c H locs cells slots Q (F0 m pc ls (.int x :: .int i :: .ref a :: rest)) :=
  sg_iast X hK hG hS ha (k := 18) rfl hin hv hdg kk
set_option maxHeartbeats 8000000 in
set_option maxRecDepth 100000 in
theorem m_X2_local (l : Launch) {D : va_G} {base : Nat} {tys : List (ClassId × FieldType)} {ad ks : List Nat} {P : sgPm} {Hx : Heap} (a0 : Nat) (h0 : isK ad ks 2 a0) (x1 : Int32) (h1 : iv 0 29 x1) (x2 : Int32) : sgPi l (KT P) D vwCl base tys ad ks Hx yX2_local cX2_local 6 (some .int) ({ frames := 0, cells := 0, slots := 0, locals := 0 }) [.ref a0, .int x1, .int x2] (fun r : Int32 => iv 0 1073741823 r) := by
  refine sg_ofP (Pq := fun Hx => va_Qi (fun r (_ : Unit) => (fun r : Int32 => iv 0 1073741823 r) r) (fun _ t => t.heap = Hx) (fun _ : Nat => False)) (by decide +kernel) (Nat.le_of_ble_eq_true rfl) (fun p e s m below meth c X hr hlk hb hK hC hG ls hl => ?_)
  have hS : va_S (fun _ : Nat => False) s.heap s.heap [] := va_S.rf
  have hl : lv_has ls 6 [(0, .ref a0), (1, .int x1), (2, .int x2)] := hl
  refine lv_iconst (v := 0) X.1 X.2.1 dX2_local_0 (by decide +kernel) ?_
  refine lv_istore_n (lv' := [(3, .int 0), (0, .ref a0), (1, .int x1), (2, .int x2)]) X.1 X.2.1 dX2_local_1 rfl hl (by decide) rfl (fun ls hl => ?_)
  refine lv_iconst (v := 0) X.1 X.2.1 dX2_local_2 (by decide +kernel) ?_
  refine lv_istore (lv' := [(4, .int 0), (3, .int 0), (0, .ref a0), (1, .int x1), (2, .int x2)]) X.1 X.2.1 dX2_local_3 hl (by decide) rfl (fun ls hl => ?_)
  refine lv_iconst (v := 0) X.1 X.2.1 dX2_local_5 (by decide +kernel) ?_
  refine lv_istore (lv' := [(5, .int 0), (4, .int 0), (3, .int 0), (0, .ref a0), (1, .int x1), (2, .int x2)]) X.1 X.2.1 dX2_local_6 hl (by decide) rfl (fun ls hl => ?_)
  have B1_8 : ∀ (N : Nat) (locs : List Loc) (ls : Array Slot) (z1_3 : Int32) (z1_4 : Int32) (z1_5 : Int32), va_S (fun _ : Nat => False) s.heap s.heap locs → lv_has ls 6 [(0, .ref a0), (1, .int x1), (2, .int x2), (3, .int z1_3), (4, .int z1_4), (5, .int z1_5)] → iv 0 1073741823 z1_3 → iv 0 30 z1_4 → iv 0 30 z1_5 → z1_4.toInt ≤ z1_5.toInt → (31 - z1_5.toInt).toNat ≤ N → W p l e (headSpec (Cond.code yX2_local cX2_local 6 (some .int) :: sg_tbl) ({ frames := 0, cells := 0, slots := 0, locals := 0 })).room s m #[.ref a0, .int x1, .int x2] below meth c s.heap locs 0 0 (MQ below (va_Qi (fun r (_ : Unit) => (fun r : Int32 => iv 0 1073741823 r) r) (fun _ t => t.heap = s.heap) (fun _ : Nat => False)) #[.ref a0, .int x1, .int x2] s 0 0 (fun _ : Nat => False)) (F0 m 8 ls []) := by
    intro N; induction N with
    | zero =>
      intro locs ls z1_3 z1_4 z1_5 hS hl hz1_3 hz1_4 hz1_5 xf1 hN
      exact absurd hN (by have := iv_up hz1_5; omega)
    | succ N ih1 =>
      intro locs ls z1_3 z1_4 z1_5 hS hl hz1_3 hz1_4 hz1_5 xf1 hN1
      refine lv_iload X.1 X.2.1 dX2_local_8 (lv_at hl 5 rfl) ?_
      refine lv_bipush (v := 30) X.1 X.2.1 dX2_local_10 (by decide +kernel) ?_
      refine lv_icmp_ge (tgt := 50) X.1 X.2.1 dX2_local_12 (by decide) (fun c2 => ?_) (fun c2 => ?_)
      · refine lv_iload_n X.1 X.2.1 dX2_local_50 rfl (lv_at hl 3 rfl) ?_
        exact sg_iretP X hr hlk hS hz1_3 dX2_local_51
      · refine lv_aload_n X.1 X.2.1 dX2_local_15 rfl (lv_at hl 0 rfl) ?_
        refine gf_X2_1 X hK hG h0 wl_2_145 dX2_local_16 (fun q3 hq3 kq3 => ?_)
        refine lv_iload_n X.1 X.2.1 dX2_local_19 rfl (lv_at hl 1 rfl) ?_
        refine al_15 X hK hG hq3 (iv_vpin h1 (by decide +kernel)) dX2_local_20 (fun f4 hf4 => ?_)
        refine lv_iload X.1 X.2.1 dX2_local_21 (lv_at hl 5 rfl) ?_
        refine lv_ishr X.1 X.2.1 dX2_local_23 ?_
        refine lv_topi (fun f5 ef5 => ?_)
        refine lv_iconst (v := 1) X.1 X.2.1 dX2_local_24 (by decide +kernel) ?_
        refine lv_iand X.1 X.2.1 dX2_local_25 ?_
        refine lv_topi (fun f6 ef6 => ?_)
        refine lv_if_eq (tgt := 44) X.1 X.2.1 dX2_local_26 (by decide) (fun c7 => ?_) (fun c7 => ?_)
        · obtain ⟨y8, ey8⟩ : ∃ y : Int32, y = z1_5 + Int32.ofInt 1 := ⟨_, rfl⟩
          refine lv_iinc (v := y8) (lv' := [(5, .int y8), (0, .ref a0), (1, .int x1), (2, .int x2), (3, .int z1_3), (4, .int z1_4)]) X.1 X.2.1 dX2_local_44 hl (k := 5) rfl ey8.symm (by decide) rfl (fun ls hl => ?_)
          refine lv_goto (tgt := 8) X.1 X.2.1 dX2_local_47 (by decide) ?_
          have bq9 : 0 ≤ z1_4.toInt ∧ z1_4.toInt ≤ 30 := hz1_4
          have bq10 : 0 ≤ z1_5.toInt ∧ z1_5.toInt ≤ 29 := (iv_lt (b' := 29) (iv_gt_of c2) hz1_5 (iv_c 30 (a := 30) (b := 30) (by decide +kernel)) (by decide +kernel))
          have xy8 : y8.toInt = z1_5.toInt + 1 := sg_inc (k := 1) ey8 (iv_lt (b' := 29) (iv_gt_of c2) hz1_5 (iv_c 30 (a := 30) (b := 30) (by decide +kernel)) (by decide +kernel)) (by decide +kernel)
          exact ih1 _ _ z1_3 z1_4 y8 hS (lv_sub hl [1, 2, 3, 4, 5, 0] rfl) hz1_3 ⟨by omega, by omega⟩ (iv_of (iv_add (a' := 1) (b' := 30) ey8 (iv_lt (b' := 29) (iv_gt_of c2) hz1_5 (iv_c 30 (a := 30) (b := 30) (by decide +kernel)) (by decide +kernel)) (iv_c _ (a := 1) (b := 1) (by decide +kernel)) (by decide +kernel)) (a' := 0) (b' := 30) (by decide +kernel)) (by omega) (iv_stepU ey8 (iv_lt (b' := 29) (iv_gt_of c2) hz1_5 (iv_c 30 (a := 30) (b := 30) (by decide +kernel)) (by decide +kernel)) (by decide +kernel) hN1)
        · refine lv_iload_n X.1 X.2.1 dX2_local_29 rfl (lv_at hl 3 rfl) ?_
          refine lv_iload_n X.1 X.2.1 dX2_local_30 rfl (lv_at hl 2 rfl) ?_
          refine lv_iload X.1 X.2.1 dX2_local_31 (lv_at hl 5 rfl) ?_
          refine lv_ishr X.1 X.2.1 dX2_local_33 ?_
          refine lv_topi (fun f11 ef11 => ?_)
          refine lv_iconst (v := 1) X.1 X.2.1 dX2_local_34 (by decide +kernel) ?_
          refine lv_iand X.1 X.2.1 dX2_local_35 ?_
          refine lv_topi (fun f12 ef12 => ?_)
          refine lv_iload X.1 X.2.1 dX2_local_36 (lv_at hl 4 rfl) ?_
          have bq13 : 0 ≤ z1_4.toInt ∧ z1_4.toInt ≤ 30 := hz1_4
          have bq14 : 0 ≤ z1_5.toInt ∧ z1_5.toInt ≤ 29 := (iv_lt (b' := 29) (iv_gt_of c2) hz1_5 (iv_c 30 (a := 30) (b := 30) (by decide +kernel)) (by decide +kernel))
          have hn38 : iv 0 29 z1_4 := ⟨by omega, by omega⟩
          refine lv_ishl X.1 X.2.1 dX2_local_38 ?_
          refine lv_topi (fun f15 ef15 => ?_)
          refine lv_ior X.1 X.2.1 dX2_local_39 ?_
          refine lv_topi (fun f16 ef16 => ?_)
          refine lv_istore_n (lv' := [(3, .int f16), (0, .ref a0), (1, .int x1), (2, .int x2), (4, .int z1_4), (5, .int z1_5)]) X.1 X.2.1 dX2_local_40 rfl hl (by decide) rfl (fun ls hl => ?_)
          obtain ⟨y17, ey17⟩ : ∃ y : Int32, y = z1_4 + Int32.ofInt 1 := ⟨_, rfl⟩
          refine lv_iinc (v := y17) (lv' := [(4, .int y17), (3, .int f16), (0, .ref a0), (1, .int x1), (2, .int x2), (5, .int z1_5)]) X.1 X.2.1 dX2_local_41 hl (k := 4) rfl ey17.symm (by decide) rfl (fun ls hl => ?_)
          obtain ⟨y18, ey18⟩ : ∃ y : Int32, y = z1_5 + Int32.ofInt 1 := ⟨_, rfl⟩
          refine lv_iinc (v := y18) (lv' := [(5, .int y18), (4, .int y17), (3, .int f16), (0, .ref a0), (1, .int x1), (2, .int x2)]) X.1 X.2.1 dX2_local_44 hl (k := 5) rfl ey18.symm (by decide) rfl (fun ls hl => ?_)
          refine lv_goto (tgt := 8) X.1 X.2.1 dX2_local_47 (by decide) ?_
          have bq19 : 0 ≤ z1_4.toInt ∧ z1_4.toInt ≤ 30 := hz1_4
          have xy17 : y17.toInt = z1_4.toInt + 1 := sg_inc (k := 1) ey17 hz1_4 (by decide +kernel)
          have bq20 : 0 ≤ z1_5.toInt ∧ z1_5.toInt ≤ 29 := (iv_lt (b' := 29) (iv_gt_of c2) hz1_5 (iv_c 30 (a := 30) (b := 30) (by decide +kernel)) (by decide +kernel))
          have xy18 : y18.toInt = z1_5.toInt + 1 := sg_inc (k := 1) ey18 (iv_lt (b' := 29) (iv_gt_of c2) hz1_5 (iv_c 30 (a := 30) (b := 30) (by decide +kernel)) (by decide +kernel)) (by decide +kernel)
          exact ih1 _ _ f16 y17 y18 hS (lv_sub hl [3, 4, 5, 2, 1, 0] rfl) (iv_of (iv_or 30 ef16 hz1_3 (sg_shl01 ef15 (iv_and (b' := 1) ef12 (iv_c 1 (a := 1) (b := 1) (by decide +kernel)) (by decide +kernel)) hn38) (by decide +kernel)) (a' := 0) (b' := 1073741823) (by decide +kernel)) ⟨by omega, by omega⟩ (iv_of (iv_add (a' := 1) (b' := 30) ey18 (iv_lt (b' := 29) (iv_gt_of c2) hz1_5 (iv_c 30 (a := 30) (b := 30) (by decide +kernel)) (by decide +kernel)) (iv_c _ (a := 1) (b := 1) (by decide +kernel)) (by decide +kernel)) (a' := 0) (b' := 30) (by decide +kernel)) (by omega) (iv_stepU ey18 (iv_lt (b' := 29) (iv_gt_of c2) hz1_5 (iv_c 30 (a := 30) (b := 30) (by decide +kernel)) (by decide +kernel)) (by decide +kernel) hN1)
  have cq21 : (0 : Int32).toInt = 0 := by decide +kernel
  exact B1_8 _ _ _ 0 0 0 hS (lv_sub hl [3, 4, 5, 2, 1, 0] rfl) (iv_of (iv_c 0 (a := 0) (b := 0) (by decide +kernel)) (a' := 0) (b' := 1073741823) (by decide +kernel)) (iv_of (iv_c 0 (a := 0) (b := 0) (by decide +kernel)) (a' := 0) (b' := 30) (by decide +kernel)) (iv_of (iv_c 0 (a := 0) (b := 0) (by decide +kernel)) (a' := 0) (b' := 30) (by decide +kernel)) (by omega) (Nat.le_refl _)

theorem ca_X2_local   (X : CallFix p m c cc nL s args sg_tbl own) (hK : va_K D vwCl tys s) (hG : sgG (KT P) D vwCl (fun q : Nat => base ≤ q) tys ad ks H) (hC : sgC base s) (hA : ∀ q : Nat, A q → base ≤ q) (hS : va_S A s.heap H locs) (hb : base ≤ s.heap.size) (a0 : Nat) (h0 : isK ad ks 2 a0) (x1 : Int32) (h1 : iv 0 29 x1) (x2 : Int32) (hl : Cond.methodLink own index yX2_local ∈ sg_tbl) (hsize : ls.size = nL) (hst : st0 = [.int x1, .int x2].reverse ++ .ref a0 :: rest) (hW : (rest.map fun v => v.category).sum ≤ 8) (hR : 1 ≤ R.frames ∧ 25 ≤ R.locals) (hf : cells ≤ R.cells ∧ slots ≤ R.slots) (hdg : decode cc pc = .ok (.invokevirtual index, 3)) (kk : ∀ (r : Int32) (locs1 : List Loc), (fun r : Int32 => iv 0 1073741823 r) r → va_S A s.heap H locs1 → W p l e R s m args below meth c H locs1 cells slots Q (F0 m (pc + 3) ls (.int r :: rest))) : W p l e R s m args below meth c H locs cells slots Q (F0 m pc ls st0) :=
  sg_callPVi X hK hG hC hA hS hb (m_X2_local l a0 h0 x1 h1 x2) h0 (k := 2) (ci := 2) rfl (C := RX2) (T := TX2) (N := 10) rfl wl_5_174 wl_1_11 wl_5_173 wl_0_38 (n := 2) (by decide +kernel) rfl rfl rfl hl hsize hst hW hR hf hdg kk

set_option maxHeartbeats 8000000 in
set_option maxRecDepth 100000 in
theorem m_X2_listLocalCuts (l : Launch) {D : va_G} {base : Nat} {tys : List (ClassId × FieldType)} {ad ks : List Nat} {P : sgPm} (a0 : Nat) (h0 : isK ad ks 2 a0) (x1 : Int32) (h1 : iv 0 29 x1) : sgMi l (KT P) D vwCl base tys ad ks yX2_listLocalCuts cX2_listLocalCuts 3 (some .int) ({ frames := 4, cells := 0, slots := 0, locals := 94 }) [.ref a0, .int x1] (fun r : Int32 => iv 0 270 r) := by
  refine sg_ofW (by decide +kernel) (Nat.le_of_ble_eq_true rfl) (fun p e s m below meth c X hr hlk hb hK hC hG ls hl => ?_)
  have hS : va_S (fun q : Nat => base ≤ q) s.heap s.heap [] := va_S.rf
  have hl : lv_has ls 3 [(0, .ref a0), (1, .int x1)] := hl
  refine lv_aload_n X.1 X.2.1 dX2_listLocalCuts_0 rfl (lv_at hl 0 rfl) ?_
  refine gf_X2_0 X hK hG h0 wl_2_144 dX2_listLocalCuts_1 (fun q1 hq1 kq1 => ?_)
  refine lv_aload_n X.1 X.2.1 dX2_listLocalCuts_4 rfl (lv_at hl 0 rfl) ?_
  refine gf_X2_1 X hK hG h0 wl_2_145 dX2_listLocalCuts_5 (fun q2 hq2 kq2 => ?_)
  refine lv_iload_n X.1 X.2.1 dX2_listLocalCuts_8 rfl (lv_at hl 1 rfl) ?_
  refine al_15 X hK hG hq2 (iv_vpin h1 (by decide +kernel)) dX2_listLocalCuts_9 (fun f3 hf3 => ?_)
  refine ca_X8_listCuts X hK hG hC hS hb q1 hq1 f3 wl_5_170 hl.1 (rest := []) rfl (Nat.le_of_ble_eq_true rfl) ⟨Nat.le_of_ble_eq_true rfl, Nat.le_of_ble_eq_true rfl⟩ ⟨Nat.le_of_ble_eq_true rfl, Nat.le_of_ble_eq_true rfl⟩ dX2_listLocalCuts_10 (fun H locs hG hS => ?_)
  refine lv_iconst (v := 0) X.1 X.2.1 dX2_listLocalCuts_13 (by decide +kernel) ?_
  refine lv_istore_n (lv' := [(2, .int 0), (0, .ref a0), (1, .int x1)]) X.1 X.2.1 dX2_listLocalCuts_14 rfl hl (by decide) rfl (fun ls hl => ?_)
  have B5_15 : ∀ (N : Nat) (H : Heap) (locs : List Loc) (ls : Array Slot) (z5_2 : Int32), sgG (KT P) D vwCl (fun q : Nat => base ≤ q) tys ad ks H → va_S (fun q : Nat => base ≤ q) s.heap H locs → lv_has ls 3 [(0, .ref a0), (1, .int x1), (2, .int z5_2)] → iv 0 270 z5_2 → (271 - z5_2.toInt).toNat ≤ N → W p l e (headSpec (Cond.code yX2_listLocalCuts cX2_listLocalCuts 3 (some .int) :: sg_tbl) ({ frames := 4, cells := 0, slots := 0, locals := 94 })).room s m #[.ref a0, .int x1] below meth c H locs 0 0 (MQ below (va_Qi (fun r (_ : Unit) => (fun r : Int32 => iv 0 270 r) r) (fun _ => sgB (KT P) D vwCl base tys ad ks) (fun q : Nat => base ≤ q)) #[.ref a0, .int x1] s 0 0 (fun q : Nat => base ≤ q)) (F0 m 15 ls []) := by
    intro N; induction N with
    | zero =>
      intro H locs ls z5_2 hG hS hl hz5_2 hN
      exact absurd hN (by have := iv_up hz5_2; omega)
    | succ N ih5 =>
      intro H locs ls z5_2 hG hS hl hz5_2 hN5
      refine lv_iload_n X.1 X.2.1 dX2_listLocalCuts_15 rfl (lv_at hl 2 rfl) ?_
      refine lv_aload_n X.1 X.2.1 dX2_listLocalCuts_16 rfl (lv_at hl 0 rfl) ?_
      refine gf_X2_0 X hK hG h0 wl_2_144 dX2_listLocalCuts_17 (fun q6 hq6 kq6 => ?_)
      refine gf_X8_8 X hK hG hq6 wl_2_52 dX2_listLocalCuts_20 (fun f7 hf7 kf7 => ?_)
      refine lv_icmp_ge (tgt := 52) X.1 X.2.1 dX2_listLocalCuts_23 (by decide) (fun c8 => ?_) (fun c8 => ?_)
      · refine lv_aload_n X.1 X.2.1 dX2_listLocalCuts_52 rfl (lv_at hl 0 rfl) ?_
        refine gg_X2_0 X hK hG h0 wl_2_144 kq6 dX2_listLocalCuts_53 ?_
        refine gg_X8_8 X hK hG hq6 wl_2_52 kf7 dX2_listLocalCuts_56 ?_
        exact sg_iret X hr hlk hb hK hC hG hS hf7 dX2_listLocalCuts_59
      · refine lv_aload_n X.1 X.2.1 dX2_listLocalCuts_26 rfl (lv_at hl 0 rfl) ?_
        refine gf_X2_3 X hK hG h0 wl_2_148 dX2_listLocalCuts_27 (fun q9 hq9 kq9 => ?_)
        refine lv_iload_n X.1 X.2.1 dX2_listLocalCuts_30 rfl (lv_at hl 2 rfl) ?_
        refine lv_aload_n X.1 X.2.1 dX2_listLocalCuts_31 rfl (lv_at hl 0 rfl) ?_
        refine lv_iload_n X.1 X.2.1 dX2_listLocalCuts_32 rfl (lv_at hl 1 rfl) ?_
        refine lv_aload_n X.1 X.2.1 dX2_listLocalCuts_33 rfl (lv_at hl 0 rfl) ?_
        refine gg_X2_0 X hK hG h0 wl_2_144 kq6 dX2_listLocalCuts_34 ?_
        refine gf_X8_7 X hK hG hq6 wl_2_50 dX2_listLocalCuts_37 (fun q10 hq10 kq10 => ?_)
        refine lv_iload_n X.1 X.2.1 dX2_listLocalCuts_40 rfl (lv_at hl 2 rfl) ?_
        refine al_41 X hK hG hq10 (iv_vpin (iv_lt (b' := 269) (iv_gt_of c8) hz5_2 hf7 (by decide +kernel)) (by decide +kernel)) dX2_listLocalCuts_41 (fun f11 hf11 => ?_)
        refine ca_X2_local X hK hG hC (fun _ h => h) hS hb a0 h0 x1 h1 f11 wl_5_171 hl.1 (rest := [.int z5_2, .ref q9]) rfl (Nat.le_of_ble_eq_true rfl) ⟨Nat.le_of_ble_eq_true rfl, Nat.le_of_ble_eq_true rfl⟩ ⟨Nat.le_of_ble_eq_true rfl, Nat.le_of_ble_eq_true rfl⟩ dX2_listLocalCuts_42 (fun f12 locs hf12 hS => ?_)
        refine as_17 X hK hG hS hq9 (iv_vpin (iv_lt (b' := 269) (iv_gt_of c8) hz5_2 hf7 (by decide +kernel)) (by decide +kernel)) ⟨_, rfl, (iv_top _)⟩ dX2_listLocalCuts_45 (fun H locs hG hS ru13 => ?_)
        obtain ⟨y14, ey14⟩ : ∃ y : Int32, y = z5_2 + Int32.ofInt 1 := ⟨_, rfl⟩
        refine lv_iinc (v := y14) (lv' := [(2, .int y14), (0, .ref a0), (1, .int x1)]) X.1 X.2.1 dX2_listLocalCuts_46 hl (k := 2) rfl ey14.symm (by decide) rfl (fun ls hl => ?_)
        refine lv_goto (tgt := 15) X.1 X.2.1 dX2_listLocalCuts_49 (by decide) ?_
        exact ih5 H _ _ y14 hG hS (lv_sub hl [1, 2, 0] rfl) (iv_of (iv_add (a' := 1) (b' := 270) ey14 (iv_lt (b' := 269) (iv_gt_of c8) hz5_2 hf7 (by decide +kernel)) (iv_c _ (a := 1) (b := 1) (by decide +kernel)) (by decide +kernel)) (a' := 0) (b' := 270) (by decide +kernel)) (iv_stepU ey14 (iv_lt (b' := 269) (iv_gt_of c8) hz5_2 hf7 (by decide +kernel)) (by decide +kernel) hN5)
  exact B5_15 _ H _ _ 0 hG hS (lv_sub hl [1, 2, 0] rfl) (iv_of (iv_c 0 (a := 0) (b := 0) (by decide +kernel)) (a' := 0) (b' := 270) (by decide +kernel)) (Nat.le_refl _)

theorem ca_X2_listLocalCuts   (X : CallFix p m c cc nL s args sg_tbl own) (hK : va_K D vwCl tys s) (hG : sgG (KT P) D vwCl (fun q : Nat => base ≤ q) tys ad ks H) (hC : sgC base s) (hS : va_S (fun q : Nat => base ≤ q) s.heap H locs) (hb : base ≤ s.heap.size) (a0 : Nat) (h0 : isK ad ks 2 a0) (x1 : Int32) (h1 : iv 0 29 x1) (hl : Cond.methodLink own index yX2_listLocalCuts ∈ sg_tbl) (hsize : ls.size = nL) (hst : st0 = [.int x1].reverse ++ .ref a0 :: rest) (hW : (rest.map fun v => v.category).sum ≤ 8) (hR : 5 ≤ R.frames ∧ 116 ≤ R.locals) (hf : cells ≤ R.cells ∧ slots ≤ R.slots) (hdg : decode cc pc = .ok (.invokevirtual index, 3)) (kk : ∀ (r : Int32) (H1 : Heap) (locs1 : List Loc), (fun r : Int32 => iv 0 270 r) r → sgG (KT P) D vwCl (fun q : Nat => base ≤ q) tys ad ks H1 → va_S (fun q : Nat => base ≤ q) s.heap H1 locs1 → W p l e R s m args below meth c H1 locs1 cells slots Q (F0 m (pc + 3) ls (.int r :: rest))) : W p l e R s m args below meth c H locs cells slots Q (F0 m pc ls st0) :=
  sg_callVi X hK hG hC hS hb (m_X2_listLocalCuts l a0 h0 x1 h1) h0 (k := 2) (ci := 2) rfl (C := RX2) (T := TX2) (N := 10) rfl wl_5_169 wl_1_11 wl_5_168 wl_0_37 (n := 1) (by decide +kernel) rfl rfl rfl hl hsize hst hW hR hf hdg kk

set_option maxHeartbeats 8000000 in
set_option maxRecDepth 100000 in
theorem m_J6_bitCount_0f7a4_q (l : Launch) {D : va_G} {base : Nat} {tys : List (ClassId × FieldType)} {ad ks : List Nat} {P : sgPm} {Hx : Heap} (x0 : Int32) : sgPi l (KT P) D vwCl base tys ad ks Hx yJ6_bitCount_0f7a4 cJ6_bitCount_0f7a4 1 (some .int) ({ frames := 0, cells := 0, slots := 0, locals := 0 }) [.int x0] (fun r : Int32 => iv 0 63 r ∧ r.toInt = (sg_pc 32 x0.toBitVec.toNat : Int)) := by
  refine sg_ofP (Pq := fun Hx => va_Qi (fun r (_ : Unit) => (fun r : Int32 => iv 0 63 r ∧ r.toInt = (sg_pc 32 x0.toBitVec.toNat : Int)) r) (fun _ t => t.heap = Hx) (fun _ : Nat => False)) (by decide +kernel) (Nat.le_of_ble_eq_true rfl) (fun p e s m below meth c X hr hlk hb hK hC hG ls hl => ?_)
  have hS : va_S (fun _ : Nat => False) s.heap s.heap [] := va_S.rf
  have hl : lv_has ls 1 [(0, .int x0)] := hl
  refine lv_iload_n X.1 X.2.1 dJ6_bitCount_0f7a4_0 rfl (lv_at hl 0 rfl) ?_
  refine lv_iload_n X.1 X.2.1 dJ6_bitCount_0f7a4_1 rfl (lv_at hl 0 rfl) ?_
  refine lv_iconst (v := 1) X.1 X.2.1 dJ6_bitCount_0f7a4_2 (by decide +kernel) ?_
  obtain ⟨f1, ef1⟩ : ∃ y : Int32, y = (x0.toUInt32 >>> ((1 : Int32).toUInt32 &&& Int32.toUInt32 31)).toInt32 := ⟨_, rfl⟩
  refine lv_iushr (v := f1) X.1 X.2.1 dJ6_bitCount_0f7a4_3 ef1.symm ?_
  refine lv_ldcw X.1 X.2.1 X.2.2.2.1 (X.2.2.2.2 _ wl_4_105) dJ6_bitCount_0f7a4_4 ?_
  refine lv_iand X.1 X.2.1 dJ6_bitCount_0f7a4_7 ?_
  refine lv_topi (fun f2 ef2 => ?_)
  refine lv_isub X.1 X.2.1 dJ6_bitCount_0f7a4_8 ?_
  refine lv_topi (fun f3 ef3 => ?_)
  refine lv_istore_n (lv' := [(0, .int f3)]) X.1 X.2.1 dJ6_bitCount_0f7a4_9 rfl hl (by decide) rfl (fun ls hl => ?_)
  refine lv_iload_n X.1 X.2.1 dJ6_bitCount_0f7a4_10 rfl (lv_at hl 0 rfl) ?_
  refine lv_ldcw X.1 X.2.1 X.2.2.2.1 (X.2.2.2.2 _ wl_4_106) dJ6_bitCount_0f7a4_11 ?_
  refine lv_iand X.1 X.2.1 dJ6_bitCount_0f7a4_14 ?_
  refine lv_topi (fun f4 ef4 => ?_)
  refine lv_iload_n X.1 X.2.1 dJ6_bitCount_0f7a4_15 rfl (lv_at hl 0 rfl) ?_
  refine lv_iconst (v := 2) X.1 X.2.1 dJ6_bitCount_0f7a4_16 (by decide +kernel) ?_
  obtain ⟨f5, ef5⟩ : ∃ y : Int32, y = (f3.toUInt32 >>> ((2 : Int32).toUInt32 &&& Int32.toUInt32 31)).toInt32 := ⟨_, rfl⟩
  refine lv_iushr (v := f5) X.1 X.2.1 dJ6_bitCount_0f7a4_17 ef5.symm ?_
  refine lv_ldcw X.1 X.2.1 X.2.2.2.1 (X.2.2.2.2 _ wl_4_106) dJ6_bitCount_0f7a4_18 ?_
  refine lv_iand X.1 X.2.1 dJ6_bitCount_0f7a4_21 ?_
  refine lv_topi (fun f6 ef6 => ?_)
  refine lv_iadd X.1 X.2.1 dJ6_bitCount_0f7a4_22 ?_
  refine lv_topi (fun f7 ef7 => ?_)
  refine lv_istore_n (lv' := [(0, .int f7)]) X.1 X.2.1 dJ6_bitCount_0f7a4_23 rfl hl (by decide) rfl (fun ls hl => ?_)
  refine lv_iload_n X.1 X.2.1 dJ6_bitCount_0f7a4_24 rfl (lv_at hl 0 rfl) ?_
  refine lv_iload_n X.1 X.2.1 dJ6_bitCount_0f7a4_25 rfl (lv_at hl 0 rfl) ?_
  refine lv_iconst (v := 4) X.1 X.2.1 dJ6_bitCount_0f7a4_26 (by decide +kernel) ?_
  obtain ⟨f8, ef8⟩ : ∃ y : Int32, y = (f7.toUInt32 >>> ((4 : Int32).toUInt32 &&& Int32.toUInt32 31)).toInt32 := ⟨_, rfl⟩
  refine lv_iushr (v := f8) X.1 X.2.1 dJ6_bitCount_0f7a4_27 ef8.symm ?_
  refine lv_iadd X.1 X.2.1 dJ6_bitCount_0f7a4_28 ?_
  refine lv_topi (fun f9 ef9 => ?_)
  refine lv_ldcw X.1 X.2.1 X.2.2.2.1 (X.2.2.2.2 _ wl_4_107) dJ6_bitCount_0f7a4_29 ?_
  refine lv_iand X.1 X.2.1 dJ6_bitCount_0f7a4_32 ?_
  refine lv_topi (fun f10 ef10 => ?_)
  refine lv_istore_n (lv' := [(0, .int f10)]) X.1 X.2.1 dJ6_bitCount_0f7a4_33 rfl hl (by decide) rfl (fun ls hl => ?_)
  refine lv_iload_n X.1 X.2.1 dJ6_bitCount_0f7a4_34 rfl (lv_at hl 0 rfl) ?_
  refine lv_iload_n X.1 X.2.1 dJ6_bitCount_0f7a4_35 rfl (lv_at hl 0 rfl) ?_
  refine lv_bipush (v := 8) X.1 X.2.1 dJ6_bitCount_0f7a4_36 (by decide +kernel) ?_
  obtain ⟨f11, ef11⟩ : ∃ y : Int32, y = (f10.toUInt32 >>> ((8 : Int32).toUInt32 &&& Int32.toUInt32 31)).toInt32 := ⟨_, rfl⟩
  refine lv_iushr (v := f11) X.1 X.2.1 dJ6_bitCount_0f7a4_38 ef11.symm ?_
  refine lv_iadd X.1 X.2.1 dJ6_bitCount_0f7a4_39 ?_
  refine lv_topi (fun f12 ef12 => ?_)
  refine lv_istore_n (lv' := [(0, .int f12)]) X.1 X.2.1 dJ6_bitCount_0f7a4_40 rfl hl (by decide) rfl (fun ls hl => ?_)
  refine lv_iload_n X.1 X.2.1 dJ6_bitCount_0f7a4_41 rfl (lv_at hl 0 rfl) ?_
  refine lv_iload_n X.1 X.2.1 dJ6_bitCount_0f7a4_42 rfl (lv_at hl 0 rfl) ?_
  refine lv_bipush (v := 16) X.1 X.2.1 dJ6_bitCount_0f7a4_43 (by decide +kernel) ?_
  obtain ⟨f13, ef13⟩ : ∃ y : Int32, y = (f12.toUInt32 >>> ((16 : Int32).toUInt32 &&& Int32.toUInt32 31)).toInt32 := ⟨_, rfl⟩
  refine lv_iushr (v := f13) X.1 X.2.1 dJ6_bitCount_0f7a4_45 ef13.symm ?_
  refine lv_iadd X.1 X.2.1 dJ6_bitCount_0f7a4_46 ?_
  refine lv_topi (fun f14 ef14 => ?_)
  refine lv_istore_n (lv' := [(0, .int f14)]) X.1 X.2.1 dJ6_bitCount_0f7a4_47 rfl hl (by decide) rfl (fun ls hl => ?_)
  refine lv_iload_n X.1 X.2.1 dJ6_bitCount_0f7a4_48 rfl (lv_at hl 0 rfl) ?_
  refine lv_bipush (v := 63) X.1 X.2.1 dJ6_bitCount_0f7a4_49 (by decide +kernel) ?_
  refine lv_iand X.1 X.2.1 dJ6_bitCount_0f7a4_51 ?_
  refine lv_topi (fun f15 ef15 => ?_)
  exact sg_iretP X hr hlk hS (sg_bc ef1 ef2 ef3 ef4 ef5 ef6 ef7 ef8 ef9 ef10 ef11 ef12 ef13 ef14 ef15) dJ6_bitCount_0f7a4_52

theorem ca_J6_bitCount_0f7a4_q   (X : CallFix p m c cc nL s args sg_tbl own) (hK : va_K D vwCl tys s) (hG : sgG (KT P) D vwCl (fun q : Nat => base ≤ q) tys ad ks H) (hC : sgC base s) (hA : ∀ q : Nat, A q → base ≤ q) (hS : va_S A s.heap H locs) (hb : base ≤ s.heap.size) (x0 : Int32) (hl : Cond.methodLink own index yJ6_bitCount_0f7a4 ∈ sg_tbl) (hsize : ls.size = nL) (hst : st0 = [.int x0].reverse ++ rest) (hW : (rest.map fun v => v.category).sum ≤ 8) (hR : 1 ≤ R.frames ∧ 20 ≤ R.locals) (hf : cells ≤ R.cells ∧ slots ≤ R.slots) (hdg : decode cc pc = .ok (.invokestatic index, 3)) (kk : ∀ (r : Int32) (locs1 : List Loc), (fun r : Int32 => iv 0 63 r ∧ r.toInt = (sg_pc 32 x0.toBitVec.toNat : Int)) r → va_S A s.heap H locs1 → W p l e R s m args below meth c H locs1 cells slots Q (F0 m (pc + 3) ls (.int r :: rest))) : W p l e R s m args below meth c H locs cells slots Q (F0 m pc ls st0) :=
  sg_callPSi X hK hG hC hA hS hb (m_J6_bitCount_0f7a4_q l x0) wl_4_104 wl_1_26 wl_4_103 (n := 1) (by decide +kernel) rfl rfl rfl hl hsize hst hW hR hf hdg kk

set_option maxHeartbeats 8000000 in
set_option maxRecDepth 100000 in
theorem m_X2_isSmall_s (l : Launch) {D : va_G} {base : Nat} {tys : List (ClassId × FieldType)} {ad ks : List Nat} {P : sgPm} {Hx : Heap} (a0 : Nat) (h0 : isK ad ks 2 a0) (x1 : Int32) (h1 : iv 0 29 x1) : sgPi l (KT P) D vwCl base tys ad ks Hx yX2_isSmall cX2_isSmall 2 (some .boolean) ({ frames := 1, cells := 0, slots := 0, locals := 20 }) [.ref a0, .int x1] (fun r : Int32 => iv 0 1 r ∧ (¬ r = 0 → ∃ (q : Nat) (v : Int32), isK ad ks 15 q ∧ fld D Hx 2 a0 1 (.ref q) ∧ ele Hx q x1.toNatClampNeg v ∧ sg_pc 32 v.toBitVec.toNat ≤ 12)) := by
  refine sg_ofP (Pq := fun Hx => va_Qi (fun r (_ : Unit) => (fun r : Int32 => iv 0 1 r ∧ (¬ r = 0 → ∃ (q : Nat) (v : Int32), isK ad ks 15 q ∧ fld D Hx 2 a0 1 (.ref q) ∧ ele Hx q x1.toNatClampNeg v ∧ sg_pc 32 v.toBitVec.toNat ≤ 12)) r) (fun _ t => t.heap = Hx) (fun _ : Nat => False)) (by decide +kernel) (Nat.le_of_ble_eq_true rfl) (fun p e s m below meth c X hr hlk hb hK hC hG ls hl => ?_)
  have hS : va_S (fun _ : Nat => False) s.heap s.heap [] := va_S.rf
  have hl : lv_has ls 2 [(0, .ref a0), (1, .int x1)] := hl
  refine lv_aload_n X.1 X.2.1 dX2_isSmall_0 rfl (lv_at hl 0 rfl) ?_
  refine gf_X2_1 X hK hG h0 wl_2_145 dX2_isSmall_1 (fun q1 hq1 kq1 => ?_)
  refine lv_iload_n X.1 X.2.1 dX2_isSmall_4 rfl (lv_at hl 1 rfl) ?_
  refine sg_ialdE X hK hG hq1 (k := 15) rfl (iv_vpin h1 (by decide +kernel)) (n0 := x1.toNatClampNeg) rfl dX2_isSmall_5 (fun f2 hf2 kf2 => ?_)
  have hf2 : iv 0 1073741823 f2 := by obtain ⟨y, h1, h2⟩ := hf2; cases h1; exact h2
  refine ca_J6_bitCount_0f7a4_q X hK hG hC (fun _ h => h.elim) hS hb f2 wl_5_156 hl.1 (rest := []) rfl (Nat.le_of_ble_eq_true rfl) ⟨Nat.le_of_ble_eq_true rfl, Nat.le_of_ble_eq_true rfl⟩ ⟨Nat.le_of_ble_eq_true rfl, Nat.le_of_ble_eq_true rfl⟩ dX2_isSmall_6 (fun f3 locs hf3 hS => ?_)
  refine lv_bipush (v := 12) X.1 X.2.1 dX2_isSmall_9 (by decide +kernel) ?_
  refine lv_icmp_gt (tgt := 18) X.1 X.2.1 dX2_isSmall_11 (by decide) (fun c4 => ?_) (fun c4 => ?_)
  · refine lv_iconst (v := 0) X.1 X.2.1 dX2_isSmall_18 (by decide +kernel) ?_
    exact sg_zretP X hr (sg_zn (iv_of (iv_c 0 (a := 0) (b := 0) (by decide +kernel)) (a' := 0) (b' := 1) (by decide +kernel))) hlk hS ⟨(iv_of (iv_c 0 (a := 0) (b := 0) (by decide +kernel)) (a' := 0) (b' := 1) (by decide +kernel)), fun h => absurd rfl h⟩ dX2_isSmall_19
  · refine lv_iconst (v := 1) X.1 X.2.1 dX2_isSmall_14 (by decide +kernel) ?_
    refine lv_goto (tgt := 19) X.1 X.2.1 dX2_isSmall_15 (by decide) ?_
    exact sg_zretP X hr (sg_zn (iv_of (iv_c 1 (a := 1) (b := 1) (by decide +kernel)) (a' := 0) (b' := 1) (by decide +kernel))) hlk hS ⟨(iv_of (iv_c 1 (a := 1) (b := 1) (by decide +kernel)) (a' := 0) (b' := 1) (by decide +kernel)), fun _ => ⟨q1, f2, hq1, kq1, kf2, sg_pop12 hf3.2 (iv_ge_of c4)⟩⟩ dX2_isSmall_19

theorem ca_X2_isSmall_s   (X : CallFix p m c cc nL s args sg_tbl own) (hK : va_K D vwCl tys s) (hG : sgG (KT P) D vwCl (fun q : Nat => base ≤ q) tys ad ks H) (hC : sgC base s) (hA : ∀ q : Nat, A q → base ≤ q) (hS : va_S A s.heap H locs) (hb : base ≤ s.heap.size) (a0 : Nat) (h0 : isK ad ks 2 a0) (x1 : Int32) (h1 : iv 0 29 x1) (hl : Cond.methodLink own index yX2_isSmall ∈ sg_tbl) (hsize : ls.size = nL) (hst : st0 = [.int x1].reverse ++ .ref a0 :: rest) (hW : (rest.map fun v => v.category).sum ≤ 8) (hR : 2 ≤ R.frames ∧ 41 ≤ R.locals) (hf : cells ≤ R.cells ∧ slots ≤ R.slots) (hdg : decode cc pc = .ok (.invokevirtual index, 3)) (kk : ∀ (r : Int32) (locs1 : List Loc), (fun r : Int32 => iv 0 1 r ∧ (¬ r = 0 → ∃ (q : Nat) (v : Int32), isK ad ks 15 q ∧ fld D H 2 a0 1 (.ref q) ∧ ele H q x1.toNatClampNeg v ∧ sg_pc 32 v.toBitVec.toNat ≤ 12)) r → va_S A s.heap H locs1 → W p l e R s m args below meth c H locs1 cells slots Q (F0 m (pc + 3) ls (.int r :: rest))) : W p l e R s m args below meth c H locs cells slots Q (F0 m pc ls st0) :=
  sg_callPVi X hK hG hC hA hS hb (m_X2_isSmall_s l a0 h0 x1 h1) h0 (k := 2) (ci := 2) rfl (C := RX2) (T := TX2) (N := 10) rfl wl_5_155 wl_1_11 wl_5_153 wl_5_154 (n := 1) (by decide +kernel) rfl rfl rfl hl hsize hst hW hR hf hdg kk

set_option maxHeartbeats 8000000 in
set_option maxRecDepth 100000 in
theorem m_X2_sumPart_1 (l : Launch) {D : va_G} {base : Nat} {tys : List (ClassId × FieldType)} {ad ks : List Nat} {P : sgPm} (hp1 : P.2.1 = true) (a0 : Nat) (h0 : isK ad ks 2 a0) (x1 : Int32) (h1 : iv 0 29 x1) (x2 : Int32) (h2 : iv 0 4096 x2) (hpl : x2.toInt + ((min (sgPl P x1.toNatClampNeg) 8256 : Nat) : Int) ≤ 8256) : sgMv l (KT P) D vwCl base tys ad ks yX2_sumPart cX2_sumPart 8 none ({ frames := 5, cells := 0, slots := 0, locals := 116 }) [.ref a0, .int x1, .int x2] := by
  refine sg_ofW (by decide +kernel) (Nat.le_of_ble_eq_true rfl) (fun p e s m below meth c X hr hlk hb hK hC hG ls hl => ?_)
  have hS : va_S (fun q : Nat => base ≤ q) s.heap s.heap [] := va_S.rf
  have hl : lv_has ls 8 [(0, .ref a0), (1, .int x1), (2, .int x2)] := hl
  refine lv_iload_n X.1 X.2.1 dX2_sumPart_0 rfl (lv_at hl 2 rfl) ?_
  have B2_13 : ∀ (H : Heap) (locs : List Loc) (ls : Array Slot) (w2_0 : Int32), sgG (KT P) D vwCl (fun q : Nat => base ≤ q) tys ad ks H → va_S (fun q : Nat => base ≤ q) s.heap H locs → lv_has ls 8 [(0, .ref a0), (1, .int x1), (2, .int x2)] → iv 0 270 w2_0 → W p l e (headSpec (Cond.code yX2_sumPart cX2_sumPart 8 none :: sg_tbl) ({ frames := 5, cells := 0, slots := 0, locals := 116 })).room s m #[.ref a0, .int x1, .int x2] below meth c H locs 0 0 (MQ below (va_Qv (fun (_ : Unit) => True) (fun _ => sgB (KT P) D vwCl base tys ad ks) (fun q : Nat => base ≤ q)) #[.ref a0, .int x1, .int x2] s 0 0 (fun q : Nat => base ≤ q)) (F0 m 13 ls [.int w2_0]) := by
    intro H locs ls w2_0 hG hS hl hw2_0
    refine lv_istore_n (lv' := [(3, .int w2_0), (0, .ref a0), (1, .int x1), (2, .int x2)]) X.1 X.2.1 dX2_sumPart_13 rfl hl (by decide) rfl (fun ls hl => ?_)
    refine lv_aload_n X.1 X.2.1 dX2_sumPart_14 rfl (lv_at hl 1 rfl) ?_
    refine gf_X2_2 X hK hG h0 wl_2_147 dX2_sumPart_15 (fun q3 hq3 kq3 => ?_)
    refine lv_iload_n X.1 X.2.1 dX2_sumPart_18 rfl (lv_at hl 2 rfl) ?_
    refine sg_ialdE X hK hG hq3 (k := 16) rfl (iv_vpin h1 (by decide +kernel)) (n0 := x1.toNatClampNeg) rfl dX2_sumPart_19 (fun f4 hf4 kf4 => ?_)
    have of4 := hf4
    have hf4 : iv 0 8256 f4 := sg_plr hf4
    refine lv_istore (lv' := [(4, .int f4), (3, .int w2_0), (0, .ref a0), (1, .int x1), (2, .int x2)]) X.1 X.2.1 dX2_sumPart_20 hl (by decide) rfl (fun ls hl => ?_)
    refine lv_iconst (v := 0) X.1 X.2.1 dX2_sumPart_22 (by decide +kernel) ?_
    refine lv_istore (lv' := [(5, .int 0), (4, .int f4), (3, .int w2_0), (0, .ref a0), (1, .int x1), (2, .int x2)]) X.1 X.2.1 dX2_sumPart_23 hl (by decide) rfl (fun ls hl => ?_)
    have B5_25 : ∀ (N : Nat) (H : Heap) (locs : List Loc) (ls : Array Slot) (z5_5 : Int32), sgG (KT P) D vwCl (fun q : Nat => base ≤ q) tys ad ks H → va_S (fun q : Nat => base ≤ q) s.heap H locs → lv_has ls 8 [(0, .ref a0), (2, .int x2), (3, .int w2_0), (4, .int f4), (5, .int z5_5)] → iv 0 4096 z5_5 → (4097 - z5_5.toInt).toNat ≤ N → W p l e (headSpec (Cond.code yX2_sumPart cX2_sumPart 8 none :: sg_tbl) ({ frames := 5, cells := 0, slots := 0, locals := 116 })).room s m #[.ref a0, .int x1, .int x2] below meth c H locs 0 0 (MQ below (va_Qv (fun (_ : Unit) => True) (fun _ => sgB (KT P) D vwCl base tys ad ks) (fun q : Nat => base ≤ q)) #[.ref a0, .int x1, .int x2] s 0 0 (fun q : Nat => base ≤ q)) (F0 m 25 ls []) := by
      intro N; induction N with
      | zero =>
        intro H locs ls z5_5 hG hS hl hz5_5 hN
        exact absurd hN (by have := iv_up hz5_5; omega)
      | succ N ih5 =>
        intro H locs ls z5_5 hG hS hl hz5_5 hN5
        refine lv_iload X.1 X.2.1 dX2_sumPart_25 (lv_at hl 4 rfl) ?_
        refine lv_iload_n X.1 X.2.1 dX2_sumPart_27 rfl (lv_at hl 1 rfl) ?_
        refine lv_icmp_ge (tgt := 117) X.1 X.2.1 dX2_sumPart_28 (by decide) (fun c6 => ?_) (fun c6 => ?_)
        · exact sg_vret X hr hlk hb hK hC hG hS dX2_sumPart_117
        · refine lv_iconst (v := 0) X.1 X.2.1 dX2_sumPart_31 (by decide +kernel) ?_
          refine lv_istore (lv' := [(6, .int 0), (0, .ref a0), (2, .int x2), (3, .int w2_0), (4, .int f4), (5, .int z5_5)]) X.1 X.2.1 dX2_sumPart_32 hl (by decide) rfl (fun ls hl => ?_)
          refine lv_iconst (v := 0) X.1 X.2.1 dX2_sumPart_34 (by decide +kernel) ?_
          refine lv_istore (lv' := [(7, .int 0), (6, .int 0), (0, .ref a0), (2, .int x2), (3, .int w2_0), (4, .int f4), (5, .int z5_5)]) X.1 X.2.1 dX2_sumPart_35 hl (by decide) rfl (fun ls hl => ?_)
          have B7_37 : ∀ (N : Nat) (locs : List Loc) (ls : Array Slot) (z7_6 : Int32) (z7_7 : Int32), va_S (fun q : Nat => base ≤ q) s.heap H locs → lv_has ls 8 [(0, .ref a0), (2, .int x2), (3, .int w2_0), (4, .int f4), (5, .int z5_5), (6, .int z7_6), (7, .int z7_7)] → iv 0 270 z7_7 → (271 - z7_7.toInt).toNat ≤ N → W p l e (headSpec (Cond.code yX2_sumPart cX2_sumPart 8 none :: sg_tbl) ({ frames := 5, cells := 0, slots := 0, locals := 116 })).room s m #[.ref a0, .int x1, .int x2] below meth c H locs 0 0 (MQ below (va_Qv (fun (_ : Unit) => True) (fun _ => sgB (KT P) D vwCl base tys ad ks) (fun q : Nat => base ≤ q)) #[.ref a0, .int x1, .int x2] s 0 0 (fun q : Nat => base ≤ q)) (F0 m 37 ls []) := by
            intro N; induction N with
            | zero =>
              intro locs ls z7_6 z7_7 hS hl hz7_7 hN
              exact absurd hN (by have := iv_up hz7_7; omega)
            | succ N ih7 =>
              intro locs ls z7_6 z7_7 hS hl hz7_7 hN7
              refine lv_iload X.1 X.2.1 dX2_sumPart_37 (lv_at hl 6 rfl) ?_
              refine lv_iload_n X.1 X.2.1 dX2_sumPart_39 rfl (lv_at hl 2 rfl) ?_
              refine lv_icmp_ge (tgt := 94) X.1 X.2.1 dX2_sumPart_40 (by decide) (fun c8 => ?_) (fun c8 => ?_)
              · refine lv_aload_n X.1 X.2.1 dX2_sumPart_94 rfl (lv_at hl 0 rfl) ?_
                refine gf_X2_4s X hK hG h0 hp1 wl_2_149 dX2_sumPart_95 (fun q9 hq9 kq9 => ?_)
                refine lv_iload X.1 X.2.1 dX2_sumPart_98 (lv_at hl 3 rfl) ?_
                refine lv_iload X.1 X.2.1 dX2_sumPart_100 (lv_at hl 4 rfl) ?_
                refine lv_iadd X.1 X.2.1 dX2_sumPart_102 ?_
                refine lv_topi (fun f10 ef10 => ?_)
                refine lv_iload X.1 X.2.1 dX2_sumPart_103 (lv_at hl 5 rfl) ?_
                refine lv_iconst (v := (-1)) X.1 X.2.1 dX2_sumPart_105 (by decide +kernel) ?_
                refine lv_ixor X.1 X.2.1 dX2_sumPart_106 ?_
                refine lv_topi (fun f11 ef11 => ?_)
                refine ca_J6_numberOfTrailingZeros_0f7a4 X hK hG hC (fun _ h => h) hS hb f11 wl_5_175 hl.1 (rest := [.int f10, .ref q9]) rfl (Nat.le_of_ble_eq_true rfl) ⟨Nat.le_of_ble_eq_true rfl, Nat.le_of_ble_eq_true rfl⟩ ⟨Nat.le_of_ble_eq_true rfl, Nat.le_of_ble_eq_true rfl⟩ dX2_sumPart_107 (fun f12 locs hf12 hS => ?_)
                have bq13 : 0 ≤ f4.toInt ∧ f4.toInt ≤ 8256 := hf4
                have bq14 : 0 ≤ z5_5.toInt ∧ z5_5.toInt ≤ 4095 := (iv_lt (b' := 4095) (iv_gt_of c6) hz5_5 h2 (by decide +kernel))
                have xf10 : f10.toInt = f4.toInt + z5_5.toInt := sg_exadd ef10 hf4 (iv_lt (b' := 4095) (iv_gt_of c6) hz5_5 h2 (by decide +kernel)) (by decide +kernel) rfl rfl
                have bq15 : 0 ≤ x2.toInt ∧ x2.toInt ≤ 4096 := h2
                have rr16 : (z5_5 : Int32).toInt < (x2 : Int32).toInt := Int32.lt_iff_toInt_lt.mp (iv_gt_of c6)
                have bq17 : 0 ≤ z7_7.toInt ∧ z7_7.toInt ≤ 270 := hz7_7
                have bq18 : 0 ≤ w2_0.toInt ∧ w2_0.toInt ≤ 270 := hw2_0
                have rr19 : (w2_0 : Int32).toInt ≤ (z7_7 : Int32).toInt := Int32.le_iff_toInt_le.mp c8
                have pl110 := sg_plu of4
                have hi110 : iv 0 8255 f10 := ⟨by omega, by omega⟩
                refine as_18 X hK hG hS hq9 (iv_vpin hi110 (by decide +kernel)) ⟨_, rfl, (iv_top _)⟩ dX2_sumPart_110 (fun H locs hG hS ru20 => ?_)
                obtain ⟨y21, ey21⟩ : ∃ y : Int32, y = z5_5 + Int32.ofInt 1 := ⟨_, rfl⟩
                refine lv_iinc (v := y21) (lv' := [(5, .int y21), (0, .ref a0), (2, .int x2), (3, .int w2_0), (4, .int f4), (6, .int z7_6), (7, .int z7_7)]) X.1 X.2.1 dX2_sumPart_111 hl (k := 4) rfl ey21.symm (by decide) rfl (fun ls hl => ?_)
                refine lv_goto (tgt := 25) X.1 X.2.1 dX2_sumPart_114 (by decide) ?_
                exact ih5 H _ _ y21 hG hS (lv_sub hl [1, 2, 3, 4, 0] rfl) (iv_of (iv_add (a' := 1) (b' := 4096) ey21 (iv_lt (b' := 4095) (iv_gt_of c6) hz5_5 h2 (by decide +kernel)) (iv_c _ (a := 1) (b := 1) (by decide +kernel)) (by decide +kernel)) (a' := 0) (b' := 4096) (by decide +kernel)) (iv_stepU ey21 (iv_lt (b' := 4095) (iv_gt_of c6) hz5_5 h2 (by decide +kernel)) (by decide +kernel) hN5)
              · refine lv_iload X.1 X.2.1 dX2_sumPart_43 (lv_at hl 4 rfl) ?_
                refine lv_aload_n X.1 X.2.1 dX2_sumPart_45 rfl (lv_at hl 0 rfl) ?_
                refine gf_X2_3 X hK hG h0 wl_2_148 dX2_sumPart_46 (fun q22 hq22 kq22 => ?_)
                refine lv_iload X.1 X.2.1 dX2_sumPart_49 (lv_at hl 6 rfl) ?_
                refine sg_ialdE X hK hG hq22 (k := 17) rfl (iv_vpin (iv_lt (b' := 269) (iv_gt_of c8) hz7_7 hw2_0 (by decide +kernel)) (by decide +kernel)) (n0 := z7_7.toNatClampNeg) rfl dX2_sumPart_51 (fun f23 hf23 kf23 => ?_)
                have hf23 : iv (-2147483648) 2147483647 f23 := by obtain ⟨y, h1, h2⟩ := hf23; cases h1; exact h2
                refine lv_iand X.1 X.2.1 dX2_sumPart_52 ?_
                refine lv_topi (fun f24 ef24 => ?_)
                refine lv_aload_n X.1 X.2.1 dX2_sumPart_53 rfl (lv_at hl 0 rfl) ?_
                refine gg_X2_3 X hK hG h0 wl_2_148 kq22 dX2_sumPart_54 ?_
                refine lv_iload X.1 X.2.1 dX2_sumPart_57 (lv_at hl 6 rfl) ?_
                refine sg_ialdK X hK hG hq22 (k := 17) rfl (iv_vpin (iv_lt (b' := 269) (iv_gt_of c8) hz7_7 hw2_0 (by decide +kernel)) (by decide +kernel)) (n0 := z7_7.toNatClampNeg) rfl kf23 dX2_sumPart_59 ?_
                have B27_88 : ∀ (locs : List Loc) (ls : Array Slot) (z27_6 : Int32), va_S (fun q : Nat => base ≤ q) s.heap H locs → lv_has ls 8 [(0, .ref a0), (2, .int x2), (3, .int w2_0), (4, .int f4), (5, .int z5_5), (6, .int z27_6), (7, .int z7_7)] → W p l e (headSpec (Cond.code yX2_sumPart cX2_sumPart 8 none :: sg_tbl) ({ frames := 5, cells := 0, slots := 0, locals := 116 })).room s m #[.ref a0, .int x1, .int x2] below meth c H locs 0 0 (MQ below (va_Qv (fun (_ : Unit) => True) (fun _ => sgB (KT P) D vwCl base tys ad ks) (fun q : Nat => base ≤ q)) #[.ref a0, .int x1, .int x2] s 0 0 (fun q : Nat => base ≤ q)) (F0 m 88 ls []) := by
                  intro locs ls z27_6 hS hl
                  obtain ⟨y28, ey28⟩ : ∃ y : Int32, y = z7_7 + Int32.ofInt 1 := ⟨_, rfl⟩
                  refine lv_iinc (v := y28) (lv' := [(7, .int y28), (0, .ref a0), (2, .int x2), (3, .int w2_0), (4, .int f4), (5, .int z5_5), (6, .int z27_6)]) X.1 X.2.1 dX2_sumPart_88 hl (k := 6) rfl ey28.symm (by decide) rfl (fun ls hl => ?_)
                  refine lv_goto (tgt := 37) X.1 X.2.1 dX2_sumPart_91 (by decide) ?_
                  exact ih7 _ _ z27_6 y28 hS (lv_sub hl [1, 2, 3, 4, 5, 6, 0] rfl) (iv_of (iv_add (a' := 1) (b' := 270) ey28 (iv_lt (b' := 269) (iv_gt_of c8) hz7_7 hw2_0 (by decide +kernel)) (iv_c _ (a := 1) (b := 1) (by decide +kernel)) (by decide +kernel)) (a' := 0) (b' := 270) (by decide +kernel)) (iv_stepU ey28 (iv_lt (b' := 269) (iv_gt_of c8) hz7_7 hw2_0 (by decide +kernel)) (by decide +kernel) hN7)
                refine lv_icmp_ne (tgt := 88) X.1 X.2.1 dX2_sumPart_60 (by decide) (fun c26 => ?_) (fun c26 => ?_)
                · exact B27_88 _ _ z7_6 hS (lv_sub hl [0, 1, 2, 3, 4, 5, 6] rfl)
                · refine lv_iload X.1 X.2.1 dX2_sumPart_63 (lv_at hl 5 rfl) ?_
                  refine lv_iconst (v := 1) X.1 X.2.1 dX2_sumPart_65 (by decide +kernel) ?_
                  refine lv_aload_n X.1 X.2.1 dX2_sumPart_66 rfl (lv_at hl 0 rfl) ?_
                  refine gf_X2_4s X hK hG h0 hp1 wl_2_149 dX2_sumPart_67 (fun q29 hq29 kq29 => ?_)
                  refine lv_iload X.1 X.2.1 dX2_sumPart_70 (lv_at hl 3 rfl) ?_
                  refine lv_iload X.1 X.2.1 dX2_sumPart_72 (lv_at hl 4 rfl) ?_
                  refine lv_aload_n X.1 X.2.1 dX2_sumPart_74 rfl (lv_at hl 0 rfl) ?_
                  refine gg_X2_3 X hK hG h0 wl_2_148 kq22 dX2_sumPart_75 ?_
                  refine lv_iload X.1 X.2.1 dX2_sumPart_78 (lv_at hl 6 rfl) ?_
                  refine sg_ialdK X hK hG hq22 (k := 17) rfl (iv_vpin (iv_lt (b' := 269) (iv_gt_of c8) hz7_7 hw2_0 (by decide +kernel)) (by decide +kernel)) (n0 := z7_7.toNatClampNeg) rfl kf23 dX2_sumPart_80 ?_
                  refine lv_ixor X.1 X.2.1 dX2_sumPart_81 ?_
                  refine lv_topi (fun f31 ef31 => ?_)
                  refine lv_iadd X.1 X.2.1 dX2_sumPart_82 ?_
                  refine lv_topi (fun f32 ef32 => ?_)
                  have sb83 := sg_sub ef24 c26 ef31 (iv_lt (b' := 4095) (iv_gt_of c6) hz5_5 h2 (by decide +kernel))
                  have hx83 : iv 0 8256 f31 := ⟨by have := ((iv_lt (b' := 4095) (iv_gt_of c6) hz5_5 h2 (by decide +kernel))).2; omega, by have := ((iv_lt (b' := 4095) (iv_gt_of c6) hz5_5 h2 (by decide +kernel))).2; omega⟩
                  have bq33 : 0 ≤ f4.toInt ∧ f4.toInt ≤ 8256 := hf4
                  have bq34 : 0 ≤ z5_5.toInt ∧ z5_5.toInt ≤ 4096 := hz5_5
                  have bq35 : 0 ≤ x2.toInt ∧ x2.toInt ≤ 4096 := h2
                  have rr36 : (z5_5 : Int32).toInt < (x2 : Int32).toInt := Int32.lt_iff_toInt_lt.mp (iv_gt_of c6)
                  have bq37 : 0 ≤ z7_7.toInt ∧ z7_7.toInt ≤ 270 := hz7_7
                  have bq38 : 0 ≤ w2_0.toInt ∧ w2_0.toInt ≤ 270 := hw2_0
                  have rr39 : (z7_7 : Int32).toInt < (w2_0 : Int32).toInt := Int32.lt_iff_toInt_lt.mp (iv_gt_of c8)
                  have xi83 : f32.toInt = f4.toInt + f31.toInt := sg_exadd ef32 hf4 hx83 (by decide +kernel) rfl rfl
                  have pl83 := sg_plu of4
                  have hi83 : iv 0 8255 f32 := ⟨by omega, by omega⟩
                  refine sg_ialdE X hK hG hq29 (k := 18) rfl (iv_vpin hi83 (by decide +kernel)) (n0 := f32.toNatClampNeg) rfl dX2_sumPart_83 (fun f40 hf40 kf40 => ?_)
                  have hf40 : iv (-2147483648) 2147483647 f40 := by obtain ⟨y, h1, h2⟩ := hf40; cases h1; exact h2
                  refine lv_ishl X.1 X.2.1 dX2_sumPart_84 ?_
                  refine lv_topi (fun f41 ef41 => ?_)
                  refine lv_ior X.1 X.2.1 dX2_sumPart_85 ?_
                  refine lv_topi (fun f42 ef42 => ?_)
                  refine lv_istore (lv' := [(6, .int f42), (0, .ref a0), (2, .int x2), (3, .int w2_0), (4, .int f4), (5, .int z5_5), (7, .int z7_7)]) X.1 X.2.1 dX2_sumPart_86 hl (by decide) rfl (fun ls hl => ?_)
                  exact B27_88 _ _ f42 hS (lv_sub hl [1, 2, 3, 4, 5, 0, 6] rfl)
          exact B7_37 _ _ _ 0 0 hS (lv_sub hl [2, 3, 4, 5, 6, 1, 0] rfl) (iv_of (iv_c 0 (a := 0) (b := 0) (by decide +kernel)) (a' := 0) (b' := 270) (by decide +kernel)) (Nat.le_refl _)
    exact B5_25 _ H _ _ 0 hG hS (lv_sub hl [3, 5, 2, 1, 0] rfl) (iv_of (iv_c 0 (a := 0) (b := 0) (by decide +kernel)) (a' := 0) (b' := 4096) (by decide +kernel)) (Nat.le_refl _)
  refine lv_if_ne (tgt := 8) X.1 X.2.1 dX2_sumPart_1 (by decide) (fun c1 => ?_) (fun c1 => ?_)
  · refine lv_aload_n X.1 X.2.1 dX2_sumPart_8 rfl (lv_at hl 0 rfl) ?_
    refine lv_iload_n X.1 X.2.1 dX2_sumPart_9 rfl (lv_at hl 1 rfl) ?_
    refine ca_X2_listLocalCuts X hK hG hC hS hb a0 h0 x1 h1 wl_5_166 hl.1 (rest := []) rfl (Nat.le_of_ble_eq_true rfl) ⟨Nat.le_of_ble_eq_true rfl, Nat.le_of_ble_eq_true rfl⟩ ⟨Nat.le_of_ble_eq_true rfl, Nat.le_of_ble_eq_true rfl⟩ dX2_sumPart_10 (fun f43 H locs hf43 hG hS => ?_)
    exact B2_13 H _ _ f43 hG hS (lv_sub hl [0, 1, 2] rfl) hf43
  · refine lv_iconst (v := 0) X.1 X.2.1 dX2_sumPart_4 (by decide +kernel) ?_
    refine lv_goto (tgt := 13) X.1 X.2.1 dX2_sumPart_5 (by decide) ?_
    exact B2_13 s.heap _ _ 0 hG hS (lv_sub hl [0, 1, 2] rfl) (iv_of (iv_c 0 (a := 0) (b := 0) (by decide +kernel)) (a' := 0) (b' := 270) (by decide +kernel))

theorem ca_X2_sumPart_1   (X : CallFix p m c cc nL s args sg_tbl own) (hK : va_K D vwCl tys s) (hG : sgG (KT P) D vwCl (fun q : Nat => base ≤ q) tys ad ks H) (hC : sgC base s) (hS : va_S (fun q : Nat => base ≤ q) s.heap H locs) (hb : base ≤ s.heap.size) (hp1 : P.2.1 = true) (a0 : Nat) (h0 : isK ad ks 2 a0) (x1 : Int32) (h1 : iv 0 29 x1) (x2 : Int32) (h2 : iv 0 4096 x2) (hpl : x2.toInt + ((min (sgPl P x1.toNatClampNeg) 8256 : Nat) : Int) ≤ 8256) (hl : Cond.methodLink own index yX2_sumPart ∈ sg_tbl) (hsize : ls.size = nL) (hst : st0 = [.int x1, .int x2].reverse ++ .ref a0 :: rest) (hW : (rest.map fun v => v.category).sum ≤ 8) (hR : 6 ≤ R.frames ∧ 143 ≤ R.locals) (hf : cells ≤ R.cells ∧ slots ≤ R.slots) (hdg : decode cc pc = .ok (.invokevirtual index, 3)) (kk : ∀ (H1 : Heap) (locs1 : List Loc), sgG (KT P) D vwCl (fun q : Nat => base ≤ q) tys ad ks H1 → va_S (fun q : Nat => base ≤ q) s.heap H1 locs1 → W p l e R s m args below meth c H1 locs1 cells slots Q (F0 m (pc + 3) ls rest)) : W p l e R s m args below meth c H locs cells slots Q (F0 m pc ls st0) :=
  sg_callVv X hK hG hC hS hb (m_X2_sumPart_1 l hp1 a0 h0 x1 h1 x2 h2 hpl) h0 (k := 2) (ci := 2) rfl (C := RX2) (T := TX2) (N := 10) rfl wl_5_165 wl_1_11 wl_5_164 wl_0_36 (n := 2) (by decide +kernel) rfl rfl rfl hl hsize hst hW hR hf hdg kk
end
