abbrev cX12_games : ByteArray := prog_14_method_73_code
def yX12_games : MethodName := ⟨RX12, "games", "(IJ)I"⟩
abbrev cX12_remember : ByteArray := prog_14_method_55_code
def yX12_remember : MethodName := ⟨RX12, "remember", "()V"⟩
abbrev cX12_sit : ByteArray := prog_14_method_66_code
def yX12_sit : MethodName := ⟨RX12, "sit", "()I"⟩
abbrev cX12_sumOf : ByteArray := prog_14_method_108_code
def yX12_sumOf : MethodName := ⟨RX12, "sumOf", "(I)I"⟩
abbrev cX12_undo : ByteArray := prog_14_method_74_code
def yX12_undo : MethodName := ⟨RX12, "undo", "()I"⟩
abbrev cX12_where : ByteArray := prog_14_method_123_code
def yX12_where : MethodName := ⟨RX12, "where", "(I)I"⟩
theorem dX12_games_0 : decode cX12_games 0 = .ok (.aload_n 0, 1) := by decide +kernel
theorem dX12_games_1 : decode cX12_games 1 = .ok (.iconst 0, 1) := by decide +kernel
theorem dX12_games_2 : decode cX12_games 2 = .ok (.putfield 94, 3) := by decide +kernel
theorem dX12_games_5 : decode cX12_games 5 = .ok (.aload_n 0, 1) := by decide +kernel
theorem dX12_games_6 : decode cX12_games 6 = .ok (.aload_n 0, 1) := by decide +kernel
theorem dX12_games_7 : decode cX12_games 7 = .ok (.getfield 52, 3) := by decide +kernel
theorem dX12_games_10 : decode cX12_games 10 = .ok (.invokevirtual 363, 3) := by decide +kernel
theorem dX12_games_13 : decode cX12_games 13 = .ok (.ifCond .eq 15, 3) := by decide +kernel
theorem dX12_games_28 : decode cX12_games 28 = .ok (.iconst (-1), 1) := by decide +kernel
theorem dX12_games_29 : decode cX12_games 29 = .ok (.ireturn, 1) := by decide +kernel
theorem dX12_remember_0 : decode cX12_remember 0 = .ok (.aload_n 0, 1) := by decide +kernel
theorem dX12_remember_1 : decode cX12_remember 1 = .ok (.getfield 311, 3) := by decide +kernel
theorem dX12_remember_4 : decode cX12_remember 4 = .ok (.bipush 40, 2) := by decide +kernel
theorem dX12_remember_6 : decode cX12_remember 6 = .ok (.if_icmp .ne 44, 3) := by decide +kernel
theorem dX12_remember_9 : decode cX12_remember 9 = .ok (.iconst 0, 1) := by decide +kernel
theorem dX12_remember_10 : decode cX12_remember 10 = .ok (.istore_n 1, 1) := by decide +kernel
theorem dX12_remember_11 : decode cX12_remember 11 = .ok (.iload_n 1, 1) := by decide +kernel
theorem dX12_remember_12 : decode cX12_remember 12 = .ok (.sipush 9711, 3) := by decide +kernel
theorem dX12_remember_15 : decode cX12_remember 15 = .ok (.if_icmp .ge 25, 3) := by decide +kernel
theorem dX12_remember_18 : decode cX12_remember 18 = .ok (.aload_n 0, 1) := by decide +kernel
theorem dX12_remember_19 : decode cX12_remember 19 = .ok (.getfield 69, 3) := by decide +kernel
theorem dX12_remember_22 : decode cX12_remember 22 = .ok (.iload_n 1, 1) := by decide +kernel
theorem dX12_remember_23 : decode cX12_remember 23 = .ok (.aload_n 0, 1) := by decide +kernel
theorem dX12_remember_24 : decode cX12_remember 24 = .ok (.getfield 69, 3) := by decide +kernel
theorem dX12_remember_27 : decode cX12_remember 27 = .ok (.iload_n 1, 1) := by decide +kernel
theorem dX12_remember_28 : decode cX12_remember 28 = .ok (.sipush 249, 3) := by decide +kernel
theorem dX12_remember_31 : decode cX12_remember 31 = .ok (.iadd, 1) := by decide +kernel
theorem dX12_remember_32 : decode cX12_remember 32 = .ok (.iaload, 1) := by decide +kernel
theorem dX12_remember_33 : decode cX12_remember 33 = .ok (.iastore, 1) := by decide +kernel
theorem dX12_remember_34 : decode cX12_remember 34 = .ok (.iinc 1 1, 3) := by decide +kernel
theorem dX12_remember_37 : decode cX12_remember 37 = .ok (.goto (-26), 3) := by decide +kernel
theorem dX12_remember_40 : decode cX12_remember 40 = .ok (.aload_n 0, 1) := by decide +kernel
theorem dX12_remember_41 : decode cX12_remember 41 = .ok (.dup, 1) := by decide +kernel
theorem dX12_remember_42 : decode cX12_remember 42 = .ok (.getfield 311, 3) := by decide +kernel
theorem dX12_remember_45 : decode cX12_remember 45 = .ok (.iconst 1, 1) := by decide +kernel
theorem dX12_remember_46 : decode cX12_remember 46 = .ok (.isub, 1) := by decide +kernel
theorem dX12_remember_47 : decode cX12_remember 47 = .ok (.putfield 311, 3) := by decide +kernel
theorem dX12_remember_50 : decode cX12_remember 50 = .ok (.iconst 0, 1) := by decide +kernel
theorem dX12_remember_51 : decode cX12_remember 51 = .ok (.istore_n 1, 1) := by decide +kernel
theorem dX12_remember_52 : decode cX12_remember 52 = .ok (.iload_n 1, 1) := by decide +kernel
theorem dX12_remember_53 : decode cX12_remember 53 = .ok (.sipush 249, 3) := by decide +kernel
theorem dX12_remember_56 : decode cX12_remember 56 = .ok (.if_icmp .ge 30, 3) := by decide +kernel
theorem dX12_remember_59 : decode cX12_remember 59 = .ok (.aload_n 0, 1) := by decide +kernel
theorem dX12_remember_60 : decode cX12_remember 60 = .ok (.getfield 69, 3) := by decide +kernel
theorem dX12_remember_63 : decode cX12_remember 63 = .ok (.sipush 249, 3) := by decide +kernel
theorem dX12_remember_66 : decode cX12_remember 66 = .ok (.aload_n 0, 1) := by decide +kernel
theorem dX12_remember_67 : decode cX12_remember 67 = .ok (.getfield 311, 3) := by decide +kernel
theorem dX12_remember_70 : decode cX12_remember 70 = .ok (.imul, 1) := by decide +kernel
theorem dX12_remember_71 : decode cX12_remember 71 = .ok (.iload_n 1, 1) := by decide +kernel
theorem dX12_remember_72 : decode cX12_remember 72 = .ok (.iadd, 1) := by decide +kernel
theorem dX12_remember_73 : decode cX12_remember 73 = .ok (.aload_n 0, 1) := by decide +kernel
theorem dX12_remember_74 : decode cX12_remember 74 = .ok (.getfield 52, 3) := by decide +kernel
theorem dX12_remember_77 : decode cX12_remember 77 = .ok (.iload_n 1, 1) := by decide +kernel
theorem dX12_remember_78 : decode cX12_remember 78 = .ok (.iaload, 1) := by decide +kernel
theorem dX12_remember_79 : decode cX12_remember 79 = .ok (.iastore, 1) := by decide +kernel
theorem dX12_remember_80 : decode cX12_remember 80 = .ok (.iinc 1 1, 3) := by decide +kernel
theorem dX12_remember_83 : decode cX12_remember 83 = .ok (.goto (-31), 3) := by decide +kernel
theorem dX12_remember_86 : decode cX12_remember 86 = .ok (.aload_n 0, 1) := by decide +kernel
theorem dX12_remember_87 : decode cX12_remember 87 = .ok (.dup, 1) := by decide +kernel
theorem dX12_remember_88 : decode cX12_remember 88 = .ok (.getfield 311, 3) := by decide +kernel
theorem dX12_remember_91 : decode cX12_remember 91 = .ok (.iconst 1, 1) := by decide +kernel
theorem dX12_remember_92 : decode cX12_remember 92 = .ok (.iadd, 1) := by decide +kernel
theorem dX12_remember_93 : decode cX12_remember 93 = .ok (.putfield 311, 3) := by decide +kernel
theorem dX12_remember_96 : decode cX12_remember 96 = .ok (.return_, 1) := by decide +kernel
theorem dX12_sit_0 : decode cX12_sit 0 = .ok (.aload_n 0, 1) := by decide +kernel
theorem dX12_sit_1 : decode cX12_sit 1 = .ok (.iconst 0, 1) := by decide +kernel
theorem dX12_sit_2 : decode cX12_sit 2 = .ok (.putfield 94, 3) := by decide +kernel
theorem dX12_sit_5 : decode cX12_sit 5 = .ok (.aload_n 0, 1) := by decide +kernel
theorem dX12_sit_6 : decode cX12_sit 6 = .ok (.aload_n 0, 1) := by decide +kernel
theorem dX12_sit_7 : decode cX12_sit 7 = .ok (.getfield 52, 3) := by decide +kernel
theorem dX12_sit_10 : decode cX12_sit 10 = .ok (.invokevirtual 363, 3) := by decide +kernel
theorem dX12_sit_13 : decode cX12_sit 13 = .ok (.ifCond .ne 5, 3) := by decide +kernel
theorem dX12_sit_16 : decode cX12_sit 16 = .ok (.iconst (-1), 1) := by decide +kernel
theorem dX12_sit_17 : decode cX12_sit 17 = .ok (.ireturn, 1) := by decide +kernel
theorem dX12_sumOf_0 : decode cX12_sumOf 0 = .ok (.aload_n 0, 1) := by decide +kernel
theorem dX12_sumOf_1 : decode cX12_sumOf 1 = .ok (.iconst 0, 1) := by decide +kernel
theorem dX12_sumOf_2 : decode cX12_sumOf 2 = .ok (.putfield 94, 3) := by decide +kernel
theorem dX12_sumOf_5 : decode cX12_sumOf 5 = .ok (.aload_n 0, 1) := by decide +kernel
theorem dX12_sumOf_6 : decode cX12_sumOf 6 = .ok (.getfield 302, 3) := by decide +kernel
theorem dX12_sumOf_9 : decode cX12_sumOf 9 = .ok (.ifCond .eq 29, 3) := by decide +kernel
theorem dX12_sumOf_38 : decode cX12_sumOf 38 = .ok (.ldc_w 439, 3) := by decide +kernel
theorem dX12_sumOf_41 : decode cX12_sumOf 41 = .ok (.ireturn, 1) := by decide +kernel
theorem dX12_undo_0 : decode cX12_undo 0 = .ok (.aload_n 0, 1) := by decide +kernel
theorem dX12_undo_1 : decode cX12_undo 1 = .ok (.iconst 0, 1) := by decide +kernel
theorem dX12_undo_2 : decode cX12_undo 2 = .ok (.putfield 94, 3) := by decide +kernel
theorem dX12_undo_5 : decode cX12_undo 5 = .ok (.aload_n 0, 1) := by decide +kernel
theorem dX12_undo_6 : decode cX12_undo 6 = .ok (.getfield 311, 3) := by decide +kernel
theorem dX12_undo_9 : decode cX12_undo 9 = .ok (.ifCond .ne 5, 3) := by decide +kernel
theorem dX12_undo_12 : decode cX12_undo 12 = .ok (.iconst (-1), 1) := by decide +kernel
theorem dX12_undo_13 : decode cX12_undo 13 = .ok (.ireturn, 1) := by decide +kernel
theorem dX12_undo_14 : decode cX12_undo 14 = .ok (.aload_n 0, 1) := by decide +kernel
theorem dX12_undo_15 : decode cX12_undo 15 = .ok (.dup, 1) := by decide +kernel
theorem dX12_undo_16 : decode cX12_undo 16 = .ok (.getfield 311, 3) := by decide +kernel
theorem dX12_undo_19 : decode cX12_undo 19 = .ok (.iconst 1, 1) := by decide +kernel
theorem dX12_undo_20 : decode cX12_undo 20 = .ok (.isub, 1) := by decide +kernel
theorem dX12_undo_21 : decode cX12_undo 21 = .ok (.putfield 311, 3) := by decide +kernel
theorem dX12_undo_24 : decode cX12_undo 24 = .ok (.iconst 0, 1) := by decide +kernel
theorem dX12_undo_25 : decode cX12_undo 25 = .ok (.istore_n 1, 1) := by decide +kernel
theorem dX12_undo_26 : decode cX12_undo 26 = .ok (.iload_n 1, 1) := by decide +kernel
theorem dX12_undo_27 : decode cX12_undo 27 = .ok (.sipush 249, 3) := by decide +kernel
theorem dX12_undo_30 : decode cX12_undo 30 = .ok (.if_icmp .ge 30, 3) := by decide +kernel
theorem dX12_undo_33 : decode cX12_undo 33 = .ok (.aload_n 0, 1) := by decide +kernel
theorem dX12_undo_34 : decode cX12_undo 34 = .ok (.getfield 52, 3) := by decide +kernel
theorem dX12_undo_37 : decode cX12_undo 37 = .ok (.iload_n 1, 1) := by decide +kernel
theorem dX12_undo_38 : decode cX12_undo 38 = .ok (.aload_n 0, 1) := by decide +kernel
theorem dX12_undo_39 : decode cX12_undo 39 = .ok (.getfield 69, 3) := by decide +kernel
theorem dX12_undo_42 : decode cX12_undo 42 = .ok (.sipush 249, 3) := by decide +kernel
theorem dX12_undo_45 : decode cX12_undo 45 = .ok (.aload_n 0, 1) := by decide +kernel
theorem dX12_undo_46 : decode cX12_undo 46 = .ok (.getfield 311, 3) := by decide +kernel
theorem dX12_undo_49 : decode cX12_undo 49 = .ok (.imul, 1) := by decide +kernel
theorem dX12_undo_50 : decode cX12_undo 50 = .ok (.iload_n 1, 1) := by decide +kernel
theorem dX12_undo_51 : decode cX12_undo 51 = .ok (.iadd, 1) := by decide +kernel
theorem dX12_undo_52 : decode cX12_undo 52 = .ok (.iaload, 1) := by decide +kernel
theorem dX12_undo_53 : decode cX12_undo 53 = .ok (.iastore, 1) := by decide +kernel
theorem dX12_undo_54 : decode cX12_undo 54 = .ok (.iinc 1 1, 3) := by decide +kernel
theorem dX12_undo_57 : decode cX12_undo 57 = .ok (.goto (-31), 3) := by decide +kernel
theorem dX12_undo_60 : decode cX12_undo 60 = .ok (.aload_n 0, 1) := by decide +kernel
theorem dX12_undo_61 : decode cX12_undo 61 = .ok (.getfield 311, 3) := by decide +kernel
theorem dX12_undo_64 : decode cX12_undo 64 = .ok (.ireturn, 1) := by decide +kernel
theorem dX12_where_0 : decode cX12_where 0 = .ok (.aload_n 0, 1) := by decide +kernel
theorem dX12_where_1 : decode cX12_where 1 = .ok (.iconst 0, 1) := by decide +kernel
theorem dX12_where_2 : decode cX12_where 2 = .ok (.putfield 94, 3) := by decide +kernel
theorem dX12_where_5 : decode cX12_where 5 = .ok (.aload_n 0, 1) := by decide +kernel
theorem dX12_where_6 : decode cX12_where 6 = .ok (.getfield 302, 3) := by decide +kernel
theorem dX12_where_9 : decode cX12_where 9 = .ok (.ifCond .eq 13, 3) := by decide +kernel
theorem dX12_where_22 : decode cX12_where 22 = .ok (.iconst (-1), 1) := by decide +kernel
theorem dX12_where_23 : decode cX12_where 23 = .ok (.ireturn, 1) := by decide +kernel
theorem wl_6_216 : (.fieldLink RX12 69 "LawnAheadModel" "undoRow" "[I" : Cond) ∈ sg_tbl := tb_6 _ (List.mem_of_getElem? (i := 216) (by decide +kernel)) (by decide +kernel)
theorem wl_9_141 : (.code yX12_where cX12_where 6 (some .int) : Cond) ∈ sg_tbl := tb_9 _ (List.mem_of_getElem? (i := 141) (by decide +kernel)) (by decide +kernel)
theorem wl_9_139 : (.instanceMethod yX12_where : Cond) ∈ sg_tbl := tb_9 _ (List.mem_of_getElem? (i := 139) (by decide +kernel)) (by decide +kernel)
theorem wl_9_140 : (.selects RX12 yX12_where yX12_where : Cond) ∈ sg_tbl := tb_9 _ (List.mem_of_getElem? (i := 140) (by decide +kernel)) (by decide +kernel)
theorem wl_9_54 : (.code yX12_sumOf cX12_sumOf 2 (some .int) : Cond) ∈ sg_tbl := tb_9 _ (List.mem_of_getElem? (i := 54) (by decide +kernel)) (by decide +kernel)
theorem wl_9_52 : (.instanceMethod yX12_sumOf : Cond) ∈ sg_tbl := tb_9 _ (List.mem_of_getElem? (i := 52) (by decide +kernel)) (by decide +kernel)
theorem wl_9_53 : (.selects RX12 yX12_sumOf yX12_sumOf : Cond) ∈ sg_tbl := tb_9 _ (List.mem_of_getElem? (i := 53) (by decide +kernel)) (by decide +kernel)
theorem wl_8_132 : (.code yX12_sit cX12_sit 1 (some .int) : Cond) ∈ sg_tbl := tb_8 _ (List.mem_of_getElem? (i := 132) (by decide +kernel)) (by decide +kernel)
theorem wl_8_130 : (.instanceMethod yX12_sit : Cond) ∈ sg_tbl := tb_8 _ (List.mem_of_getElem? (i := 130) (by decide +kernel)) (by decide +kernel)
theorem wl_8_131 : (.selects RX12 yX12_sit yX12_sit : Cond) ∈ sg_tbl := tb_8 _ (List.mem_of_getElem? (i := 131) (by decide +kernel)) (by decide +kernel)
theorem wl_8_150 : (.code yX12_games cX12_games 5 (some .int) : Cond) ∈ sg_tbl := tb_8 _ (List.mem_of_getElem? (i := 150) (by decide +kernel)) (by decide +kernel)
theorem wl_8_148 : (.instanceMethod yX12_games : Cond) ∈ sg_tbl := tb_8 _ (List.mem_of_getElem? (i := 148) (by decide +kernel)) (by decide +kernel)
theorem wl_8_149 : (.selects RX12 yX12_games yX12_games : Cond) ∈ sg_tbl := tb_8 _ (List.mem_of_getElem? (i := 149) (by decide +kernel)) (by decide +kernel)
theorem wl_8_101 : (.code yX12_remember cX12_remember 2 none : Cond) ∈ sg_tbl := tb_8 _ (List.mem_of_getElem? (i := 101) (by decide +kernel)) (by decide +kernel)
theorem wl_8_100 : (.instanceMethod yX12_remember : Cond) ∈ sg_tbl := tb_8 _ (List.mem_of_getElem? (i := 100) (by decide +kernel)) (by decide +kernel)
theorem wl_0_78 : (.selects RX12 yX12_remember yX12_remember : Cond) ∈ sg_tbl := tb_0 _ (List.mem_of_getElem? (i := 78) (by decide +kernel)) (by decide +kernel)
theorem wl_8_184 : (.code yX12_undo cX12_undo 2 (some .int) : Cond) ∈ sg_tbl := tb_8 _ (List.mem_of_getElem? (i := 184) (by decide +kernel)) (by decide +kernel)
theorem wl_8_182 : (.instanceMethod yX12_undo : Cond) ∈ sg_tbl := tb_8 _ (List.mem_of_getElem? (i := 182) (by decide +kernel)) (by decide +kernel)
theorem wl_8_183 : (.selects RX12 yX12_undo yX12_undo : Cond) ∈ sg_tbl := tb_8 _ (List.mem_of_getElem? (i := 183) (by decide +kernel)) (by decide +kernel)
section
variable {p : Program} {l : Launch} {e : Env} {R : Room} {s : State} {m : MethodId} {args : Array Value} {below : List Frame} {meth : Method} {c : Code} {H : Heap} {locs : List Loc} {cells slots : Nat} {Q : State → Prop} {cc : ByteArray} {nL pc : Nat} {ls : Array Slot} {rest : List Value} {own : String} {D : va_G} {A : Nat → Prop} {tys : List (ClassId × FieldType)} {ad ks : List Nat} {P : sgPm} {H0 : Heap} {index : Nat} {base : Nat} {st0 : List Value} {a : Nat}
theorem gf_X12_38  (X : CallFix p m c cc nL s args sg_tbl own) (hK : va_K D vwCl tys s) (hG : sgG (KT P) D vwCl A tys ad ks H) (ha : isK ad ks 12 a) (hl : Cond.fieldLink own index "LawnAheadModel" "undoRow" "[I" ∈ sg_tbl) (hdg : decode cc pc = .ok (.getfield index, 3)) (kk : ∀ x : Nat, isK ad ks 58 x → fld D H 12 a 38 (.ref x) → W p l e R s m args below meth c H locs cells slots Q (F0 m (pc + 3) ls (.ref x :: rest))) : W p l e R s m args below meth c H locs cells slots Q (F0 m pc ls (.ref a :: rest)) :=
  sg_get X hK hG ha (k := 12) (ci := 12) rfl (C := RX12) (T := TX12) (N := 53) rfl inL_X12 38 (by decide) rfl hl (fun _ h => h) hdg (fun v hv hf => by
    obtain ⟨h1, -⟩ | ⟨x, rfl, hx⟩ := hv
    · cases h1
    · exact kk x hx hf)
theorem gg_X12_38  (X : CallFix p m c cc nL s args sg_tbl own) (hK : va_K D vwCl tys s) (hG : sgG (KT P) D vwCl A tys ad ks H) (ha : isK ad ks 12 a) (hl : Cond.fieldLink own index "LawnAheadModel" "undoRow" "[I" ∈ sg_tbl) {v : Value} (hf : fld D H 12 a 38 v) (hdg : decode cc pc = .ok (.getfield index, 3)) (kk : W p l e R s m args below meth c H locs cells slots Q (F0 m (pc + 3) ls (v :: rest))) : W p l e R s m args below meth c H locs cells slots Q (F0 m pc ls (.ref a :: rest)) :=
  sg_getf X hK hG ha (k := 12) (ci := 12) rfl (C := RX12) (T := TX12) (N := 53) rfl inL_X12 38 (by decide) (show 38 < 53 by decide) hl (fun _ h => h) hf hdg kk
theorem gg_X12_39  (X : CallFix p m c cc nL s args sg_tbl own) (hK : va_K D vwCl tys s) (hG : sgG (KT P) D vwCl A tys ad ks H) (ha : isK ad ks 12 a) (hl : Cond.fieldLink own index "LawnAheadModel" "acts" "I" ∈ sg_tbl) {v : Value} (hf : fld D H 12 a 39 v) (hdg : decode cc pc = .ok (.getfield index, 3)) (kk : W p l e R s m args below meth c H locs cells slots Q (F0 m (pc + 3) ls (v :: rest))) : W p l e R s m args below meth c H locs cells slots Q (F0 m pc ls (.ref a :: rest)) :=
  sg_getf X hK hG ha (k := 12) (ci := 12) rfl (C := RX12) (T := TX12) (N := 53) rfl inL_X12 39 (by decide) (show 39 < 53 by decide) hl (fun _ h => h) hf hdg kk
theorem al_58  {i : Int32} (X : CallFix p m c cc nL s args sg_tbl own) (hK : va_K D vwCl tys s) (hG : sgG (KT P) D vwCl A tys ad ks H) (ha : isK ad ks 58 a) (hin : vp_in i 9960) (hdg : decode cc pc = .ok (.iaload, 1)) (kk : ∀ x : Int32, okV ad ks ((fun i => sg_now (i % 249) : Nat → sgT) i.toNatClampNeg) (.int x) → W p l e R s m args below meth c H locs cells slots Q (F0 m (pc + 1) ls (.int x :: rest))) : W p l e R s m args below meth c H locs cells slots Q (F0 m pc ls (.int i :: .ref a :: rest)) :=
  sg_iald X hK hG ha (k := 58) rfl hin hdg kk
theorem as_58  {i : Int32} {x : Int32} (X : CallFix p m c cc nL s args sg_tbl own) (hK : va_K D vwCl tys s) (hG : sgG (KT P) D vwCl A tys ad ks H) (hS : va_S A H0 H locs) (ha : isK ad ks 58 a) (hin : vp_in i 9960) (hv : okV ad ks ((fun i => sg_now (i % 249) : Nat → sgT) i.toNatClampNeg) (.int x)) (hdg : decode cc pc = .ok (.iastore, 1)) (kk : ∀ (H1 : Heap) (locs1 : List Loc), sgG (KT P) D vwCl A tys ad ks H1 → va_S A H0 H1 locs1 → sgFr (KT P) D vwCl ad ks H H1 (fun _ _ => False) → W p l e R s m args below meth c H1 locs1 cells slots Q (F0 m (pc + 1) ls rest)) : W p l e R s m args below meth c H locs cells slots Q (F0 m pc ls (.int x :: .int i :: .ref a :: rest)) :=
  sg_iast X hK hG hS ha (k := 58) rfl hin hv hdg kk
set_option maxHeartbeats 8000000 in
set_option maxRecDepth 100000 in
theorem m_X12_where_0 (l : Launch) {D : va_G} {base : Nat} {tys : List (ClassId × FieldType)} {ad ks : List Nat} {P : sgPm} (hp4 : P.2.2.2.2.1 = false) (a0 : Nat) (h0 : isK ad ks 12 a0) (x1 : Int32) : sgMi l (KT P) D vwCl base tys ad ks yX12_where cX12_where 6 (some .int) ({ frames := 0, cells := 0, slots := 0, locals := 0 }) [.ref a0, .int x1] (fun r : Int32 => True) := by
  refine sg_ofW (by decide +kernel) (Nat.le_of_ble_eq_true rfl) (fun p e s m below meth c X hr hlk hb hK hC hG ls hl => ?_)
  have hS : va_S (fun q : Nat => base ≤ q) s.heap s.heap [] := va_S.rf
  have hl : lv_has ls 6 [(0, .ref a0), (1, .int x1)] := hl
  refine lv_aload_n X.1 X.2.1 dX12_where_0 rfl (lv_at hl 0 rfl) ?_
  refine lv_iconst (v := 0) X.1 X.2.1 dX12_where_1 (by decide +kernel) ?_
  refine pf_X12_0 X hK hG hS h0 wl_6_178 ⟨_, rfl, (iv_of (iv_c 0 (a := 0) (b := 0) (by decide +kernel)) (a' := (-2147483648)) (b' := 2147483647) (by decide +kernel))⟩ dX12_where_2 (fun H locs hG hS ku1 ru1 => ?_)
  refine lv_aload_n X.1 X.2.1 dX12_where_5 rfl (lv_at hl 0 rfl) ?_
  refine gf_X12_23n X hK hG h0 hp4 wl_6_201 dX12_where_6 (fun f2 hf2 kf2 => ?_)
  refine lv_if_eq (tgt := 22) X.1 X.2.1 dX12_where_9 (by decide) (fun c3 => ?_) (fun c3 => ?_)
  · refine lv_iconst (v := (-1)) X.1 X.2.1 dX12_where_22 (by decide +kernel) ?_
    exact sg_iret X hr hlk hb hK hC hG hS trivial dX12_where_23
  · exact ((c3 (iv_one hf2 (iv_c 0 (a := 0) (b := 0) (by decide +kernel)) (by decide +kernel)))).elim

theorem ca_X12_where_0  (X : CallFix p m c cc nL s args sg_tbl own) (hK : va_K D vwCl tys s) (hG : sgG (KT P) D vwCl (fun q : Nat => base ≤ q) tys ad ks H) (hC : sgC base s) (hS : va_S (fun q : Nat => base ≤ q) s.heap H locs) (hb : base ≤ s.heap.size) (hp4 : P.2.2.2.2.1 = false) (a0 : Nat) (h0 : isK ad ks 12 a0) (x1 : Int32) (hl : Cond.methodLink own index yX12_where ∈ sg_tbl) (hsize : ls.size = nL) (hst : st0 = [.int x1].reverse ++ .ref a0 :: rest) (hW : (rest.map fun v => v.category).sum ≤ 8) (hR : 1 ≤ R.frames ∧ 25 ≤ R.locals) (hf : cells ≤ R.cells ∧ slots ≤ R.slots) (hdg : decode cc pc = .ok (.invokevirtual index, 3)) (kk : ∀ (r : Int32) (H1 : Heap) (locs1 : List Loc), (fun r : Int32 => True) r → sgG (KT P) D vwCl (fun q : Nat => base ≤ q) tys ad ks H1 → va_S (fun q : Nat => base ≤ q) s.heap H1 locs1 → W p l e R s m args below meth c H1 locs1 cells slots Q (F0 m (pc + 3) ls (.int r :: rest))) : W p l e R s m args below meth c H locs cells slots Q (F0 m pc ls st0) :=
  sg_callVi X hK hG hC hS hb (m_X12_where_0 l hp4 a0 h0 x1) h0 (k := 12) (ci := 12) rfl (C := RX12) (T := TX12) (N := 53) rfl wl_9_141 wl_1_13 wl_9_139 wl_9_140 (n := 1) (by decide +kernel) rfl rfl rfl hl hsize hst hW hR hf hdg kk

set_option maxHeartbeats 8000000 in
set_option maxRecDepth 100000 in
theorem m_X12_sumOf_0 (l : Launch) {D : va_G} {base : Nat} {tys : List (ClassId × FieldType)} {ad ks : List Nat} {P : sgPm} (hp4 : P.2.2.2.2.1 = false) (a0 : Nat) (h0 : isK ad ks 12 a0) (x1 : Int32) : sgMi l (KT P) D vwCl base tys ad ks yX12_sumOf cX12_sumOf 2 (some .int) ({ frames := 0, cells := 0, slots := 0, locals := 0 }) [.ref a0, .int x1] (fun r : Int32 => True) := by
  refine sg_ofW (by decide +kernel) (Nat.le_of_ble_eq_true rfl) (fun p e s m below meth c X hr hlk hb hK hC hG ls hl => ?_)
  have hS : va_S (fun q : Nat => base ≤ q) s.heap s.heap [] := va_S.rf
  have hl : lv_has ls 2 [(0, .ref a0), (1, .int x1)] := hl
  refine lv_aload_n X.1 X.2.1 dX12_sumOf_0 rfl (lv_at hl 0 rfl) ?_
  refine lv_iconst (v := 0) X.1 X.2.1 dX12_sumOf_1 (by decide +kernel) ?_
  refine pf_X12_0 X hK hG hS h0 wl_6_178 ⟨_, rfl, (iv_of (iv_c 0 (a := 0) (b := 0) (by decide +kernel)) (a' := (-2147483648)) (b' := 2147483647) (by decide +kernel))⟩ dX12_sumOf_2 (fun H locs hG hS ku1 ru1 => ?_)
  refine lv_aload_n X.1 X.2.1 dX12_sumOf_5 rfl (lv_at hl 0 rfl) ?_
  refine gf_X12_23n X hK hG h0 hp4 wl_6_201 dX12_sumOf_6 (fun f2 hf2 kf2 => ?_)
  refine lv_if_eq (tgt := 38) X.1 X.2.1 dX12_sumOf_9 (by decide) (fun c3 => ?_) (fun c3 => ?_)
  · refine lv_ldcw X.1 X.2.1 X.2.2.2.1 (X.2.2.2.2 _ wl_8_190) dX12_sumOf_38 ?_
    exact sg_iret X hr hlk hb hK hC hG hS trivial dX12_sumOf_41
  · exact ((c3 (iv_one hf2 (iv_c 0 (a := 0) (b := 0) (by decide +kernel)) (by decide +kernel)))).elim

theorem ca_X12_sumOf_0  (X : CallFix p m c cc nL s args sg_tbl own) (hK : va_K D vwCl tys s) (hG : sgG (KT P) D vwCl (fun q : Nat => base ≤ q) tys ad ks H) (hC : sgC base s) (hS : va_S (fun q : Nat => base ≤ q) s.heap H locs) (hb : base ≤ s.heap.size) (hp4 : P.2.2.2.2.1 = false) (a0 : Nat) (h0 : isK ad ks 12 a0) (x1 : Int32) (hl : Cond.methodLink own index yX12_sumOf ∈ sg_tbl) (hsize : ls.size = nL) (hst : st0 = [.int x1].reverse ++ .ref a0 :: rest) (hW : (rest.map fun v => v.category).sum ≤ 8) (hR : 1 ≤ R.frames ∧ 21 ≤ R.locals) (hf : cells ≤ R.cells ∧ slots ≤ R.slots) (hdg : decode cc pc = .ok (.invokevirtual index, 3)) (kk : ∀ (r : Int32) (H1 : Heap) (locs1 : List Loc), (fun r : Int32 => True) r → sgG (KT P) D vwCl (fun q : Nat => base ≤ q) tys ad ks H1 → va_S (fun q : Nat => base ≤ q) s.heap H1 locs1 → W p l e R s m args below meth c H1 locs1 cells slots Q (F0 m (pc + 3) ls (.int r :: rest))) : W p l e R s m args below meth c H locs cells slots Q (F0 m pc ls st0) :=
  sg_callVi X hK hG hC hS hb (m_X12_sumOf_0 l hp4 a0 h0 x1) h0 (k := 12) (ci := 12) rfl (C := RX12) (T := TX12) (N := 53) rfl wl_9_54 wl_1_13 wl_9_52 wl_9_53 (n := 1) (by decide +kernel) rfl rfl rfl hl hsize hst hW hR hf hdg kk

set_option maxHeartbeats 8000000 in
set_option maxRecDepth 100000 in
theorem m_X12_sit_0 (l : Launch) {D : va_G} {base : Nat} {tys : List (ClassId × FieldType)} {ad ks : List Nat} {P : sgPm} (hp4 : P.2.2.2.2.1 = false) (a0 : Nat) (h0 : isK ad ks 12 a0) : sgMi l (KT P) D vwCl base tys ad ks yX12_sit cX12_sit 1 (some .int) ({ frames := 1, cells := 0, slots := 0, locals := 21 }) [.ref a0] (fun r : Int32 => True) := by
  refine sg_ofW (by decide +kernel) (Nat.le_of_ble_eq_true rfl) (fun p e s m below meth c X hr hlk hb hK hC hG ls hl => ?_)
  have hS : va_S (fun q : Nat => base ≤ q) s.heap s.heap [] := va_S.rf
  have hl : lv_has ls 1 [(0, .ref a0)] := hl
  refine lv_aload_n X.1 X.2.1 dX12_sit_0 rfl (lv_at hl 0 rfl) ?_
  refine lv_iconst (v := 0) X.1 X.2.1 dX12_sit_1 (by decide +kernel) ?_
  refine pf_X12_0 X hK hG hS h0 wl_6_178 ⟨_, rfl, (iv_of (iv_c 0 (a := 0) (b := 0) (by decide +kernel)) (a' := (-2147483648)) (b' := 2147483647) (by decide +kernel))⟩ dX12_sit_2 (fun H locs hG hS ku1 ru1 => ?_)
  refine lv_aload_n X.1 X.2.1 dX12_sit_5 rfl (lv_at hl 0 rfl) ?_
  refine lv_aload_n X.1 X.2.1 dX12_sit_6 rfl (lv_at hl 0 rfl) ?_
  refine gf_X12_32 X hK hG h0 wl_6_210 dX12_sit_7 (fun q2 hq2 kq2 => ?_)
  refine ca_X12_isOpen_0 X hK hG hC (fun _ h => h) hS hb hp4 a0 h0 q2 hq2 wl_8_94 hl.1 (rest := []) rfl (Nat.le_of_ble_eq_true rfl) ⟨Nat.le_of_ble_eq_true rfl, Nat.le_of_ble_eq_true rfl⟩ ⟨Nat.le_of_ble_eq_true rfl, Nat.le_of_ble_eq_true rfl⟩ dX12_sit_10 (fun f3 locs hf3 hS => ?_)
  refine lv_if_ne (tgt := 18) X.1 X.2.1 dX12_sit_13 (by decide) (fun c4 => ?_) (fun c4 => ?_)
  · exact ((c4 (iv_one hf3 (iv_c 0 (a := 0) (b := 0) (by decide +kernel)) (by decide +kernel)))).elim
  · refine lv_iconst (v := (-1)) X.1 X.2.1 dX12_sit_16 (by decide +kernel) ?_
    exact sg_iret X hr hlk hb hK hC hG hS trivial dX12_sit_17

theorem ca_X12_sit_0  (X : CallFix p m c cc nL s args sg_tbl own) (hK : va_K D vwCl tys s) (hG : sgG (KT P) D vwCl (fun q : Nat => base ≤ q) tys ad ks H) (hC : sgC base s) (hS : va_S (fun q : Nat => base ≤ q) s.heap H locs) (hb : base ≤ s.heap.size) (hp4 : P.2.2.2.2.1 = false) (a0 : Nat) (h0 : isK ad ks 12 a0) (hl : Cond.methodLink own index yX12_sit ∈ sg_tbl) (hsize : ls.size = nL) (hst : st0 = [].reverse ++ .ref a0 :: rest) (hW : (rest.map fun v => v.category).sum ≤ 8) (hR : 2 ≤ R.frames ∧ 41 ≤ R.locals) (hf : cells ≤ R.cells ∧ slots ≤ R.slots) (hdg : decode cc pc = .ok (.invokevirtual index, 3)) (kk : ∀ (r : Int32) (H1 : Heap) (locs1 : List Loc), (fun r : Int32 => True) r → sgG (KT P) D vwCl (fun q : Nat => base ≤ q) tys ad ks H1 → va_S (fun q : Nat => base ≤ q) s.heap H1 locs1 → W p l e R s m args below meth c H1 locs1 cells slots Q (F0 m (pc + 3) ls (.int r :: rest))) : W p l e R s m args below meth c H locs cells slots Q (F0 m pc ls st0) :=
  sg_callVi X hK hG hC hS hb (m_X12_sit_0 l hp4 a0 h0) h0 (k := 12) (ci := 12) rfl (C := RX12) (T := TX12) (N := 53) rfl wl_8_132 wl_1_13 wl_8_130 wl_8_131 (n := 0) (by decide +kernel) rfl rfl rfl hl hsize hst hW hR hf hdg kk

set_option maxHeartbeats 8000000 in
set_option maxRecDepth 100000 in
theorem m_X12_games_0 (l : Launch) {D : va_G} {base : Nat} {tys : List (ClassId × FieldType)} {ad ks : List Nat} {P : sgPm} (hp4 : P.2.2.2.2.1 = false) (a0 : Nat) (h0 : isK ad ks 12 a0) (x1 : Int32) (x2 : Int64) : sgMi l (KT P) D vwCl base tys ad ks yX12_games cX12_games 5 (some .int) ({ frames := 1, cells := 0, slots := 0, locals := 21 }) [.ref a0, .int x1, .long x2] (fun r : Int32 => True) := by
  refine sg_ofW (by decide +kernel) (Nat.le_of_ble_eq_true rfl) (fun p e s m below meth c X hr hlk hb hK hC hG ls hl => ?_)
  have hS : va_S (fun q : Nat => base ≤ q) s.heap s.heap [] := va_S.rf
  have hl : lv_has ls 5 [(0, .ref a0), (1, .int x1), (2, .long x2)] := hl
  refine lv_aload_n X.1 X.2.1 dX12_games_0 rfl (lv_at hl 0 rfl) ?_
  refine lv_iconst (v := 0) X.1 X.2.1 dX12_games_1 (by decide +kernel) ?_
  refine pf_X12_0 X hK hG hS h0 wl_6_178 ⟨_, rfl, (iv_of (iv_c 0 (a := 0) (b := 0) (by decide +kernel)) (a' := (-2147483648)) (b' := 2147483647) (by decide +kernel))⟩ dX12_games_2 (fun H locs hG hS ku1 ru1 => ?_)
  refine lv_aload_n X.1 X.2.1 dX12_games_5 rfl (lv_at hl 0 rfl) ?_
  refine lv_aload_n X.1 X.2.1 dX12_games_6 rfl (lv_at hl 0 rfl) ?_
  refine gf_X12_32 X hK hG h0 wl_6_210 dX12_games_7 (fun q2 hq2 kq2 => ?_)
  refine ca_X12_isOpen_0 X hK hG hC (fun _ h => h) hS hb hp4 a0 h0 q2 hq2 wl_8_94 hl.1 (rest := []) rfl (Nat.le_of_ble_eq_true rfl) ⟨Nat.le_of_ble_eq_true rfl, Nat.le_of_ble_eq_true rfl⟩ ⟨Nat.le_of_ble_eq_true rfl, Nat.le_of_ble_eq_true rfl⟩ dX12_games_10 (fun f3 locs hf3 hS => ?_)
  refine lv_if_eq (tgt := 28) X.1 X.2.1 dX12_games_13 (by decide) (fun c4 => ?_) (fun c4 => ?_)
  · refine lv_iconst (v := (-1)) X.1 X.2.1 dX12_games_28 (by decide +kernel) ?_
    exact sg_iret X hr hlk hb hK hC hG hS trivial dX12_games_29
  · exact ((c4 (iv_one hf3 (iv_c 0 (a := 0) (b := 0) (by decide +kernel)) (by decide +kernel)))).elim

theorem ca_X12_games_0  (X : CallFix p m c cc nL s args sg_tbl own) (hK : va_K D vwCl tys s) (hG : sgG (KT P) D vwCl (fun q : Nat => base ≤ q) tys ad ks H) (hC : sgC base s) (hS : va_S (fun q : Nat => base ≤ q) s.heap H locs) (hb : base ≤ s.heap.size) (hp4 : P.2.2.2.2.1 = false) (a0 : Nat) (h0 : isK ad ks 12 a0) (x1 : Int32) (x2 : Int64) (hl : Cond.methodLink own index yX12_games ∈ sg_tbl) (hsize : ls.size = nL) (hst : st0 = [.int x1, .long x2].reverse ++ .ref a0 :: rest) (hW : (rest.map fun v => v.category).sum ≤ 8) (hR : 2 ≤ R.frames ∧ 45 ≤ R.locals) (hf : cells ≤ R.cells ∧ slots ≤ R.slots) (hdg : decode cc pc = .ok (.invokevirtual index, 3)) (kk : ∀ (r : Int32) (H1 : Heap) (locs1 : List Loc), (fun r : Int32 => True) r → sgG (KT P) D vwCl (fun q : Nat => base ≤ q) tys ad ks H1 → va_S (fun q : Nat => base ≤ q) s.heap H1 locs1 → W p l e R s m args below meth c H1 locs1 cells slots Q (F0 m (pc + 3) ls (.int r :: rest))) : W p l e R s m args below meth c H locs cells slots Q (F0 m pc ls st0) :=
  sg_callVi X hK hG hC hS hb (m_X12_games_0 l hp4 a0 h0 x1 x2) h0 (k := 12) (ci := 12) rfl (C := RX12) (T := TX12) (N := 53) rfl wl_8_150 wl_1_13 wl_8_148 wl_8_149 (n := 2) (by decide +kernel) rfl rfl rfl hl hsize hst hW hR hf hdg kk

set_option maxHeartbeats 8000000 in
set_option maxRecDepth 100000 in
theorem m_X12_remember (l : Launch) {D : va_G} {base : Nat} {tys : List (ClassId × FieldType)} {ad ks : List Nat} {P : sgPm} (a0 : Nat) (h0 : isK ad ks 12 a0) : sgMv l (KT P) D vwCl base tys ad ks yX12_remember cX12_remember 2 none ({ frames := 0, cells := 0, slots := 0, locals := 0 }) [.ref a0] := by
  refine sg_ofW (by decide +kernel) (Nat.le_of_ble_eq_true rfl) (fun p e s m below meth c X hr hlk hb hK hC hG ls hl => ?_)
  have hS : va_S (fun q : Nat => base ≤ q) s.heap s.heap [] := va_S.rf
  have hl : lv_has ls 2 [(0, .ref a0)] := hl
  refine lv_aload_n X.1 X.2.1 dX12_remember_0 rfl (lv_at hl 0 rfl) ?_
  refine gf_X12_39 X hK hG h0 wl_6_217 dX12_remember_1 (fun f1 hf1 kf1 => ?_)
  refine lv_bipush (v := 40) X.1 X.2.1 dX12_remember_4 (by decide +kernel) ?_
  have B3_50 : ∀ (H : Heap) (locs : List Loc) (ls : Array Slot) (v3_0_39 : Int32), sgG (KT P) D vwCl (fun q : Nat => base ≤ q) tys ad ks H → va_S (fun q : Nat => base ≤ q) s.heap H locs → lv_has ls 2 [(0, .ref a0)] → iv 0 39 v3_0_39 → fld D H 12 a0 39 (.int v3_0_39) → W p l e (headSpec (Cond.code yX12_remember cX12_remember 2 none :: sg_tbl) ({ frames := 0, cells := 0, slots := 0, locals := 0 })).room s m #[.ref a0] below meth c H locs 0 0 (MQ below (va_Qv (fun (_ : Unit) => True) (fun _ => sgB (KT P) D vwCl base tys ad ks) (fun q : Nat => base ≤ q)) #[.ref a0] s 0 0 (fun q : Nat => base ≤ q)) (F0 m 50 ls []) := by
    intro H locs ls v3_0_39 hG hS hl hv3_0_39 hkv3_0_39
    refine lv_iconst (v := 0) X.1 X.2.1 dX12_remember_50 (by decide +kernel) ?_
    refine lv_istore_n (lv' := [(1, .int 0), (0, .ref a0)]) X.1 X.2.1 dX12_remember_51 rfl hl (by decide) rfl (fun ls hl => ?_)
    have B4_52 : ∀ (N : Nat) (H : Heap) (locs : List Loc) (ls : Array Slot) (z4_1 : Int32) (v4_0_39 : Int32), sgG (KT P) D vwCl (fun q : Nat => base ≤ q) tys ad ks H → va_S (fun q : Nat => base ≤ q) s.heap H locs → lv_has ls 2 [(0, .ref a0), (1, .int z4_1)] → iv 0 249 z4_1 → iv 0 39 v4_0_39 → fld D H 12 a0 39 (.int v4_0_39) → (250 - z4_1.toInt).toNat ≤ N → W p l e (headSpec (Cond.code yX12_remember cX12_remember 2 none :: sg_tbl) ({ frames := 0, cells := 0, slots := 0, locals := 0 })).room s m #[.ref a0] below meth c H locs 0 0 (MQ below (va_Qv (fun (_ : Unit) => True) (fun _ => sgB (KT P) D vwCl base tys ad ks) (fun q : Nat => base ≤ q)) #[.ref a0] s 0 0 (fun q : Nat => base ≤ q)) (F0 m 52 ls []) := by
      intro N; induction N with
      | zero =>
        intro H locs ls z4_1 v4_0_39 hG hS hl hz4_1 hv4_0_39 hkv4_0_39 hN
        exact absurd hN (by have := iv_up hz4_1; omega)
      | succ N ih4 =>
        intro H locs ls z4_1 v4_0_39 hG hS hl hz4_1 hv4_0_39 hkv4_0_39 hN4
        refine lv_iload_n X.1 X.2.1 dX12_remember_52 rfl (lv_at hl 1 rfl) ?_
        refine lv_sipush (v := 249) X.1 X.2.1 dX12_remember_53 (by decide +kernel) ?_
        refine lv_icmp_ge (tgt := 86) X.1 X.2.1 dX12_remember_56 (by decide) (fun c5 => ?_) (fun c5 => ?_)
        · refine lv_aload_n X.1 X.2.1 dX12_remember_86 rfl (lv_at hl 0 rfl) ?_
          refine lv_dup X.1 X.2.1 dX12_remember_87 rfl ?_
          refine gg_X12_39 X hK hG h0 wl_6_217 hkv4_0_39 dX12_remember_88 ?_
          refine lv_iconst (v := 1) X.1 X.2.1 dX12_remember_91 (by decide +kernel) ?_
          refine lv_iadd X.1 X.2.1 dX12_remember_92 ?_
          refine lv_topi (fun f6 ef6 => ?_)
          refine pf_X12_39 X hK hG hS h0 wl_6_217 ⟨_, rfl, (iv_of (iv_add (a' := 1) (b' := 40) ef6 hv4_0_39 (iv_c 1 (a := 1) (b := 1) (by decide +kernel)) (by decide +kernel)) (a' := 0) (b' := 40) (by decide +kernel))⟩ dX12_remember_93 (fun H locs hG hS ku7 ru7 => ?_)
          exact sg_vret X hr hlk hb hK hC hG hS dX12_remember_96
        · refine lv_aload_n X.1 X.2.1 dX12_remember_59 rfl (lv_at hl 0 rfl) ?_
          refine gf_X12_38 X hK hG h0 wl_6_216 dX12_remember_60 (fun q8 hq8 kq8 => ?_)
          refine lv_sipush (v := 249) X.1 X.2.1 dX12_remember_63 (by decide +kernel) ?_
          refine lv_aload_n X.1 X.2.1 dX12_remember_66 rfl (lv_at hl 0 rfl) ?_
          refine gg_X12_39 X hK hG h0 wl_6_217 hkv4_0_39 dX12_remember_67 ?_
          refine lv_imul X.1 X.2.1 dX12_remember_70 ?_
          refine lv_topi (fun f9 ef9 => ?_)
          refine lv_iload_n X.1 X.2.1 dX12_remember_71 rfl (lv_at hl 1 rfl) ?_
          refine lv_iadd X.1 X.2.1 dX12_remember_72 ?_
          refine lv_topi (fun f10 ef10 => ?_)
          refine lv_aload_n X.1 X.2.1 dX12_remember_73 rfl (lv_at hl 0 rfl) ?_
          refine gf_X12_32 X hK hG h0 wl_6_210 dX12_remember_74 (fun q11 hq11 kq11 => ?_)
          refine lv_iload_n X.1 X.2.1 dX12_remember_77 rfl (lv_at hl 1 rfl) ?_
          refine al_54 X hK hG hq11 (iv_vpin (iv_lt (b' := 248) (iv_gt_of c5) hz4_1 (iv_c 249 (a := 249) (b := 249) (by decide +kernel)) (by decide +kernel)) (by decide +kernel)) dX12_remember_78 (fun f12 hf12 => ?_)
          have of12 := hf12
          have hf12 : iv (-2147483648) 2147483647 f12 := sg_spa_now hf12
          refine as_58 X hK hG hS hq8 (iv_vpin (iv_add (a' := 0) (b' := 9959) ef10 (iv_mul (a' := 0) (b' := 9711) ef9 (iv_c 249 (a := 249) (b := 249) (by decide +kernel)) hv4_0_39 (by decide +kernel)) (iv_lt (b' := 248) (iv_gt_of c5) hz4_1 (iv_c 249 (a := 249) (b := 249) (by decide +kernel)) (by decide +kernel)) (by decide +kernel)) (by decide +kernel)) (sg_und2 hv4_0_39 ef9 (iv_lt (b' := 248) (iv_gt_of c5) hz4_1 (iv_c 249 (a := 249) (b := 249) (by decide +kernel)) (by decide +kernel)) ef10 of12) dX12_remember_79 (fun H locs hG hS ru13 => ?_)
          obtain ⟨y14, ey14⟩ : ∃ y : Int32, y = z4_1 + Int32.ofInt 1 := ⟨_, rfl⟩
          refine lv_iinc (v := y14) (lv' := [(1, .int y14), (0, .ref a0)]) X.1 X.2.1 dX12_remember_80 hl (k := 1) rfl ey14.symm (by decide) rfl (fun ls hl => ?_)
          refine lv_goto (tgt := 52) X.1 X.2.1 dX12_remember_83 (by decide) ?_
          exact ih4 H _ _ y14 v4_0_39 hG hS (lv_sub hl [1, 0] rfl) (iv_of (iv_add (a' := 1) (b' := 249) ey14 (iv_lt (b' := 248) (iv_gt_of c5) hz4_1 (iv_c 249 (a := 249) (b := 249) (by decide +kernel)) (by decide +kernel)) (iv_c _ (a := 1) (b := 1) (by decide +kernel)) (by decide +kernel)) (a' := 0) (b' := 249) (by decide +kernel)) hv4_0_39 (ru13 _ _ _ _ _ _ _ h0 rfl rfl (by decide) (fun z => z.elim) hkv4_0_39) (iv_stepU ey14 (iv_lt (b' := 248) (iv_gt_of c5) hz4_1 (iv_c 249 (a := 249) (b := 249) (by decide +kernel)) (by decide +kernel)) (by decide +kernel) hN4)
    exact B4_52 _ H _ _ 0 v3_0_39 hG hS (lv_sub hl [1, 0] rfl) (iv_of (iv_c 0 (a := 0) (b := 0) (by decide +kernel)) (a' := 0) (b' := 249) (by decide +kernel)) hv3_0_39 hkv3_0_39 (Nat.le_refl _)
  refine lv_icmp_ne (tgt := 50) X.1 X.2.1 dX12_remember_6 (by decide) (fun c2 => ?_) (fun c2 => ?_)
  · exact B3_50 s.heap _ _ f1 hG hS (lv_sub hl [0] rfl) (iv_ne_hi (b' := 39) c2 hf1 (by decide +kernel)) kf1
  · refine lv_iconst (v := 0) X.1 X.2.1 dX12_remember_9 (by decide +kernel) ?_
    refine lv_istore_n (lv' := [(1, .int 0), (0, .ref a0)]) X.1 X.2.1 dX12_remember_10 rfl hl (by decide) rfl (fun ls hl => ?_)
    have B15_11 : ∀ (N : Nat) (H : Heap) (locs : List Loc) (ls : Array Slot) (z15_1 : Int32) (v15_0_39 : Int32), sgG (KT P) D vwCl (fun q : Nat => base ≤ q) tys ad ks H → va_S (fun q : Nat => base ≤ q) s.heap H locs → lv_has ls 2 [(0, .ref a0), (1, .int z15_1)] → iv 0 9711 z15_1 → iv 40 40 v15_0_39 → fld D H 12 a0 39 (.int v15_0_39) → (9712 - z15_1.toInt).toNat ≤ N → W p l e (headSpec (Cond.code yX12_remember cX12_remember 2 none :: sg_tbl) ({ frames := 0, cells := 0, slots := 0, locals := 0 })).room s m #[.ref a0] below meth c H locs 0 0 (MQ below (va_Qv (fun (_ : Unit) => True) (fun _ => sgB (KT P) D vwCl base tys ad ks) (fun q : Nat => base ≤ q)) #[.ref a0] s 0 0 (fun q : Nat => base ≤ q)) (F0 m 11 ls []) := by
      intro N; induction N with
      | zero =>
        intro H locs ls z15_1 v15_0_39 hG hS hl hz15_1 hv15_0_39 hkv15_0_39 hN
        exact absurd hN (by have := iv_up hz15_1; omega)
      | succ N ih15 =>
        intro H locs ls z15_1 v15_0_39 hG hS hl hz15_1 hv15_0_39 hkv15_0_39 hN15
        refine lv_iload_n X.1 X.2.1 dX12_remember_11 rfl (lv_at hl 1 rfl) ?_
        refine lv_sipush (v := 9711) X.1 X.2.1 dX12_remember_12 (by decide +kernel) ?_
        refine lv_icmp_ge (tgt := 40) X.1 X.2.1 dX12_remember_15 (by decide) (fun c16 => ?_) (fun c16 => ?_)
        · refine lv_aload_n X.1 X.2.1 dX12_remember_40 rfl (lv_at hl 0 rfl) ?_
          refine lv_dup X.1 X.2.1 dX12_remember_41 rfl ?_
          refine gg_X12_39 X hK hG h0 wl_6_217 hkv15_0_39 dX12_remember_42 ?_
          refine lv_iconst (v := 1) X.1 X.2.1 dX12_remember_45 (by decide +kernel) ?_
          refine lv_isub X.1 X.2.1 dX12_remember_46 ?_
          refine lv_topi (fun f17 ef17 => ?_)
          refine pf_X12_39 X hK hG hS h0 wl_6_217 ⟨_, rfl, (iv_of (iv_sub (a' := 39) (b' := 39) ef17 hv15_0_39 (iv_c 1 (a := 1) (b := 1) (by decide +kernel)) (by decide +kernel)) (a' := 0) (b' := 40) (by decide +kernel))⟩ dX12_remember_47 (fun H locs hG hS ku18 ru18 => ?_)
          exact B3_50 H _ _ f17 hG hS (lv_sub hl [0] rfl) (iv_of (iv_sub (a' := 39) (b' := 39) ef17 hv15_0_39 (iv_c 1 (a := 1) (b := 1) (by decide +kernel)) (by decide +kernel)) (a' := 0) (b' := 39) (by decide +kernel)) ku18
        · refine lv_aload_n X.1 X.2.1 dX12_remember_18 rfl (lv_at hl 0 rfl) ?_
          refine gf_X12_38 X hK hG h0 wl_6_216 dX12_remember_19 (fun q19 hq19 kq19 => ?_)
          refine lv_iload_n X.1 X.2.1 dX12_remember_22 rfl (lv_at hl 1 rfl) ?_
          refine lv_aload_n X.1 X.2.1 dX12_remember_23 rfl (lv_at hl 0 rfl) ?_
          refine gg_X12_38 X hK hG h0 wl_6_216 kq19 dX12_remember_24 ?_
          refine lv_iload_n X.1 X.2.1 dX12_remember_27 rfl (lv_at hl 1 rfl) ?_
          refine lv_sipush (v := 249) X.1 X.2.1 dX12_remember_28 (by decide +kernel) ?_
          refine lv_iadd X.1 X.2.1 dX12_remember_31 ?_
          refine lv_topi (fun f20 ef20 => ?_)
          refine al_58 X hK hG hq19 (iv_vpin (iv_add (a' := 249) (b' := 9959) ef20 (iv_lt (b' := 9710) (iv_gt_of c16) hz15_1 (iv_c 9711 (a := 9711) (b := 9711) (by decide +kernel)) (by decide +kernel)) (iv_c 249 (a := 249) (b := 249) (by decide +kernel)) (by decide +kernel)) (by decide +kernel)) dX12_remember_32 (fun f21 hf21 => ?_)
          have of21 := hf21
          have hf21 : iv (-2147483648) 2147483647 f21 := sg_spa_now hf21
          refine as_58 X hK hG hS hq19 (iv_vpin (iv_lt (b' := 9710) (iv_gt_of c16) hz15_1 (iv_c 9711 (a := 9711) (b := 9711) (by decide +kernel)) (by decide +kernel)) (by decide +kernel)) (sg_und1 (iv_lt (b' := 9710) (iv_gt_of c16) hz15_1 (iv_c 9711 (a := 9711) (b := 9711) (by decide +kernel)) (by decide +kernel)) ef20 of21) dX12_remember_33 (fun H locs hG hS ru22 => ?_)
          obtain ⟨y23, ey23⟩ : ∃ y : Int32, y = z15_1 + Int32.ofInt 1 := ⟨_, rfl⟩
          refine lv_iinc (v := y23) (lv' := [(1, .int y23), (0, .ref a0)]) X.1 X.2.1 dX12_remember_34 hl (k := 1) rfl ey23.symm (by decide) rfl (fun ls hl => ?_)
          refine lv_goto (tgt := 11) X.1 X.2.1 dX12_remember_37 (by decide) ?_
          exact ih15 H _ _ y23 v15_0_39 hG hS (lv_sub hl [1, 0] rfl) (iv_of (iv_add (a' := 1) (b' := 9711) ey23 (iv_lt (b' := 9710) (iv_gt_of c16) hz15_1 (iv_c 9711 (a := 9711) (b := 9711) (by decide +kernel)) (by decide +kernel)) (iv_c _ (a := 1) (b := 1) (by decide +kernel)) (by decide +kernel)) (a' := 0) (b' := 9711) (by decide +kernel)) hv15_0_39 (ru22 _ _ _ _ _ _ _ h0 rfl rfl (by decide) (fun z => z.elim) hkv15_0_39) (iv_stepU ey23 (iv_lt (b' := 9710) (iv_gt_of c16) hz15_1 (iv_c 9711 (a := 9711) (b := 9711) (by decide +kernel)) (by decide +kernel)) (by decide +kernel) hN15)
    exact B15_11 _ s.heap _ _ 0 f1 hG hS (lv_sub hl [1, 0] rfl) (iv_of (iv_c 0 (a := 0) (b := 0) (by decide +kernel)) (a' := 0) (b' := 9711) (by decide +kernel)) (iv_eqm (a' := 40) (b' := 40) c2 hf1 (iv_c 40 (a := 40) (b := 40) (by decide +kernel)) (by decide +kernel)) kf1 (Nat.le_refl _)

theorem ca_X12_remember  (X : CallFix p m c cc nL s args sg_tbl own) (hK : va_K D vwCl tys s) (hG : sgG (KT P) D vwCl (fun q : Nat => base ≤ q) tys ad ks H) (hC : sgC base s) (hS : va_S (fun q : Nat => base ≤ q) s.heap H locs) (hb : base ≤ s.heap.size) (a0 : Nat) (h0 : isK ad ks 12 a0) (hl : Cond.methodLink own index yX12_remember ∈ sg_tbl) (hsize : ls.size = nL) (hst : st0 = [].reverse ++ .ref a0 :: rest) (hW : (rest.map fun v => v.category).sum ≤ 8) (hR : 1 ≤ R.frames ∧ 21 ≤ R.locals) (hf : cells ≤ R.cells ∧ slots ≤ R.slots) (hdg : decode cc pc = .ok (.invokevirtual index, 3)) (kk : ∀ (H1 : Heap) (locs1 : List Loc), sgG (KT P) D vwCl (fun q : Nat => base ≤ q) tys ad ks H1 → va_S (fun q : Nat => base ≤ q) s.heap H1 locs1 → W p l e R s m args below meth c H1 locs1 cells slots Q (F0 m (pc + 3) ls rest)) : W p l e R s m args below meth c H locs cells slots Q (F0 m pc ls st0) :=
  sg_callVv X hK hG hC hS hb (m_X12_remember l a0 h0) h0 (k := 12) (ci := 12) rfl (C := RX12) (T := TX12) (N := 53) rfl wl_8_101 wl_1_13 wl_8_100 wl_0_78 (n := 0) (by decide +kernel) rfl rfl rfl hl hsize hst hW hR hf hdg kk

set_option maxHeartbeats 8000000 in
set_option maxRecDepth 100000 in
theorem m_X12_undo (l : Launch) {D : va_G} {base : Nat} {tys : List (ClassId × FieldType)} {ad ks : List Nat} {P : sgPm} (a0 : Nat) (h0 : isK ad ks 12 a0) : sgMi l (KT P) D vwCl base tys ad ks yX12_undo cX12_undo 2 (some .int) ({ frames := 0, cells := 0, slots := 0, locals := 0 }) [.ref a0] (fun r : Int32 => True) := by
  refine sg_ofW (by decide +kernel) (Nat.le_of_ble_eq_true rfl) (fun p e s m below meth c X hr hlk hb hK hC hG ls hl => ?_)
  have hS : va_S (fun q : Nat => base ≤ q) s.heap s.heap [] := va_S.rf
  have hl : lv_has ls 2 [(0, .ref a0)] := hl
  refine lv_aload_n X.1 X.2.1 dX12_undo_0 rfl (lv_at hl 0 rfl) ?_
  refine lv_iconst (v := 0) X.1 X.2.1 dX12_undo_1 (by decide +kernel) ?_
  refine pf_X12_0 X hK hG hS h0 wl_6_178 ⟨_, rfl, (iv_of (iv_c 0 (a := 0) (b := 0) (by decide +kernel)) (a' := (-2147483648)) (b' := 2147483647) (by decide +kernel))⟩ dX12_undo_2 (fun H locs hG hS ku1 ru1 => ?_)
  refine lv_aload_n X.1 X.2.1 dX12_undo_5 rfl (lv_at hl 0 rfl) ?_
  refine gf_X12_39 X hK hG h0 wl_6_217 dX12_undo_6 (fun f2 hf2 kf2 => ?_)
  refine lv_if_ne (tgt := 14) X.1 X.2.1 dX12_undo_9 (by decide) (fun c3 => ?_) (fun c3 => ?_)
  · refine lv_aload_n X.1 X.2.1 dX12_undo_14 rfl (lv_at hl 0 rfl) ?_
    refine lv_dup X.1 X.2.1 dX12_undo_15 rfl ?_
    refine gg_X12_39 X hK hG h0 wl_6_217 kf2 dX12_undo_16 ?_
    refine lv_iconst (v := 1) X.1 X.2.1 dX12_undo_19 (by decide +kernel) ?_
    refine lv_isub X.1 X.2.1 dX12_undo_20 ?_
    refine lv_topi (fun f4 ef4 => ?_)
    refine pf_X12_39 X hK hG hS h0 wl_6_217 ⟨_, rfl, (iv_of (iv_sub (a' := 0) (b' := 39) ef4 (iv_ne_lo (a' := 1) c3 hf2 (by decide +kernel)) (iv_c 1 (a := 1) (b := 1) (by decide +kernel)) (by decide +kernel)) (a' := 0) (b' := 40) (by decide +kernel))⟩ dX12_undo_21 (fun H locs hG hS ku5 ru5 => ?_)
    refine lv_iconst (v := 0) X.1 X.2.1 dX12_undo_24 (by decide +kernel) ?_
    refine lv_istore_n (lv' := [(1, .int 0), (0, .ref a0)]) X.1 X.2.1 dX12_undo_25 rfl hl (by decide) rfl (fun ls hl => ?_)
    have B6_26 : ∀ (N : Nat) (H : Heap) (locs : List Loc) (ls : Array Slot) (z6_1 : Int32) (v6_0_39 : Int32), sgG (KT P) D vwCl (fun q : Nat => base ≤ q) tys ad ks H → va_S (fun q : Nat => base ≤ q) s.heap H locs → lv_has ls 2 [(0, .ref a0), (1, .int z6_1)] → iv 0 249 z6_1 → iv 0 39 v6_0_39 → fld D H 12 a0 39 (.int v6_0_39) → (250 - z6_1.toInt).toNat ≤ N → W p l e (headSpec (Cond.code yX12_undo cX12_undo 2 (some .int) :: sg_tbl) ({ frames := 0, cells := 0, slots := 0, locals := 0 })).room s m #[.ref a0] below meth c H locs 0 0 (MQ below (va_Qi (fun r (_ : Unit) => (fun r : Int32 => True) r) (fun _ => sgB (KT P) D vwCl base tys ad ks) (fun q : Nat => base ≤ q)) #[.ref a0] s 0 0 (fun q : Nat => base ≤ q)) (F0 m 26 ls []) := by
      intro N; induction N with
      | zero =>
        intro H locs ls z6_1 v6_0_39 hG hS hl hz6_1 hv6_0_39 hkv6_0_39 hN
        exact absurd hN (by have := iv_up hz6_1; omega)
      | succ N ih6 =>
        intro H locs ls z6_1 v6_0_39 hG hS hl hz6_1 hv6_0_39 hkv6_0_39 hN6
        refine lv_iload_n X.1 X.2.1 dX12_undo_26 rfl (lv_at hl 1 rfl) ?_
        refine lv_sipush (v := 249) X.1 X.2.1 dX12_undo_27 (by decide +kernel) ?_
        refine lv_icmp_ge (tgt := 60) X.1 X.2.1 dX12_undo_30 (by decide) (fun c7 => ?_) (fun c7 => ?_)
        · refine lv_aload_n X.1 X.2.1 dX12_undo_60 rfl (lv_at hl 0 rfl) ?_
          refine gg_X12_39 X hK hG h0 wl_6_217 hkv6_0_39 dX12_undo_61 ?_
          exact sg_iret X hr hlk hb hK hC hG hS trivial dX12_undo_64
        · refine lv_aload_n X.1 X.2.1 dX12_undo_33 rfl (lv_at hl 0 rfl) ?_
          refine gf_X12_32 X hK hG h0 wl_6_210 dX12_undo_34 (fun q8 hq8 kq8 => ?_)
          refine lv_iload_n X.1 X.2.1 dX12_undo_37 rfl (lv_at hl 1 rfl) ?_
          refine lv_aload_n X.1 X.2.1 dX12_undo_38 rfl (lv_at hl 0 rfl) ?_
          refine gf_X12_38 X hK hG h0 wl_6_216 dX12_undo_39 (fun q9 hq9 kq9 => ?_)
          refine lv_sipush (v := 249) X.1 X.2.1 dX12_undo_42 (by decide +kernel) ?_
          refine lv_aload_n X.1 X.2.1 dX12_undo_45 rfl (lv_at hl 0 rfl) ?_
          refine gg_X12_39 X hK hG h0 wl_6_217 hkv6_0_39 dX12_undo_46 ?_
          refine lv_imul X.1 X.2.1 dX12_undo_49 ?_
          refine lv_topi (fun f10 ef10 => ?_)
          refine lv_iload_n X.1 X.2.1 dX12_undo_50 rfl (lv_at hl 1 rfl) ?_
          refine lv_iadd X.1 X.2.1 dX12_undo_51 ?_
          refine lv_topi (fun f11 ef11 => ?_)
          refine al_58 X hK hG hq9 (iv_vpin (iv_add (a' := 0) (b' := 9959) ef11 (iv_mul (a' := 0) (b' := 9711) ef10 (iv_c 249 (a := 249) (b := 249) (by decide +kernel)) hv6_0_39 (by decide +kernel)) (iv_lt (b' := 248) (iv_gt_of c7) hz6_1 (iv_c 249 (a := 249) (b := 249) (by decide +kernel)) (by decide +kernel)) (by decide +kernel)) (by decide +kernel)) dX12_undo_52 (fun f12 hf12 => ?_)
          have of12 := hf12
          have hf12 : iv (-2147483648) 2147483647 f12 := sg_spa_now hf12
          refine as_54 X hK hG hS hq8 (iv_vpin (iv_lt (b' := 248) (iv_gt_of c7) hz6_1 (iv_c 249 (a := 249) (b := 249) (by decide +kernel)) (by decide +kernel)) (by decide +kernel)) (sg_und3 hv6_0_39 ef10 (iv_lt (b' := 248) (iv_gt_of c7) hz6_1 (iv_c 249 (a := 249) (b := 249) (by decide +kernel)) (by decide +kernel)) ef11 of12) dX12_undo_53 (fun H locs hG hS ru13 => ?_)
          obtain ⟨y14, ey14⟩ : ∃ y : Int32, y = z6_1 + Int32.ofInt 1 := ⟨_, rfl⟩
          refine lv_iinc (v := y14) (lv' := [(1, .int y14), (0, .ref a0)]) X.1 X.2.1 dX12_undo_54 hl (k := 1) rfl ey14.symm (by decide) rfl (fun ls hl => ?_)
          refine lv_goto (tgt := 26) X.1 X.2.1 dX12_undo_57 (by decide) ?_
          exact ih6 H _ _ y14 v6_0_39 hG hS (lv_sub hl [1, 0] rfl) (iv_of (iv_add (a' := 1) (b' := 249) ey14 (iv_lt (b' := 248) (iv_gt_of c7) hz6_1 (iv_c 249 (a := 249) (b := 249) (by decide +kernel)) (by decide +kernel)) (iv_c _ (a := 1) (b := 1) (by decide +kernel)) (by decide +kernel)) (a' := 0) (b' := 249) (by decide +kernel)) hv6_0_39 (ru13 _ _ _ _ _ _ _ h0 rfl rfl (by decide) (fun z => z.elim) hkv6_0_39) (iv_stepU ey14 (iv_lt (b' := 248) (iv_gt_of c7) hz6_1 (iv_c 249 (a := 249) (b := 249) (by decide +kernel)) (by decide +kernel)) (by decide +kernel) hN6)
    exact B6_26 _ H _ _ 0 f4 hG hS (lv_sub hl [1, 0] rfl) (iv_of (iv_c 0 (a := 0) (b := 0) (by decide +kernel)) (a' := 0) (b' := 249) (by decide +kernel)) (iv_sub (a' := 0) (b' := 39) ef4 (iv_ne_lo (a' := 1) c3 hf2 (by decide +kernel)) (iv_c 1 (a := 1) (b := 1) (by decide +kernel)) (by decide +kernel)) ku5 (Nat.le_refl _)
  · refine lv_iconst (v := (-1)) X.1 X.2.1 dX12_undo_12 (by decide +kernel) ?_
    exact sg_iret X hr hlk hb hK hC hG hS trivial dX12_undo_13

theorem ca_X12_undo  (X : CallFix p m c cc nL s args sg_tbl own) (hK : va_K D vwCl tys s) (hG : sgG (KT P) D vwCl (fun q : Nat => base ≤ q) tys ad ks H) (hC : sgC base s) (hS : va_S (fun q : Nat => base ≤ q) s.heap H locs) (hb : base ≤ s.heap.size) (a0 : Nat) (h0 : isK ad ks 12 a0) (hl : Cond.methodLink own index yX12_undo ∈ sg_tbl) (hsize : ls.size = nL) (hst : st0 = [].reverse ++ .ref a0 :: rest) (hW : (rest.map fun v => v.category).sum ≤ 8) (hR : 1 ≤ R.frames ∧ 21 ≤ R.locals) (hf : cells ≤ R.cells ∧ slots ≤ R.slots) (hdg : decode cc pc = .ok (.invokevirtual index, 3)) (kk : ∀ (r : Int32) (H1 : Heap) (locs1 : List Loc), (fun r : Int32 => True) r → sgG (KT P) D vwCl (fun q : Nat => base ≤ q) tys ad ks H1 → va_S (fun q : Nat => base ≤ q) s.heap H1 locs1 → W p l e R s m args below meth c H1 locs1 cells slots Q (F0 m (pc + 3) ls (.int r :: rest))) : W p l e R s m args below meth c H locs cells slots Q (F0 m pc ls st0) :=
  sg_callVi X hK hG hC hS hb (m_X12_undo l a0 h0) h0 (k := 12) (ci := 12) rfl (C := RX12) (T := TX12) (N := 53) rfl wl_8_184 wl_1_13 wl_8_182 wl_8_183 (n := 0) (by decide +kernel) rfl rfl rfl hl hsize hst hW hR hf hdg kk
end
