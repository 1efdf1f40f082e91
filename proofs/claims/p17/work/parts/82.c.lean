abbrev cX11_sumOf : ByteArray := prog_1_method_40_code
def yX11_sumOf : MethodName := ⟨RX11, "sumOf", "(I)I"⟩
abbrev cX11_winning : ByteArray := prog_1_method_41_code
def yX11_winning : MethodName := ⟨RX11, "winning", "()I"⟩
abbrev cX2_winningCode : ByteArray := prog_4_method_12_code
def yX2_winningCode : MethodName := ⟨RX2, "winningCode", "()I"⟩
theorem dX11_sumOf_0 : decode cX11_sumOf 0 = .ok (.aload_n 0, 1) := by decide +kernel
theorem dX11_sumOf_1 : decode cX11_sumOf 1 = .ok (.invokevirtual 155, 3) := by decide +kernel
theorem dX11_sumOf_4 : decode cX11_sumOf 4 = .ok (.ifCond .eq 7, 3) := by decide +kernel
theorem dX11_sumOf_7 : decode cX11_sumOf 7 = .ok (.ldc_w 271, 3) := by decide +kernel
theorem dX11_sumOf_10 : decode cX11_sumOf 10 = .ok (.ireturn, 1) := by decide +kernel
theorem dX11_sumOf_11 : decode cX11_sumOf 11 = .ok (.aload_n 0, 1) := by decide +kernel
theorem dX11_sumOf_12 : decode cX11_sumOf 12 = .ok (.getfield 82, 3) := by decide +kernel
theorem dX11_sumOf_15 : decode cX11_sumOf 15 = .ok (.aload_n 0, 1) := by decide +kernel
theorem dX11_sumOf_16 : decode cX11_sumOf 16 = .ok (.getfield 33, 3) := by decide +kernel
theorem dX11_sumOf_19 : decode cX11_sumOf 19 = .ok (.getfield 169, 3) := by decide +kernel
theorem dX11_sumOf_22 : decode cX11_sumOf 22 = .ok (.invokevirtual 339, 3) := by decide +kernel
theorem dX11_sumOf_25 : decode cX11_sumOf 25 = .ok (.iload_n 1, 1) := by decide +kernel
theorem dX11_sumOf_26 : decode cX11_sumOf 26 = .ok (.ifCond .lt 25, 3) := by decide +kernel
theorem dX11_sumOf_29 : decode cX11_sumOf 29 = .ok (.iload_n 1, 1) := by decide +kernel
theorem dX11_sumOf_30 : decode cX11_sumOf 30 = .ok (.aload_n 0, 1) := by decide +kernel
theorem dX11_sumOf_31 : decode cX11_sumOf 31 = .ok (.getfield 82, 3) := by decide +kernel
theorem dX11_sumOf_34 : decode cX11_sumOf 34 = .ok (.getfield 342, 3) := by decide +kernel
theorem dX11_sumOf_37 : decode cX11_sumOf 37 = .ok (.if_icmp .ge 14, 3) := by decide +kernel
theorem dX11_sumOf_40 : decode cX11_sumOf 40 = .ok (.aload_n 0, 1) := by decide +kernel
theorem dX11_sumOf_41 : decode cX11_sumOf 41 = .ok (.getfield 82, 3) := by decide +kernel
theorem dX11_sumOf_44 : decode cX11_sumOf 44 = .ok (.iload_n 1, 1) := by decide +kernel
theorem dX11_sumOf_45 : decode cX11_sumOf 45 = .ok (.invokevirtual 348, 3) := by decide +kernel
theorem dX11_sumOf_48 : decode cX11_sumOf 48 = .ok (.ifCond .ne 7, 3) := by decide +kernel
theorem dX11_sumOf_51 : decode cX11_sumOf 51 = .ok (.ldc_w 271, 3) := by decide +kernel
theorem dX11_sumOf_54 : decode cX11_sumOf 54 = .ok (.ireturn, 1) := by decide +kernel
theorem dX11_sumOf_55 : decode cX11_sumOf 55 = .ok (.aload_n 0, 1) := by decide +kernel
theorem dX11_sumOf_56 : decode cX11_sumOf 56 = .ok (.getfield 82, 3) := by decide +kernel
theorem dX11_sumOf_59 : decode cX11_sumOf 59 = .ok (.invokevirtual 351, 3) := by decide +kernel
theorem dX11_sumOf_62 : decode cX11_sumOf 62 = .ok (.aload_n 0, 1) := by decide +kernel
theorem dX11_sumOf_63 : decode cX11_sumOf 63 = .ok (.getfield 82, 3) := by decide +kernel
theorem dX11_sumOf_66 : decode cX11_sumOf 66 = .ok (.iload_n 1, 1) := by decide +kernel
theorem dX11_sumOf_67 : decode cX11_sumOf 67 = .ok (.aload_n 0, 1) := by decide +kernel
theorem dX11_sumOf_68 : decode cX11_sumOf 68 = .ok (.getfield 82, 3) := by decide +kernel
theorem dX11_sumOf_71 : decode cX11_sumOf 71 = .ok (.getfield 345, 3) := by decide +kernel
theorem dX11_sumOf_74 : decode cX11_sumOf 74 = .ok (.iload_n 1, 1) := by decide +kernel
theorem dX11_sumOf_75 : decode cX11_sumOf 75 = .ok (.iaload, 1) := by decide +kernel
theorem dX11_sumOf_76 : decode cX11_sumOf 76 = .ok (.invokevirtual 354, 3) := by decide +kernel
theorem dX11_sumOf_79 : decode cX11_sumOf 79 = .ok (.ireturn, 1) := by decide +kernel
theorem dX11_winning_0 : decode cX11_winning 0 = .ok (.aload_n 0, 1) := by decide +kernel
theorem dX11_winning_1 : decode cX11_winning 1 = .ok (.invokevirtual 155, 3) := by decide +kernel
theorem dX11_winning_4 : decode cX11_winning 4 = .ok (.ifCond .eq 5, 3) := by decide +kernel
theorem dX11_winning_7 : decode cX11_winning 7 = .ok (.iconst (-1), 1) := by decide +kernel
theorem dX11_winning_8 : decode cX11_winning 8 = .ok (.ireturn, 1) := by decide +kernel
theorem dX11_winning_9 : decode cX11_winning 9 = .ok (.aload_n 0, 1) := by decide +kernel
theorem dX11_winning_10 : decode cX11_winning 10 = .ok (.getfield 82, 3) := by decide +kernel
theorem dX11_winning_13 : decode cX11_winning 13 = .ok (.aload_n 0, 1) := by decide +kernel
theorem dX11_winning_14 : decode cX11_winning 14 = .ok (.getfield 33, 3) := by decide +kernel
theorem dX11_winning_17 : decode cX11_winning 17 = .ok (.getfield 169, 3) := by decide +kernel
theorem dX11_winning_20 : decode cX11_winning 20 = .ok (.invokevirtual 339, 3) := by decide +kernel
theorem dX11_winning_23 : decode cX11_winning 23 = .ok (.aload_n 0, 1) := by decide +kernel
theorem dX11_winning_24 : decode cX11_winning 24 = .ok (.getfield 82, 3) := by decide +kernel
theorem dX11_winning_27 : decode cX11_winning 27 = .ok (.invokevirtual 357, 3) := by decide +kernel
theorem dX11_winning_30 : decode cX11_winning 30 = .ok (.ifCond .ne 7, 3) := by decide +kernel
theorem dX11_winning_33 : decode cX11_winning 33 = .ok (.ldc_w 271, 3) := by decide +kernel
theorem dX11_winning_36 : decode cX11_winning 36 = .ok (.ireturn, 1) := by decide +kernel
theorem dX11_winning_37 : decode cX11_winning 37 = .ok (.aload_n 0, 1) := by decide +kernel
theorem dX11_winning_38 : decode cX11_winning 38 = .ok (.getfield 82, 3) := by decide +kernel
theorem dX11_winning_41 : decode cX11_winning 41 = .ok (.invokevirtual 351, 3) := by decide +kernel
theorem dX11_winning_44 : decode cX11_winning 44 = .ok (.aload_n 0, 1) := by decide +kernel
theorem dX11_winning_45 : decode cX11_winning 45 = .ok (.getfield 82, 3) := by decide +kernel
theorem dX11_winning_48 : decode cX11_winning 48 = .ok (.invokevirtual 360, 3) := by decide +kernel
theorem dX11_winning_51 : decode cX11_winning 51 = .ok (.ireturn, 1) := by decide +kernel
theorem dX2_winningCode_0 : decode cX2_winningCode 0 = .ok (.iconst 0, 1) := by decide +kernel
theorem dX2_winningCode_1 : decode cX2_winningCode 1 = .ok (.istore_n 1, 1) := by decide +kernel
theorem dX2_winningCode_2 : decode cX2_winningCode 2 = .ok (.iconst 0, 1) := by decide +kernel
theorem dX2_winningCode_3 : decode cX2_winningCode 3 = .ok (.istore_n 2, 1) := by decide +kernel
theorem dX2_winningCode_4 : decode cX2_winningCode 4 = .ok (.iload_n 2, 1) := by decide +kernel
theorem dX2_winningCode_5 : decode cX2_winningCode 5 = .ok (.aload_n 0, 1) := by decide +kernel
theorem dX2_winningCode_6 : decode cX2_winningCode 6 = .ok (.getfield 38, 3) := by decide +kernel
theorem dX2_winningCode_9 : decode cX2_winningCode 9 = .ok (.if_icmp .ge 23, 3) := by decide +kernel
theorem dX2_winningCode_12 : decode cX2_winningCode 12 = .ok (.iload_n 1, 1) := by decide +kernel
theorem dX2_winningCode_13 : decode cX2_winningCode 13 = .ok (.aload_n 0, 1) := by decide +kernel
theorem dX2_winningCode_14 : decode cX2_winningCode 14 = .ok (.iload_n 2, 1) := by decide +kernel
theorem dX2_winningCode_15 : decode cX2_winningCode 15 = .ok (.aload_n 0, 1) := by decide +kernel
theorem dX2_winningCode_16 : decode cX2_winningCode 16 = .ok (.getfield 9, 3) := by decide +kernel
theorem dX2_winningCode_19 : decode cX2_winningCode 19 = .ok (.iload_n 2, 1) := by decide +kernel
theorem dX2_winningCode_20 : decode cX2_winningCode 20 = .ok (.iaload, 1) := by decide +kernel
theorem dX2_winningCode_21 : decode cX2_winningCode 21 = .ok (.invokevirtual 90, 3) := by decide +kernel
theorem dX2_winningCode_24 : decode cX2_winningCode 24 = .ok (.ixor, 1) := by decide +kernel
theorem dX2_winningCode_25 : decode cX2_winningCode 25 = .ok (.istore_n 1, 1) := by decide +kernel
theorem dX2_winningCode_26 : decode cX2_winningCode 26 = .ok (.iinc 2 1, 3) := by decide +kernel
theorem dX2_winningCode_29 : decode cX2_winningCode 29 = .ok (.goto (-25), 3) := by decide +kernel
theorem dX2_winningCode_32 : decode cX2_winningCode 32 = .ok (.aload_n 0, 1) := by decide +kernel
theorem dX2_winningCode_33 : decode cX2_winningCode 33 = .ok (.getfield 23, 3) := by decide +kernel
theorem dX2_winningCode_36 : decode cX2_winningCode 36 = .ok (.aload_n 0, 1) := by decide +kernel
theorem dX2_winningCode_37 : decode cX2_winningCode 37 = .ok (.getfield 31, 3) := by decide +kernel
theorem dX2_winningCode_40 : decode cX2_winningCode 40 = .ok (.invokevirtual 64, 3) := by decide +kernel
theorem dX2_winningCode_43 : decode cX2_winningCode 43 = .ok (.iconst 0, 1) := by decide +kernel
theorem dX2_winningCode_44 : decode cX2_winningCode 44 = .ok (.istore_n 2, 1) := by decide +kernel
theorem dX2_winningCode_45 : decode cX2_winningCode 45 = .ok (.iload_n 2, 1) := by decide +kernel
theorem dX2_winningCode_46 : decode cX2_winningCode 46 = .ok (.aload_n 0, 1) := by decide +kernel
theorem dX2_winningCode_47 : decode cX2_winningCode 47 = .ok (.getfield 23, 3) := by decide +kernel
theorem dX2_winningCode_50 : decode cX2_winningCode 50 = .ok (.getfield 68, 3) := by decide +kernel
theorem dX2_winningCode_53 : decode cX2_winningCode 53 = .ok (.if_icmp .ge 73, 3) := by decide +kernel
theorem dX2_winningCode_56 : decode cX2_winningCode 56 = .ok (.aload_n 0, 1) := by decide +kernel
theorem dX2_winningCode_57 : decode cX2_winningCode 57 = .ok (.aload_n 0, 1) := by decide +kernel
theorem dX2_winningCode_58 : decode cX2_winningCode 58 = .ok (.getfield 23, 3) := by decide +kernel
theorem dX2_winningCode_61 : decode cX2_winningCode 61 = .ok (.getfield 71, 3) := by decide +kernel
theorem dX2_winningCode_64 : decode cX2_winningCode 64 = .ok (.iload_n 2, 1) := by decide +kernel
theorem dX2_winningCode_65 : decode cX2_winningCode 65 = .ok (.iaload, 1) := by decide +kernel
theorem dX2_winningCode_66 : decode cX2_winningCode 66 = .ok (.invokevirtual 93, 3) := by decide +kernel
theorem dX2_winningCode_69 : decode cX2_winningCode 69 = .ok (.istore_n 3, 1) := by decide +kernel
theorem dX2_winningCode_70 : decode cX2_winningCode 70 = .ok (.aload_n 0, 1) := by decide +kernel
theorem dX2_winningCode_71 : decode cX2_winningCode 71 = .ok (.getfield 9, 3) := by decide +kernel
theorem dX2_winningCode_74 : decode cX2_winningCode 74 = .ok (.iload_n 3, 1) := by decide +kernel
theorem dX2_winningCode_75 : decode cX2_winningCode 75 = .ok (.iaload, 1) := by decide +kernel
theorem dX2_winningCode_76 : decode cX2_winningCode 76 = .ok (.istore 4, 2) := by decide +kernel
theorem dX2_winningCode_78 : decode cX2_winningCode 78 = .ok (.iload_n 1, 1) := by decide +kernel
theorem dX2_winningCode_79 : decode cX2_winningCode 79 = .ok (.aload_n 0, 1) := by decide +kernel
theorem dX2_winningCode_80 : decode cX2_winningCode 80 = .ok (.iload_n 3, 1) := by decide +kernel
theorem dX2_winningCode_81 : decode cX2_winningCode 81 = .ok (.iload 4, 2) := by decide +kernel
theorem dX2_winningCode_83 : decode cX2_winningCode 83 = .ok (.invokevirtual 90, 3) := by decide +kernel
theorem dX2_winningCode_86 : decode cX2_winningCode 86 = .ok (.ixor, 1) := by decide +kernel
theorem dX2_winningCode_87 : decode cX2_winningCode 87 = .ok (.aload_n 0, 1) := by decide +kernel
theorem dX2_winningCode_88 : decode cX2_winningCode 88 = .ok (.iload_n 3, 1) := by decide +kernel
theorem dX2_winningCode_89 : decode cX2_winningCode 89 = .ok (.iload 4, 2) := by decide +kernel
theorem dX2_winningCode_91 : decode cX2_winningCode 91 = .ok (.aload_n 0, 1) := by decide +kernel
theorem dX2_winningCode_92 : decode cX2_winningCode 92 = .ok (.getfield 23, 3) := by decide +kernel
theorem dX2_winningCode_95 : decode cX2_winningCode 95 = .ok (.getfield 71, 3) := by decide +kernel
theorem dX2_winningCode_98 : decode cX2_winningCode 98 = .ok (.iload_n 2, 1) := by decide +kernel
theorem dX2_winningCode_99 : decode cX2_winningCode 99 = .ok (.iaload, 1) := by decide +kernel
theorem dX2_winningCode_100 : decode cX2_winningCode 100 = .ok (.iconst (-1), 1) := by decide +kernel
theorem dX2_winningCode_101 : decode cX2_winningCode 101 = .ok (.ixor, 1) := by decide +kernel
theorem dX2_winningCode_102 : decode cX2_winningCode 102 = .ok (.iand, 1) := by decide +kernel
theorem dX2_winningCode_103 : decode cX2_winningCode 103 = .ok (.invokevirtual 90, 3) := by decide +kernel
theorem dX2_winningCode_106 : decode cX2_winningCode 106 = .ok (.ixor, 1) := by decide +kernel
theorem dX2_winningCode_107 : decode cX2_winningCode 107 = .ok (.ifCond .ne 13, 3) := by decide +kernel
theorem dX2_winningCode_110 : decode cX2_winningCode 110 = .ok (.aload_n 0, 1) := by decide +kernel
theorem dX2_winningCode_111 : decode cX2_winningCode 111 = .ok (.getfield 23, 3) := by decide +kernel
theorem dX2_winningCode_114 : decode cX2_winningCode 114 = .ok (.getfield 96, 3) := by decide +kernel
theorem dX2_winningCode_117 : decode cX2_winningCode 117 = .ok (.iload_n 2, 1) := by decide +kernel
theorem dX2_winningCode_118 : decode cX2_winningCode 118 = .ok (.iaload, 1) := by decide +kernel
theorem dX2_winningCode_119 : decode cX2_winningCode 119 = .ok (.ireturn, 1) := by decide +kernel
theorem dX2_winningCode_120 : decode cX2_winningCode 120 = .ok (.iinc 2 1, 3) := by decide +kernel
theorem dX2_winningCode_123 : decode cX2_winningCode 123 = .ok (.goto (-78), 3) := by decide +kernel
theorem dX2_winningCode_126 : decode cX2_winningCode 126 = .ok (.iconst (-1), 1) := by decide +kernel
theorem dX2_winningCode_127 : decode cX2_winningCode 127 = .ok (.ireturn, 1) := by decide +kernel
theorem wl_5_196 : (.methodLink RX2 93 yX2_partWith : Cond) ∈ sg_tbl := tb_5 _ (List.mem_of_getElem? (i := 196) (by decide +kernel)) (by decide +kernel)
theorem wl_5_195 : (.methodLink RX2 90 yX2_sumLeft : Cond) ∈ sg_tbl := tb_5 _ (List.mem_of_getElem? (i := 195) (by decide +kernel)) (by decide +kernel)
theorem wl_2_46 : (.fieldLink RX2 96 "LawnAhead$Sight" "codes" "[I" : Cond) ∈ sg_tbl := tb_2 _ (List.mem_of_getElem? (i := 46) (by decide +kernel)) (by decide +kernel)
theorem wl_5_152 : (.methodLink RX11 348 yX2_isSmall : Cond) ∈ sg_tbl := tb_5 _ (List.mem_of_getElem? (i := 152) (by decide +kernel)) (by decide +kernel)
theorem wl_5_157 : (.methodLink RX11 351 yX2_sumUp : Cond) ∈ sg_tbl := tb_5 _ (List.mem_of_getElem? (i := 157) (by decide +kernel)) (by decide +kernel)
theorem wl_5_179 : (.methodLink RX11 354 yX2_sumLeft : Cond) ∈ sg_tbl := tb_5 _ (List.mem_of_getElem? (i := 179) (by decide +kernel)) (by decide +kernel)
theorem wl_5_187 : (.methodLink RX11 357 yX2_allSmall : Cond) ∈ sg_tbl := tb_5 _ (List.mem_of_getElem? (i := 187) (by decide +kernel)) (by decide +kernel)
theorem wl_5_191 : (.methodLink RX11 360 yX2_winningCode : Cond) ∈ sg_tbl := tb_5 _ (List.mem_of_getElem? (i := 191) (by decide +kernel)) (by decide +kernel)
theorem wl_5_194 : (.code yX2_winningCode cX2_winningCode 5 (some .int) : Cond) ∈ sg_tbl := tb_5 _ (List.mem_of_getElem? (i := 194) (by decide +kernel)) (by decide +kernel)
theorem wl_5_192 : (.instanceMethod yX2_winningCode : Cond) ∈ sg_tbl := tb_5 _ (List.mem_of_getElem? (i := 192) (by decide +kernel)) (by decide +kernel)
theorem wl_5_193 : (.selects RX2 yX2_winningCode yX2_winningCode : Cond) ∈ sg_tbl := tb_5 _ (List.mem_of_getElem? (i := 193) (by decide +kernel)) (by decide +kernel)
theorem wl_5_151 : (.code yX11_sumOf cX11_sumOf 2 (some .int) : Cond) ∈ sg_tbl := tb_5 _ (List.mem_of_getElem? (i := 151) (by decide +kernel)) (by decide +kernel)
theorem wl_5_149 : (.instanceMethod yX11_sumOf : Cond) ∈ sg_tbl := tb_5 _ (List.mem_of_getElem? (i := 149) (by decide +kernel)) (by decide +kernel)
theorem wl_5_150 : (.selects RX11 yX11_sumOf yX11_sumOf : Cond) ∈ sg_tbl := tb_5 _ (List.mem_of_getElem? (i := 150) (by decide +kernel)) (by decide +kernel)
theorem wl_5_186 : (.code yX11_winning cX11_winning 1 (some .int) : Cond) ∈ sg_tbl := tb_5 _ (List.mem_of_getElem? (i := 186) (by decide +kernel)) (by decide +kernel)
theorem wl_5_184 : (.instanceMethod yX11_winning : Cond) ∈ sg_tbl := tb_5 _ (List.mem_of_getElem? (i := 184) (by decide +kernel)) (by decide +kernel)
theorem wl_5_185 : (.selects RX11 yX11_winning yX11_winning : Cond) ∈ sg_tbl := tb_5 _ (List.mem_of_getElem? (i := 185) (by decide +kernel)) (by decide +kernel)
section
variable {p : Program} {l : Launch} {e : Env} {R : Room} {s : State} {m : MethodId} {args : Array Value} {below : List Frame} {meth : Method} {c : Code} {H : Heap} {locs : List Loc} {cells slots : Nat} {Q : State → Prop} {cc : ByteArray} {nL pc : Nat} {ls : Array Slot} {rest : List Value} {own : String} {D : va_G} {A : Nat → Prop} {tys : List (ClassId × FieldType)} {ad ks : List Nat} {P : sgPm} {H0 : Heap} {index : Nat} {base : Nat} {st0 : List Value} {a : Nat}
theorem gg_X8_7   (X : CallFix p m c cc nL s args sg_tbl own) (hK : va_K D vwCl tys s) (hG : sgG (KT P) D vwCl A tys ad ks H) (ha : isK ad ks 8 a) (hl : Cond.fieldLink own index "LawnAhead$Sight" "taken" "[I" ∈ sg_tbl) {v : Value} (hf : fld D H 8 a 7 v) (hdg : decode cc pc = .ok (.getfield index, 3)) (kk : W p l e R s m args below meth c H locs cells slots Q (F0 m (pc + 3) ls (v :: rest))) : W p l e R s m args below meth c H locs cells slots Q (F0 m pc ls (.ref a :: rest)) :=
  sg_getf X hK hG ha (k := 8) (ci := 8) rfl (C := RX8) (T := TX8) (N := 9) rfl inL_X8 7 (by decide) (show 7 < 9 by decide) hl (fun _ h => h) hf hdg kk
set_option maxHeartbeats 8000000 in
set_option maxRecDepth 100000 in
theorem m_X2_winningCode_1 (l : Launch) {D : va_G} {base : Nat} {tys : List (ClassId × FieldType)} {ad ks : List Nat} {P : sgPm} (hp1 : P.2.1 = true) (a0 : Nat) (h0 : isK ad ks 2 a0) : sgMi l (KT P) D vwCl base tys ad ks yX2_winningCode cX2_winningCode 5 (some .int) ({ frames := 4, cells := 0, slots := 0, locals := 94 }) [.ref a0] (fun r : Int32 => True) := by
  refine sg_ofW (by decide +kernel) (Nat.le_of_ble_eq_true rfl) (fun p e s m below meth c X hr hlk hb hK hC hG ls hl => ?_)
  have hS : va_S (fun q : Nat => base ≤ q) s.heap s.heap [] := va_S.rf
  have hl : lv_has ls 5 [(0, .ref a0)] := hl
  refine lv_iconst (v := 0) X.1 X.2.1 dX2_winningCode_0 (by decide +kernel) ?_
  refine lv_istore_n (lv' := [(1, .int 0), (0, .ref a0)]) X.1 X.2.1 dX2_winningCode_1 rfl hl (by decide) rfl (fun ls hl => ?_)
  refine lv_iconst (v := 0) X.1 X.2.1 dX2_winningCode_2 (by decide +kernel) ?_
  refine lv_istore_n (lv' := [(2, .int 0), (1, .int 0), (0, .ref a0)]) X.1 X.2.1 dX2_winningCode_3 rfl hl (by decide) rfl (fun ls hl => ?_)
  have B1_4 : ∀ (N : Nat) (locs : List Loc) (ls : Array Slot) (z1_1 : Int32) (z1_2 : Int32), va_S (fun q : Nat => base ≤ q) s.heap s.heap locs → lv_has ls 5 [(0, .ref a0), (1, .int z1_1), (2, .int z1_2)] → iv 0 30 z1_2 → (31 - z1_2.toInt).toNat ≤ N → W p l e (headSpec (Cond.code yX2_winningCode cX2_winningCode 5 (some .int) :: sg_tbl) ({ frames := 4, cells := 0, slots := 0, locals := 94 })).room s m #[.ref a0] below meth c s.heap locs 0 0 (MQ below (va_Qi (fun r (_ : Unit) => (fun r : Int32 => True) r) (fun _ => sgB (KT P) D vwCl base tys ad ks) (fun q : Nat => base ≤ q)) #[.ref a0] s 0 0 (fun q : Nat => base ≤ q)) (F0 m 4 ls []) := by
    intro N; induction N with
    | zero =>
      intro locs ls z1_1 z1_2 hS hl hz1_2 hN
      exact absurd hN (by have := iv_up hz1_2; omega)
    | succ N ih1 =>
      intro locs ls z1_1 z1_2 hS hl hz1_2 hN1
      refine lv_iload_n X.1 X.2.1 dX2_winningCode_4 rfl (lv_at hl 2 rfl) ?_
      refine lv_aload_n X.1 X.2.1 dX2_winningCode_5 rfl (lv_at hl 0 rfl) ?_
      refine gf_X2_6 X hK hG h0 wl_2_151 dX2_winningCode_6 (fun f2 hf2 kf2 => ?_)
      refine lv_icmp_ge (tgt := 32) X.1 X.2.1 dX2_winningCode_9 (by decide) (fun c3 => ?_) (fun c3 => ?_)
      · refine lv_aload_n X.1 X.2.1 dX2_winningCode_32 rfl (lv_at hl 0 rfl) ?_
        refine gf_X2_0 X hK hG h0 wl_2_144 dX2_winningCode_33 (fun q4 hq4 kq4 => ?_)
        refine lv_aload_n X.1 X.2.1 dX2_winningCode_36 rfl (lv_at hl 0 rfl) ?_
        refine gf_X2_7 X hK hG h0 wl_2_153 dX2_winningCode_37 (fun f5 hf5 kf5 => ?_)
        refine ca_X8_listCuts X hK hG hC hS hb q4 hq4 f5 wl_5_170 hl.1 (rest := []) rfl (Nat.le_of_ble_eq_true rfl) ⟨Nat.le_of_ble_eq_true rfl, Nat.le_of_ble_eq_true rfl⟩ ⟨Nat.le_of_ble_eq_true rfl, Nat.le_of_ble_eq_true rfl⟩ dX2_winningCode_40 (fun H locs hG hS => ?_)
        refine lv_iconst (v := 0) X.1 X.2.1 dX2_winningCode_43 (by decide +kernel) ?_
        refine lv_istore_n (lv' := [(2, .int 0), (0, .ref a0), (1, .int z1_1)]) X.1 X.2.1 dX2_winningCode_44 rfl hl (by decide) rfl (fun ls hl => ?_)
        have B7_45 : ∀ (N : Nat) (locs : List Loc) (ls : Array Slot) (z7_2 : Int32), va_S (fun q : Nat => base ≤ q) s.heap H locs → lv_has ls 5 [(0, .ref a0), (1, .int z1_1), (2, .int z7_2)] → iv 0 270 z7_2 → (271 - z7_2.toInt).toNat ≤ N → W p l e (headSpec (Cond.code yX2_winningCode cX2_winningCode 5 (some .int) :: sg_tbl) ({ frames := 4, cells := 0, slots := 0, locals := 94 })).room s m #[.ref a0] below meth c H locs 0 0 (MQ below (va_Qi (fun r (_ : Unit) => (fun r : Int32 => True) r) (fun _ => sgB (KT P) D vwCl base tys ad ks) (fun q : Nat => base ≤ q)) #[.ref a0] s 0 0 (fun q : Nat => base ≤ q)) (F0 m 45 ls []) := by
          intro N; induction N with
          | zero =>
            intro locs ls z7_2 hS hl hz7_2 hN
            exact absurd hN (by have := iv_up hz7_2; omega)
          | succ N ih7 =>
            intro locs ls z7_2 hS hl hz7_2 hN7
            refine lv_iload_n X.1 X.2.1 dX2_winningCode_45 rfl (lv_at hl 2 rfl) ?_
            refine lv_aload_n X.1 X.2.1 dX2_winningCode_46 rfl (lv_at hl 0 rfl) ?_
            refine gf_X2_0 X hK hG h0 wl_2_144 dX2_winningCode_47 (fun q8 hq8 kq8 => ?_)
            refine gf_X8_8 X hK hG hq8 wl_2_52 dX2_winningCode_50 (fun f9 hf9 kf9 => ?_)
            refine lv_icmp_ge (tgt := 126) X.1 X.2.1 dX2_winningCode_53 (by decide) (fun c10 => ?_) (fun c10 => ?_)
            · refine lv_iconst (v := (-1)) X.1 X.2.1 dX2_winningCode_126 (by decide +kernel) ?_
              exact sg_iret X hr hlk hb hK hC hG hS trivial dX2_winningCode_127
            · refine lv_aload_n X.1 X.2.1 dX2_winningCode_56 rfl (lv_at hl 0 rfl) ?_
              refine lv_aload_n X.1 X.2.1 dX2_winningCode_57 rfl (lv_at hl 0 rfl) ?_
              refine gg_X2_0 X hK hG h0 wl_2_144 kq8 dX2_winningCode_58 ?_
              refine gf_X8_7 X hK hG hq8 wl_2_50 dX2_winningCode_61 (fun q11 hq11 kq11 => ?_)
              refine lv_iload_n X.1 X.2.1 dX2_winningCode_64 rfl (lv_at hl 2 rfl) ?_
              refine al_41 X hK hG hq11 (iv_vpin (iv_lt (b' := 269) (iv_gt_of c10) hz7_2 hf9 (by decide +kernel)) (by decide +kernel)) dX2_winningCode_65 (fun f12 hf12 => ?_)
              refine ca_X2_partWith X hK hG hC (fun _ h => h) hS hb a0 h0 f12 wl_5_196 hl.1 (rest := []) rfl (Nat.le_of_ble_eq_true rfl) ⟨Nat.le_of_ble_eq_true rfl, Nat.le_of_ble_eq_true rfl⟩ ⟨Nat.le_of_ble_eq_true rfl, Nat.le_of_ble_eq_true rfl⟩ dX2_winningCode_66 (fun f13 locs hf13 hS => ?_)
              refine lv_istore_n (lv' := [(3, .int f13), (0, .ref a0), (1, .int z1_1), (2, .int z7_2)]) X.1 X.2.1 dX2_winningCode_69 rfl hl (by decide) rfl (fun ls hl => ?_)
              refine lv_aload_n X.1 X.2.1 dX2_winningCode_70 rfl (lv_at hl 1 rfl) ?_
              refine gf_X2_1 X hK hG h0 wl_2_145 dX2_winningCode_71 (fun q14 hq14 kq14 => ?_)
              refine lv_iload_n X.1 X.2.1 dX2_winningCode_74 rfl (lv_at hl 0 rfl) ?_
              refine al_15 X hK hG hq14 (iv_vpin hf13 (by decide +kernel)) dX2_winningCode_75 (fun f15 hf15 => ?_)
              refine lv_istore (lv' := [(4, .int f15), (3, .int f13), (0, .ref a0), (1, .int z1_1), (2, .int z7_2)]) X.1 X.2.1 dX2_winningCode_76 hl (by decide) rfl (fun ls hl => ?_)
              refine lv_iload_n X.1 X.2.1 dX2_winningCode_78 rfl (lv_at hl 3 rfl) ?_
              refine lv_aload_n X.1 X.2.1 dX2_winningCode_79 rfl (lv_at hl 2 rfl) ?_
              refine lv_iload_n X.1 X.2.1 dX2_winningCode_80 rfl (lv_at hl 1 rfl) ?_
              refine lv_iload X.1 X.2.1 dX2_winningCode_81 (lv_at hl 0 rfl) ?_
              refine ca_X2_sumLeft_1 X hK hG hC (fun _ h => h) hS hb hp1 a0 h0 f13 hf13 f15 wl_5_195 hl.1 (rest := [.int z1_1]) rfl (Nat.le_of_ble_eq_true rfl) ⟨Nat.le_of_ble_eq_true rfl, Nat.le_of_ble_eq_true rfl⟩ ⟨Nat.le_of_ble_eq_true rfl, Nat.le_of_ble_eq_true rfl⟩ dX2_winningCode_83 (fun f16 locs hf16 hS => ?_)
              refine lv_ixor X.1 X.2.1 dX2_winningCode_86 ?_
              refine lv_topi (fun f17 ef17 => ?_)
              refine lv_aload_n X.1 X.2.1 dX2_winningCode_87 rfl (lv_at hl 2 rfl) ?_
              refine lv_iload_n X.1 X.2.1 dX2_winningCode_88 rfl (lv_at hl 1 rfl) ?_
              refine lv_iload X.1 X.2.1 dX2_winningCode_89 (lv_at hl 0 rfl) ?_
              refine lv_aload_n X.1 X.2.1 dX2_winningCode_91 rfl (lv_at hl 2 rfl) ?_
              refine gg_X2_0 X hK hG h0 wl_2_144 kq8 dX2_winningCode_92 ?_
              refine gg_X8_7 X hK hG hq8 wl_2_50 kq11 dX2_winningCode_95 ?_
              refine lv_iload_n X.1 X.2.1 dX2_winningCode_98 rfl (lv_at hl 4 rfl) ?_
              refine al_41 X hK hG hq11 (iv_vpin (iv_lt (b' := 269) (iv_gt_of c10) hz7_2 hf9 (by decide +kernel)) (by decide +kernel)) dX2_winningCode_99 (fun f18 hf18 => ?_)
              refine lv_iconst (v := (-1)) X.1 X.2.1 dX2_winningCode_100 (by decide +kernel) ?_
              refine lv_ixor X.1 X.2.1 dX2_winningCode_101 ?_
              refine lv_topi (fun f19 ef19 => ?_)
              refine lv_iand X.1 X.2.1 dX2_winningCode_102 ?_
              refine lv_topi (fun f20 ef20 => ?_)
              refine ca_X2_sumLeft_1 X hK hG hC (fun _ h => h) hS hb hp1 a0 h0 f13 hf13 f20 wl_5_195 hl.1 (rest := [.int f17]) rfl (Nat.le_of_ble_eq_true rfl) ⟨Nat.le_of_ble_eq_true rfl, Nat.le_of_ble_eq_true rfl⟩ ⟨Nat.le_of_ble_eq_true rfl, Nat.le_of_ble_eq_true rfl⟩ dX2_winningCode_103 (fun f21 locs hf21 hS => ?_)
              refine lv_ixor X.1 X.2.1 dX2_winningCode_106 ?_
              refine lv_topi (fun f22 ef22 => ?_)
              refine lv_if_ne (tgt := 120) X.1 X.2.1 dX2_winningCode_107 (by decide) (fun c23 => ?_) (fun c23 => ?_)
              · obtain ⟨y24, ey24⟩ : ∃ y : Int32, y = z7_2 + Int32.ofInt 1 := ⟨_, rfl⟩
                refine lv_iinc (v := y24) (lv' := [(2, .int y24), (4, .int f15), (3, .int f13), (0, .ref a0), (1, .int z1_1)]) X.1 X.2.1 dX2_winningCode_120 hl (k := 4) rfl ey24.symm (by decide) rfl (fun ls hl => ?_)
                refine lv_goto (tgt := 45) X.1 X.2.1 dX2_winningCode_123 (by decide) ?_
                exact ih7 _ _ y24 hS (lv_sub hl [3, 4, 0] rfl) (iv_of (iv_add (a' := 1) (b' := 270) ey24 (iv_lt (b' := 269) (iv_gt_of c10) hz7_2 hf9 (by decide +kernel)) (iv_c _ (a := 1) (b := 1) (by decide +kernel)) (by decide +kernel)) (a' := 0) (b' := 270) (by decide +kernel)) (iv_stepU ey24 (iv_lt (b' := 269) (iv_gt_of c10) hz7_2 hf9 (by decide +kernel)) (by decide +kernel) hN7)
              · refine lv_aload_n X.1 X.2.1 dX2_winningCode_110 rfl (lv_at hl 2 rfl) ?_
                refine gg_X2_0 X hK hG h0 wl_2_144 kq8 dX2_winningCode_111 ?_
                refine gf_X8_6 X hK hG hq8 wl_2_46 dX2_winningCode_114 (fun q25 hq25 kq25 => ?_)
                refine lv_iload_n X.1 X.2.1 dX2_winningCode_117 rfl (lv_at hl 4 rfl) ?_
                refine al_40 X hK hG hq25 (iv_vpin (iv_lt (b' := 269) (iv_gt_of c10) hz7_2 hf9 (by decide +kernel)) (by decide +kernel)) dX2_winningCode_118 (fun f26 hf26 => ?_)
                exact sg_iret X hr hlk hb hK hC hG hS trivial dX2_winningCode_119
        exact B7_45 _ _ _ 0 hS (lv_sub hl [1, 2, 0] rfl) (iv_of (iv_c 0 (a := 0) (b := 0) (by decide +kernel)) (a' := 0) (b' := 270) (by decide +kernel)) (Nat.le_refl _)
      · refine lv_iload_n X.1 X.2.1 dX2_winningCode_12 rfl (lv_at hl 1 rfl) ?_
        refine lv_aload_n X.1 X.2.1 dX2_winningCode_13 rfl (lv_at hl 0 rfl) ?_
        refine lv_iload_n X.1 X.2.1 dX2_winningCode_14 rfl (lv_at hl 2 rfl) ?_
        refine lv_aload_n X.1 X.2.1 dX2_winningCode_15 rfl (lv_at hl 0 rfl) ?_
        refine gf_X2_1 X hK hG h0 wl_2_145 dX2_winningCode_16 (fun q27 hq27 kq27 => ?_)
        refine lv_iload_n X.1 X.2.1 dX2_winningCode_19 rfl (lv_at hl 2 rfl) ?_
        refine al_15 X hK hG hq27 (iv_vpin (iv_lt (b' := 29) (iv_gt_of c3) hz1_2 hf2 (by decide +kernel)) (by decide +kernel)) dX2_winningCode_20 (fun f28 hf28 => ?_)
        refine ca_X2_sumLeft_1 X hK hG hC (fun _ h => h) hS hb hp1 a0 h0 z1_2 (iv_lt (b' := 29) (iv_gt_of c3) hz1_2 hf2 (by decide +kernel)) f28 wl_5_195 hl.1 (rest := [.int z1_1]) rfl (Nat.le_of_ble_eq_true rfl) ⟨Nat.le_of_ble_eq_true rfl, Nat.le_of_ble_eq_true rfl⟩ ⟨Nat.le_of_ble_eq_true rfl, Nat.le_of_ble_eq_true rfl⟩ dX2_winningCode_21 (fun f29 locs hf29 hS => ?_)
        refine lv_ixor X.1 X.2.1 dX2_winningCode_24 ?_
        refine lv_topi (fun f30 ef30 => ?_)
        refine lv_istore_n (lv' := [(1, .int f30), (0, .ref a0), (2, .int z1_2)]) X.1 X.2.1 dX2_winningCode_25 rfl hl (by decide) rfl (fun ls hl => ?_)
        obtain ⟨y31, ey31⟩ : ∃ y : Int32, y = z1_2 + Int32.ofInt 1 := ⟨_, rfl⟩
        refine lv_iinc (v := y31) (lv' := [(2, .int y31), (1, .int f30), (0, .ref a0)]) X.1 X.2.1 dX2_winningCode_26 hl (k := 2) rfl ey31.symm (by decide) rfl (fun ls hl => ?_)
        refine lv_goto (tgt := 4) X.1 X.2.1 dX2_winningCode_29 (by decide) ?_
        exact ih1 _ _ f30 y31 hS (lv_sub hl [2, 1, 0] rfl) (iv_of (iv_add (a' := 1) (b' := 30) ey31 (iv_lt (b' := 29) (iv_gt_of c3) hz1_2 hf2 (by decide +kernel)) (iv_c _ (a := 1) (b := 1) (by decide +kernel)) (by decide +kernel)) (a' := 0) (b' := 30) (by decide +kernel)) (iv_stepU ey31 (iv_lt (b' := 29) (iv_gt_of c3) hz1_2 hf2 (by decide +kernel)) (by decide +kernel) hN1)
  exact B1_4 _ _ _ 0 0 hS (lv_sub hl [2, 1, 0] rfl) (iv_of (iv_c 0 (a := 0) (b := 0) (by decide +kernel)) (a' := 0) (b' := 30) (by decide +kernel)) (Nat.le_refl _)

theorem ca_X2_winningCode_1   (X : CallFix p m c cc nL s args sg_tbl own) (hK : va_K D vwCl tys s) (hG : sgG (KT P) D vwCl (fun q : Nat => base ≤ q) tys ad ks H) (hC : sgC base s) (hS : va_S (fun q : Nat => base ≤ q) s.heap H locs) (hb : base ≤ s.heap.size) (hp1 : P.2.1 = true) (a0 : Nat) (h0 : isK ad ks 2 a0) (hl : Cond.methodLink own index yX2_winningCode ∈ sg_tbl) (hsize : ls.size = nL) (hst : st0 = [].reverse ++ .ref a0 :: rest) (hW : (rest.map fun v => v.category).sum ≤ 8) (hR : 5 ≤ R.frames ∧ 118 ≤ R.locals) (hf : cells ≤ R.cells ∧ slots ≤ R.slots) (hdg : decode cc pc = .ok (.invokevirtual index, 3)) (kk : ∀ (r : Int32) (H1 : Heap) (locs1 : List Loc), (fun r : Int32 => True) r → sgG (KT P) D vwCl (fun q : Nat => base ≤ q) tys ad ks H1 → va_S (fun q : Nat => base ≤ q) s.heap H1 locs1 → W p l e R s m args below meth c H1 locs1 cells slots Q (F0 m (pc + 3) ls (.int r :: rest))) : W p l e R s m args below meth c H locs cells slots Q (F0 m pc ls st0) :=
  sg_callVi X hK hG hC hS hb (m_X2_winningCode_1 l hp1 a0 h0) h0 (k := 2) (ci := 2) rfl (C := RX2) (T := TX2) (N := 10) rfl wl_5_194 wl_1_11 wl_5_192 wl_5_193 (n := 0) (by decide +kernel) rfl rfl rfl hl hsize hst hW hR hf hdg kk

set_option maxHeartbeats 8000000 in
set_option maxRecDepth 100000 in
theorem m_X11_sumOf_1 (l : Launch) {D : va_G} {base : Nat} {tys : List (ClassId × FieldType)} {ad ks : List Nat} {P : sgPm} (hp1 : P.2.1 = true) (a0 : Nat) (h0 : isK ad ks 11 a0) (x1 : Int32) : Met l yX11_sumOf (Cond.code yX11_sumOf cX11_sumOf 2 (some .int) :: sg_tbl) ({ frames := 7, cells := 0, slots := 0, locals := 166 }) (va_Pc [.ref a0, .int x1] (sgB (KT P) D vwCl base tys ad ks)) (va_Qi (fun r (u : Int32) => u = r ∧ (fun r : Int32 => True) r) (fun u t => sgB (KT (sgPlTop P)) D vwCl base tys ad ks t) (fun q : Nat => base ≤ q)) 0 0 (fun q : Nat => base ≤ q) := by
  refine sg_ofW (by decide +kernel) (Nat.le_of_ble_eq_true rfl) (fun p e s m below meth c X hr hlk hb hK hC hG ls hl => ?_)
  have hS : va_S (fun q : Nat => base ≤ q) s.heap s.heap [] := va_S.rf
  have hl : lv_has ls 2 [(0, .ref a0), (1, .int x1)] := hl
  refine lv_aload_n X.1 X.2.1 dX11_sumOf_0 rfl (lv_at hl 0 rfl) ?_
  refine ca_X11_noLawn X hK hG hC (fun _ h => h) hS hb a0 h0 wl_4_74 hl.1 (rest := []) rfl (Nat.le_of_ble_eq_true rfl) ⟨Nat.le_of_ble_eq_true rfl, Nat.le_of_ble_eq_true rfl⟩ ⟨Nat.le_of_ble_eq_true rfl, Nat.le_of_ble_eq_true rfl⟩ dX11_sumOf_1 (fun f1 locs hf1 hS => ?_)
  refine lv_if_eq (tgt := 11) X.1 X.2.1 dX11_sumOf_4 (by decide) (fun c2 => ?_) (fun c2 => ?_)
  · refine lv_aload_n X.1 X.2.1 dX11_sumOf_11 rfl (lv_at hl 0 rfl) ?_
    refine gf_X11_8 X hK hG h0 wl_2_203 dX11_sumOf_12 (fun q3 hq3 kq3 => ?_)
    refine lv_aload_n X.1 X.2.1 dX11_sumOf_15 rfl (lv_at hl 0 rfl) ?_
    refine gf_X11_3 X hK hG h0 wl_2_198 dX11_sumOf_16 (fun q4 hq4 kq4 => ?_)
    refine gf_X9_0 X hK hG hq4 wl_1_118 dX11_sumOf_19 (fun f5 hf5 kf5 => ?_)
    refine ca_X2_findParts X hK hG hC hS hb q3 hq3 f5 hf5 wl_5_136 hl.1 (rest := []) rfl (Nat.le_of_ble_eq_true rfl) ⟨Nat.le_of_ble_eq_true rfl, Nat.le_of_ble_eq_true rfl⟩ ⟨Nat.le_of_ble_eq_true rfl, Nat.le_of_ble_eq_true rfl⟩ dX11_sumOf_22 (fun H locs hG hS => ?_)
    refine lv_iload_n X.1 X.2.1 dX11_sumOf_25 rfl (lv_at hl 1 rfl) ?_
    refine lv_if_lt (tgt := 51) X.1 X.2.1 dX11_sumOf_26 (by decide) (fun c7 => ?_) (fun c7 => ?_)
    · refine lv_ldcw X.1 X.2.1 X.2.2.2.1 (X.2.2.2.2 _ wl_5_9) dX11_sumOf_51 ?_
      have hG : sgG (KT (sgPlTop P)) D vwCl _ tys ad ks _ := sg_plTop hG
      exact sg_iret2 X hr hlk hS trivial (fun t ht hW => sg_post hb hK hC hG hS ht hW) dX11_sumOf_54
    · refine lv_iload_n X.1 X.2.1 dX11_sumOf_29 rfl (lv_at hl 1 rfl) ?_
      refine lv_aload_n X.1 X.2.1 dX11_sumOf_30 rfl (lv_at hl 0 rfl) ?_
      refine gf_X11_8 X hK hG h0 wl_2_203 dX11_sumOf_31 (fun q8 hq8 kq8 => ?_)
      refine gf_X2_6 X hK hG hq8 wl_2_152 dX11_sumOf_34 (fun f9 hf9 kf9 => ?_)
      refine lv_icmp_ge (tgt := 51) X.1 X.2.1 dX11_sumOf_37 (by decide) (fun c10 => ?_) (fun c10 => ?_)
      · refine lv_ldcw X.1 X.2.1 X.2.2.2.1 (X.2.2.2.2 _ wl_5_9) dX11_sumOf_51 ?_
        have hG : sgG (KT (sgPlTop P)) D vwCl _ tys ad ks _ := sg_plTop hG
        exact sg_iret2 X hr hlk hS trivial (fun t ht hW => sg_post hb hK hC hG hS ht hW) dX11_sumOf_54
      · refine lv_aload_n X.1 X.2.1 dX11_sumOf_40 rfl (lv_at hl 0 rfl) ?_
        refine gg_X11_8 X hK hG h0 wl_2_203 kq8 dX11_sumOf_41 ?_
        refine lv_iload_n X.1 X.2.1 dX11_sumOf_44 rfl (lv_at hl 1 rfl) ?_
        refine ca_X2_isSmall X hK hG hC (fun _ h => h) hS hb q8 hq8 x1 (iv_lt (b' := 29) (iv_gt_of c10) (iv_ler (c' := 0) (iv_ge_of c7) (iv_c 0 (a := 0) (b := 0) (by decide +kernel)) (iv_top x1) (by decide +kernel)) hf9 (by decide +kernel)) wl_5_152 hl.1 (rest := []) rfl (Nat.le_of_ble_eq_true rfl) ⟨Nat.le_of_ble_eq_true rfl, Nat.le_of_ble_eq_true rfl⟩ ⟨Nat.le_of_ble_eq_true rfl, Nat.le_of_ble_eq_true rfl⟩ dX11_sumOf_45 (fun f11 locs hf11 hS => ?_)
        refine lv_if_ne (tgt := 55) X.1 X.2.1 dX11_sumOf_48 (by decide) (fun c12 => ?_) (fun c12 => ?_)
        · refine lv_aload_n X.1 X.2.1 dX11_sumOf_55 rfl (lv_at hl 0 rfl) ?_
          refine gg_X11_8 X hK hG h0 wl_2_203 kq8 dX11_sumOf_56 ?_
          refine ca_X2_sumUp_1 X hK hG hC hS hb hp1 q8 hq8 wl_5_157 hl.1 (rest := []) rfl (Nat.le_of_ble_eq_true rfl) ⟨Nat.le_of_ble_eq_true rfl, Nat.le_of_ble_eq_true rfl⟩ ⟨Nat.le_of_ble_eq_true rfl, Nat.le_of_ble_eq_true rfl⟩ dX11_sumOf_59 (fun tg13 H locs htg13 hWg13 hS => ?_)
          have hG : sgG (KT (sgPlTop P)) D vwCl _ tys ad ks _ := hWg13.2.2.2
          rw [htg13] at hG
          refine lv_aload_n X.1 X.2.1 dX11_sumOf_62 rfl (lv_at hl 0 rfl) ?_
          refine gf_X11_8 X hK hG h0 wl_2_203 dX11_sumOf_63 (fun q14 hq14 kq14 => ?_)
          refine lv_iload_n X.1 X.2.1 dX11_sumOf_66 rfl (lv_at hl 1 rfl) ?_
          refine lv_aload_n X.1 X.2.1 dX11_sumOf_67 rfl (lv_at hl 0 rfl) ?_
          refine gg_X11_8 X hK hG h0 wl_2_203 kq14 dX11_sumOf_68 ?_
          refine gf_X2_1 X hK hG hq14 wl_2_146 dX11_sumOf_71 (fun q15 hq15 kq15 => ?_)
          refine lv_iload_n X.1 X.2.1 dX11_sumOf_74 rfl (lv_at hl 1 rfl) ?_
          refine al_15 X hK hG hq15 (iv_vpin (iv_lt (b' := 29) (iv_gt_of c10) (iv_ler (c' := 0) (iv_ge_of c7) (iv_c 0 (a := 0) (b := 0) (by decide +kernel)) (iv_top x1) (by decide +kernel)) hf9 (by decide +kernel)) (by decide +kernel)) dX11_sumOf_75 (fun f16 hf16 => ?_)
          refine ca_X2_sumLeft_1 X hK hG hC (fun _ h => h) hS hb hp1 q14 hq14 x1 (iv_lt (b' := 29) (iv_gt_of c10) (iv_ler (c' := 0) (iv_ge_of c7) (iv_c 0 (a := 0) (b := 0) (by decide +kernel)) (iv_top x1) (by decide +kernel)) hf9 (by decide +kernel)) f16 wl_5_179 hl.1 (rest := []) rfl (Nat.le_of_ble_eq_true rfl) ⟨Nat.le_of_ble_eq_true rfl, Nat.le_of_ble_eq_true rfl⟩ ⟨Nat.le_of_ble_eq_true rfl, Nat.le_of_ble_eq_true rfl⟩ dX11_sumOf_76 (fun f17 locs hf17 hS => ?_)
          exact sg_iret2 X hr hlk hS trivial (fun t ht hW => sg_post hb hK hC hG hS ht hW) dX11_sumOf_79
        · refine lv_ldcw X.1 X.2.1 X.2.2.2.1 (X.2.2.2.2 _ wl_5_9) dX11_sumOf_51 ?_
          have hG : sgG (KT (sgPlTop P)) D vwCl _ tys ad ks _ := sg_plTop hG
          exact sg_iret2 X hr hlk hS trivial (fun t ht hW => sg_post hb hK hC hG hS ht hW) dX11_sumOf_54
  · refine lv_ldcw X.1 X.2.1 X.2.2.2.1 (X.2.2.2.2 _ wl_5_9) dX11_sumOf_7 ?_
    have hG : sgG (KT (sgPlTop P)) D vwCl _ tys ad ks _ := sg_plTop hG
    exact sg_iret2 X hr hlk hS trivial (fun t ht hW => sg_post hb hK hC hG hS ht hW) dX11_sumOf_10

theorem ca_X11_sumOf_1   (X : CallFix p m c cc nL s args sg_tbl own) (hK : va_K D vwCl tys s) (hG : sgG (KT P) D vwCl (fun q : Nat => base ≤ q) tys ad ks H) (hC : sgC base s) (hS : va_S (fun q : Nat => base ≤ q) s.heap H locs) (hb : base ≤ s.heap.size) (hp1 : P.2.1 = true) (a0 : Nat) (h0 : isK ad ks 11 a0) (x1 : Int32) (hl : Cond.methodLink own index yX11_sumOf ∈ sg_tbl) (hsize : ls.size = nL) (hst : st0 = [.int x1].reverse ++ .ref a0 :: rest) (hW : (rest.map fun v => v.category).sum ≤ 8) (hR : 8 ≤ R.frames ∧ 187 ≤ R.locals) (hf : cells ≤ R.cells ∧ slots ≤ R.slots) (hdg : decode cc pc = .ok (.invokevirtual index, 3)) (kk : ∀ (r : Int32) (t : State) (H1 : Heap) (locs1 : List Loc), t.heap = H1 → (fun r : Int32 => True) r → (sgB (KT (sgPlTop P)) D vwCl base tys ad ks t) → va_S (fun q : Nat => base ≤ q) s.heap H1 locs1 → W p l e R s m args below meth c H1 locs1 cells slots Q (F0 m (pc + 3) ls (.int r :: rest))) : W p l e R s m args below meth c H locs cells slots Q (F0 m pc ls st0) :=
  sg_callV2i X hK hG hC hS hb (m_X11_sumOf_1 l hp1 a0 h0 x1) h0 (k := 11) (ci := 11) rfl (C := RX11) (T := TX11) (N := 17) rfl wl_5_151 wl_1_1 wl_5_149 wl_5_150 (n := 1) (by decide +kernel) rfl rfl rfl hl hsize hst hW hR hf hdg kk

set_option maxHeartbeats 8000000 in
set_option maxRecDepth 100000 in
theorem m_X11_winning_1 (l : Launch) {D : va_G} {base : Nat} {tys : List (ClassId × FieldType)} {ad ks : List Nat} {P : sgPm} (hp1 : P.2.1 = true) (a0 : Nat) (h0 : isK ad ks 11 a0) : Met l yX11_winning (Cond.code yX11_winning cX11_winning 1 (some .int) :: sg_tbl) ({ frames := 7, cells := 0, slots := 0, locals := 166 }) (va_Pc [.ref a0] (sgB (KT P) D vwCl base tys ad ks)) (va_Qi (fun r (u : Int32) => u = r ∧ (fun r : Int32 => True) r) (fun u t => sgB (KT (sgPlTop P)) D vwCl base tys ad ks t) (fun q : Nat => base ≤ q)) 0 0 (fun q : Nat => base ≤ q) := by
  refine sg_ofW (by decide +kernel) (Nat.le_of_ble_eq_true rfl) (fun p e s m below meth c X hr hlk hb hK hC hG ls hl => ?_)
  have hS : va_S (fun q : Nat => base ≤ q) s.heap s.heap [] := va_S.rf
  have hl : lv_has ls 1 [(0, .ref a0)] := hl
  refine lv_aload_n X.1 X.2.1 dX11_winning_0 rfl (lv_at hl 0 rfl) ?_
  refine ca_X11_noLawn X hK hG hC (fun _ h => h) hS hb a0 h0 wl_4_74 hl.1 (rest := []) rfl (Nat.le_of_ble_eq_true rfl) ⟨Nat.le_of_ble_eq_true rfl, Nat.le_of_ble_eq_true rfl⟩ ⟨Nat.le_of_ble_eq_true rfl, Nat.le_of_ble_eq_true rfl⟩ dX11_winning_1 (fun f1 locs hf1 hS => ?_)
  refine lv_if_eq (tgt := 9) X.1 X.2.1 dX11_winning_4 (by decide) (fun c2 => ?_) (fun c2 => ?_)
  · refine lv_aload_n X.1 X.2.1 dX11_winning_9 rfl (lv_at hl 0 rfl) ?_
    refine gf_X11_8 X hK hG h0 wl_2_203 dX11_winning_10 (fun q3 hq3 kq3 => ?_)
    refine lv_aload_n X.1 X.2.1 dX11_winning_13 rfl (lv_at hl 0 rfl) ?_
    refine gf_X11_3 X hK hG h0 wl_2_198 dX11_winning_14 (fun q4 hq4 kq4 => ?_)
    refine gf_X9_0 X hK hG hq4 wl_1_118 dX11_winning_17 (fun f5 hf5 kf5 => ?_)
    refine ca_X2_findParts X hK hG hC hS hb q3 hq3 f5 hf5 wl_5_136 hl.1 (rest := []) rfl (Nat.le_of_ble_eq_true rfl) ⟨Nat.le_of_ble_eq_true rfl, Nat.le_of_ble_eq_true rfl⟩ ⟨Nat.le_of_ble_eq_true rfl, Nat.le_of_ble_eq_true rfl⟩ dX11_winning_20 (fun H locs hG hS => ?_)
    refine lv_aload_n X.1 X.2.1 dX11_winning_23 rfl (lv_at hl 0 rfl) ?_
    refine gf_X11_8 X hK hG h0 wl_2_203 dX11_winning_24 (fun q7 hq7 kq7 => ?_)
    refine ca_X2_allSmall X hK hG hC (fun _ h => h) hS hb q7 hq7 wl_5_187 hl.1 (rest := []) rfl (Nat.le_of_ble_eq_true rfl) ⟨Nat.le_of_ble_eq_true rfl, Nat.le_of_ble_eq_true rfl⟩ ⟨Nat.le_of_ble_eq_true rfl, Nat.le_of_ble_eq_true rfl⟩ dX11_winning_27 (fun f8 locs hf8 hS => ?_)
    refine lv_if_ne (tgt := 37) X.1 X.2.1 dX11_winning_30 (by decide) (fun c9 => ?_) (fun c9 => ?_)
    · refine lv_aload_n X.1 X.2.1 dX11_winning_37 rfl (lv_at hl 0 rfl) ?_
      refine gg_X11_8 X hK hG h0 wl_2_203 kq7 dX11_winning_38 ?_
      refine ca_X2_sumUp_1 X hK hG hC hS hb hp1 q7 hq7 wl_5_157 hl.1 (rest := []) rfl (Nat.le_of_ble_eq_true rfl) ⟨Nat.le_of_ble_eq_true rfl, Nat.le_of_ble_eq_true rfl⟩ ⟨Nat.le_of_ble_eq_true rfl, Nat.le_of_ble_eq_true rfl⟩ dX11_winning_41 (fun tg10 H locs htg10 hWg10 hS => ?_)
      have hG : sgG (KT (sgPlTop P)) D vwCl _ tys ad ks _ := hWg10.2.2.2
      rw [htg10] at hG
      refine lv_aload_n X.1 X.2.1 dX11_winning_44 rfl (lv_at hl 0 rfl) ?_
      refine gf_X11_8 X hK hG h0 wl_2_203 dX11_winning_45 (fun q11 hq11 kq11 => ?_)
      refine ca_X2_winningCode_1 X hK hG hC hS hb hp1 q11 hq11 wl_5_191 hl.1 (rest := []) rfl (Nat.le_of_ble_eq_true rfl) ⟨Nat.le_of_ble_eq_true rfl, Nat.le_of_ble_eq_true rfl⟩ ⟨Nat.le_of_ble_eq_true rfl, Nat.le_of_ble_eq_true rfl⟩ dX11_winning_48 (fun f12 H locs hf12 hG hS => ?_)
      exact sg_iret2 X hr hlk hS trivial (fun t ht hW => sg_post hb hK hC hG hS ht hW) dX11_winning_51
    · refine lv_ldcw X.1 X.2.1 X.2.2.2.1 (X.2.2.2.2 _ wl_5_9) dX11_winning_33 ?_
      have hG : sgG (KT (sgPlTop P)) D vwCl _ tys ad ks _ := sg_plTop hG
      exact sg_iret2 X hr hlk hS trivial (fun t ht hW => sg_post hb hK hC hG hS ht hW) dX11_winning_36
  · refine lv_iconst (v := (-1)) X.1 X.2.1 dX11_winning_7 (by decide +kernel) ?_
    have hG : sgG (KT (sgPlTop P)) D vwCl _ tys ad ks _ := sg_plTop hG
    exact sg_iret2 X hr hlk hS trivial (fun t ht hW => sg_post hb hK hC hG hS ht hW) dX11_winning_8

theorem ca_X11_winning_1   (X : CallFix p m c cc nL s args sg_tbl own) (hK : va_K D vwCl tys s) (hG : sgG (KT P) D vwCl (fun q : Nat => base ≤ q) tys ad ks H) (hC : sgC base s) (hS : va_S (fun q : Nat => base ≤ q) s.heap H locs) (hb : base ≤ s.heap.size) (hp1 : P.2.1 = true) (a0 : Nat) (h0 : isK ad ks 11 a0) (hl : Cond.methodLink own index yX11_winning ∈ sg_tbl) (hsize : ls.size = nL) (hst : st0 = [].reverse ++ .ref a0 :: rest) (hW : (rest.map fun v => v.category).sum ≤ 8) (hR : 8 ≤ R.frames ∧ 186 ≤ R.locals) (hf : cells ≤ R.cells ∧ slots ≤ R.slots) (hdg : decode cc pc = .ok (.invokevirtual index, 3)) (kk : ∀ (r : Int32) (t : State) (H1 : Heap) (locs1 : List Loc), t.heap = H1 → (fun r : Int32 => True) r → (sgB (KT (sgPlTop P)) D vwCl base tys ad ks t) → va_S (fun q : Nat => base ≤ q) s.heap H1 locs1 → W p l e R s m args below meth c H1 locs1 cells slots Q (F0 m (pc + 3) ls (.int r :: rest))) : W p l e R s m args below meth c H locs cells slots Q (F0 m pc ls st0) :=
  sg_callV2i X hK hG hC hS hb (m_X11_winning_1 l hp1 a0 h0) h0 (k := 11) (ci := 11) rfl (C := RX11) (T := TX11) (N := 17) rfl wl_5_186 wl_1_1 wl_5_184 wl_5_185 (n := 0) (by decide +kernel) rfl rfl rfl hl hsize hst hW hR hf hdg kk
end
