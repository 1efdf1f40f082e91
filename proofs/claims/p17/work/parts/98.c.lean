abbrev cX11_fewest : ByteArray := prog_1_method_42_code
def yX11_fewest : MethodName := ⟨RX11, "fewest", "()I"⟩
abbrev cX2_fewestCuts : ByteArray := prog_4_method_14_code
def yX2_fewestCuts : MethodName := ⟨RX2, "fewestCuts", "()I"⟩
abbrev cX2_fewestIn : ByteArray := prog_4_method_15_code
def yX2_fewestIn : MethodName := ⟨RX2, "fewestIn", "(I)I"⟩
theorem dX11_fewest_0 : decode cX11_fewest 0 = .ok (.aload_n 0, 1) := by decide +kernel
theorem dX11_fewest_1 : decode cX11_fewest 1 = .ok (.invokevirtual 155, 3) := by decide +kernel
theorem dX11_fewest_4 : decode cX11_fewest 4 = .ok (.ifCond .eq 5, 3) := by decide +kernel
theorem dX11_fewest_7 : decode cX11_fewest 7 = .ok (.iconst (-1), 1) := by decide +kernel
theorem dX11_fewest_8 : decode cX11_fewest 8 = .ok (.ireturn, 1) := by decide +kernel
theorem dX11_fewest_9 : decode cX11_fewest 9 = .ok (.aload_n 0, 1) := by decide +kernel
theorem dX11_fewest_10 : decode cX11_fewest 10 = .ok (.getfield 82, 3) := by decide +kernel
theorem dX11_fewest_13 : decode cX11_fewest 13 = .ok (.aload_n 0, 1) := by decide +kernel
theorem dX11_fewest_14 : decode cX11_fewest 14 = .ok (.getfield 33, 3) := by decide +kernel
theorem dX11_fewest_17 : decode cX11_fewest 17 = .ok (.getfield 169, 3) := by decide +kernel
theorem dX11_fewest_20 : decode cX11_fewest 20 = .ok (.invokevirtual 339, 3) := by decide +kernel
theorem dX11_fewest_23 : decode cX11_fewest 23 = .ok (.aload_n 0, 1) := by decide +kernel
theorem dX11_fewest_24 : decode cX11_fewest 24 = .ok (.getfield 82, 3) := by decide +kernel
theorem dX11_fewest_27 : decode cX11_fewest 27 = .ok (.invokevirtual 357, 3) := by decide +kernel
theorem dX11_fewest_30 : decode cX11_fewest 30 = .ok (.ifCond .eq 13, 3) := by decide +kernel
theorem dX11_fewest_33 : decode cX11_fewest 33 = .ok (.aload_n 0, 1) := by decide +kernel
theorem dX11_fewest_34 : decode cX11_fewest 34 = .ok (.getfield 82, 3) := by decide +kernel
theorem dX11_fewest_37 : decode cX11_fewest 37 = .ok (.invokevirtual 363, 3) := by decide +kernel
theorem dX11_fewest_40 : decode cX11_fewest 40 = .ok (.goto 6, 3) := by decide +kernel
theorem dX11_fewest_43 : decode cX11_fewest 43 = .ok (.ldc_w 271, 3) := by decide +kernel
theorem dX11_fewest_46 : decode cX11_fewest 46 = .ok (.ireturn, 1) := by decide +kernel
theorem dX2_fewestCuts_0 : decode cX2_fewestCuts 0 = .ok (.aload_n 0, 1) := by decide +kernel
theorem dX2_fewestCuts_1 : decode cX2_fewestCuts 1 = .ok (.getfield 99, 3) := by decide +kernel
theorem dX2_fewestCuts_4 : decode cX2_fewestCuts 4 = .ok (.ifnonnull 12, 3) := by decide +kernel
theorem dX2_fewestCuts_7 : decode cX2_fewestCuts 7 = .ok (.aload_n 0, 1) := by decide +kernel
theorem dX2_fewestCuts_8 : decode cX2_fewestCuts 8 = .ok (.sipush 4096, 3) := by decide +kernel
theorem dX2_fewestCuts_11 : decode cX2_fewestCuts 11 = .ok (.newarray .int, 2) := by decide +kernel
theorem dX2_fewestCuts_13 : decode cX2_fewestCuts 13 = .ok (.putfield 99, 3) := by decide +kernel
theorem dX2_fewestCuts_16 : decode cX2_fewestCuts 16 = .ok (.iconst 0, 1) := by decide +kernel
theorem dX2_fewestCuts_17 : decode cX2_fewestCuts 17 = .ok (.istore_n 1, 1) := by decide +kernel
theorem dX2_fewestCuts_18 : decode cX2_fewestCuts 18 = .ok (.iconst 0, 1) := by decide +kernel
theorem dX2_fewestCuts_19 : decode cX2_fewestCuts 19 = .ok (.istore_n 2, 1) := by decide +kernel
theorem dX2_fewestCuts_20 : decode cX2_fewestCuts 20 = .ok (.iload_n 2, 1) := by decide +kernel
theorem dX2_fewestCuts_21 : decode cX2_fewestCuts 21 = .ok (.aload_n 0, 1) := by decide +kernel
theorem dX2_fewestCuts_22 : decode cX2_fewestCuts 22 = .ok (.getfield 38, 3) := by decide +kernel
theorem dX2_fewestCuts_25 : decode cX2_fewestCuts 25 = .ok (.if_icmp .ge 17, 3) := by decide +kernel
theorem dX2_fewestCuts_28 : decode cX2_fewestCuts 28 = .ok (.iload_n 1, 1) := by decide +kernel
theorem dX2_fewestCuts_29 : decode cX2_fewestCuts 29 = .ok (.aload_n 0, 1) := by decide +kernel
theorem dX2_fewestCuts_30 : decode cX2_fewestCuts 30 = .ok (.iload_n 2, 1) := by decide +kernel
theorem dX2_fewestCuts_31 : decode cX2_fewestCuts 31 = .ok (.invokevirtual 102, 3) := by decide +kernel
theorem dX2_fewestCuts_34 : decode cX2_fewestCuts 34 = .ok (.iadd, 1) := by decide +kernel
theorem dX2_fewestCuts_35 : decode cX2_fewestCuts 35 = .ok (.istore_n 1, 1) := by decide +kernel
theorem dX2_fewestCuts_36 : decode cX2_fewestCuts 36 = .ok (.iinc 2 1, 3) := by decide +kernel
theorem dX2_fewestCuts_39 : decode cX2_fewestCuts 39 = .ok (.goto (-19), 3) := by decide +kernel
theorem dX2_fewestCuts_42 : decode cX2_fewestCuts 42 = .ok (.iload_n 1, 1) := by decide +kernel
theorem dX2_fewestCuts_43 : decode cX2_fewestCuts 43 = .ok (.ireturn, 1) := by decide +kernel
theorem dX2_fewestIn_0 : decode cX2_fewestIn 0 = .ok (.aload_n 0, 1) := by decide +kernel
theorem dX2_fewestIn_1 : decode cX2_fewestIn 1 = .ok (.iload_n 1, 1) := by decide +kernel
theorem dX2_fewestIn_2 : decode cX2_fewestIn 2 = .ok (.invokevirtual 84, 3) := by decide +kernel
theorem dX2_fewestIn_5 : decode cX2_fewestIn 5 = .ok (.istore_n 2, 1) := by decide +kernel
theorem dX2_fewestIn_6 : decode cX2_fewestIn 6 = .ok (.iconst 1, 1) := by decide +kernel
theorem dX2_fewestIn_7 : decode cX2_fewestIn 7 = .ok (.aload_n 0, 1) := by decide +kernel
theorem dX2_fewestIn_8 : decode cX2_fewestIn 8 = .ok (.getfield 9, 3) := by decide +kernel
theorem dX2_fewestIn_11 : decode cX2_fewestIn 11 = .ok (.iload_n 1, 1) := by decide +kernel
theorem dX2_fewestIn_12 : decode cX2_fewestIn 12 = .ok (.iaload, 1) := by decide +kernel
theorem dX2_fewestIn_13 : decode cX2_fewestIn 13 = .ok (.invokestatic 55, 3) := by decide +kernel
theorem dX2_fewestIn_16 : decode cX2_fewestIn 16 = .ok (.ishl, 1) := by decide +kernel
theorem dX2_fewestIn_17 : decode cX2_fewestIn 17 = .ok (.istore_n 3, 1) := by decide +kernel
theorem dX2_fewestIn_18 : decode cX2_fewestIn 18 = .ok (.iconst 1, 1) := by decide +kernel
theorem dX2_fewestIn_19 : decode cX2_fewestIn 19 = .ok (.istore 4, 2) := by decide +kernel
theorem dX2_fewestIn_21 : decode cX2_fewestIn 21 = .ok (.iload 4, 2) := by decide +kernel
theorem dX2_fewestIn_23 : decode cX2_fewestIn 23 = .ok (.iload_n 3, 1) := by decide +kernel
theorem dX2_fewestIn_24 : decode cX2_fewestIn 24 = .ok (.if_icmp .ge 101, 3) := by decide +kernel
theorem dX2_fewestIn_27 : decode cX2_fewestIn 27 = .ok (.iload 4, 2) := by decide +kernel
theorem dX2_fewestIn_29 : decode cX2_fewestIn 29 = .ok (.aload_n 0, 1) := by decide +kernel
theorem dX2_fewestIn_30 : decode cX2_fewestIn 30 = .ok (.getfield 99, 3) := by decide +kernel
theorem dX2_fewestIn_33 : decode cX2_fewestIn 33 = .ok (.arraylength, 1) := by decide +kernel
theorem dX2_fewestIn_34 : decode cX2_fewestIn 34 = .ok (.if_icmp .ge 91, 3) := by decide +kernel
theorem dX2_fewestIn_37 : decode cX2_fewestIn 37 = .ok (.iload 4, 2) := by decide +kernel
theorem dX2_fewestIn_39 : decode cX2_fewestIn 39 = .ok (.iload 4, 2) := by decide +kernel
theorem dX2_fewestIn_41 : decode cX2_fewestIn 41 = .ok (.ineg, 1) := by decide +kernel
theorem dX2_fewestIn_42 : decode cX2_fewestIn 42 = .ok (.iand, 1) := by decide +kernel
theorem dX2_fewestIn_43 : decode cX2_fewestIn 43 = .ok (.istore 5, 2) := by decide +kernel
theorem dX2_fewestIn_45 : decode cX2_fewestIn 45 = .ok (.bipush 12, 2) := by decide +kernel
theorem dX2_fewestIn_47 : decode cX2_fewestIn 47 = .ok (.istore 6, 2) := by decide +kernel
theorem dX2_fewestIn_49 : decode cX2_fewestIn 49 = .ok (.iconst 0, 1) := by decide +kernel
theorem dX2_fewestIn_50 : decode cX2_fewestIn 50 = .ok (.istore 7, 2) := by decide +kernel
theorem dX2_fewestIn_52 : decode cX2_fewestIn 52 = .ok (.iload 7, 2) := by decide +kernel
theorem dX2_fewestIn_54 : decode cX2_fewestIn 54 = .ok (.iload_n 2, 1) := by decide +kernel
theorem dX2_fewestIn_55 : decode cX2_fewestIn 55 = .ok (.if_icmp .ge 55, 3) := by decide +kernel
theorem dX2_fewestIn_58 : decode cX2_fewestIn 58 = .ok (.aload_n 0, 1) := by decide +kernel
theorem dX2_fewestIn_59 : decode cX2_fewestIn 59 = .ok (.getfield 20, 3) := by decide +kernel
theorem dX2_fewestIn_62 : decode cX2_fewestIn 62 = .ok (.iload 7, 2) := by decide +kernel
theorem dX2_fewestIn_64 : decode cX2_fewestIn 64 = .ok (.iaload, 1) := by decide +kernel
theorem dX2_fewestIn_65 : decode cX2_fewestIn 65 = .ok (.istore 8, 2) := by decide +kernel
theorem dX2_fewestIn_67 : decode cX2_fewestIn 67 = .ok (.iload 8, 2) := by decide +kernel
theorem dX2_fewestIn_69 : decode cX2_fewestIn 69 = .ok (.iload 5, 2) := by decide +kernel
theorem dX2_fewestIn_71 : decode cX2_fewestIn 71 = .ok (.iand, 1) := by decide +kernel
theorem dX2_fewestIn_72 : decode cX2_fewestIn 72 = .ok (.ifCond .eq 32, 3) := by decide +kernel
theorem dX2_fewestIn_75 : decode cX2_fewestIn 75 = .ok (.iload 4, 2) := by decide +kernel
theorem dX2_fewestIn_77 : decode cX2_fewestIn 77 = .ok (.iload 8, 2) := by decide +kernel
theorem dX2_fewestIn_79 : decode cX2_fewestIn 79 = .ok (.iand, 1) := by decide +kernel
theorem dX2_fewestIn_80 : decode cX2_fewestIn 80 = .ok (.iload 8, 2) := by decide +kernel
theorem dX2_fewestIn_82 : decode cX2_fewestIn 82 = .ok (.if_icmp .ne 22, 3) := by decide +kernel
theorem dX2_fewestIn_85 : decode cX2_fewestIn 85 = .ok (.iload 6, 2) := by decide +kernel
theorem dX2_fewestIn_87 : decode cX2_fewestIn 87 = .ok (.iconst 1, 1) := by decide +kernel
theorem dX2_fewestIn_88 : decode cX2_fewestIn 88 = .ok (.aload_n 0, 1) := by decide +kernel
theorem dX2_fewestIn_89 : decode cX2_fewestIn 89 = .ok (.getfield 99, 3) := by decide +kernel
theorem dX2_fewestIn_92 : decode cX2_fewestIn 92 = .ok (.iload 4, 2) := by decide +kernel
theorem dX2_fewestIn_94 : decode cX2_fewestIn 94 = .ok (.iload 8, 2) := by decide +kernel
theorem dX2_fewestIn_96 : decode cX2_fewestIn 96 = .ok (.ixor, 1) := by decide +kernel
theorem dX2_fewestIn_97 : decode cX2_fewestIn 97 = .ok (.iaload, 1) := by decide +kernel
theorem dX2_fewestIn_98 : decode cX2_fewestIn 98 = .ok (.iadd, 1) := by decide +kernel
theorem dX2_fewestIn_99 : decode cX2_fewestIn 99 = .ok (.invokestatic 105, 3) := by decide +kernel
theorem dX2_fewestIn_102 : decode cX2_fewestIn 102 = .ok (.istore 6, 2) := by decide +kernel
theorem dX2_fewestIn_104 : decode cX2_fewestIn 104 = .ok (.iinc 7 1, 3) := by decide +kernel
theorem dX2_fewestIn_107 : decode cX2_fewestIn 107 = .ok (.goto (-55), 3) := by decide +kernel
theorem dX2_fewestIn_110 : decode cX2_fewestIn 110 = .ok (.aload_n 0, 1) := by decide +kernel
theorem dX2_fewestIn_111 : decode cX2_fewestIn 111 = .ok (.getfield 99, 3) := by decide +kernel
theorem dX2_fewestIn_114 : decode cX2_fewestIn 114 = .ok (.iload 4, 2) := by decide +kernel
theorem dX2_fewestIn_116 : decode cX2_fewestIn 116 = .ok (.iload 6, 2) := by decide +kernel
theorem dX2_fewestIn_118 : decode cX2_fewestIn 118 = .ok (.iastore, 1) := by decide +kernel
theorem dX2_fewestIn_119 : decode cX2_fewestIn 119 = .ok (.iinc 4 1, 3) := by decide +kernel
theorem dX2_fewestIn_122 : decode cX2_fewestIn 122 = .ok (.goto (-101), 3) := by decide +kernel
theorem dX2_fewestIn_125 : decode cX2_fewestIn 125 = .ok (.iload_n 3, 1) := by decide +kernel
theorem dX2_fewestIn_126 : decode cX2_fewestIn 126 = .ok (.aload_n 0, 1) := by decide +kernel
theorem dX2_fewestIn_127 : decode cX2_fewestIn 127 = .ok (.getfield 99, 3) := by decide +kernel
theorem dX2_fewestIn_130 : decode cX2_fewestIn 130 = .ok (.arraylength, 1) := by decide +kernel
theorem dX2_fewestIn_131 : decode cX2_fewestIn 131 = .ok (.if_icmp .gt 14, 3) := by decide +kernel
theorem dX2_fewestIn_134 : decode cX2_fewestIn 134 = .ok (.aload_n 0, 1) := by decide +kernel
theorem dX2_fewestIn_135 : decode cX2_fewestIn 135 = .ok (.getfield 99, 3) := by decide +kernel
theorem dX2_fewestIn_138 : decode cX2_fewestIn 138 = .ok (.iload_n 3, 1) := by decide +kernel
theorem dX2_fewestIn_139 : decode cX2_fewestIn 139 = .ok (.iconst 1, 1) := by decide +kernel
theorem dX2_fewestIn_140 : decode cX2_fewestIn 140 = .ok (.isub, 1) := by decide +kernel
theorem dX2_fewestIn_141 : decode cX2_fewestIn 141 = .ok (.iaload, 1) := by decide +kernel
theorem dX2_fewestIn_142 : decode cX2_fewestIn 142 = .ok (.goto 4, 3) := by decide +kernel
theorem dX2_fewestIn_145 : decode cX2_fewestIn 145 = .ok (.iconst 0, 1) := by decide +kernel
theorem dX2_fewestIn_146 : decode cX2_fewestIn 146 = .ok (.ireturn, 1) := by decide +kernel
theorem wl_5_212 : (.methodLink RX2 105 Lib.Math.min.name : Cond) ∈ sg_tbl := tb_5 _ (List.mem_of_getElem? (i := 212) (by decide +kernel)) (by decide +kernel)
theorem wl_2_150 : (.fieldLink RX2 99 "LawnAhead$Ends" "fewest" "[I" : Cond) ∈ sg_tbl := tb_2 _ (List.mem_of_getElem? (i := 150) (by decide +kernel)) (by decide +kernel)
theorem wl_5_208 : (.methodLink RX2 102 yX2_fewestIn : Cond) ∈ sg_tbl := tb_5 _ (List.mem_of_getElem? (i := 208) (by decide +kernel)) (by decide +kernel)
theorem wl_5_204 : (.methodLink RX11 363 yX2_fewestCuts : Cond) ∈ sg_tbl := tb_5 _ (List.mem_of_getElem? (i := 204) (by decide +kernel)) (by decide +kernel)
theorem wl_5_211 : (.code yX2_fewestIn cX2_fewestIn 9 (some .int) : Cond) ∈ sg_tbl := tb_5 _ (List.mem_of_getElem? (i := 211) (by decide +kernel)) (by decide +kernel)
theorem wl_5_210 : (.instanceMethod yX2_fewestIn : Cond) ∈ sg_tbl := tb_5 _ (List.mem_of_getElem? (i := 210) (by decide +kernel)) (by decide +kernel)
theorem wl_0_40 : (.selects RX2 yX2_fewestIn yX2_fewestIn : Cond) ∈ sg_tbl := tb_0 _ (List.mem_of_getElem? (i := 40) (by decide +kernel)) (by decide +kernel)
theorem wl_5_207 : (.code yX2_fewestCuts cX2_fewestCuts 3 (some .int) : Cond) ∈ sg_tbl := tb_5 _ (List.mem_of_getElem? (i := 207) (by decide +kernel)) (by decide +kernel)
theorem wl_5_205 : (.instanceMethod yX2_fewestCuts : Cond) ∈ sg_tbl := tb_5 _ (List.mem_of_getElem? (i := 205) (by decide +kernel)) (by decide +kernel)
theorem wl_5_206 : (.selects RX2 yX2_fewestCuts yX2_fewestCuts : Cond) ∈ sg_tbl := tb_5 _ (List.mem_of_getElem? (i := 206) (by decide +kernel)) (by decide +kernel)
theorem wl_5_203 : (.code yX11_fewest cX11_fewest 1 (some .int) : Cond) ∈ sg_tbl := tb_5 _ (List.mem_of_getElem? (i := 203) (by decide +kernel)) (by decide +kernel)
theorem wl_5_201 : (.instanceMethod yX11_fewest : Cond) ∈ sg_tbl := tb_5 _ (List.mem_of_getElem? (i := 201) (by decide +kernel)) (by decide +kernel)
theorem wl_5_202 : (.selects RX11 yX11_fewest yX11_fewest : Cond) ∈ sg_tbl := tb_5 _ (List.mem_of_getElem? (i := 202) (by decide +kernel)) (by decide +kernel)
section
variable {p : Program} {l : Launch} {e : Env} {R : Room} {s : State} {m : MethodId} {args : Array Value} {below : List Frame} {meth : Method} {c : Code} {H : Heap} {locs : List Loc} {cells slots : Nat} {Q : State → Prop} {cc : ByteArray} {nL pc : Nat} {ls : Array Slot} {rest : List Value} {own : String} {D : va_G} {A : Nat → Prop} {tys : List (ClassId × FieldType)} {ad ks : List Nat} {P : sgPm} {H0 : Heap} {index : Nat} {base : Nat} {st0 : List Value} {a : Nat}
theorem gf_X2_5n   (X : CallFix p m c cc nL s args sg_tbl own) (hK : va_K D vwCl tys s) (hG : sgG (KT P) D vwCl A tys ad ks H) (ha : isK ad ks 2 a) (hp : P.2.2.1 = false) (hl : Cond.fieldLink own index "LawnAhead$Ends" "fewest" "[I" ∈ sg_tbl) (hdg : decode cc pc = .ok (.getfield index, 3)) (kk : fld D H 2 a 5 .null → W p l e R s m args below meth c H locs cells slots Q (F0 m (pc + 3) ls (.null :: rest))) : W p l e R s m args below meth c H locs cells slots Q (F0 m pc ls (.ref a :: rest)) :=
  sg_get X hK hG ha (k := 2) (ci := 2) rfl (C := RX2) (T := TX2) (N := 10) rfl inL_X2 5 (by decide) rfl hl (fun _ h => h) hdg (fun v hv hf => by
    rw [hp] at hv
    obtain rfl : v = .null := sg_null rfl hG hv
    exact kk hf)
theorem gf_X2_5s   (X : CallFix p m c cc nL s args sg_tbl own) (hK : va_K D vwCl tys s) (hG : sgG (KT P) D vwCl A tys ad ks H) (ha : isK ad ks 2 a) (hp : P.2.2.1 = true) (hl : Cond.fieldLink own index "LawnAhead$Ends" "fewest" "[I" ∈ sg_tbl) (hdg : decode cc pc = .ok (.getfield index, 3)) (kk : ∀ x : Nat, isK ad ks 19 x → fld D H 2 a 5 (.ref x) → W p l e R s m args below meth c H locs cells slots Q (F0 m (pc + 3) ls (.ref x :: rest))) : W p l e R s m args below meth c H locs cells slots Q (F0 m pc ls (.ref a :: rest)) :=
  sg_get X hK hG ha (k := 2) (ci := 2) rfl (C := RX2) (T := TX2) (N := 10) rfl inL_X2 5 (by decide) rfl hl (fun _ h => h) hdg (fun v hv hf => by
    rw [hp] at hv
    obtain ⟨h1, -⟩ | ⟨x, rfl, hx⟩ := hv
    · cases h1
    · exact kk x hx hf)
theorem gg_X2_5   (X : CallFix p m c cc nL s args sg_tbl own) (hK : va_K D vwCl tys s) (hG : sgG (KT P) D vwCl A tys ad ks H) (ha : isK ad ks 2 a) (hl : Cond.fieldLink own index "LawnAhead$Ends" "fewest" "[I" ∈ sg_tbl) {v : Value} (hf : fld D H 2 a 5 v) (hdg : decode cc pc = .ok (.getfield index, 3)) (kk : W p l e R s m args below meth c H locs cells slots Q (F0 m (pc + 3) ls (v :: rest))) : W p l e R s m args below meth c H locs cells slots Q (F0 m pc ls (.ref a :: rest)) :=
  sg_getf X hK hG ha (k := 2) (ci := 2) rfl (C := RX2) (T := TX2) (N := 10) rfl inL_X2 5 (by decide) (show 5 < 10 by decide) hl (fun _ h => h) hf hdg kk
theorem pf_X2_5xs  {x : Nat}  (X : CallFix p m c cc nL s args sg_tbl own) (hK : va_K D vwCl tys s) (hG : sgG (KT P) D vwCl A tys ad ks H) (hS : va_S A H0 H locs) (ha : isK ad ks 2 a) (hl : Cond.fieldLink own index "LawnAhead$Ends" "fewest" "[I" ∈ sg_tbl) (hv : okV ad ks (.inr (.inl (false, 19))) (.ref x)) (hdg : decode cc pc = .ok (.putfield index, 3)) (kk : ∀ (H1 : Heap) (locs1 : List Loc), sgG (KT (P.1, P.2.1, true, P.2.2.2)) D vwCl A tys ad ks H1 → va_S A H0 H1 locs1 → W p l e R s m args below meth c H1 locs1 cells slots Q (F0 m (pc + 3) ls rest)) : W p l e R s m args below meth c H locs cells slots Q (F0 m pc ls (.ref x :: .ref a :: rest)) :=
  sg_put1 (kt' := KT (P.1, P.2.1, true, P.2.2.2)) X hK hG hS ha (k := 2) (by decide) (ci := 2) (fts := [.inr (.inl (false, 8)), .inr (.inl (false, 15)), .inr (.inl (false, 16)), .inr (.inl (false, 17)), bif P.2.1 then .inr (.inl (false, 18)) else .inr (.inl (true, 999)), bif P.2.2.1 then .inr (.inl (false, 19)) else .inr (.inl (true, 999)), .inl (0, 30), .inl ((-2147483648), 2147483647), .inl (0, 1), .inl (0, 1)]) (fts' := [.inr (.inl (false, 8)), .inr (.inl (false, 15)), .inr (.inl (false, 16)), .inr (.inl (false, 17)), bif (P.1, P.2.1, true, P.2.2.2).2.1 then .inr (.inl (false, 18)) else .inr (.inl (true, 999)), bif (P.1, P.2.1, true, P.2.2.2).2.2.1 then .inr (.inl (false, 19)) else .inr (.inl (true, 999)), .inl (0, 30), .inl ((-2147483648), 2147483647), .inl (0, 1), .inl (0, 1)]) rfl rfl (C := RX2) (T := TX2) (N := 10) rfl inL_X2 tyX2 tyX2_ok nmX2 5 (by decide) rfl (t' := .inr (.inl (false, 19))) rfl (fun i hi => by match i, hi with
    | 0, hi => rfl
    | 1, hi => rfl
    | 2, hi => rfl
    | 3, hi => rfl
    | 4, hi => rfl
    | 5, hi => exact absurd rfl hi
    | 6, hi => rfl
    | 7, hi => rfl
    | 8, hi => rfl
    | 9, hi => rfl
    | i + 10, hi => rfl) (fun i hi => by match i, hi with
    | 0, hi => rfl
    | 1, hi => rfl
    | 2, hi => exact absurd rfl hi
    | 3, hi => rfl
    | 4, hi => rfl
    | 5, hi => rfl
    | 6, hi => rfl
    | 7, hi => rfl
    | 8, hi => rfl
    | 9, hi => rfl
    | 10, hi => rfl
    | 11, hi => rfl
    | 12, hi => rfl
    | 13, hi => rfl
    | 14, hi => rfl
    | 15, hi => rfl
    | 16, hi => rfl
    | 17, hi => rfl
    | 18, hi => rfl
    | 19, hi => rfl
    | 20, hi => rfl
    | 21, hi => rfl
    | 22, hi => rfl
    | 23, hi => rfl
    | 24, hi => rfl
    | 25, hi => rfl
    | 26, hi => rfl
    | 27, hi => rfl
    | 28, hi => rfl
    | 29, hi => rfl
    | 30, hi => rfl
    | 31, hi => rfl
    | 32, hi => rfl
    | 33, hi => rfl
    | 34, hi => rfl
    | 35, hi => rfl
    | 36, hi => rfl
    | 37, hi => rfl
    | 38, hi => rfl
    | 39, hi => rfl
    | 40, hi => rfl
    | 41, hi => rfl
    | 42, hi => rfl
    | 43, hi => rfl
    | 44, hi => rfl
    | 45, hi => rfl
    | 46, hi => rfl
    | 47, hi => rfl
    | 48, hi => rfl
    | 49, hi => rfl
    | 50, hi => rfl
    | 51, hi => rfl
    | 52, hi => rfl
    | 53, hi => rfl
    | 54, hi => rfl
    | 55, hi => rfl
    | 56, hi => rfl
    | 57, hi => rfl
    | 58, hi => rfl
    | 59, hi => rfl
    | 60, hi => rfl
    | 61, hi => rfl
    | 62, hi => rfl
    | 63, hi => rfl
    | 64, hi => rfl
    | 65, hi => rfl
    | 66, hi => rfl
    | 67, hi => rfl
    | i + 68, hi => rfl) hl (fun _ h => h) rfl (ty := (tyX2 5)) rfl rfl rfl hv hdg kk
theorem al_17  {i : Int32}  (X : CallFix p m c cc nL s args sg_tbl own) (hK : va_K D vwCl tys s) (hG : sgG (KT P) D vwCl A tys ad ks H) (ha : isK ad ks 17 a) (hin : vp_in i 270) (hdg : decode cc pc = .ok (.iaload, 1)) (kk : ∀ x : Int32, iv (-2147483648) 2147483647 x → W p l e R s m args below meth c H locs cells slots Q (F0 m (pc + 1) ls (.int x :: rest))) : W p l e R s m args below meth c H locs cells slots Q (F0 m pc ls (.int i :: .ref a :: rest)) :=
  sg_iald X hK hG ha (k := 17) rfl hin hdg (fun x hx => by obtain ⟨y, h1, h2⟩ := hx; cases h1; exact kk _ h2)
theorem al_19  {i : Int32}  (X : CallFix p m c cc nL s args sg_tbl own) (hK : va_K D vwCl tys s) (hG : sgG (KT P) D vwCl A tys ad ks H) (ha : isK ad ks 19 a) (hin : vp_in i 4096) (hdg : decode cc pc = .ok (.iaload, 1)) (kk : ∀ x : Int32, iv (-2147483648) 2147483647 x → W p l e R s m args below meth c H locs cells slots Q (F0 m (pc + 1) ls (.int x :: rest))) : W p l e R s m args below meth c H locs cells slots Q (F0 m pc ls (.int i :: .ref a :: rest)) :=
  sg_iald X hK hG ha (k := 19) rfl hin hdg (fun x hx => by obtain ⟨y, h1, h2⟩ := hx; cases h1; exact kk _ h2)
theorem as_19  {i : Int32} {x : Int32}  (X : CallFix p m c cc nL s args sg_tbl own) (hK : va_K D vwCl tys s) (hG : sgG (KT P) D vwCl A tys ad ks H) (hS : va_S A H0 H locs) (ha : isK ad ks 19 a) (hin : vp_in i 4096) (hv : okV ad ks (.inl ((-2147483648), 2147483647)) (.int x)) (hdg : decode cc pc = .ok (.iastore, 1)) (kk : ∀ (H1 : Heap) (locs1 : List Loc), sgG (KT P) D vwCl A tys ad ks H1 → va_S A H0 H1 locs1 → sgFr (KT P) D vwCl ad ks H H1 (fun _ _ => False) → W p l e R s m args below meth c H1 locs1 cells slots Q (F0 m (pc + 1) ls rest)) : W p l e R s m args below meth c H locs cells slots Q (F0 m pc ls (.int x :: .int i :: .ref a :: rest)) :=
  sg_iast X hK hG hS ha (k := 19) rfl hin hv hdg kk
set_option maxHeartbeats 8000000 in
set_option maxRecDepth 100000 in
theorem m_X2_fewestIn_1 (l : Launch) {D : va_G} {base : Nat} {tys : List (ClassId × FieldType)} {ad ks : List Nat} {P : sgPm} (hp2 : P.2.2.1 = true) (a0 : Nat) (h0 : isK ad ks 2 a0) (x1 : Int32) (h1 : iv 0 29 x1) : sgMi l (KT P) D vwCl base tys ad ks yX2_fewestIn cX2_fewestIn 9 (some .int) ({ frames := 5, cells := 0, slots := 0, locals := 116 }) [.ref a0, .int x1] (fun r : Int32 => True) := by
  refine sg_ofW (by decide +kernel) (Nat.le_of_ble_eq_true rfl) (fun p e s m below meth c X hr hlk hb hK hC hG ls hl => ?_)
  have hS : va_S (fun q : Nat => base ≤ q) s.heap s.heap [] := va_S.rf
  have hl : lv_has ls 9 [(0, .ref a0), (1, .int x1)] := hl
  refine lv_aload_n X.1 X.2.1 dX2_fewestIn_0 rfl (lv_at hl 0 rfl) ?_
  refine lv_iload_n X.1 X.2.1 dX2_fewestIn_1 rfl (lv_at hl 1 rfl) ?_
  refine ca_X2_listLocalCuts X hK hG hC hS hb a0 h0 x1 h1 wl_5_166 hl.1 (rest := []) rfl (Nat.le_of_ble_eq_true rfl) ⟨Nat.le_of_ble_eq_true rfl, Nat.le_of_ble_eq_true rfl⟩ ⟨Nat.le_of_ble_eq_true rfl, Nat.le_of_ble_eq_true rfl⟩ dX2_fewestIn_2 (fun f1 H locs hf1 hG hS => ?_)
  refine lv_istore_n (lv' := [(2, .int f1), (0, .ref a0), (1, .int x1)]) X.1 X.2.1 dX2_fewestIn_5 rfl hl (by decide) rfl (fun ls hl => ?_)
  refine lv_iconst (v := 1) X.1 X.2.1 dX2_fewestIn_6 (by decide +kernel) ?_
  refine lv_aload_n X.1 X.2.1 dX2_fewestIn_7 rfl (lv_at hl 1 rfl) ?_
  refine gf_X2_1 X hK hG h0 wl_2_145 dX2_fewestIn_8 (fun q2 hq2 kq2 => ?_)
  refine lv_iload_n X.1 X.2.1 dX2_fewestIn_11 rfl (lv_at hl 2 rfl) ?_
  refine al_15 X hK hG hq2 (iv_vpin h1 (by decide +kernel)) dX2_fewestIn_12 (fun f3 hf3 => ?_)
  refine ca_J6_bitCount_0f7a4_q X hK hG hC (fun _ h => h) hS hb f3 wl_5_156 hl.1 (rest := [.int 1]) rfl (Nat.le_of_ble_eq_true rfl) ⟨Nat.le_of_ble_eq_true rfl, Nat.le_of_ble_eq_true rfl⟩ ⟨Nat.le_of_ble_eq_true rfl, Nat.le_of_ble_eq_true rfl⟩ dX2_fewestIn_13 (fun f4 locs hf4 hS => ?_)
  refine lv_ishl X.1 X.2.1 dX2_fewestIn_16 ?_
  refine lv_topi (fun f5 ef5 => ?_)
  refine lv_istore_n (lv' := [(3, .int f5), (2, .int f1), (0, .ref a0), (1, .int x1)]) X.1 X.2.1 dX2_fewestIn_17 rfl hl (by decide) rfl (fun ls hl => ?_)
  refine lv_iconst (v := 1) X.1 X.2.1 dX2_fewestIn_18 (by decide +kernel) ?_
  refine lv_istore (lv' := [(4, .int 1), (3, .int f5), (2, .int f1), (0, .ref a0), (1, .int x1)]) X.1 X.2.1 dX2_fewestIn_19 hl (by decide) rfl (fun ls hl => ?_)
  have B6_21 : ∀ (N : Nat) (H : Heap) (locs : List Loc) (ls : Array Slot) (z6_4 : Int32), sgG (KT P) D vwCl (fun q : Nat => base ≤ q) tys ad ks H → va_S (fun q : Nat => base ≤ q) s.heap H locs → lv_has ls 9 [(0, .ref a0), (2, .int f1), (3, .int f5), (4, .int z6_4)] → iv 1 4096 z6_4 → (4097 - z6_4.toInt).toNat ≤ N → W p l e (headSpec (Cond.code yX2_fewestIn cX2_fewestIn 9 (some .int) :: sg_tbl) ({ frames := 5, cells := 0, slots := 0, locals := 116 })).room s m #[.ref a0, .int x1] below meth c H locs 0 0 (MQ below (va_Qi (fun r (_ : Unit) => (fun r : Int32 => True) r) (fun _ => sgB (KT P) D vwCl base tys ad ks) (fun q : Nat => base ≤ q)) #[.ref a0, .int x1] s 0 0 (fun q : Nat => base ≤ q)) (F0 m 21 ls []) := by
    intro N; induction N with
    | zero =>
      intro H locs ls z6_4 hG hS hl hz6_4 hN
      exact absurd hN (by have := iv_up hz6_4; omega)
    | succ N ih6 =>
      intro H locs ls z6_4 hG hS hl hz6_4 hN6
      refine lv_iload X.1 X.2.1 dX2_fewestIn_21 (lv_at hl 3 rfl) ?_
      refine lv_iload_n X.1 X.2.1 dX2_fewestIn_23 rfl (lv_at hl 2 rfl) ?_
      have B8_125 : ∀ (locs : List Loc) (ls : Array Slot), va_S (fun q : Nat => base ≤ q) s.heap H locs → lv_has ls 9 [(0, .ref a0), (3, .int f5)] → W p l e (headSpec (Cond.code yX2_fewestIn cX2_fewestIn 9 (some .int) :: sg_tbl) ({ frames := 5, cells := 0, slots := 0, locals := 116 })).room s m #[.ref a0, .int x1] below meth c H locs 0 0 (MQ below (va_Qi (fun r (_ : Unit) => (fun r : Int32 => True) r) (fun _ => sgB (KT P) D vwCl base tys ad ks) (fun q : Nat => base ≤ q)) #[.ref a0, .int x1] s 0 0 (fun q : Nat => base ≤ q)) (F0 m 125 ls []) := by
        intro locs ls hS hl
        refine lv_iload_n X.1 X.2.1 dX2_fewestIn_125 rfl (lv_at hl 1 rfl) ?_
        refine lv_aload_n X.1 X.2.1 dX2_fewestIn_126 rfl (lv_at hl 0 rfl) ?_
        refine gf_X2_5s X hK hG h0 hp2 wl_2_150 dX2_fewestIn_127 (fun q9 hq9 kq9 => ?_)
        refine sg_alen X hK hG hq9 (k := 19) rfl (v := 4096) rfl dX2_fewestIn_130 ?_
        refine lv_icmp_gt (tgt := 145) X.1 X.2.1 dX2_fewestIn_131 (by decide) (fun c10 => ?_) (fun c10 => ?_)
        · refine lv_iconst (v := 0) X.1 X.2.1 dX2_fewestIn_145 (by decide +kernel) ?_
          exact sg_iret X hr hlk hb hK hC hG hS trivial dX2_fewestIn_146
        · refine lv_aload_n X.1 X.2.1 dX2_fewestIn_134 rfl (lv_at hl 0 rfl) ?_
          refine gg_X2_5 X hK hG h0 wl_2_150 kq9 dX2_fewestIn_135 ?_
          refine lv_iload_n X.1 X.2.1 dX2_fewestIn_138 rfl (lv_at hl 1 rfl) ?_
          refine lv_iconst (v := 1) X.1 X.2.1 dX2_fewestIn_139 (by decide +kernel) ?_
          refine lv_isub X.1 X.2.1 dX2_fewestIn_140 ?_
          refine lv_topi (fun f11 ef11 => ?_)
          refine al_19 X hK hG hq9 (iv_vpin (iv_sub (a' := 0) (b' := 4095) ef11 (iv_le (b' := 4096) (iv_ge_of c10) (sg_shl1 ef5 (sg_popb30 hf4.2 hf3 hf4.1) (by decide +kernel)) (iv_c 4096 (a := 4096) (b := 4096) (by decide +kernel)) (by decide +kernel)) (iv_c 1 (a := 1) (b := 1) (by decide +kernel)) (by decide +kernel)) (by decide +kernel)) dX2_fewestIn_141 (fun f12 hf12 => ?_)
          refine lv_goto (tgt := 146) X.1 X.2.1 dX2_fewestIn_142 (by decide) ?_
          exact sg_iret X hr hlk hb hK hC hG hS trivial dX2_fewestIn_146
      refine lv_icmp_ge (tgt := 125) X.1 X.2.1 dX2_fewestIn_24 (by decide) (fun c7 => ?_) (fun c7 => ?_)
      · exact B8_125 _ _ hS (lv_sub hl [0, 2] rfl)
      · refine lv_iload X.1 X.2.1 dX2_fewestIn_27 (lv_at hl 3 rfl) ?_
        refine lv_aload_n X.1 X.2.1 dX2_fewestIn_29 rfl (lv_at hl 0 rfl) ?_
        refine gf_X2_5s X hK hG h0 hp2 wl_2_150 dX2_fewestIn_30 (fun q13 hq13 kq13 => ?_)
        refine sg_alen X hK hG hq13 (k := 19) rfl (v := 4096) rfl dX2_fewestIn_33 ?_
        refine lv_icmp_ge (tgt := 125) X.1 X.2.1 dX2_fewestIn_34 (by decide) (fun c14 => ?_) (fun c14 => ?_)
        · exact B8_125 _ _ hS (lv_sub hl [0, 2] rfl)
        · refine lv_iload X.1 X.2.1 dX2_fewestIn_37 (lv_at hl 3 rfl) ?_
          refine lv_iload X.1 X.2.1 dX2_fewestIn_39 (lv_at hl 3 rfl) ?_
          refine lv_ineg X.1 X.2.1 dX2_fewestIn_41 ?_
          refine lv_topi (fun f15 ef15 => ?_)
          refine lv_iand X.1 X.2.1 dX2_fewestIn_42 ?_
          refine lv_topi (fun f16 ef16 => ?_)
          refine lv_istore (lv' := [(5, .int f16), (0, .ref a0), (2, .int f1), (3, .int f5), (4, .int z6_4)]) X.1 X.2.1 dX2_fewestIn_43 hl (by decide) rfl (fun ls hl => ?_)
          refine lv_bipush (v := 12) X.1 X.2.1 dX2_fewestIn_45 (by decide +kernel) ?_
          refine lv_istore (lv' := [(6, .int 12), (5, .int f16), (0, .ref a0), (2, .int f1), (3, .int f5), (4, .int z6_4)]) X.1 X.2.1 dX2_fewestIn_47 hl (by decide) rfl (fun ls hl => ?_)
          refine lv_iconst (v := 0) X.1 X.2.1 dX2_fewestIn_49 (by decide +kernel) ?_
          refine lv_istore (lv' := [(7, .int 0), (6, .int 12), (5, .int f16), (0, .ref a0), (2, .int f1), (3, .int f5), (4, .int z6_4)]) X.1 X.2.1 dX2_fewestIn_50 hl (by decide) rfl (fun ls hl => ?_)
          have B17_52 : ∀ (N : Nat) (locs : List Loc) (ls : Array Slot) (z17_6 : Int32) (z17_7 : Int32), va_S (fun q : Nat => base ≤ q) s.heap H locs → lv_has ls 9 [(0, .ref a0), (2, .int f1), (3, .int f5), (4, .int z6_4), (5, .int f16), (6, .int z17_6), (7, .int z17_7)] → iv (-2147483648) 12 z17_6 → iv 0 270 z17_7 → (271 - z17_7.toInt).toNat ≤ N → W p l e (headSpec (Cond.code yX2_fewestIn cX2_fewestIn 9 (some .int) :: sg_tbl) ({ frames := 5, cells := 0, slots := 0, locals := 116 })).room s m #[.ref a0, .int x1] below meth c H locs 0 0 (MQ below (va_Qi (fun r (_ : Unit) => (fun r : Int32 => True) r) (fun _ => sgB (KT P) D vwCl base tys ad ks) (fun q : Nat => base ≤ q)) #[.ref a0, .int x1] s 0 0 (fun q : Nat => base ≤ q)) (F0 m 52 ls []) := by
            intro N; induction N with
            | zero =>
              intro locs ls z17_6 z17_7 hS hl hz17_6 hz17_7 hN
              exact absurd hN (by have := iv_up hz17_7; omega)
            | succ N ih17 =>
              intro locs ls z17_6 z17_7 hS hl hz17_6 hz17_7 hN17
              refine lv_iload X.1 X.2.1 dX2_fewestIn_52 (lv_at hl 6 rfl) ?_
              refine lv_iload_n X.1 X.2.1 dX2_fewestIn_54 rfl (lv_at hl 1 rfl) ?_
              refine lv_icmp_ge (tgt := 110) X.1 X.2.1 dX2_fewestIn_55 (by decide) (fun c18 => ?_) (fun c18 => ?_)
              · refine lv_aload_n X.1 X.2.1 dX2_fewestIn_110 rfl (lv_at hl 0 rfl) ?_
                refine gg_X2_5 X hK hG h0 wl_2_150 kq13 dX2_fewestIn_111 ?_
                refine lv_iload X.1 X.2.1 dX2_fewestIn_114 (lv_at hl 3 rfl) ?_
                refine lv_iload X.1 X.2.1 dX2_fewestIn_116 (lv_at hl 5 rfl) ?_
                refine as_19 X hK hG hS hq13 (iv_vpin (iv_lt (b' := 4095) (iv_gt_of c14) hz6_4 (iv_c 4096 (a := 4096) (b := 4096) (by decide +kernel)) (by decide +kernel)) (by decide +kernel)) ⟨_, rfl, (iv_top _)⟩ dX2_fewestIn_118 (fun H locs hG hS ru19 => ?_)
                obtain ⟨y20, ey20⟩ : ∃ y : Int32, y = z6_4 + Int32.ofInt 1 := ⟨_, rfl⟩
                refine lv_iinc (v := y20) (lv' := [(4, .int y20), (0, .ref a0), (2, .int f1), (3, .int f5), (5, .int f16), (6, .int z17_6), (7, .int z17_7)]) X.1 X.2.1 dX2_fewestIn_119 hl (k := 3) rfl ey20.symm (by decide) rfl (fun ls hl => ?_)
                refine lv_goto (tgt := 21) X.1 X.2.1 dX2_fewestIn_122 (by decide) ?_
                exact ih6 H _ _ y20 hG hS (lv_sub hl [1, 2, 3, 0] rfl) (iv_of (iv_add (a' := 2) (b' := 4096) ey20 (iv_lt (b' := 4095) (iv_gt_of c14) hz6_4 (iv_c 4096 (a := 4096) (b := 4096) (by decide +kernel)) (by decide +kernel)) (iv_c _ (a := 1) (b := 1) (by decide +kernel)) (by decide +kernel)) (a' := 1) (b' := 4096) (by decide +kernel)) (iv_stepU ey20 (iv_lt (b' := 4095) (iv_gt_of c14) hz6_4 (iv_c 4096 (a := 4096) (b := 4096) (by decide +kernel)) (by decide +kernel)) (by decide +kernel) hN6)
              · refine lv_aload_n X.1 X.2.1 dX2_fewestIn_58 rfl (lv_at hl 0 rfl) ?_
                refine gf_X2_3 X hK hG h0 wl_2_148 dX2_fewestIn_59 (fun q21 hq21 kq21 => ?_)
                refine lv_iload X.1 X.2.1 dX2_fewestIn_62 (lv_at hl 6 rfl) ?_
                refine al_17 X hK hG hq21 (iv_vpin (iv_lt (b' := 269) (iv_gt_of c18) hz17_7 hf1 (by decide +kernel)) (by decide +kernel)) dX2_fewestIn_64 (fun f22 hf22 => ?_)
                refine lv_istore (lv' := [(8, .int f22), (0, .ref a0), (2, .int f1), (3, .int f5), (4, .int z6_4), (5, .int f16), (6, .int z17_6), (7, .int z17_7)]) X.1 X.2.1 dX2_fewestIn_65 hl (by decide) rfl (fun ls hl => ?_)
                refine lv_iload X.1 X.2.1 dX2_fewestIn_67 (lv_at hl 0 rfl) ?_
                refine lv_iload X.1 X.2.1 dX2_fewestIn_69 (lv_at hl 5 rfl) ?_
                refine lv_iand X.1 X.2.1 dX2_fewestIn_71 ?_
                refine lv_topi (fun f23 ef23 => ?_)
                have B25_104 : ∀ (locs : List Loc) (ls : Array Slot) (z25_6 : Int32), va_S (fun q : Nat => base ≤ q) s.heap H locs → lv_has ls 9 [(0, .ref a0), (2, .int f1), (3, .int f5), (4, .int z6_4), (5, .int f16), (6, .int z25_6), (7, .int z17_7)] → iv (-2147483648) 12 z25_6 → W p l e (headSpec (Cond.code yX2_fewestIn cX2_fewestIn 9 (some .int) :: sg_tbl) ({ frames := 5, cells := 0, slots := 0, locals := 116 })).room s m #[.ref a0, .int x1] below meth c H locs 0 0 (MQ below (va_Qi (fun r (_ : Unit) => (fun r : Int32 => True) r) (fun _ => sgB (KT P) D vwCl base tys ad ks) (fun q : Nat => base ≤ q)) #[.ref a0, .int x1] s 0 0 (fun q : Nat => base ≤ q)) (F0 m 104 ls []) := by
                  intro locs ls z25_6 hS hl hz25_6
                  obtain ⟨y26, ey26⟩ : ∃ y : Int32, y = z17_7 + Int32.ofInt 1 := ⟨_, rfl⟩
                  refine lv_iinc (v := y26) (lv' := [(7, .int y26), (0, .ref a0), (2, .int f1), (3, .int f5), (4, .int z6_4), (5, .int f16), (6, .int z25_6)]) X.1 X.2.1 dX2_fewestIn_104 hl (k := 6) rfl ey26.symm (by decide) rfl (fun ls hl => ?_)
                  refine lv_goto (tgt := 52) X.1 X.2.1 dX2_fewestIn_107 (by decide) ?_
                  exact ih17 _ _ z25_6 y26 hS (lv_sub hl [1, 2, 3, 4, 5, 6, 0] rfl) hz25_6 (iv_of (iv_add (a' := 1) (b' := 270) ey26 (iv_lt (b' := 269) (iv_gt_of c18) hz17_7 hf1 (by decide +kernel)) (iv_c _ (a := 1) (b := 1) (by decide +kernel)) (by decide +kernel)) (a' := 0) (b' := 270) (by decide +kernel)) (iv_stepU ey26 (iv_lt (b' := 269) (iv_gt_of c18) hz17_7 hf1 (by decide +kernel)) (by decide +kernel) hN17)
                refine lv_if_eq (tgt := 104) X.1 X.2.1 dX2_fewestIn_72 (by decide) (fun c24 => ?_) (fun c24 => ?_)
                · exact B25_104 _ _ z17_6 hS (lv_sub hl [1, 2, 3, 4, 5, 6, 7] rfl) hz17_6
                · refine lv_iload X.1 X.2.1 dX2_fewestIn_75 (lv_at hl 4 rfl) ?_
                  refine lv_iload X.1 X.2.1 dX2_fewestIn_77 (lv_at hl 0 rfl) ?_
                  refine lv_iand X.1 X.2.1 dX2_fewestIn_79 ?_
                  refine lv_topi (fun f27 ef27 => ?_)
                  refine lv_iload X.1 X.2.1 dX2_fewestIn_80 (lv_at hl 0 rfl) ?_
                  refine lv_icmp_ne (tgt := 104) X.1 X.2.1 dX2_fewestIn_82 (by decide) (fun c28 => ?_) (fun c28 => ?_)
                  · exact B25_104 _ _ z17_6 hS (lv_sub hl [1, 2, 3, 4, 5, 6, 7] rfl) hz17_6
                  · refine lv_iload X.1 X.2.1 dX2_fewestIn_85 (lv_at hl 6 rfl) ?_
                    refine lv_iconst (v := 1) X.1 X.2.1 dX2_fewestIn_87 (by decide +kernel) ?_
                    refine lv_aload_n X.1 X.2.1 dX2_fewestIn_88 rfl (lv_at hl 1 rfl) ?_
                    refine gg_X2_5 X hK hG h0 wl_2_150 kq13 dX2_fewestIn_89 ?_
                    refine lv_iload X.1 X.2.1 dX2_fewestIn_92 (lv_at hl 4 rfl) ?_
                    refine lv_iload X.1 X.2.1 dX2_fewestIn_94 (lv_at hl 0 rfl) ?_
                    refine lv_ixor X.1 X.2.1 dX2_fewestIn_96 ?_
                    refine lv_topi (fun f29 ef29 => ?_)
                    have sb97 := sg_sub ef27 c28 ef29 (iv_of (iv_lt (b' := 4095) (iv_gt_of c14) hz6_4 (iv_c 4096 (a := 4096) (b := 4096) (by decide +kernel)) (by decide +kernel)) (a' := 0) (b' := 4095) (by decide +kernel))
                    have hi97 : iv 0 4095 f29 := ⟨by omega, by have := ((iv_lt (b' := 4095) (iv_gt_of c14) hz6_4 (iv_c 4096 (a := 4096) (b := 4096) (by decide +kernel)) (by decide +kernel))).2; omega⟩
                    refine al_19 X hK hG hq13 (iv_vpin hi97 (by decide +kernel)) dX2_fewestIn_97 (fun f30 hf30 => ?_)
                    refine lv_iadd X.1 X.2.1 dX2_fewestIn_98 ?_
                    refine lv_topi (fun f31 ef31 => ?_)
                    refine va_mmin X.1 X.2.1 (X.2.2.1.trans hl.1.symm) X.2.2.2.1 (X.2.2.2.2 _ wl_5_212) (X.2.2.2.2 _ wl_3_64) (X.2.2.2.2 _ wl_1_15) (X.2.2.2.2 _ wl_3_65) (Nat.le_of_ble_eq_true rfl) (Nat.le_of_ble_eq_true rfl) (Nat.le_of_ble_eq_true rfl) (Nat.le_of_ble_eq_true rfl) dX2_fewestIn_99 ?_
                    refine lv_topi (fun f32 ef32 => ?_)
                    refine lv_istore (lv' := [(6, .int f32), (8, .int f22), (0, .ref a0), (2, .int f1), (3, .int f5), (4, .int z6_4), (5, .int f16), (7, .int z17_7)]) X.1 X.2.1 dX2_fewestIn_102 hl (by decide) rfl (fun ls hl => ?_)
                    exact B25_104 _ _ f32 hS (lv_sub hl [2, 3, 4, 5, 6, 0, 7] rfl) (iv_min (a' := (-2147483648)) (b' := 12) ef32 hz17_6 (iv_top f31) (by decide +kernel))
          exact B17_52 _ _ _ 12 0 hS (lv_sub hl [3, 4, 5, 6, 2, 1, 0] rfl) (iv_of (iv_c 12 (a := 12) (b := 12) (by decide +kernel)) (a' := (-2147483648)) (b' := 12) (by decide +kernel)) (iv_of (iv_c 0 (a := 0) (b := 0) (by decide +kernel)) (a' := 0) (b' := 270) (by decide +kernel)) (Nat.le_refl _)
  exact B6_21 _ H _ _ 1 hG hS (lv_sub hl [3, 2, 1, 0] rfl) (iv_of (iv_c 1 (a := 1) (b := 1) (by decide +kernel)) (a' := 1) (b' := 4096) (by decide +kernel)) (Nat.le_refl _)

theorem ca_X2_fewestIn_1   (X : CallFix p m c cc nL s args sg_tbl own) (hK : va_K D vwCl tys s) (hG : sgG (KT P) D vwCl (fun q : Nat => base ≤ q) tys ad ks H) (hC : sgC base s) (hS : va_S (fun q : Nat => base ≤ q) s.heap H locs) (hb : base ≤ s.heap.size) (hp2 : P.2.2.1 = true) (a0 : Nat) (h0 : isK ad ks 2 a0) (x1 : Int32) (h1 : iv 0 29 x1) (hl : Cond.methodLink own index yX2_fewestIn ∈ sg_tbl) (hsize : ls.size = nL) (hst : st0 = [.int x1].reverse ++ .ref a0 :: rest) (hW : (rest.map fun v => v.category).sum ≤ 8) (hR : 6 ≤ R.frames ∧ 144 ≤ R.locals) (hf : cells ≤ R.cells ∧ slots ≤ R.slots) (hdg : decode cc pc = .ok (.invokevirtual index, 3)) (kk : ∀ (r : Int32) (H1 : Heap) (locs1 : List Loc), (fun r : Int32 => True) r → sgG (KT P) D vwCl (fun q : Nat => base ≤ q) tys ad ks H1 → va_S (fun q : Nat => base ≤ q) s.heap H1 locs1 → W p l e R s m args below meth c H1 locs1 cells slots Q (F0 m (pc + 3) ls (.int r :: rest))) : W p l e R s m args below meth c H locs cells slots Q (F0 m pc ls st0) :=
  sg_callVi X hK hG hC hS hb (m_X2_fewestIn_1 l hp2 a0 h0 x1 h1) h0 (k := 2) (ci := 2) rfl (C := RX2) (T := TX2) (N := 10) rfl wl_5_211 wl_1_11 wl_5_210 wl_0_40 (n := 1) (by decide +kernel) rfl rfl rfl hl hsize hst hW hR hf hdg kk

set_option maxHeartbeats 8000000 in
set_option maxRecDepth 100000 in
theorem m_X2_fewestCuts_1 (l : Launch) {D : va_G} {base : Nat} {tys : List (ClassId × FieldType)} {ad ks : List Nat} {P : sgPm} (hp2 : P.2.2.1 = true) (a0 : Nat) (h0 : isK ad ks 2 a0) : sgMi l (KT P) D vwCl base tys ad ks yX2_fewestCuts cX2_fewestCuts 3 (some .int) ({ frames := 6, cells := 0, slots := 0, locals := 144 }) [.ref a0] (fun r : Int32 => True) := by
  refine sg_ofW (by decide +kernel) (Nat.le_of_ble_eq_true rfl) (fun p e s m below meth c X hr hlk hb hK hC hG ls hl => ?_)
  have hS : va_S (fun q : Nat => base ≤ q) s.heap s.heap [] := va_S.rf
  have hl : lv_has ls 3 [(0, .ref a0)] := hl
  refine lv_aload_n X.1 X.2.1 dX2_fewestCuts_0 rfl (lv_at hl 0 rfl) ?_
  refine gf_X2_5s X hK hG h0 hp2 wl_2_150 dX2_fewestCuts_1 (fun q1 hq1 kq1 => ?_)
  have B2_16 : ∀ (H : Heap) (locs : List Loc) (ls : Array Slot), sgG (KT P) D vwCl (fun q : Nat => base ≤ q) tys ad ks H → va_S (fun q : Nat => base ≤ q) s.heap H locs → lv_has ls 3 [(0, .ref a0)] → W p l e (headSpec (Cond.code yX2_fewestCuts cX2_fewestCuts 3 (some .int) :: sg_tbl) ({ frames := 6, cells := 0, slots := 0, locals := 144 })).room s m #[.ref a0] below meth c H locs 0 0 (MQ below (va_Qi (fun r (_ : Unit) => (fun r : Int32 => True) r) (fun _ => sgB (KT P) D vwCl base tys ad ks) (fun q : Nat => base ≤ q)) #[.ref a0] s 0 0 (fun q : Nat => base ≤ q)) (F0 m 16 ls []) := by
    intro H locs ls hG hS hl
    refine lv_iconst (v := 0) X.1 X.2.1 dX2_fewestCuts_16 (by decide +kernel) ?_
    refine lv_istore_n (lv' := [(1, .int 0), (0, .ref a0)]) X.1 X.2.1 dX2_fewestCuts_17 rfl hl (by decide) rfl (fun ls hl => ?_)
    refine lv_iconst (v := 0) X.1 X.2.1 dX2_fewestCuts_18 (by decide +kernel) ?_
    refine lv_istore_n (lv' := [(2, .int 0), (1, .int 0), (0, .ref a0)]) X.1 X.2.1 dX2_fewestCuts_19 rfl hl (by decide) rfl (fun ls hl => ?_)
    have B3_20 : ∀ (N : Nat) (H : Heap) (locs : List Loc) (ls : Array Slot) (z3_1 : Int32) (z3_2 : Int32), sgG (KT P) D vwCl (fun q : Nat => base ≤ q) tys ad ks H → va_S (fun q : Nat => base ≤ q) s.heap H locs → lv_has ls 3 [(0, .ref a0), (1, .int z3_1), (2, .int z3_2)] → iv 0 30 z3_2 → (31 - z3_2.toInt).toNat ≤ N → W p l e (headSpec (Cond.code yX2_fewestCuts cX2_fewestCuts 3 (some .int) :: sg_tbl) ({ frames := 6, cells := 0, slots := 0, locals := 144 })).room s m #[.ref a0] below meth c H locs 0 0 (MQ below (va_Qi (fun r (_ : Unit) => (fun r : Int32 => True) r) (fun _ => sgB (KT P) D vwCl base tys ad ks) (fun q : Nat => base ≤ q)) #[.ref a0] s 0 0 (fun q : Nat => base ≤ q)) (F0 m 20 ls []) := by
      intro N; induction N with
      | zero =>
        intro H locs ls z3_1 z3_2 hG hS hl hz3_2 hN
        exact absurd hN (by have := iv_up hz3_2; omega)
      | succ N ih3 =>
        intro H locs ls z3_1 z3_2 hG hS hl hz3_2 hN3
        refine lv_iload_n X.1 X.2.1 dX2_fewestCuts_20 rfl (lv_at hl 2 rfl) ?_
        refine lv_aload_n X.1 X.2.1 dX2_fewestCuts_21 rfl (lv_at hl 0 rfl) ?_
        refine gf_X2_6 X hK hG h0 wl_2_151 dX2_fewestCuts_22 (fun f4 hf4 kf4 => ?_)
        refine lv_icmp_ge (tgt := 42) X.1 X.2.1 dX2_fewestCuts_25 (by decide) (fun c5 => ?_) (fun c5 => ?_)
        · refine lv_iload_n X.1 X.2.1 dX2_fewestCuts_42 rfl (lv_at hl 1 rfl) ?_
          exact sg_iret X hr hlk hb hK hC hG hS trivial dX2_fewestCuts_43
        · refine lv_iload_n X.1 X.2.1 dX2_fewestCuts_28 rfl (lv_at hl 1 rfl) ?_
          refine lv_aload_n X.1 X.2.1 dX2_fewestCuts_29 rfl (lv_at hl 0 rfl) ?_
          refine lv_iload_n X.1 X.2.1 dX2_fewestCuts_30 rfl (lv_at hl 2 rfl) ?_
          refine ca_X2_fewestIn_1 X hK hG hC hS hb hp2 a0 h0 z3_2 (iv_lt (b' := 29) (iv_gt_of c5) hz3_2 hf4 (by decide +kernel)) wl_5_208 hl.1 (rest := [.int z3_1]) rfl (Nat.le_of_ble_eq_true rfl) ⟨Nat.le_of_ble_eq_true rfl, Nat.le_of_ble_eq_true rfl⟩ ⟨Nat.le_of_ble_eq_true rfl, Nat.le_of_ble_eq_true rfl⟩ dX2_fewestCuts_31 (fun f6 H locs hf6 hG hS => ?_)
          refine lv_iadd X.1 X.2.1 dX2_fewestCuts_34 ?_
          refine lv_topi (fun f7 ef7 => ?_)
          refine lv_istore_n (lv' := [(1, .int f7), (0, .ref a0), (2, .int z3_2)]) X.1 X.2.1 dX2_fewestCuts_35 rfl hl (by decide) rfl (fun ls hl => ?_)
          obtain ⟨y8, ey8⟩ : ∃ y : Int32, y = z3_2 + Int32.ofInt 1 := ⟨_, rfl⟩
          refine lv_iinc (v := y8) (lv' := [(2, .int y8), (1, .int f7), (0, .ref a0)]) X.1 X.2.1 dX2_fewestCuts_36 hl (k := 2) rfl ey8.symm (by decide) rfl (fun ls hl => ?_)
          refine lv_goto (tgt := 20) X.1 X.2.1 dX2_fewestCuts_39 (by decide) ?_
          exact ih3 H _ _ f7 y8 hG hS (lv_sub hl [2, 1, 0] rfl) (iv_of (iv_add (a' := 1) (b' := 30) ey8 (iv_lt (b' := 29) (iv_gt_of c5) hz3_2 hf4 (by decide +kernel)) (iv_c _ (a := 1) (b := 1) (by decide +kernel)) (by decide +kernel)) (a' := 0) (b' := 30) (by decide +kernel)) (iv_stepU ey8 (iv_lt (b' := 29) (iv_gt_of c5) hz3_2 hf4 (by decide +kernel)) (by decide +kernel) hN3)
    exact B3_20 _ H _ _ 0 0 hG hS (lv_sub hl [2, 1, 0] rfl) (iv_of (iv_c 0 (a := 0) (b := 0) (by decide +kernel)) (a' := 0) (b' := 30) (by decide +kernel)) (Nat.le_refl _)
  refine lv_ifnonnull (tgt := 16) X.1 X.2.1 dX2_fewestCuts_4 (by decide) ?_
  exact B2_16 s.heap _ _ hG hS (lv_sub hl [0] rfl)

theorem ca_X2_fewestCuts_1   (X : CallFix p m c cc nL s args sg_tbl own) (hK : va_K D vwCl tys s) (hG : sgG (KT P) D vwCl (fun q : Nat => base ≤ q) tys ad ks H) (hC : sgC base s) (hS : va_S (fun q : Nat => base ≤ q) s.heap H locs) (hb : base ≤ s.heap.size) (hp2 : P.2.2.1 = true) (a0 : Nat) (h0 : isK ad ks 2 a0) (hl : Cond.methodLink own index yX2_fewestCuts ∈ sg_tbl) (hsize : ls.size = nL) (hst : st0 = [].reverse ++ .ref a0 :: rest) (hW : (rest.map fun v => v.category).sum ≤ 8) (hR : 7 ≤ R.frames ∧ 166 ≤ R.locals) (hf : cells ≤ R.cells ∧ slots ≤ R.slots) (hdg : decode cc pc = .ok (.invokevirtual index, 3)) (kk : ∀ (r : Int32) (H1 : Heap) (locs1 : List Loc), (fun r : Int32 => True) r → sgG (KT P) D vwCl (fun q : Nat => base ≤ q) tys ad ks H1 → va_S (fun q : Nat => base ≤ q) s.heap H1 locs1 → W p l e R s m args below meth c H1 locs1 cells slots Q (F0 m (pc + 3) ls (.int r :: rest))) : W p l e R s m args below meth c H locs cells slots Q (F0 m pc ls st0) :=
  sg_callVi X hK hG hC hS hb (m_X2_fewestCuts_1 l hp2 a0 h0) h0 (k := 2) (ci := 2) rfl (C := RX2) (T := TX2) (N := 10) rfl wl_5_207 wl_1_11 wl_5_205 wl_5_206 (n := 0) (by decide +kernel) rfl rfl rfl hl hsize hst hW hR hf hdg kk

set_option maxHeartbeats 8000000 in
set_option maxRecDepth 100000 in
theorem m_X11_fewest_1 (l : Launch) {D : va_G} {base : Nat} {tys : List (ClassId × FieldType)} {ad ks : List Nat} {P : sgPm} (hp2 : P.2.2.1 = true) (a0 : Nat) (h0 : isK ad ks 11 a0) : sgMi l (KT P) D vwCl base tys ad ks yX11_fewest cX11_fewest 1 (some .int) ({ frames := 7, cells := 0, slots := 0, locals := 166 }) [.ref a0] (fun r : Int32 => True) := by
  refine sg_ofW (by decide +kernel) (Nat.le_of_ble_eq_true rfl) (fun p e s m below meth c X hr hlk hb hK hC hG ls hl => ?_)
  have hS : va_S (fun q : Nat => base ≤ q) s.heap s.heap [] := va_S.rf
  have hl : lv_has ls 1 [(0, .ref a0)] := hl
  refine lv_aload_n X.1 X.2.1 dX11_fewest_0 rfl (lv_at hl 0 rfl) ?_
  refine ca_X11_noLawn X hK hG hC (fun _ h => h) hS hb a0 h0 wl_4_74 hl.1 (rest := []) rfl (Nat.le_of_ble_eq_true rfl) ⟨Nat.le_of_ble_eq_true rfl, Nat.le_of_ble_eq_true rfl⟩ ⟨Nat.le_of_ble_eq_true rfl, Nat.le_of_ble_eq_true rfl⟩ dX11_fewest_1 (fun f1 locs hf1 hS => ?_)
  refine lv_if_eq (tgt := 9) X.1 X.2.1 dX11_fewest_4 (by decide) (fun c2 => ?_) (fun c2 => ?_)
  · refine lv_aload_n X.1 X.2.1 dX11_fewest_9 rfl (lv_at hl 0 rfl) ?_
    refine gf_X11_8 X hK hG h0 wl_2_203 dX11_fewest_10 (fun q3 hq3 kq3 => ?_)
    refine lv_aload_n X.1 X.2.1 dX11_fewest_13 rfl (lv_at hl 0 rfl) ?_
    refine gf_X11_3 X hK hG h0 wl_2_198 dX11_fewest_14 (fun q4 hq4 kq4 => ?_)
    refine gf_X9_0 X hK hG hq4 wl_1_118 dX11_fewest_17 (fun f5 hf5 kf5 => ?_)
    refine ca_X2_findParts X hK hG hC hS hb q3 hq3 f5 hf5 wl_5_136 hl.1 (rest := []) rfl (Nat.le_of_ble_eq_true rfl) ⟨Nat.le_of_ble_eq_true rfl, Nat.le_of_ble_eq_true rfl⟩ ⟨Nat.le_of_ble_eq_true rfl, Nat.le_of_ble_eq_true rfl⟩ dX11_fewest_20 (fun H locs hG hS => ?_)
    refine lv_aload_n X.1 X.2.1 dX11_fewest_23 rfl (lv_at hl 0 rfl) ?_
    refine gf_X11_8 X hK hG h0 wl_2_203 dX11_fewest_24 (fun q7 hq7 kq7 => ?_)
    refine ca_X2_allSmall X hK hG hC (fun _ h => h) hS hb q7 hq7 wl_5_187 hl.1 (rest := []) rfl (Nat.le_of_ble_eq_true rfl) ⟨Nat.le_of_ble_eq_true rfl, Nat.le_of_ble_eq_true rfl⟩ ⟨Nat.le_of_ble_eq_true rfl, Nat.le_of_ble_eq_true rfl⟩ dX11_fewest_27 (fun f8 locs hf8 hS => ?_)
    refine lv_if_eq (tgt := 43) X.1 X.2.1 dX11_fewest_30 (by decide) (fun c9 => ?_) (fun c9 => ?_)
    · refine lv_ldcw X.1 X.2.1 X.2.2.2.1 (X.2.2.2.2 _ wl_5_9) dX11_fewest_43 ?_
      exact sg_iret X hr hlk hb hK hC hG hS trivial dX11_fewest_46
    · refine lv_aload_n X.1 X.2.1 dX11_fewest_33 rfl (lv_at hl 0 rfl) ?_
      refine gg_X11_8 X hK hG h0 wl_2_203 kq7 dX11_fewest_34 ?_
      refine ca_X2_fewestCuts_1 X hK hG hC hS hb hp2 q7 hq7 wl_5_204 hl.1 (rest := []) rfl (Nat.le_of_ble_eq_true rfl) ⟨Nat.le_of_ble_eq_true rfl, Nat.le_of_ble_eq_true rfl⟩ ⟨Nat.le_of_ble_eq_true rfl, Nat.le_of_ble_eq_true rfl⟩ dX11_fewest_37 (fun f10 H locs hf10 hG hS => ?_)
      refine lv_goto (tgt := 46) X.1 X.2.1 dX11_fewest_40 (by decide) ?_
      exact sg_iret X hr hlk hb hK hC hG hS trivial dX11_fewest_46
  · refine lv_iconst (v := (-1)) X.1 X.2.1 dX11_fewest_7 (by decide +kernel) ?_
    exact sg_iret X hr hlk hb hK hC hG hS trivial dX11_fewest_8

theorem ca_X11_fewest_1   (X : CallFix p m c cc nL s args sg_tbl own) (hK : va_K D vwCl tys s) (hG : sgG (KT P) D vwCl (fun q : Nat => base ≤ q) tys ad ks H) (hC : sgC base s) (hS : va_S (fun q : Nat => base ≤ q) s.heap H locs) (hb : base ≤ s.heap.size) (hp2 : P.2.2.1 = true) (a0 : Nat) (h0 : isK ad ks 11 a0) (hl : Cond.methodLink own index yX11_fewest ∈ sg_tbl) (hsize : ls.size = nL) (hst : st0 = [].reverse ++ .ref a0 :: rest) (hW : (rest.map fun v => v.category).sum ≤ 8) (hR : 8 ≤ R.frames ∧ 186 ≤ R.locals) (hf : cells ≤ R.cells ∧ slots ≤ R.slots) (hdg : decode cc pc = .ok (.invokevirtual index, 3)) (kk : ∀ (r : Int32) (H1 : Heap) (locs1 : List Loc), (fun r : Int32 => True) r → sgG (KT P) D vwCl (fun q : Nat => base ≤ q) tys ad ks H1 → va_S (fun q : Nat => base ≤ q) s.heap H1 locs1 → W p l e R s m args below meth c H1 locs1 cells slots Q (F0 m (pc + 3) ls (.int r :: rest))) : W p l e R s m args below meth c H locs cells slots Q (F0 m pc ls st0) :=
  sg_callVi X hK hG hC hS hb (m_X11_fewest_1 l hp2 a0 h0) h0 (k := 11) (ci := 11) rfl (C := RX11) (T := TX11) (N := 17) rfl wl_5_203 wl_1_1 wl_5_201 wl_5_202 (n := 0) (by decide +kernel) rfl rfl rfl hl hsize hst hW hR hf hdg kk

set_option maxHeartbeats 8000000 in
set_option maxRecDepth 100000 in
theorem m_X2_fewestCuts_0 (l : Launch) {D : va_G} {base : Nat} {tys : List (ClassId × FieldType)} {ad ks : List Nat} {P : sgPm} (hp2 : P.2.2.1 = false) (a0 : Nat) (h0 : isK ad ks 2 a0) : Met l yX2_fewestCuts (Cond.code yX2_fewestCuts cX2_fewestCuts 3 (some .int) :: sg_tbl) ({ frames := 6, cells := 1, slots := 4096, locals := 144 }) (va_Pc [.ref a0] (sgB (KT P) D vwCl base tys ad ks)) (va_Qi (fun r (u : Int32) => u = r ∧ (fun r : Int32 => True) r) (fun u t => ∃ (tys2 : List (ClassId × FieldType)) (ad2 ks2 : List Nat), sgMo ad ks ad2 ks2 ∧ sgB (KT (P.1, P.2.1, true, P.2.2.2)) D vwCl base tys2 ad2 ks2 t) (fun q : Nat => base ≤ q)) 1 4096 (fun q : Nat => base ≤ q) := by
  refine sg_ofN (by decide +kernel) (Nat.le_of_ble_eq_true rfl) (fun p e s m below meth c X hr hlk hb hK hC hG ls hl => ?_)
  have hS : va_S (fun q : Nat => base ≤ q) s.heap s.heap [] := va_S.rf
  have hl : lv_has ls 3 [(0, .ref a0)] := hl
  refine lv_aload_n X.1 X.2.1 dX2_fewestCuts_0 rfl (lv_at hl 0 rfl) ?_
  refine gf_X2_5n X hK hG h0 hp2 wl_2_150 dX2_fewestCuts_1 (fun ku1 => ?_)
  refine lv_ifnonnullN X.1 X.2.1 dX2_fewestCuts_4 ?_
  refine lv_aload_n X.1 X.2.1 dX2_fewestCuts_7 rfl (lv_at hl 0 rfl) ?_
  refine lv_sipush (v := 4096) X.1 X.2.1 dX2_fewestCuts_8 (by decide +kernel) ?_
  refine sg_newi X hK hG hS hb (k := 19) rfl (fun _ _ _ => ⟨_, rfl, iv_top _⟩) (by decide) wl_1_56 (by decide +kernel) (by decide +kernel) (by decide +kernel) (Nat.le_of_ble_eq_true rfl) (Nat.le_of_ble_eq_true rfl) dX2_fewestCuts_11 (fun q2 tys1 ad1 ks1 H hmo hq2 hK hG hS => ?_)
  have oa0 := hmo _ _ h0
  refine pf_X2_5xs X hK hG hS oa0 wl_2_150 (Or.inr ⟨_, rfl, hq2⟩) dX2_fewestCuts_13 (fun H locs hG hS => ?_)
  refine lv_iconst (v := 0) X.1 X.2.1 dX2_fewestCuts_16 (by decide +kernel) ?_
  refine lv_istore_n (lv' := [(1, .int 0), (0, .ref a0)]) X.1 X.2.1 dX2_fewestCuts_17 rfl hl (by decide) rfl (fun ls hl => ?_)
  refine lv_iconst (v := 0) X.1 X.2.1 dX2_fewestCuts_18 (by decide +kernel) ?_
  refine lv_istore_n (lv' := [(2, .int 0), (1, .int 0), (0, .ref a0)]) X.1 X.2.1 dX2_fewestCuts_19 rfl hl (by decide) rfl (fun ls hl => ?_)
  have B3_20 : ∀ (N : Nat) (H : Heap) (locs : List Loc) (ls : Array Slot) (z3_1 : Int32) (z3_2 : Int32), sgG (KT (P.1, P.2.1, true, P.2.2.2)) D vwCl (fun q : Nat => base ≤ q) tys1 ad1 ks1 H → va_S (fun q : Nat => base ≤ q) s.heap H locs → lv_has ls 3 [(0, .ref a0), (1, .int z3_1), (2, .int z3_2)] → iv 0 30 z3_2 → (31 - z3_2.toInt).toNat ≤ N → W p l e (headSpec (Cond.code yX2_fewestCuts cX2_fewestCuts 3 (some .int) :: sg_tbl) ({ frames := 6, cells := 1, slots := 4096, locals := 144 })).room s m #[.ref a0] below meth c H locs 1 4096 (MQ below (va_Qi (fun r (u : Int32) => u = r ∧ (fun r : Int32 => True) r) (fun u t => ∃ (tys2 : List (ClassId × FieldType)) (ad2 ks2 : List Nat), sgMo ad ks ad2 ks2 ∧ sgB (KT (P.1, P.2.1, true, P.2.2.2)) D vwCl base tys2 ad2 ks2 t) (fun q : Nat => base ≤ q)) #[.ref a0] s 1 4096 (fun q : Nat => base ≤ q)) (F0 m 20 ls []) := by
    intro N; induction N with
    | zero =>
      intro H locs ls z3_1 z3_2 hG hS hl hz3_2 hN
      exact absurd hN (by have := iv_up hz3_2; omega)
    | succ N ih3 =>
      intro H locs ls z3_1 z3_2 hG hS hl hz3_2 hN3
      refine lv_iload_n X.1 X.2.1 dX2_fewestCuts_20 rfl (lv_at hl 2 rfl) ?_
      refine lv_aload_n X.1 X.2.1 dX2_fewestCuts_21 rfl (lv_at hl 0 rfl) ?_
      refine gf_X2_6 X hK hG oa0 wl_2_151 dX2_fewestCuts_22 (fun f4 hf4 kf4 => ?_)
      refine lv_icmp_ge (tgt := 42) X.1 X.2.1 dX2_fewestCuts_25 (by decide) (fun c5 => ?_) (fun c5 => ?_)
      · refine lv_iload_n X.1 X.2.1 dX2_fewestCuts_42 rfl (lv_at hl 1 rfl) ?_
        exact sg_iretN X hr hlk hS trivial (fun t ht hW => ⟨_, _, _, hmo, sg_post hb hK hC hG hS ht hW⟩) dX2_fewestCuts_43
      · refine lv_iload_n X.1 X.2.1 dX2_fewestCuts_28 rfl (lv_at hl 1 rfl) ?_
        refine lv_aload_n X.1 X.2.1 dX2_fewestCuts_29 rfl (lv_at hl 0 rfl) ?_
        refine lv_iload_n X.1 X.2.1 dX2_fewestCuts_30 rfl (lv_at hl 2 rfl) ?_
        refine ca_X2_fewestIn_1 X hK hG hC hS hb rfl a0 oa0 z3_2 (iv_lt (b' := 29) (iv_gt_of c5) hz3_2 hf4 (by decide +kernel)) wl_5_208 hl.1 (rest := [.int z3_1]) rfl (Nat.le_of_ble_eq_true rfl) ⟨Nat.le_of_ble_eq_true rfl, Nat.le_of_ble_eq_true rfl⟩ ⟨Nat.le_of_ble_eq_true rfl, Nat.le_of_ble_eq_true rfl⟩ dX2_fewestCuts_31 (fun f6 H locs hf6 hG hS => ?_)
        refine lv_iadd X.1 X.2.1 dX2_fewestCuts_34 ?_
        refine lv_topi (fun f7 ef7 => ?_)
        refine lv_istore_n (lv' := [(1, .int f7), (0, .ref a0), (2, .int z3_2)]) X.1 X.2.1 dX2_fewestCuts_35 rfl hl (by decide) rfl (fun ls hl => ?_)
        obtain ⟨y8, ey8⟩ : ∃ y : Int32, y = z3_2 + Int32.ofInt 1 := ⟨_, rfl⟩
        refine lv_iinc (v := y8) (lv' := [(2, .int y8), (1, .int f7), (0, .ref a0)]) X.1 X.2.1 dX2_fewestCuts_36 hl (k := 2) rfl ey8.symm (by decide) rfl (fun ls hl => ?_)
        refine lv_goto (tgt := 20) X.1 X.2.1 dX2_fewestCuts_39 (by decide) ?_
        exact ih3 H _ _ f7 y8 hG hS (lv_sub hl [2, 1, 0] rfl) (iv_of (iv_add (a' := 1) (b' := 30) ey8 (iv_lt (b' := 29) (iv_gt_of c5) hz3_2 hf4 (by decide +kernel)) (iv_c _ (a := 1) (b := 1) (by decide +kernel)) (by decide +kernel)) (a' := 0) (b' := 30) (by decide +kernel)) (iv_stepU ey8 (iv_lt (b' := 29) (iv_gt_of c5) hz3_2 hf4 (by decide +kernel)) (by decide +kernel) hN3)
  exact B3_20 _ H _ _ 0 0 hG hS (lv_sub hl [2, 1, 0] rfl) (iv_of (iv_c 0 (a := 0) (b := 0) (by decide +kernel)) (a' := 0) (b' := 30) (by decide +kernel)) (Nat.le_refl _)

theorem ca_X2_fewestCuts_0   (X : CallFix p m c cc nL s args sg_tbl own) (hK : va_K D vwCl tys s) (hG : sgG (KT P) D vwCl (fun q : Nat => base ≤ q) tys ad ks H) (hC : sgC base s) (hS : va_S (fun q : Nat => base ≤ q) s.heap H locs) (hb : base ≤ s.heap.size) (hp2 : P.2.2.1 = false) (a0 : Nat) (h0 : isK ad ks 2 a0) (hl : Cond.methodLink own index yX2_fewestCuts ∈ sg_tbl) (hsize : ls.size = nL) (hst : st0 = [].reverse ++ .ref a0 :: rest) (hW : (rest.map fun v => v.category).sum ≤ 8) (hR : 7 ≤ R.frames ∧ 166 ≤ R.locals) (hf : cells + 1 ≤ R.cells ∧ slots + 4096 ≤ R.slots) (hdg : decode cc pc = .ok (.invokevirtual index, 3)) (kk : ∀ (r : Int32) (t : State) (H1 : Heap) (locs1 : List Loc), s.vm.Alike t.vm → t.heap = H1 → (fun r : Int32 => True) r → (∃ (tys2 : List (ClassId × FieldType)) (ad2 ks2 : List Nat), sgMo ad ks ad2 ks2 ∧ sgB (KT (P.1, P.2.1, true, P.2.2.2)) D vwCl base tys2 ad2 ks2 t) → va_S (fun q : Nat => base ≤ q) s.heap H1 locs1 → W p l e R s m args below meth c H1 locs1 (cells + 1) (slots + 4096) Q (F0 m (pc + 3) ls (.int r :: rest))) : W p l e R s m args below meth c H locs cells slots Q (F0 m pc ls st0) :=
  sg_callNi X hK hG hC hS hb (m_X2_fewestCuts_0 l hp2 a0 h0) h0 (k := 2) (ci := 2) rfl (C := RX2) (T := TX2) (N := 10) rfl wl_5_207 wl_1_11 wl_5_205 wl_5_206 (n := 0) (by decide +kernel) rfl rfl rfl hl hsize hst hW hR hf hdg kk

set_option maxHeartbeats 8000000 in
set_option maxRecDepth 100000 in
theorem m_X11_fewest_0 (l : Launch) {D : va_G} {base : Nat} {tys : List (ClassId × FieldType)} {ad ks : List Nat} {P : sgPm} (hp2 : P.2.2.1 = false) (a0 : Nat) (h0 : isK ad ks 11 a0) : Met l yX11_fewest (Cond.code yX11_fewest cX11_fewest 1 (some .int) :: sg_tbl) ({ frames := 7, cells := 1, slots := 4096, locals := 166 }) (va_Pc [.ref a0] (sgB (KT P) D vwCl base tys ad ks)) (va_Qi (fun r (u : Int32) => u = r ∧ (fun r : Int32 => True) r) (fun u t => ∃ (b : Bool) (tys2 : List (ClassId × FieldType)) (ad2 ks2 : List Nat), sgMo ad ks ad2 ks2 ∧ sgB (KT (P.1, P.2.1, b, P.2.2.2)) D vwCl base tys2 ad2 ks2 t) (fun q : Nat => base ≤ q)) 1 4096 (fun q : Nat => base ≤ q) := by
  refine sg_ofN (by decide +kernel) (Nat.le_of_ble_eq_true rfl) (fun p e s m below meth c X hr hlk hb hK hC hG ls hl => ?_)
  have hS : va_S (fun q : Nat => base ≤ q) s.heap s.heap [] := va_S.rf
  have hl : lv_has ls 1 [(0, .ref a0)] := hl
  refine lv_aload_n X.1 X.2.1 dX11_fewest_0 rfl (lv_at hl 0 rfl) ?_
  refine ca_X11_noLawn X hK hG hC (fun _ h => h) hS hb a0 h0 wl_4_74 hl.1 (rest := []) rfl (Nat.le_of_ble_eq_true rfl) ⟨Nat.le_of_ble_eq_true rfl, Nat.le_of_ble_eq_true rfl⟩ ⟨Nat.le_of_ble_eq_true rfl, Nat.le_of_ble_eq_true rfl⟩ dX11_fewest_1 (fun f1 locs hf1 hS => ?_)
  refine lv_if_eq (tgt := 9) X.1 X.2.1 dX11_fewest_4 (by decide) (fun c2 => ?_) (fun c2 => ?_)
  · refine lv_aload_n X.1 X.2.1 dX11_fewest_9 rfl (lv_at hl 0 rfl) ?_
    refine gf_X11_8 X hK hG h0 wl_2_203 dX11_fewest_10 (fun q3 hq3 kq3 => ?_)
    refine lv_aload_n X.1 X.2.1 dX11_fewest_13 rfl (lv_at hl 0 rfl) ?_
    refine gf_X11_3 X hK hG h0 wl_2_198 dX11_fewest_14 (fun q4 hq4 kq4 => ?_)
    refine gf_X9_0 X hK hG hq4 wl_1_118 dX11_fewest_17 (fun f5 hf5 kf5 => ?_)
    refine ca_X2_findParts X hK hG hC hS hb q3 hq3 f5 hf5 wl_5_136 hl.1 (rest := []) rfl (Nat.le_of_ble_eq_true rfl) ⟨Nat.le_of_ble_eq_true rfl, Nat.le_of_ble_eq_true rfl⟩ ⟨Nat.le_of_ble_eq_true rfl, Nat.le_of_ble_eq_true rfl⟩ dX11_fewest_20 (fun H locs hG hS => ?_)
    refine lv_aload_n X.1 X.2.1 dX11_fewest_23 rfl (lv_at hl 0 rfl) ?_
    refine gf_X11_8 X hK hG h0 wl_2_203 dX11_fewest_24 (fun q7 hq7 kq7 => ?_)
    refine ca_X2_allSmall X hK hG hC (fun _ h => h) hS hb q7 hq7 wl_5_187 hl.1 (rest := []) rfl (Nat.le_of_ble_eq_true rfl) ⟨Nat.le_of_ble_eq_true rfl, Nat.le_of_ble_eq_true rfl⟩ ⟨Nat.le_of_ble_eq_true rfl, Nat.le_of_ble_eq_true rfl⟩ dX11_fewest_27 (fun f8 locs hf8 hS => ?_)
    refine lv_if_eq (tgt := 43) X.1 X.2.1 dX11_fewest_30 (by decide) (fun c9 => ?_) (fun c9 => ?_)
    · refine lv_ldcw X.1 X.2.1 X.2.2.2.1 (X.2.2.2.2 _ wl_5_9) dX11_fewest_43 ?_
      have hG := sg_fewF hp2 hG
      refine W.widen (k := 1) (n := 4096) (Nat.le_of_ble_eq_true rfl) (Nat.le_of_ble_eq_true rfl) ?_
      exact sg_iretN X hr hlk hS trivial (fun t ht hW => ⟨false, _, _, _, sgMo.rf _ _, sg_post hb hK hC hG hS ht hW⟩) dX11_fewest_46
    · refine lv_aload_n X.1 X.2.1 dX11_fewest_33 rfl (lv_at hl 0 rfl) ?_
      refine gg_X11_8 X hK hG h0 wl_2_203 kq7 dX11_fewest_34 ?_
      refine ca_X2_fewestCuts_0 X hK hG hC hS hb hp2 q7 hq7 wl_5_204 hl.1 (rest := []) rfl (Nat.le_of_ble_eq_true rfl) ⟨Nat.le_of_ble_eq_true rfl, Nat.le_of_ble_eq_true rfl⟩ ⟨Nat.le_of_ble_eq_true rfl, Nat.le_of_ble_eq_true rfl⟩ dX11_fewest_37 (fun f10 tf10 H locs hvm htf10 hf10 hWf10 hS => ?_)
      obtain ⟨tys1, ad1, ks1, hmo, hBf10⟩ := hWf10
      have hK := sg_hKb hvm hBf10
      have hG := hBf10.2.2.2
      rw [htf10] at hG
      have oa0 := hmo _ _ h0
      refine lv_goto (tgt := 46) X.1 X.2.1 dX11_fewest_40 (by decide) ?_
      exact sg_iretN X hr hlk hS trivial (fun t ht hW => ⟨_, _, _, _, hmo, sg_post hb hK hC hG hS ht hW⟩) dX11_fewest_46
  · refine lv_iconst (v := (-1)) X.1 X.2.1 dX11_fewest_7 (by decide +kernel) ?_
    have hG := sg_fewF hp2 hG
    refine W.widen (k := 1) (n := 4096) (Nat.le_of_ble_eq_true rfl) (Nat.le_of_ble_eq_true rfl) ?_
    exact sg_iretN X hr hlk hS trivial (fun t ht hW => ⟨false, _, _, _, sgMo.rf _ _, sg_post hb hK hC hG hS ht hW⟩) dX11_fewest_8

theorem ca_X11_fewest_0   (X : CallFix p m c cc nL s args sg_tbl own) (hK : va_K D vwCl tys s) (hG : sgG (KT P) D vwCl (fun q : Nat => base ≤ q) tys ad ks H) (hC : sgC base s) (hS : va_S (fun q : Nat => base ≤ q) s.heap H locs) (hb : base ≤ s.heap.size) (hp2 : P.2.2.1 = false) (a0 : Nat) (h0 : isK ad ks 11 a0) (hl : Cond.methodLink own index yX11_fewest ∈ sg_tbl) (hsize : ls.size = nL) (hst : st0 = [].reverse ++ .ref a0 :: rest) (hW : (rest.map fun v => v.category).sum ≤ 8) (hR : 8 ≤ R.frames ∧ 186 ≤ R.locals) (hf : cells + 1 ≤ R.cells ∧ slots + 4096 ≤ R.slots) (hdg : decode cc pc = .ok (.invokevirtual index, 3)) (kk : ∀ (r : Int32) (t : State) (H1 : Heap) (locs1 : List Loc), s.vm.Alike t.vm → t.heap = H1 → (fun r : Int32 => True) r → (∃ (b : Bool) (tys2 : List (ClassId × FieldType)) (ad2 ks2 : List Nat), sgMo ad ks ad2 ks2 ∧ sgB (KT (P.1, P.2.1, b, P.2.2.2)) D vwCl base tys2 ad2 ks2 t) → va_S (fun q : Nat => base ≤ q) s.heap H1 locs1 → W p l e R s m args below meth c H1 locs1 (cells + 1) (slots + 4096) Q (F0 m (pc + 3) ls (.int r :: rest))) : W p l e R s m args below meth c H locs cells slots Q (F0 m pc ls st0) :=
  sg_callNi X hK hG hC hS hb (m_X11_fewest_0 l hp2 a0 h0) h0 (k := 11) (ci := 11) rfl (C := RX11) (T := TX11) (N := 17) rfl wl_5_203 wl_1_1 wl_5_201 wl_5_202 (n := 0) (by decide +kernel) rfl rfl rfl hl hsize hst hW hR hf hdg kk
end
