abbrev cX12_back : ByteArray := prog_14_method_127_code
def yX12_back : MethodName := ⟨RX12, "back", "()I"⟩
abbrev cX12_canCut : ByteArray := prog_14_method_62_code
def yX12_canCut : MethodName := ⟨RX12, "canCut", "([IIII)Z"⟩
abbrev cX12_canDig : ByteArray := prog_14_method_67_code
def yX12_canDig : MethodName := ⟨RX12, "canDig", "([II)Z"⟩
abbrev cX12_image : ByteArray := prog_14_method_126_code
def yX12_image : MethodName := ⟨RX12, "image", "()I"⟩
abbrev cX12_law : ByteArray := prog_14_method_53_code
def yX12_law : MethodName := ⟨RX12, "law", "(I)Z"⟩
theorem dX12_back_0 : decode cX12_back 0 = .ok (.aload_n 0, 1) := by decide +kernel
theorem dX12_back_1 : decode cX12_back 1 = .ok (.iconst 0, 1) := by decide +kernel
theorem dX12_back_2 : decode cX12_back 2 = .ok (.putfield 94, 3) := by decide +kernel
theorem dX12_back_5 : decode cX12_back 5 = .ok (.aload_n 0, 1) := by decide +kernel
theorem dX12_back_6 : decode cX12_back 6 = .ok (.getfield 314, 3) := by decide +kernel
theorem dX12_back_9 : decode cX12_back 9 = .ok (.ifCond .ne 5, 3) := by decide +kernel
theorem dX12_back_12 : decode cX12_back 12 = .ok (.iconst (-1), 1) := by decide +kernel
theorem dX12_back_13 : decode cX12_back 13 = .ok (.ireturn, 1) := by decide +kernel
theorem dX12_back_14 : decode cX12_back 14 = .ok (.aload_n 0, 1) := by decide +kernel
theorem dX12_back_15 : decode cX12_back 15 = .ok (.getfield 91, 3) := by decide +kernel
theorem dX12_back_18 : decode cX12_back 18 = .ok (.aload_n 0, 1) := by decide +kernel
theorem dX12_back_19 : decode cX12_back 19 = .ok (.getfield 52, 3) := by decide +kernel
theorem dX12_back_22 : decode cX12_back 22 = .ok (.invokestatic 449, 3) := by decide +kernel
theorem dX12_back_25 : decode cX12_back 25 = .ok (.aload_n 0, 1) := by decide +kernel
theorem dX12_back_26 : decode cX12_back 26 = .ok (.iconst 0, 1) := by decide +kernel
theorem dX12_back_27 : decode cX12_back 27 = .ok (.putfield 311, 3) := by decide +kernel
theorem dX12_back_30 : decode cX12_back 30 = .ok (.aload_n 0, 1) := by decide +kernel
theorem dX12_back_31 : decode cX12_back 31 = .ok (.getfield 52, 3) := by decide +kernel
theorem dX12_back_34 : decode cX12_back 34 = .ok (.iconst 4, 1) := by decide +kernel
theorem dX12_back_35 : decode cX12_back 35 = .ok (.iaload, 1) := by decide +kernel
theorem dX12_back_36 : decode cX12_back 36 = .ok (.ireturn, 1) := by decide +kernel
theorem dX12_canCut_0 : decode cX12_canCut 0 = .ok (.aload_n 0, 1) := by decide +kernel
theorem dX12_canCut_1 : decode cX12_canCut 1 = .ok (.aload_n 1, 1) := by decide +kernel
theorem dX12_canCut_2 : decode cX12_canCut 2 = .ok (.invokevirtual 363, 3) := by decide +kernel
theorem dX12_canCut_5 : decode cX12_canCut 5 = .ok (.ifCond .eq 29, 3) := by decide +kernel
theorem dX12_canCut_8 : decode cX12_canCut 8 = .ok (.aload_n 1, 1) := by decide +kernel
theorem dX12_canCut_9 : decode cX12_canCut 9 = .ok (.iconst 2, 1) := by decide +kernel
theorem dX12_canCut_10 : decode cX12_canCut 10 = .ok (.iaload, 1) := by decide +kernel
theorem dX12_canCut_11 : decode cX12_canCut 11 = .ok (.iconst 1, 1) := by decide +kernel
theorem dX12_canCut_12 : decode cX12_canCut 12 = .ok (.if_icmp .ne 22, 3) := by decide +kernel
theorem dX12_canCut_15 : decode cX12_canCut 15 = .ok (.aload_n 0, 1) := by decide +kernel
theorem dX12_canCut_16 : decode cX12_canCut 16 = .ok (.aload_n 1, 1) := by decide +kernel
theorem dX12_canCut_17 : decode cX12_canCut 17 = .ok (.iconst 0, 1) := by decide +kernel
theorem dX12_canCut_18 : decode cX12_canCut 18 = .ok (.iaload, 1) := by decide +kernel
theorem dX12_canCut_19 : decode cX12_canCut 19 = .ok (.iload_n 2, 1) := by decide +kernel
theorem dX12_canCut_20 : decode cX12_canCut 20 = .ok (.iload_n 3, 1) := by decide +kernel
theorem dX12_canCut_21 : decode cX12_canCut 21 = .ok (.iload 4, 2) := by decide +kernel
theorem dX12_canCut_23 : decode cX12_canCut 23 = .ok (.invokevirtual 386, 3) := by decide +kernel
theorem dX12_canCut_26 : decode cX12_canCut 26 = .ok (.iconst (-1), 1) := by decide +kernel
theorem dX12_canCut_27 : decode cX12_canCut 27 = .ok (.if_icmp .eq 7, 3) := by decide +kernel
theorem dX12_canCut_30 : decode cX12_canCut 30 = .ok (.iconst 1, 1) := by decide +kernel
theorem dX12_canCut_31 : decode cX12_canCut 31 = .ok (.goto 4, 3) := by decide +kernel
theorem dX12_canCut_34 : decode cX12_canCut 34 = .ok (.iconst 0, 1) := by decide +kernel
theorem dX12_canCut_35 : decode cX12_canCut 35 = .ok (.ireturn, 1) := by decide +kernel
theorem dX12_canDig_0 : decode cX12_canDig 0 = .ok (.aload_n 0, 1) := by decide +kernel
theorem dX12_canDig_1 : decode cX12_canDig 1 = .ok (.aload_n 1, 1) := by decide +kernel
theorem dX12_canDig_2 : decode cX12_canDig 2 = .ok (.invokevirtual 363, 3) := by decide +kernel
theorem dX12_canDig_5 : decode cX12_canDig 5 = .ok (.ifCond .eq 30, 3) := by decide +kernel
theorem dX12_canDig_8 : decode cX12_canDig 8 = .ok (.aload_n 0, 1) := by decide +kernel
theorem dX12_canDig_9 : decode cX12_canDig 9 = .ok (.iload_n 2, 1) := by decide +kernel
theorem dX12_canDig_10 : decode cX12_canDig 10 = .ok (.invokevirtual 355, 3) := by decide +kernel
theorem dX12_canDig_13 : decode cX12_canDig 13 = .ok (.ifCond .eq 22, 3) := by decide +kernel
theorem dX12_canDig_16 : decode cX12_canDig 16 = .ok (.aload_n 0, 1) := by decide +kernel
theorem dX12_canDig_17 : decode cX12_canDig 17 = .ok (.getfield 305, 3) := by decide +kernel
theorem dX12_canDig_20 : decode cX12_canDig 20 = .ok (.aload_n 1, 1) := by decide +kernel
theorem dX12_canDig_21 : decode cX12_canDig 21 = .ok (.iconst 1, 1) := by decide +kernel
theorem dX12_canDig_22 : decode cX12_canDig 22 = .ok (.iaload, 1) := by decide +kernel
theorem dX12_canDig_23 : decode cX12_canDig 23 = .ok (.ior, 1) := by decide +kernel
theorem dX12_canDig_24 : decode cX12_canDig 24 = .ok (.iload_n 2, 1) := by decide +kernel
theorem dX12_canDig_25 : decode cX12_canDig 25 = .ok (.invokestatic 227, 3) := by decide +kernel
theorem dX12_canDig_28 : decode cX12_canDig 28 = .ok (.ifCond .ne 7, 3) := by decide +kernel
theorem dX12_canDig_31 : decode cX12_canDig 31 = .ok (.iconst 1, 1) := by decide +kernel
theorem dX12_canDig_32 : decode cX12_canDig 32 = .ok (.goto 4, 3) := by decide +kernel
theorem dX12_canDig_35 : decode cX12_canDig 35 = .ok (.iconst 0, 1) := by decide +kernel
theorem dX12_canDig_36 : decode cX12_canDig 36 = .ok (.ireturn, 1) := by decide +kernel
theorem dX12_image_0 : decode cX12_image 0 = .ok (.aload_n 0, 1) := by decide +kernel
theorem dX12_image_1 : decode cX12_image 1 = .ok (.iconst 0, 1) := by decide +kernel
theorem dX12_image_2 : decode cX12_image 2 = .ok (.putfield 94, 3) := by decide +kernel
theorem dX12_image_5 : decode cX12_image 5 = .ok (.aload_n 0, 1) := by decide +kernel
theorem dX12_image_6 : decode cX12_image 6 = .ok (.getfield 302, 3) := by decide +kernel
theorem dX12_image_9 : decode cX12_image 9 = .ok (.ifCond .ne 5, 3) := by decide +kernel
theorem dX12_image_14 : decode cX12_image 14 = .ok (.aload_n 0, 1) := by decide +kernel
theorem dX12_image_15 : decode cX12_image 15 = .ok (.getfield 52, 3) := by decide +kernel
theorem dX12_image_18 : decode cX12_image 18 = .ok (.aload_n 0, 1) := by decide +kernel
theorem dX12_image_19 : decode cX12_image 19 = .ok (.getfield 91, 3) := by decide +kernel
theorem dX12_image_22 : decode cX12_image 22 = .ok (.invokestatic 449, 3) := by decide +kernel
theorem dX12_image_25 : decode cX12_image 25 = .ok (.aload_n 0, 1) := by decide +kernel
theorem dX12_image_26 : decode cX12_image 26 = .ok (.iconst 1, 1) := by decide +kernel
theorem dX12_image_27 : decode cX12_image 27 = .ok (.putfield 314, 3) := by decide +kernel
theorem dX12_image_30 : decode cX12_image 30 = .ok (.aload_n 0, 1) := by decide +kernel
theorem dX12_image_31 : decode cX12_image 31 = .ok (.getfield 52, 3) := by decide +kernel
theorem dX12_image_34 : decode cX12_image 34 = .ok (.iconst 4, 1) := by decide +kernel
theorem dX12_image_35 : decode cX12_image 35 = .ok (.iaload, 1) := by decide +kernel
theorem dX12_image_36 : decode cX12_image 36 = .ok (.ireturn, 1) := by decide +kernel
theorem dX12_law_0 : decode cX12_law 0 = .ok (.aload_n 0, 1) := by decide +kernel
theorem dX12_law_1 : decode cX12_law 1 = .ok (.iconst 0, 1) := by decide +kernel
theorem dX12_law_2 : decode cX12_law 2 = .ok (.putfield 94, 3) := by decide +kernel
theorem dX12_law_5 : decode cX12_law 5 = .ok (.iload_n 1, 1) := by decide +kernel
theorem dX12_law_6 : decode cX12_law 6 = .ok (.iconst (-1), 1) := by decide +kernel
theorem dX12_law_7 : decode cX12_law 7 = .ok (.if_icmp .eq 21, 3) := by decide +kernel
theorem dX12_law_10 : decode cX12_law 10 = .ok (.iload_n 1, 1) := by decide +kernel
theorem dX12_law_11 : decode cX12_law 11 = .ok (.i2l, 1) := by decide +kernel
theorem dX12_law_12 : decode cX12_law 12 = .ok (.lconst 0, 1) := by decide +kernel
theorem dX12_law_13 : decode cX12_law 13 = .ok (.aload_n 0, 1) := by decide +kernel
theorem dX12_law_14 : decode cX12_law 14 = .ok (.getfield 294, 3) := by decide +kernel
theorem dX12_law_17 : decode cX12_law 17 = .ok (.iconst 1, 1) := by decide +kernel
theorem dX12_law_18 : decode cX12_law 18 = .ok (.isub, 1) := by decide +kernel
theorem dX12_law_19 : decode cX12_law 19 = .ok (.i2l, 1) := by decide +kernel
theorem dX12_law_20 : decode cX12_law 20 = .ok (.invokestatic 215, 3) := by decide +kernel
theorem dX12_law_23 : decode cX12_law 23 = .ok (.ifCond .ne 5, 3) := by decide +kernel
theorem dX12_law_26 : decode cX12_law 26 = .ok (.iconst 0, 1) := by decide +kernel
theorem dX12_law_27 : decode cX12_law 27 = .ok (.ireturn, 1) := by decide +kernel
theorem dX12_law_28 : decode cX12_law 28 = .ok (.aload_n 0, 1) := by decide +kernel
theorem dX12_law_29 : decode cX12_law 29 = .ok (.iload_n 1, 1) := by decide +kernel
theorem dX12_law_30 : decode cX12_law 30 = .ok (.putfield 58, 3) := by decide +kernel
theorem dX12_law_33 : decode cX12_law 33 = .ok (.iconst 1, 1) := by decide +kernel
theorem dX12_law_34 : decode cX12_law 34 = .ok (.ireturn, 1) := by decide +kernel
theorem wl_6_229 : (.fieldLink RX12 91 "LawnAheadModel" "imageRow" "[I" : Cond) ∈ sg_tbl := tb_6 _ (List.mem_of_getElem? (i := 229) (by decide +kernel)) (by decide +kernel)
theorem wl_8_203 : (.methodLink RX12 449 yX12_copy : Cond) ∈ sg_tbl := tb_8 _ (List.mem_of_getElem? (i := 203) (by decide +kernel)) (by decide +kernel)
theorem wl_6_230 : (.fieldLink RX12 314 "LawnAheadModel" "hasImage" "Z" : Cond) ∈ sg_tbl := tb_6 _ (List.mem_of_getElem? (i := 230) (by decide +kernel)) (by decide +kernel)
theorem wl_9_153 : (.code yX12_image cX12_image 1 (some .int) : Cond) ∈ sg_tbl := tb_9 _ (List.mem_of_getElem? (i := 153) (by decide +kernel)) (by decide +kernel)
theorem wl_9_151 : (.instanceMethod yX12_image : Cond) ∈ sg_tbl := tb_9 _ (List.mem_of_getElem? (i := 151) (by decide +kernel)) (by decide +kernel)
theorem wl_9_152 : (.selects RX12 yX12_image yX12_image : Cond) ∈ sg_tbl := tb_9 _ (List.mem_of_getElem? (i := 152) (by decide +kernel)) (by decide +kernel)
theorem wl_9_157 : (.code yX12_back cX12_back 1 (some .int) : Cond) ∈ sg_tbl := tb_9 _ (List.mem_of_getElem? (i := 157) (by decide +kernel)) (by decide +kernel)
theorem wl_9_155 : (.instanceMethod yX12_back : Cond) ∈ sg_tbl := tb_9 _ (List.mem_of_getElem? (i := 155) (by decide +kernel)) (by decide +kernel)
theorem wl_9_156 : (.selects RX12 yX12_back yX12_back : Cond) ∈ sg_tbl := tb_9 _ (List.mem_of_getElem? (i := 156) (by decide +kernel)) (by decide +kernel)
theorem wl_8_120 : (.code yX12_canCut cX12_canCut 5 (some .boolean) : Cond) ∈ sg_tbl := tb_8 _ (List.mem_of_getElem? (i := 120) (by decide +kernel)) (by decide +kernel)
theorem wl_8_119 : (.instanceMethod yX12_canCut : Cond) ∈ sg_tbl := tb_8 _ (List.mem_of_getElem? (i := 119) (by decide +kernel)) (by decide +kernel)
theorem wl_0_81 : (.selects RX12 yX12_canCut yX12_canCut : Cond) ∈ sg_tbl := tb_0 _ (List.mem_of_getElem? (i := 81) (by decide +kernel)) (by decide +kernel)
theorem wl_8_143 : (.code yX12_canDig cX12_canDig 3 (some .boolean) : Cond) ∈ sg_tbl := tb_8 _ (List.mem_of_getElem? (i := 143) (by decide +kernel)) (by decide +kernel)
theorem wl_8_142 : (.instanceMethod yX12_canDig : Cond) ∈ sg_tbl := tb_8 _ (List.mem_of_getElem? (i := 142) (by decide +kernel)) (by decide +kernel)
theorem wl_0_84 : (.selects RX12 yX12_canDig yX12_canDig : Cond) ∈ sg_tbl := tb_0 _ (List.mem_of_getElem? (i := 84) (by decide +kernel)) (by decide +kernel)
theorem wl_8_80 : (.code yX12_law cX12_law 2 (some .boolean) : Cond) ∈ sg_tbl := tb_8 _ (List.mem_of_getElem? (i := 80) (by decide +kernel)) (by decide +kernel)
theorem wl_8_78 : (.instanceMethod yX12_law : Cond) ∈ sg_tbl := tb_8 _ (List.mem_of_getElem? (i := 78) (by decide +kernel)) (by decide +kernel)
theorem wl_8_79 : (.selects RX12 yX12_law yX12_law : Cond) ∈ sg_tbl := tb_8 _ (List.mem_of_getElem? (i := 79) (by decide +kernel)) (by decide +kernel)
section
variable {p : Program} {l : Launch} {e : Env} {R : Room} {s : State} {m : MethodId} {args : Array Value} {below : List Frame} {meth : Method} {c : Code} {H : Heap} {locs : List Loc} {cells slots : Nat} {Q : State → Prop} {cc : ByteArray} {nL pc : Nat} {ls : Array Slot} {rest : List Value} {own : String} {D : va_G} {A : Nat → Prop} {tys : List (ClassId × FieldType)} {ad ks : List Nat} {P : sgPm} {H0 : Heap} {index : Nat} {base : Nat} {st0 : List Value} {a : Nat}
theorem gf_X12_23n   (X : CallFix p m c cc nL s args sg_tbl own) (hK : va_K D vwCl tys s) (hG : sgG (KT P) D vwCl A tys ad ks H) (ha : isK ad ks 12 a) (hp : P.2.2.2.2.1 = false) (hl : Cond.fieldLink own index "LawnAheadModel" "cells" "I" ∈ sg_tbl) (hdg : decode cc pc = .ok (.getfield index, 3)) (kk : ∀ x : Int32, iv 0 0 x → fld D H 12 a 23 (.int x) → W p l e R s m args below meth c H locs cells slots Q (F0 m (pc + 3) ls (.int x :: rest))) : W p l e R s m args below meth c H locs cells slots Q (F0 m pc ls (.ref a :: rest)) :=
  sg_get X hK hG ha (k := 12) (ci := 12) rfl (C := RX12) (T := TX12) (N := 53) rfl inL_X12 23 (by decide) rfl hl (fun _ h => h) hdg (fun v hv hf => by
    obtain ⟨x, rfl, hx⟩ := hv
    exact kk x (sgC1_iv0 hp hx) hf)
theorem gf_X12_51   (X : CallFix p m c cc nL s args sg_tbl own) (hK : va_K D vwCl tys s) (hG : sgG (KT P) D vwCl A tys ad ks H) (ha : isK ad ks 12 a) (hl : Cond.fieldLink own index "LawnAheadModel" "imageRow" "[I" ∈ sg_tbl) (hdg : decode cc pc = .ok (.getfield index, 3)) (kk : ∀ x : Nat, isK ad ks 65 x → fld D H 12 a 51 (.ref x) → W p l e R s m args below meth c H locs cells slots Q (F0 m (pc + 3) ls (.ref x :: rest))) : W p l e R s m args below meth c H locs cells slots Q (F0 m pc ls (.ref a :: rest)) :=
  sg_get X hK hG ha (k := 12) (ci := 12) rfl (C := RX12) (T := TX12) (N := 53) rfl inL_X12 51 (by decide) rfl hl (fun _ h => h) hdg (fun v hv hf => by
    obtain ⟨h1, -⟩ | ⟨x, rfl, hx⟩ := hv
    · cases h1
    · exact kk x hx hf)
theorem gf_X12_52   (X : CallFix p m c cc nL s args sg_tbl own) (hK : va_K D vwCl tys s) (hG : sgG (KT P) D vwCl A tys ad ks H) (ha : isK ad ks 12 a) (hl : Cond.fieldLink own index "LawnAheadModel" "hasImage" "Z" ∈ sg_tbl) (hdg : decode cc pc = .ok (.getfield index, 3)) (kk : ∀ x : Int32, iv 0 1 x → fld D H 12 a 52 (.int x) → W p l e R s m args below meth c H locs cells slots Q (F0 m (pc + 3) ls (.int x :: rest))) : W p l e R s m args below meth c H locs cells slots Q (F0 m pc ls (.ref a :: rest)) :=
  sg_get X hK hG ha (k := 12) (ci := 12) rfl (C := RX12) (T := TX12) (N := 53) rfl inL_X12 52 (by decide) rfl hl (fun _ h => h) hdg (fun v hv hf => by obtain ⟨x, rfl, hx⟩ := hv; exact kk x hx hf)
theorem pf_X12_34  {x : Int32}  (X : CallFix p m c cc nL s args sg_tbl own) (hK : va_K D vwCl tys s) (hG : sgG (KT P) D vwCl A tys ad ks H) (hS : va_S A H0 H locs) (ha : isK ad ks 12 a) (hl : Cond.fieldLink own index "LawnAheadModel" "law" "I" ∈ sg_tbl) (hv : okV ad ks (.inl ((-1), 3)) (.int x)) (hdg : decode cc pc = .ok (.putfield index, 3)) (kk : ∀ (H1 : Heap) (locs1 : List Loc), sgG (KT P) D vwCl A tys ad ks H1 → va_S A H0 H1 locs1 → fld D H1 12 a 34 (.int x) → sgFr (KT P) D vwCl ad ks H H1 (fun a' j' => a' = a ∧ j' = 34) → W p l e R s m args below meth c H1 locs1 cells slots Q (F0 m (pc + 3) ls rest)) : W p l e R s m args below meth c H locs cells slots Q (F0 m pc ls (.int x :: .ref a :: rest)) :=
  sg_put X hK hG hS ha (k := 12) (ci := 12) rfl (C := RX12) (T := TX12) (N := 53) rfl inL_X12 tyX12 tyX12_ok nmX12 34 (by decide) rfl hl (fun _ h => h) rfl (ty := .int) rfl rfl rfl hv hdg kk
theorem pf_X12_39  {x : Int32}  (X : CallFix p m c cc nL s args sg_tbl own) (hK : va_K D vwCl tys s) (hG : sgG (KT P) D vwCl A tys ad ks H) (hS : va_S A H0 H locs) (ha : isK ad ks 12 a) (hl : Cond.fieldLink own index "LawnAheadModel" "acts" "I" ∈ sg_tbl) (hv : okV ad ks (.inl (0, 40)) (.int x)) (hdg : decode cc pc = .ok (.putfield index, 3)) (kk : ∀ (H1 : Heap) (locs1 : List Loc), sgG (KT P) D vwCl A tys ad ks H1 → va_S A H0 H1 locs1 → fld D H1 12 a 39 (.int x) → sgFr (KT P) D vwCl ad ks H H1 (fun a' j' => a' = a ∧ j' = 39) → W p l e R s m args below meth c H1 locs1 cells slots Q (F0 m (pc + 3) ls rest)) : W p l e R s m args below meth c H locs cells slots Q (F0 m pc ls (.int x :: .ref a :: rest)) :=
  sg_put X hK hG hS ha (k := 12) (ci := 12) rfl (C := RX12) (T := TX12) (N := 53) rfl inL_X12 tyX12 tyX12_ok nmX12 39 (by decide) rfl hl (fun _ h => h) rfl (ty := .int) rfl rfl rfl hv hdg kk
theorem pf_X12_52  {x : Int32}  (X : CallFix p m c cc nL s args sg_tbl own) (hK : va_K D vwCl tys s) (hG : sgG (KT P) D vwCl A tys ad ks H) (hS : va_S A H0 H locs) (ha : isK ad ks 12 a) (hl : Cond.fieldLink own index "LawnAheadModel" "hasImage" "Z" ∈ sg_tbl) (hv : okV ad ks (.inl (0, 1)) (.int x)) (hdg : decode cc pc = .ok (.putfield index, 3)) (kk : ∀ (H1 : Heap) (locs1 : List Loc), sgG (KT P) D vwCl A tys ad ks H1 → va_S A H0 H1 locs1 → fld D H1 12 a 52 (.int x) → sgFr (KT P) D vwCl ad ks H H1 (fun a' j' => a' = a ∧ j' = 52) → W p l e R s m args below meth c H1 locs1 cells slots Q (F0 m (pc + 3) ls rest)) : W p l e R s m args below meth c H locs cells slots Q (F0 m pc ls (.int x :: .ref a :: rest)) :=
  sg_put X hK hG hS ha (k := 12) (ci := 12) rfl (C := RX12) (T := TX12) (N := 53) rfl inL_X12 tyX12 tyX12_ok nmX12 52 (by decide) rfl hl (fun _ h => h) rfl (ty := .boolean) rfl (by obtain ⟨y, h1, h2⟩ := hv; cases h1; exact sg_zn h2) (by obtain ⟨y, h1, h2⟩ := hv; cases h1; rcases iv_01 h2 with rfl | rfl <;> rfl) hv hdg kk
theorem al_65  {i : Int32}  (X : CallFix p m c cc nL s args sg_tbl own) (hK : va_K D vwCl tys s) (hG : sgG (KT P) D vwCl A tys ad ks H) (ha : isK ad ks 65 a) (hin : vp_in i 249) (hdg : decode cc pc = .ok (.iaload, 1)) (kk : ∀ x : Int32, okV ad ks ((sg_now (sgN P) : Nat → sgT) i.toNatClampNeg) (.int x) → W p l e R s m args below meth c H locs cells slots Q (F0 m (pc + 1) ls (.int x :: rest))) : W p l e R s m args below meth c H locs cells slots Q (F0 m pc ls (.int i :: .ref a :: rest)) :=
  sg_iald X hK hG ha (k := 65) rfl hin hdg kk
theorem as_54  {i : Int32} {x : Int32}  (X : CallFix p m c cc nL s args sg_tbl own) (hK : va_K D vwCl tys s) (hG : sgG (KT P) D vwCl A tys ad ks H) (hS : va_S A H0 H locs) (ha : isK ad ks 54 a) (hin : vp_in i 249) (hv : okV ad ks ((sg_nw (sgN P) (sgPin P) : Nat → sgT) i.toNatClampNeg) (.int x)) (hdg : decode cc pc = .ok (.iastore, 1)) (kk : ∀ (H1 : Heap) (locs1 : List Loc), sgG (KT P) D vwCl A tys ad ks H1 → va_S A H0 H1 locs1 → sgFr (KT P) D vwCl ad ks H H1 (fun _ _ => False) → W p l e R s m args below meth c H1 locs1 cells slots Q (F0 m (pc + 1) ls rest)) : W p l e R s m args below meth c H locs cells slots Q (F0 m pc ls (.int x :: .int i :: .ref a :: rest)) :=
  sg_iast X hK hG hS ha (k := 54) rfl hin hv hdg kk
set_option maxHeartbeats 8000000 in
set_option maxRecDepth 100000 in
theorem m_X12_copy_b (l : Launch) {D : va_G} {base : Nat} {tys : List (ClassId × FieldType)} {ad ks : List Nat} {P : sgPm} (hp10 : sgPin P = none) (a0 : Nat) (h0 : isK ad ks 65 a0) (a1 : Nat) (h1 : isK ad ks 54 a1) : sgMv l (KT P) D vwCl base tys ad ks yX12_copy cX12_copy 4 none ({ frames := 0, cells := 0, slots := 0, locals := 0 }) [.ref a0, .ref a1] := by
  refine sg_ofW (by decide +kernel) (Nat.le_of_ble_eq_true rfl) (fun p e s m below meth c X hr hlk hb hK hC hG ls hl => ?_)
  have hS : va_S (fun q : Nat => base ≤ q) s.heap s.heap [] := va_S.rf
  have hl : lv_has ls 4 [(0, .ref a0), (1, .ref a1)] := hl
  refine lv_bipush (v := 9) X.1 X.2.1 dX12_copy_0 (by decide +kernel) ?_
  refine lv_iconst (v := 4) X.1 X.2.1 dX12_copy_2 (by decide +kernel) ?_
  refine lv_aload_n X.1 X.2.1 dX12_copy_3 rfl (lv_at hl 0 rfl) ?_
  refine lv_bipush (v := 8) X.1 X.2.1 dX12_copy_4 (by decide +kernel) ?_
  refine al_65 X hK hG h0 (iv_vpin (iv_c 8 (a := 8) (b := 8) (by decide +kernel)) (by decide +kernel)) dX12_copy_6 (fun f1 hf1 => ?_)
  have of1 := hf1
  have hf1 : iv 0 60 f1 := sg_sp_now hf1 (iv_c 8 (a := 8) (b := 8) (by decide +kernel)) (by decide +kernel) rfl
  refine lv_imul X.1 X.2.1 dX12_copy_7 ?_
  refine lv_topi (fun f2 ef2 => ?_)
  refine lv_iadd X.1 X.2.1 dX12_copy_8 ?_
  refine lv_topi (fun f3 ef3 => ?_)
  refine lv_istore_n (lv' := [(2, .int f3), (0, .ref a0), (1, .ref a1)]) X.1 X.2.1 dX12_copy_9 rfl hl (by decide) rfl (fun ls hl => ?_)
  refine lv_iconst (v := 0) X.1 X.2.1 dX12_copy_10 (by decide +kernel) ?_
  refine lv_istore_n (lv' := [(3, .int 0), (2, .int f3), (0, .ref a0), (1, .ref a1)]) X.1 X.2.1 dX12_copy_11 rfl hl (by decide) rfl (fun ls hl => ?_)
  have B4_12 : ∀ (N : Nat) (H : Heap) (locs : List Loc) (ls : Array Slot) (z4_3 : Int32), sgG (KT P) D vwCl (fun q : Nat => base ≤ q) tys ad ks H → va_S (fun q : Nat => base ≤ q) s.heap H locs → lv_has ls 4 [(0, .ref a0), (1, .ref a1), (2, .int f3), (3, .int z4_3)] → iv 0 249 z4_3 → (250 - z4_3.toInt).toNat ≤ N → W p l e (headSpec (Cond.code yX12_copy cX12_copy 4 none :: sg_tbl) ({ frames := 0, cells := 0, slots := 0, locals := 0 })).room s m #[.ref a0, .ref a1] below meth c H locs 0 0 (MQ below (va_Qv (fun (_ : Unit) => True) (fun _ => sgB (KT P) D vwCl base tys ad ks) (fun q : Nat => base ≤ q)) #[.ref a0, .ref a1] s 0 0 (fun q : Nat => base ≤ q)) (F0 m 12 ls []) := by
    intro N; induction N with
    | zero =>
      intro H locs ls z4_3 hG hS hl hz4_3 hN
      exact absurd hN (by have := iv_up hz4_3; omega)
    | succ N ih4 =>
      intro H locs ls z4_3 hG hS hl hz4_3 hN4
      refine lv_iload_n X.1 X.2.1 dX12_copy_12 rfl (lv_at hl 3 rfl) ?_
      refine lv_iload_n X.1 X.2.1 dX12_copy_13 rfl (lv_at hl 2 rfl) ?_
      refine lv_icmp_ge (tgt := 29) X.1 X.2.1 dX12_copy_14 (by decide) (fun c5 => ?_) (fun c5 => ?_)
      · exact sg_vret X hr hlk hb hK hC hG hS dX12_copy_29
      · refine lv_aload_n X.1 X.2.1 dX12_copy_17 rfl (lv_at hl 1 rfl) ?_
        refine lv_iload_n X.1 X.2.1 dX12_copy_18 rfl (lv_at hl 3 rfl) ?_
        refine lv_aload_n X.1 X.2.1 dX12_copy_19 rfl (lv_at hl 0 rfl) ?_
        refine lv_iload_n X.1 X.2.1 dX12_copy_20 rfl (lv_at hl 3 rfl) ?_
        refine al_65 X hK hG h0 (iv_vpin (iv_lt (b' := 248) (iv_gt_of c5) hz4_3 (iv_add (a' := 9) (b' := 249) ef3 (iv_c 9 (a := 9) (b := 9) (by decide +kernel)) (iv_mul (a' := 0) (b' := 240) ef2 (iv_c 4 (a := 4) (b := 4) (by decide +kernel)) hf1 (by decide +kernel)) (by decide +kernel)) (by decide +kernel)) (by decide +kernel)) dX12_copy_21 (fun f6 hf6 => ?_)
        have of6 := hf6
        have hf6 : iv (-2147483648) 2147483647 f6 := sg_spa_now hf6
        refine as_54 X hK hG hS h1 (iv_vpin (iv_lt (b' := 248) (iv_gt_of c5) hz4_3 (iv_add (a' := 9) (b' := 249) ef3 (iv_c 9 (a := 9) (b := 9) (by decide +kernel)) (iv_mul (a' := 0) (b' := 240) ef2 (iv_c 4 (a := 4) (b := 4) (by decide +kernel)) hf1 (by decide +kernel)) (by decide +kernel)) (by decide +kernel)) (by decide +kernel)) (sg_nw_none hp10 of6) dX12_copy_22 (fun H locs hG hS ru7 => ?_)
        obtain ⟨y8, ey8⟩ : ∃ y : Int32, y = z4_3 + Int32.ofInt 1 := ⟨_, rfl⟩
        refine lv_iinc (v := y8) (lv' := [(3, .int y8), (0, .ref a0), (1, .ref a1), (2, .int f3)]) X.1 X.2.1 dX12_copy_23 hl (k := 3) rfl ey8.symm (by decide) rfl (fun ls hl => ?_)
        refine lv_goto (tgt := 12) X.1 X.2.1 dX12_copy_26 (by decide) ?_
        exact ih4 H _ _ y8 hG hS (lv_sub hl [1, 2, 3, 0] rfl) (iv_of (iv_add (a' := 1) (b' := 249) ey8 (iv_lt (b' := 248) (iv_gt_of c5) hz4_3 (iv_add (a' := 9) (b' := 249) ef3 (iv_c 9 (a := 9) (b := 9) (by decide +kernel)) (iv_mul (a' := 0) (b' := 240) ef2 (iv_c 4 (a := 4) (b := 4) (by decide +kernel)) hf1 (by decide +kernel)) (by decide +kernel)) (by decide +kernel)) (iv_c _ (a := 1) (b := 1) (by decide +kernel)) (by decide +kernel)) (a' := 0) (b' := 249) (by decide +kernel)) (iv_stepU ey8 (iv_lt (b' := 248) (iv_gt_of c5) hz4_3 (iv_add (a' := 9) (b' := 249) ef3 (iv_c 9 (a := 9) (b := 9) (by decide +kernel)) (iv_mul (a' := 0) (b' := 240) ef2 (iv_c 4 (a := 4) (b := 4) (by decide +kernel)) hf1 (by decide +kernel)) (by decide +kernel)) (by decide +kernel)) (by decide +kernel) hN4)
  exact B4_12 _ s.heap _ _ 0 hG hS (lv_sub hl [2, 3, 1, 0] rfl) (iv_of (iv_c 0 (a := 0) (b := 0) (by decide +kernel)) (a' := 0) (b' := 249) (by decide +kernel)) (Nat.le_refl _)

theorem ca_X12_copy_b   (X : CallFix p m c cc nL s args sg_tbl own) (hK : va_K D vwCl tys s) (hG : sgG (KT P) D vwCl (fun q : Nat => base ≤ q) tys ad ks H) (hC : sgC base s) (hS : va_S (fun q : Nat => base ≤ q) s.heap H locs) (hb : base ≤ s.heap.size) (hp10 : sgPin P = none) (a0 : Nat) (h0 : isK ad ks 65 a0) (a1 : Nat) (h1 : isK ad ks 54 a1) (hl : Cond.methodLink own index yX12_copy ∈ sg_tbl) (hsize : ls.size = nL) (hst : st0 = [.ref a0, .ref a1].reverse ++ rest) (hW : (rest.map fun v => v.category).sum ≤ 8) (hR : 1 ≤ R.frames ∧ 23 ≤ R.locals) (hf : cells ≤ R.cells ∧ slots ≤ R.slots) (hdg : decode cc pc = .ok (.invokestatic index, 3)) (kk : ∀ (H1 : Heap) (locs1 : List Loc), sgG (KT P) D vwCl (fun q : Nat => base ≤ q) tys ad ks H1 → va_S (fun q : Nat => base ≤ q) s.heap H1 locs1 → W p l e R s m args below meth c H1 locs1 cells slots Q (F0 m (pc + 3) ls rest)) : W p l e R s m args below meth c H locs cells slots Q (F0 m pc ls st0) :=
  sg_callSv X hK hG hC hS hb (m_X12_copy_b l hp10 a0 h0 a1 h1) wl_8_205 wl_1_13 wl_8_204 (n := 2) (by decide +kernel) rfl rfl rfl hl hsize hst hW hR hf hdg kk

set_option maxHeartbeats 8000000 in
set_option maxRecDepth 100000 in
theorem m_X12_image_1 (l : Launch) {D : va_G} {base : Nat} {tys : List (ClassId × FieldType)} {ad ks : List Nat} {P : sgPm} (hp4 : P.2.2.2.2.1 = true) (a0 : Nat) (h0 : isK ad ks 12 a0) : sgMi l (KT P) D vwCl base tys ad ks yX12_image cX12_image 1 (some .int) ({ frames := 1, cells := 0, slots := 0, locals := 23 }) [.ref a0] (fun r : Int32 => True) := by
  refine sg_ofW (by decide +kernel) (Nat.le_of_ble_eq_true rfl) (fun p e s m below meth c X hr hlk hb hK hC hG ls hl => ?_)
  have hS : va_S (fun q : Nat => base ≤ q) s.heap s.heap [] := va_S.rf
  have hl : lv_has ls 1 [(0, .ref a0)] := hl
  refine lv_aload_n X.1 X.2.1 dX12_image_0 rfl (lv_at hl 0 rfl) ?_
  refine lv_iconst (v := 0) X.1 X.2.1 dX12_image_1 (by decide +kernel) ?_
  refine pf_X12_0 X hK hG hS h0 wl_6_178 ⟨_, rfl, (iv_top _)⟩ dX12_image_2 (fun H locs hG hS ku1 ru1 => ?_)
  refine lv_aload_n X.1 X.2.1 dX12_image_5 rfl (lv_at hl 0 rfl) ?_
  refine gf_X12_23s X hK hG h0 hp4 wl_6_201 dX12_image_6 (fun f2 hf2 kf2 => ?_)
  refine lv_if_ne (tgt := 14) X.1 X.2.1 dX12_image_9 (by decide) (fun c3 => ?_) (fun c3 => ?_)
  · refine lv_aload_n X.1 X.2.1 dX12_image_14 rfl (lv_at hl 0 rfl) ?_
    refine gf_X12_32 X hK hG h0 wl_6_210 dX12_image_15 (fun q4 hq4 kq4 => ?_)
    refine lv_aload_n X.1 X.2.1 dX12_image_18 rfl (lv_at hl 0 rfl) ?_
    refine gf_X12_51 X hK hG h0 wl_6_229 dX12_image_19 (fun q5 hq5 kq5 => ?_)
    refine ca_X12_copy_i X hK hG hC hS hb q4 hq4 q5 hq5 wl_8_203 hl.1 (rest := []) rfl (Nat.le_of_ble_eq_true rfl) ⟨Nat.le_of_ble_eq_true rfl, Nat.le_of_ble_eq_true rfl⟩ ⟨Nat.le_of_ble_eq_true rfl, Nat.le_of_ble_eq_true rfl⟩ dX12_image_22 (fun H locs hG hS => ?_)
    refine lv_aload_n X.1 X.2.1 dX12_image_25 rfl (lv_at hl 0 rfl) ?_
    refine lv_iconst (v := 1) X.1 X.2.1 dX12_image_26 (by decide +kernel) ?_
    refine pf_X12_52 X hK hG hS h0 wl_6_230 ⟨_, rfl, (iv_of (iv_c 1 (a := 1) (b := 1) (by decide +kernel)) (a' := 0) (b' := 1) (by decide +kernel))⟩ dX12_image_27 (fun H locs hG hS ku7 ru7 => ?_)
    refine lv_aload_n X.1 X.2.1 dX12_image_30 rfl (lv_at hl 0 rfl) ?_
    refine gf_X12_32 X hK hG h0 wl_6_210 dX12_image_31 (fun q8 hq8 kq8 => ?_)
    refine lv_iconst (v := 4) X.1 X.2.1 dX12_image_34 (by decide +kernel) ?_
    refine al_54 X hK hG hq8 (iv_vpin (iv_c 4 (a := 4) (b := 4) (by decide +kernel)) (by decide +kernel)) dX12_image_35 (fun f9 hf9 => ?_)
    have hf9 := sg_nw_now hf9
    have of9 := hf9
    have hf9 : iv 0 1000000000 f9 := sg_day hf9 (iv_c 4 (a := 4) (b := 4) (by decide +kernel))
    exact sg_iret X hr hlk hb hK hC hG hS trivial dX12_image_36
  · exact ((iv_no (a := 1) (b := 0) (iv_eqm c3 hf2 (iv_c 0 (a := 0) (b := 0) (by decide +kernel)) (by decide +kernel)) (by decide +kernel))).elim

theorem ca_X12_image_1   (X : CallFix p m c cc nL s args sg_tbl own) (hK : va_K D vwCl tys s) (hG : sgG (KT P) D vwCl (fun q : Nat => base ≤ q) tys ad ks H) (hC : sgC base s) (hS : va_S (fun q : Nat => base ≤ q) s.heap H locs) (hb : base ≤ s.heap.size) (hp4 : P.2.2.2.2.1 = true) (a0 : Nat) (h0 : isK ad ks 12 a0) (hl : Cond.methodLink own index yX12_image ∈ sg_tbl) (hsize : ls.size = nL) (hst : st0 = [].reverse ++ .ref a0 :: rest) (hW : (rest.map fun v => v.category).sum ≤ 8) (hR : 2 ≤ R.frames ∧ 43 ≤ R.locals) (hf : cells ≤ R.cells ∧ slots ≤ R.slots) (hdg : decode cc pc = .ok (.invokevirtual index, 3)) (kk : ∀ (r : Int32) (H1 : Heap) (locs1 : List Loc), (fun r : Int32 => True) r → sgG (KT P) D vwCl (fun q : Nat => base ≤ q) tys ad ks H1 → va_S (fun q : Nat => base ≤ q) s.heap H1 locs1 → W p l e R s m args below meth c H1 locs1 cells slots Q (F0 m (pc + 3) ls (.int r :: rest))) : W p l e R s m args below meth c H locs cells slots Q (F0 m pc ls st0) :=
  sg_callVi X hK hG hC hS hb (m_X12_image_1 l hp4 a0 h0) h0 (k := 12) (ci := 12) rfl (C := RX12) (T := TX12) (N := 53) rfl wl_9_153 wl_1_13 wl_9_151 wl_9_152 (n := 0) (by decide +kernel) rfl rfl rfl hl hsize hst hW hR hf hdg kk

set_option maxHeartbeats 8000000 in
set_option maxRecDepth 100000 in
theorem m_X12_back_1 (l : Launch) {D : va_G} {base : Nat} {tys : List (ClassId × FieldType)} {ad ks : List Nat} {P : sgPm} (hp4 : P.2.2.2.2.1 = true) (hp10 : sgPin P = none) (a0 : Nat) (h0 : isK ad ks 12 a0) : sgMi l (KT P) D vwCl base tys ad ks yX12_back cX12_back 1 (some .int) ({ frames := 1, cells := 0, slots := 0, locals := 23 }) [.ref a0] (fun r : Int32 => True) := by
  refine sg_ofW (by decide +kernel) (Nat.le_of_ble_eq_true rfl) (fun p e s m below meth c X hr hlk hb hK hC hG ls hl => ?_)
  have hS : va_S (fun q : Nat => base ≤ q) s.heap s.heap [] := va_S.rf
  have hl : lv_has ls 1 [(0, .ref a0)] := hl
  refine lv_aload_n X.1 X.2.1 dX12_back_0 rfl (lv_at hl 0 rfl) ?_
  refine lv_iconst (v := 0) X.1 X.2.1 dX12_back_1 (by decide +kernel) ?_
  refine pf_X12_0 X hK hG hS h0 wl_6_178 ⟨_, rfl, (iv_top _)⟩ dX12_back_2 (fun H locs hG hS ku1 ru1 => ?_)
  refine lv_aload_n X.1 X.2.1 dX12_back_5 rfl (lv_at hl 0 rfl) ?_
  refine gf_X12_52 X hK hG h0 wl_6_230 dX12_back_6 (fun f2 hf2 kf2 => ?_)
  refine lv_if_ne (tgt := 14) X.1 X.2.1 dX12_back_9 (by decide) (fun c3 => ?_) (fun c3 => ?_)
  · refine lv_aload_n X.1 X.2.1 dX12_back_14 rfl (lv_at hl 0 rfl) ?_
    refine gf_X12_51 X hK hG h0 wl_6_229 dX12_back_15 (fun q4 hq4 kq4 => ?_)
    refine lv_aload_n X.1 X.2.1 dX12_back_18 rfl (lv_at hl 0 rfl) ?_
    refine gf_X12_32 X hK hG h0 wl_6_210 dX12_back_19 (fun q5 hq5 kq5 => ?_)
    refine ca_X12_copy_b X hK hG hC hS hb hp10 q4 hq4 q5 hq5 wl_8_203 hl.1 (rest := []) rfl (Nat.le_of_ble_eq_true rfl) ⟨Nat.le_of_ble_eq_true rfl, Nat.le_of_ble_eq_true rfl⟩ ⟨Nat.le_of_ble_eq_true rfl, Nat.le_of_ble_eq_true rfl⟩ dX12_back_22 (fun H locs hG hS => ?_)
    refine lv_aload_n X.1 X.2.1 dX12_back_25 rfl (lv_at hl 0 rfl) ?_
    refine lv_iconst (v := 0) X.1 X.2.1 dX12_back_26 (by decide +kernel) ?_
    refine pf_X12_39 X hK hG hS h0 wl_6_217 ⟨_, rfl, (iv_of (iv_c 0 (a := 0) (b := 0) (by decide +kernel)) (a' := 0) (b' := 40) (by decide +kernel))⟩ dX12_back_27 (fun H locs hG hS ku7 ru7 => ?_)
    refine lv_aload_n X.1 X.2.1 dX12_back_30 rfl (lv_at hl 0 rfl) ?_
    refine gf_X12_32 X hK hG h0 wl_6_210 dX12_back_31 (fun q8 hq8 kq8 => ?_)
    refine lv_iconst (v := 4) X.1 X.2.1 dX12_back_34 (by decide +kernel) ?_
    refine al_54 X hK hG hq8 (iv_vpin (iv_c 4 (a := 4) (b := 4) (by decide +kernel)) (by decide +kernel)) dX12_back_35 (fun f9 hf9 => ?_)
    have hf9 := sg_nw_now hf9
    have of9 := hf9
    have hf9 : iv 0 1000000000 f9 := sg_day hf9 (iv_c 4 (a := 4) (b := 4) (by decide +kernel))
    exact sg_iret X hr hlk hb hK hC hG hS trivial dX12_back_36
  · refine lv_iconst (v := (-1)) X.1 X.2.1 dX12_back_12 (by decide +kernel) ?_
    exact sg_iret X hr hlk hb hK hC hG hS trivial dX12_back_13

theorem ca_X12_back_1   (X : CallFix p m c cc nL s args sg_tbl own) (hK : va_K D vwCl tys s) (hG : sgG (KT P) D vwCl (fun q : Nat => base ≤ q) tys ad ks H) (hC : sgC base s) (hS : va_S (fun q : Nat => base ≤ q) s.heap H locs) (hb : base ≤ s.heap.size) (hp4 : P.2.2.2.2.1 = true) (hp10 : sgPin P = none) (a0 : Nat) (h0 : isK ad ks 12 a0) (hl : Cond.methodLink own index yX12_back ∈ sg_tbl) (hsize : ls.size = nL) (hst : st0 = [].reverse ++ .ref a0 :: rest) (hW : (rest.map fun v => v.category).sum ≤ 8) (hR : 2 ≤ R.frames ∧ 43 ≤ R.locals) (hf : cells ≤ R.cells ∧ slots ≤ R.slots) (hdg : decode cc pc = .ok (.invokevirtual index, 3)) (kk : ∀ (r : Int32) (H1 : Heap) (locs1 : List Loc), (fun r : Int32 => True) r → sgG (KT P) D vwCl (fun q : Nat => base ≤ q) tys ad ks H1 → va_S (fun q : Nat => base ≤ q) s.heap H1 locs1 → W p l e R s m args below meth c H1 locs1 cells slots Q (F0 m (pc + 3) ls (.int r :: rest))) : W p l e R s m args below meth c H locs cells slots Q (F0 m pc ls st0) :=
  sg_callVi X hK hG hC hS hb (m_X12_back_1 l hp4 hp10 a0 h0) h0 (k := 12) (ci := 12) rfl (C := RX12) (T := TX12) (N := 53) rfl wl_9_157 wl_1_13 wl_9_155 wl_9_156 (n := 0) (by decide +kernel) rfl rfl rfl hl hsize hst hW hR hf hdg kk

set_option maxHeartbeats 8000000 in
set_option maxRecDepth 100000 in
theorem m_X12_canCut_1 (l : Launch) {D : va_G} {base : Nat} {tys : List (ClassId × FieldType)} {ad ks : List Nat} {P : sgPm} {Hx : Heap} (hp4 : P.2.2.2.2.1 = true) (a0 : Nat) (h0 : isK ad ks 12 a0) (a1 : Nat) (h1 : isK ad ks 54 a1) (x2 : Int32) (x3 : Int32) (x4 : Int32) : sgPi l (KT P) D vwCl base tys ad ks Hx yX12_canCut cX12_canCut 5 (some .boolean) ({ frames := 3, cells := 0, slots := 0, locals := 75 }) [.ref a0, .ref a1, .int x2, .int x3, .int x4] (fun r : Int32 => iv 0 1 r) := by
  refine sg_ofP (Pq := fun Hx => va_Qi (fun r (_ : Unit) => (fun r : Int32 => iv 0 1 r) r) (fun _ t => t.heap = Hx) (fun _ : Nat => False)) (by decide +kernel) (Nat.le_of_ble_eq_true rfl) (fun p e s m below meth c X hr hlk hb hK hC hG ls hl => ?_)
  have hS : va_S (fun _ : Nat => False) s.heap s.heap [] := va_S.rf
  have hl : lv_has ls 5 [(0, .ref a0), (1, .ref a1), (2, .int x2), (3, .int x3), (4, .int x4)] := hl
  refine lv_aload_n X.1 X.2.1 dX12_canCut_0 rfl (lv_at hl 0 rfl) ?_
  refine lv_aload_n X.1 X.2.1 dX12_canCut_1 rfl (lv_at hl 1 rfl) ?_
  refine ca_X12_isOpen_1 X hK hG hC (fun _ h => h.elim) hS hb hp4 a0 h0 a1 h1 wl_8_94 hl.1 (rest := []) rfl (Nat.le_of_ble_eq_true rfl) ⟨Nat.le_of_ble_eq_true rfl, Nat.le_of_ble_eq_true rfl⟩ ⟨Nat.le_of_ble_eq_true rfl, Nat.le_of_ble_eq_true rfl⟩ dX12_canCut_2 (fun f1 locs hf1 hS => ?_)
  have B3_34 : ∀ (locs : List Loc) (ls : Array Slot), va_S (fun _ : Nat => False) s.heap s.heap locs → lv_has ls 5 [] → W p l e (headSpec (Cond.code yX12_canCut cX12_canCut 5 (some .boolean) :: sg_tbl) ({ frames := 3, cells := 0, slots := 0, locals := 75 })).room s m #[.ref a0, .ref a1, .int x2, .int x3, .int x4] below meth c s.heap locs 0 0 (MQ below (va_Qi (fun r (_ : Unit) => (fun r : Int32 => iv 0 1 r) r) (fun _ t => t.heap = s.heap) (fun _ : Nat => False)) #[.ref a0, .ref a1, .int x2, .int x3, .int x4] s 0 0 (fun _ : Nat => False)) (F0 m 34 ls []) := by
    intro locs ls hS hl
    refine lv_iconst (v := 0) X.1 X.2.1 dX12_canCut_34 (by decide +kernel) ?_
    exact sg_zretP X hr (sg_zn (iv_of (iv_c 0 (a := 0) (b := 0) (by decide +kernel)) (a' := 0) (b' := 1) (by decide +kernel))) hlk hS (iv_of (iv_c 0 (a := 0) (b := 0) (by decide +kernel)) (a' := 0) (b' := 1) (by decide +kernel)) dX12_canCut_35
  refine lv_if_eq (tgt := 34) X.1 X.2.1 dX12_canCut_5 (by decide) (fun c2 => ?_) (fun c2 => ?_)
  · exact B3_34 _ _ hS (lv_sub hl [] rfl)
  · refine lv_aload_n X.1 X.2.1 dX12_canCut_8 rfl (lv_at hl 1 rfl) ?_
    refine lv_iconst (v := 2) X.1 X.2.1 dX12_canCut_9 (by decide +kernel) ?_
    refine al_54 X hK hG h1 (iv_vpin (iv_c 2 (a := 2) (b := 2) (by decide +kernel)) (by decide +kernel)) dX12_canCut_10 (fun f4 hf4 => ?_)
    have hf4 := sg_nw_now hf4
    have of4 := hf4
    have hf4 : iv 0 1 f4 := sg_sp_now hf4 (iv_c 2 (a := 2) (b := 2) (by decide +kernel)) (by decide +kernel) rfl
    refine lv_iconst (v := 1) X.1 X.2.1 dX12_canCut_11 (by decide +kernel) ?_
    refine lv_icmp_ne (tgt := 34) X.1 X.2.1 dX12_canCut_12 (by decide) (fun c5 => ?_) (fun c5 => ?_)
    · exact B3_34 _ _ hS (lv_sub hl [] rfl)
    · refine lv_aload_n X.1 X.2.1 dX12_canCut_15 rfl (lv_at hl 0 rfl) ?_
      refine lv_aload_n X.1 X.2.1 dX12_canCut_16 rfl (lv_at hl 1 rfl) ?_
      refine lv_iconst (v := 0) X.1 X.2.1 dX12_canCut_17 (by decide +kernel) ?_
      refine al_54 X hK hG h1 (iv_vpin (iv_c 0 (a := 0) (b := 0) (by decide +kernel)) (by decide +kernel)) dX12_canCut_18 (fun f6 hf6 => ?_)
      have hf6 := sg_nw_now hf6
      have of6 := hf6
      have hf6 : iv (-2147483648) 2147483647 f6 := sg_sp_now hf6 (iv_c 0 (a := 0) (b := 0) (by decide +kernel)) (by decide +kernel) rfl
      refine lv_iload_n X.1 X.2.1 dX12_canCut_19 rfl (lv_at hl 2 rfl) ?_
      refine lv_iload_n X.1 X.2.1 dX12_canCut_20 rfl (lv_at hl 3 rfl) ?_
      refine lv_iload X.1 X.2.1 dX12_canCut_21 (lv_at hl 4 rfl) ?_
      refine ca_X12_cutBits_1 X hK hG hC (fun _ h => h.elim) hS hb hp4 a0 h0 f6 x2 x3 x4 wl_8_121 hl.1 (rest := []) rfl (Nat.le_of_ble_eq_true rfl) ⟨Nat.le_of_ble_eq_true rfl, Nat.le_of_ble_eq_true rfl⟩ ⟨Nat.le_of_ble_eq_true rfl, Nat.le_of_ble_eq_true rfl⟩ dX12_canCut_23 (fun f7 locs hf7 hS => ?_)
      refine lv_iconst (v := (-1)) X.1 X.2.1 dX12_canCut_26 (by decide +kernel) ?_
      refine lv_icmp_eq (tgt := 34) X.1 X.2.1 dX12_canCut_27 (by decide) (fun c8 => ?_) (fun c8 => ?_)
      · exact B3_34 _ _ hS (lv_sub hl [] rfl)
      · refine lv_iconst (v := 1) X.1 X.2.1 dX12_canCut_30 (by decide +kernel) ?_
        refine lv_goto (tgt := 35) X.1 X.2.1 dX12_canCut_31 (by decide) ?_
        exact sg_zretP X hr (sg_zn (iv_of (iv_c 1 (a := 1) (b := 1) (by decide +kernel)) (a' := 0) (b' := 1) (by decide +kernel))) hlk hS (iv_of (iv_c 1 (a := 1) (b := 1) (by decide +kernel)) (a' := 0) (b' := 1) (by decide +kernel)) dX12_canCut_35

theorem ca_X12_canCut_1   (X : CallFix p m c cc nL s args sg_tbl own) (hK : va_K D vwCl tys s) (hG : sgG (KT P) D vwCl (fun q : Nat => base ≤ q) tys ad ks H) (hC : sgC base s) (hA : ∀ q : Nat, A q → base ≤ q) (hS : va_S A s.heap H locs) (hb : base ≤ s.heap.size) (hp4 : P.2.2.2.2.1 = true) (a0 : Nat) (h0 : isK ad ks 12 a0) (a1 : Nat) (h1 : isK ad ks 54 a1) (x2 : Int32) (x3 : Int32) (x4 : Int32) (hl : Cond.methodLink own index yX12_canCut ∈ sg_tbl) (hsize : ls.size = nL) (hst : st0 = [.ref a1, .int x2, .int x3, .int x4].reverse ++ .ref a0 :: rest) (hW : (rest.map fun v => v.category).sum ≤ 8) (hR : 4 ≤ R.frames ∧ 99 ≤ R.locals) (hf : cells ≤ R.cells ∧ slots ≤ R.slots) (hdg : decode cc pc = .ok (.invokevirtual index, 3)) (kk : ∀ (r : Int32) (locs1 : List Loc), (fun r : Int32 => iv 0 1 r) r → va_S A s.heap H locs1 → W p l e R s m args below meth c H locs1 cells slots Q (F0 m (pc + 3) ls (.int r :: rest))) : W p l e R s m args below meth c H locs cells slots Q (F0 m pc ls st0) :=
  sg_callPVi X hK hG hC hA hS hb (m_X12_canCut_1 l hp4 a0 h0 a1 h1 x2 x3 x4) h0 (k := 12) (ci := 12) rfl (C := RX12) (T := TX12) (N := 53) rfl wl_8_120 wl_1_13 wl_8_119 wl_0_81 (n := 4) (by decide +kernel) rfl rfl rfl hl hsize hst hW hR hf hdg kk

set_option maxHeartbeats 8000000 in
set_option maxRecDepth 100000 in
theorem m_X12_canDig_1 (l : Launch) {D : va_G} {base : Nat} {tys : List (ClassId × FieldType)} {ad ks : List Nat} {P : sgPm} {Hx : Heap} (hp4 : P.2.2.2.2.1 = true) (a0 : Nat) (h0 : isK ad ks 12 a0) (a1 : Nat) (h1 : isK ad ks 54 a1) (x2 : Int32) : sgPi l (KT P) D vwCl base tys ad ks Hx yX12_canDig cX12_canDig 3 (some .boolean) ({ frames := 1, cells := 0, slots := 0, locals := 21 }) [.ref a0, .ref a1, .int x2] (fun r : Int32 => iv 0 1 r) := by
  refine sg_ofP (Pq := fun Hx => va_Qi (fun r (_ : Unit) => (fun r : Int32 => iv 0 1 r) r) (fun _ t => t.heap = Hx) (fun _ : Nat => False)) (by decide +kernel) (Nat.le_of_ble_eq_true rfl) (fun p e s m below meth c X hr hlk hb hK hC hG ls hl => ?_)
  have hS : va_S (fun _ : Nat => False) s.heap s.heap [] := va_S.rf
  have hl : lv_has ls 3 [(0, .ref a0), (1, .ref a1), (2, .int x2)] := hl
  refine lv_aload_n X.1 X.2.1 dX12_canDig_0 rfl (lv_at hl 0 rfl) ?_
  refine lv_aload_n X.1 X.2.1 dX12_canDig_1 rfl (lv_at hl 1 rfl) ?_
  refine ca_X12_isOpen_1 X hK hG hC (fun _ h => h.elim) hS hb hp4 a0 h0 a1 h1 wl_8_94 hl.1 (rest := []) rfl (Nat.le_of_ble_eq_true rfl) ⟨Nat.le_of_ble_eq_true rfl, Nat.le_of_ble_eq_true rfl⟩ ⟨Nat.le_of_ble_eq_true rfl, Nat.le_of_ble_eq_true rfl⟩ dX12_canDig_2 (fun f1 locs hf1 hS => ?_)
  have B3_35 : ∀ (locs : List Loc) (ls : Array Slot), va_S (fun _ : Nat => False) s.heap s.heap locs → lv_has ls 3 [] → W p l e (headSpec (Cond.code yX12_canDig cX12_canDig 3 (some .boolean) :: sg_tbl) ({ frames := 1, cells := 0, slots := 0, locals := 21 })).room s m #[.ref a0, .ref a1, .int x2] below meth c s.heap locs 0 0 (MQ below (va_Qi (fun r (_ : Unit) => (fun r : Int32 => iv 0 1 r) r) (fun _ t => t.heap = s.heap) (fun _ : Nat => False)) #[.ref a0, .ref a1, .int x2] s 0 0 (fun _ : Nat => False)) (F0 m 35 ls []) := by
    intro locs ls hS hl
    refine lv_iconst (v := 0) X.1 X.2.1 dX12_canDig_35 (by decide +kernel) ?_
    exact sg_zretP X hr (sg_zn (iv_of (iv_c 0 (a := 0) (b := 0) (by decide +kernel)) (a' := 0) (b' := 1) (by decide +kernel))) hlk hS (iv_of (iv_c 0 (a := 0) (b := 0) (by decide +kernel)) (a' := 0) (b' := 1) (by decide +kernel)) dX12_canDig_36
  refine lv_if_eq (tgt := 35) X.1 X.2.1 dX12_canDig_5 (by decide) (fun c2 => ?_) (fun c2 => ?_)
  · exact B3_35 _ _ hS (lv_sub hl [] rfl)
  · refine lv_aload_n X.1 X.2.1 dX12_canDig_8 rfl (lv_at hl 0 rfl) ?_
    refine lv_iload_n X.1 X.2.1 dX12_canDig_9 rfl (lv_at hl 2 rfl) ?_
    refine ca_X12_isCell_1 X hK hG hC (fun _ h => h.elim) hS hb hp4 a0 h0 x2 wl_8_55 hl.1 (rest := []) rfl (Nat.le_of_ble_eq_true rfl) ⟨Nat.le_of_ble_eq_true rfl, Nat.le_of_ble_eq_true rfl⟩ ⟨Nat.le_of_ble_eq_true rfl, Nat.le_of_ble_eq_true rfl⟩ dX12_canDig_10 (fun f4 locs hf4 hS => ?_)
    refine lv_if_eq (tgt := 35) X.1 X.2.1 dX12_canDig_13 (by decide) (fun c5 => ?_) (fun c5 => ?_)
    · exact B3_35 _ _ hS (lv_sub hl [] rfl)
    · refine lv_aload_n X.1 X.2.1 dX12_canDig_16 rfl (lv_at hl 0 rfl) ?_
      refine gf_X12_24 X hK hG h0 wl_6_202 dX12_canDig_17 (fun f6 hf6 kf6 => ?_)
      refine lv_aload_n X.1 X.2.1 dX12_canDig_20 rfl (lv_at hl 1 rfl) ?_
      refine lv_iconst (v := 1) X.1 X.2.1 dX12_canDig_21 (by decide +kernel) ?_
      refine al_54 X hK hG h1 (iv_vpin (iv_c 1 (a := 1) (b := 1) (by decide +kernel)) (by decide +kernel)) dX12_canDig_22 (fun f7 hf7 => ?_)
      have hf7 := sg_nw_now hf7
      have of7 := hf7
      have hf7 : iv (-2147483648) 2147483647 f7 := sg_sp_now hf7 (iv_c 1 (a := 1) (b := 1) (by decide +kernel)) (by decide +kernel) rfl
      refine lv_ior X.1 X.2.1 dX12_canDig_23 ?_
      refine lv_topi (fun f8 ef8 => ?_)
      refine lv_iload_n X.1 X.2.1 dX12_canDig_24 rfl (lv_at hl 2 rfl) ?_
      refine ca_X12_has X hK hG hC (fun _ h => h.elim) hS hb f8 x2 wl_7_174 hl.1 (rest := []) rfl (Nat.le_of_ble_eq_true rfl) ⟨Nat.le_of_ble_eq_true rfl, Nat.le_of_ble_eq_true rfl⟩ ⟨Nat.le_of_ble_eq_true rfl, Nat.le_of_ble_eq_true rfl⟩ dX12_canDig_25 (fun f9 locs hf9 hS => ?_)
      refine lv_if_ne (tgt := 35) X.1 X.2.1 dX12_canDig_28 (by decide) (fun c10 => ?_) (fun c10 => ?_)
      · exact B3_35 _ _ hS (lv_sub hl [] rfl)
      · refine lv_iconst (v := 1) X.1 X.2.1 dX12_canDig_31 (by decide +kernel) ?_
        refine lv_goto (tgt := 36) X.1 X.2.1 dX12_canDig_32 (by decide) ?_
        exact sg_zretP X hr (sg_zn (iv_of (iv_c 1 (a := 1) (b := 1) (by decide +kernel)) (a' := 0) (b' := 1) (by decide +kernel))) hlk hS (iv_of (iv_c 1 (a := 1) (b := 1) (by decide +kernel)) (a' := 0) (b' := 1) (by decide +kernel)) dX12_canDig_36

theorem ca_X12_canDig_1   (X : CallFix p m c cc nL s args sg_tbl own) (hK : va_K D vwCl tys s) (hG : sgG (KT P) D vwCl (fun q : Nat => base ≤ q) tys ad ks H) (hC : sgC base s) (hA : ∀ q : Nat, A q → base ≤ q) (hS : va_S A s.heap H locs) (hb : base ≤ s.heap.size) (hp4 : P.2.2.2.2.1 = true) (a0 : Nat) (h0 : isK ad ks 12 a0) (a1 : Nat) (h1 : isK ad ks 54 a1) (x2 : Int32) (hl : Cond.methodLink own index yX12_canDig ∈ sg_tbl) (hsize : ls.size = nL) (hst : st0 = [.ref a1, .int x2].reverse ++ .ref a0 :: rest) (hW : (rest.map fun v => v.category).sum ≤ 8) (hR : 2 ≤ R.frames ∧ 43 ≤ R.locals) (hf : cells ≤ R.cells ∧ slots ≤ R.slots) (hdg : decode cc pc = .ok (.invokevirtual index, 3)) (kk : ∀ (r : Int32) (locs1 : List Loc), (fun r : Int32 => iv 0 1 r) r → va_S A s.heap H locs1 → W p l e R s m args below meth c H locs1 cells slots Q (F0 m (pc + 3) ls (.int r :: rest))) : W p l e R s m args below meth c H locs cells slots Q (F0 m pc ls st0) :=
  sg_callPVi X hK hG hC hA hS hb (m_X12_canDig_1 l hp4 a0 h0 a1 h1 x2) h0 (k := 12) (ci := 12) rfl (C := RX12) (T := TX12) (N := 53) rfl wl_8_143 wl_1_13 wl_8_142 wl_0_84 (n := 2) (by decide +kernel) rfl rfl rfl hl hsize hst hW hR hf hdg kk

set_option maxHeartbeats 8000000 in
set_option maxRecDepth 100000 in
theorem m_X12_law (l : Launch) {D : va_G} {base : Nat} {tys : List (ClassId × FieldType)} {ad ks : List Nat} {P : sgPm} (a0 : Nat) (h0 : isK ad ks 12 a0) (x1 : Int32) : sgMi l (KT P) D vwCl base tys ad ks yX12_law cX12_law 2 (some .boolean) ({ frames := 1, cells := 0, slots := 0, locals := 25 }) [.ref a0, .int x1] (fun r : Int32 => iv 0 1 r) := by
  refine sg_ofW (by decide +kernel) (Nat.le_of_ble_eq_true rfl) (fun p e s m below meth c X hr hlk hb hK hC hG ls hl => ?_)
  have hS : va_S (fun q : Nat => base ≤ q) s.heap s.heap [] := va_S.rf
  have hl : lv_has ls 2 [(0, .ref a0), (1, .int x1)] := hl
  refine lv_aload_n X.1 X.2.1 dX12_law_0 rfl (lv_at hl 0 rfl) ?_
  refine lv_iconst (v := 0) X.1 X.2.1 dX12_law_1 (by decide +kernel) ?_
  refine pf_X12_0 X hK hG hS h0 wl_6_178 ⟨_, rfl, (iv_top _)⟩ dX12_law_2 (fun H locs hG hS ku1 ru1 => ?_)
  refine lv_iload_n X.1 X.2.1 dX12_law_5 rfl (lv_at hl 1 rfl) ?_
  refine lv_iconst (v := (-1)) X.1 X.2.1 dX12_law_6 (by decide +kernel) ?_
  refine lv_icmp_eq (tgt := 28) X.1 X.2.1 dX12_law_7 (by decide) (fun c2 => ?_) (fun c2 => ?_)
  · refine lv_aload_n X.1 X.2.1 dX12_law_28 rfl (lv_at hl 0 rfl) ?_
    refine lv_iload_n X.1 X.2.1 dX12_law_29 rfl (lv_at hl 1 rfl) ?_
    refine pf_X12_34 X hK hG hS h0 wl_6_212 ⟨_, rfl, (iv_of (iv_eqm (a' := (-1)) (b' := (-1)) c2 (iv_top x1) (iv_c (-1) (a := (-1)) (b := (-1)) (by decide +kernel)) (by decide +kernel)) (a' := (-1)) (b' := 3) (by decide +kernel))⟩ dX12_law_30 (fun H locs hG hS ku3 ru3 => ?_)
    refine lv_iconst (v := 1) X.1 X.2.1 dX12_law_33 (by decide +kernel) ?_
    exact sg_zret X hr (sg_zn (iv_of (iv_c 1 (a := 1) (b := 1) (by decide +kernel)) (a' := 0) (b' := 1) (by decide +kernel))) hlk hb hK hC hG hS (iv_of (iv_c 1 (a := 1) (b := 1) (by decide +kernel)) (a' := 0) (b' := 1) (by decide +kernel)) dX12_law_34
  · refine lv_iload_n X.1 X.2.1 dX12_law_10 rfl (lv_at hl 1 rfl) ?_
    obtain ⟨g4, eg4⟩ : ∃ y : Int64, y = (x1 : Int32).toInt64 := ⟨_, rfl⟩
    refine lv_i2l (v := g4) X.1 X.2.1 dX12_law_11 eg4.symm ?_
    refine lv_lconst (v := 0) X.1 X.2.1 dX12_law_12 (by decide +kernel) ?_
    refine lv_aload_n X.1 X.2.1 dX12_law_13 rfl (lv_at hl 0 rfl) ?_
    refine gf_X12_7 X hK hG h0 wl_6_185 dX12_law_14 (fun f5 hf5 pf5 kf5 => ?_)
    refine lv_iconst (v := 1) X.1 X.2.1 dX12_law_17 (by decide +kernel) ?_
    refine lv_isub X.1 X.2.1 dX12_law_18 ?_
    refine lv_topi (fun f6 ef6 => ?_)
    obtain ⟨g7, eg7⟩ : ∃ y : Int64, y = (f6 : Int32).toInt64 := ⟨_, rfl⟩
    refine lv_i2l (v := g7) X.1 X.2.1 dX12_law_19 eg7.symm ?_
    refine ca_X12_isIn X hK hG hC (fun _ h => h) hS hb g4 0 g7 wl_7_119 hl.1 (rest := []) rfl (Nat.le_of_ble_eq_true rfl) ⟨Nat.le_of_ble_eq_true rfl, Nat.le_of_ble_eq_true rfl⟩ ⟨Nat.le_of_ble_eq_true rfl, Nat.le_of_ble_eq_true rfl⟩ dX12_law_20 (fun f8 locs hf8 hS => ?_)
    refine lv_if_ne (tgt := 28) X.1 X.2.1 dX12_law_23 (by decide) (fun c9 => ?_) (fun c9 => ?_)
    · have ilq10 : x1.toInt ≤ f6.toInt := sg_isinI (hf8.2 c9) eg4 eg7
      refine lv_aload_n X.1 X.2.1 dX12_law_28 rfl (lv_at hl 0 rfl) ?_
      refine lv_iload_n X.1 X.2.1 dX12_law_29 rfl (lv_at hl 1 rfl) ?_
      refine pf_X12_34 X hK hG hS h0 wl_6_212 ⟨_, rfl, (iv_of (sg_isin (a := 0) (b := 3) (hf8.2 c9) eg4 (by decide +kernel) (sg_lbu eg7 (iv_sub (a' := (-1)) (b' := 3) ef6 hf5 (iv_c 1 (a := 1) (b := 1) (by decide +kernel)) (by decide +kernel)))) (a' := (-1)) (b' := 3) (by decide +kernel))⟩ dX12_law_30 (fun H locs hG hS ku11 ru11 => ?_)
      refine lv_iconst (v := 1) X.1 X.2.1 dX12_law_33 (by decide +kernel) ?_
      exact sg_zret X hr (sg_zn (iv_of (iv_c 1 (a := 1) (b := 1) (by decide +kernel)) (a' := 0) (b' := 1) (by decide +kernel))) hlk hb hK hC hG hS (iv_of (iv_c 1 (a := 1) (b := 1) (by decide +kernel)) (a' := 0) (b' := 1) (by decide +kernel)) dX12_law_34
    · refine lv_iconst (v := 0) X.1 X.2.1 dX12_law_26 (by decide +kernel) ?_
      exact sg_zret X hr (sg_zn (iv_of (iv_c 0 (a := 0) (b := 0) (by decide +kernel)) (a' := 0) (b' := 1) (by decide +kernel))) hlk hb hK hC hG hS (iv_of (iv_c 0 (a := 0) (b := 0) (by decide +kernel)) (a' := 0) (b' := 1) (by decide +kernel)) dX12_law_27

theorem ca_X12_law   (X : CallFix p m c cc nL s args sg_tbl own) (hK : va_K D vwCl tys s) (hG : sgG (KT P) D vwCl (fun q : Nat => base ≤ q) tys ad ks H) (hC : sgC base s) (hS : va_S (fun q : Nat => base ≤ q) s.heap H locs) (hb : base ≤ s.heap.size) (a0 : Nat) (h0 : isK ad ks 12 a0) (x1 : Int32) (hl : Cond.methodLink own index yX12_law ∈ sg_tbl) (hsize : ls.size = nL) (hst : st0 = [.int x1].reverse ++ .ref a0 :: rest) (hW : (rest.map fun v => v.category).sum ≤ 8) (hR : 2 ≤ R.frames ∧ 46 ≤ R.locals) (hf : cells ≤ R.cells ∧ slots ≤ R.slots) (hdg : decode cc pc = .ok (.invokevirtual index, 3)) (kk : ∀ (r : Int32) (H1 : Heap) (locs1 : List Loc), (fun r : Int32 => iv 0 1 r) r → sgG (KT P) D vwCl (fun q : Nat => base ≤ q) tys ad ks H1 → va_S (fun q : Nat => base ≤ q) s.heap H1 locs1 → W p l e R s m args below meth c H1 locs1 cells slots Q (F0 m (pc + 3) ls (.int r :: rest))) : W p l e R s m args below meth c H locs cells slots Q (F0 m pc ls st0) :=
  sg_callVi X hK hG hC hS hb (m_X12_law l a0 h0 x1) h0 (k := 12) (ci := 12) rfl (C := RX12) (T := TX12) (N := 53) rfl wl_8_80 wl_1_13 wl_8_78 wl_8_79 (n := 1) (by decide +kernel) rfl rfl rfl hl hsize hst hW hR hf hdg kk

set_option maxHeartbeats 8000000 in
set_option maxRecDepth 100000 in
theorem m_X12_isCell_0 (l : Launch) {D : va_G} {base : Nat} {tys : List (ClassId × FieldType)} {ad ks : List Nat} {P : sgPm} {Hx : Heap} (hp4 : P.2.2.2.2.1 = false) (a0 : Nat) (h0 : isK ad ks 12 a0) (x1 : Int32) : sgPi l (KT P) D vwCl base tys ad ks Hx yX12_isCell cX12_isCell 2 (some .boolean) ({ frames := 0, cells := 0, slots := 0, locals := 0 }) [.ref a0, .int x1] (fun r : Int32 => iv 0 0 r) := by
  refine sg_ofP (Pq := fun Hx => va_Qi (fun r (_ : Unit) => (fun r : Int32 => iv 0 0 r) r) (fun _ t => t.heap = Hx) (fun _ : Nat => False)) (by decide +kernel) (Nat.le_of_ble_eq_true rfl) (fun p e s m below meth c X hr hlk hb hK hC hG ls hl => ?_)
  have hS : va_S (fun _ : Nat => False) s.heap s.heap [] := va_S.rf
  have hl : lv_has ls 2 [(0, .ref a0), (1, .int x1)] := hl
  refine lv_iload_n X.1 X.2.1 dX12_isCell_0 rfl (lv_at hl 1 rfl) ?_
  have B2_16 : ∀ (locs : List Loc) (ls : Array Slot), va_S (fun _ : Nat => False) s.heap s.heap locs → lv_has ls 2 [] → W p l e (headSpec (Cond.code yX12_isCell cX12_isCell 2 (some .boolean) :: sg_tbl) ({ frames := 0, cells := 0, slots := 0, locals := 0 })).room s m #[.ref a0, .int x1] below meth c s.heap locs 0 0 (MQ below (va_Qi (fun r (_ : Unit) => (fun r : Int32 => iv 0 0 r) r) (fun _ t => t.heap = s.heap) (fun _ : Nat => False)) #[.ref a0, .int x1] s 0 0 (fun _ : Nat => False)) (F0 m 16 ls []) := by
    intro locs ls hS hl
    refine lv_iconst (v := 0) X.1 X.2.1 dX12_isCell_16 (by decide +kernel) ?_
    exact sg_zretP X hr (sg_zn (iv_of (iv_c 0 (a := 0) (b := 0) (by decide +kernel)) (a' := 0) (b' := 1) (by decide +kernel))) hlk hS (iv_c 0 (a := 0) (b := 0) (by decide +kernel)) dX12_isCell_17
  refine lv_if_lt (tgt := 16) X.1 X.2.1 dX12_isCell_1 (by decide) (fun c1 => ?_) (fun c1 => ?_)
  · exact B2_16 _ _ hS (lv_sub hl [] rfl)
  · refine lv_iload_n X.1 X.2.1 dX12_isCell_4 rfl (lv_at hl 1 rfl) ?_
    refine lv_aload_n X.1 X.2.1 dX12_isCell_5 rfl (lv_at hl 0 rfl) ?_
    refine gf_X12_23n X hK hG h0 hp4 wl_6_201 dX12_isCell_6 (fun f3 hf3 kf3 => ?_)
    refine lv_icmp_ge (tgt := 16) X.1 X.2.1 dX12_isCell_9 (by decide) (fun c4 => ?_) (fun c4 => ?_)
    · exact B2_16 _ _ hS (lv_sub hl [] rfl)
    · exact ((iv_no (iv_lt (b' := (-1)) (iv_gt_of c4) (iv_ler (c' := 0) (iv_ge_of c1) (iv_c 0 (a := 0) (b := 0) (by decide +kernel)) (iv_top x1) (by decide +kernel)) hf3 (by decide +kernel)) (by decide +kernel))).elim

theorem ca_X12_isCell_0   (X : CallFix p m c cc nL s args sg_tbl own) (hK : va_K D vwCl tys s) (hG : sgG (KT P) D vwCl (fun q : Nat => base ≤ q) tys ad ks H) (hC : sgC base s) (hA : ∀ q : Nat, A q → base ≤ q) (hS : va_S A s.heap H locs) (hb : base ≤ s.heap.size) (hp4 : P.2.2.2.2.1 = false) (a0 : Nat) (h0 : isK ad ks 12 a0) (x1 : Int32) (hl : Cond.methodLink own index yX12_isCell ∈ sg_tbl) (hsize : ls.size = nL) (hst : st0 = [.int x1].reverse ++ .ref a0 :: rest) (hW : (rest.map fun v => v.category).sum ≤ 8) (hR : 1 ≤ R.frames ∧ 21 ≤ R.locals) (hf : cells ≤ R.cells ∧ slots ≤ R.slots) (hdg : decode cc pc = .ok (.invokevirtual index, 3)) (kk : ∀ (r : Int32) (locs1 : List Loc), (fun r : Int32 => iv 0 0 r) r → va_S A s.heap H locs1 → W p l e R s m args below meth c H locs1 cells slots Q (F0 m (pc + 3) ls (.int r :: rest))) : W p l e R s m args below meth c H locs cells slots Q (F0 m pc ls st0) :=
  sg_callPVi X hK hG hC hA hS hb (m_X12_isCell_0 l hp4 a0 h0 x1) h0 (k := 12) (ci := 12) rfl (C := RX12) (T := TX12) (N := 53) rfl wl_8_58 wl_1_13 wl_8_57 wl_0_72 (n := 1) (by decide +kernel) rfl rfl rfl hl hsize hst hW hR hf hdg kk

set_option maxHeartbeats 8000000 in
set_option maxRecDepth 100000 in
theorem m_X12_isOpen_0 (l : Launch) {D : va_G} {base : Nat} {tys : List (ClassId × FieldType)} {ad ks : List Nat} {P : sgPm} {Hx : Heap} (hp4 : P.2.2.2.2.1 = false) (a0 : Nat) (h0 : isK ad ks 12 a0) (a1 : Nat) (h1 : isK ad ks 54 a1) : sgPi l (KT P) D vwCl base tys ad ks Hx yX12_isOpen cX12_isOpen 2 (some .boolean) ({ frames := 0, cells := 0, slots := 0, locals := 0 }) [.ref a0, .ref a1] (fun r : Int32 => iv 0 0 r) := by
  refine sg_ofP (Pq := fun Hx => va_Qi (fun r (_ : Unit) => (fun r : Int32 => iv 0 0 r) r) (fun _ t => t.heap = Hx) (fun _ : Nat => False)) (by decide +kernel) (Nat.le_of_ble_eq_true rfl) (fun p e s m below meth c X hr hlk hb hK hC hG ls hl => ?_)
  have hS : va_S (fun _ : Nat => False) s.heap s.heap [] := va_S.rf
  have hl : lv_has ls 2 [(0, .ref a0), (1, .ref a1)] := hl
  refine lv_aload_n X.1 X.2.1 dX12_isOpen_0 rfl (lv_at hl 0 rfl) ?_
  refine gf_X12_23n X hK hG h0 hp4 wl_6_201 dX12_isOpen_1 (fun f1 hf1 kf1 => ?_)
  have B3_17 : ∀ (locs : List Loc) (ls : Array Slot), va_S (fun _ : Nat => False) s.heap s.heap locs → lv_has ls 2 [] → W p l e (headSpec (Cond.code yX12_isOpen cX12_isOpen 2 (some .boolean) :: sg_tbl) ({ frames := 0, cells := 0, slots := 0, locals := 0 })).room s m #[.ref a0, .ref a1] below meth c s.heap locs 0 0 (MQ below (va_Qi (fun r (_ : Unit) => (fun r : Int32 => iv 0 0 r) r) (fun _ t => t.heap = s.heap) (fun _ : Nat => False)) #[.ref a0, .ref a1] s 0 0 (fun _ : Nat => False)) (F0 m 17 ls []) := by
    intro locs ls hS hl
    refine lv_iconst (v := 0) X.1 X.2.1 dX12_isOpen_17 (by decide +kernel) ?_
    exact sg_zretP X hr (sg_zn (iv_of (iv_c 0 (a := 0) (b := 0) (by decide +kernel)) (a' := 0) (b' := 1) (by decide +kernel))) hlk hS (iv_c 0 (a := 0) (b := 0) (by decide +kernel)) dX12_isOpen_18
  refine lv_if_le (tgt := 17) X.1 X.2.1 dX12_isOpen_4 (by decide) (fun c2 => ?_) (fun c2 => ?_)
  · exact B3_17 _ _ hS (lv_sub hl [] rfl)
  · exact ((iv_no (iv_lt (b' := (-1)) (iv_gt_of c2) (iv_c 0 (a := 0) (b := 0) (by decide +kernel)) hf1 (by decide +kernel)) (by decide +kernel))).elim

theorem ca_X12_isOpen_0   (X : CallFix p m c cc nL s args sg_tbl own) (hK : va_K D vwCl tys s) (hG : sgG (KT P) D vwCl (fun q : Nat => base ≤ q) tys ad ks H) (hC : sgC base s) (hA : ∀ q : Nat, A q → base ≤ q) (hS : va_S A s.heap H locs) (hb : base ≤ s.heap.size) (hp4 : P.2.2.2.2.1 = false) (a0 : Nat) (h0 : isK ad ks 12 a0) (a1 : Nat) (h1 : isK ad ks 54 a1) (hl : Cond.methodLink own index yX12_isOpen ∈ sg_tbl) (hsize : ls.size = nL) (hst : st0 = [.ref a1].reverse ++ .ref a0 :: rest) (hW : (rest.map fun v => v.category).sum ≤ 8) (hR : 1 ≤ R.frames ∧ 21 ≤ R.locals) (hf : cells ≤ R.cells ∧ slots ≤ R.slots) (hdg : decode cc pc = .ok (.invokevirtual index, 3)) (kk : ∀ (r : Int32) (locs1 : List Loc), (fun r : Int32 => iv 0 0 r) r → va_S A s.heap H locs1 → W p l e R s m args below meth c H locs1 cells slots Q (F0 m (pc + 3) ls (.int r :: rest))) : W p l e R s m args below meth c H locs cells slots Q (F0 m pc ls st0) :=
  sg_callPVi X hK hG hC hA hS hb (m_X12_isOpen_0 l hp4 a0 h0 a1 h1) h0 (k := 12) (ci := 12) rfl (C := RX12) (T := TX12) (N := 53) rfl wl_8_97 wl_1_13 wl_8_96 wl_0_77 (n := 1) (by decide +kernel) rfl rfl rfl hl hsize hst hW hR hf hdg kk

set_option maxHeartbeats 8000000 in
set_option maxRecDepth 100000 in
theorem m_X12_isGrass_0 (l : Launch) {D : va_G} {base : Nat} {tys : List (ClassId × FieldType)} {ad ks : List Nat} {P : sgPm} {Hx : Heap} (hp4 : P.2.2.2.2.1 = false) (a0 : Nat) (h0 : isK ad ks 12 a0) (x1 : Int32) : sgPi l (KT P) D vwCl base tys ad ks Hx yX12_isGrass cX12_isGrass 2 (some .boolean) ({ frames := 1, cells := 0, slots := 0, locals := 21 }) [.ref a0, .int x1] (fun r : Int32 => iv 0 0 r) := by
  refine sg_ofP (Pq := fun Hx => va_Qi (fun r (_ : Unit) => (fun r : Int32 => iv 0 0 r) r) (fun _ t => t.heap = Hx) (fun _ : Nat => False)) (by decide +kernel) (Nat.le_of_ble_eq_true rfl) (fun p e s m below meth c X hr hlk hb hK hC hG ls hl => ?_)
  have hS : va_S (fun _ : Nat => False) s.heap s.heap [] := va_S.rf
  have hl : lv_has ls 2 [(0, .ref a0), (1, .int x1)] := hl
  refine lv_aload_n X.1 X.2.1 dX12_isGrass_0 rfl (lv_at hl 0 rfl) ?_
  refine lv_iload_n X.1 X.2.1 dX12_isGrass_1 rfl (lv_at hl 1 rfl) ?_
  refine ca_X12_isCell_0 X hK hG hC (fun _ h => h.elim) hS hb hp4 a0 h0 x1 wl_8_55 hl.1 (rest := []) rfl (Nat.le_of_ble_eq_true rfl) ⟨Nat.le_of_ble_eq_true rfl, Nat.le_of_ble_eq_true rfl⟩ ⟨Nat.le_of_ble_eq_true rfl, Nat.le_of_ble_eq_true rfl⟩ dX12_isGrass_2 (fun f1 locs hf1 hS => ?_)
  have B3_37 : ∀ (locs : List Loc) (ls : Array Slot), va_S (fun _ : Nat => False) s.heap s.heap locs → lv_has ls 2 [] → W p l e (headSpec (Cond.code yX12_isGrass cX12_isGrass 2 (some .boolean) :: sg_tbl) ({ frames := 1, cells := 0, slots := 0, locals := 21 })).room s m #[.ref a0, .int x1] below meth c s.heap locs 0 0 (MQ below (va_Qi (fun r (_ : Unit) => (fun r : Int32 => iv 0 0 r) r) (fun _ t => t.heap = s.heap) (fun _ : Nat => False)) #[.ref a0, .int x1] s 0 0 (fun _ : Nat => False)) (F0 m 37 ls []) := by
    intro locs ls hS hl
    refine lv_iconst (v := 0) X.1 X.2.1 dX12_isGrass_37 (by decide +kernel) ?_
    exact sg_zretP X hr (sg_zn (iv_of (iv_c 0 (a := 0) (b := 0) (by decide +kernel)) (a' := 0) (b' := 1) (by decide +kernel))) hlk hS (iv_c 0 (a := 0) (b := 0) (by decide +kernel)) dX12_isGrass_38
  refine lv_if_eq (tgt := 37) X.1 X.2.1 dX12_isGrass_5 (by decide) (fun c2 => ?_) (fun c2 => ?_)
  · exact B3_37 _ _ hS (lv_sub hl [] rfl)
  · exact ((c2 (iv_one hf1 (iv_c 0 (a := 0) (b := 0) (by decide +kernel)) (by decide +kernel)))).elim

theorem ca_X12_isGrass_0   (X : CallFix p m c cc nL s args sg_tbl own) (hK : va_K D vwCl tys s) (hG : sgG (KT P) D vwCl (fun q : Nat => base ≤ q) tys ad ks H) (hC : sgC base s) (hA : ∀ q : Nat, A q → base ≤ q) (hS : va_S A s.heap H locs) (hb : base ≤ s.heap.size) (hp4 : P.2.2.2.2.1 = false) (a0 : Nat) (h0 : isK ad ks 12 a0) (x1 : Int32) (hl : Cond.methodLink own index yX12_isGrass ∈ sg_tbl) (hsize : ls.size = nL) (hst : st0 = [.int x1].reverse ++ .ref a0 :: rest) (hW : (rest.map fun v => v.category).sum ≤ 8) (hR : 2 ≤ R.frames ∧ 42 ≤ R.locals) (hf : cells ≤ R.cells ∧ slots ≤ R.slots) (hdg : decode cc pc = .ok (.invokevirtual index, 3)) (kk : ∀ (r : Int32) (locs1 : List Loc), (fun r : Int32 => iv 0 0 r) r → va_S A s.heap H locs1 → W p l e R s m args below meth c H locs1 cells slots Q (F0 m (pc + 3) ls (.int r :: rest))) : W p l e R s m args below meth c H locs cells slots Q (F0 m pc ls st0) :=
  sg_callPVi X hK hG hC hA hS hb (m_X12_isGrass_0 l hp4 a0 h0 x1) h0 (k := 12) (ci := 12) rfl (C := RX12) (T := TX12) (N := 53) rfl wl_9_91 wl_1_13 wl_9_90 wl_0_108 (n := 1) (by decide +kernel) rfl rfl rfl hl hsize hst hW hR hf hdg kk

set_option maxHeartbeats 8000000 in
set_option maxRecDepth 100000 in
theorem m_X12_rule_0 (l : Launch) {D : va_G} {base : Nat} {tys : List (ClassId × FieldType)} {ad ks : List Nat} {P : sgPm} (hp4 : P.2.2.2.2.1 = false) (a0 : Nat) (h0 : isK ad ks 12 a0) (x1 : Int32) : sgMi l (KT P) D vwCl base tys ad ks yX12_rule cX12_rule 2 (some .int) ({ frames := 0, cells := 0, slots := 0, locals := 0 }) [.ref a0, .int x1] (fun r : Int32 => True) := by
  refine sg_ofW (by decide +kernel) (Nat.le_of_ble_eq_true rfl) (fun p e s m below meth c X hr hlk hb hK hC hG ls hl => ?_)
  have hS : va_S (fun q : Nat => base ≤ q) s.heap s.heap [] := va_S.rf
  have hl : lv_has ls 2 [(0, .ref a0), (1, .int x1)] := hl
  refine lv_aload_n X.1 X.2.1 dX12_rule_0 rfl (lv_at hl 0 rfl) ?_
  refine lv_iconst (v := 0) X.1 X.2.1 dX12_rule_1 (by decide +kernel) ?_
  refine pf_X12_0 X hK hG hS h0 wl_6_178 ⟨_, rfl, (iv_top _)⟩ dX12_rule_2 (fun H locs hG hS ku1 ru1 => ?_)
  refine lv_aload_n X.1 X.2.1 dX12_rule_5 rfl (lv_at hl 0 rfl) ?_
  refine gf_X12_23n X hK hG h0 hp4 wl_6_201 dX12_rule_6 (fun f2 hf2 kf2 => ?_)
  have B4_33 : ∀ (locs : List Loc) (ls : Array Slot), va_S (fun q : Nat => base ≤ q) s.heap H locs → lv_has ls 2 [] → W p l e (headSpec (Cond.code yX12_rule cX12_rule 2 (some .int) :: sg_tbl) ({ frames := 0, cells := 0, slots := 0, locals := 0 })).room s m #[.ref a0, .int x1] below meth c H locs 0 0 (MQ below (va_Qi (fun r (_ : Unit) => (fun r : Int32 => True) r) (fun _ => sgB (KT P) D vwCl base tys ad ks) (fun q : Nat => base ≤ q)) #[.ref a0, .int x1] s 0 0 (fun q : Nat => base ≤ q)) (F0 m 33 ls []) := by
    intro locs ls hS hl
    refine lv_iconst (v := (-1)) X.1 X.2.1 dX12_rule_33 (by decide +kernel) ?_
    exact sg_iret X hr hlk hb hK hC hG hS trivial dX12_rule_34
  refine lv_if_le (tgt := 33) X.1 X.2.1 dX12_rule_9 (by decide) (fun c3 => ?_) (fun c3 => ?_)
  · exact B4_33 _ _ hS (lv_sub hl [] rfl)
  · exact ((iv_no (iv_lt (b' := (-1)) (iv_gt_of c3) (iv_c 0 (a := 0) (b := 0) (by decide +kernel)) hf2 (by decide +kernel)) (by decide +kernel))).elim

theorem ca_X12_rule_0   (X : CallFix p m c cc nL s args sg_tbl own) (hK : va_K D vwCl tys s) (hG : sgG (KT P) D vwCl (fun q : Nat => base ≤ q) tys ad ks H) (hC : sgC base s) (hS : va_S (fun q : Nat => base ≤ q) s.heap H locs) (hb : base ≤ s.heap.size) (hp4 : P.2.2.2.2.1 = false) (a0 : Nat) (h0 : isK ad ks 12 a0) (x1 : Int32) (hl : Cond.methodLink own index yX12_rule ∈ sg_tbl) (hsize : ls.size = nL) (hst : st0 = [.int x1].reverse ++ .ref a0 :: rest) (hW : (rest.map fun v => v.category).sum ≤ 8) (hR : 1 ≤ R.frames ∧ 21 ≤ R.locals) (hf : cells ≤ R.cells ∧ slots ≤ R.slots) (hdg : decode cc pc = .ok (.invokevirtual index, 3)) (kk : ∀ (r : Int32) (H1 : Heap) (locs1 : List Loc), (fun r : Int32 => True) r → sgG (KT P) D vwCl (fun q : Nat => base ≤ q) tys ad ks H1 → va_S (fun q : Nat => base ≤ q) s.heap H1 locs1 → W p l e R s m args below meth c H1 locs1 cells slots Q (F0 m (pc + 3) ls (.int r :: rest))) : W p l e R s m args below meth c H locs cells slots Q (F0 m pc ls st0) :=
  sg_callVi X hK hG hC hS hb (m_X12_rule_0 l hp4 a0 h0 x1) h0 (k := 12) (ci := 12) rfl (C := RX12) (T := TX12) (N := 53) rfl wl_8_49 wl_1_13 wl_8_47 wl_8_48 (n := 1) (by decide +kernel) rfl rfl rfl hl hsize hst hW hR hf hdg kk

set_option maxHeartbeats 8000000 in
set_option maxRecDepth 100000 in
theorem m_X12_parts_0 (l : Launch) {D : va_G} {base : Nat} {tys : List (ClassId × FieldType)} {ad ks : List Nat} {P : sgPm} (hp4 : P.2.2.2.2.1 = false) (a0 : Nat) (h0 : isK ad ks 12 a0) (x1 : Int32) : sgMi l (KT P) D vwCl base tys ad ks yX12_parts cX12_parts 2 (some .int) ({ frames := 0, cells := 0, slots := 0, locals := 0 }) [.ref a0, .int x1] (fun r : Int32 => True) := by
  refine sg_ofW (by decide +kernel) (Nat.le_of_ble_eq_true rfl) (fun p e s m below meth c X hr hlk hb hK hC hG ls hl => ?_)
  have hS : va_S (fun q : Nat => base ≤ q) s.heap s.heap [] := va_S.rf
  have hl : lv_has ls 2 [(0, .ref a0), (1, .int x1)] := hl
  refine lv_aload_n X.1 X.2.1 dX12_parts_0 rfl (lv_at hl 0 rfl) ?_
  refine lv_iconst (v := 0) X.1 X.2.1 dX12_parts_1 (by decide +kernel) ?_
  refine pf_X12_0 X hK hG hS h0 wl_6_178 ⟨_, rfl, (iv_top _)⟩ dX12_parts_2 (fun H locs hG hS ku1 ru1 => ?_)
  refine lv_aload_n X.1 X.2.1 dX12_parts_5 rfl (lv_at hl 0 rfl) ?_
  refine gf_X12_23n X hK hG h0 hp4 wl_6_201 dX12_parts_6 (fun f2 hf2 kf2 => ?_)
  have B4_17 : ∀ (locs : List Loc) (ls : Array Slot), va_S (fun q : Nat => base ≤ q) s.heap H locs → lv_has ls 2 [] → W p l e (headSpec (Cond.code yX12_parts cX12_parts 2 (some .int) :: sg_tbl) ({ frames := 0, cells := 0, slots := 0, locals := 0 })).room s m #[.ref a0, .int x1] below meth c H locs 0 0 (MQ below (va_Qi (fun r (_ : Unit) => (fun r : Int32 => True) r) (fun _ => sgB (KT P) D vwCl base tys ad ks) (fun q : Nat => base ≤ q)) #[.ref a0, .int x1] s 0 0 (fun q : Nat => base ≤ q)) (F0 m 17 ls []) := by
    intro locs ls hS hl
    refine lv_iconst (v := (-1)) X.1 X.2.1 dX12_parts_17 (by decide +kernel) ?_
    refine lv_goto (tgt := 26) X.1 X.2.1 dX12_parts_18 (by decide) ?_
    exact sg_iret X hr hlk hb hK hC hG hS trivial dX12_parts_26
  refine lv_if_eq (tgt := 17) X.1 X.2.1 dX12_parts_9 (by decide) (fun c3 => ?_) (fun c3 => ?_)
  · exact B4_17 _ _ hS (lv_sub hl [] rfl)
  · exact ((c3 (iv_one hf2 (iv_c 0 (a := 0) (b := 0) (by decide +kernel)) (by decide +kernel)))).elim

theorem ca_X12_parts_0   (X : CallFix p m c cc nL s args sg_tbl own) (hK : va_K D vwCl tys s) (hG : sgG (KT P) D vwCl (fun q : Nat => base ≤ q) tys ad ks H) (hC : sgC base s) (hS : va_S (fun q : Nat => base ≤ q) s.heap H locs) (hb : base ≤ s.heap.size) (hp4 : P.2.2.2.2.1 = false) (a0 : Nat) (h0 : isK ad ks 12 a0) (x1 : Int32) (hl : Cond.methodLink own index yX12_parts ∈ sg_tbl) (hsize : ls.size = nL) (hst : st0 = [.int x1].reverse ++ .ref a0 :: rest) (hW : (rest.map fun v => v.category).sum ≤ 8) (hR : 1 ≤ R.frames ∧ 21 ≤ R.locals) (hf : cells ≤ R.cells ∧ slots ≤ R.slots) (hdg : decode cc pc = .ok (.invokevirtual index, 3)) (kk : ∀ (r : Int32) (H1 : Heap) (locs1 : List Loc), (fun r : Int32 => True) r → sgG (KT P) D vwCl (fun q : Nat => base ≤ q) tys ad ks H1 → va_S (fun q : Nat => base ≤ q) s.heap H1 locs1 → W p l e R s m args below meth c H1 locs1 cells slots Q (F0 m (pc + 3) ls (.int r :: rest))) : W p l e R s m args below meth c H locs cells slots Q (F0 m pc ls st0) :=
  sg_callVi X hK hG hC hS hb (m_X12_parts_0 l hp4 a0 h0 x1) h0 (k := 12) (ci := 12) rfl (C := RX12) (T := TX12) (N := 53) rfl wl_9_42 wl_1_13 wl_9_40 wl_9_41 (n := 1) (by decide +kernel) rfl rfl rfl hl hsize hst hW hR hf hdg kk

set_option maxHeartbeats 8000000 in
set_option maxRecDepth 100000 in
theorem m_X12_book_0 (l : Launch) {D : va_G} {base : Nat} {tys : List (ClassId × FieldType)} {ad ks : List Nat} {P : sgPm} (hp4 : P.2.2.2.2.1 = false) (a0 : Nat) (h0 : isK ad ks 12 a0) (x1 : Int32) (x2 : Int32) (h2 : iv 0 1 x2) : sgMi l (KT P) D vwCl base tys ad ks yX12_book cX12_book 3 (some .int) ({ frames := 2, cells := 0, slots := 0, locals := 42 }) [.ref a0, .int x1, .int x2] (fun r : Int32 => True) := by
  refine sg_ofW (by decide +kernel) (Nat.le_of_ble_eq_true rfl) (fun p e s m below meth c X hr hlk hb hK hC hG ls hl => ?_)
  have hS : va_S (fun q : Nat => base ≤ q) s.heap s.heap [] := va_S.rf
  have hl : lv_has ls 3 [(0, .ref a0), (1, .int x1), (2, .int x2)] := hl
  refine lv_aload_n X.1 X.2.1 dX12_book_0 rfl (lv_at hl 0 rfl) ?_
  refine lv_iconst (v := 0) X.1 X.2.1 dX12_book_1 (by decide +kernel) ?_
  refine pf_X12_0 X hK hG hS h0 wl_6_178 ⟨_, rfl, (iv_top _)⟩ dX12_book_2 (fun H locs hG hS ku1 ru1 => ?_)
  refine lv_aload_n X.1 X.2.1 dX12_book_5 rfl (lv_at hl 0 rfl) ?_
  refine lv_iload_n X.1 X.2.1 dX12_book_6 rfl (lv_at hl 1 rfl) ?_
  refine ca_X12_isGrass_0 X hK hG hC (fun _ h => h) hS hb hp4 a0 h0 x1 wl_9_88 hl.1 (rest := []) rfl (Nat.le_of_ble_eq_true rfl) ⟨Nat.le_of_ble_eq_true rfl, Nat.le_of_ble_eq_true rfl⟩ ⟨Nat.le_of_ble_eq_true rfl, Nat.le_of_ble_eq_true rfl⟩ dX12_book_7 (fun f2 locs hf2 hS => ?_)
  refine lv_if_eq (tgt := 22) X.1 X.2.1 dX12_book_10 (by decide) (fun c3 => ?_) (fun c3 => ?_)
  · refine lv_iconst (v := (-1)) X.1 X.2.1 dX12_book_22 (by decide +kernel) ?_
    exact sg_iret X hr hlk hb hK hC hG hS trivial dX12_book_23
  · exact ((c3 (iv_one hf2 (iv_c 0 (a := 0) (b := 0) (by decide +kernel)) (by decide +kernel)))).elim

theorem ca_X12_book_0   (X : CallFix p m c cc nL s args sg_tbl own) (hK : va_K D vwCl tys s) (hG : sgG (KT P) D vwCl (fun q : Nat => base ≤ q) tys ad ks H) (hC : sgC base s) (hS : va_S (fun q : Nat => base ≤ q) s.heap H locs) (hb : base ≤ s.heap.size) (hp4 : P.2.2.2.2.1 = false) (a0 : Nat) (h0 : isK ad ks 12 a0) (x1 : Int32) (x2 : Int32) (h2 : iv 0 1 x2) (hl : Cond.methodLink own index yX12_book ∈ sg_tbl) (hsize : ls.size = nL) (hst : st0 = [.int x1, .int x2].reverse ++ .ref a0 :: rest) (hW : (rest.map fun v => v.category).sum ≤ 8) (hR : 3 ≤ R.frames ∧ 64 ≤ R.locals) (hf : cells ≤ R.cells ∧ slots ≤ R.slots) (hdg : decode cc pc = .ok (.invokevirtual index, 3)) (kk : ∀ (r : Int32) (H1 : Heap) (locs1 : List Loc), (fun r : Int32 => True) r → sgG (KT P) D vwCl (fun q : Nat => base ≤ q) tys ad ks H1 → va_S (fun q : Nat => base ≤ q) s.heap H1 locs1 → W p l e R s m args below meth c H1 locs1 cells slots Q (F0 m (pc + 3) ls (.int r :: rest))) : W p l e R s m args below meth c H locs cells slots Q (F0 m pc ls st0) :=
  sg_callVi X hK hG hC hS hb (m_X12_book_0 l hp4 a0 h0 x1 x2 h2) h0 (k := 12) (ci := 12) rfl (C := RX12) (T := TX12) (N := 53) rfl wl_9_87 wl_1_13 wl_9_85 wl_9_86 (n := 2) (by decide +kernel) rfl rfl rfl hl hsize hst hW hR hf hdg kk

set_option maxHeartbeats 8000000 in
set_option maxRecDepth 100000 in
theorem m_X12_fit_0 (l : Launch) {D : va_G} {base : Nat} {tys : List (ClassId × FieldType)} {ad ks : List Nat} {P : sgPm} (hp4 : P.2.2.2.2.1 = false) (a0 : Nat) (h0 : isK ad ks 12 a0) (x1 : Int32) : sgMi l (KT P) D vwCl base tys ad ks yX12_fit cX12_fit 5 (some .int) ({ frames := 0, cells := 0, slots := 0, locals := 0 }) [.ref a0, .int x1] (fun r : Int32 => True) := by
  refine sg_ofW (by decide +kernel) (Nat.le_of_ble_eq_true rfl) (fun p e s m below meth c X hr hlk hb hK hC hG ls hl => ?_)
  have hS : va_S (fun q : Nat => base ≤ q) s.heap s.heap [] := va_S.rf
  have hl : lv_has ls 5 [(0, .ref a0), (1, .int x1)] := hl
  refine lv_aload_n X.1 X.2.1 dX12_fit_0 rfl (lv_at hl 0 rfl) ?_
  refine lv_iconst (v := 0) X.1 X.2.1 dX12_fit_1 (by decide +kernel) ?_
  refine pf_X12_0 X hK hG hS h0 wl_6_178 ⟨_, rfl, (iv_top _)⟩ dX12_fit_2 (fun H locs hG hS ku1 ru1 => ?_)
  refine lv_aload_n X.1 X.2.1 dX12_fit_5 rfl (lv_at hl 0 rfl) ?_
  refine gf_X12_23n X hK hG h0 hp4 wl_6_201 dX12_fit_6 (fun f2 hf2 kf2 => ?_)
  refine lv_if_eq (tgt := 17) X.1 X.2.1 dX12_fit_9 (by decide) (fun c3 => ?_) (fun c3 => ?_)
  · refine lv_iconst (v := (-1)) X.1 X.2.1 dX12_fit_17 (by decide +kernel) ?_
    exact sg_iret X hr hlk hb hK hC hG hS trivial dX12_fit_18
  · exact ((c3 (iv_one hf2 (iv_c 0 (a := 0) (b := 0) (by decide +kernel)) (by decide +kernel)))).elim

theorem ca_X12_fit_0   (X : CallFix p m c cc nL s args sg_tbl own) (hK : va_K D vwCl tys s) (hG : sgG (KT P) D vwCl (fun q : Nat => base ≤ q) tys ad ks H) (hC : sgC base s) (hS : va_S (fun q : Nat => base ≤ q) s.heap H locs) (hb : base ≤ s.heap.size) (hp4 : P.2.2.2.2.1 = false) (a0 : Nat) (h0 : isK ad ks 12 a0) (x1 : Int32) (hl : Cond.methodLink own index yX12_fit ∈ sg_tbl) (hsize : ls.size = nL) (hst : st0 = [.int x1].reverse ++ .ref a0 :: rest) (hW : (rest.map fun v => v.category).sum ≤ 8) (hR : 1 ≤ R.frames ∧ 24 ≤ R.locals) (hf : cells ≤ R.cells ∧ slots ≤ R.slots) (hdg : decode cc pc = .ok (.invokevirtual index, 3)) (kk : ∀ (r : Int32) (H1 : Heap) (locs1 : List Loc), (fun r : Int32 => True) r → sgG (KT P) D vwCl (fun q : Nat => base ≤ q) tys ad ks H1 → va_S (fun q : Nat => base ≤ q) s.heap H1 locs1 → W p l e R s m args below meth c H1 locs1 cells slots Q (F0 m (pc + 3) ls (.int r :: rest))) : W p l e R s m args below meth c H locs cells slots Q (F0 m pc ls st0) :=
  sg_callVi X hK hG hC hS hb (m_X12_fit_0 l hp4 a0 h0 x1) h0 (k := 12) (ci := 12) rfl (C := RX12) (T := TX12) (N := 53) rfl wl_9_95 wl_1_13 wl_9_93 wl_9_94 (n := 1) (by decide +kernel) rfl rfl rfl hl hsize hst hW hR hf hdg kk

set_option maxHeartbeats 8000000 in
set_option maxRecDepth 100000 in
theorem m_X12_tells_0 (l : Launch) {D : va_G} {base : Nat} {tys : List (ClassId × FieldType)} {ad ks : List Nat} {P : sgPm} (hp4 : P.2.2.2.2.1 = false) (a0 : Nat) (h0 : isK ad ks 12 a0) : sgMi l (KT P) D vwCl base tys ad ks yX12_tells cX12_tells 8 (some .int) ({ frames := 0, cells := 0, slots := 0, locals := 0 }) [.ref a0] (fun r : Int32 => True) := by
  refine sg_ofW (by decide +kernel) (Nat.le_of_ble_eq_true rfl) (fun p e s m below meth c X hr hlk hb hK hC hG ls hl => ?_)
  have hS : va_S (fun q : Nat => base ≤ q) s.heap s.heap [] := va_S.rf
  have hl : lv_has ls 8 [(0, .ref a0)] := hl
  refine lv_aload_n X.1 X.2.1 dX12_tells_0 rfl (lv_at hl 0 rfl) ?_
  refine lv_iconst (v := 0) X.1 X.2.1 dX12_tells_1 (by decide +kernel) ?_
  refine pf_X12_0 X hK hG hS h0 wl_6_178 ⟨_, rfl, (iv_top _)⟩ dX12_tells_2 (fun H locs hG hS ku1 ru1 => ?_)
  refine lv_iconst (v := (-1)) X.1 X.2.1 dX12_tells_5 (by decide +kernel) ?_
  refine lv_istore_n (lv' := [(1, .int (-1)), (0, .ref a0)]) X.1 X.2.1 dX12_tells_6 rfl hl (by decide) rfl (fun ls hl => ?_)
  refine lv_iconst (v := 0) X.1 X.2.1 dX12_tells_7 (by decide +kernel) ?_
  refine lv_istore_n (lv' := [(2, .int 0), (1, .int (-1)), (0, .ref a0)]) X.1 X.2.1 dX12_tells_8 rfl hl (by decide) rfl (fun ls hl => ?_)
  refine lv_iconst (v := 0) X.1 X.2.1 dX12_tells_9 (by decide +kernel) ?_
  refine lv_istore_n (lv' := [(3, .int 0), (2, .int 0), (1, .int (-1)), (0, .ref a0)]) X.1 X.2.1 dX12_tells_10 rfl hl (by decide) rfl (fun ls hl => ?_)
  have B2_11 : ∀ (N : Nat) (locs : List Loc) (ls : Array Slot) (z2_1 : Int32) (z2_2 : Int32) (z2_3 : Int32), va_S (fun q : Nat => base ≤ q) s.heap H locs → lv_has ls 8 [(0, .ref a0), (1, .int z2_1), (2, .int z2_2), (3, .int z2_3)] → iv (-1) (-1) z2_1 → iv 0 0 z2_2 → iv 0 0 z2_3 → (1 - z2_3.toInt).toNat ≤ N → W p l e (headSpec (Cond.code yX12_tells cX12_tells 8 (some .int) :: sg_tbl) ({ frames := 0, cells := 0, slots := 0, locals := 0 })).room s m #[.ref a0] below meth c H locs 0 0 (MQ below (va_Qi (fun r (_ : Unit) => (fun r : Int32 => True) r) (fun _ => sgB (KT P) D vwCl base tys ad ks) (fun q : Nat => base ≤ q)) #[.ref a0] s 0 0 (fun q : Nat => base ≤ q)) (F0 m 11 ls []) := by
    intro N; induction N with
    | zero =>
      intro locs ls z2_1 z2_2 z2_3 hS hl hz2_1 hz2_2 hz2_3 hN
      exact absurd hN (by have := iv_up hz2_3; omega)
    | succ N ih2 =>
      intro locs ls z2_1 z2_2 z2_3 hS hl hz2_1 hz2_2 hz2_3 hN2
      refine lv_iload_n X.1 X.2.1 dX12_tells_11 rfl (lv_at hl 3 rfl) ?_
      refine lv_aload_n X.1 X.2.1 dX12_tells_12 rfl (lv_at hl 0 rfl) ?_
      refine gf_X12_23n X hK hG h0 hp4 wl_6_201 dX12_tells_13 (fun f3 hf3 kf3 => ?_)
      refine lv_icmp_ge (tgt := 146) X.1 X.2.1 dX12_tells_16 (by decide) (fun c4 => ?_) (fun c4 => ?_)
      · refine lv_iload_n X.1 X.2.1 dX12_tells_146 rfl (lv_at hl 1 rfl) ?_
        exact sg_iret X hr hlk hb hK hC hG hS trivial dX12_tells_147
      · exact ((iv_no (iv_lt (b' := (-1)) (iv_gt_of c4) hz2_3 hf3 (by decide +kernel)) (by decide +kernel))).elim
  exact B2_11 _ _ _ (-1) 0 0 hS (lv_sub hl [3, 2, 1, 0] rfl) (iv_c (-1) (a := (-1)) (b := (-1)) (by decide +kernel)) (iv_c 0 (a := 0) (b := 0) (by decide +kernel)) (iv_c 0 (a := 0) (b := 0) (by decide +kernel)) (Nat.le_refl _)

theorem ca_X12_tells_0   (X : CallFix p m c cc nL s args sg_tbl own) (hK : va_K D vwCl tys s) (hG : sgG (KT P) D vwCl (fun q : Nat => base ≤ q) tys ad ks H) (hC : sgC base s) (hS : va_S (fun q : Nat => base ≤ q) s.heap H locs) (hb : base ≤ s.heap.size) (hp4 : P.2.2.2.2.1 = false) (a0 : Nat) (h0 : isK ad ks 12 a0) (hl : Cond.methodLink own index yX12_tells ∈ sg_tbl) (hsize : ls.size = nL) (hst : st0 = [].reverse ++ .ref a0 :: rest) (hW : (rest.map fun v => v.category).sum ≤ 8) (hR : 1 ≤ R.frames ∧ 27 ≤ R.locals) (hf : cells ≤ R.cells ∧ slots ≤ R.slots) (hdg : decode cc pc = .ok (.invokevirtual index, 3)) (kk : ∀ (r : Int32) (H1 : Heap) (locs1 : List Loc), (fun r : Int32 => True) r → sgG (KT P) D vwCl (fun q : Nat => base ≤ q) tys ad ks H1 → va_S (fun q : Nat => base ≤ q) s.heap H1 locs1 → W p l e R s m args below meth c H1 locs1 cells slots Q (F0 m (pc + 3) ls (.int r :: rest))) : W p l e R s m args below meth c H locs cells slots Q (F0 m pc ls st0) :=
  sg_callVi X hK hG hC hS hb (m_X12_tells_0 l hp4 a0 h0) h0 (k := 12) (ci := 12) rfl (C := RX12) (T := TX12) (N := 53) rfl wl_9_103 wl_1_13 wl_9_101 wl_9_102 (n := 0) (by decide +kernel) rfl rfl rfl hl hsize hst hW hR hf hdg kk
end
