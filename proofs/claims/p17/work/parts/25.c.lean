abbrev cX11_drought : ByteArray := prog_1_method_15_code
def yX11_drought : MethodName := ⟨RX11, "drought", "(I)Z"⟩
abbrev cX11_law : ByteArray := prog_1_method_14_code
def yX11_law : MethodName := ⟨RX11, "law", "(I)Z"⟩
abbrev cX11_lookByLaw : ByteArray := prog_1_method_7_code
def yX11_lookByLaw : MethodName := ⟨RX11, "lookByLaw", "()V"⟩
theorem dX11_drought_0 : decode cX11_drought 0 = .ok (.iload_n 1, 1) := by decide +kernel
theorem dX11_drought_1 : decode cX11_drought 1 = .ok (.ifCond .lt 17, 3) := by decide +kernel
theorem dX11_drought_4 : decode cX11_drought 4 = .ok (.iload_n 1, 1) := by decide +kernel
theorem dX11_drought_5 : decode cX11_drought 5 = .ok (.bipush 99, 2) := by decide +kernel
theorem dX11_drought_7 : decode cX11_drought 7 = .ok (.if_icmp .gt 11, 3) := by decide +kernel
theorem dX11_drought_10 : decode cX11_drought 10 = .ok (.iload_n 1, 1) := by decide +kernel
theorem dX11_drought_11 : decode cX11_drought 11 = .ok (.aload_n 0, 1) := by decide +kernel
theorem dX11_drought_12 : decode cX11_drought 12 = .ok (.getfield 187, 3) := by decide +kernel
theorem dX11_drought_15 : decode cX11_drought 15 = .ok (.if_icmp .ne 5, 3) := by decide +kernel
theorem dX11_drought_18 : decode cX11_drought 18 = .ok (.iconst 0, 1) := by decide +kernel
theorem dX11_drought_19 : decode cX11_drought 19 = .ok (.ireturn, 1) := by decide +kernel
theorem dX11_drought_20 : decode cX11_drought 20 = .ok (.aload_n 0, 1) := by decide +kernel
theorem dX11_drought_21 : decode cX11_drought 21 = .ok (.iload_n 1, 1) := by decide +kernel
theorem dX11_drought_22 : decode cX11_drought 22 = .ok (.putfield 187, 3) := by decide +kernel
theorem dX11_drought_25 : decode cX11_drought 25 = .ok (.iconst 1, 1) := by decide +kernel
theorem dX11_drought_26 : decode cX11_drought 26 = .ok (.ireturn, 1) := by decide +kernel
theorem dX11_law_0 : decode cX11_law 0 = .ok (.iload_n 1, 1) := by decide +kernel
theorem dX11_law_1 : decode cX11_law 1 = .ok (.iconst (-1), 1) := by decide +kernel
theorem dX11_law_2 : decode cX11_law 2 = .ok (.if_icmp .lt 11, 3) := by decide +kernel
theorem dX11_law_5 : decode cX11_law 5 = .ok (.iload_n 1, 1) := by decide +kernel
theorem dX11_law_6 : decode cX11_law 6 = .ok (.aload_n 0, 1) := by decide +kernel
theorem dX11_law_7 : decode cX11_law 7 = .ok (.getfield 115, 3) := by decide +kernel
theorem dX11_law_10 : decode cX11_law 10 = .ok (.if_icmp .lt 5, 3) := by decide +kernel
theorem dX11_law_13 : decode cX11_law 13 = .ok (.iconst 0, 1) := by decide +kernel
theorem dX11_law_14 : decode cX11_law 14 = .ok (.ireturn, 1) := by decide +kernel
theorem dX11_law_15 : decode cX11_law 15 = .ok (.aload_n 0, 1) := by decide +kernel
theorem dX11_law_16 : decode cX11_law 16 = .ok (.iload_n 1, 1) := by decide +kernel
theorem dX11_law_17 : decode cX11_law 17 = .ok (.putfield 93, 3) := by decide +kernel
theorem dX11_law_20 : decode cX11_law 20 = .ok (.aload_n 0, 1) := by decide +kernel
theorem dX11_law_21 : decode cX11_law 21 = .ok (.invokevirtual 145, 3) := by decide +kernel
theorem dX11_law_24 : decode cX11_law 24 = .ok (.iconst 1, 1) := by decide +kernel
theorem dX11_law_25 : decode cX11_law 25 = .ok (.ireturn, 1) := by decide +kernel
theorem dX11_lookByLaw_0 : decode cX11_lookByLaw 0 = .ok (.aload_n 0, 1) := by decide +kernel
theorem dX11_lookByLaw_1 : decode cX11_lookByLaw 1 = .ok (.getfield 93, 3) := by decide +kernel
theorem dX11_lookByLaw_4 : decode cX11_lookByLaw 4 = .ok (.ifCond .lt 18, 3) := by decide +kernel
theorem dX11_lookByLaw_7 : decode cX11_lookByLaw 7 = .ok (.aload_n 0, 1) := by decide +kernel
theorem dX11_lookByLaw_8 : decode cX11_lookByLaw 8 = .ok (.getfield 93, 3) := by decide +kernel
theorem dX11_lookByLaw_11 : decode cX11_lookByLaw 11 = .ok (.aload_n 0, 1) := by decide +kernel
theorem dX11_lookByLaw_12 : decode cX11_lookByLaw 12 = .ok (.getfield 115, 3) := by decide +kernel
theorem dX11_lookByLaw_15 : decode cX11_lookByLaw 15 = .ok (.if_icmp .ge 7, 3) := by decide +kernel
theorem dX11_lookByLaw_18 : decode cX11_lookByLaw 18 = .ok (.iconst 1, 1) := by decide +kernel
theorem dX11_lookByLaw_19 : decode cX11_lookByLaw 19 = .ok (.goto 4, 3) := by decide +kernel
theorem dX11_lookByLaw_22 : decode cX11_lookByLaw 22 = .ok (.iconst 0, 1) := by decide +kernel
theorem dX11_lookByLaw_23 : decode cX11_lookByLaw 23 = .ok (.istore_n 1, 1) := by decide +kernel
theorem dX11_lookByLaw_24 : decode cX11_lookByLaw 24 = .ok (.aload_n 0, 1) := by decide +kernel
theorem dX11_lookByLaw_25 : decode cX11_lookByLaw 25 = .ok (.getfield 59, 3) := by decide +kernel
theorem dX11_lookByLaw_28 : decode cX11_lookByLaw 28 = .ok (.aload_n 0, 1) := by decide +kernel
theorem dX11_lookByLaw_29 : decode cX11_lookByLaw 29 = .ok (.getfield 47, 3) := by decide +kernel
theorem dX11_lookByLaw_32 : decode cX11_lookByLaw 32 = .ok (.iload_n 1, 1) := by decide +kernel
theorem dX11_lookByLaw_33 : decode cX11_lookByLaw 33 = .ok (.ifCond .eq 15, 3) := by decide +kernel
theorem dX11_lookByLaw_36 : decode cX11_lookByLaw 36 = .ok (.aload_n 0, 1) := by decide +kernel
theorem dX11_lookByLaw_37 : decode cX11_lookByLaw 37 = .ok (.getfield 18, 3) := by decide +kernel
theorem dX11_lookByLaw_40 : decode cX11_lookByLaw 40 = .ok (.aload_n 0, 1) := by decide +kernel
theorem dX11_lookByLaw_41 : decode cX11_lookByLaw 41 = .ok (.getfield 93, 3) := by decide +kernel
theorem dX11_lookByLaw_44 : decode cX11_lookByLaw 44 = .ok (.aaload, 1) := by decide +kernel
theorem dX11_lookByLaw_45 : decode cX11_lookByLaw 45 = .ok (.goto 4, 3) := by decide +kernel
theorem dX11_lookByLaw_48 : decode cX11_lookByLaw 48 = .ok (.aconst_null, 1) := by decide +kernel
theorem dX11_lookByLaw_49 : decode cX11_lookByLaw 49 = .ok (.invokevirtual 151, 3) := by decide +kernel
theorem dX11_lookByLaw_52 : decode cX11_lookByLaw 52 = .ok (.return_, 1) := by decide +kernel
theorem wl_4_63 : (.methodLink RX11 151 yX8_face : Cond) ∈ sg_tbl := tb_4 _ (List.mem_of_getElem? (i := 63) (by decide +kernel)) (by decide +kernel)
theorem wl_4_59 : (.methodLink RX11 145 yX11_lookByLaw : Cond) ∈ sg_tbl := tb_4 _ (List.mem_of_getElem? (i := 59) (by decide +kernel)) (by decide +kernel)
theorem wl_4_62 : (.code yX11_lookByLaw cX11_lookByLaw 2 none : Cond) ∈ sg_tbl := tb_4 _ (List.mem_of_getElem? (i := 62) (by decide +kernel)) (by decide +kernel)
theorem wl_4_61 : (.instanceMethod yX11_lookByLaw : Cond) ∈ sg_tbl := tb_4 _ (List.mem_of_getElem? (i := 61) (by decide +kernel)) (by decide +kernel)
theorem wl_0_19 : (.selects RX11 yX11_lookByLaw yX11_lookByLaw : Cond) ∈ sg_tbl := tb_0 _ (List.mem_of_getElem? (i := 19) (by decide +kernel)) (by decide +kernel)
theorem wl_4_81 : (.code yX11_law cX11_law 2 (some .boolean) : Cond) ∈ sg_tbl := tb_4 _ (List.mem_of_getElem? (i := 81) (by decide +kernel)) (by decide +kernel)
theorem wl_4_79 : (.instanceMethod yX11_law : Cond) ∈ sg_tbl := tb_4 _ (List.mem_of_getElem? (i := 79) (by decide +kernel)) (by decide +kernel)
theorem wl_4_80 : (.selects RX11 yX11_law yX11_law : Cond) ∈ sg_tbl := tb_4 _ (List.mem_of_getElem? (i := 80) (by decide +kernel)) (by decide +kernel)
theorem wl_4_85 : (.code yX11_drought cX11_drought 2 (some .boolean) : Cond) ∈ sg_tbl := tb_4 _ (List.mem_of_getElem? (i := 85) (by decide +kernel)) (by decide +kernel)
theorem wl_4_83 : (.instanceMethod yX11_drought : Cond) ∈ sg_tbl := tb_4 _ (List.mem_of_getElem? (i := 83) (by decide +kernel)) (by decide +kernel)
theorem wl_4_84 : (.selects RX11 yX11_drought yX11_drought : Cond) ∈ sg_tbl := tb_4 _ (List.mem_of_getElem? (i := 84) (by decide +kernel)) (by decide +kernel)
section
variable {p : Program} {l : Launch} {e : Env} {R : Room} {s : State} {m : MethodId} {args : Array Value} {below : List Frame} {meth : Method} {c : Code} {H : Heap} {locs : List Loc} {cells slots : Nat} {Q : State → Prop} {cc : ByteArray} {nL pc : Nat} {ls : Array Slot} {rest : List Value} {own : String} {D : va_G} {A : Nat → Prop} {tys : List (ClassId × FieldType)} {ad ks : List Nat} {P : sgPm} {H0 : Heap} {index : Nat} {base : Nat} {st0 : List Value} {a : Nat}
theorem gg_X11_14   (X : CallFix p m c cc nL s args sg_tbl own) (hK : va_K D vwCl tys s) (hG : sgG (KT P) D vwCl A tys ad ks H) (ha : isK ad ks 11 a) (hl : Cond.fieldLink own index "LawnAhead" "holding" "I" ∈ sg_tbl) {v : Value} (hf : fld D H 11 a 14 v) (hdg : decode cc pc = .ok (.getfield index, 3)) (kk : W p l e R s m args below meth c H locs cells slots Q (F0 m (pc + 3) ls (v :: rest))) : W p l e R s m args below meth c H locs cells slots Q (F0 m pc ls (.ref a :: rest)) :=
  sg_getf X hK hG ha (k := 11) (ci := 11) rfl (C := RX11) (T := TX11) (N := 17) rfl inL_X11 14 (by decide) (show 14 < 17 by decide) hl (fun _ h => h) hf hdg kk
theorem pf_X11_14  {x : Int32}  (X : CallFix p m c cc nL s args sg_tbl own) (hK : va_K D vwCl tys s) (hG : sgG (KT P) D vwCl A tys ad ks H) (hS : va_S A H0 H locs) (ha : isK ad ks 11 a) (hl : Cond.fieldLink own index "LawnAhead" "holding" "I" ∈ sg_tbl) (hv : okV ad ks (.inl ((-2147483648), 2147483647)) (.int x)) (hdg : decode cc pc = .ok (.putfield index, 3)) (kk : ∀ (H1 : Heap) (locs1 : List Loc), sgG (KT P) D vwCl A tys ad ks H1 → va_S A H0 H1 locs1 → fld D H1 11 a 14 (.int x) → sgFr (KT P) D vwCl ad ks H H1 (fun a' j' => a' = a ∧ j' = 14) → W p l e R s m args below meth c H1 locs1 cells slots Q (F0 m (pc + 3) ls rest)) : W p l e R s m args below meth c H locs cells slots Q (F0 m pc ls (.int x :: .ref a :: rest)) :=
  sg_put X hK hG hS ha (k := 11) (ci := 11) rfl (C := RX11) (T := TX11) (N := 17) rfl inL_X11 tyX11 tyX11_ok nmX11 14 (by decide) rfl hl (fun _ h => h) rfl (ty := .int) rfl rfl rfl hv hdg kk
theorem pf_X11_15d   (X : CallFix p m c cc nL s args sg_tbl own) (hK : va_K D vwCl tys s) (hG : sgG (KT P) D vwCl A tys ad ks H) {x : Int32} (hS : va_S A H0 H locs) (ha : isK ad ks 11 a) (hl : Cond.fieldLink own index "LawnAhead" "dryness" "I" ∈ sg_tbl) (hdg : decode cc pc = .ok (.putfield index, 3)) (kk : ∀ (H1 : Heap) (locs1 : List Loc), sgG (KT (P.1, P.2.1, P.2.2.1, x.toInt, P.2.2.2.2)) D vwCl A tys ad ks H1 → va_S A H0 H1 locs1 → W p l e R s m args below meth c H1 locs1 cells slots Q (F0 m (pc + 3) ls rest)) : W p l e R s m args below meth c H locs cells slots Q (F0 m pc ls (.int x :: .ref a :: rest)) :=
  sg_put1 (kt' := KT (P.1, P.2.1, P.2.2.1, x.toInt, P.2.2.2.2)) X hK hG hS ha (k := 11) (by decide) (ci := 11) (fts := [.inr (.inl (false, 10)), .inr (.inl (false, 43)), .inr (.inl (false, 44)), .inr (.inl (false, 9)), .inr (.inl (false, 5)), .inr (.inl (false, 8)), .inr (.inl (false, 7)), .inr (.inl (false, 0)), .inr (.inl (false, 2)), .inr (.inl (false, 1)), .inr (.inl (false, 4)), .inr (.inl (false, 4)), .inl ((P.2.2.2.2.2.2.1.val : Int), (P.2.2.2.2.2.2.1.val : Int)), .inl ((P.2.2.2.2.2.2.2.1.val : Int), (P.2.2.2.2.2.2.2.1.val : Int)), .inl ((-2147483648), 2147483647), .inl (P.2.2.2.1, P.2.2.2.1), .inr (.inr false)]) (fts' := [.inr (.inl (false, 10)), .inr (.inl (false, 43)), .inr (.inl (false, 44)), .inr (.inl (false, 9)), .inr (.inl (false, 5)), .inr (.inl (false, 8)), .inr (.inl (false, 7)), .inr (.inl (false, 0)), .inr (.inl (false, 2)), .inr (.inl (false, 1)), .inr (.inl (false, 4)), .inr (.inl (false, 4)), .inl (((P.1, P.2.1, P.2.2.1, x.toInt, P.2.2.2.2).2.2.2.2.2.2.1.val : Int), ((P.1, P.2.1, P.2.2.1, x.toInt, P.2.2.2.2).2.2.2.2.2.2.1.val : Int)), .inl (((P.1, P.2.1, P.2.2.1, x.toInt, P.2.2.2.2).2.2.2.2.2.2.2.1.val : Int), ((P.1, P.2.1, P.2.2.1, x.toInt, P.2.2.2.2).2.2.2.2.2.2.2.1.val : Int)), .inl ((-2147483648), 2147483647), .inl ((P.1, P.2.1, P.2.2.1, x.toInt, P.2.2.2.2).2.2.2.1, (P.1, P.2.1, P.2.2.1, x.toInt, P.2.2.2.2).2.2.2.1), .inr (.inr false)]) rfl rfl (C := RX11) (T := TX11) (N := 17) rfl inL_X11 tyX11 tyX11_ok nmX11 15 (by decide) rfl (t' := .inl (x.toInt, x.toInt)) rfl (fun i hi => by match i, hi with
    | 0, hi => rfl
    | 1, hi => rfl
    | 2, hi => rfl
    | 3, hi => rfl
    | 4, hi => rfl
    | 5, hi => rfl
    | 6, hi => rfl
    | 7, hi => rfl
    | 8, hi => rfl
    | 9, hi => rfl
    | 10, hi => rfl
    | 11, hi => rfl
    | 12, hi => rfl
    | 13, hi => rfl
    | 14, hi => rfl
    | 15, hi => exact absurd rfl hi
    | 16, hi => rfl
    | i + 17, hi => rfl) (fun i hi => by match i, hi with
    | 0, hi => rfl
    | 1, hi => rfl
    | 2, hi => rfl
    | 3, hi => rfl
    | 4, hi => rfl
    | 5, hi => rfl
    | 6, hi => rfl
    | 7, hi => rfl
    | 8, hi => rfl
    | 9, hi => rfl
    | 10, hi => rfl
    | 11, hi => exact absurd rfl hi
    | 12, hi => rfl
    | 13, hi => rfl
    | 14, hi => rfl
    | 15, hi => rfl
    | 16, hi => rfl
    | 17, hi => rfl
    | 18, hi => rfl
    | 19, hi => rfl
    | 20, hi => rfl
    | 21, hi => rfl
    | 22, hi => rfl
    | 23, hi => rfl
    | 24, hi => rfl
    | 25, hi => rfl
    | 26, hi => rfl
    | 27, hi => rfl
    | 28, hi => rfl
    | 29, hi => rfl
    | 30, hi => rfl
    | 31, hi => rfl
    | 32, hi => rfl
    | 33, hi => rfl
    | 34, hi => rfl
    | 35, hi => rfl
    | 36, hi => rfl
    | 37, hi => rfl
    | 38, hi => rfl
    | 39, hi => rfl
    | 40, hi => rfl
    | 41, hi => rfl
    | 42, hi => rfl
    | 43, hi => rfl
    | 44, hi => rfl
    | 45, hi => rfl
    | 46, hi => rfl
    | 47, hi => rfl
    | 48, hi => rfl
    | 49, hi => rfl
    | 50, hi => rfl
    | 51, hi => rfl
    | 52, hi => rfl
    | 53, hi => rfl
    | 54, hi => rfl
    | 55, hi => rfl
    | 56, hi => rfl
    | 57, hi => rfl
    | 58, hi => rfl
    | 59, hi => rfl
    | 60, hi => rfl
    | 61, hi => rfl
    | 62, hi => rfl
    | 63, hi => rfl
    | 64, hi => rfl
    | 65, hi => rfl
    | 66, hi => rfl
    | 67, hi => rfl
    | i + 68, hi => rfl) hl (fun _ h => h) rfl (ty := .int) rfl rfl rfl ⟨_, rfl, ⟨Int.le_refl _, Int.le_refl _⟩⟩ hdg kk
theorem pf_X8_1xs  {x : Nat}  (X : CallFix p m c cc nL s args sg_tbl own) (hK : va_K D vwCl tys s) (hG : sgG (KT P) D vwCl A tys ad ks H) (hS : va_S A H0 H locs) (ha : isK ad ks 8 a) (hl : Cond.fieldLink own index "LawnAhead$Sight" "law" "LLawnAhead$Law;" ∈ sg_tbl) (hv : okV ad ks (.inr (.inl (false, 6))) (.ref x)) (hdg : decode cc pc = .ok (.putfield index, 3)) (kk : ∀ (H1 : Heap) (locs1 : List Loc), sgG (KT (true, P.2)) D vwCl A tys ad ks H1 → va_S A H0 H1 locs1 → W p l e R s m args below meth c H1 locs1 cells slots Q (F0 m (pc + 3) ls rest)) : W p l e R s m args below meth c H locs cells slots Q (F0 m pc ls (.ref x :: .ref a :: rest)) :=
  sg_put1 (kt' := KT (true, P.2)) X hK hG hS ha (k := 8) (by decide) (ci := 8) (fts := [.inr (.inl (false, 4)), bif P.1 then .inr (.inl (false, 6)) else .inr (.inl (true, 999)), .inr (.inl (false, 36)), .inr (.inl (false, 37)), .inr (.inl (false, 38)), .inr (.inl (false, 39)), .inr (.inl (false, 40)), .inr (.inl (false, 41)), .inl (0, 270)]) (fts' := [.inr (.inl (false, 4)), bif (true, P.2).1 then .inr (.inl (false, 6)) else .inr (.inl (true, 999)), .inr (.inl (false, 36)), .inr (.inl (false, 37)), .inr (.inl (false, 38)), .inr (.inl (false, 39)), .inr (.inl (false, 40)), .inr (.inl (false, 41)), .inl (0, 270)]) rfl rfl (C := RX8) (T := TX8) (N := 9) rfl inL_X8 tyX8 tyX8_ok nmX8 1 (by decide) rfl (t' := .inr (.inl (false, 6))) rfl (fun i hi => by match i, hi with
    | 0, hi => rfl
    | 1, hi => exact absurd rfl hi
    | 2, hi => rfl
    | 3, hi => rfl
    | 4, hi => rfl
    | 5, hi => rfl
    | 6, hi => rfl
    | 7, hi => rfl
    | 8, hi => rfl
    | i + 9, hi => rfl) (fun i hi => by match i, hi with
    | 0, hi => rfl
    | 1, hi => rfl
    | 2, hi => rfl
    | 3, hi => rfl
    | 4, hi => rfl
    | 5, hi => rfl
    | 6, hi => rfl
    | 7, hi => rfl
    | 8, hi => exact absurd rfl hi
    | 9, hi => rfl
    | 10, hi => rfl
    | 11, hi => rfl
    | 12, hi => rfl
    | 13, hi => rfl
    | 14, hi => rfl
    | 15, hi => rfl
    | 16, hi => rfl
    | 17, hi => rfl
    | 18, hi => rfl
    | 19, hi => rfl
    | 20, hi => rfl
    | 21, hi => rfl
    | 22, hi => rfl
    | 23, hi => rfl
    | 24, hi => rfl
    | 25, hi => rfl
    | 26, hi => rfl
    | 27, hi => rfl
    | 28, hi => rfl
    | 29, hi => rfl
    | 30, hi => rfl
    | 31, hi => rfl
    | 32, hi => rfl
    | 33, hi => rfl
    | 34, hi => rfl
    | 35, hi => rfl
    | 36, hi => rfl
    | 37, hi => rfl
    | 38, hi => rfl
    | 39, hi => rfl
    | 40, hi => rfl
    | 41, hi => rfl
    | 42, hi => rfl
    | 43, hi => rfl
    | 44, hi => rfl
    | 45, hi => rfl
    | 46, hi => rfl
    | 47, hi => rfl
    | 48, hi => rfl
    | 49, hi => rfl
    | 50, hi => rfl
    | 51, hi => rfl
    | 52, hi => rfl
    | 53, hi => rfl
    | 54, hi => rfl
    | 55, hi => rfl
    | 56, hi => rfl
    | 57, hi => rfl
    | 58, hi => rfl
    | 59, hi => rfl
    | 60, hi => rfl
    | 61, hi => rfl
    | 62, hi => rfl
    | 63, hi => rfl
    | 64, hi => rfl
    | 65, hi => rfl
    | 66, hi => rfl
    | 67, hi => rfl
    | i + 68, hi => rfl) hl (fun _ h => h) rfl (ty := (tyX8 1)) rfl rfl rfl hv hdg kk
set_option maxHeartbeats 8000000 in
set_option maxRecDepth 100000 in
theorem m_X8_face_l (l : Launch) {D : va_G} {base : Nat} {tys : List (ClassId × FieldType)} {ad ks : List Nat} {P : sgPm} (a0 : Nat) (h0 : isK ad ks 8 a0) (a1 : Nat) (h1 : isK ad ks 4 a1) (a2 : Nat) (h2 : isK ad ks 6 a2) : Met l yX8_face (Cond.code yX8_face cX8_face 3 none :: sg_tbl) ({ frames := 1, cells := 0, slots := 0, locals := 23 }) (va_Pc [.ref a0, .ref a1, .ref a2] (sgB (KT P) D vwCl base tys ad ks)) (va_Qv (fun (_ : Unit) => True) (fun _ => sgB (KT (true, P.2)) D vwCl base tys ad ks) (fun q : Nat => base ≤ q)) 0 0 (fun q : Nat => base ≤ q) := by
  refine sg_ofW (by decide +kernel) (Nat.le_of_ble_eq_true rfl) (fun p e s m below meth c X hr hlk hb hK hC hG ls hl => ?_)
  have hS : va_S (fun q : Nat => base ≤ q) s.heap s.heap [] := va_S.rf
  have hl : lv_has ls 3 [(0, .ref a0), (1, .ref a1), (2, .ref a2)] := hl
  refine lv_aload_n X.1 X.2.1 dX8_face_0 rfl (lv_at hl 0 rfl) ?_
  refine lv_aload_n X.1 X.2.1 dX8_face_1 rfl (lv_at hl 1 rfl) ?_
  refine pf_X8_0 X hK hG hS h0 wl_2_35 (Or.inr ⟨_, rfl, h1⟩) dX8_face_2 (fun H locs hG hS ku1 ru1 => ?_)
  refine lv_aload_n X.1 X.2.1 dX8_face_5 rfl (lv_at hl 0 rfl) ?_
  refine lv_aload_n X.1 X.2.1 dX8_face_6 rfl (lv_at hl 2 rfl) ?_
  refine pf_X8_1xs X hK hG hS h0 wl_2_39 (Or.inr ⟨_, rfl, h2⟩) dX8_face_7 (fun H locs hG hS => ?_)
  refine lv_aload_n X.1 X.2.1 dX8_face_10 rfl (lv_at hl 0 rfl) ?_
  refine gf_X8_2 X hK hG h0 wl_2_40 dX8_face_11 (fun q2 hq2 kq2 => ?_)
  refine lv_iconst (v := 0) X.1 X.2.1 dX8_face_14 (by decide +kernel) ?_
  refine ca_J7_fill_53178_pageDays X hK hG hC hS hb q2 hq2 0 wl_4_67 hl.1 (rest := []) rfl (Nat.le_of_ble_eq_true rfl) ⟨Nat.le_of_ble_eq_true rfl, Nat.le_of_ble_eq_true rfl⟩ ⟨Nat.le_of_ble_eq_true rfl, Nat.le_of_ble_eq_true rfl⟩ dX8_face_15 (fun H locs hG hS => ?_)
  refine lv_aload_n X.1 X.2.1 dX8_face_18 rfl (lv_at hl 0 rfl) ?_
  refine gf_X8_3 X hK hG h0 wl_2_41 dX8_face_19 (fun q4 hq4 kq4 => ?_)
  refine lv_iconst (v := 0) X.1 X.2.1 dX8_face_22 (by decide +kernel) ?_
  refine ca_J7_fill_53178_reckoned X hK hG hC hS hb q4 hq4 0 wl_4_67 hl.1 (rest := []) rfl (Nat.le_of_ble_eq_true rfl) ⟨Nat.le_of_ble_eq_true rfl, Nat.le_of_ble_eq_true rfl⟩ ⟨Nat.le_of_ble_eq_true rfl, Nat.le_of_ble_eq_true rfl⟩ dX8_face_23 (fun H locs hG hS => ?_)
  refine lv_aload_n X.1 X.2.1 dX8_face_26 rfl (lv_at hl 0 rfl) ?_
  refine gf_X8_4 X hK hG h0 wl_2_42 dX8_face_27 (fun q6 hq6 kq6 => ?_)
  refine lv_iconst (v := 0) X.1 X.2.1 dX8_face_30 (by decide +kernel) ?_
  refine ca_J7_fill_53178_worthy X hK hG hC hS hb q6 hq6 0 wl_4_67 hl.1 (rest := []) rfl (Nat.le_of_ble_eq_true rfl) ⟨Nat.le_of_ble_eq_true rfl, Nat.le_of_ble_eq_true rfl⟩ ⟨Nat.le_of_ble_eq_true rfl, Nat.le_of_ble_eq_true rfl⟩ dX8_face_31 (fun H locs hG hS => ?_)
  exact sg_vret2 X hr hlk hS (fun t ht hW => sg_post hb hK hC hG hS ht hW) dX8_face_34

theorem ca_X8_face_l   (X : CallFix p m c cc nL s args sg_tbl own) (hK : va_K D vwCl tys s) (hG : sgG (KT P) D vwCl (fun q : Nat => base ≤ q) tys ad ks H) (hC : sgC base s) (hS : va_S (fun q : Nat => base ≤ q) s.heap H locs) (hb : base ≤ s.heap.size) (a0 : Nat) (h0 : isK ad ks 8 a0) (a1 : Nat) (h1 : isK ad ks 4 a1) (a2 : Nat) (h2 : isK ad ks 6 a2) (hl : Cond.methodLink own index yX8_face ∈ sg_tbl) (hsize : ls.size = nL) (hst : st0 = [.ref a1, .ref a2].reverse ++ .ref a0 :: rest) (hW : (rest.map fun v => v.category).sum ≤ 8) (hR : 2 ≤ R.frames ∧ 45 ≤ R.locals) (hf : cells ≤ R.cells ∧ slots ≤ R.slots) (hdg : decode cc pc = .ok (.invokevirtual index, 3)) (kk : ∀ (t : State) (H1 : Heap) (locs1 : List Loc), t.heap = H1 → (sgB (KT (true, P.2)) D vwCl base tys ad ks t) → va_S (fun q : Nat => base ≤ q) s.heap H1 locs1 → W p l e R s m args below meth c H1 locs1 cells slots Q (F0 m (pc + 3) ls rest)) : W p l e R s m args below meth c H locs cells slots Q (F0 m pc ls st0) :=
  sg_callV2v X hK hG hC hS hb (m_X8_face_l l a0 h0 a1 h1 a2 h2) h0 (k := 8) (ci := 8) rfl (C := RX8) (T := TX8) (N := 9) rfl wl_4_66 wl_1_8 wl_4_64 wl_4_65 (n := 2) (by decide +kernel) rfl rfl rfl hl hsize hst hW hR hf hdg kk

set_option maxHeartbeats 8000000 in
set_option maxRecDepth 100000 in
theorem m_X11_lookByLaw (l : Launch) {D : va_G} {base : Nat} {tys : List (ClassId × FieldType)} {ad ks : List Nat} {P : sgPm} (a0 : Nat) (h0 : isK ad ks 11 a0) : Met l yX11_lookByLaw (Cond.code yX11_lookByLaw cX11_lookByLaw 2 none :: sg_tbl) ({ frames := 2, cells := 0, slots := 0, locals := 45 }) (va_Pc [.ref a0] (sgB (KT P) D vwCl base tys ad ks)) (va_Qv (fun (_ : Unit) => True) (fun _ => fun t => ∃ b : Bool, sgB (KT (b, P.2)) D vwCl base tys ad ks t) (fun q : Nat => base ≤ q)) 0 0 (fun q : Nat => base ≤ q) := by
  refine sg_ofW (by decide +kernel) (Nat.le_of_ble_eq_true rfl) (fun p e s m below meth c X hr hlk hb hK hC hG ls hl => ?_)
  have hS : va_S (fun q : Nat => base ≤ q) s.heap s.heap [] := va_S.rf
  have hl : lv_has ls 2 [(0, .ref a0)] := hl
  refine lv_aload_n X.1 X.2.1 dX11_lookByLaw_0 rfl (lv_at hl 0 rfl) ?_
  refine gf_X11_14 X hK hG h0 wl_2_209 dX11_lookByLaw_1 (fun f1 hf1 kf1 => ?_)
  refine lv_if_lt (tgt := 22) X.1 X.2.1 dX11_lookByLaw_4 (by decide) (fun c2 => ?_) (fun c2 => ?_)
  · refine lv_iconst (v := 0) X.1 X.2.1 dX11_lookByLaw_22 (by decide +kernel) ?_
    refine lv_istore_n (lv' := [(1, .int 0), (0, .ref a0)]) X.1 X.2.1 dX11_lookByLaw_23 rfl hl (by decide) rfl (fun ls hl => ?_)
    refine lv_aload_n X.1 X.2.1 dX11_lookByLaw_24 rfl (lv_at hl 1 rfl) ?_
    refine gf_X11_5 X hK hG h0 wl_2_200 dX11_lookByLaw_25 (fun q3 hq3 kq3 => ?_)
    refine lv_aload_n X.1 X.2.1 dX11_lookByLaw_28 rfl (lv_at hl 1 rfl) ?_
    refine gf_X11_10 X hK hG h0 wl_2_205 dX11_lookByLaw_29 (fun q4 hq4 kq4 => ?_)
    refine lv_iload_n X.1 X.2.1 dX11_lookByLaw_32 rfl (lv_at hl 0 rfl) ?_
    refine lv_if_eq (tgt := 48) X.1 X.2.1 dX11_lookByLaw_33 (by decide) (fun c5 => ?_) (fun c5 => ?_)
    · refine lv_null X.1 X.2.1 dX11_lookByLaw_48 ?_
      refine ca_X8_face_n X hK hG hC hS hb q3 hq3 q4 hq4 wl_4_63 hl.1 (rest := []) rfl (Nat.le_of_ble_eq_true rfl) ⟨Nat.le_of_ble_eq_true rfl, Nat.le_of_ble_eq_true rfl⟩ ⟨Nat.le_of_ble_eq_true rfl, Nat.le_of_ble_eq_true rfl⟩ dX11_lookByLaw_49 (fun tg6 H locs htg6 hWg6 hS => ?_)
      have hBg6 := hWg6
      have hG := hBg6.2.2.2
      rw [htg6] at hG
      exact sg_vret2 X hr hlk hS (fun t ht hW => ⟨_, sg_post hb hK hC hG hS ht hW⟩) dX11_lookByLaw_52
    · exact ((c5 (iv_one (iv_c 0 (a := 0) (b := 0) (by decide +kernel)) (iv_c 0 (a := 0) (b := 0) (by decide +kernel)) (by decide +kernel)))).elim
  · refine lv_aload_n X.1 X.2.1 dX11_lookByLaw_7 rfl (lv_at hl 0 rfl) ?_
    refine gg_X11_14 X hK hG h0 wl_2_209 kf1 dX11_lookByLaw_8 ?_
    refine lv_aload_n X.1 X.2.1 dX11_lookByLaw_11 rfl (lv_at hl 0 rfl) ?_
    refine gf_X11_12 X hK hG h0 wl_2_207 dX11_lookByLaw_12 (fun f7 hf7 pf7 kf7 => ?_)
    refine lv_icmp_ge (tgt := 22) X.1 X.2.1 dX11_lookByLaw_15 (by decide) (fun c8 => ?_) (fun c8 => ?_)
    · refine lv_iconst (v := 0) X.1 X.2.1 dX11_lookByLaw_22 (by decide +kernel) ?_
      refine lv_istore_n (lv' := [(1, .int 0), (0, .ref a0)]) X.1 X.2.1 dX11_lookByLaw_23 rfl hl (by decide) rfl (fun ls hl => ?_)
      refine lv_aload_n X.1 X.2.1 dX11_lookByLaw_24 rfl (lv_at hl 1 rfl) ?_
      refine gf_X11_5 X hK hG h0 wl_2_200 dX11_lookByLaw_25 (fun q9 hq9 kq9 => ?_)
      refine lv_aload_n X.1 X.2.1 dX11_lookByLaw_28 rfl (lv_at hl 1 rfl) ?_
      refine gf_X11_10 X hK hG h0 wl_2_205 dX11_lookByLaw_29 (fun q10 hq10 kq10 => ?_)
      refine lv_iload_n X.1 X.2.1 dX11_lookByLaw_32 rfl (lv_at hl 0 rfl) ?_
      refine lv_if_eq (tgt := 48) X.1 X.2.1 dX11_lookByLaw_33 (by decide) (fun c11 => ?_) (fun c11 => ?_)
      · refine lv_null X.1 X.2.1 dX11_lookByLaw_48 ?_
        refine ca_X8_face_n X hK hG hC hS hb q9 hq9 q10 hq10 wl_4_63 hl.1 (rest := []) rfl (Nat.le_of_ble_eq_true rfl) ⟨Nat.le_of_ble_eq_true rfl, Nat.le_of_ble_eq_true rfl⟩ ⟨Nat.le_of_ble_eq_true rfl, Nat.le_of_ble_eq_true rfl⟩ dX11_lookByLaw_49 (fun tg12 H locs htg12 hWg12 hS => ?_)
        have hBg12 := hWg12
        have hG := hBg12.2.2.2
        rw [htg12] at hG
        exact sg_vret2 X hr hlk hS (fun t ht hW => ⟨_, sg_post hb hK hC hG hS ht hW⟩) dX11_lookByLaw_52
      · exact ((c11 (iv_one (iv_c 0 (a := 0) (b := 0) (by decide +kernel)) (iv_c 0 (a := 0) (b := 0) (by decide +kernel)) (by decide +kernel)))).elim
    · refine lv_iconst (v := 1) X.1 X.2.1 dX11_lookByLaw_18 (by decide +kernel) ?_
      refine lv_goto (tgt := 23) X.1 X.2.1 dX11_lookByLaw_19 (by decide) ?_
      refine lv_istore_n (lv' := [(1, .int 1), (0, .ref a0)]) X.1 X.2.1 dX11_lookByLaw_23 rfl hl (by decide) rfl (fun ls hl => ?_)
      refine lv_aload_n X.1 X.2.1 dX11_lookByLaw_24 rfl (lv_at hl 1 rfl) ?_
      refine gf_X11_5 X hK hG h0 wl_2_200 dX11_lookByLaw_25 (fun q13 hq13 kq13 => ?_)
      refine lv_aload_n X.1 X.2.1 dX11_lookByLaw_28 rfl (lv_at hl 1 rfl) ?_
      refine gf_X11_10 X hK hG h0 wl_2_205 dX11_lookByLaw_29 (fun q14 hq14 kq14 => ?_)
      refine lv_iload_n X.1 X.2.1 dX11_lookByLaw_32 rfl (lv_at hl 0 rfl) ?_
      refine lv_if_eq (tgt := 48) X.1 X.2.1 dX11_lookByLaw_33 (by decide) (fun c15 => ?_) (fun c15 => ?_)
      · exact ((iv_no (a := 1) (b := 0) (iv_eqm c15 (iv_c 1 (a := 1) (b := 1) (by decide +kernel)) (iv_c 0 (a := 0) (b := 0) (by decide +kernel)) (by decide +kernel)) (by decide +kernel))).elim
      · refine lv_aload_n X.1 X.2.1 dX11_lookByLaw_36 rfl (lv_at hl 1 rfl) ?_
        refine gf_X11_1 X hK hG h0 wl_2_196 dX11_lookByLaw_37 (fun q16 hq16 kq16 => ?_)
        refine lv_aload_n X.1 X.2.1 dX11_lookByLaw_40 rfl (lv_at hl 1 rfl) ?_
        refine gg_X11_14 X hK hG h0 wl_2_209 kf1 dX11_lookByLaw_41 ?_
        refine al_43 X hK hG hq16 (iv_vpin (iv_lt (b' := 3) (iv_gt_of c8) (iv_ler (c' := 0) (iv_ge_of c2) (iv_c 0 (a := 0) (b := 0) (by decide +kernel)) (iv_top f1) (by decide +kernel)) hf7 (by decide +kernel)) (by decide +kernel)) dX11_lookByLaw_44 (fun q17 hq17 => ?_)
        refine lv_goto (tgt := 49) X.1 X.2.1 dX11_lookByLaw_45 (by decide) ?_
        refine ca_X8_face_l X hK hG hC hS hb q13 hq13 q14 hq14 q17 hq17 wl_4_63 hl.1 (rest := []) rfl (Nat.le_of_ble_eq_true rfl) ⟨Nat.le_of_ble_eq_true rfl, Nat.le_of_ble_eq_true rfl⟩ ⟨Nat.le_of_ble_eq_true rfl, Nat.le_of_ble_eq_true rfl⟩ dX11_lookByLaw_49 (fun tg18 H locs htg18 hWg18 hS => ?_)
        have hBg18 := hWg18
        have hG := hBg18.2.2.2
        rw [htg18] at hG
        exact sg_vret2 X hr hlk hS (fun t ht hW => ⟨_, sg_post hb hK hC hG hS ht hW⟩) dX11_lookByLaw_52

theorem ca_X11_lookByLaw   (X : CallFix p m c cc nL s args sg_tbl own) (hK : va_K D vwCl tys s) (hG : sgG (KT P) D vwCl (fun q : Nat => base ≤ q) tys ad ks H) (hC : sgC base s) (hS : va_S (fun q : Nat => base ≤ q) s.heap H locs) (hb : base ≤ s.heap.size) (a0 : Nat) (h0 : isK ad ks 11 a0) (hl : Cond.methodLink own index yX11_lookByLaw ∈ sg_tbl) (hsize : ls.size = nL) (hst : st0 = [].reverse ++ .ref a0 :: rest) (hW : (rest.map fun v => v.category).sum ≤ 8) (hR : 3 ≤ R.frames ∧ 66 ≤ R.locals) (hf : cells ≤ R.cells ∧ slots ≤ R.slots) (hdg : decode cc pc = .ok (.invokevirtual index, 3)) (kk : ∀ (t : State) (H1 : Heap) (locs1 : List Loc), t.heap = H1 → ((fun t => ∃ b : Bool, sgB (KT (b, P.2)) D vwCl base tys ad ks t) t) → va_S (fun q : Nat => base ≤ q) s.heap H1 locs1 → W p l e R s m args below meth c H1 locs1 cells slots Q (F0 m (pc + 3) ls rest)) : W p l e R s m args below meth c H locs cells slots Q (F0 m pc ls st0) :=
  sg_callV2v X hK hG hC hS hb (m_X11_lookByLaw l a0 h0) h0 (k := 11) (ci := 11) rfl (C := RX11) (T := TX11) (N := 17) rfl wl_4_62 wl_1_1 wl_4_61 wl_0_19 (n := 0) (by decide +kernel) rfl rfl rfl hl hsize hst hW hR hf hdg kk

set_option maxHeartbeats 8000000 in
set_option maxRecDepth 100000 in
theorem m_X11_law (l : Launch) {D : va_G} {base : Nat} {tys : List (ClassId × FieldType)} {ad ks : List Nat} {P : sgPm} (a0 : Nat) (h0 : isK ad ks 11 a0) (x1 : Int32) : Met l yX11_law (Cond.code yX11_law cX11_law 2 (some .boolean) :: sg_tbl) ({ frames := 3, cells := 0, slots := 0, locals := 66 }) (va_Pc [.ref a0, .int x1] (sgB (KT P) D vwCl base tys ad ks)) (va_Qi (fun r (u : Int32) => u = r ∧ (fun r : Int32 => iv 0 1 r) r) (fun u t => ∃ b : Bool, sgB (KT (b, P.2)) D vwCl base tys ad ks t) (fun q : Nat => base ≤ q)) 0 0 (fun q : Nat => base ≤ q) := by
  refine sg_ofW (by decide +kernel) (Nat.le_of_ble_eq_true rfl) (fun p e s m below meth c X hr hlk hb hK hC hG ls hl => ?_)
  have hS : va_S (fun q : Nat => base ≤ q) s.heap s.heap [] := va_S.rf
  have hl : lv_has ls 2 [(0, .ref a0), (1, .int x1)] := hl
  refine lv_iload_n X.1 X.2.1 dX11_law_0 rfl (lv_at hl 1 rfl) ?_
  refine lv_iconst (v := (-1)) X.1 X.2.1 dX11_law_1 (by decide +kernel) ?_
  refine lv_icmp_lt (tgt := 13) X.1 X.2.1 dX11_law_2 (by decide) (fun c1 => ?_) (fun c1 => ?_)
  · refine lv_iconst (v := 0) X.1 X.2.1 dX11_law_13 (by decide +kernel) ?_
    exact sg_zret2 X hr (sg_zn (iv_of (iv_c 0 (a := 0) (b := 0) (by decide +kernel)) (a' := 0) (b' := 1) (by decide +kernel))) hlk hS (iv_of (iv_c 0 (a := 0) (b := 0) (by decide +kernel)) (a' := 0) (b' := 1) (by decide +kernel)) (fun t ht hW => ⟨_, sg_post hb hK hC hG hS ht hW⟩) dX11_law_14
  · refine lv_iload_n X.1 X.2.1 dX11_law_5 rfl (lv_at hl 1 rfl) ?_
    refine lv_aload_n X.1 X.2.1 dX11_law_6 rfl (lv_at hl 0 rfl) ?_
    refine gf_X11_12 X hK hG h0 wl_2_207 dX11_law_7 (fun f2 hf2 pf2 kf2 => ?_)
    refine lv_icmp_lt (tgt := 15) X.1 X.2.1 dX11_law_10 (by decide) (fun c3 => ?_) (fun c3 => ?_)
    · refine lv_aload_n X.1 X.2.1 dX11_law_15 rfl (lv_at hl 0 rfl) ?_
      refine lv_iload_n X.1 X.2.1 dX11_law_16 rfl (lv_at hl 1 rfl) ?_
      refine pf_X11_14 X hK hG hS h0 wl_2_209 ⟨_, rfl, (iv_top _)⟩ dX11_law_17 (fun H locs hG hS ku4 ru4 => ?_)
      refine lv_aload_n X.1 X.2.1 dX11_law_20 rfl (lv_at hl 0 rfl) ?_
      refine ca_X11_lookByLaw X hK hG hC hS hb a0 h0 wl_4_59 hl.1 (rest := []) rfl (Nat.le_of_ble_eq_true rfl) ⟨Nat.le_of_ble_eq_true rfl, Nat.le_of_ble_eq_true rfl⟩ ⟨Nat.le_of_ble_eq_true rfl, Nat.le_of_ble_eq_true rfl⟩ dX11_law_21 (fun tg5 H locs htg5 hWg5 hS => ?_)
      obtain ⟨b6, hBg5⟩ := hWg5
      have hG := hBg5.2.2.2
      rw [htg5] at hG
      refine lv_iconst (v := 1) X.1 X.2.1 dX11_law_24 (by decide +kernel) ?_
      exact sg_zret2 X hr (sg_zn (iv_of (iv_c 1 (a := 1) (b := 1) (by decide +kernel)) (a' := 0) (b' := 1) (by decide +kernel))) hlk hS (iv_of (iv_c 1 (a := 1) (b := 1) (by decide +kernel)) (a' := 0) (b' := 1) (by decide +kernel)) (fun t ht hW => ⟨_, sg_post hb hK hC hG hS ht hW⟩) dX11_law_25
    · refine lv_iconst (v := 0) X.1 X.2.1 dX11_law_13 (by decide +kernel) ?_
      exact sg_zret2 X hr (sg_zn (iv_of (iv_c 0 (a := 0) (b := 0) (by decide +kernel)) (a' := 0) (b' := 1) (by decide +kernel))) hlk hS (iv_of (iv_c 0 (a := 0) (b := 0) (by decide +kernel)) (a' := 0) (b' := 1) (by decide +kernel)) (fun t ht hW => ⟨_, sg_post hb hK hC hG hS ht hW⟩) dX11_law_14

theorem ca_X11_law   (X : CallFix p m c cc nL s args sg_tbl own) (hK : va_K D vwCl tys s) (hG : sgG (KT P) D vwCl (fun q : Nat => base ≤ q) tys ad ks H) (hC : sgC base s) (hS : va_S (fun q : Nat => base ≤ q) s.heap H locs) (hb : base ≤ s.heap.size) (a0 : Nat) (h0 : isK ad ks 11 a0) (x1 : Int32) (hl : Cond.methodLink own index yX11_law ∈ sg_tbl) (hsize : ls.size = nL) (hst : st0 = [.int x1].reverse ++ .ref a0 :: rest) (hW : (rest.map fun v => v.category).sum ≤ 8) (hR : 4 ≤ R.frames ∧ 87 ≤ R.locals) (hf : cells ≤ R.cells ∧ slots ≤ R.slots) (hdg : decode cc pc = .ok (.invokevirtual index, 3)) (kk : ∀ (r : Int32) (t : State) (H1 : Heap) (locs1 : List Loc), t.heap = H1 → (fun r : Int32 => iv 0 1 r) r → (∃ b : Bool, sgB (KT (b, P.2)) D vwCl base tys ad ks t) → va_S (fun q : Nat => base ≤ q) s.heap H1 locs1 → W p l e R s m args below meth c H1 locs1 cells slots Q (F0 m (pc + 3) ls (.int r :: rest))) : W p l e R s m args below meth c H locs cells slots Q (F0 m pc ls st0) :=
  sg_callV2i X hK hG hC hS hb (m_X11_law l a0 h0 x1) h0 (k := 11) (ci := 11) rfl (C := RX11) (T := TX11) (N := 17) rfl wl_4_81 wl_1_1 wl_4_79 wl_4_80 (n := 1) (by decide +kernel) rfl rfl rfl hl hsize hst hW hR hf hdg kk

set_option maxHeartbeats 8000000 in
set_option maxRecDepth 100000 in
theorem m_X11_drought (l : Launch) {D : va_G} {base : Nat} {tys : List (ClassId × FieldType)} {ad ks : List Nat} {P : sgPm} (a0 : Nat) (h0 : isK ad ks 11 a0) (x1 : Int32) : Met l yX11_drought (Cond.code yX11_drought cX11_drought 2 (some .boolean) :: sg_tbl) ({ frames := 0, cells := 0, slots := 0, locals := 0 }) (va_Pc [.ref a0, .int x1] (sgB (KT P) D vwCl base tys ad ks)) (va_Qi (fun r (u : Int32) => u = r ∧ (fun r : Int32 => iv 0 1 r) r) (fun u t => sgDr x1 P.2.2.2.1 u ∧ (u = 0 ∧ sgB (KT P) D vwCl base tys ad ks t ∨ u = 1 ∧ sgB (KT (P.1, P.2.1, P.2.2.1, x1.toInt, P.2.2.2.2)) D vwCl base tys ad ks t)) (fun q : Nat => base ≤ q)) 0 0 (fun q : Nat => base ≤ q) := by
  refine sg_ofW (by decide +kernel) (Nat.le_of_ble_eq_true rfl) (fun p e s m below meth c X hr hlk hb hK hC hG ls hl => ?_)
  have hS : va_S (fun q : Nat => base ≤ q) s.heap s.heap [] := va_S.rf
  have hl : lv_has ls 2 [(0, .ref a0), (1, .int x1)] := hl
  refine lv_iload_n X.1 X.2.1 dX11_drought_0 rfl (lv_at hl 1 rfl) ?_
  refine lv_if_lt (tgt := 18) X.1 X.2.1 dX11_drought_1 (by decide) (fun c1 => ?_) (fun c1 => ?_)
  · refine lv_iconst (v := 0) X.1 X.2.1 dX11_drought_18 (by decide +kernel) ?_
    exact sg_zret2 X hr (sg_zn (iv_of (iv_c 0 (a := 0) (b := 0) (by decide +kernel)) (a' := 0) (b' := 1) (by decide +kernel))) hlk hS (iv_of (iv_c 0 (a := 0) (b := 0) (by decide +kernel)) (a' := 0) (b' := 1) (by decide +kernel)) (fun t ht hW => ⟨Or.inl ⟨rfl, (sg_drA c1)⟩, Or.inl ⟨rfl, sg_post hb hK hC hG hS ht hW⟩⟩) dX11_drought_19
  · refine lv_iload_n X.1 X.2.1 dX11_drought_4 rfl (lv_at hl 1 rfl) ?_
    refine lv_bipush (v := 99) X.1 X.2.1 dX11_drought_5 (by decide +kernel) ?_
    refine lv_icmp_gt (tgt := 18) X.1 X.2.1 dX11_drought_7 (by decide) (fun c2 => ?_) (fun c2 => ?_)
    · refine lv_iconst (v := 0) X.1 X.2.1 dX11_drought_18 (by decide +kernel) ?_
      exact sg_zret2 X hr (sg_zn (iv_of (iv_c 0 (a := 0) (b := 0) (by decide +kernel)) (a' := 0) (b' := 1) (by decide +kernel))) hlk hS (iv_of (iv_c 0 (a := 0) (b := 0) (by decide +kernel)) (a' := 0) (b' := 1) (by decide +kernel)) (fun t ht hW => ⟨Or.inl ⟨rfl, (sg_drB c2)⟩, Or.inl ⟨rfl, sg_post hb hK hC hG hS ht hW⟩⟩) dX11_drought_19
    · refine lv_iload_n X.1 X.2.1 dX11_drought_10 rfl (lv_at hl 1 rfl) ?_
      refine lv_aload_n X.1 X.2.1 dX11_drought_11 rfl (lv_at hl 0 rfl) ?_
      refine gf_X11_15 X hK hG h0 wl_2_210 dX11_drought_12 (fun f3 hf3 kf3 => ?_)
      refine lv_icmp_ne (tgt := 20) X.1 X.2.1 dX11_drought_15 (by decide) (fun c4 => ?_) (fun c4 => ?_)
      · refine lv_aload_n X.1 X.2.1 dX11_drought_20 rfl (lv_at hl 0 rfl) ?_
        refine lv_iload_n X.1 X.2.1 dX11_drought_21 rfl (lv_at hl 1 rfl) ?_
        refine pf_X11_15d X hK hG hS h0 wl_2_210 dX11_drought_22 (fun H locs hG hS => ?_)
        refine lv_iconst (v := 1) X.1 X.2.1 dX11_drought_25 (by decide +kernel) ?_
        exact sg_zret2 X hr (sg_zn (iv_of (iv_c 1 (a := 1) (b := 1) (by decide +kernel)) (a' := 0) (b' := 1) (by decide +kernel))) hlk hS (iv_of (iv_c 1 (a := 1) (b := 1) (by decide +kernel)) (a' := 0) (b' := 1) (by decide +kernel)) (fun t ht hW => ⟨Or.inr ⟨rfl, sg_drN (iv_ge_of c1) (iv_ge_of c2) c4 hf3⟩, Or.inr ⟨rfl, sg_post hb hK hC hG hS ht hW⟩⟩) dX11_drought_26
      · refine lv_iconst (v := 0) X.1 X.2.1 dX11_drought_18 (by decide +kernel) ?_
        exact sg_zret2 X hr (sg_zn (iv_of (iv_c 0 (a := 0) (b := 0) (by decide +kernel)) (a' := 0) (b' := 1) (by decide +kernel))) hlk hS (iv_of (iv_c 0 (a := 0) (b := 0) (by decide +kernel)) (a' := 0) (b' := 1) (by decide +kernel)) (fun t ht hW => ⟨Or.inl ⟨rfl, (sg_drC c4 hf3)⟩, Or.inl ⟨rfl, sg_post hb hK hC hG hS ht hW⟩⟩) dX11_drought_19

theorem ca_X11_drought   (X : CallFix p m c cc nL s args sg_tbl own) (hK : va_K D vwCl tys s) (hG : sgG (KT P) D vwCl (fun q : Nat => base ≤ q) tys ad ks H) (hC : sgC base s) (hS : va_S (fun q : Nat => base ≤ q) s.heap H locs) (hb : base ≤ s.heap.size) (a0 : Nat) (h0 : isK ad ks 11 a0) (x1 : Int32) (hl : Cond.methodLink own index yX11_drought ∈ sg_tbl) (hsize : ls.size = nL) (hst : st0 = [.int x1].reverse ++ .ref a0 :: rest) (hW : (rest.map fun v => v.category).sum ≤ 8) (hR : 1 ≤ R.frames ∧ 21 ≤ R.locals) (hf : cells ≤ R.cells ∧ slots ≤ R.slots) (hdg : decode cc pc = .ok (.invokevirtual index, 3)) (kk : ∀ (r : Int32) (t : State) (H1 : Heap) (locs1 : List Loc), t.heap = H1 → (fun r : Int32 => iv 0 1 r) r → (sgDr x1 P.2.2.2.1 r ∧ (r = 0 ∧ sgB (KT P) D vwCl base tys ad ks t ∨ r = 1 ∧ sgB (KT (P.1, P.2.1, P.2.2.1, x1.toInt, P.2.2.2.2)) D vwCl base tys ad ks t)) → va_S (fun q : Nat => base ≤ q) s.heap H1 locs1 → W p l e R s m args below meth c H1 locs1 cells slots Q (F0 m (pc + 3) ls (.int r :: rest))) : W p l e R s m args below meth c H locs cells slots Q (F0 m pc ls st0) :=
  sg_callV2i X hK hG hC hS hb (m_X11_drought l a0 h0 x1) h0 (k := 11) (ci := 11) rfl (C := RX11) (T := TX11) (N := 17) rfl wl_4_85 wl_1_1 wl_4_83 wl_4_84 (n := 1) (by decide +kernel) rfl rfl rfl hl hsize hst hW hR hf hdg kk
end
