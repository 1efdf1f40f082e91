abbrev cX11_tellLawn : ByteArray := prog_1_method_6_code
def yX11_tellLawn : MethodName := ⟨RX11, "tellLawn", "()I"⟩
abbrev cX11_text : ByteArray := prog_1_method_5_code
def yX11_text : MethodName := ⟨RX11, "text", "(I)I"⟩
theorem dX11_tellLawn_0 : decode cX11_tellLawn 0 = .ok (.aload_n 0, 1) := by decide +kernel
theorem dX11_tellLawn_1 : decode cX11_tellLawn 1 = .ok (.getfield 51, 3) := by decide +kernel
theorem dX11_tellLawn_4 : decode cX11_tellLawn 4 = .ok (.aload_n 0, 1) := by decide +kernel
theorem dX11_tellLawn_5 : decode cX11_tellLawn 5 = .ok (.getfield 10, 3) := by decide +kernel
theorem dX11_tellLawn_8 : decode cX11_tellLawn 8 = .ok (.invokevirtual 108, 3) := by decide +kernel
theorem dX11_tellLawn_11 : decode cX11_tellLawn 11 = .ok (.ifCond .ne 5, 3) := by decide +kernel
theorem dX11_tellLawn_14 : decode cX11_tellLawn 14 = .ok (.iconst (-1), 1) := by decide +kernel
theorem dX11_tellLawn_15 : decode cX11_tellLawn 15 = .ok (.ireturn, 1) := by decide +kernel
theorem dX11_tellLawn_16 : decode cX11_tellLawn 16 = .ok (.aload_n 0, 1) := by decide +kernel
theorem dX11_tellLawn_17 : decode cX11_tellLawn 17 = .ok (.getfield 47, 3) := by decide +kernel
theorem dX11_tellLawn_20 : decode cX11_tellLawn 20 = .ok (.astore_n 1, 1) := by decide +kernel
theorem dX11_tellLawn_21 : decode cX11_tellLawn 21 = .ok (.aload_n 0, 1) := by decide +kernel
theorem dX11_tellLawn_22 : decode cX11_tellLawn 22 = .ok (.aload_n 0, 1) := by decide +kernel
theorem dX11_tellLawn_23 : decode cX11_tellLawn 23 = .ok (.getfield 51, 3) := by decide +kernel
theorem dX11_tellLawn_26 : decode cX11_tellLawn 26 = .ok (.putfield 47, 3) := by decide +kernel
theorem dX11_tellLawn_29 : decode cX11_tellLawn 29 = .ok (.aload_n 0, 1) := by decide +kernel
theorem dX11_tellLawn_30 : decode cX11_tellLawn 30 = .ok (.aload_n 1, 1) := by decide +kernel
theorem dX11_tellLawn_31 : decode cX11_tellLawn 31 = .ok (.putfield 51, 3) := by decide +kernel
theorem dX11_tellLawn_34 : decode cX11_tellLawn 34 = .ok (.aload_n 0, 1) := by decide +kernel
theorem dX11_tellLawn_35 : decode cX11_tellLawn 35 = .ok (.getfield 10, 3) := by decide +kernel
theorem dX11_tellLawn_38 : decode cX11_tellLawn 38 = .ok (.iconst 0, 1) := by decide +kernel
theorem dX11_tellLawn_39 : decode cX11_tellLawn 39 = .ok (.putfield 101, 3) := by decide +kernel
theorem dX11_tellLawn_42 : decode cX11_tellLawn 42 = .ok (.aload_n 0, 1) := by decide +kernel
theorem dX11_tellLawn_43 : decode cX11_tellLawn 43 = .ok (.getfield 33, 3) := by decide +kernel
theorem dX11_tellLawn_46 : decode cX11_tellLawn 46 = .ok (.aload_n 0, 1) := by decide +kernel
theorem dX11_tellLawn_47 : decode cX11_tellLawn 47 = .ok (.getfield 47, 3) := by decide +kernel
theorem dX11_tellLawn_50 : decode cX11_tellLawn 50 = .ok (.getfield 127, 3) := by decide +kernel
theorem dX11_tellLawn_53 : decode cX11_tellLawn 53 = .ok (.aload_n 0, 1) := by decide +kernel
theorem dX11_tellLawn_54 : decode cX11_tellLawn 54 = .ok (.getfield 47, 3) := by decide +kernel
theorem dX11_tellLawn_57 : decode cX11_tellLawn 57 = .ok (.getfield 130, 3) := by decide +kernel
theorem dX11_tellLawn_60 : decode cX11_tellLawn 60 = .ok (.bipush 6, 2) := by decide +kernel
theorem dX11_tellLawn_62 : decode cX11_tellLawn 62 = .ok (.iaload, 1) := by decide +kernel
theorem dX11_tellLawn_63 : decode cX11_tellLawn 63 = .ok (.invokevirtual 134, 3) := by decide +kernel
theorem dX11_tellLawn_66 : decode cX11_tellLawn 66 = .ok (.aload_n 0, 1) := by decide +kernel
theorem dX11_tellLawn_67 : decode cX11_tellLawn 67 = .ok (.getfield 40, 3) := by decide +kernel
theorem dX11_tellLawn_70 : decode cX11_tellLawn 70 = .ok (.invokevirtual 138, 3) := by decide +kernel
theorem dX11_tellLawn_73 : decode cX11_tellLawn 73 = .ok (.aload_n 0, 1) := by decide +kernel
theorem dX11_tellLawn_74 : decode cX11_tellLawn 74 = .ok (.getfield 89, 3) := by decide +kernel
theorem dX11_tellLawn_77 : decode cX11_tellLawn 77 = .ok (.invokevirtual 141, 3) := by decide +kernel
theorem dX11_tellLawn_80 : decode cX11_tellLawn 80 = .ok (.aload_n 0, 1) := by decide +kernel
theorem dX11_tellLawn_81 : decode cX11_tellLawn 81 = .ok (.getfield 82, 3) := by decide +kernel
theorem dX11_tellLawn_84 : decode cX11_tellLawn 84 = .ok (.invokevirtual 142, 3) := by decide +kernel
theorem dX11_tellLawn_87 : decode cX11_tellLawn 87 = .ok (.aload_n 0, 1) := by decide +kernel
theorem dX11_tellLawn_88 : decode cX11_tellLawn 88 = .ok (.invokevirtual 145, 3) := by decide +kernel
theorem dX11_tellLawn_91 : decode cX11_tellLawn 91 = .ok (.aload_n 0, 1) := by decide +kernel
theorem dX11_tellLawn_92 : decode cX11_tellLawn 92 = .ok (.getfield 47, 3) := by decide +kernel
theorem dX11_tellLawn_95 : decode cX11_tellLawn 95 = .ok (.getfield 148, 3) := by decide +kernel
theorem dX11_tellLawn_98 : decode cX11_tellLawn 98 = .ok (.ireturn, 1) := by decide +kernel
theorem dX11_text_0 : decode cX11_text 0 = .ok (.iload_n 1, 1) := by decide +kernel
theorem dX11_text_1 : decode cX11_text 1 = .ok (.ifCond .ne 8, 3) := by decide +kernel
theorem dX11_text_4 : decode cX11_text 4 = .ok (.aload_n 0, 1) := by decide +kernel
theorem dX11_text_5 : decode cX11_text 5 = .ok (.invokevirtual 123, 3) := by decide +kernel
theorem dX11_text_8 : decode cX11_text 8 = .ok (.ireturn, 1) := by decide +kernel
theorem dX11_text_9 : decode cX11_text 9 = .ok (.iload_n 1, 1) := by decide +kernel
theorem dX11_text_10 : decode cX11_text 10 = .ok (.iconst 1, 1) := by decide +kernel
theorem dX11_text_11 : decode cX11_text 11 = .ok (.if_icmp .ne 55, 3) := by decide +kernel
theorem dX11_text_14 : decode cX11_text 14 = .ok (.aload_n 0, 1) := by decide +kernel
theorem dX11_text_15 : decode cX11_text 15 = .ok (.getfield 115, 3) := by decide +kernel
theorem dX11_text_18 : decode cX11_text 18 = .ok (.iconst 4, 1) := by decide +kernel
theorem dX11_text_19 : decode cX11_text 19 = .ok (.if_icmp .ge 47, 3) := by decide +kernel
theorem dX11_text_22 : decode cX11_text 22 = .ok (.aload_n 0, 1) := by decide +kernel
theorem dX11_text_23 : decode cX11_text 23 = .ok (.getfield 18, 3) := by decide +kernel
theorem dX11_text_26 : decode cX11_text 26 = .ok (.aload_n 0, 1) := by decide +kernel
theorem dX11_text_27 : decode cX11_text 27 = .ok (.getfield 115, 3) := by decide +kernel
theorem dX11_text_30 : decode cX11_text 30 = .ok (.aaload, 1) := by decide +kernel
theorem dX11_text_31 : decode cX11_text 31 = .ok (.aload_n 0, 1) := by decide +kernel
theorem dX11_text_32 : decode cX11_text 32 = .ok (.getfield 10, 3) := by decide +kernel
theorem dX11_text_35 : decode cX11_text 35 = .ok (.invokevirtual 118, 3) := by decide +kernel
theorem dX11_text_38 : decode cX11_text 38 = .ok (.ifCond .eq 28, 3) := by decide +kernel
theorem dX11_text_41 : decode cX11_text 41 = .ok (.aload_n 0, 1) := by decide +kernel
theorem dX11_text_42 : decode cX11_text 42 = .ok (.getfield 10, 3) := by decide +kernel
theorem dX11_text_45 : decode cX11_text 45 = .ok (.iconst 0, 1) := by decide +kernel
theorem dX11_text_46 : decode cX11_text 46 = .ok (.putfield 101, 3) := by decide +kernel
theorem dX11_text_49 : decode cX11_text 49 = .ok (.aload_n 0, 1) := by decide +kernel
theorem dX11_text_50 : decode cX11_text 50 = .ok (.dup, 1) := by decide +kernel
theorem dX11_text_51 : decode cX11_text 51 = .ok (.getfield 115, 3) := by decide +kernel
theorem dX11_text_54 : decode cX11_text 54 = .ok (.iconst 1, 1) := by decide +kernel
theorem dX11_text_55 : decode cX11_text 55 = .ok (.iadd, 1) := by decide +kernel
theorem dX11_text_56 : decode cX11_text 56 = .ok (.putfield 115, 3) := by decide +kernel
theorem dX11_text_59 : decode cX11_text 59 = .ok (.aload_n 0, 1) := by decide +kernel
theorem dX11_text_60 : decode cX11_text 60 = .ok (.getfield 115, 3) := by decide +kernel
theorem dX11_text_63 : decode cX11_text 63 = .ok (.iconst 1, 1) := by decide +kernel
theorem dX11_text_64 : decode cX11_text 64 = .ok (.isub, 1) := by decide +kernel
theorem dX11_text_65 : decode cX11_text 65 = .ok (.ireturn, 1) := by decide +kernel
theorem dX11_text_66 : decode cX11_text 66 = .ok (.iload_n 1, 1) := by decide +kernel
theorem dX11_text_67 : decode cX11_text 67 = .ok (.iconst 2, 1) := by decide +kernel
theorem dX11_text_68 : decode cX11_text 68 = .ok (.if_icmp .ne 55, 3) := by decide +kernel
theorem dX11_text_71 : decode cX11_text 71 = .ok (.aload_n 0, 1) := by decide +kernel
theorem dX11_text_72 : decode cX11_text 72 = .ok (.getfield 119, 3) := by decide +kernel
theorem dX11_text_75 : decode cX11_text 75 = .ok (.iconst 4, 1) := by decide +kernel
theorem dX11_text_76 : decode cX11_text 76 = .ok (.if_icmp .ge 47, 3) := by decide +kernel
theorem dX11_text_79 : decode cX11_text 79 = .ok (.aload_n 0, 1) := by decide +kernel
theorem dX11_text_80 : decode cX11_text 80 = .ok (.getfield 24, 3) := by decide +kernel
theorem dX11_text_83 : decode cX11_text 83 = .ok (.aload_n 0, 1) := by decide +kernel
theorem dX11_text_84 : decode cX11_text 84 = .ok (.getfield 119, 3) := by decide +kernel
theorem dX11_text_87 : decode cX11_text 87 = .ok (.aaload, 1) := by decide +kernel
theorem dX11_text_88 : decode cX11_text 88 = .ok (.aload_n 0, 1) := by decide +kernel
theorem dX11_text_89 : decode cX11_text 89 = .ok (.getfield 10, 3) := by decide +kernel
theorem dX11_text_92 : decode cX11_text 92 = .ok (.invokevirtual 122, 3) := by decide +kernel
theorem dX11_text_95 : decode cX11_text 95 = .ok (.ifCond .eq 28, 3) := by decide +kernel
theorem dX11_text_98 : decode cX11_text 98 = .ok (.aload_n 0, 1) := by decide +kernel
theorem dX11_text_99 : decode cX11_text 99 = .ok (.getfield 10, 3) := by decide +kernel
theorem dX11_text_102 : decode cX11_text 102 = .ok (.iconst 0, 1) := by decide +kernel
theorem dX11_text_103 : decode cX11_text 103 = .ok (.putfield 101, 3) := by decide +kernel
theorem dX11_text_106 : decode cX11_text 106 = .ok (.aload_n 0, 1) := by decide +kernel
theorem dX11_text_107 : decode cX11_text 107 = .ok (.dup, 1) := by decide +kernel
theorem dX11_text_108 : decode cX11_text 108 = .ok (.getfield 119, 3) := by decide +kernel
theorem dX11_text_111 : decode cX11_text 111 = .ok (.iconst 1, 1) := by decide +kernel
theorem dX11_text_112 : decode cX11_text 112 = .ok (.iadd, 1) := by decide +kernel
theorem dX11_text_113 : decode cX11_text 113 = .ok (.putfield 119, 3) := by decide +kernel
theorem dX11_text_116 : decode cX11_text 116 = .ok (.aload_n 0, 1) := by decide +kernel
theorem dX11_text_117 : decode cX11_text 117 = .ok (.getfield 119, 3) := by decide +kernel
theorem dX11_text_120 : decode cX11_text 120 = .ok (.iconst 1, 1) := by decide +kernel
theorem dX11_text_121 : decode cX11_text 121 = .ok (.isub, 1) := by decide +kernel
theorem dX11_text_122 : decode cX11_text 122 = .ok (.ireturn, 1) := by decide +kernel
theorem dX11_text_123 : decode cX11_text 123 = .ok (.iconst (-1), 1) := by decide +kernel
theorem dX11_text_124 : decode cX11_text 124 = .ok (.ireturn, 1) := by decide +kernel
theorem wl_1_228 : (.fieldLink RX11 127 "LawnAhead$Ground" "tufts" "I" : Cond) ∈ sg_tbl := tb_1 _ (List.mem_of_getElem? (i := 228) (by decide +kernel)) (by decide +kernel)
theorem wl_4_43 : (.methodLink RX11 134 yX9_begin : Cond) ∈ sg_tbl := tb_4 _ (List.mem_of_getElem? (i := 43) (by decide +kernel)) (by decide +kernel)
theorem wl_4_47 : (.methodLink RX11 138 yX5_clear : Cond) ∈ sg_tbl := tb_4 _ (List.mem_of_getElem? (i := 47) (by decide +kernel)) (by decide +kernel)
theorem wl_4_51 : (.methodLink RX11 141 yX1_clear : Cond) ∈ sg_tbl := tb_4 _ (List.mem_of_getElem? (i := 51) (by decide +kernel)) (by decide +kernel)
theorem wl_4_55 : (.methodLink RX11 142 yX2_forget : Cond) ∈ sg_tbl := tb_4 _ (List.mem_of_getElem? (i := 55) (by decide +kernel)) (by decide +kernel)
theorem wl_4_39 : (.methodLink RX11 123 yX11_tellLawn : Cond) ∈ sg_tbl := tb_4 _ (List.mem_of_getElem? (i := 39) (by decide +kernel)) (by decide +kernel)
theorem wl_4_42 : (.code yX11_tellLawn cX11_tellLawn 2 (some .int) : Cond) ∈ sg_tbl := tb_4 _ (List.mem_of_getElem? (i := 42) (by decide +kernel)) (by decide +kernel)
theorem wl_4_41 : (.instanceMethod yX11_tellLawn : Cond) ∈ sg_tbl := tb_4 _ (List.mem_of_getElem? (i := 41) (by decide +kernel)) (by decide +kernel)
theorem wl_0_18 : (.selects RX11 yX11_tellLawn yX11_tellLawn : Cond) ∈ sg_tbl := tb_0 _ (List.mem_of_getElem? (i := 18) (by decide +kernel)) (by decide +kernel)
theorem wl_4_38 : (.code yX11_text cX11_text 2 (some .int) : Cond) ∈ sg_tbl := tb_4 _ (List.mem_of_getElem? (i := 38) (by decide +kernel)) (by decide +kernel)
theorem wl_4_36 : (.instanceMethod yX11_text : Cond) ∈ sg_tbl := tb_4 _ (List.mem_of_getElem? (i := 36) (by decide +kernel)) (by decide +kernel)
theorem wl_4_37 : (.selects RX11 yX11_text yX11_text : Cond) ∈ sg_tbl := tb_4 _ (List.mem_of_getElem? (i := 37) (by decide +kernel)) (by decide +kernel)
section
variable {p : Program} {l : Launch} {e : Env} {R : Room} {s : State} {m : MethodId} {args : Array Value} {below : List Frame} {meth : Method} {c : Code} {H : Heap} {locs : List Loc} {cells slots : Nat} {Q : State → Prop} {cc : ByteArray} {nL pc : Nat} {ls : Array Slot} {rest : List Value} {own : String} {D : va_G} {A : Nat → Prop} {tys : List (ClassId × FieldType)} {ad ks : List Nat} {P : sgPm} {H0 : Heap} {index : Nat} {base : Nat} {st0 : List Value} {a : Nat}
theorem gf_X11_10h   (X : CallFix p m c cc nL s args sg_tbl own) (hK : va_K D vwCl tys s) (hG : sgG (KT P) D vwCl A tys ad ks H) (ha : isK ad ks 11 a) (hl : Cond.fieldLink own index "LawnAhead" "ground" "LLawnAhead$Ground;" ∈ sg_tbl) (hdg : decode cc pc = .ok (.getfield index, 3)) (kk : ∀ x : Nat, isK ad ks 4 x → fld D H 11 a 10 (.ref x) → gof (KT P) 11 a 10 (.ref x) → W p l e R s m args below meth c H locs cells slots Q (F0 m (pc + 3) ls (.ref x :: rest))) : W p l e R s m args below meth c H locs cells slots Q (F0 m pc ls (.ref a :: rest)) :=
  sg_getH X hK hG ha (k := 11) (ci := 11) rfl (C := RX11) (T := TX11) (N := 17) rfl inL_X11 10 (by decide) rfl hl (fun _ h => h) hdg (fun v hv hf hg => by
    obtain ⟨h1, -⟩ | ⟨x, rfl, hx⟩ := hv
    · cases h1
    · exact kk x hx hf hg)
theorem gf_X4_5h   (X : CallFix p m c cc nL s args sg_tbl own) (hK : va_K D vwCl tys s) (hG : sgG (KT P) D vwCl A tys ad ks H) (ha : isK ad ks 4 a) (hl : Cond.fieldLink own index "LawnAhead$Ground" "cells" "I" ∈ sg_tbl) (hdg : decode cc pc = .ok (.getfield index, 3)) (kk : ∀ x : Int32, iv 0 30 x → fld D H 4 a 5 (.int x) → gof (KT P) 4 a 5 (.int x) → W p l e R s m args below meth c H locs cells slots Q (F0 m (pc + 3) ls (.int x :: rest))) : W p l e R s m args below meth c H locs cells slots Q (F0 m pc ls (.ref a :: rest)) :=
  sg_getH X hK hG ha (k := 4) (ci := 4) rfl (C := RX4) (T := TX4) (N := 15) rfl inL_X4 5 (by decide) rfl hl (fun _ h => h) hdg (fun v hv hf hg => by obtain ⟨x, rfl, hx⟩ := hv; exact kk x hx hf hg)
theorem gg_X11_12   (X : CallFix p m c cc nL s args sg_tbl own) (hK : va_K D vwCl tys s) (hG : sgG (KT P) D vwCl A tys ad ks H) (ha : isK ad ks 11 a) (hl : Cond.fieldLink own index "LawnAhead" "lawCount" "I" ∈ sg_tbl) {v : Value} (hf : fld D H 11 a 12 v) (hdg : decode cc pc = .ok (.getfield index, 3)) (kk : W p l e R s m args below meth c H locs cells slots Q (F0 m (pc + 3) ls (v :: rest))) : W p l e R s m args below meth c H locs cells slots Q (F0 m pc ls (.ref a :: rest)) :=
  sg_getf X hK hG ha (k := 11) (ci := 11) rfl (C := RX11) (T := TX11) (N := 17) rfl inL_X11 12 (by decide) (show 12 < 17 by decide) hl (fun _ h => h) hf hdg kk
theorem gg_X11_13   (X : CallFix p m c cc nL s args sg_tbl own) (hK : va_K D vwCl tys s) (hG : sgG (KT P) D vwCl A tys ad ks H) (ha : isK ad ks 11 a) (hl : Cond.fieldLink own index "LawnAhead" "gameCount" "I" ∈ sg_tbl) {v : Value} (hf : fld D H 11 a 13 v) (hdg : decode cc pc = .ok (.getfield index, 3)) (kk : W p l e R s m args below meth c H locs cells slots Q (F0 m (pc + 3) ls (v :: rest))) : W p l e R s m args below meth c H locs cells slots Q (F0 m pc ls (.ref a :: rest)) :=
  sg_getf X hK hG ha (k := 11) (ci := 11) rfl (C := RX11) (T := TX11) (N := 17) rfl inL_X11 13 (by decide) (show 13 < 17 by decide) hl (fun _ h => h) hf hdg kk
theorem pf_X11_10  {x : Value}  (X : CallFix p m c cc nL s args sg_tbl own) (hK : va_K D vwCl tys s) (hG : sgG (KT P) D vwCl A tys ad ks H) (hS : va_S A H0 H locs) (ha : isK ad ks 11 a) (hl : Cond.fieldLink own index "LawnAhead" "ground" "LLawnAhead$Ground;" ∈ sg_tbl) (hv : okV ad ks (.inr (.inl (false, 4))) x) (hgo : gof (KT P) 11 a 10 x) (hdg : decode cc pc = .ok (.putfield index, 3)) (kk : ∀ (H1 : Heap) (locs1 : List Loc), sgG (KT P) D vwCl A tys ad ks H1 → va_S A H0 H1 locs1 → fld D H1 11 a 10 x → sgFr (KT P) D vwCl ad ks H H1 (fun a' j' => a' = a ∧ j' = 10) → W p l e R s m args below meth c H1 locs1 cells slots Q (F0 m (pc + 3) ls rest)) : W p l e R s m args below meth c H locs cells slots Q (F0 m pc ls (x :: .ref a :: rest)) :=
  sg_put (hgo := hgo) X hK hG hS ha (k := 11) (ci := 11) rfl (C := RX11) (T := TX11) (N := 17) rfl inL_X11 tyX11 tyX11_ok nmX11 10 (by decide) rfl hl (fun _ h => h) rfl (ty := (tyX11 10)) rfl (by rcases hv with ⟨-, rfl⟩ | ⟨y, rfl, -⟩ <;> rfl) (by rcases hv with ⟨-, rfl⟩ | ⟨y, rfl, -⟩ <;> rfl) hv hdg kk
theorem pf_X11_11  {x : Value}  (X : CallFix p m c cc nL s args sg_tbl own) (hK : va_K D vwCl tys s) (hG : sgG (KT P) D vwCl A tys ad ks H) (hS : va_S A H0 H locs) (ha : isK ad ks 11 a) (hl : Cond.fieldLink own index "LawnAhead" "spare" "LLawnAhead$Ground;" ∈ sg_tbl) (hv : okV ad ks (.inr (.inl (false, 4))) x) (hgo : gof (KT P) 11 a 11 x) (hdg : decode cc pc = .ok (.putfield index, 3)) (kk : ∀ (H1 : Heap) (locs1 : List Loc), sgG (KT P) D vwCl A tys ad ks H1 → va_S A H0 H1 locs1 → fld D H1 11 a 11 x → sgFr (KT P) D vwCl ad ks H H1 (fun a' j' => a' = a ∧ j' = 11) → W p l e R s m args below meth c H1 locs1 cells slots Q (F0 m (pc + 3) ls rest)) : W p l e R s m args below meth c H locs cells slots Q (F0 m pc ls (x :: .ref a :: rest)) :=
  sg_put (hgo := hgo) X hK hG hS ha (k := 11) (ci := 11) rfl (C := RX11) (T := TX11) (N := 17) rfl inL_X11 tyX11 tyX11_ok nmX11 11 (by decide) rfl hl (fun _ h => h) rfl (ty := (tyX11 11)) rfl (by rcases hv with ⟨-, rfl⟩ | ⟨y, rfl, -⟩ <;> rfl) (by rcases hv with ⟨-, rfl⟩ | ⟨y, rfl, -⟩ <;> rfl) hv hdg kk
theorem pf_X11_12p   (X : CallFix p m c cc nL s args sg_tbl own) (hK : va_K D vwCl tys s) (hG : sgG (KT P) D vwCl A tys ad ks H) {x : Int32} (hS : va_S A H0 H locs) (ha : isK ad ks 11 a) (hl : Cond.fieldLink own index "LawnAhead" "lawCount" "I" ∈ sg_tbl) {n : Fin 5} (hv : iv (n.val : Int) (n.val : Int) x) (hdg : decode cc pc = .ok (.putfield index, 3)) (kk : ∀ (H1 : Heap) (locs1 : List Loc), sgG (KT (P.1, P.2.1, P.2.2.1, P.2.2.2.1, P.2.2.2.2.1, P.2.2.2.2.2.1, n, P.2.2.2.2.2.2.2)) D vwCl A tys ad ks H1 → va_S A H0 H1 locs1 → W p l e R s m args below meth c H1 locs1 cells slots Q (F0 m (pc + 3) ls rest)) : W p l e R s m args below meth c H locs cells slots Q (F0 m pc ls (.int x :: .ref a :: rest)) :=
  sg_put1 (kt' := KT (P.1, P.2.1, P.2.2.1, P.2.2.2.1, P.2.2.2.2.1, P.2.2.2.2.2.1, n, P.2.2.2.2.2.2.2)) X hK hG hS ha (k := 11) (by decide) (ci := 11) (fts := [.inr (.inl (false, 10)), .inr (.inl (false, 43)), .inr (.inl (false, 44)), .inr (.inl (false, 9)), .inr (.inl (false, 5)), .inr (.inl (false, 8)), .inr (.inl (false, 7)), .inr (.inl (false, 0)), .inr (.inl (false, 2)), .inr (.inl (false, 1)), .inr (.inl (false, 4)), .inr (.inl (false, 4)), .inl ((P.2.2.2.2.2.2.1.val : Int), (P.2.2.2.2.2.2.1.val : Int)), .inl ((P.2.2.2.2.2.2.2.1.val : Int), (P.2.2.2.2.2.2.2.1.val : Int)), .inl ((-2147483648), 2147483647), .inl (P.2.2.2.1, P.2.2.2.1), .inr (.inr false)]) (fts' := [.inr (.inl (false, 10)), .inr (.inl (false, 43)), .inr (.inl (false, 44)), .inr (.inl (false, 9)), .inr (.inl (false, 5)), .inr (.inl (false, 8)), .inr (.inl (false, 7)), .inr (.inl (false, 0)), .inr (.inl (false, 2)), .inr (.inl (false, 1)), .inr (.inl (false, 4)), .inr (.inl (false, 4)), .inl (((P.1, P.2.1, P.2.2.1, P.2.2.2.1, P.2.2.2.2.1, P.2.2.2.2.2.1, n, P.2.2.2.2.2.2.2).2.2.2.2.2.2.1.val : Int), ((P.1, P.2.1, P.2.2.1, P.2.2.2.1, P.2.2.2.2.1, P.2.2.2.2.2.1, n, P.2.2.2.2.2.2.2).2.2.2.2.2.2.1.val : Int)), .inl (((P.1, P.2.1, P.2.2.1, P.2.2.2.1, P.2.2.2.2.1, P.2.2.2.2.2.1, n, P.2.2.2.2.2.2.2).2.2.2.2.2.2.2.1.val : Int), ((P.1, P.2.1, P.2.2.1, P.2.2.2.1, P.2.2.2.2.1, P.2.2.2.2.2.1, n, P.2.2.2.2.2.2.2).2.2.2.2.2.2.2.1.val : Int)), .inl ((-2147483648), 2147483647), .inl ((P.1, P.2.1, P.2.2.1, P.2.2.2.1, P.2.2.2.2.1, P.2.2.2.2.2.1, n, P.2.2.2.2.2.2.2).2.2.2.1, (P.1, P.2.1, P.2.2.1, P.2.2.2.1, P.2.2.2.2.1, P.2.2.2.2.2.1, n, P.2.2.2.2.2.2.2).2.2.2.1), .inr (.inr false)]) rfl rfl (C := RX11) (T := TX11) (N := 17) rfl inL_X11 tyX11 tyX11_ok nmX11 12 (by decide) rfl (t' := .inl ((n.val : Int), (n.val : Int))) rfl (fun i hi => by match i, hi with
    | 0, hi => rfl
    | 1, hi => rfl
    | 2, hi => rfl
    | 3, hi => rfl
    | 4, hi => rfl
    | 5, hi => rfl
    | 6, hi => rfl
    | 7, hi => rfl
    | 8, hi => rfl
    | 9, hi => rfl
    | 10, hi => rfl
    | 11, hi => rfl
    | 12, hi => exact absurd rfl hi
    | 13, hi => rfl
    | 14, hi => rfl
    | 15, hi => rfl
    | 16, hi => rfl
    | i + 17, hi => rfl) (fun i hi => by match i, hi with
    | 0, hi => rfl
    | 1, hi => rfl
    | 2, hi => rfl
    | 3, hi => rfl
    | 4, hi => rfl
    | 5, hi => rfl
    | 6, hi => rfl
    | 7, hi => rfl
    | 8, hi => rfl
    | 9, hi => rfl
    | 10, hi => rfl
    | 11, hi => exact absurd rfl hi
    | 12, hi => rfl
    | 13, hi => rfl
    | 14, hi => rfl
    | 15, hi => rfl
    | 16, hi => rfl
    | 17, hi => rfl
    | 18, hi => rfl
    | 19, hi => rfl
    | 20, hi => rfl
    | 21, hi => rfl
    | 22, hi => rfl
    | 23, hi => rfl
    | 24, hi => rfl
    | 25, hi => rfl
    | 26, hi => rfl
    | 27, hi => rfl
    | 28, hi => rfl
    | 29, hi => rfl
    | 30, hi => rfl
    | 31, hi => rfl
    | 32, hi => rfl
    | 33, hi => rfl
    | 34, hi => rfl
    | 35, hi => rfl
    | 36, hi => rfl
    | 37, hi => rfl
    | 38, hi => rfl
    | 39, hi => rfl
    | 40, hi => rfl
    | 41, hi => rfl
    | 42, hi => rfl
    | 43, hi => rfl
    | 44, hi => rfl
    | 45, hi => rfl
    | 46, hi => rfl
    | 47, hi => rfl
    | 48, hi => rfl
    | 49, hi => rfl
    | 50, hi => rfl
    | 51, hi => rfl
    | 52, hi => rfl
    | 53, hi => rfl
    | 54, hi => rfl
    | 55, hi => rfl
    | 56, hi => rfl
    | 57, hi => rfl
    | 58, hi => rfl
    | 59, hi => rfl
    | 60, hi => rfl
    | 61, hi => rfl
    | 62, hi => rfl
    | 63, hi => rfl
    | 64, hi => rfl
    | 65, hi => rfl
    | 66, hi => rfl
    | 67, hi => rfl
    | i + 68, hi => rfl) hl (fun _ h => h) rfl (ty := .int) rfl rfl rfl ⟨_, rfl, hv⟩ hdg kk
theorem pf_X11_13p   (X : CallFix p m c cc nL s args sg_tbl own) (hK : va_K D vwCl tys s) (hG : sgG (KT P) D vwCl A tys ad ks H) {x : Int32} (hS : va_S A H0 H locs) (ha : isK ad ks 11 a) (hl : Cond.fieldLink own index "LawnAhead" "gameCount" "I" ∈ sg_tbl) {n : Fin 5} (hv : iv (n.val : Int) (n.val : Int) x) (hdg : decode cc pc = .ok (.putfield index, 3)) (kk : ∀ (H1 : Heap) (locs1 : List Loc), sgG (KT (P.1, P.2.1, P.2.2.1, P.2.2.2.1, P.2.2.2.2.1, P.2.2.2.2.2.1, P.2.2.2.2.2.2.1, n, P.2.2.2.2.2.2.2.2)) D vwCl A tys ad ks H1 → va_S A H0 H1 locs1 → W p l e R s m args below meth c H1 locs1 cells slots Q (F0 m (pc + 3) ls rest)) : W p l e R s m args below meth c H locs cells slots Q (F0 m pc ls (.int x :: .ref a :: rest)) :=
  sg_put1 (kt' := KT (P.1, P.2.1, P.2.2.1, P.2.2.2.1, P.2.2.2.2.1, P.2.2.2.2.2.1, P.2.2.2.2.2.2.1, n, P.2.2.2.2.2.2.2.2)) X hK hG hS ha (k := 11) (by decide) (ci := 11) (fts := [.inr (.inl (false, 10)), .inr (.inl (false, 43)), .inr (.inl (false, 44)), .inr (.inl (false, 9)), .inr (.inl (false, 5)), .inr (.inl (false, 8)), .inr (.inl (false, 7)), .inr (.inl (false, 0)), .inr (.inl (false, 2)), .inr (.inl (false, 1)), .inr (.inl (false, 4)), .inr (.inl (false, 4)), .inl ((P.2.2.2.2.2.2.1.val : Int), (P.2.2.2.2.2.2.1.val : Int)), .inl ((P.2.2.2.2.2.2.2.1.val : Int), (P.2.2.2.2.2.2.2.1.val : Int)), .inl ((-2147483648), 2147483647), .inl (P.2.2.2.1, P.2.2.2.1), .inr (.inr false)]) (fts' := [.inr (.inl (false, 10)), .inr (.inl (false, 43)), .inr (.inl (false, 44)), .inr (.inl (false, 9)), .inr (.inl (false, 5)), .inr (.inl (false, 8)), .inr (.inl (false, 7)), .inr (.inl (false, 0)), .inr (.inl (false, 2)), .inr (.inl (false, 1)), .inr (.inl (false, 4)), .inr (.inl (false, 4)), .inl (((P.1, P.2.1, P.2.2.1, P.2.2.2.1, P.2.2.2.2.1, P.2.2.2.2.2.1, P.2.2.2.2.2.2.1, n, P.2.2.2.2.2.2.2.2).2.2.2.2.2.2.1.val : Int), ((P.1, P.2.1, P.2.2.1, P.2.2.2.1, P.2.2.2.2.1, P.2.2.2.2.2.1, P.2.2.2.2.2.2.1, n, P.2.2.2.2.2.2.2.2).2.2.2.2.2.2.1.val : Int)), .inl (((P.1, P.2.1, P.2.2.1, P.2.2.2.1, P.2.2.2.2.1, P.2.2.2.2.2.1, P.2.2.2.2.2.2.1, n, P.2.2.2.2.2.2.2.2).2.2.2.2.2.2.2.1.val : Int), ((P.1, P.2.1, P.2.2.1, P.2.2.2.1, P.2.2.2.2.1, P.2.2.2.2.2.1, P.2.2.2.2.2.2.1, n, P.2.2.2.2.2.2.2.2).2.2.2.2.2.2.2.1.val : Int)), .inl ((-2147483648), 2147483647), .inl ((P.1, P.2.1, P.2.2.1, P.2.2.2.1, P.2.2.2.2.1, P.2.2.2.2.2.1, P.2.2.2.2.2.2.1, n, P.2.2.2.2.2.2.2.2).2.2.2.1, (P.1, P.2.1, P.2.2.1, P.2.2.2.1, P.2.2.2.2.1, P.2.2.2.2.2.1, P.2.2.2.2.2.2.1, n, P.2.2.2.2.2.2.2.2).2.2.2.1), .inr (.inr false)]) rfl rfl (C := RX11) (T := TX11) (N := 17) rfl inL_X11 tyX11 tyX11_ok nmX11 13 (by decide) rfl (t' := .inl ((n.val : Int), (n.val : Int))) rfl (fun i hi => by match i, hi with
    | 0, hi => rfl
    | 1, hi => rfl
    | 2, hi => rfl
    | 3, hi => rfl
    | 4, hi => rfl
    | 5, hi => rfl
    | 6, hi => rfl
    | 7, hi => rfl
    | 8, hi => rfl
    | 9, hi => rfl
    | 10, hi => rfl
    | 11, hi => rfl
    | 12, hi => rfl
    | 13, hi => exact absurd rfl hi
    | 14, hi => rfl
    | 15, hi => rfl
    | 16, hi => rfl
    | i + 17, hi => rfl) (fun i hi => by match i, hi with
    | 0, hi => rfl
    | 1, hi => rfl
    | 2, hi => rfl
    | 3, hi => rfl
    | 4, hi => rfl
    | 5, hi => rfl
    | 6, hi => rfl
    | 7, hi => rfl
    | 8, hi => rfl
    | 9, hi => rfl
    | 10, hi => rfl
    | 11, hi => exact absurd rfl hi
    | 12, hi => rfl
    | 13, hi => rfl
    | 14, hi => rfl
    | 15, hi => rfl
    | 16, hi => rfl
    | 17, hi => rfl
    | 18, hi => rfl
    | 19, hi => rfl
    | 20, hi => rfl
    | 21, hi => rfl
    | 22, hi => rfl
    | 23, hi => rfl
    | 24, hi => rfl
    | 25, hi => rfl
    | 26, hi => rfl
    | 27, hi => rfl
    | 28, hi => rfl
    | 29, hi => rfl
    | 30, hi => rfl
    | 31, hi => rfl
    | 32, hi => rfl
    | 33, hi => rfl
    | 34, hi => rfl
    | 35, hi => rfl
    | 36, hi => rfl
    | 37, hi => rfl
    | 38, hi => rfl
    | 39, hi => rfl
    | 40, hi => rfl
    | 41, hi => rfl
    | 42, hi => rfl
    | 43, hi => rfl
    | 44, hi => rfl
    | 45, hi => rfl
    | 46, hi => rfl
    | 47, hi => rfl
    | 48, hi => rfl
    | 49, hi => rfl
    | 50, hi => rfl
    | 51, hi => rfl
    | 52, hi => rfl
    | 53, hi => rfl
    | 54, hi => rfl
    | 55, hi => rfl
    | 56, hi => rfl
    | 57, hi => rfl
    | 58, hi => rfl
    | 59, hi => rfl
    | 60, hi => rfl
    | 61, hi => rfl
    | 62, hi => rfl
    | 63, hi => rfl
    | 64, hi => rfl
    | 65, hi => rfl
    | 66, hi => rfl
    | 67, hi => rfl
    | i + 68, hi => rfl) hl (fun _ h => h) rfl (ty := .int) rfl rfl rfl ⟨_, rfl, hv⟩ hdg kk
set_option maxHeartbeats 8000000 in
set_option maxRecDepth 100000 in
theorem m_X11_tellLawn_q (l : Launch) {D : va_G} {base : Nat} {tys : List (ClassId × FieldType)} {ad ks : List Nat} {P : sgPm} (a0 : Nat) (h0 : isK ad ks 11 a0) (hgi : sgGi (sgGm P)) (hl0 : 0 ≤ sgL1 P ∧ sgL1 P ≤ 240) (hby : ∀ j : Nat, (↑j : Int) < sgL1 P → 1 ≤ sgT1 P j ∧ sgT1 P j ≤ 255) : Met l yX11_tellLawn (Cond.code yX11_tellLawn cX11_tellLawn 2 (some .int) :: sg_tbl) ({ frames := 7, cells := 0, slots := 0, locals := 160 }) (va_Pc [.ref a0] (sgB (KT P) D vwCl base tys ad ks)) (va_Qi (fun r (u : Int32) => u = r ∧ (fun r : Int32 => True) r) (fun u t => (u.toInt = -1 ∧ ¬ lnTk1 (sgT1 P) (sgL1 P) ∧ sgB (KT P) D vwCl base tys ad ks t) ∨ (∃ (q9 : sgLwn) (P1 : sgPm), lnTq (sgT1 P) (sgL1 P) q9 ∧ u.toInt = q9.1 0 * q9.1 1 ∧ sgRl P P1 ∧ sgL1 P1 = 0 ∧ sgGm P1 = gP2 (gP1 (sgGm P) q9) ∧ sgB (KT P1) D vwCl base tys ad ks t)) (fun q : Nat => base ≤ q)) 0 0 (fun q : Nat => base ≤ q) := by
  refine sg_ofW (by decide +kernel) (Nat.le_of_ble_eq_true rfl) (fun p e s m below meth c X hr hlk hb hK hC hG ls hl => ?_)
  have hS : va_S (fun q : Nat => base ≤ q) s.heap s.heap [] := va_S.rf
  have hl : lv_has ls 2 [(0, .ref a0)] := hl
  refine lv_aload_n X.1 X.2.1 dX11_tellLawn_0 rfl (lv_at hl 0 rfl) ?_
  refine gf_X11_11h X hK hG h0 wl_2_206 dX11_tellLawn_1 (fun q1 hq1 kq1 gq1 => ?_)
  refine lv_aload_n X.1 X.2.1 dX11_tellLawn_4 rfl (lv_at hl 0 rfl) ?_
  refine gf_X11_0 X hK hG h0 wl_2_195 dX11_tellLawn_5 (fun q2 hq2 kq2 => ?_)
  refine ca_X4_read_c X hK hG hC hS hb q1 hq1 q2 hq2 (gi_np hgi gq1) hl0 hby wl_3_26 hl.1 (rest := []) rfl (Nat.le_of_ble_eq_true rfl) ⟨Nat.le_of_ble_eq_true rfl, Nat.le_of_ble_eq_true rfl⟩ ⟨Nat.le_of_ble_eq_true rfl, Nat.le_of_ble_eq_true rfl⟩ dX11_tellLawn_8 (fun f3 tf3 H locs htf3 hf3 hWf3 hS => ?_)
  obtain ⟨hVf3, hBf3⟩ := hWf3
  rcases hVf3 with ⟨rfl, q9, kv4, c9⟩ | ⟨rfl, kv4⟩
  · have hG := hBf3.2.2.2
    rw [htf3] at hG c9
    refine lv_if_ne (tgt := 16) X.1 X.2.1 dX11_tellLawn_11 (by decide) (fun c5 => ?_) (fun c5 => ?_)
    · refine lv_aload_n X.1 X.2.1 dX11_tellLawn_16 rfl (lv_at hl 0 rfl) ?_
      refine gf_X11_10h X hK hG h0 wl_2_205 dX11_tellLawn_17 (fun q6 hq6 kq6 gq6 => ?_)
      refine lv_astore_n (lv' := [(1, .ref q6), (0, .ref a0)]) X.1 X.2.1 dX11_tellLawn_20 rfl hl (by decide) rfl (fun ls hl => ?_)
      refine lv_aload_n X.1 X.2.1 dX11_tellLawn_21 rfl (lv_at hl 1 rfl) ?_
      refine lv_aload_n X.1 X.2.1 dX11_tellLawn_22 rfl (lv_at hl 1 rfl) ?_
      refine gf_X11_11h X hK hG h0 wl_2_206 dX11_tellLawn_23 (fun q7 hq7 kq7 gq7 => ?_)
      have hG := sg_rp1 hG c9
      obtain ⟨P1, eP1⟩ : ∃ P1 : sgPm, P1 = sgGh P (gP1 (sgGm P) q9) := ⟨_, rfl⟩
      rw [← eP1] at hG
      have gm1 : sgGm P1 = gP1 (sgGm P) q9 := by rw [eP1]; exact sgGm_Gh
      have h14 : gB (sgGm P1) 14 = false := by rw [gm1]; rfl
      have e6 : q6 = gW (sgGm P1) (!gB (sgGm P1) 7) := by rw [gm1, gi_g hgi gq6]; show gW (sgGm P) (gB (sgGm P) 6) = gW (sgGm P) (!gB (sgGm P) 7); rw [hgi.1, Bool.not_not]
      have e7 : q7 = gW (sgGm P1) (!gB (sgGm P1) 6) := by rw [gm1, gP1_W, gP1_6]; exact gi_s hgi gq7
      refine pf_X11_10 (hgo := (go_g (fun z => absurd (h14.symm.trans z) (by decide)))) X hK hG hS h0 wl_2_205 (Or.inr ⟨_, rfl, hq7⟩) dX11_tellLawn_26 (fun H locs hG hS ku8 ru8 => ?_)
      refine lv_aload_n X.1 X.2.1 dX11_tellLawn_29 rfl (lv_at hl 1 rfl) ?_
      refine lv_aload_n X.1 X.2.1 dX11_tellLawn_30 rfl (lv_at hl 0 rfl) ?_
      refine pf_X11_11 (hgo := (go_s (fun z => absurd (h14.symm.trans z) (by decide)))) X hK hG hS h0 wl_2_206 (Or.inr ⟨_, rfl, hq6⟩) dX11_tellLawn_31 (fun H locs hG hS ku9 ru9 => ?_)
      have hG := sg_rp2 hG h0 (ru9 _ _ _ _ _ _ _ h0 rfl rfl (by decide) (fun z => absurd z.2 (by decide)) ku8) ku9 e7 e6
      obtain ⟨P2, eP2⟩ : ∃ P2 : sgPm, P2 = sgGh P1 (gP2 (sgGm P1)) := ⟨_, rfl⟩
      rw [← eP2] at hG
      have gm2 : sgGm P2 = gP2 (gP1 (sgGm P) q9) := by rw [eP2, sgGm_Gh, gm1]
      have gi2 : sgGi (sgGm P2) := by rw [gm2]; exact gi_next hgi
      have rl2 : sgRl P P2 := by rw [eP2]; refine sgRl_tr ?_ sgRl_Gh; rw [eP1]; exact sgRl_Gh
      refine lv_aload_n X.1 X.2.1 dX11_tellLawn_34 rfl (lv_at hl 1 rfl) ?_
      refine gf_X11_0 X hK hG h0 wl_2_195 dX11_tellLawn_35 (fun q10 hq10 kq10 => ?_)
      refine lv_iconst (v := 0) X.1 X.2.1 dX11_tellLawn_38 (by decide +kernel) ?_
      have hG := sg_st hG
      refine pf_X10_1q X hK hG hS hq10 wl_1_42 (iv_of (iv_c 0 (a := 0) (b := 0) (by decide +kernel)) (a' := 0) (b' := 240) (by decide +kernel)) dX11_tellLawn_39 (fun H locs hG hS => ?_)
      refine lv_aload_n X.1 X.2.1 dX11_tellLawn_42 rfl (lv_at hl 1 rfl) ?_
      refine gf_X11_3 X hK hG h0 wl_2_198 dX11_tellLawn_43 (fun q11 hq11 kq11 => ?_)
      refine lv_aload_n X.1 X.2.1 dX11_tellLawn_46 rfl (lv_at hl 1 rfl) ?_
      refine gf_X11_10h X hK hG h0 wl_2_205 dX11_tellLawn_47 (fun q12 hq12 kq12 gq12 => ?_)
      refine gf_X4_9 X hK hG hq12 wl_1_228 dX11_tellLawn_50 (fun f13 hf13 kf13 => ?_)
      refine lv_aload_n X.1 X.2.1 dX11_tellLawn_53 rfl (lv_at hl 1 rfl) ?_
      refine gg_X11_10 X hK hG h0 wl_2_205 kq12 dX11_tellLawn_54 ?_
      refine gf_X4_0 X hK hG hq12 wl_1_211 dX11_tellLawn_57 (fun q14 hq14 kq14 => ?_)
      refine lv_bipush (v := 6) X.1 X.2.1 dX11_tellLawn_60 (by decide +kernel) ?_
      refine al_21 X hK hG hq14 (iv_vpin (iv_c 6 (a := 6) (b := 6) (by decide +kernel)) (by decide +kernel)) dX11_tellLawn_62 (fun f15 hf15 => ?_)
      have of15 := hf15
      have hf15 : iv 0 1 f15 := sg_sp_rules hf15 (iv_c 6 (a := 6) (b := 6) (by decide +kernel)) (by decide +kernel) rfl
      refine ca_X9_begin X hK hG hC hS hb q11 hq11 f13 hf13 f15 wl_4_43 hl.1 (rest := []) rfl (Nat.le_of_ble_eq_true rfl) ⟨Nat.le_of_ble_eq_true rfl, Nat.le_of_ble_eq_true rfl⟩ ⟨Nat.le_of_ble_eq_true rfl, Nat.le_of_ble_eq_true rfl⟩ dX11_tellLawn_63 (fun H locs hG hS => ?_)
      refine lv_aload_n X.1 X.2.1 dX11_tellLawn_66 rfl (lv_at hl 1 rfl) ?_
      refine gf_X11_4 X hK hG h0 wl_2_199 dX11_tellLawn_67 (fun q17 hq17 kq17 => ?_)
      refine ca_X5_clear X hK hG hC hS hb q17 hq17 wl_4_47 hl.1 (rest := []) rfl (Nat.le_of_ble_eq_true rfl) ⟨Nat.le_of_ble_eq_true rfl, Nat.le_of_ble_eq_true rfl⟩ ⟨Nat.le_of_ble_eq_true rfl, Nat.le_of_ble_eq_true rfl⟩ dX11_tellLawn_70 (fun H locs hG hS => ?_)
      refine lv_aload_n X.1 X.2.1 dX11_tellLawn_73 rfl (lv_at hl 1 rfl) ?_
      refine gf_X11_9 X hK hG h0 wl_2_204 dX11_tellLawn_74 (fun q19 hq19 kq19 => ?_)
      refine ca_X1_clear X hK hG hC hS hb q19 hq19 wl_4_51 hl.1 (rest := []) rfl (Nat.le_of_ble_eq_true rfl) ⟨Nat.le_of_ble_eq_true rfl, Nat.le_of_ble_eq_true rfl⟩ ⟨Nat.le_of_ble_eq_true rfl, Nat.le_of_ble_eq_true rfl⟩ dX11_tellLawn_77 (fun H locs hG hS => ?_)
      refine lv_aload_n X.1 X.2.1 dX11_tellLawn_80 rfl (lv_at hl 1 rfl) ?_
      refine gf_X11_8 X hK hG h0 wl_2_203 dX11_tellLawn_81 (fun q21 hq21 kq21 => ?_)
      refine ca_X2_forget X hK hG hC hS hb q21 hq21 wl_4_55 hl.1 (rest := []) rfl (Nat.le_of_ble_eq_true rfl) ⟨Nat.le_of_ble_eq_true rfl, Nat.le_of_ble_eq_true rfl⟩ ⟨Nat.le_of_ble_eq_true rfl, Nat.le_of_ble_eq_true rfl⟩ dX11_tellLawn_84 (fun H locs hG hS => ?_)
      refine lv_aload_n X.1 X.2.1 dX11_tellLawn_87 rfl (lv_at hl 1 rfl) ?_
      refine ca_X11_lookByLaw X hK hG hC hS hb a0 h0 wl_4_59 hl.1 (rest := []) rfl (Nat.le_of_ble_eq_true rfl) ⟨Nat.le_of_ble_eq_true rfl, Nat.le_of_ble_eq_true rfl⟩ ⟨Nat.le_of_ble_eq_true rfl, Nat.le_of_ble_eq_true rfl⟩ dX11_tellLawn_88 (fun tg23 H locs htg23 hWg23 hS => ?_)
      obtain ⟨b24, hBg23⟩ := hWg23
      have hG := hBg23.2.2.2
      rw [htg23] at hG
      refine lv_aload_n X.1 X.2.1 dX11_tellLawn_91 rfl (lv_at hl 1 rfl) ?_
      refine gf_X11_10h X hK hG h0 wl_2_205 dX11_tellLawn_92 (fun q25 hq25 kq25 gq25 => ?_)
      refine gf_X4_5h X hK hG hq25 wl_1_220 dX11_tellLawn_95 (fun f26 hf26 kf26 gf26 => ?_)
      have gmP : sgGm (b24, (sgSt P2 (sgT1 P2) (0 : Int32).toInt (sgT2 P2) (sgL2 P2)).2) = sgGm P2 := by simp only [sgGm, sgTp, sgSt]
      have ec : f26.toInt = q9.1 0 * q9.1 1 := by rw [gof_KT, gmP] at gq25 gf26; rw [gi_cells gi2 gq25 gf26, gm2]; rfl
      have rlP : sgRl P (b24, (sgSt P2 (sgT1 P2) (0 : Int32).toInt (sgT2 P2) (sgL2 P2)).2) := sgRl_tr rl2 (sgRl_tr sgRl_St sgRl_b)
      have l0 : sgL1 (b24, (sgSt P2 (sgT1 P2) (0 : Int32).toInt (sgT2 P2) (sgL2 P2)).2) = 0 := by simp only [sgL1, sgTp, sgSt]; decide +kernel
      exact sg_iret2 X hr hlk hS trivial (fun t ht hW => (Or.inr ⟨q9, _, kv4, ec, rlP, l0, gmP.trans gm2, sg_post hb hK hC hG hS ht hW⟩)) dX11_tellLawn_98
    · exact ((iv_no (a := 1) (b := 0) (iv_eqm c5 (iv_c 1 (a := 1) (b := 1) (by decide +kernel)) (iv_c 0 (a := 0) (b := 0) (by decide +kernel)) (by decide +kernel)) (by decide +kernel))).elim
  · have hG := hBf3.2.2.2
    rw [htf3] at hG
    refine lv_if_ne (tgt := 16) X.1 X.2.1 dX11_tellLawn_11 (by decide) (fun c27 => ?_) (fun c27 => ?_)
    · exact ((c27 (iv_one (iv_c 0 (a := 0) (b := 0) (by decide +kernel)) (iv_c 0 (a := 0) (b := 0) (by decide +kernel)) (by decide +kernel)))).elim
    · refine lv_iconst (v := (-1)) X.1 X.2.1 dX11_tellLawn_14 (by decide +kernel) ?_
      exact sg_iret2 X hr hlk hS trivial (fun t ht hW => (Or.inl ⟨by decide +kernel, kv4, sg_post hb hK hC hG hS ht hW⟩)) dX11_tellLawn_15

theorem ca_X11_tellLawn_q   (X : CallFix p m c cc nL s args sg_tbl own) (hK : va_K D vwCl tys s) (hG : sgG (KT P) D vwCl (fun q : Nat => base ≤ q) tys ad ks H) (hC : sgC base s) (hS : va_S (fun q : Nat => base ≤ q) s.heap H locs) (hb : base ≤ s.heap.size) (a0 : Nat) (h0 : isK ad ks 11 a0) (hgi : sgGi (sgGm P)) (hl0 : 0 ≤ sgL1 P ∧ sgL1 P ≤ 240) (hby : ∀ j : Nat, (↑j : Int) < sgL1 P → 1 ≤ sgT1 P j ∧ sgT1 P j ≤ 255) (hl : Cond.methodLink own index yX11_tellLawn ∈ sg_tbl) (hsize : ls.size = nL) (hst : st0 = [].reverse ++ .ref a0 :: rest) (hW : (rest.map fun v => v.category).sum ≤ 8) (hR : 8 ≤ R.frames ∧ 181 ≤ R.locals) (hf : cells ≤ R.cells ∧ slots ≤ R.slots) (hdg : decode cc pc = .ok (.invokevirtual index, 3)) (kk : ∀ (r : Int32) (t : State) (H1 : Heap) (locs1 : List Loc), t.heap = H1 → (fun r : Int32 => True) r → ((r.toInt = -1 ∧ ¬ lnTk1 (sgT1 P) (sgL1 P) ∧ sgB (KT P) D vwCl base tys ad ks t) ∨ (∃ (q9 : sgLwn) (P1 : sgPm), lnTq (sgT1 P) (sgL1 P) q9 ∧ r.toInt = q9.1 0 * q9.1 1 ∧ sgRl P P1 ∧ sgL1 P1 = 0 ∧ sgGm P1 = gP2 (gP1 (sgGm P) q9) ∧ sgB (KT P1) D vwCl base tys ad ks t)) → va_S (fun q : Nat => base ≤ q) s.heap H1 locs1 → W p l e R s m args below meth c H1 locs1 cells slots Q (F0 m (pc + 3) ls (.int r :: rest))) : W p l e R s m args below meth c H locs cells slots Q (F0 m pc ls st0) :=
  sg_callV2i X hK hG hC hS hb (m_X11_tellLawn_q l a0 h0 hgi hl0 hby) h0 (k := 11) (ci := 11) rfl (C := RX11) (T := TX11) (N := 17) rfl wl_4_42 wl_1_1 wl_4_41 wl_0_18 (n := 0) (by decide +kernel) rfl rfl rfl hl hsize hst hW hR hf hdg kk

set_option maxHeartbeats 8000000 in
set_option maxRecDepth 100000 in
theorem m_X11_text_q0 (l : Launch) {D : va_G} {base : Nat} {tys : List (ClassId × FieldType)} {ad ks : List Nat} {P : sgPm} (a0 : Nat) (h0 : isK ad ks 11 a0) (x1 : Int32) (h1 : iv 0 0 x1) (hgi : sgGi (sgGm P)) (hl0 : 0 ≤ sgL1 P ∧ sgL1 P ≤ 240) (hby : ∀ j : Nat, (↑j : Int) < sgL1 P → 1 ≤ sgT1 P j ∧ sgT1 P j ≤ 255) : Met l yX11_text (Cond.code yX11_text cX11_text 2 (some .int) :: sg_tbl) ({ frames := 23, cells := 0, slots := 0, locals := 565 }) (va_Pc [.ref a0, .int x1] (sgB (KT P) D vwCl base tys ad ks)) (va_Qi (fun r (u : Int32) => u = r ∧ (fun r : Int32 => True) r) (fun u t => ∃ P1 : sgPm, sgKeep P P1 ∧ sgPin P1 = sgPin P ∧ sgN P1 = sgN P ∧ sgSd1 P P1 ∧ sgLs P P1 ∧ sgGk P P1 ∧ ((∃ q9 : sgLwn, lnTq (sgT1 P) (sgL1 P) q9 ∧ sgEf1 0 0 0 P P1 ∧ sgGm P1 = gP2 (gP1 (sgGm P) q9) ∧ u.toInt = q9.1 0 * q9.1 1) ∨ (¬ lnTk1 (sgT1 P) (sgL1 P) ∧ sgEf1 (sgL1 P) 0 0 P P1 ∧ sgGm P1 = sgGm P ∧ u.toInt = -1)) ∧ sgB (KT P1) D vwCl base tys ad ks t) (fun q : Nat => base ≤ q)) 0 0 (fun q : Nat => base ≤ q) := by
  refine sg_ofW (by decide +kernel) (Nat.le_of_ble_eq_true rfl) (fun p e s m below meth c X hr hlk hb hK hC hG ls hl => ?_)
  have hS : va_S (fun q : Nat => base ≤ q) s.heap s.heap [] := va_S.rf
  have hl : lv_has ls 2 [(0, .ref a0), (1, .int x1)] := hl
  refine lv_iload_n X.1 X.2.1 dX11_text_0 rfl (lv_at hl 1 rfl) ?_
  refine lv_if_ne (tgt := 9) X.1 X.2.1 dX11_text_1 (by decide) (fun c1 => ?_) (fun c1 => ?_)
  · exact ((c1 (iv_one h1 (iv_c 0 (a := 0) (b := 0) (by decide +kernel)) (by decide +kernel)))).elim
  · refine lv_aload_n X.1 X.2.1 dX11_text_4 rfl (lv_at hl 0 rfl) ?_
    refine ca_X11_tellLawn_q X hK hG hC hS hb a0 h0 hgi hl0 hby wl_4_39 hl.1 (rest := []) rfl (Nat.le_of_ble_eq_true rfl) ⟨Nat.le_of_ble_eq_true rfl, Nat.le_of_ble_eq_true rfl⟩ ⟨Nat.le_of_ble_eq_true rfl, Nat.le_of_ble_eq_true rfl⟩ dX11_text_5 (fun f2 tf2 H locs htf2 hf2 hWf2 hS => ?_)
    rcases hWf2 with ⟨xv3, kv3, hBf2⟩ | ⟨q9, P1, kv3, x9, rl9, l9, gm9, hBf2⟩
    · have hG := hBf2.2.2.2
      rw [htf2] at hG
      exact sg_iret2 X hr hlk hS trivial (fun t ht hW => ⟨P, ⟨rfl, rfl, Nat.le_refl _, Nat.le_add_right _ _⟩, rfl, rfl, sgSd1_rf, sgLs_rf, sgGk_rf, Or.inr ⟨kv3, sgEf1_rf, rfl, xv3⟩, sg_post hb hK hC hG hS ht hW⟩) dX11_text_8
    · have hG := hBf2.2.2.2
      rw [htf2] at hG
      obtain ⟨hkp, hpn, hnn, hsd, hef, hls, hgk⟩ := rl_txt rl9 l9
      exact sg_iret2 X hr hlk hS trivial (fun t ht hW => ⟨_, hkp, hpn, hnn, hsd, hls, hgk, Or.inl ⟨q9, kv3, hef, gm9, x9⟩, sg_post hb hK hC hG hS ht hW⟩) dX11_text_8

theorem ca_X11_text_q0   (X : CallFix p m c cc nL s args sg_tbl own) (hK : va_K D vwCl tys s) (hG : sgG (KT P) D vwCl (fun q : Nat => base ≤ q) tys ad ks H) (hC : sgC base s) (hS : va_S (fun q : Nat => base ≤ q) s.heap H locs) (hb : base ≤ s.heap.size) (a0 : Nat) (h0 : isK ad ks 11 a0) (x1 : Int32) (h1 : iv 0 0 x1) (hgi : sgGi (sgGm P)) (hl0 : 0 ≤ sgL1 P ∧ sgL1 P ≤ 240) (hby : ∀ j : Nat, (↑j : Int) < sgL1 P → 1 ≤ sgT1 P j ∧ sgT1 P j ≤ 255) (hl : Cond.methodLink own index yX11_text ∈ sg_tbl) (hsize : ls.size = nL) (hst : st0 = [.int x1].reverse ++ .ref a0 :: rest) (hW : (rest.map fun v => v.category).sum ≤ 8) (hR : 24 ≤ R.frames ∧ 586 ≤ R.locals) (hf : cells ≤ R.cells ∧ slots ≤ R.slots) (hdg : decode cc pc = .ok (.invokevirtual index, 3)) (kk : ∀ (r : Int32) (t : State) (H1 : Heap) (locs1 : List Loc), t.heap = H1 → (fun r : Int32 => True) r → (∃ P1 : sgPm, sgKeep P P1 ∧ sgPin P1 = sgPin P ∧ sgN P1 = sgN P ∧ sgSd1 P P1 ∧ sgLs P P1 ∧ sgGk P P1 ∧ ((∃ q9 : sgLwn, lnTq (sgT1 P) (sgL1 P) q9 ∧ sgEf1 0 0 0 P P1 ∧ sgGm P1 = gP2 (gP1 (sgGm P) q9) ∧ r.toInt = q9.1 0 * q9.1 1) ∨ (¬ lnTk1 (sgT1 P) (sgL1 P) ∧ sgEf1 (sgL1 P) 0 0 P P1 ∧ sgGm P1 = sgGm P ∧ r.toInt = -1)) ∧ sgB (KT P1) D vwCl base tys ad ks t) → va_S (fun q : Nat => base ≤ q) s.heap H1 locs1 → W p l e R s m args below meth c H1 locs1 cells slots Q (F0 m (pc + 3) ls (.int r :: rest))) : W p l e R s m args below meth c H locs cells slots Q (F0 m pc ls st0) :=
  sg_callV2i X hK hG hC hS hb (m_X11_text_q0 l a0 h0 x1 h1 hgi hl0 hby) h0 (k := 11) (ci := 11) rfl (C := RX11) (T := TX11) (N := 17) rfl wl_4_38 wl_1_1 wl_4_36 wl_4_37 (n := 1) (by decide +kernel) rfl rfl rfl hl hsize hst hW hR hf hdg kk

set_option maxHeartbeats 8000000 in
set_option maxRecDepth 100000 in
theorem m_X11_text_q1 (l : Launch) {D : va_G} {base : Nat} {tys : List (ClassId × FieldType)} {ad ks : List Nat} {P : sgPm} (a0 : Nat) (h0 : isK ad ks 11 a0) (x1 : Int32) (h1 : iv 1 1 x1) (hgi : sgGi (sgGm P)) (hl0 : 0 ≤ sgL1 P ∧ sgL1 P ≤ 240) (hby : ∀ j : Nat, (↑j : Int) < sgL1 P → 1 ≤ sgT1 P j ∧ sgT1 P j ≤ 255) : Met l yX11_text (Cond.code yX11_text cX11_text 2 (some .int) :: sg_tbl) ({ frames := 23, cells := 0, slots := 0, locals := 565 }) (va_Pc [.ref a0, .int x1] (sgB (KT P) D vwCl base tys ad ks)) (va_Qi (fun r (u : Int32) => u = r ∧ (fun r : Int32 => True) r) (fun u t => ∃ P1 : sgPm, sgKeep P P1 ∧ sgPin P1 = sgPin P ∧ sgN P1 = sgN P ∧ sgSd1 P P1 ∧ sgLs P P1 ∧ sgGk P P1 ∧ (((P.2.2.2.2.2.2.1.val < 4 ∧ (∃ a1 : Int, vLaw (sgT1 P) (sgL1 P) = (true, a1))) ∧ sgEf1 0 1 0 P P1 ∧ sgGm P1 = sgGm P ∧ u.toInt = (P.2.2.2.2.2.2.1.val : Int)) ∨ (¬ (P.2.2.2.2.2.2.1.val < 4 ∧ (∃ a1 : Int, vLaw (sgT1 P) (sgL1 P) = (true, a1))) ∧ sgEf1 (sgL1 P) 0 0 P P1 ∧ sgGm P1 = sgGm P ∧ u.toInt = -1)) ∧ sgB (KT P1) D vwCl base tys ad ks t) (fun q : Nat => base ≤ q)) 0 0 (fun q : Nat => base ≤ q) := by
  refine sg_ofW (by decide +kernel) (Nat.le_of_ble_eq_true rfl) (fun p e s m below meth c X hr hlk hb hK hC hG ls hl => ?_)
  have hS : va_S (fun q : Nat => base ≤ q) s.heap s.heap [] := va_S.rf
  have hl : lv_has ls 2 [(0, .ref a0), (1, .int x1)] := hl
  refine lv_iload_n X.1 X.2.1 dX11_text_0 rfl (lv_at hl 1 rfl) ?_
  refine lv_if_ne (tgt := 9) X.1 X.2.1 dX11_text_1 (by decide) (fun c1 => ?_) (fun c1 => ?_)
  · refine lv_iload_n X.1 X.2.1 dX11_text_9 rfl (lv_at hl 1 rfl) ?_
    refine lv_iconst (v := 1) X.1 X.2.1 dX11_text_10 (by decide +kernel) ?_
    refine lv_icmp_ne (tgt := 66) X.1 X.2.1 dX11_text_11 (by decide) (fun c2 => ?_) (fun c2 => ?_)
    · exact ((c2 (iv_one h1 (iv_c 1 (a := 1) (b := 1) (by decide +kernel)) (by decide +kernel)))).elim
    · refine lv_aload_n X.1 X.2.1 dX11_text_14 rfl (lv_at hl 0 rfl) ?_
      refine gf_X11_12 X hK hG h0 wl_2_207 dX11_text_15 (fun f3 hf3 pf3 kf3 => ?_)
      refine lv_iconst (v := 4) X.1 X.2.1 dX11_text_18 (by decide +kernel) ?_
      refine lv_icmp_ge (tgt := 66) X.1 X.2.1 dX11_text_19 (by decide) (fun c4 => ?_) (fun c4 => ?_)
      · refine lv_iload_n X.1 X.2.1 dX11_text_66 rfl (lv_at hl 1 rfl) ?_
        refine lv_iconst (v := 2) X.1 X.2.1 dX11_text_67 (by decide +kernel) ?_
        refine lv_icmp_ne (tgt := 123) X.1 X.2.1 dX11_text_68 (by decide) (fun c5 => ?_) (fun c5 => ?_)
        · refine lv_iconst (v := (-1)) X.1 X.2.1 dX11_text_123 (by decide +kernel) ?_
          exact sg_iret2 X hr hlk hS trivial (fun t ht hW => ⟨P, ⟨rfl, rfl, Nat.le_refl _, Nat.le_add_right _ _⟩, rfl, rfl, sgSd1_rf, sgLs_rf, sgGk_rf, Or.inr ⟨(fun z => sg_pinge pf3 c4 z.1), sgEf1_rf, rfl, (by decide +kernel)⟩, sg_post hb hK hC hG hS ht hW⟩) dX11_text_124
        · exact ((iv_no (a := 2) (b := 1) (iv_eqm c5 h1 (iv_c 2 (a := 2) (b := 2) (by decide +kernel)) (by decide +kernel)) (by decide +kernel))).elim
      · refine lv_aload_n X.1 X.2.1 dX11_text_22 rfl (lv_at hl 0 rfl) ?_
        refine gf_X11_1 X hK hG h0 wl_2_196 dX11_text_23 (fun q6 hq6 kq6 => ?_)
        refine lv_aload_n X.1 X.2.1 dX11_text_26 rfl (lv_at hl 0 rfl) ?_
        refine gg_X11_12 X hK hG h0 wl_2_207 kf3 dX11_text_27 ?_
        refine al_43 X hK hG hq6 (iv_vpin (iv_lt (b' := 3) (iv_gt_of c4) hf3 (iv_c 4 (a := 4) (b := 4) (by decide +kernel)) (by decide +kernel)) (by decide +kernel)) dX11_text_30 (fun q7 hq7 => ?_)
        refine lv_aload_n X.1 X.2.1 dX11_text_31 rfl (lv_at hl 0 rfl) ?_
        refine gf_X11_0 X hK hG h0 wl_2_195 dX11_text_32 (fun q8 hq8 kq8 => ?_)
        refine ca_X6_read_c X hK hG hC hS hb q7 hq7 q8 hq8 hl0 hby wl_3_205 hl.1 (rest := []) rfl (Nat.le_of_ble_eq_true rfl) ⟨Nat.le_of_ble_eq_true rfl, Nat.le_of_ble_eq_true rfl⟩ ⟨Nat.le_of_ble_eq_true rfl, Nat.le_of_ble_eq_true rfl⟩ dX11_text_35 (fun f9 tf9 H locs htf9 hf9 hWf9 hS => ?_)
        obtain ⟨hVf9, hBf9⟩ := hWf9
        rcases hVf9 with ⟨rfl, kv10⟩ | ⟨rfl, kv10⟩
        · have hG := hBf9.2.2.2
          rw [htf9] at hG
          refine lv_if_eq (tgt := 66) X.1 X.2.1 dX11_text_38 (by decide) (fun c11 => ?_) (fun c11 => ?_)
          · exact ((iv_no (a := 1) (b := 0) (iv_eqm c11 (iv_c 1 (a := 1) (b := 1) (by decide +kernel)) (iv_c 0 (a := 0) (b := 0) (by decide +kernel)) (by decide +kernel)) (by decide +kernel))).elim
          · refine lv_aload_n X.1 X.2.1 dX11_text_41 rfl (lv_at hl 0 rfl) ?_
            refine gf_X11_0 X hK hG h0 wl_2_195 dX11_text_42 (fun q12 hq12 kq12 => ?_)
            refine lv_iconst (v := 0) X.1 X.2.1 dX11_text_45 (by decide +kernel) ?_
            have hG := sg_st hG
            refine pf_X10_1q X hK hG hS hq12 wl_1_42 (iv_of (iv_c 0 (a := 0) (b := 0) (by decide +kernel)) (a' := 0) (b' := 240) (by decide +kernel)) dX11_text_46 (fun H locs hG hS => ?_)
            refine lv_aload_n X.1 X.2.1 dX11_text_49 rfl (lv_at hl 0 rfl) ?_
            refine lv_dup X.1 X.2.1 dX11_text_50 rfl ?_
            refine gf_X11_12 X hK hG h0 wl_2_207 dX11_text_51 (fun f13 hf13 pf13 kf13 => ?_)
            refine lv_iconst (v := 1) X.1 X.2.1 dX11_text_54 (by decide +kernel) ?_
            refine lv_iadd X.1 X.2.1 dX11_text_55 ?_
            refine lv_topi (fun f14 ef14 => ?_)
            obtain ⟨n15, hn15⟩ := sg_pin pf3 (iv_lt (b' := 3) (iv_gt_of c4) hf3 (iv_c 4 (a := 4) (b := 4) (by decide +kernel)) (by decide +kernel)) pf13 ef14
            refine pf_X11_12p X hK hG hS h0 wl_2_207 (n := n15) (sg_pinv hn15) dX11_text_56 (fun H locs hG hS => ?_)
            refine lv_aload_n X.1 X.2.1 dX11_text_59 rfl (lv_at hl 0 rfl) ?_
            refine gf_X11_12 X hK hG h0 wl_2_207 dX11_text_60 (fun f16 hf16 pf16 kf16 => ?_)
            refine lv_iconst (v := 1) X.1 X.2.1 dX11_text_63 (by decide +kernel) ?_
            refine lv_isub X.1 X.2.1 dX11_text_64 ?_
            refine lv_topi (fun f17 ef17 => ?_)
            have hsd : sgSd1 P ((sgSt P (sgT1 P) (0 : Int32).toInt (sgT2 P) (sgL2 P)).1, (sgSt P (sgT1 P) (0 : Int32).toInt (sgT2 P) (sgL2 P)).2.1, (sgSt P (sgT1 P) (0 : Int32).toInt (sgT2 P) (sgL2 P)).2.2.1, (sgSt P (sgT1 P) (0 : Int32).toInt (sgT2 P) (sgL2 P)).2.2.2.1, (sgSt P (sgT1 P) (0 : Int32).toInt (sgT2 P) (sgL2 P)).2.2.2.2.1, (sgSt P (sgT1 P) (0 : Int32).toInt (sgT2 P) (sgL2 P)).2.2.2.2.2.1, n15, (sgSt P (sgT1 P) (0 : Int32).toInt (sgT2 P) (sgL2 P)).2.2.2.2.2.2.2) := (by have z0 : (0 : Int32).toInt = 0 := (by decide +kernel); simp only [sgSd1, sgT1, sgL1, sgT2, sgL2, sgTp, sgSt, sgGh, sgN, sgPl, sgG0, sgGl, sgRw, sgW, sgNc, sgPin, z0, Nat.add_zero, Nat.le_refl, Nat.le_add_right, and_self, true_and, and_true])
            have z1 := (sg_pinS pf13 ef14 hn15)
            have hef : sgEf1 0 1 0 P ((sgSt P (sgT1 P) (0 : Int32).toInt (sgT2 P) (sgL2 P)).1, (sgSt P (sgT1 P) (0 : Int32).toInt (sgT2 P) (sgL2 P)).2.1, (sgSt P (sgT1 P) (0 : Int32).toInt (sgT2 P) (sgL2 P)).2.2.1, (sgSt P (sgT1 P) (0 : Int32).toInt (sgT2 P) (sgL2 P)).2.2.2.1, (sgSt P (sgT1 P) (0 : Int32).toInt (sgT2 P) (sgL2 P)).2.2.2.2.1, (sgSt P (sgT1 P) (0 : Int32).toInt (sgT2 P) (sgL2 P)).2.2.2.2.2.1, n15, (sgSt P (sgT1 P) (0 : Int32).toInt (sgT2 P) (sgL2 P)).2.2.2.2.2.2.2) := (by have z0 : (0 : Int32).toInt = 0 := (by decide +kernel); simp only [sgEf1, sgT1, sgL1, sgT2, sgL2, sgTp, sgSt, sgGh, sgN, sgPl, sgG0, sgGl, sgRw, sgW, sgNc, sgPin, z0, Nat.add_zero, Nat.le_refl, Nat.le_add_right, and_self, true_and, and_true, z1])
            have hkp : sgKeep P ((sgSt P (sgT1 P) (0 : Int32).toInt (sgT2 P) (sgL2 P)).1, (sgSt P (sgT1 P) (0 : Int32).toInt (sgT2 P) (sgL2 P)).2.1, (sgSt P (sgT1 P) (0 : Int32).toInt (sgT2 P) (sgL2 P)).2.2.1, (sgSt P (sgT1 P) (0 : Int32).toInt (sgT2 P) (sgL2 P)).2.2.2.1, (sgSt P (sgT1 P) (0 : Int32).toInt (sgT2 P) (sgL2 P)).2.2.2.2.1, (sgSt P (sgT1 P) (0 : Int32).toInt (sgT2 P) (sgL2 P)).2.2.2.2.2.1, n15, (sgSt P (sgT1 P) (0 : Int32).toInt (sgT2 P) (sgL2 P)).2.2.2.2.2.2.2) := (by have z0 : (0 : Int32).toInt = 0 := (by decide +kernel); simp only [sgKeep, sgT1, sgL1, sgT2, sgL2, sgTp, sgSt, sgGh, sgN, sgPl, sgG0, sgGl, sgRw, sgW, sgNc, sgPin, z0, Nat.add_zero, Nat.le_refl, Nat.le_add_right, and_self, true_and, and_true])
            have hpn : sgPin ((sgSt P (sgT1 P) (0 : Int32).toInt (sgT2 P) (sgL2 P)).1, (sgSt P (sgT1 P) (0 : Int32).toInt (sgT2 P) (sgL2 P)).2.1, (sgSt P (sgT1 P) (0 : Int32).toInt (sgT2 P) (sgL2 P)).2.2.1, (sgSt P (sgT1 P) (0 : Int32).toInt (sgT2 P) (sgL2 P)).2.2.2.1, (sgSt P (sgT1 P) (0 : Int32).toInt (sgT2 P) (sgL2 P)).2.2.2.2.1, (sgSt P (sgT1 P) (0 : Int32).toInt (sgT2 P) (sgL2 P)).2.2.2.2.2.1, n15, (sgSt P (sgT1 P) (0 : Int32).toInt (sgT2 P) (sgL2 P)).2.2.2.2.2.2.2) = sgPin P := (by have z0 : (0 : Int32).toInt = 0 := (by decide +kernel); simp only [sgKeep, sgT1, sgL1, sgT2, sgL2, sgTp, sgSt, sgGh, sgN, sgPl, sgG0, sgGl, sgRw, sgW, sgNc, sgPin, z0, Nat.add_zero, Nat.le_refl, Nat.le_add_right, and_self, true_and, and_true])
            have hnn : sgN ((sgSt P (sgT1 P) (0 : Int32).toInt (sgT2 P) (sgL2 P)).1, (sgSt P (sgT1 P) (0 : Int32).toInt (sgT2 P) (sgL2 P)).2.1, (sgSt P (sgT1 P) (0 : Int32).toInt (sgT2 P) (sgL2 P)).2.2.1, (sgSt P (sgT1 P) (0 : Int32).toInt (sgT2 P) (sgL2 P)).2.2.2.1, (sgSt P (sgT1 P) (0 : Int32).toInt (sgT2 P) (sgL2 P)).2.2.2.2.1, (sgSt P (sgT1 P) (0 : Int32).toInt (sgT2 P) (sgL2 P)).2.2.2.2.2.1, n15, (sgSt P (sgT1 P) (0 : Int32).toInt (sgT2 P) (sgL2 P)).2.2.2.2.2.2.2) = sgN P := (by have z0 : (0 : Int32).toInt = 0 := (by decide +kernel); simp only [sgKeep, sgT1, sgL1, sgT2, sgL2, sgTp, sgSt, sgGh, sgN, sgPl, sgG0, sgGl, sgRw, sgW, sgNc, sgPin, z0, Nat.add_zero, Nat.le_refl, Nat.le_add_right, and_self, true_and, and_true])
            have hgm : sgGm ((sgSt P (sgT1 P) (0 : Int32).toInt (sgT2 P) (sgL2 P)).1, (sgSt P (sgT1 P) (0 : Int32).toInt (sgT2 P) (sgL2 P)).2.1, (sgSt P (sgT1 P) (0 : Int32).toInt (sgT2 P) (sgL2 P)).2.2.1, (sgSt P (sgT1 P) (0 : Int32).toInt (sgT2 P) (sgL2 P)).2.2.2.1, (sgSt P (sgT1 P) (0 : Int32).toInt (sgT2 P) (sgL2 P)).2.2.2.2.1, (sgSt P (sgT1 P) (0 : Int32).toInt (sgT2 P) (sgL2 P)).2.2.2.2.2.1, n15, (sgSt P (sgT1 P) (0 : Int32).toInt (sgT2 P) (sgL2 P)).2.2.2.2.2.2.2) = sgGm P := by simp only [sgGm, sgSt, sgTp]
            have hgk : sgGk P ((sgSt P (sgT1 P) (0 : Int32).toInt (sgT2 P) (sgL2 P)).1, (sgSt P (sgT1 P) (0 : Int32).toInt (sgT2 P) (sgL2 P)).2.1, (sgSt P (sgT1 P) (0 : Int32).toInt (sgT2 P) (sgL2 P)).2.2.1, (sgSt P (sgT1 P) (0 : Int32).toInt (sgT2 P) (sgL2 P)).2.2.2.1, (sgSt P (sgT1 P) (0 : Int32).toInt (sgT2 P) (sgL2 P)).2.2.2.2.1, (sgSt P (sgT1 P) (0 : Int32).toInt (sgT2 P) (sgL2 P)).2.2.2.2.2.1, n15, (sgSt P (sgT1 P) (0 : Int32).toInt (sgT2 P) (sgL2 P)).2.2.2.2.2.2.2) := (by have z0 : (0 : Int32).toInt = 0 := (by decide +kernel); simp only [sgGk, sgT1, sgL1, sgT2, sgL2, sgTp, sgSt, sgGh, sgN, sgPl, sgG0, sgGl, sgRw, sgW, sgNc, sgPin, z0, Nat.add_zero, Nat.le_refl, Nat.le_add_right, and_self, true_and, and_true])
            have hls : sgLs P ((sgSt P (sgT1 P) (0 : Int32).toInt (sgT2 P) (sgL2 P)).1, (sgSt P (sgT1 P) (0 : Int32).toInt (sgT2 P) (sgL2 P)).2.1, (sgSt P (sgT1 P) (0 : Int32).toInt (sgT2 P) (sgL2 P)).2.2.1, (sgSt P (sgT1 P) (0 : Int32).toInt (sgT2 P) (sgL2 P)).2.2.2.1, (sgSt P (sgT1 P) (0 : Int32).toInt (sgT2 P) (sgL2 P)).2.2.2.2.1, (sgSt P (sgT1 P) (0 : Int32).toInt (sgT2 P) (sgL2 P)).2.2.2.2.2.1, n15, (sgSt P (sgT1 P) (0 : Int32).toInt (sgT2 P) (sgL2 P)).2.2.2.2.2.2.2) := (by have z0 : (0 : Int32).toInt = 0 := (by decide +kernel); simp only [sgLs, sgT1, sgL1, sgT2, sgL2, sgTp, sgSt, sgGh, sgN, sgPl, sgG0, sgGl, sgRw, sgW, sgNc, sgPin, z0, Nat.add_zero, Nat.le_refl, Nat.le_add_right, and_self, true_and, and_true])
            exact sg_iret2 X hr hlk hS trivial (fun t ht hW => ⟨_, hkp, hpn, hnn, hsd, hls, hgk, Or.inl ⟨⟨sg_pinlt pf3 (iv_gt_of c4), kv10⟩, hef, hgm, sg_pinM pf16 ef17 z1⟩, sg_post hb hK hC hG hS ht hW⟩) dX11_text_65
        · have hG := hBf9.2.2.2
          rw [htf9] at hG
          refine lv_if_eq (tgt := 66) X.1 X.2.1 dX11_text_38 (by decide) (fun c18 => ?_) (fun c18 => ?_)
          · refine lv_iload_n X.1 X.2.1 dX11_text_66 rfl (lv_at hl 1 rfl) ?_
            refine lv_iconst (v := 2) X.1 X.2.1 dX11_text_67 (by decide +kernel) ?_
            refine lv_icmp_ne (tgt := 123) X.1 X.2.1 dX11_text_68 (by decide) (fun c19 => ?_) (fun c19 => ?_)
            · refine lv_iconst (v := (-1)) X.1 X.2.1 dX11_text_123 (by decide +kernel) ?_
              exact sg_iret2 X hr hlk hS trivial (fun t ht hW => ⟨P, ⟨rfl, rfl, Nat.le_refl _, Nat.le_add_right _ _⟩, rfl, rfl, sgSd1_rf, sgLs_rf, sgGk_rf, Or.inr ⟨(fun z => by obtain ⟨-, a9, z⟩ := z; obtain ⟨w9, y⟩ := kv10; rw [y] at z; cases z), sgEf1_rf, rfl, (by decide +kernel)⟩, sg_post hb hK hC hG hS ht hW⟩) dX11_text_124
            · exact ((iv_no (a := 2) (b := 1) (iv_eqm c19 h1 (iv_c 2 (a := 2) (b := 2) (by decide +kernel)) (by decide +kernel)) (by decide +kernel))).elim
          · exact ((c18 (iv_one (iv_c 0 (a := 0) (b := 0) (by decide +kernel)) (iv_c 0 (a := 0) (b := 0) (by decide +kernel)) (by decide +kernel)))).elim
  · exact ((iv_no (a := 1) (b := 0) (iv_eqm c1 h1 (iv_c 0 (a := 0) (b := 0) (by decide +kernel)) (by decide +kernel)) (by decide +kernel))).elim

theorem ca_X11_text_q1   (X : CallFix p m c cc nL s args sg_tbl own) (hK : va_K D vwCl tys s) (hG : sgG (KT P) D vwCl (fun q : Nat => base ≤ q) tys ad ks H) (hC : sgC base s) (hS : va_S (fun q : Nat => base ≤ q) s.heap H locs) (hb : base ≤ s.heap.size) (a0 : Nat) (h0 : isK ad ks 11 a0) (x1 : Int32) (h1 : iv 1 1 x1) (hgi : sgGi (sgGm P)) (hl0 : 0 ≤ sgL1 P ∧ sgL1 P ≤ 240) (hby : ∀ j : Nat, (↑j : Int) < sgL1 P → 1 ≤ sgT1 P j ∧ sgT1 P j ≤ 255) (hl : Cond.methodLink own index yX11_text ∈ sg_tbl) (hsize : ls.size = nL) (hst : st0 = [.int x1].reverse ++ .ref a0 :: rest) (hW : (rest.map fun v => v.category).sum ≤ 8) (hR : 24 ≤ R.frames ∧ 586 ≤ R.locals) (hf : cells ≤ R.cells ∧ slots ≤ R.slots) (hdg : decode cc pc = .ok (.invokevirtual index, 3)) (kk : ∀ (r : Int32) (t : State) (H1 : Heap) (locs1 : List Loc), t.heap = H1 → (fun r : Int32 => True) r → (∃ P1 : sgPm, sgKeep P P1 ∧ sgPin P1 = sgPin P ∧ sgN P1 = sgN P ∧ sgSd1 P P1 ∧ sgLs P P1 ∧ sgGk P P1 ∧ (((P.2.2.2.2.2.2.1.val < 4 ∧ (∃ a1 : Int, vLaw (sgT1 P) (sgL1 P) = (true, a1))) ∧ sgEf1 0 1 0 P P1 ∧ sgGm P1 = sgGm P ∧ r.toInt = (P.2.2.2.2.2.2.1.val : Int)) ∨ (¬ (P.2.2.2.2.2.2.1.val < 4 ∧ (∃ a1 : Int, vLaw (sgT1 P) (sgL1 P) = (true, a1))) ∧ sgEf1 (sgL1 P) 0 0 P P1 ∧ sgGm P1 = sgGm P ∧ r.toInt = -1)) ∧ sgB (KT P1) D vwCl base tys ad ks t) → va_S (fun q : Nat => base ≤ q) s.heap H1 locs1 → W p l e R s m args below meth c H1 locs1 cells slots Q (F0 m (pc + 3) ls (.int r :: rest))) : W p l e R s m args below meth c H locs cells slots Q (F0 m pc ls st0) :=
  sg_callV2i X hK hG hC hS hb (m_X11_text_q1 l a0 h0 x1 h1 hgi hl0 hby) h0 (k := 11) (ci := 11) rfl (C := RX11) (T := TX11) (N := 17) rfl wl_4_38 wl_1_1 wl_4_36 wl_4_37 (n := 1) (by decide +kernel) rfl rfl rfl hl hsize hst hW hR hf hdg kk

set_option maxHeartbeats 8000000 in
set_option maxRecDepth 100000 in
theorem m_X11_text_q2 (l : Launch) {D : va_G} {base : Nat} {tys : List (ClassId × FieldType)} {ad ks : List Nat} {P : sgPm} (a0 : Nat) (h0 : isK ad ks 11 a0) (x1 : Int32) (h1 : iv 2 2 x1) (hgi : sgGi (sgGm P)) (hgg : sgGg (sgGm P) P.2.2.2.2.2.2.2.1.val) (hl0 : 0 ≤ sgL1 P ∧ sgL1 P ≤ 240) (hby : ∀ j : Nat, (↑j : Int) < sgL1 P → 1 ≤ sgT1 P j ∧ sgT1 P j ≤ 255) : Met l yX11_text (Cond.code yX11_text cX11_text 2 (some .int) :: sg_tbl) ({ frames := 23, cells := 0, slots := 0, locals := 565 }) (va_Pc [.ref a0, .int x1] (sgB (KT P) D vwCl base tys ad ks)) (va_Qi (fun r (u : Int32) => u = r ∧ (fun r : Int32 => True) r) (fun u t => ∃ P1 : sgPm, sgKeep P P1 ∧ sgPin P1 = sgPin P ∧ sgN P1 = sgN P ∧ sgSd1 P P1 ∧ sgLs P P1 ∧ sgGk P P1 ∧ (((P.2.2.2.2.2.2.2.1.val < 4 ∧ (∃ a1 : Int, vGame (sgT1 P) (sgL1 P) = (true, a1))) ∧ sgEf1 0 0 1 P P1 ∧ sgTo1 P P1 ∧ u.toInt = (P.2.2.2.2.2.2.2.1.val : Int)) ∨ (¬ (P.2.2.2.2.2.2.2.1.val < 4 ∧ (∃ a1 : Int, vGame (sgT1 P) (sgL1 P) = (true, a1))) ∧ sgEf1 (sgL1 P) 0 0 P P1 ∧ sgGm P1 = sgGm P ∧ u.toInt = -1)) ∧ sgB (KT P1) D vwCl base tys ad ks t) (fun q : Nat => base ≤ q)) 0 0 (fun q : Nat => base ≤ q) := by
  refine sg_ofW (by decide +kernel) (Nat.le_of_ble_eq_true rfl) (fun p e s m below meth c X hr hlk hb hK hC hG ls hl => ?_)
  have hS : va_S (fun q : Nat => base ≤ q) s.heap s.heap [] := va_S.rf
  have hl : lv_has ls 2 [(0, .ref a0), (1, .int x1)] := hl
  refine lv_iload_n X.1 X.2.1 dX11_text_0 rfl (lv_at hl 1 rfl) ?_
  refine lv_if_ne (tgt := 9) X.1 X.2.1 dX11_text_1 (by decide) (fun c1 => ?_) (fun c1 => ?_)
  · refine lv_iload_n X.1 X.2.1 dX11_text_9 rfl (lv_at hl 1 rfl) ?_
    refine lv_iconst (v := 1) X.1 X.2.1 dX11_text_10 (by decide +kernel) ?_
    refine lv_icmp_ne (tgt := 66) X.1 X.2.1 dX11_text_11 (by decide) (fun c2 => ?_) (fun c2 => ?_)
    · refine lv_iload_n X.1 X.2.1 dX11_text_66 rfl (lv_at hl 1 rfl) ?_
      refine lv_iconst (v := 2) X.1 X.2.1 dX11_text_67 (by decide +kernel) ?_
      refine lv_icmp_ne (tgt := 123) X.1 X.2.1 dX11_text_68 (by decide) (fun c3 => ?_) (fun c3 => ?_)
      · exact ((c3 (iv_one h1 (iv_c 2 (a := 2) (b := 2) (by decide +kernel)) (by decide +kernel)))).elim
      · refine lv_aload_n X.1 X.2.1 dX11_text_71 rfl (lv_at hl 0 rfl) ?_
        refine gf_X11_13 X hK hG h0 wl_2_208 dX11_text_72 (fun f4 hf4 pf4 kf4 => ?_)
        refine lv_iconst (v := 4) X.1 X.2.1 dX11_text_75 (by decide +kernel) ?_
        refine lv_icmp_ge (tgt := 123) X.1 X.2.1 dX11_text_76 (by decide) (fun c5 => ?_) (fun c5 => ?_)
        · refine lv_iconst (v := (-1)) X.1 X.2.1 dX11_text_123 (by decide +kernel) ?_
          exact sg_iret2 X hr hlk hS trivial (fun t ht hW => ⟨P, ⟨rfl, rfl, Nat.le_refl _, Nat.le_add_right _ _⟩, rfl, rfl, sgSd1_rf, sgLs_rf, sgGk_rf, Or.inr ⟨(fun z => sg_pinge pf4 c5 z.1), sgEf1_rf, rfl, (by decide +kernel)⟩, sg_post hb hK hC hG hS ht hW⟩) dX11_text_124
        · refine lv_aload_n X.1 X.2.1 dX11_text_79 rfl (lv_at hl 0 rfl) ?_
          refine gf_X11_2 X hK hG h0 wl_2_197 dX11_text_80 (fun q6 hq6 kq6 => ?_)
          refine lv_aload_n X.1 X.2.1 dX11_text_83 rfl (lv_at hl 0 rfl) ?_
          refine gg_X11_13 X hK hG h0 wl_2_208 kf4 dX11_text_84 ?_
          refine al_44h X hK hG hq6 (iv_vpin (iv_lt (b' := 3) (iv_gt_of c5) hf4 (iv_c 4 (a := 4) (b := 4) (by decide +kernel)) (by decide +kernel)) (by decide +kernel)) dX11_text_87 (fun q7 hq7 gq7 => ?_)
          refine lv_aload_n X.1 X.2.1 dX11_text_88 rfl (lv_at hl 0 rfl) ?_
          refine gf_X11_0 X hK hG h0 wl_2_195 dX11_text_89 (fun q8 hq8 kq8 => ?_)
          refine ca_X3_read_c X hK hG hC hS hb q7 hq7 q8 hq8 (gg_ng hgg (sg_pinc pf4) (Fin.isLt _) gq7) hl0 hby wl_4_14 hl.1 (rest := []) rfl (Nat.le_of_ble_eq_true rfl) ⟨Nat.le_of_ble_eq_true rfl, Nat.le_of_ble_eq_true rfl⟩ ⟨Nat.le_of_ble_eq_true rfl, Nat.le_of_ble_eq_true rfl⟩ dX11_text_92 (fun f9 tf9 H locs htf9 hf9 hWf9 hS => ?_)
          obtain ⟨hVf9, hBf9⟩ := hWf9
          rcases hVf9 with ⟨rfl, k9, kv10, gk9, go9, c9⟩ | ⟨rfl, kv10⟩
          · have hG := hBf9.2.2.2
            rw [htf9] at hG c9
            refine lv_if_eq (tgt := 123) X.1 X.2.1 dX11_text_95 (by decide) (fun c11 => ?_) (fun c11 => ?_)
            · exact ((iv_no (a := 1) (b := 0) (iv_eqm c11 (iv_c 1 (a := 1) (b := 1) (by decide +kernel)) (iv_c 0 (a := 0) (b := 0) (by decide +kernel)) (by decide +kernel)) (by decide +kernel))).elim
            · have ga9 : q7 = gG (sgGm P) P.2.2.2.2.2.2.2.1.val := by have z := gg_q (g := sgGm P) (by rw [sg_pinc pf4]; exact Fin.isLt _) gq7; rw [sg_pinc pf4] at z; exact z
              have cg9 := c9 P.2.2.2.2.2.2.2.1.val (Fin.isLt _) ga9
              rw [ga9] at cg9
              have hG := sg_rp3 hG (Fin.isLt _) gk9.2.2.1 hgg.1 cg9
              obtain ⟨g1, eg1⟩ : ∃ g1 : Nat → sgT, g1 = gPg (sgGm P) P.2.2.2.2.2.2.2.1.val k9 (gmT (sgT1 P) (sgL1 P)) := ⟨_, rfl⟩
              rw [← eg1] at hG
              refine lv_aload_n X.1 X.2.1 dX11_text_98 rfl (lv_at hl 0 rfl) ?_
              refine gf_X11_0 X hK hG h0 wl_2_195 dX11_text_99 (fun q12 hq12 kq12 => ?_)
              refine lv_iconst (v := 0) X.1 X.2.1 dX11_text_102 (by decide +kernel) ?_
              have hG := sg_st hG
              refine pf_X10_1q X hK hG hS hq12 wl_1_42 (iv_of (iv_c 0 (a := 0) (b := 0) (by decide +kernel)) (a' := 0) (b' := 240) (by decide +kernel)) dX11_text_103 (fun H locs hG hS => ?_)
              refine lv_aload_n X.1 X.2.1 dX11_text_106 rfl (lv_at hl 0 rfl) ?_
              refine lv_dup X.1 X.2.1 dX11_text_107 rfl ?_
              refine gf_X11_13 X hK hG h0 wl_2_208 dX11_text_108 (fun f13 hf13 pf13 kf13 => ?_)
              refine lv_iconst (v := 1) X.1 X.2.1 dX11_text_111 (by decide +kernel) ?_
              refine lv_iadd X.1 X.2.1 dX11_text_112 ?_
              refine lv_topi (fun f14 ef14 => ?_)
              obtain ⟨n15, hn15⟩ := sg_pin pf4 (iv_lt (b' := 3) (iv_gt_of c5) hf4 (iv_c 4 (a := 4) (b := 4) (by decide +kernel)) (by decide +kernel)) pf13 ef14
              refine pf_X11_13p X hK hG hS h0 wl_2_208 (n := n15) (sg_pinv hn15) dX11_text_113 (fun H locs hG hS => ?_)
              refine lv_aload_n X.1 X.2.1 dX11_text_116 rfl (lv_at hl 0 rfl) ?_
              refine gf_X11_13 X hK hG h0 wl_2_208 dX11_text_117 (fun f16 hf16 pf16 kf16 => ?_)
              refine lv_iconst (v := 1) X.1 X.2.1 dX11_text_120 (by decide +kernel) ?_
              refine lv_isub X.1 X.2.1 dX11_text_121 ?_
              refine lv_topi (fun f17 ef17 => ?_)
              have hsd : sgSd1 P ((sgSt (sgGh P g1) (sgT1 (sgGh P g1)) (0 : Int32).toInt (sgT2 (sgGh P g1)) (sgL2 (sgGh P g1))).1, (sgSt (sgGh P g1) (sgT1 (sgGh P g1)) (0 : Int32).toInt (sgT2 (sgGh P g1)) (sgL2 (sgGh P g1))).2.1, (sgSt (sgGh P g1) (sgT1 (sgGh P g1)) (0 : Int32).toInt (sgT2 (sgGh P g1)) (sgL2 (sgGh P g1))).2.2.1, (sgSt (sgGh P g1) (sgT1 (sgGh P g1)) (0 : Int32).toInt (sgT2 (sgGh P g1)) (sgL2 (sgGh P g1))).2.2.2.1, (sgSt (sgGh P g1) (sgT1 (sgGh P g1)) (0 : Int32).toInt (sgT2 (sgGh P g1)) (sgL2 (sgGh P g1))).2.2.2.2.1, (sgSt (sgGh P g1) (sgT1 (sgGh P g1)) (0 : Int32).toInt (sgT2 (sgGh P g1)) (sgL2 (sgGh P g1))).2.2.2.2.2.1, (sgSt (sgGh P g1) (sgT1 (sgGh P g1)) (0 : Int32).toInt (sgT2 (sgGh P g1)) (sgL2 (sgGh P g1))).2.2.2.2.2.2.1, n15, (sgSt (sgGh P g1) (sgT1 (sgGh P g1)) (0 : Int32).toInt (sgT2 (sgGh P g1)) (sgL2 (sgGh P g1))).2.2.2.2.2.2.2.2) := (by have z0 : (0 : Int32).toInt = 0 := (by decide +kernel); simp only [sgSd1, sgT1, sgL1, sgT2, sgL2, sgTp, sgSt, sgGh, sgN, sgPl, sgG0, sgGl, sgRw, sgW, sgNc, sgPin, z0, Nat.add_zero, Nat.le_refl, Nat.le_add_right, and_self, true_and, and_true])
              have z1 := (sg_pinS pf13 ef14 hn15)
              have hef : sgEf1 0 0 1 P ((sgSt (sgGh P g1) (sgT1 (sgGh P g1)) (0 : Int32).toInt (sgT2 (sgGh P g1)) (sgL2 (sgGh P g1))).1, (sgSt (sgGh P g1) (sgT1 (sgGh P g1)) (0 : Int32).toInt (sgT2 (sgGh P g1)) (sgL2 (sgGh P g1))).2.1, (sgSt (sgGh P g1) (sgT1 (sgGh P g1)) (0 : Int32).toInt (sgT2 (sgGh P g1)) (sgL2 (sgGh P g1))).2.2.1, (sgSt (sgGh P g1) (sgT1 (sgGh P g1)) (0 : Int32).toInt (sgT2 (sgGh P g1)) (sgL2 (sgGh P g1))).2.2.2.1, (sgSt (sgGh P g1) (sgT1 (sgGh P g1)) (0 : Int32).toInt (sgT2 (sgGh P g1)) (sgL2 (sgGh P g1))).2.2.2.2.1, (sgSt (sgGh P g1) (sgT1 (sgGh P g1)) (0 : Int32).toInt (sgT2 (sgGh P g1)) (sgL2 (sgGh P g1))).2.2.2.2.2.1, (sgSt (sgGh P g1) (sgT1 (sgGh P g1)) (0 : Int32).toInt (sgT2 (sgGh P g1)) (sgL2 (sgGh P g1))).2.2.2.2.2.2.1, n15, (sgSt (sgGh P g1) (sgT1 (sgGh P g1)) (0 : Int32).toInt (sgT2 (sgGh P g1)) (sgL2 (sgGh P g1))).2.2.2.2.2.2.2.2) := (by have z0 : (0 : Int32).toInt = 0 := (by decide +kernel); simp only [sgEf1, sgT1, sgL1, sgT2, sgL2, sgTp, sgSt, sgGh, sgN, sgPl, sgG0, sgGl, sgRw, sgW, sgNc, sgPin, z0, Nat.add_zero, Nat.le_refl, Nat.le_add_right, and_self, true_and, and_true, z1])
              have hkp : sgKeep P ((sgSt (sgGh P g1) (sgT1 (sgGh P g1)) (0 : Int32).toInt (sgT2 (sgGh P g1)) (sgL2 (sgGh P g1))).1, (sgSt (sgGh P g1) (sgT1 (sgGh P g1)) (0 : Int32).toInt (sgT2 (sgGh P g1)) (sgL2 (sgGh P g1))).2.1, (sgSt (sgGh P g1) (sgT1 (sgGh P g1)) (0 : Int32).toInt (sgT2 (sgGh P g1)) (sgL2 (sgGh P g1))).2.2.1, (sgSt (sgGh P g1) (sgT1 (sgGh P g1)) (0 : Int32).toInt (sgT2 (sgGh P g1)) (sgL2 (sgGh P g1))).2.2.2.1, (sgSt (sgGh P g1) (sgT1 (sgGh P g1)) (0 : Int32).toInt (sgT2 (sgGh P g1)) (sgL2 (sgGh P g1))).2.2.2.2.1, (sgSt (sgGh P g1) (sgT1 (sgGh P g1)) (0 : Int32).toInt (sgT2 (sgGh P g1)) (sgL2 (sgGh P g1))).2.2.2.2.2.1, (sgSt (sgGh P g1) (sgT1 (sgGh P g1)) (0 : Int32).toInt (sgT2 (sgGh P g1)) (sgL2 (sgGh P g1))).2.2.2.2.2.2.1, n15, (sgSt (sgGh P g1) (sgT1 (sgGh P g1)) (0 : Int32).toInt (sgT2 (sgGh P g1)) (sgL2 (sgGh P g1))).2.2.2.2.2.2.2.2) := (by have z0 : (0 : Int32).toInt = 0 := (by decide +kernel); simp only [sgKeep, sgT1, sgL1, sgT2, sgL2, sgTp, sgSt, sgGh, sgN, sgPl, sgG0, sgGl, sgRw, sgW, sgNc, sgPin, z0, Nat.add_zero, Nat.le_refl, Nat.le_add_right, and_self, true_and, and_true])
              have hpn : sgPin ((sgSt (sgGh P g1) (sgT1 (sgGh P g1)) (0 : Int32).toInt (sgT2 (sgGh P g1)) (sgL2 (sgGh P g1))).1, (sgSt (sgGh P g1) (sgT1 (sgGh P g1)) (0 : Int32).toInt (sgT2 (sgGh P g1)) (sgL2 (sgGh P g1))).2.1, (sgSt (sgGh P g1) (sgT1 (sgGh P g1)) (0 : Int32).toInt (sgT2 (sgGh P g1)) (sgL2 (sgGh P g1))).2.2.1, (sgSt (sgGh P g1) (sgT1 (sgGh P g1)) (0 : Int32).toInt (sgT2 (sgGh P g1)) (sgL2 (sgGh P g1))).2.2.2.1, (sgSt (sgGh P g1) (sgT1 (sgGh P g1)) (0 : Int32).toInt (sgT2 (sgGh P g1)) (sgL2 (sgGh P g1))).2.2.2.2.1, (sgSt (sgGh P g1) (sgT1 (sgGh P g1)) (0 : Int32).toInt (sgT2 (sgGh P g1)) (sgL2 (sgGh P g1))).2.2.2.2.2.1, (sgSt (sgGh P g1) (sgT1 (sgGh P g1)) (0 : Int32).toInt (sgT2 (sgGh P g1)) (sgL2 (sgGh P g1))).2.2.2.2.2.2.1, n15, (sgSt (sgGh P g1) (sgT1 (sgGh P g1)) (0 : Int32).toInt (sgT2 (sgGh P g1)) (sgL2 (sgGh P g1))).2.2.2.2.2.2.2.2) = sgPin P := (by have z0 : (0 : Int32).toInt = 0 := (by decide +kernel); simp only [sgKeep, sgT1, sgL1, sgT2, sgL2, sgTp, sgSt, sgGh, sgN, sgPl, sgG0, sgGl, sgRw, sgW, sgNc, sgPin, z0, Nat.add_zero, Nat.le_refl, Nat.le_add_right, and_self, true_and, and_true])
              have hnn : sgN ((sgSt (sgGh P g1) (sgT1 (sgGh P g1)) (0 : Int32).toInt (sgT2 (sgGh P g1)) (sgL2 (sgGh P g1))).1, (sgSt (sgGh P g1) (sgT1 (sgGh P g1)) (0 : Int32).toInt (sgT2 (sgGh P g1)) (sgL2 (sgGh P g1))).2.1, (sgSt (sgGh P g1) (sgT1 (sgGh P g1)) (0 : Int32).toInt (sgT2 (sgGh P g1)) (sgL2 (sgGh P g1))).2.2.1, (sgSt (sgGh P g1) (sgT1 (sgGh P g1)) (0 : Int32).toInt (sgT2 (sgGh P g1)) (sgL2 (sgGh P g1))).2.2.2.1, (sgSt (sgGh P g1) (sgT1 (sgGh P g1)) (0 : Int32).toInt (sgT2 (sgGh P g1)) (sgL2 (sgGh P g1))).2.2.2.2.1, (sgSt (sgGh P g1) (sgT1 (sgGh P g1)) (0 : Int32).toInt (sgT2 (sgGh P g1)) (sgL2 (sgGh P g1))).2.2.2.2.2.1, (sgSt (sgGh P g1) (sgT1 (sgGh P g1)) (0 : Int32).toInt (sgT2 (sgGh P g1)) (sgL2 (sgGh P g1))).2.2.2.2.2.2.1, n15, (sgSt (sgGh P g1) (sgT1 (sgGh P g1)) (0 : Int32).toInt (sgT2 (sgGh P g1)) (sgL2 (sgGh P g1))).2.2.2.2.2.2.2.2) = sgN P := (by have z0 : (0 : Int32).toInt = 0 := (by decide +kernel); simp only [sgKeep, sgT1, sgL1, sgT2, sgL2, sgTp, sgSt, sgGh, sgN, sgPl, sgG0, sgGl, sgRw, sgW, sgNc, sgPin, z0, Nat.add_zero, Nat.le_refl, Nat.le_add_right, and_self, true_and, and_true])
              have hgm : sgTo1 P ((sgSt (sgGh P g1) (sgT1 (sgGh P g1)) (0 : Int32).toInt (sgT2 (sgGh P g1)) (sgL2 (sgGh P g1))).1, (sgSt (sgGh P g1) (sgT1 (sgGh P g1)) (0 : Int32).toInt (sgT2 (sgGh P g1)) (sgL2 (sgGh P g1))).2.1, (sgSt (sgGh P g1) (sgT1 (sgGh P g1)) (0 : Int32).toInt (sgT2 (sgGh P g1)) (sgL2 (sgGh P g1))).2.2.1, (sgSt (sgGh P g1) (sgT1 (sgGh P g1)) (0 : Int32).toInt (sgT2 (sgGh P g1)) (sgL2 (sgGh P g1))).2.2.2.1, (sgSt (sgGh P g1) (sgT1 (sgGh P g1)) (0 : Int32).toInt (sgT2 (sgGh P g1)) (sgL2 (sgGh P g1))).2.2.2.2.1, (sgSt (sgGh P g1) (sgT1 (sgGh P g1)) (0 : Int32).toInt (sgT2 (sgGh P g1)) (sgL2 (sgGh P g1))).2.2.2.2.2.1, (sgSt (sgGh P g1) (sgT1 (sgGh P g1)) (0 : Int32).toInt (sgT2 (sgGh P g1)) (sgL2 (sgGh P g1))).2.2.2.2.2.2.1, n15, (sgSt (sgGh P g1) (sgT1 (sgGh P g1)) (0 : Int32).toInt (sgT2 (sgGh P g1)) (sgL2 (sgGh P g1))).2.2.2.2.2.2.2.2) := ⟨k9, gk9, go9, (show sgGm ((sgSt (sgGh P g1) (sgT1 (sgGh P g1)) (0 : Int32).toInt (sgT2 (sgGh P g1)) (sgL2 (sgGh P g1))).1, (sgSt (sgGh P g1) (sgT1 (sgGh P g1)) (0 : Int32).toInt (sgT2 (sgGh P g1)) (sgL2 (sgGh P g1))).2.1, (sgSt (sgGh P g1) (sgT1 (sgGh P g1)) (0 : Int32).toInt (sgT2 (sgGh P g1)) (sgL2 (sgGh P g1))).2.2.1, (sgSt (sgGh P g1) (sgT1 (sgGh P g1)) (0 : Int32).toInt (sgT2 (sgGh P g1)) (sgL2 (sgGh P g1))).2.2.2.1, (sgSt (sgGh P g1) (sgT1 (sgGh P g1)) (0 : Int32).toInt (sgT2 (sgGh P g1)) (sgL2 (sgGh P g1))).2.2.2.2.1, (sgSt (sgGh P g1) (sgT1 (sgGh P g1)) (0 : Int32).toInt (sgT2 (sgGh P g1)) (sgL2 (sgGh P g1))).2.2.2.2.2.1, (sgSt (sgGh P g1) (sgT1 (sgGh P g1)) (0 : Int32).toInt (sgT2 (sgGh P g1)) (sgL2 (sgGh P g1))).2.2.2.2.2.2.1, n15, (sgSt (sgGh P g1) (sgT1 (sgGh P g1)) (0 : Int32).toInt (sgT2 (sgGh P g1)) (sgL2 (sgGh P g1))).2.2.2.2.2.2.2.2) = g1 from by simp only [sgGm, sgSt, sgTp, sgGh]).trans eg1⟩
              have hgk : sgGk P ((sgSt (sgGh P g1) (sgT1 (sgGh P g1)) (0 : Int32).toInt (sgT2 (sgGh P g1)) (sgL2 (sgGh P g1))).1, (sgSt (sgGh P g1) (sgT1 (sgGh P g1)) (0 : Int32).toInt (sgT2 (sgGh P g1)) (sgL2 (sgGh P g1))).2.1, (sgSt (sgGh P g1) (sgT1 (sgGh P g1)) (0 : Int32).toInt (sgT2 (sgGh P g1)) (sgL2 (sgGh P g1))).2.2.1, (sgSt (sgGh P g1) (sgT1 (sgGh P g1)) (0 : Int32).toInt (sgT2 (sgGh P g1)) (sgL2 (sgGh P g1))).2.2.2.1, (sgSt (sgGh P g1) (sgT1 (sgGh P g1)) (0 : Int32).toInt (sgT2 (sgGh P g1)) (sgL2 (sgGh P g1))).2.2.2.2.1, (sgSt (sgGh P g1) (sgT1 (sgGh P g1)) (0 : Int32).toInt (sgT2 (sgGh P g1)) (sgL2 (sgGh P g1))).2.2.2.2.2.1, (sgSt (sgGh P g1) (sgT1 (sgGh P g1)) (0 : Int32).toInt (sgT2 (sgGh P g1)) (sgL2 (sgGh P g1))).2.2.2.2.2.2.1, n15, (sgSt (sgGh P g1) (sgT1 (sgGh P g1)) (0 : Int32).toInt (sgT2 (sgGh P g1)) (sgL2 (sgGh P g1))).2.2.2.2.2.2.2.2) := (by have z0 : (0 : Int32).toInt = 0 := (by decide +kernel); simp only [sgGk, sgT1, sgL1, sgT2, sgL2, sgTp, sgSt, sgGh, sgN, sgPl, sgG0, sgGl, sgRw, sgW, sgNc, sgPin, z0, Nat.add_zero, Nat.le_refl, Nat.le_add_right, and_self, true_and, and_true])
              have hls : sgLs P ((sgSt (sgGh P g1) (sgT1 (sgGh P g1)) (0 : Int32).toInt (sgT2 (sgGh P g1)) (sgL2 (sgGh P g1))).1, (sgSt (sgGh P g1) (sgT1 (sgGh P g1)) (0 : Int32).toInt (sgT2 (sgGh P g1)) (sgL2 (sgGh P g1))).2.1, (sgSt (sgGh P g1) (sgT1 (sgGh P g1)) (0 : Int32).toInt (sgT2 (sgGh P g1)) (sgL2 (sgGh P g1))).2.2.1, (sgSt (sgGh P g1) (sgT1 (sgGh P g1)) (0 : Int32).toInt (sgT2 (sgGh P g1)) (sgL2 (sgGh P g1))).2.2.2.1, (sgSt (sgGh P g1) (sgT1 (sgGh P g1)) (0 : Int32).toInt (sgT2 (sgGh P g1)) (sgL2 (sgGh P g1))).2.2.2.2.1, (sgSt (sgGh P g1) (sgT1 (sgGh P g1)) (0 : Int32).toInt (sgT2 (sgGh P g1)) (sgL2 (sgGh P g1))).2.2.2.2.2.1, (sgSt (sgGh P g1) (sgT1 (sgGh P g1)) (0 : Int32).toInt (sgT2 (sgGh P g1)) (sgL2 (sgGh P g1))).2.2.2.2.2.2.1, n15, (sgSt (sgGh P g1) (sgT1 (sgGh P g1)) (0 : Int32).toInt (sgT2 (sgGh P g1)) (sgL2 (sgGh P g1))).2.2.2.2.2.2.2.2) := (by have z0 : (0 : Int32).toInt = 0 := (by decide +kernel); simp only [sgLs, sgT1, sgL1, sgT2, sgL2, sgTp, sgSt, sgGh, sgN, sgPl, sgG0, sgGl, sgRw, sgW, sgNc, sgPin, z0, Nat.add_zero, Nat.le_refl, Nat.le_add_right, and_self, true_and, and_true])
              exact sg_iret2 X hr hlk hS trivial (fun t ht hW => ⟨_, hkp, hpn, hnn, hsd, hls, hgk, Or.inl ⟨⟨sg_pinlt pf4 (iv_gt_of c5), kv10⟩, hef, hgm, sg_pinM pf16 ef17 z1⟩, sg_post hb hK hC hG hS ht hW⟩) dX11_text_122
          · have hG := hBf9.2.2.2
            rw [htf9] at hG
            refine lv_if_eq (tgt := 123) X.1 X.2.1 dX11_text_95 (by decide) (fun c18 => ?_) (fun c18 => ?_)
            · refine lv_iconst (v := (-1)) X.1 X.2.1 dX11_text_123 (by decide +kernel) ?_
              exact sg_iret2 X hr hlk hS trivial (fun t ht hW => ⟨P, ⟨rfl, rfl, Nat.le_refl _, Nat.le_add_right _ _⟩, rfl, rfl, sgSd1_rf, sgLs_rf, sgGk_rf, Or.inr ⟨(fun z => by obtain ⟨-, a9, z⟩ := z; obtain ⟨w9, y⟩ := kv10; rw [y] at z; cases z), sgEf1_rf, rfl, (by decide +kernel)⟩, sg_post hb hK hC hG hS ht hW⟩) dX11_text_124
            · exact ((c18 (iv_one (iv_c 0 (a := 0) (b := 0) (by decide +kernel)) (iv_c 0 (a := 0) (b := 0) (by decide +kernel)) (by decide +kernel)))).elim
    · exact ((iv_no (a := 2) (b := 1) (iv_eqm c2 h1 (iv_c 1 (a := 1) (b := 1) (by decide +kernel)) (by decide +kernel)) (by decide +kernel))).elim
  · exact ((iv_no (a := 2) (b := 0) (iv_eqm c1 h1 (iv_c 0 (a := 0) (b := 0) (by decide +kernel)) (by decide +kernel)) (by decide +kernel))).elim

theorem ca_X11_text_q2   (X : CallFix p m c cc nL s args sg_tbl own) (hK : va_K D vwCl tys s) (hG : sgG (KT P) D vwCl (fun q : Nat => base ≤ q) tys ad ks H) (hC : sgC base s) (hS : va_S (fun q : Nat => base ≤ q) s.heap H locs) (hb : base ≤ s.heap.size) (a0 : Nat) (h0 : isK ad ks 11 a0) (x1 : Int32) (h1 : iv 2 2 x1) (hgi : sgGi (sgGm P)) (hgg : sgGg (sgGm P) P.2.2.2.2.2.2.2.1.val) (hl0 : 0 ≤ sgL1 P ∧ sgL1 P ≤ 240) (hby : ∀ j : Nat, (↑j : Int) < sgL1 P → 1 ≤ sgT1 P j ∧ sgT1 P j ≤ 255) (hl : Cond.methodLink own index yX11_text ∈ sg_tbl) (hsize : ls.size = nL) (hst : st0 = [.int x1].reverse ++ .ref a0 :: rest) (hW : (rest.map fun v => v.category).sum ≤ 8) (hR : 24 ≤ R.frames ∧ 586 ≤ R.locals) (hf : cells ≤ R.cells ∧ slots ≤ R.slots) (hdg : decode cc pc = .ok (.invokevirtual index, 3)) (kk : ∀ (r : Int32) (t : State) (H1 : Heap) (locs1 : List Loc), t.heap = H1 → (fun r : Int32 => True) r → (∃ P1 : sgPm, sgKeep P P1 ∧ sgPin P1 = sgPin P ∧ sgN P1 = sgN P ∧ sgSd1 P P1 ∧ sgLs P P1 ∧ sgGk P P1 ∧ (((P.2.2.2.2.2.2.2.1.val < 4 ∧ (∃ a1 : Int, vGame (sgT1 P) (sgL1 P) = (true, a1))) ∧ sgEf1 0 0 1 P P1 ∧ sgTo1 P P1 ∧ r.toInt = (P.2.2.2.2.2.2.2.1.val : Int)) ∨ (¬ (P.2.2.2.2.2.2.2.1.val < 4 ∧ (∃ a1 : Int, vGame (sgT1 P) (sgL1 P) = (true, a1))) ∧ sgEf1 (sgL1 P) 0 0 P P1 ∧ sgGm P1 = sgGm P ∧ r.toInt = -1)) ∧ sgB (KT P1) D vwCl base tys ad ks t) → va_S (fun q : Nat => base ≤ q) s.heap H1 locs1 → W p l e R s m args below meth c H1 locs1 cells slots Q (F0 m (pc + 3) ls (.int r :: rest))) : W p l e R s m args below meth c H locs cells slots Q (F0 m pc ls st0) :=
  sg_callV2i X hK hG hC hS hb (m_X11_text_q2 l a0 h0 x1 h1 hgi hgg hl0 hby) h0 (k := 11) (ci := 11) rfl (C := RX11) (T := TX11) (N := 17) rfl wl_4_38 wl_1_1 wl_4_36 wl_4_37 (n := 1) (by decide +kernel) rfl rfl rfl hl hsize hst hW hR hf hdg kk

set_option maxHeartbeats 8000000 in
set_option maxRecDepth 100000 in
theorem m_X11_text_qn (l : Launch) {D : va_G} {base : Nat} {tys : List (ClassId × FieldType)} {ad ks : List Nat} {P : sgPm} (a0 : Nat) (h0 : isK ad ks 11 a0) (x1 : Int32) (hso : x1.toInt < 0 ∨ 2 < x1.toInt) : Met l yX11_text (Cond.code yX11_text cX11_text 2 (some .int) :: sg_tbl) ({ frames := 23, cells := 0, slots := 0, locals := 565 }) (va_Pc [.ref a0, .int x1] (sgB (KT P) D vwCl base tys ad ks)) (va_Qi (fun r (u : Int32) => u = r ∧ (fun r : Int32 => True) r) (fun u t => ∃ P1 : sgPm, sgKeep P P1 ∧ sgPin P1 = sgPin P ∧ sgN P1 = sgN P ∧ sgSd1 P P1 ∧ sgLs P P1 ∧ sgGk P P1 ∧ (sgEf1 (sgL1 P) 0 0 P P1 ∧ sgGm P1 = sgGm P ∧ u.toInt = -1) ∧ sgB (KT P1) D vwCl base tys ad ks t) (fun q : Nat => base ≤ q)) 0 0 (fun q : Nat => base ≤ q) := by
  refine sg_ofW (by decide +kernel) (Nat.le_of_ble_eq_true rfl) (fun p e s m below meth c X hr hlk hb hK hC hG ls hl => ?_)
  have hS : va_S (fun q : Nat => base ≤ q) s.heap s.heap [] := va_S.rf
  have hl : lv_has ls 2 [(0, .ref a0), (1, .int x1)] := hl
  refine lv_iload_n X.1 X.2.1 dX11_text_0 rfl (lv_at hl 1 rfl) ?_
  refine lv_if_ne (tgt := 9) X.1 X.2.1 dX11_text_1 (by decide) (fun c1 => ?_) (fun c1 => ?_)
  · refine lv_iload_n X.1 X.2.1 dX11_text_9 rfl (lv_at hl 1 rfl) ?_
    refine lv_iconst (v := 1) X.1 X.2.1 dX11_text_10 (by decide +kernel) ?_
    refine lv_icmp_ne (tgt := 66) X.1 X.2.1 dX11_text_11 (by decide) (fun c2 => ?_) (fun c2 => ?_)
    · refine lv_iload_n X.1 X.2.1 dX11_text_66 rfl (lv_at hl 1 rfl) ?_
      refine lv_iconst (v := 2) X.1 X.2.1 dX11_text_67 (by decide +kernel) ?_
      refine lv_icmp_ne (tgt := 123) X.1 X.2.1 dX11_text_68 (by decide) (fun c3 => ?_) (fun c3 => ?_)
      · refine lv_iconst (v := (-1)) X.1 X.2.1 dX11_text_123 (by decide +kernel) ?_
        exact sg_iret2 X hr hlk hS trivial (fun t ht hW => ⟨P, ⟨rfl, rfl, Nat.le_refl _, Nat.le_add_right _ _⟩, rfl, rfl, sgSd1_rf, sgLs_rf, sgGk_rf, ⟨sgEf1_rf, rfl, by decide +kernel⟩, sg_post hb hK hC hG hS ht hW⟩) dX11_text_124
      · exact absurd hso (by rw [c3]; decide +kernel)
    · exact absurd hso (by rw [c2]; decide +kernel)
  · exact absurd hso (by rw [c1]; decide +kernel)

theorem ca_X11_text_qn   (X : CallFix p m c cc nL s args sg_tbl own) (hK : va_K D vwCl tys s) (hG : sgG (KT P) D vwCl (fun q : Nat => base ≤ q) tys ad ks H) (hC : sgC base s) (hS : va_S (fun q : Nat => base ≤ q) s.heap H locs) (hb : base ≤ s.heap.size) (a0 : Nat) (h0 : isK ad ks 11 a0) (x1 : Int32) (hso : x1.toInt < 0 ∨ 2 < x1.toInt) (hl : Cond.methodLink own index yX11_text ∈ sg_tbl) (hsize : ls.size = nL) (hst : st0 = [.int x1].reverse ++ .ref a0 :: rest) (hW : (rest.map fun v => v.category).sum ≤ 8) (hR : 24 ≤ R.frames ∧ 586 ≤ R.locals) (hf : cells ≤ R.cells ∧ slots ≤ R.slots) (hdg : decode cc pc = .ok (.invokevirtual index, 3)) (kk : ∀ (r : Int32) (t : State) (H1 : Heap) (locs1 : List Loc), t.heap = H1 → (fun r : Int32 => True) r → (∃ P1 : sgPm, sgKeep P P1 ∧ sgPin P1 = sgPin P ∧ sgN P1 = sgN P ∧ sgSd1 P P1 ∧ sgLs P P1 ∧ sgGk P P1 ∧ (sgEf1 (sgL1 P) 0 0 P P1 ∧ sgGm P1 = sgGm P ∧ r.toInt = -1) ∧ sgB (KT P1) D vwCl base tys ad ks t) → va_S (fun q : Nat => base ≤ q) s.heap H1 locs1 → W p l e R s m args below meth c H1 locs1 cells slots Q (F0 m (pc + 3) ls (.int r :: rest))) : W p l e R s m args below meth c H locs cells slots Q (F0 m pc ls st0) :=
  sg_callV2i X hK hG hC hS hb (m_X11_text_qn l a0 h0 x1 hso) h0 (k := 11) (ci := 11) rfl (C := RX11) (T := TX11) (N := 17) rfl wl_4_38 wl_1_1 wl_4_36 wl_4_37 (n := 1) (by decide +kernel) rfl rfl rfl hl hsize hst hW hR hf hdg kk

theorem m_X11_text_q (l : Launch) {D : va_G} {base : Nat} {tys : List (ClassId × FieldType)} {ad ks : List Nat} {P : sgPm} (a0 : Nat) (h0 : isK ad ks 11 a0) (x1 : Int32) (hgi : sgGi (sgGm P)) (hgg : sgGg (sgGm P) P.2.2.2.2.2.2.2.1.val) (hl0 : 0 ≤ sgL1 P ∧ sgL1 P ≤ 240) (hby : ∀ j : Nat, (↑j : Int) < sgL1 P → 1 ≤ sgT1 P j ∧ sgT1 P j ≤ 255) : Met l yX11_text (Cond.code yX11_text cX11_text 2 (some .int) :: sg_tbl) ({ frames := 23, cells := 0, slots := 0, locals := 565 }) (va_Pc [.ref a0, .int x1] (sgB (KT P) D vwCl base tys ad ks)) (va_Qi (fun r (u : Int32) => u = r ∧ (fun r : Int32 => True) r) (fun u t => ∃ P1 : sgPm, sgKeep P P1 ∧ sgPin P1 = sgPin P ∧ sgN P1 = sgN P ∧ sgSd1 P P1 ∧ sgLs P P1 ∧ sgGk P P1 ∧ sgTy1 x1.toInt P P1 u.toInt ∧ sgB (KT P1) D vwCl base tys ad ks t) (fun q : Nat => base ≤ q)) 0 0 (fun q : Nat => base ≤ q) := by
  by_cases e0 : x1 = 0
  · have hx : iv 0 0 x1 := by rw [e0]; exact iv_c 0 (a := 0) (b := 0) (by decide +kernel)
    refine sg_monoP (m_X11_text_q0 l a0 h0 x1 hx hgi hl0 hby) (fun args s o t h => sg_qi h (fun u hW => ?_))
    obtain ⟨P1, g1, g2, g3, g4, g6, g7, g5, hB⟩ := hW
    exact ⟨P1, g1, g2, g3, g4, g6, g7, sgTy1_0 hx g5, hB⟩
  by_cases e1 : x1 = 1
  · have hx : iv 1 1 x1 := by rw [e1]; exact iv_c 1 (a := 1) (b := 1) (by decide +kernel)
    refine sg_monoP (m_X11_text_q1 l a0 h0 x1 hx hgi hl0 hby) (fun args s o t h => sg_qi h (fun u hW => ?_))
    obtain ⟨P1, g1, g2, g3, g4, g6, g7, g5, hB⟩ := hW
    exact ⟨P1, g1, g2, g3, g4, g6, g7, sgTy1_1 hx g5, hB⟩
  by_cases e2 : x1 = 2
  · have hx : iv 2 2 x1 := by rw [e2]; exact iv_c 2 (a := 2) (b := 2) (by decide +kernel)
    refine sg_monoP (m_X11_text_q2 l a0 h0 x1 hx hgi hgg hl0 hby) (fun args s o t h => sg_qi h (fun u hW => ?_))
    obtain ⟨P1, g1, g2, g3, g4, g6, g7, g5, hB⟩ := hW
    exact ⟨P1, g1, g2, g3, g4, g6, g7, sgTy1_2 hx g5, hB⟩
  have hso := sg_so e0 e1 e2
  refine sg_monoP (m_X11_text_qn l a0 h0 x1 hso) (fun args s o t h => sg_qi h (fun u hW => ?_))
  obtain ⟨P1, g1, g2, g3, g4, g6, g7, g5, hB⟩ := hW
  exact ⟨P1, g1, g2, g3, g4, g6, g7, Or.inr (Or.inr (Or.inr ⟨sgTk1_n hso, g5⟩)), hB⟩

theorem ca_X11_text_q   (X : CallFix p m c cc nL s args sg_tbl own) (hK : va_K D vwCl tys s) (hG : sgG (KT P) D vwCl (fun q : Nat => base ≤ q) tys ad ks H) (hC : sgC base s) (hS : va_S (fun q : Nat => base ≤ q) s.heap H locs) (hb : base ≤ s.heap.size) (a0 : Nat) (h0 : isK ad ks 11 a0) (x1 : Int32) (hgi : sgGi (sgGm P)) (hgg : sgGg (sgGm P) P.2.2.2.2.2.2.2.1.val) (hl0 : 0 ≤ sgL1 P ∧ sgL1 P ≤ 240) (hby : ∀ j : Nat, (↑j : Int) < sgL1 P → 1 ≤ sgT1 P j ∧ sgT1 P j ≤ 255) (hl : Cond.methodLink own index yX11_text ∈ sg_tbl) (hsize : ls.size = nL) (hst : st0 = [.int x1].reverse ++ .ref a0 :: rest) (hW : (rest.map fun v => v.category).sum ≤ 8) (hR : 24 ≤ R.frames ∧ 586 ≤ R.locals) (hf : cells ≤ R.cells ∧ slots ≤ R.slots) (hdg : decode cc pc = .ok (.invokevirtual index, 3)) (kk : ∀ (r : Int32) (t : State) (H1 : Heap) (locs1 : List Loc), t.heap = H1 → (fun r : Int32 => True) r → (∃ P1 : sgPm, sgKeep P P1 ∧ sgPin P1 = sgPin P ∧ sgN P1 = sgN P ∧ sgSd1 P P1 ∧ sgLs P P1 ∧ sgGk P P1 ∧ sgTy1 x1.toInt P P1 r.toInt ∧ sgB (KT P1) D vwCl base tys ad ks t) → va_S (fun q : Nat => base ≤ q) s.heap H1 locs1 → W p l e R s m args below meth c H1 locs1 cells slots Q (F0 m (pc + 3) ls (.int r :: rest))) : W p l e R s m args below meth c H locs cells slots Q (F0 m pc ls st0) :=
  sg_callV2i X hK hG hC hS hb (m_X11_text_q l a0 h0 x1 hgi hgg hl0 hby) h0 (k := 11) (ci := 11) rfl (C := RX11) (T := TX11) (N := 17) rfl wl_4_38 wl_1_1 wl_4_36 wl_4_37 (n := 1) (by decide +kernel) rfl rfl rfl hl hsize hst hW hR hf hdg kk
end
