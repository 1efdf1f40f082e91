abbrev cX6_read : ByteArray := prog_8_method_2_code
def yX6_read : MethodName := ⟨RX6, "read", "(LLawnAhead$Tape;)Z"⟩
abbrev cX6_readClause : ByteArray := prog_8_method_3_code
def yX6_readClause : MethodName := ⟨RX6, "readClause", "(LLawnAhead$Tape;I)Z"⟩
theorem dX6_read_0 : decode cX6_read 0 = .ok (.aload_n 1, 1) := by decide +kernel
theorem dX6_read_1 : decode cX6_read 1 = .ok (.invokevirtual 26, 3) := by decide +kernel
theorem dX6_read_4 : decode cX6_read 4 = .ok (.aload_n 0, 1) := by decide +kernel
theorem dX6_read_5 : decode cX6_read 5 = .ok (.iconst 0, 1) := by decide +kernel
theorem dX6_read_6 : decode cX6_read 6 = .ok (.putfield 29, 3) := by decide +kernel
theorem dX6_read_9 : decode cX6_read 9 = .ok (.aload_n 0, 1) := by decide +kernel
theorem dX6_read_10 : decode cX6_read 10 = .ok (.iconst 0, 1) := by decide +kernel
theorem dX6_read_11 : decode cX6_read 11 = .ok (.putfield 33, 3) := by decide +kernel
theorem dX6_read_14 : decode cX6_read 14 = .ok (.aload_n 0, 1) := by decide +kernel
theorem dX6_read_15 : decode cX6_read 15 = .ok (.iconst 0, 1) := by decide +kernel
theorem dX6_read_16 : decode cX6_read 16 = .ok (.putfield 37, 3) := by decide +kernel
theorem dX6_read_19 : decode cX6_read 19 = .ok (.iconst 0, 1) := by decide +kernel
theorem dX6_read_20 : decode cX6_read 20 = .ok (.istore_n 2, 1) := by decide +kernel
theorem dX6_read_21 : decode cX6_read 21 = .ok (.iload_n 2, 1) := by decide +kernel
theorem dX6_read_22 : decode cX6_read 22 = .ok (.bipush 64, 2) := by decide +kernel
theorem dX6_read_24 : decode cX6_read 24 = .ok (.if_icmp .ge 53, 3) := by decide +kernel
theorem dX6_read_27 : decode cX6_read 27 = .ok (.aload_n 0, 1) := by decide +kernel
theorem dX6_read_28 : decode cX6_read 28 = .ok (.getfield 20, 3) := by decide +kernel
theorem dX6_read_31 : decode cX6_read 31 = .ok (.iload_n 2, 1) := by decide +kernel
theorem dX6_read_32 : decode cX6_read 32 = .ok (.aload_n 0, 1) := by decide +kernel
theorem dX6_read_33 : decode cX6_read 33 = .ok (.getfield 29, 3) := by decide +kernel
theorem dX6_read_36 : decode cX6_read 36 = .ok (.iastore, 1) := by decide +kernel
theorem dX6_read_37 : decode cX6_read 37 = .ok (.aload_n 0, 1) := by decide +kernel
theorem dX6_read_38 : decode cX6_read 38 = .ok (.aload_n 1, 1) := by decide +kernel
theorem dX6_read_39 : decode cX6_read 39 = .ok (.iload_n 2, 1) := by decide +kernel
theorem dX6_read_40 : decode cX6_read 40 = .ok (.invokevirtual 40, 3) := by decide +kernel
theorem dX6_read_43 : decode cX6_read 43 = .ok (.ifCond .ne 5, 3) := by decide +kernel
theorem dX6_read_46 : decode cX6_read 46 = .ok (.iconst 0, 1) := by decide +kernel
theorem dX6_read_47 : decode cX6_read 47 = .ok (.ireturn, 1) := by decide +kernel
theorem dX6_read_48 : decode cX6_read 48 = .ok (.aload_n 0, 1) := by decide +kernel
theorem dX6_read_49 : decode cX6_read 49 = .ok (.iload_n 2, 1) := by decide +kernel
theorem dX6_read_50 : decode cX6_read 50 = .ok (.iconst 1, 1) := by decide +kernel
theorem dX6_read_51 : decode cX6_read 51 = .ok (.iadd, 1) := by decide +kernel
theorem dX6_read_52 : decode cX6_read 52 = .ok (.putfield 37, 3) := by decide +kernel
theorem dX6_read_55 : decode cX6_read 55 = .ok (.aload_n 1, 1) := by decide +kernel
theorem dX6_read_56 : decode cX6_read 56 = .ok (.invokevirtual 44, 3) := by decide +kernel
theorem dX6_read_59 : decode cX6_read 59 = .ok (.bipush 59, 2) := by decide +kernel
theorem dX6_read_61 : decode cX6_read 61 = .ok (.if_icmp .eq 6, 3) := by decide +kernel
theorem dX6_read_64 : decode cX6_read 64 = .ok (.goto 13, 3) := by decide +kernel
theorem dX6_read_67 : decode cX6_read 67 = .ok (.aload_n 1, 1) := by decide +kernel
theorem dX6_read_68 : decode cX6_read 68 = .ok (.invokevirtual 48, 3) := by decide +kernel
theorem dX6_read_71 : decode cX6_read 71 = .ok (.iinc 2 1, 3) := by decide +kernel
theorem dX6_read_74 : decode cX6_read 74 = .ok (.goto (-53), 3) := by decide +kernel
theorem dX6_read_77 : decode cX6_read 77 = .ok (.aload_n 0, 1) := by decide +kernel
theorem dX6_read_78 : decode cX6_read 78 = .ok (.getfield 20, 3) := by decide +kernel
theorem dX6_read_81 : decode cX6_read 81 = .ok (.aload_n 0, 1) := by decide +kernel
theorem dX6_read_82 : decode cX6_read 82 = .ok (.getfield 37, 3) := by decide +kernel
theorem dX6_read_85 : decode cX6_read 85 = .ok (.aload_n 0, 1) := by decide +kernel
theorem dX6_read_86 : decode cX6_read 86 = .ok (.getfield 29, 3) := by decide +kernel
theorem dX6_read_89 : decode cX6_read 89 = .ok (.iastore, 1) := by decide +kernel
theorem dX6_read_90 : decode cX6_read 90 = .ok (.aload_n 1, 1) := by decide +kernel
theorem dX6_read_91 : decode cX6_read 91 = .ok (.invokevirtual 51, 3) := by decide +kernel
theorem dX6_read_94 : decode cX6_read 94 = .ok (.ireturn, 1) := by decide +kernel
theorem dX6_readClause_0 : decode cX6_readClause 0 = .ok (.aload_n 1, 1) := by decide +kernel
theorem dX6_readClause_1 : decode cX6_readClause 1 = .ok (.bipush 121, 2) := by decide +kernel
theorem dX6_readClause_3 : decode cX6_readClause 3 = .ok (.invokevirtual 55, 3) := by decide +kernel
theorem dX6_readClause_6 : decode cX6_readClause 6 = .ok (.ifCond .eq 12, 3) := by decide +kernel
theorem dX6_readClause_9 : decode cX6_readClause 9 = .ok (.aload_n 1, 1) := by decide +kernel
theorem dX6_readClause_10 : decode cX6_readClause 10 = .ok (.bipush 58, 2) := by decide +kernel
theorem dX6_readClause_12 : decode cX6_readClause 12 = .ok (.invokevirtual 55, 3) := by decide +kernel
theorem dX6_readClause_15 : decode cX6_readClause 15 = .ok (.ifCond .ne 5, 3) := by decide +kernel
theorem dX6_readClause_18 : decode cX6_readClause 18 = .ok (.iconst 0, 1) := by decide +kernel
theorem dX6_readClause_19 : decode cX6_readClause 19 = .ok (.ireturn, 1) := by decide +kernel
theorem dX6_readClause_20 : decode cX6_readClause 20 = .ok (.aload_n 0, 1) := by decide +kernel
theorem dX6_readClause_21 : decode cX6_readClause 21 = .ok (.getfield 23, 3) := by decide +kernel
theorem dX6_readClause_24 : decode cX6_readClause 24 = .ok (.iload_n 2, 1) := by decide +kernel
theorem dX6_readClause_25 : decode cX6_readClause 25 = .ok (.aload_n 0, 1) := by decide +kernel
theorem dX6_readClause_26 : decode cX6_readClause 26 = .ok (.getfield 29, 3) := by decide +kernel
theorem dX6_readClause_29 : decode cX6_readClause 29 = .ok (.iastore, 1) := by decide +kernel
theorem dX6_readClause_30 : decode cX6_readClause 30 = .ok (.iconst 0, 1) := by decide +kernel
theorem dX6_readClause_31 : decode cX6_readClause 31 = .ok (.istore_n 3, 1) := by decide +kernel
theorem dX6_readClause_32 : decode cX6_readClause 32 = .ok (.aload_n 1, 1) := by decide +kernel
theorem dX6_readClause_33 : decode cX6_readClause 33 = .ok (.invokevirtual 44, 3) := by decide +kernel
theorem dX6_readClause_36 : decode cX6_readClause 36 = .ok (.bipush 33, 2) := by decide +kernel
theorem dX6_readClause_38 : decode cX6_readClause 38 = .ok (.if_icmp .eq 48, 3) := by decide +kernel
theorem dX6_readClause_41 : decode cX6_readClause 41 = .ok (.aload_n 1, 1) := by decide +kernel
theorem dX6_readClause_42 : decode cX6_readClause 42 = .ok (.invokevirtual 44, 3) := by decide +kernel
theorem dX6_readClause_45 : decode cX6_readClause 45 = .ok (.bipush 40, 2) := by decide +kernel
theorem dX6_readClause_47 : decode cX6_readClause 47 = .ok (.if_icmp .eq 39, 3) := by decide +kernel
theorem dX6_readClause_50 : decode cX6_readClause 50 = .ok (.aload_n 0, 1) := by decide +kernel
theorem dX6_readClause_51 : decode cX6_readClause 51 = .ok (.aload_n 1, 1) := by decide +kernel
theorem dX6_readClause_52 : decode cX6_readClause 52 = .ok (.iconst 0, 1) := by decide +kernel
theorem dX6_readClause_53 : decode cX6_readClause 53 = .ok (.invokevirtual 59, 3) := by decide +kernel
theorem dX6_readClause_56 : decode cX6_readClause 56 = .ok (.ifCond .ne 5, 3) := by decide +kernel
theorem dX6_readClause_59 : decode cX6_readClause 59 = .ok (.iconst 0, 1) := by decide +kernel
theorem dX6_readClause_60 : decode cX6_readClause 60 = .ok (.ireturn, 1) := by decide +kernel
theorem dX6_readClause_61 : decode cX6_readClause 61 = .ok (.aload_n 1, 1) := by decide +kernel
theorem dX6_readClause_62 : decode cX6_readClause 62 = .ok (.invokevirtual 44, 3) := by decide +kernel
theorem dX6_readClause_65 : decode cX6_readClause 65 = .ok (.invokestatic 62, 3) := by decide +kernel
theorem dX6_readClause_68 : decode cX6_readClause 68 = .ok (.ifCond .ne 5, 3) := by decide +kernel
theorem dX6_readClause_71 : decode cX6_readClause 71 = .ok (.iconst 1, 1) := by decide +kernel
theorem dX6_readClause_72 : decode cX6_readClause 72 = .ok (.ireturn, 1) := by decide +kernel
theorem dX6_readClause_73 : decode cX6_readClause 73 = .ok (.aload_n 0, 1) := by decide +kernel
theorem dX6_readClause_74 : decode cX6_readClause 74 = .ok (.aload_n 1, 1) := by decide +kernel
theorem dX6_readClause_75 : decode cX6_readClause 75 = .ok (.iconst 0, 1) := by decide +kernel
theorem dX6_readClause_76 : decode cX6_readClause 76 = .ok (.invokevirtual 66, 3) := by decide +kernel
theorem dX6_readClause_79 : decode cX6_readClause 79 = .ok (.ifCond .ne 5, 3) := by decide +kernel
theorem dX6_readClause_82 : decode cX6_readClause 82 = .ok (.iconst 0, 1) := by decide +kernel
theorem dX6_readClause_83 : decode cX6_readClause 83 = .ok (.ireturn, 1) := by decide +kernel
theorem dX6_readClause_84 : decode cX6_readClause 84 = .ok (.iconst 1, 1) := by decide +kernel
theorem dX6_readClause_85 : decode cX6_readClause 85 = .ok (.istore_n 3, 1) := by decide +kernel
theorem dX6_readClause_86 : decode cX6_readClause 86 = .ok (.aload_n 0, 1) := by decide +kernel
theorem dX6_readClause_87 : decode cX6_readClause 87 = .ok (.aload_n 1, 1) := by decide +kernel
theorem dX6_readClause_88 : decode cX6_readClause 88 = .ok (.iconst 0, 1) := by decide +kernel
theorem dX6_readClause_89 : decode cX6_readClause 89 = .ok (.iload_n 3, 1) := by decide +kernel
theorem dX6_readClause_90 : decode cX6_readClause 90 = .ok (.invokevirtual 69, 3) := by decide +kernel
theorem dX6_readClause_93 : decode cX6_readClause 93 = .ok (.ifCond .eq 12, 3) := by decide +kernel
theorem dX6_readClause_96 : decode cX6_readClause 96 = .ok (.aload_n 1, 1) := by decide +kernel
theorem dX6_readClause_97 : decode cX6_readClause 97 = .ok (.bipush 63, 2) := by decide +kernel
theorem dX6_readClause_99 : decode cX6_readClause 99 = .ok (.invokevirtual 55, 3) := by decide +kernel
theorem dX6_readClause_102 : decode cX6_readClause 102 = .ok (.ifCond .ne 5, 3) := by decide +kernel
theorem dX6_readClause_105 : decode cX6_readClause 105 = .ok (.iconst 0, 1) := by decide +kernel
theorem dX6_readClause_106 : decode cX6_readClause 106 = .ok (.ireturn, 1) := by decide +kernel
theorem dX6_readClause_107 : decode cX6_readClause 107 = .ok (.aload_n 0, 1) := by decide +kernel
theorem dX6_readClause_108 : decode cX6_readClause 108 = .ok (.getfield 23, 3) := by decide +kernel
theorem dX6_readClause_111 : decode cX6_readClause 111 = .ok (.iload_n 2, 1) := by decide +kernel
theorem dX6_readClause_112 : decode cX6_readClause 112 = .ok (.aload_n 0, 1) := by decide +kernel
theorem dX6_readClause_113 : decode cX6_readClause 113 = .ok (.getfield 29, 3) := by decide +kernel
theorem dX6_readClause_116 : decode cX6_readClause 116 = .ok (.iastore, 1) := by decide +kernel
theorem dX6_readClause_117 : decode cX6_readClause 117 = .ok (.aload_n 0, 1) := by decide +kernel
theorem dX6_readClause_118 : decode cX6_readClause 118 = .ok (.aload_n 1, 1) := by decide +kernel
theorem dX6_readClause_119 : decode cX6_readClause 119 = .ok (.iconst 0, 1) := by decide +kernel
theorem dX6_readClause_120 : decode cX6_readClause 120 = .ok (.invokevirtual 59, 3) := by decide +kernel
theorem dX6_readClause_123 : decode cX6_readClause 123 = .ok (.ireturn, 1) := by decide +kernel
theorem wl_3_209 : (.methodLink RX6 26 yX10_rewind : Cond) ∈ sg_tbl := tb_3 _ (List.mem_of_getElem? (i := 209) (by decide +kernel)) (by decide +kernel)
theorem wl_4_13 : (.methodLink RX6 51 yX10_ended : Cond) ∈ sg_tbl := tb_4 _ (List.mem_of_getElem? (i := 13) (by decide +kernel)) (by decide +kernel)
theorem wl_3_210 : (.methodLink RX6 40 yX6_readClause : Cond) ∈ sg_tbl := tb_3 _ (List.mem_of_getElem? (i := 210) (by decide +kernel)) (by decide +kernel)
theorem wl_3_213 : (.code yX6_readClause cX6_readClause 4 (some .boolean) : Cond) ∈ sg_tbl := tb_3 _ (List.mem_of_getElem? (i := 213) (by decide +kernel)) (by decide +kernel)
theorem wl_3_212 : (.instanceMethod yX6_readClause : Cond) ∈ sg_tbl := tb_3 _ (List.mem_of_getElem? (i := 212) (by decide +kernel)) (by decide +kernel)
theorem wl_0_10 : (.selects RX6 yX6_readClause yX6_readClause : Cond) ∈ sg_tbl := tb_0 _ (List.mem_of_getElem? (i := 10) (by decide +kernel)) (by decide +kernel)
theorem wl_3_208 : (.code yX6_read cX6_read 3 (some .boolean) : Cond) ∈ sg_tbl := tb_3 _ (List.mem_of_getElem? (i := 208) (by decide +kernel)) (by decide +kernel)
theorem wl_3_206 : (.instanceMethod yX6_read : Cond) ∈ sg_tbl := tb_3 _ (List.mem_of_getElem? (i := 206) (by decide +kernel)) (by decide +kernel)
theorem wl_3_207 : (.selects RX6 yX6_read yX6_read : Cond) ∈ sg_tbl := tb_3 _ (List.mem_of_getElem? (i := 207) (by decide +kernel)) (by decide +kernel)
section
variable {p : Program} {l : Launch} {e : Env} {R : Room} {s : State} {m : MethodId} {args : Array Value} {below : List Frame} {meth : Method} {c : Code} {H : Heap} {locs : List Loc} {cells slots : Nat} {Q : State → Prop} {cc : ByteArray} {nL pc : Nat} {ls : Array Slot} {rest : List Value} {own : String} {D : va_G} {A : Nat → Prop} {tys : List (ClassId × FieldType)} {ad ks : List Nat} {P : sgPm} {H0 : Heap} {index : Nat} {base : Nat} {st0 : List Value} {a : Nat}
theorem pf_X6_5  {x : Int32}  (X : CallFix p m c cc nL s args sg_tbl own) (hK : va_K D vwCl tys s) (hG : sgG (KT P) D vwCl A tys ad ks H) (hS : va_S A H0 H locs) (ha : isK ad ks 6 a) (hl : Cond.fieldLink own index "LawnAhead$Law" "clauses" "I" ∈ sg_tbl) (hv : okV ad ks (.inl (0, 64)) (.int x)) (hdg : decode cc pc = .ok (.putfield index, 3)) (kk : ∀ (H1 : Heap) (locs1 : List Loc), sgG (KT P) D vwCl A tys ad ks H1 → va_S A H0 H1 locs1 → fld D H1 6 a 5 (.int x) → sgFr (KT P) D vwCl ad ks H H1 (fun a' j' => a' = a ∧ j' = 5) → W p l e R s m args below meth c H1 locs1 cells slots Q (F0 m (pc + 3) ls rest)) : W p l e R s m args below meth c H locs cells slots Q (F0 m pc ls (.int x :: .ref a :: rest)) :=
  sg_put X hK hG hS ha (k := 6) (ci := 6) rfl (C := RX6) (T := TX6) (N := 7) rfl inL_X6 tyX6 tyX6_ok nmX6 5 (by decide) rfl hl (fun _ h => h) rfl (ty := .int) rfl rfl rfl hv hdg kk
theorem as_31  {i : Int32} {x : Int32}  (X : CallFix p m c cc nL s args sg_tbl own) (hK : va_K D vwCl tys s) (hG : sgG (KT P) D vwCl A tys ad ks H) (hS : va_S A H0 H locs) (ha : isK ad ks 31 a) (hin : vp_in i 65) (hv : okV ad ks (.inl (0, 240)) (.int x)) (hdg : decode cc pc = .ok (.iastore, 1)) (kk : ∀ (H1 : Heap) (locs1 : List Loc), sgG (KT P) D vwCl A tys ad ks H1 → va_S A H0 H1 locs1 → sgFr (KT P) D vwCl ad ks H H1 (fun _ _ => False) → W p l e R s m args below meth c H1 locs1 cells slots Q (F0 m (pc + 1) ls rest)) : W p l e R s m args below meth c H locs cells slots Q (F0 m pc ls (.int x :: .int i :: .ref a :: rest)) :=
  sg_iast X hK hG hS ha (k := 31) rfl hin hv hdg kk
theorem as_32  {i : Int32} {x : Int32}  (X : CallFix p m c cc nL s args sg_tbl own) (hK : va_K D vwCl tys s) (hG : sgG (KT P) D vwCl A tys ad ks H) (hS : va_S A H0 H locs) (ha : isK ad ks 32 a) (hin : vp_in i 64) (hv : okV ad ks (.inl (0, 240)) (.int x)) (hdg : decode cc pc = .ok (.iastore, 1)) (kk : ∀ (H1 : Heap) (locs1 : List Loc), sgG (KT P) D vwCl A tys ad ks H1 → va_S A H0 H1 locs1 → sgFr (KT P) D vwCl ad ks H H1 (fun _ _ => False) → W p l e R s m args below meth c H1 locs1 cells slots Q (F0 m (pc + 1) ls rest)) : W p l e R s m args below meth c H locs cells slots Q (F0 m pc ls (.int x :: .int i :: .ref a :: rest)) :=
  sg_iast X hK hG hS ha (k := 32) rfl hin hv hdg kk
set_option maxHeartbeats 8000000 in
set_option maxRecDepth 100000 in
theorem m_X6_readUnit_2 (l : Launch) {D : va_G} {base : Nat} {tys : List (ClassId × FieldType)} {ad ks : List Nat} {P : sgPm} (a0 : Nat) (h0 : isK ad ks 6 a0) (a1 : Nat) (h1 : isK ad ks 10 a1) (x2 : Int32) (h2 : iv 2 2 x2) : sgMi l (KT P) D vwCl base tys ad ks yX6_readUnit cX6_readUnit 4 (some .boolean) ({ frames := 15, cells := 0, slots := 0, locals := 369 }) [.ref a0, .ref a1, .int x2] (fun r : Int32 => iv 0 1 r) := by
  refine sg_ofW (by decide +kernel) (Nat.le_of_ble_eq_true rfl) (fun p e s m below meth c X hr hlk hb hK hC hG ls hl => ?_)
  have hS : va_S (fun q : Nat => base ≤ q) s.heap s.heap [] := va_S.rf
  have hl : lv_has ls 4 [(0, .ref a0), (1, .ref a1), (2, .int x2)] := hl
  refine lv_aload_n X.1 X.2.1 dX6_readUnit_0 rfl (lv_at hl 1 rfl) ?_
  refine ca_X10_sign X hK hG hC (fun _ h => h) hS hb a1 h1 wl_3_219 hl.1 (rest := []) rfl (Nat.le_of_ble_eq_true rfl) ⟨Nat.le_of_ble_eq_true rfl, Nat.le_of_ble_eq_true rfl⟩ ⟨Nat.le_of_ble_eq_true rfl, Nat.le_of_ble_eq_true rfl⟩ dX6_readUnit_1 (fun f1 locs hf1 hS => ?_)
  refine lv_istore_n (lv' := [(3, .int f1), (0, .ref a0), (1, .ref a1), (2, .int x2)]) X.1 X.2.1 dX6_readUnit_4 rfl hl (by decide) rfl (fun ls hl => ?_)
  refine lv_iload_n X.1 X.2.1 dX6_readUnit_5 rfl (lv_at hl 0 rfl) ?_
  refine lv_bipush (v := 33) X.1 X.2.1 dX6_readUnit_6 (by decide +kernel) ?_
  have B3_41 : ∀ (locs : List Loc) (ls : Array Slot), va_S (fun q : Nat => base ≤ q) s.heap s.heap locs → lv_has ls 4 [(0, .ref a0), (1, .ref a1), (2, .int x2), (3, .int f1)] → W p l e (headSpec (Cond.code yX6_readUnit cX6_readUnit 4 (some .boolean) :: sg_tbl) ({ frames := 15, cells := 0, slots := 0, locals := 369 })).room s m #[.ref a0, .ref a1, .int x2] below meth c s.heap locs 0 0 (MQ below (va_Qi (fun r (_ : Unit) => (fun r : Int32 => iv 0 1 r) r) (fun _ => sgB (KT P) D vwCl base tys ad ks) (fun q : Nat => base ≤ q)) #[.ref a0, .ref a1, .int x2] s 0 0 (fun q : Nat => base ≤ q)) (F0 m 41 ls []) := by
    intro locs ls hS hl
    refine lv_iload_n X.1 X.2.1 dX6_readUnit_41 rfl (lv_at hl 2 rfl) ?_
    refine lv_bipush (v := 6) X.1 X.2.1 dX6_readUnit_42 (by decide +kernel) ?_
    refine lv_icmp_lt (tgt := 52) X.1 X.2.1 dX6_readUnit_44 (by decide) (fun c4 => ?_) (fun c4 => ?_)
    · refine lv_aload_n X.1 X.2.1 dX6_readUnit_52 rfl (lv_at hl 1 rfl) ?_
      refine ca_X10_step X hK hG hC hS hb a1 h1 wl_3_229 hl.1 (rest := []) rfl (Nat.le_of_ble_eq_true rfl) ⟨Nat.le_of_ble_eq_true rfl, Nat.le_of_ble_eq_true rfl⟩ ⟨Nat.le_of_ble_eq_true rfl, Nat.le_of_ble_eq_true rfl⟩ dX6_readUnit_53 (fun H locs hG hS => ?_)
      refine lv_iload_n X.1 X.2.1 dX6_readUnit_56 rfl (lv_at hl 3 rfl) ?_
      refine lv_bipush (v := 40) X.1 X.2.1 dX6_readUnit_57 (by decide +kernel) ?_
      refine lv_icmp_ne (tgt := 89) X.1 X.2.1 dX6_readUnit_59 (by decide) (fun c6 => ?_) (fun c6 => ?_)
      · refine lv_aload_n X.1 X.2.1 dX6_readUnit_89 rfl (lv_at hl 0 rfl) ?_
        refine lv_aload_n X.1 X.2.1 dX6_readUnit_90 rfl (lv_at hl 1 rfl) ?_
        refine lv_iload_n X.1 X.2.1 dX6_readUnit_91 rfl (lv_at hl 2 rfl) ?_
        refine lv_iconst (v := 1) X.1 X.2.1 dX6_readUnit_92 (by decide +kernel) ?_
        refine lv_iadd X.1 X.2.1 dX6_readUnit_93 ?_
        refine lv_topi (fun f7 ef7 => ?_)
        refine ca_X6_readUnit_3 X hK hG hC hS hb a0 h0 a1 h1 f7 (iv_add (a' := 3) (b' := 3) ef7 h2 (iv_c 1 (a := 1) (b := 1) (by decide +kernel)) (by decide +kernel)) wl_4_9 hl.1 (rest := []) rfl (Nat.le_of_ble_eq_true rfl) ⟨Nat.le_of_ble_eq_true rfl, Nat.le_of_ble_eq_true rfl⟩ ⟨Nat.le_of_ble_eq_true rfl, Nat.le_of_ble_eq_true rfl⟩ dX6_readUnit_94 (fun f8 H locs hf8 hG hS => ?_)
        refine lv_if_ne (tgt := 102) X.1 X.2.1 dX6_readUnit_97 (by decide) (fun c9 => ?_) (fun c9 => ?_)
        · refine lv_aload_n X.1 X.2.1 dX6_readUnit_102 rfl (lv_at hl 0 rfl) ?_
          refine lv_bipush (v := (-19)) X.1 X.2.1 dX6_readUnit_103 (by decide +kernel) ?_
          refine ca_X6_put X hK hG hC hS hb a0 h0 (-19) wl_3_232 hl.1 (rest := []) rfl (Nat.le_of_ble_eq_true rfl) ⟨Nat.le_of_ble_eq_true rfl, Nat.le_of_ble_eq_true rfl⟩ ⟨Nat.le_of_ble_eq_true rfl, Nat.le_of_ble_eq_true rfl⟩ dX6_readUnit_105 (fun H locs hG hS => ?_)
          refine lv_iconst (v := 1) X.1 X.2.1 dX6_readUnit_108 (by decide +kernel) ?_
          exact sg_zret X hr (sg_zn (iv_of (iv_c 1 (a := 1) (b := 1) (by decide +kernel)) (a' := 0) (b' := 1) (by decide +kernel))) hlk hb hK hC hG hS (iv_of (iv_c 1 (a := 1) (b := 1) (by decide +kernel)) (a' := 0) (b' := 1) (by decide +kernel)) dX6_readUnit_109
        · refine lv_iconst (v := 0) X.1 X.2.1 dX6_readUnit_100 (by decide +kernel) ?_
          exact sg_zret X hr (sg_zn (iv_of (iv_c 0 (a := 0) (b := 0) (by decide +kernel)) (a' := 0) (b' := 1) (by decide +kernel))) hlk hb hK hC hG hS (iv_of (iv_c 0 (a := 0) (b := 0) (by decide +kernel)) (a' := 0) (b' := 1) (by decide +kernel)) dX6_readUnit_101
      · refine lv_aload_n X.1 X.2.1 dX6_readUnit_62 rfl (lv_at hl 0 rfl) ?_
        refine lv_aload_n X.1 X.2.1 dX6_readUnit_63 rfl (lv_at hl 1 rfl) ?_
        refine lv_iload_n X.1 X.2.1 dX6_readUnit_64 rfl (lv_at hl 2 rfl) ?_
        refine lv_iconst (v := 1) X.1 X.2.1 dX6_readUnit_65 (by decide +kernel) ?_
        refine lv_iadd X.1 X.2.1 dX6_readUnit_66 ?_
        refine lv_topi (fun f11 ef11 => ?_)
        refine lv_iconst (v := 0) X.1 X.2.1 dX6_readUnit_67 (by decide +kernel) ?_
        refine ca_X6_readCondition_3 X hK hG hC hS hb a0 h0 a1 h1 f11 (iv_add (a' := 3) (b' := 3) ef11 h2 (iv_c 1 (a := 1) (b := 1) (by decide +kernel)) (by decide +kernel)) 0 (iv_of (iv_c 0 (a := 0) (b := 0) (by decide +kernel)) (a' := 0) (b' := 1) (by decide +kernel)) wl_4_5 hl.1 (rest := []) rfl (Nat.le_of_ble_eq_true rfl) ⟨Nat.le_of_ble_eq_true rfl, Nat.le_of_ble_eq_true rfl⟩ ⟨Nat.le_of_ble_eq_true rfl, Nat.le_of_ble_eq_true rfl⟩ dX6_readUnit_68 (fun f12 H locs hf12 hG hS => ?_)
        have B14_87 : ∀ (H : Heap) (locs : List Loc) (ls : Array Slot), sgG (KT P) D vwCl (fun q : Nat => base ≤ q) tys ad ks H → va_S (fun q : Nat => base ≤ q) s.heap H locs → lv_has ls 4 [] → W p l e (headSpec (Cond.code yX6_readUnit cX6_readUnit 4 (some .boolean) :: sg_tbl) ({ frames := 15, cells := 0, slots := 0, locals := 369 })).room s m #[.ref a0, .ref a1, .int x2] below meth c H locs 0 0 (MQ below (va_Qi (fun r (_ : Unit) => (fun r : Int32 => iv 0 1 r) r) (fun _ => sgB (KT P) D vwCl base tys ad ks) (fun q : Nat => base ≤ q)) #[.ref a0, .ref a1, .int x2] s 0 0 (fun q : Nat => base ≤ q)) (F0 m 87 ls []) := by
          intro H locs ls hG hS hl
          refine lv_iconst (v := 0) X.1 X.2.1 dX6_readUnit_87 (by decide +kernel) ?_
          exact sg_zret X hr (sg_zn (iv_of (iv_c 0 (a := 0) (b := 0) (by decide +kernel)) (a' := 0) (b' := 1) (by decide +kernel))) hlk hb hK hC hG hS (iv_of (iv_c 0 (a := 0) (b := 0) (by decide +kernel)) (a' := 0) (b' := 1) (by decide +kernel)) dX6_readUnit_88
        refine lv_if_eq (tgt := 87) X.1 X.2.1 dX6_readUnit_71 (by decide) (fun c13 => ?_) (fun c13 => ?_)
        · exact B14_87 H _ _ hG hS (lv_sub hl [] rfl)
        · refine lv_aload_n X.1 X.2.1 dX6_readUnit_74 rfl (lv_at hl 1 rfl) ?_
          refine lv_bipush (v := 41) X.1 X.2.1 dX6_readUnit_75 (by decide +kernel) ?_
          refine ca_X10_demand X hK hG hC hS hb a1 h1 41 wl_3_214 hl.1 (rest := []) rfl (Nat.le_of_ble_eq_true rfl) ⟨Nat.le_of_ble_eq_true rfl, Nat.le_of_ble_eq_true rfl⟩ ⟨Nat.le_of_ble_eq_true rfl, Nat.le_of_ble_eq_true rfl⟩ dX6_readUnit_77 (fun f15 H locs hf15 hG hS => ?_)
          refine lv_if_eq (tgt := 87) X.1 X.2.1 dX6_readUnit_80 (by decide) (fun c16 => ?_) (fun c16 => ?_)
          · exact B14_87 H _ _ hG hS (lv_sub hl [] rfl)
          · refine lv_iconst (v := 1) X.1 X.2.1 dX6_readUnit_83 (by decide +kernel) ?_
            refine lv_goto (tgt := 88) X.1 X.2.1 dX6_readUnit_84 (by decide) ?_
            exact sg_zret X hr (sg_zn (iv_of (iv_c 1 (a := 1) (b := 1) (by decide +kernel)) (a' := 0) (b' := 1) (by decide +kernel))) hlk hb hK hC hG hS (iv_of (iv_c 1 (a := 1) (b := 1) (by decide +kernel)) (a' := 0) (b' := 1) (by decide +kernel)) dX6_readUnit_88
    · exact ((iv_no (iv_le (b' := 2) (iv_ge_of c4) (iv_c 6 (a := 6) (b := 6) (by decide +kernel)) h2 (by decide +kernel)) (by decide +kernel))).elim
  refine lv_icmp_eq (tgt := 41) X.1 X.2.1 dX6_readUnit_8 (by decide) (fun c2 => ?_) (fun c2 => ?_)
  · exact B3_41 _ _ hS (lv_sub hl [1, 2, 3, 0] rfl)
  · refine lv_iload_n X.1 X.2.1 dX6_readUnit_11 rfl (lv_at hl 0 rfl) ?_
    refine lv_bipush (v := 40) X.1 X.2.1 dX6_readUnit_12 (by decide +kernel) ?_
    refine lv_icmp_eq (tgt := 41) X.1 X.2.1 dX6_readUnit_14 (by decide) (fun c17 => ?_) (fun c17 => ?_)
    · exact B3_41 _ _ hS (lv_sub hl [1, 2, 3, 0] rfl)
    · refine lv_aload_n X.1 X.2.1 dX6_readUnit_17 rfl (lv_at hl 1 rfl) ?_
      refine lv_aload_n X.1 X.2.1 dX6_readUnit_18 rfl (lv_at hl 2 rfl) ?_
      refine lv_iload_n X.1 X.2.1 dX6_readUnit_19 rfl (lv_at hl 3 rfl) ?_
      refine ca_X6_readSum_2 X hK hG hC hS hb a0 h0 a1 h1 x2 h2 wl_3_220 hl.1 (rest := []) rfl (Nat.le_of_ble_eq_true rfl) ⟨Nat.le_of_ble_eq_true rfl, Nat.le_of_ble_eq_true rfl⟩ ⟨Nat.le_of_ble_eq_true rfl, Nat.le_of_ble_eq_true rfl⟩ dX6_readUnit_20 (fun f18 H locs hf18 hG hS => ?_)
      have B20_39 : ∀ (H : Heap) (locs : List Loc) (ls : Array Slot), sgG (KT P) D vwCl (fun q : Nat => base ≤ q) tys ad ks H → va_S (fun q : Nat => base ≤ q) s.heap H locs → lv_has ls 4 [] → W p l e (headSpec (Cond.code yX6_readUnit cX6_readUnit 4 (some .boolean) :: sg_tbl) ({ frames := 15, cells := 0, slots := 0, locals := 369 })).room s m #[.ref a0, .ref a1, .int x2] below meth c H locs 0 0 (MQ below (va_Qi (fun r (_ : Unit) => (fun r : Int32 => iv 0 1 r) r) (fun _ => sgB (KT P) D vwCl base tys ad ks) (fun q : Nat => base ≤ q)) #[.ref a0, .ref a1, .int x2] s 0 0 (fun q : Nat => base ≤ q)) (F0 m 39 ls []) := by
        intro H locs ls hG hS hl
        refine lv_iconst (v := 0) X.1 X.2.1 dX6_readUnit_39 (by decide +kernel) ?_
        exact sg_zret X hr (sg_zn (iv_of (iv_c 0 (a := 0) (b := 0) (by decide +kernel)) (a' := 0) (b' := 1) (by decide +kernel))) hlk hb hK hC hG hS (iv_of (iv_c 0 (a := 0) (b := 0) (by decide +kernel)) (a' := 0) (b' := 1) (by decide +kernel)) dX6_readUnit_40
      refine lv_if_eq (tgt := 39) X.1 X.2.1 dX6_readUnit_23 (by decide) (fun c19 => ?_) (fun c19 => ?_)
      · exact B20_39 H _ _ hG hS (lv_sub hl [] rfl)
      · refine lv_aload_n X.1 X.2.1 dX6_readUnit_26 rfl (lv_at hl 1 rfl) ?_
        refine lv_aload_n X.1 X.2.1 dX6_readUnit_27 rfl (lv_at hl 2 rfl) ?_
        refine lv_iload_n X.1 X.2.1 dX6_readUnit_28 rfl (lv_at hl 3 rfl) ?_
        refine ca_X6_readComparison_2 X hK hG hC hS hb a0 h0 a1 h1 x2 h2 wl_4_1 hl.1 (rest := []) rfl (Nat.le_of_ble_eq_true rfl) ⟨Nat.le_of_ble_eq_true rfl, Nat.le_of_ble_eq_true rfl⟩ ⟨Nat.le_of_ble_eq_true rfl, Nat.le_of_ble_eq_true rfl⟩ dX6_readUnit_29 (fun f21 H locs hf21 hG hS => ?_)
        refine lv_if_eq (tgt := 39) X.1 X.2.1 dX6_readUnit_32 (by decide) (fun c22 => ?_) (fun c22 => ?_)
        · exact B20_39 H _ _ hG hS (lv_sub hl [] rfl)
        · refine lv_iconst (v := 1) X.1 X.2.1 dX6_readUnit_35 (by decide +kernel) ?_
          refine lv_goto (tgt := 40) X.1 X.2.1 dX6_readUnit_36 (by decide) ?_
          exact sg_zret X hr (sg_zn (iv_of (iv_c 1 (a := 1) (b := 1) (by decide +kernel)) (a' := 0) (b' := 1) (by decide +kernel))) hlk hb hK hC hG hS (iv_of (iv_c 1 (a := 1) (b := 1) (by decide +kernel)) (a' := 0) (b' := 1) (by decide +kernel)) dX6_readUnit_40

theorem ca_X6_readUnit_2   (X : CallFix p m c cc nL s args sg_tbl own) (hK : va_K D vwCl tys s) (hG : sgG (KT P) D vwCl (fun q : Nat => base ≤ q) tys ad ks H) (hC : sgC base s) (hS : va_S (fun q : Nat => base ≤ q) s.heap H locs) (hb : base ≤ s.heap.size) (a0 : Nat) (h0 : isK ad ks 6 a0) (a1 : Nat) (h1 : isK ad ks 10 a1) (x2 : Int32) (h2 : iv 2 2 x2) (hl : Cond.methodLink own index yX6_readUnit ∈ sg_tbl) (hsize : ls.size = nL) (hst : st0 = [.ref a1, .int x2].reverse ++ .ref a0 :: rest) (hW : (rest.map fun v => v.category).sum ≤ 8) (hR : 16 ≤ R.frames ∧ 392 ≤ R.locals) (hf : cells ≤ R.cells ∧ slots ≤ R.slots) (hdg : decode cc pc = .ok (.invokevirtual index, 3)) (kk : ∀ (r : Int32) (H1 : Heap) (locs1 : List Loc), (fun r : Int32 => iv 0 1 r) r → sgG (KT P) D vwCl (fun q : Nat => base ≤ q) tys ad ks H1 → va_S (fun q : Nat => base ≤ q) s.heap H1 locs1 → W p l e R s m args below meth c H1 locs1 cells slots Q (F0 m (pc + 3) ls (.int r :: rest))) : W p l e R s m args below meth c H locs cells slots Q (F0 m pc ls st0) :=
  sg_callVi X hK hG hC hS hb (m_X6_readUnit_2 l a0 h0 a1 h1 x2 h2) h0 (k := 6) (ci := 6) rfl (C := RX6) (T := TX6) (N := 7) rfl wl_4_12 wl_1_3 wl_4_11 wl_0_16 (n := 2) (by decide +kernel) rfl rfl rfl hl hsize hst hW hR hf hdg kk

set_option maxHeartbeats 8000000 in
set_option maxRecDepth 100000 in
theorem m_X6_readCondition_2 (l : Launch) {D : va_G} {base : Nat} {tys : List (ClassId × FieldType)} {ad ks : List Nat} {P : sgPm} (a0 : Nat) (h0 : isK ad ks 6 a0) (a1 : Nat) (h1 : isK ad ks 10 a1) (x2 : Int32) (h2 : iv 2 2 x2) (x3 : Int32) (h3 : iv 0 1 x3) : sgMi l (KT P) D vwCl base tys ad ks yX6_readCondition cX6_readCondition 7 (some .boolean) ({ frames := 16, cells := 0, slots := 0, locals := 392 }) [.ref a0, .ref a1, .int x2, .int x3] (fun r : Int32 => iv 0 1 r) := by
  refine sg_ofW (by decide +kernel) (Nat.le_of_ble_eq_true rfl) (fun p e s m below meth c X hr hlk hb hK hC hG ls hl => ?_)
  have hS : va_S (fun q : Nat => base ≤ q) s.heap s.heap [] := va_S.rf
  have hl : lv_has ls 7 [(0, .ref a0), (1, .ref a1), (2, .int x2), (3, .int x3)] := hl
  refine lv_iload_n X.1 X.2.1 dX6_readCondition_0 rfl (lv_at hl 3 rfl) ?_
  have B2_15 : ∀ (H : Heap) (locs : List Loc) (ls : Array Slot), sgG (KT P) D vwCl (fun q : Nat => base ≤ q) tys ad ks H → va_S (fun q : Nat => base ≤ q) s.heap H locs → lv_has ls 7 [(0, .ref a0), (1, .ref a1), (2, .int x2)] → W p l e (headSpec (Cond.code yX6_readCondition cX6_readCondition 7 (some .boolean) :: sg_tbl) ({ frames := 16, cells := 0, slots := 0, locals := 392 })).room s m #[.ref a0, .ref a1, .int x2, .int x3] below meth c H locs 0 0 (MQ below (va_Qi (fun r (_ : Unit) => (fun r : Int32 => iv 0 1 r) r) (fun _ => sgB (KT P) D vwCl base tys ad ks) (fun q : Nat => base ≤ q)) #[.ref a0, .ref a1, .int x2, .int x3] s 0 0 (fun q : Nat => base ≤ q)) (F0 m 15 ls []) := by
    intro H locs ls hG hS hl
    refine lv_iconst (v := 0) X.1 X.2.1 dX6_readCondition_15 (by decide +kernel) ?_
    refine lv_istore (lv' := [(4, .int 0), (0, .ref a0), (1, .ref a1), (2, .int x2)]) X.1 X.2.1 dX6_readCondition_16 hl (by decide) rfl (fun ls hl => ?_)
    refine lv_iconst (v := 0) X.1 X.2.1 dX6_readCondition_18 (by decide +kernel) ?_
    refine lv_istore (lv' := [(5, .int 0), (4, .int 0), (0, .ref a0), (1, .ref a1), (2, .int x2)]) X.1 X.2.1 dX6_readCondition_19 hl (by decide) rfl (fun ls hl => ?_)
    have B3_21 : ∀ (N : Nat) (H : Heap) (locs : List Loc) (ls : Array Slot) (z3_4 : Int32) (z3_5 : Int32), sgG (KT P) D vwCl (fun q : Nat => base ≤ q) tys ad ks H → va_S (fun q : Nat => base ≤ q) s.heap H locs → lv_has ls 7 [(0, .ref a0), (1, .ref a1), (2, .int x2), (4, .int z3_4), (5, .int z3_5)] → iv 0 1 z3_4 → iv 0 240 z3_5 → (241 - z3_5.toInt).toNat ≤ N → W p l e (headSpec (Cond.code yX6_readCondition cX6_readCondition 7 (some .boolean) :: sg_tbl) ({ frames := 16, cells := 0, slots := 0, locals := 392 })).room s m #[.ref a0, .ref a1, .int x2, .int x3] below meth c H locs 0 0 (MQ below (va_Qi (fun r (_ : Unit) => (fun r : Int32 => iv 0 1 r) r) (fun _ => sgB (KT P) D vwCl base tys ad ks) (fun q : Nat => base ≤ q)) #[.ref a0, .ref a1, .int x2, .int x3] s 0 0 (fun q : Nat => base ≤ q)) (F0 m 21 ls []) := by
      intro N; induction N with
      | zero =>
        intro H locs ls z3_4 z3_5 hG hS hl hz3_4 hz3_5 hN
        exact absurd hN (by have := iv_up hz3_5; omega)
      | succ N ih3 =>
        intro H locs ls z3_4 z3_5 hG hS hl hz3_4 hz3_5 hN3
        refine lv_iload X.1 X.2.1 dX6_readCondition_21 (lv_at hl 4 rfl) ?_
        refine lv_sipush (v := 240) X.1 X.2.1 dX6_readCondition_23 (by decide +kernel) ?_
        refine lv_icmp_ge (tgt := 109) X.1 X.2.1 dX6_readCondition_26 (by decide) (fun c4 => ?_) (fun c4 => ?_)
        · refine lv_aload_n X.1 X.2.1 dX6_readCondition_109 rfl (lv_at hl 1 rfl) ?_
          refine ca_X10_wrong X hK hG hC hS hb a1 h1 wl_3_228 hl.1 (rest := []) rfl (Nat.le_of_ble_eq_true rfl) ⟨Nat.le_of_ble_eq_true rfl, Nat.le_of_ble_eq_true rfl⟩ ⟨Nat.le_of_ble_eq_true rfl, Nat.le_of_ble_eq_true rfl⟩ dX6_readCondition_110 (fun f5 H locs hf5 hG hS => ?_)
          exact sg_zret X hr (sg_zn hf5) hlk hb hK hC hG hS hf5 dX6_readCondition_113
        · refine lv_aload_n X.1 X.2.1 dX6_readCondition_29 rfl (lv_at hl 1 rfl) ?_
          refine ca_X10_sign X hK hG hC (fun _ h => h) hS hb a1 h1 wl_3_219 hl.1 (rest := []) rfl (Nat.le_of_ble_eq_true rfl) ⟨Nat.le_of_ble_eq_true rfl, Nat.le_of_ble_eq_true rfl⟩ ⟨Nat.le_of_ble_eq_true rfl, Nat.le_of_ble_eq_true rfl⟩ dX6_readCondition_30 (fun f6 locs hf6 hS => ?_)
          refine lv_istore (lv' := [(6, .int f6), (0, .ref a0), (1, .ref a1), (2, .int x2), (4, .int z3_4), (5, .int z3_5)]) X.1 X.2.1 dX6_readCondition_33 hl (by decide) rfl (fun ls hl => ?_)
          refine lv_iload X.1 X.2.1 dX6_readCondition_35 (lv_at hl 0 rfl) ?_
          refine lv_bipush (v := 38) X.1 X.2.1 dX6_readCondition_37 (by decide +kernel) ?_
          have B8_53 : ∀ (H : Heap) (locs : List Loc) (ls : Array Slot), sgG (KT P) D vwCl (fun q : Nat => base ≤ q) tys ad ks H → va_S (fun q : Nat => base ≤ q) s.heap H locs → lv_has ls 7 [(0, .ref a0), (1, .ref a1), (2, .int x2), (4, .int z3_4), (5, .int z3_5), (6, .int f6)] → W p l e (headSpec (Cond.code yX6_readCondition cX6_readCondition 7 (some .boolean) :: sg_tbl) ({ frames := 16, cells := 0, slots := 0, locals := 392 })).room s m #[.ref a0, .ref a1, .int x2, .int x3] below meth c H locs 0 0 (MQ below (va_Qi (fun r (_ : Unit) => (fun r : Int32 => iv 0 1 r) r) (fun _ => sgB (KT P) D vwCl base tys ad ks) (fun q : Nat => base ≤ q)) #[.ref a0, .ref a1, .int x2, .int x3] s 0 0 (fun q : Nat => base ≤ q)) (F0 m 53 ls []) := by
            intro H locs ls hG hS hl
            refine lv_iload X.1 X.2.1 dX6_readCondition_53 (lv_at hl 5 rfl) ?_
            refine lv_bipush (v := 38) X.1 X.2.1 dX6_readCondition_55 (by decide +kernel) ?_
            have B10_69 : ∀ (locs : List Loc) (ls : Array Slot), va_S (fun q : Nat => base ≤ q) s.heap H locs → lv_has ls 7 [(0, .ref a0), (1, .ref a1), (2, .int x2), (4, .int z3_4), (5, .int z3_5), (6, .int f6)] → W p l e (headSpec (Cond.code yX6_readCondition cX6_readCondition 7 (some .boolean) :: sg_tbl) ({ frames := 16, cells := 0, slots := 0, locals := 392 })).room s m #[.ref a0, .ref a1, .int x2, .int x3] below meth c H locs 0 0 (MQ below (va_Qi (fun r (_ : Unit) => (fun r : Int32 => iv 0 1 r) r) (fun _ => sgB (KT P) D vwCl base tys ad ks) (fun q : Nat => base ≤ q)) #[.ref a0, .ref a1, .int x2, .int x3] s 0 0 (fun q : Nat => base ≤ q)) (F0 m 69 ls []) := by
              intro locs ls hS hl
              refine lv_aload_n X.1 X.2.1 dX6_readCondition_69 rfl (lv_at hl 1 rfl) ?_
              refine ca_X10_step X hK hG hC hS hb a1 h1 wl_3_229 hl.1 (rest := []) rfl (Nat.le_of_ble_eq_true rfl) ⟨Nat.le_of_ble_eq_true rfl, Nat.le_of_ble_eq_true rfl⟩ ⟨Nat.le_of_ble_eq_true rfl, Nat.le_of_ble_eq_true rfl⟩ dX6_readCondition_70 (fun H locs hG hS => ?_)
              refine lv_aload_n X.1 X.2.1 dX6_readCondition_73 rfl (lv_at hl 0 rfl) ?_
              refine lv_aload_n X.1 X.2.1 dX6_readCondition_74 rfl (lv_at hl 1 rfl) ?_
              refine lv_iload_n X.1 X.2.1 dX6_readCondition_75 rfl (lv_at hl 2 rfl) ?_
              refine ca_X6_readUnit_2 X hK hG hC hS hb a0 h0 a1 h1 x2 h2 wl_4_9 hl.1 (rest := []) rfl (Nat.le_of_ble_eq_true rfl) ⟨Nat.le_of_ble_eq_true rfl, Nat.le_of_ble_eq_true rfl⟩ ⟨Nat.le_of_ble_eq_true rfl, Nat.le_of_ble_eq_true rfl⟩ dX6_readCondition_76 (fun f12 H locs hf12 hG hS => ?_)
              refine lv_if_ne (tgt := 84) X.1 X.2.1 dX6_readCondition_79 (by decide) (fun c13 => ?_) (fun c13 => ?_)
              · refine lv_iload X.1 X.2.1 dX6_readCondition_84 (lv_at hl 5 rfl) ?_
                refine lv_bipush (v := 38) X.1 X.2.1 dX6_readCondition_86 (by decide +kernel) ?_
                have B15_103 : ∀ (H : Heap) (locs : List Loc) (ls : Array Slot) (z15_4 : Int32), sgG (KT P) D vwCl (fun q : Nat => base ≤ q) tys ad ks H → va_S (fun q : Nat => base ≤ q) s.heap H locs → lv_has ls 7 [(0, .ref a0), (1, .ref a1), (2, .int x2), (4, .int z15_4), (5, .int z3_5)] → iv 0 1 z15_4 → W p l e (headSpec (Cond.code yX6_readCondition cX6_readCondition 7 (some .boolean) :: sg_tbl) ({ frames := 16, cells := 0, slots := 0, locals := 392 })).room s m #[.ref a0, .ref a1, .int x2, .int x3] below meth c H locs 0 0 (MQ below (va_Qi (fun r (_ : Unit) => (fun r : Int32 => iv 0 1 r) r) (fun _ => sgB (KT P) D vwCl base tys ad ks) (fun q : Nat => base ≤ q)) #[.ref a0, .ref a1, .int x2, .int x3] s 0 0 (fun q : Nat => base ≤ q)) (F0 m 103 ls []) := by
                  intro H locs ls z15_4 hG hS hl hz15_4
                  obtain ⟨y16, ey16⟩ : ∃ y : Int32, y = z3_5 + Int32.ofInt 1 := ⟨_, rfl⟩
                  refine lv_iinc (v := y16) (lv' := [(5, .int y16), (0, .ref a0), (1, .ref a1), (2, .int x2), (4, .int z15_4)]) X.1 X.2.1 dX6_readCondition_103 hl (k := 4) rfl ey16.symm (by decide) rfl (fun ls hl => ?_)
                  refine lv_goto (tgt := 21) X.1 X.2.1 dX6_readCondition_106 (by decide) ?_
                  exact ih3 H _ _ z15_4 y16 hG hS (lv_sub hl [1, 2, 3, 4, 0] rfl) hz15_4 (iv_of (iv_add (a' := 1) (b' := 240) ey16 (iv_lt (b' := 239) (iv_gt_of c4) hz3_5 (iv_c 240 (a := 240) (b := 240) (by decide +kernel)) (by decide +kernel)) (iv_c _ (a := 1) (b := 1) (by decide +kernel)) (by decide +kernel)) (a' := 0) (b' := 240) (by decide +kernel)) (iv_stepU ey16 (iv_lt (b' := 239) (iv_gt_of c4) hz3_5 (iv_c 240 (a := 240) (b := 240) (by decide +kernel)) (by decide +kernel)) (by decide +kernel) hN3)
                refine lv_icmp_ne (tgt := 100) X.1 X.2.1 dX6_readCondition_88 (by decide) (fun c14 => ?_) (fun c14 => ?_)
                · refine lv_iconst (v := 1) X.1 X.2.1 dX6_readCondition_100 (by decide +kernel) ?_
                  refine lv_istore (lv' := [(4, .int 1), (0, .ref a0), (1, .ref a1), (2, .int x2), (5, .int z3_5), (6, .int f6)]) X.1 X.2.1 dX6_readCondition_101 hl (by decide) rfl (fun ls hl => ?_)
                  exact B15_103 H _ _ 1 hG hS (lv_sub hl [1, 2, 3, 0, 4] rfl) (iv_of (iv_c 1 (a := 1) (b := 1) (by decide +kernel)) (a' := 0) (b' := 1) (by decide +kernel))
                · refine lv_aload_n X.1 X.2.1 dX6_readCondition_91 rfl (lv_at hl 0 rfl) ?_
                  refine lv_bipush (v := (-17)) X.1 X.2.1 dX6_readCondition_92 (by decide +kernel) ?_
                  refine ca_X6_put X hK hG hC hS hb a0 h0 (-17) wl_3_232 hl.1 (rest := []) rfl (Nat.le_of_ble_eq_true rfl) ⟨Nat.le_of_ble_eq_true rfl, Nat.le_of_ble_eq_true rfl⟩ ⟨Nat.le_of_ble_eq_true rfl, Nat.le_of_ble_eq_true rfl⟩ dX6_readCondition_94 (fun H locs hG hS => ?_)
                  refine lv_goto (tgt := 103) X.1 X.2.1 dX6_readCondition_97 (by decide) ?_
                  exact B15_103 H _ _ z3_4 hG hS (lv_sub hl [0, 1, 2, 3, 4] rfl) hz3_4
              · refine lv_iconst (v := 0) X.1 X.2.1 dX6_readCondition_82 (by decide +kernel) ?_
                exact sg_zret X hr (sg_zn (iv_of (iv_c 0 (a := 0) (b := 0) (by decide +kernel)) (a' := 0) (b' := 1) (by decide +kernel))) hlk hb hK hC hG hS (iv_of (iv_c 0 (a := 0) (b := 0) (by decide +kernel)) (a' := 0) (b' := 1) (by decide +kernel)) dX6_readCondition_83
            refine lv_icmp_eq (tgt := 69) X.1 X.2.1 dX6_readCondition_57 (by decide) (fun c9 => ?_) (fun c9 => ?_)
            · exact B10_69 _ _ hS (lv_sub hl [0, 1, 2, 3, 4, 5] rfl)
            · refine lv_iload X.1 X.2.1 dX6_readCondition_60 (lv_at hl 5 rfl) ?_
              refine lv_bipush (v := 124) X.1 X.2.1 dX6_readCondition_62 (by decide +kernel) ?_
              refine lv_icmp_eq (tgt := 69) X.1 X.2.1 dX6_readCondition_64 (by decide) (fun c18 => ?_) (fun c18 => ?_)
              · exact B10_69 _ _ hS (lv_sub hl [0, 1, 2, 3, 4, 5] rfl)
              · refine lv_iconst (v := 1) X.1 X.2.1 dX6_readCondition_67 (by decide +kernel) ?_
                exact sg_zret X hr (sg_zn (iv_of (iv_c 1 (a := 1) (b := 1) (by decide +kernel)) (a' := 0) (b' := 1) (by decide +kernel))) hlk hb hK hC hG hS (iv_of (iv_c 1 (a := 1) (b := 1) (by decide +kernel)) (a' := 0) (b' := 1) (by decide +kernel)) dX6_readCondition_68
          refine lv_icmp_eq (tgt := 53) X.1 X.2.1 dX6_readCondition_39 (by decide) (fun c7 => ?_) (fun c7 => ?_)
          · exact B8_53 H _ _ hG hS (lv_sub hl [1, 2, 3, 4, 5, 0] rfl)
          · refine lv_iload X.1 X.2.1 dX6_readCondition_42 (lv_at hl 4 rfl) ?_
            refine lv_if_eq (tgt := 53) X.1 X.2.1 dX6_readCondition_44 (by decide) (fun c19 => ?_) (fun c19 => ?_)
            · exact B8_53 H _ _ hG hS (lv_sub hl [1, 2, 3, 4, 5, 0] rfl)
            · refine lv_aload_n X.1 X.2.1 dX6_readCondition_47 rfl (lv_at hl 1 rfl) ?_
              refine lv_bipush (v := (-18)) X.1 X.2.1 dX6_readCondition_48 (by decide +kernel) ?_
              refine ca_X6_put X hK hG hC hS hb a0 h0 (-18) wl_3_232 hl.1 (rest := []) rfl (Nat.le_of_ble_eq_true rfl) ⟨Nat.le_of_ble_eq_true rfl, Nat.le_of_ble_eq_true rfl⟩ ⟨Nat.le_of_ble_eq_true rfl, Nat.le_of_ble_eq_true rfl⟩ dX6_readCondition_50 (fun H locs hG hS => ?_)
              exact B8_53 H _ _ hG hS (lv_sub hl [1, 2, 3, 4, 5, 0] rfl)
    exact B3_21 _ H _ _ 0 0 hG hS (lv_sub hl [2, 3, 4, 1, 0] rfl) (iv_of (iv_c 0 (a := 0) (b := 0) (by decide +kernel)) (a' := 0) (b' := 1) (by decide +kernel)) (iv_of (iv_c 0 (a := 0) (b := 0) (by decide +kernel)) (a' := 0) (b' := 240) (by decide +kernel)) (Nat.le_refl _)
  refine lv_if_ne (tgt := 15) X.1 X.2.1 dX6_readCondition_1 (by decide) (fun c1 => ?_) (fun c1 => ?_)
  · exact B2_15 s.heap _ _ hG hS (lv_sub hl [0, 1, 2] rfl)
  · refine lv_aload_n X.1 X.2.1 dX6_readCondition_4 rfl (lv_at hl 0 rfl) ?_
    refine lv_aload_n X.1 X.2.1 dX6_readCondition_5 rfl (lv_at hl 1 rfl) ?_
    refine lv_iload_n X.1 X.2.1 dX6_readCondition_6 rfl (lv_at hl 2 rfl) ?_
    refine ca_X6_readUnit_2 X hK hG hC hS hb a0 h0 a1 h1 x2 h2 wl_4_9 hl.1 (rest := []) rfl (Nat.le_of_ble_eq_true rfl) ⟨Nat.le_of_ble_eq_true rfl, Nat.le_of_ble_eq_true rfl⟩ ⟨Nat.le_of_ble_eq_true rfl, Nat.le_of_ble_eq_true rfl⟩ dX6_readCondition_7 (fun f21 H locs hf21 hG hS => ?_)
    refine lv_if_ne (tgt := 15) X.1 X.2.1 dX6_readCondition_10 (by decide) (fun c22 => ?_) (fun c22 => ?_)
    · exact B2_15 H _ _ hG hS (lv_sub hl [0, 1, 2] rfl)
    · refine lv_iconst (v := 0) X.1 X.2.1 dX6_readCondition_13 (by decide +kernel) ?_
      exact sg_zret X hr (sg_zn (iv_of (iv_c 0 (a := 0) (b := 0) (by decide +kernel)) (a' := 0) (b' := 1) (by decide +kernel))) hlk hb hK hC hG hS (iv_of (iv_c 0 (a := 0) (b := 0) (by decide +kernel)) (a' := 0) (b' := 1) (by decide +kernel)) dX6_readCondition_14

theorem ca_X6_readCondition_2   (X : CallFix p m c cc nL s args sg_tbl own) (hK : va_K D vwCl tys s) (hG : sgG (KT P) D vwCl (fun q : Nat => base ≤ q) tys ad ks H) (hC : sgC base s) (hS : va_S (fun q : Nat => base ≤ q) s.heap H locs) (hb : base ≤ s.heap.size) (a0 : Nat) (h0 : isK ad ks 6 a0) (a1 : Nat) (h1 : isK ad ks 10 a1) (x2 : Int32) (h2 : iv 2 2 x2) (x3 : Int32) (h3 : iv 0 1 x3) (hl : Cond.methodLink own index yX6_readCondition ∈ sg_tbl) (hsize : ls.size = nL) (hst : st0 = [.ref a1, .int x2, .int x3].reverse ++ .ref a0 :: rest) (hW : (rest.map fun v => v.category).sum ≤ 8) (hR : 17 ≤ R.frames ∧ 418 ≤ R.locals) (hf : cells ≤ R.cells ∧ slots ≤ R.slots) (hdg : decode cc pc = .ok (.invokevirtual index, 3)) (kk : ∀ (r : Int32) (H1 : Heap) (locs1 : List Loc), (fun r : Int32 => iv 0 1 r) r → sgG (KT P) D vwCl (fun q : Nat => base ≤ q) tys ad ks H1 → va_S (fun q : Nat => base ≤ q) s.heap H1 locs1 → W p l e R s m args below meth c H1 locs1 cells slots Q (F0 m (pc + 3) ls (.int r :: rest))) : W p l e R s m args below meth c H locs cells slots Q (F0 m pc ls st0) :=
  sg_callVi X hK hG hC hS hb (m_X6_readCondition_2 l a0 h0 a1 h1 x2 h2 x3 h3) h0 (k := 6) (ci := 6) rfl (C := RX6) (T := TX6) (N := 7) rfl wl_4_8 wl_1_3 wl_4_7 wl_0_15 (n := 3) (by decide +kernel) rfl rfl rfl hl hsize hst hW hR hf hdg kk

set_option maxHeartbeats 8000000 in
set_option maxRecDepth 100000 in
theorem m_X6_readAtom_1 (l : Launch) {D : va_G} {base : Nat} {tys : List (ClassId × FieldType)} {ad ks : List Nat} {P : sgPm} (a0 : Nat) (h0 : isK ad ks 6 a0) (a1 : Nat) (h1 : isK ad ks 10 a1) (x2 : Int32) (h2 : iv 1 1 x2) : sgMi l (KT P) D vwCl base tys ad ks yX6_readAtom cX6_readAtom 6 (some .boolean) ({ frames := 14, cells := 0, slots := 0, locals := 346 }) [.ref a0, .ref a1, .int x2] (fun r : Int32 => iv 0 1 r) := by
  refine sg_ofW (by decide +kernel) (Nat.le_of_ble_eq_true rfl) (fun p e s m below meth c X hr hlk hb hK hC hG ls hl => ?_)
  have hS : va_S (fun q : Nat => base ≤ q) s.heap s.heap [] := va_S.rf
  have hl : lv_has ls 6 [(0, .ref a0), (1, .ref a1), (2, .int x2)] := hl
  refine lv_aload_n X.1 X.2.1 dX6_readAtom_0 rfl (lv_at hl 1 rfl) ?_
  refine ca_X10_sign X hK hG hC (fun _ h => h) hS hb a1 h1 wl_3_219 hl.1 (rest := []) rfl (Nat.le_of_ble_eq_true rfl) ⟨Nat.le_of_ble_eq_true rfl, Nat.le_of_ble_eq_true rfl⟩ ⟨Nat.le_of_ble_eq_true rfl, Nat.le_of_ble_eq_true rfl⟩ dX6_readAtom_1 (fun f1 locs hf1 hS => ?_)
  refine lv_istore_n (lv' := [(3, .int f1), (0, .ref a0), (1, .ref a1), (2, .int x2)]) X.1 X.2.1 dX6_readAtom_4 rfl hl (by decide) rfl (fun ls hl => ?_)
  refine lv_iload_n X.1 X.2.1 dX6_readAtom_5 rfl (lv_at hl 0 rfl) ?_
  refine lv_bipush (v := 91) X.1 X.2.1 dX6_readAtom_6 (by decide +kernel) ?_
  refine lv_icmp_ne (tgt := 59) X.1 X.2.1 dX6_readAtom_8 (by decide) (fun c2 => ?_) (fun c2 => ?_)
  · obtain ⟨t3, vt3, pt3, rt3⟩ := hC.1.2.1
    refine va_ldcS X.1 X.2.1 X.2.2.2.1 rt3 dX6_readAtom_59 ?_
    refine lv_iload_n X.1 X.2.1 dX6_readAtom_61 rfl (lv_at hl 0 rfl) ?_
    obtain ⟨f4, ef4⟩ : ∃ y : Int32, y = ((f1 : Int32).toUInt32 % 65536).toInt32 := ⟨_, rfl⟩
    refine lv_i2c (v := f4) X.1 X.2.1 dX6_readAtom_62 ef4.symm ?_
    refine ca_J0_indexOf_0f7a4_6 X hK hG hC (fun _ h => h) hS hb pt3 f4 wl_3_231 hl.1 (rest := []) rfl (Nat.le_of_ble_eq_true rfl) ⟨Nat.le_of_ble_eq_true rfl, Nat.le_of_ble_eq_true rfl⟩ ⟨Nat.le_of_ble_eq_true rfl, Nat.le_of_ble_eq_true rfl⟩ dX6_readAtom_63 (fun f5 locs hf5 hS => ?_)
    refine lv_istore (lv' := [(4, .int f5), (3, .int f1), (0, .ref a0), (1, .ref a1), (2, .int x2)]) X.1 X.2.1 dX6_readAtom_66 hl (by decide) rfl (fun ls hl => ?_)
    refine lv_iload X.1 X.2.1 dX6_readAtom_68 (lv_at hl 0 rfl) ?_
    refine lv_if_lt (tgt := 107) X.1 X.2.1 dX6_readAtom_70 (by decide) (fun c6 => ?_) (fun c6 => ?_)
    · refine lv_aload_n X.1 X.2.1 dX6_readAtom_107 rfl (lv_at hl 3 rfl) ?_
      refine lv_iconst (v := 4) X.1 X.2.1 dX6_readAtom_108 (by decide +kernel) ?_
      refine lv_iconst (v := 0) X.1 X.2.1 dX6_readAtom_109 (by decide +kernel) ?_
      refine lv_sipush (v := 9999) X.1 X.2.1 dX6_readAtom_110 (by decide +kernel) ?_
      refine ca_X10_number X hK hG hC hS hb a1 h1 4 0 9999 wl_3_236 hl.1 (rest := []) rfl (Nat.le_of_ble_eq_true rfl) ⟨Nat.le_of_ble_eq_true rfl, Nat.le_of_ble_eq_true rfl⟩ ⟨Nat.le_of_ble_eq_true rfl, Nat.le_of_ble_eq_true rfl⟩ dX6_readAtom_113 (fun f7 H locs hf7 hG hS => ?_)
      refine lv_istore (lv' := [(5, .int f7), (4, .int f5), (3, .int f1), (0, .ref a0), (1, .ref a1), (2, .int x2)]) X.1 X.2.1 dX6_readAtom_116 hl (by decide) rfl (fun ls hl => ?_)
      refine lv_aload_n X.1 X.2.1 dX6_readAtom_118 rfl (lv_at hl 3 rfl) ?_
      refine lv_iload X.1 X.2.1 dX6_readAtom_119 (lv_at hl 0 rfl) ?_
      refine lv_iconst (v := 0) X.1 X.2.1 dX6_readAtom_121 (by decide +kernel) ?_
      refine va_mmax X.1 X.2.1 (X.2.2.1.trans hl.1.symm) X.2.2.2.1 (X.2.2.2.2 _ wl_3_237) (X.2.2.2.2 _ wl_3_100) (X.2.2.2.2 _ wl_1_15) (X.2.2.2.2 _ wl_3_101) (Nat.le_of_ble_eq_true rfl) (Nat.le_of_ble_eq_true rfl) (Nat.le_of_ble_eq_true rfl) (Nat.le_of_ble_eq_true rfl) dX6_readAtom_122 ?_
      refine lv_topi (fun f8 ef8 => ?_)
      refine ca_X6_put X hK hG hC hS hb a0 h0 f8 wl_3_232 hl.1 (rest := []) rfl (Nat.le_of_ble_eq_true rfl) ⟨Nat.le_of_ble_eq_true rfl, Nat.le_of_ble_eq_true rfl⟩ ⟨Nat.le_of_ble_eq_true rfl, Nat.le_of_ble_eq_true rfl⟩ dX6_readAtom_125 (fun H locs hG hS => ?_)
      refine lv_iload X.1 X.2.1 dX6_readAtom_128 (lv_at hl 0 rfl) ?_
      refine lv_iconst (v := (-1)) X.1 X.2.1 dX6_readAtom_130 (by decide +kernel) ?_
      refine lv_icmp_eq (tgt := 138) X.1 X.2.1 dX6_readAtom_131 (by decide) (fun c10 => ?_) (fun c10 => ?_)
      · refine lv_iconst (v := 0) X.1 X.2.1 dX6_readAtom_138 (by decide +kernel) ?_
        exact sg_zret X hr (sg_zn (iv_of (iv_c 0 (a := 0) (b := 0) (by decide +kernel)) (a' := 0) (b' := 1) (by decide +kernel))) hlk hb hK hC hG hS (iv_of (iv_c 0 (a := 0) (b := 0) (by decide +kernel)) (a' := 0) (b' := 1) (by decide +kernel)) dX6_readAtom_139
      · refine lv_iconst (v := 1) X.1 X.2.1 dX6_readAtom_134 (by decide +kernel) ?_
        refine lv_goto (tgt := 139) X.1 X.2.1 dX6_readAtom_135 (by decide) ?_
        exact sg_zret X hr (sg_zn (iv_of (iv_c 1 (a := 1) (b := 1) (by decide +kernel)) (a' := 0) (b' := 1) (by decide +kernel))) hlk hb hK hC hG hS (iv_of (iv_c 1 (a := 1) (b := 1) (by decide +kernel)) (a' := 0) (b' := 1) (by decide +kernel)) dX6_readAtom_139
    · refine lv_aload_n X.1 X.2.1 dX6_readAtom_73 rfl (lv_at hl 2 rfl) ?_
      refine lv_dup X.1 X.2.1 dX6_readAtom_74 rfl ?_
      refine gf_X6_6 X hK hG h0 wl_1_72 dX6_readAtom_75 (fun f11 hf11 kf11 => ?_)
      refine lv_iload X.1 X.2.1 dX6_readAtom_78 (lv_at hl 0 rfl) ?_
      refine lv_iconst (v := 4) X.1 X.2.1 dX6_readAtom_80 (by decide +kernel) ?_
      have B13_89 : ∀ (locs : List Loc) (ls : Array Slot) (w13_0 : Int32), va_S (fun q : Nat => base ≤ q) s.heap s.heap locs → lv_has ls 6 [(0, .ref a0), (1, .ref a1), (4, .int f5)] → iv 0 1 w13_0 → W p l e (headSpec (Cond.code yX6_readAtom cX6_readAtom 6 (some .boolean) :: sg_tbl) ({ frames := 14, cells := 0, slots := 0, locals := 346 })).room s m #[.ref a0, .ref a1, .int x2] below meth c s.heap locs 0 0 (MQ below (va_Qi (fun r (_ : Unit) => (fun r : Int32 => iv 0 1 r) r) (fun _ => sgB (KT P) D vwCl base tys ad ks) (fun q : Nat => base ≤ q)) #[.ref a0, .ref a1, .int x2] s 0 0 (fun q : Nat => base ≤ q)) (F0 m 89 ls [.int w13_0, .int f11, .ref a0]) := by
        intro locs ls w13_0 hS hl hw13_0
        refine lv_ior X.1 X.2.1 dX6_readAtom_89 ?_
        refine lv_topi (fun f14 ef14 => ?_)
        refine pf_X6_6 X hK hG hS h0 wl_1_72 ⟨_, rfl, (iv_of (iv_or 1 ef14 hf11 hw13_0 (by decide +kernel)) (a' := 0) (b' := 1) (by decide +kernel))⟩ dX6_readAtom_90 (fun H locs hG hS ku15 ru15 => ?_)
        refine lv_aload_n X.1 X.2.1 dX6_readAtom_93 rfl (lv_at hl 0 rfl) ?_
        refine lv_iconst (v := (-1)) X.1 X.2.1 dX6_readAtom_94 (by decide +kernel) ?_
        refine lv_iload X.1 X.2.1 dX6_readAtom_95 (lv_at hl 2 rfl) ?_
        refine lv_isub X.1 X.2.1 dX6_readAtom_97 ?_
        refine lv_topi (fun f16 ef16 => ?_)
        refine ca_X6_put X hK hG hC hS hb a0 h0 f16 wl_3_232 hl.1 (rest := []) rfl (Nat.le_of_ble_eq_true rfl) ⟨Nat.le_of_ble_eq_true rfl, Nat.le_of_ble_eq_true rfl⟩ ⟨Nat.le_of_ble_eq_true rfl, Nat.le_of_ble_eq_true rfl⟩ dX6_readAtom_98 (fun H locs hG hS => ?_)
        refine lv_aload_n X.1 X.2.1 dX6_readAtom_101 rfl (lv_at hl 1 rfl) ?_
        refine ca_X10_step X hK hG hC hS hb a1 h1 wl_3_229 hl.1 (rest := []) rfl (Nat.le_of_ble_eq_true rfl) ⟨Nat.le_of_ble_eq_true rfl, Nat.le_of_ble_eq_true rfl⟩ ⟨Nat.le_of_ble_eq_true rfl, Nat.le_of_ble_eq_true rfl⟩ dX6_readAtom_102 (fun H locs hG hS => ?_)
        refine lv_iconst (v := 1) X.1 X.2.1 dX6_readAtom_105 (by decide +kernel) ?_
        exact sg_zret X hr (sg_zn (iv_of (iv_c 1 (a := 1) (b := 1) (by decide +kernel)) (a' := 0) (b' := 1) (by decide +kernel))) hlk hb hK hC hG hS (iv_of (iv_c 1 (a := 1) (b := 1) (by decide +kernel)) (a' := 0) (b' := 1) (by decide +kernel)) dX6_readAtom_106
      refine lv_icmp_ne (tgt := 88) X.1 X.2.1 dX6_readAtom_81 (by decide) (fun c12 => ?_) (fun c12 => ?_)
      · refine lv_iconst (v := 0) X.1 X.2.1 dX6_readAtom_88 (by decide +kernel) ?_
        exact B13_89 _ _ 0 hS (lv_sub hl [2, 3, 0] rfl) (iv_of (iv_c 0 (a := 0) (b := 0) (by decide +kernel)) (a' := 0) (b' := 1) (by decide +kernel))
      · refine lv_iconst (v := 1) X.1 X.2.1 dX6_readAtom_84 (by decide +kernel) ?_
        refine lv_goto (tgt := 89) X.1 X.2.1 dX6_readAtom_85 (by decide) ?_
        exact B13_89 _ _ 1 hS (lv_sub hl [2, 3, 0] rfl) (iv_of (iv_c 1 (a := 1) (b := 1) (by decide +kernel)) (a' := 0) (b' := 1) (by decide +kernel))
  · refine lv_iload_n X.1 X.2.1 dX6_readAtom_11 rfl (lv_at hl 3 rfl) ?_
    refine lv_bipush (v := 6) X.1 X.2.1 dX6_readAtom_12 (by decide +kernel) ?_
    refine lv_icmp_lt (tgt := 22) X.1 X.2.1 dX6_readAtom_14 (by decide) (fun c19 => ?_) (fun c19 => ?_)
    · refine lv_aload_n X.1 X.2.1 dX6_readAtom_22 rfl (lv_at hl 2 rfl) ?_
      refine ca_X10_step X hK hG hC hS hb a1 h1 wl_3_229 hl.1 (rest := []) rfl (Nat.le_of_ble_eq_true rfl) ⟨Nat.le_of_ble_eq_true rfl, Nat.le_of_ble_eq_true rfl⟩ ⟨Nat.le_of_ble_eq_true rfl, Nat.le_of_ble_eq_true rfl⟩ dX6_readAtom_23 (fun H locs hG hS => ?_)
      refine lv_aload_n X.1 X.2.1 dX6_readAtom_26 rfl (lv_at hl 1 rfl) ?_
      refine lv_aload_n X.1 X.2.1 dX6_readAtom_27 rfl (lv_at hl 2 rfl) ?_
      refine lv_iload_n X.1 X.2.1 dX6_readAtom_28 rfl (lv_at hl 3 rfl) ?_
      refine lv_iconst (v := 1) X.1 X.2.1 dX6_readAtom_29 (by decide +kernel) ?_
      refine lv_iadd X.1 X.2.1 dX6_readAtom_30 ?_
      refine lv_topi (fun f21 ef21 => ?_)
      refine ca_X6_readSum_2 X hK hG hC hS hb a0 h0 a1 h1 f21 (iv_add (a' := 2) (b' := 2) ef21 h2 (iv_c 1 (a := 1) (b := 1) (by decide +kernel)) (by decide +kernel)) wl_3_220 hl.1 (rest := []) rfl (Nat.le_of_ble_eq_true rfl) ⟨Nat.le_of_ble_eq_true rfl, Nat.le_of_ble_eq_true rfl⟩ ⟨Nat.le_of_ble_eq_true rfl, Nat.le_of_ble_eq_true rfl⟩ dX6_readAtom_31 (fun f22 H locs hf22 hG hS => ?_)
      refine lv_if_ne (tgt := 39) X.1 X.2.1 dX6_readAtom_34 (by decide) (fun c23 => ?_) (fun c23 => ?_)
      · refine lv_aload_n X.1 X.2.1 dX6_readAtom_39 rfl (lv_at hl 2 rfl) ?_
        refine ca_X10_sign X hK hG hC (fun _ h => h) hS hb a1 h1 wl_3_219 hl.1 (rest := []) rfl (Nat.le_of_ble_eq_true rfl) ⟨Nat.le_of_ble_eq_true rfl, Nat.le_of_ble_eq_true rfl⟩ ⟨Nat.le_of_ble_eq_true rfl, Nat.le_of_ble_eq_true rfl⟩ dX6_readAtom_40 (fun f24 locs hf24 hS => ?_)
        refine lv_bipush (v := 93) X.1 X.2.1 dX6_readAtom_43 (by decide +kernel) ?_
        refine lv_icmp_eq (tgt := 53) X.1 X.2.1 dX6_readAtom_45 (by decide) (fun c25 => ?_) (fun c25 => ?_)
        · refine lv_aload_n X.1 X.2.1 dX6_readAtom_53 rfl (lv_at hl 2 rfl) ?_
          refine ca_X10_step X hK hG hC hS hb a1 h1 wl_3_229 hl.1 (rest := []) rfl (Nat.le_of_ble_eq_true rfl) ⟨Nat.le_of_ble_eq_true rfl, Nat.le_of_ble_eq_true rfl⟩ ⟨Nat.le_of_ble_eq_true rfl, Nat.le_of_ble_eq_true rfl⟩ dX6_readAtom_54 (fun H locs hG hS => ?_)
          refine lv_iconst (v := 1) X.1 X.2.1 dX6_readAtom_57 (by decide +kernel) ?_
          exact sg_zret X hr (sg_zn (iv_of (iv_c 1 (a := 1) (b := 1) (by decide +kernel)) (a' := 0) (b' := 1) (by decide +kernel))) hlk hb hK hC hG hS (iv_of (iv_c 1 (a := 1) (b := 1) (by decide +kernel)) (a' := 0) (b' := 1) (by decide +kernel)) dX6_readAtom_58
        · refine lv_aload_n X.1 X.2.1 dX6_readAtom_48 rfl (lv_at hl 2 rfl) ?_
          refine ca_X10_wrong X hK hG hC hS hb a1 h1 wl_3_228 hl.1 (rest := []) rfl (Nat.le_of_ble_eq_true rfl) ⟨Nat.le_of_ble_eq_true rfl, Nat.le_of_ble_eq_true rfl⟩ ⟨Nat.le_of_ble_eq_true rfl, Nat.le_of_ble_eq_true rfl⟩ dX6_readAtom_49 (fun f27 H locs hf27 hG hS => ?_)
          exact sg_zret X hr (sg_zn hf27) hlk hb hK hC hG hS hf27 dX6_readAtom_52
      · refine lv_iconst (v := 0) X.1 X.2.1 dX6_readAtom_37 (by decide +kernel) ?_
        exact sg_zret X hr (sg_zn (iv_of (iv_c 0 (a := 0) (b := 0) (by decide +kernel)) (a' := 0) (b' := 1) (by decide +kernel))) hlk hb hK hC hG hS (iv_of (iv_c 0 (a := 0) (b := 0) (by decide +kernel)) (a' := 0) (b' := 1) (by decide +kernel)) dX6_readAtom_38
    · exact ((iv_no (iv_le (b' := 1) (iv_ge_of c19) (iv_c 6 (a := 6) (b := 6) (by decide +kernel)) h2 (by decide +kernel)) (by decide +kernel))).elim

theorem ca_X6_readAtom_1   (X : CallFix p m c cc nL s args sg_tbl own) (hK : va_K D vwCl tys s) (hG : sgG (KT P) D vwCl (fun q : Nat => base ≤ q) tys ad ks H) (hC : sgC base s) (hS : va_S (fun q : Nat => base ≤ q) s.heap H locs) (hb : base ≤ s.heap.size) (a0 : Nat) (h0 : isK ad ks 6 a0) (a1 : Nat) (h1 : isK ad ks 10 a1) (x2 : Int32) (h2 : iv 1 1 x2) (hl : Cond.methodLink own index yX6_readAtom ∈ sg_tbl) (hsize : ls.size = nL) (hst : st0 = [.ref a1, .int x2].reverse ++ .ref a0 :: rest) (hW : (rest.map fun v => v.category).sum ≤ 8) (hR : 15 ≤ R.frames ∧ 371 ≤ R.locals) (hf : cells ≤ R.cells ∧ slots ≤ R.slots) (hdg : decode cc pc = .ok (.invokevirtual index, 3)) (kk : ∀ (r : Int32) (H1 : Heap) (locs1 : List Loc), (fun r : Int32 => iv 0 1 r) r → sgG (KT P) D vwCl (fun q : Nat => base ≤ q) tys ad ks H1 → va_S (fun q : Nat => base ≤ q) s.heap H1 locs1 → W p l e R s m args below meth c H1 locs1 cells slots Q (F0 m (pc + 3) ls (.int r :: rest))) : W p l e R s m args below meth c H locs cells slots Q (F0 m pc ls st0) :=
  sg_callVi X hK hG hC hS hb (m_X6_readAtom_1 l a0 h0 a1 h1 x2 h2) h0 (k := 6) (ci := 6) rfl (C := RX6) (T := TX6) (N := 7) rfl wl_3_227 wl_1_3 wl_3_226 wl_0_12 (n := 2) (by decide +kernel) rfl rfl rfl hl hsize hst hW hR hf hdg kk

set_option maxHeartbeats 8000000 in
set_option maxRecDepth 100000 in
theorem m_X6_readSum_1 (l : Launch) {D : va_G} {base : Nat} {tys : List (ClassId × FieldType)} {ad ks : List Nat} {P : sgPm} (a0 : Nat) (h0 : isK ad ks 6 a0) (a1 : Nat) (h1 : isK ad ks 10 a1) (x2 : Int32) (h2 : iv 1 1 x2) : sgMi l (KT P) D vwCl base tys ad ks yX6_readSum cX6_readSum 7 (some .boolean) ({ frames := 15, cells := 0, slots := 0, locals := 371 }) [.ref a0, .ref a1, .int x2] (fun r : Int32 => iv 0 1 r) := by
  refine sg_ofW (by decide +kernel) (Nat.le_of_ble_eq_true rfl) (fun p e s m below meth c X hr hlk hb hK hC hG ls hl => ?_)
  have hS : va_S (fun q : Nat => base ≤ q) s.heap s.heap [] := va_S.rf
  have hl : lv_has ls 7 [(0, .ref a0), (1, .ref a1), (2, .int x2)] := hl
  refine lv_aload_n X.1 X.2.1 dX6_readSum_0 rfl (lv_at hl 0 rfl) ?_
  refine lv_aload_n X.1 X.2.1 dX6_readSum_1 rfl (lv_at hl 1 rfl) ?_
  refine lv_iload_n X.1 X.2.1 dX6_readSum_2 rfl (lv_at hl 2 rfl) ?_
  refine ca_X6_readAtom_1 X hK hG hC hS hb a0 h0 a1 h1 x2 h2 wl_3_224 hl.1 (rest := []) rfl (Nat.le_of_ble_eq_true rfl) ⟨Nat.le_of_ble_eq_true rfl, Nat.le_of_ble_eq_true rfl⟩ ⟨Nat.le_of_ble_eq_true rfl, Nat.le_of_ble_eq_true rfl⟩ dX6_readSum_3 (fun f1 H locs hf1 hG hS => ?_)
  refine lv_if_ne (tgt := 11) X.1 X.2.1 dX6_readSum_6 (by decide) (fun c2 => ?_) (fun c2 => ?_)
  · refine lv_iconst (v := 0) X.1 X.2.1 dX6_readSum_11 (by decide +kernel) ?_
    refine lv_istore_n (lv' := [(3, .int 0), (0, .ref a0), (1, .ref a1), (2, .int x2)]) X.1 X.2.1 dX6_readSum_12 rfl hl (by decide) rfl (fun ls hl => ?_)
    refine lv_iconst (v := 0) X.1 X.2.1 dX6_readSum_13 (by decide +kernel) ?_
    refine lv_istore (lv' := [(4, .int 0), (3, .int 0), (0, .ref a0), (1, .ref a1), (2, .int x2)]) X.1 X.2.1 dX6_readSum_14 hl (by decide) rfl (fun ls hl => ?_)
    have B3_16 : ∀ (N : Nat) (H : Heap) (locs : List Loc) (ls : Array Slot) (z3_3 : Int32) (z3_4 : Int32), sgG (KT P) D vwCl (fun q : Nat => base ≤ q) tys ad ks H → va_S (fun q : Nat => base ≤ q) s.heap H locs → lv_has ls 7 [(0, .ref a0), (1, .ref a1), (2, .int x2), (3, .int z3_3), (4, .int z3_4)] → iv (-11) 0 z3_3 → iv 0 240 z3_4 → (241 - z3_4.toInt).toNat ≤ N → W p l e (headSpec (Cond.code yX6_readSum cX6_readSum 7 (some .boolean) :: sg_tbl) ({ frames := 15, cells := 0, slots := 0, locals := 371 })).room s m #[.ref a0, .ref a1, .int x2] below meth c H locs 0 0 (MQ below (va_Qi (fun r (_ : Unit) => (fun r : Int32 => iv 0 1 r) r) (fun _ => sgB (KT P) D vwCl base tys ad ks) (fun q : Nat => base ≤ q)) #[.ref a0, .ref a1, .int x2] s 0 0 (fun q : Nat => base ≤ q)) (F0 m 16 ls []) := by
      intro N; induction N with
      | zero =>
        intro H locs ls z3_3 z3_4 hG hS hl hz3_3 hz3_4 hN
        exact absurd hN (by have := iv_up hz3_4; omega)
      | succ N ih3 =>
        intro H locs ls z3_3 z3_4 hG hS hl hz3_3 hz3_4 hN3
        refine lv_iload X.1 X.2.1 dX6_readSum_16 (lv_at hl 4 rfl) ?_
        refine lv_sipush (v := 240) X.1 X.2.1 dX6_readSum_18 (by decide +kernel) ?_
        refine lv_icmp_ge (tgt := 148) X.1 X.2.1 dX6_readSum_21 (by decide) (fun c4 => ?_) (fun c4 => ?_)
        · refine lv_aload_n X.1 X.2.1 dX6_readSum_148 rfl (lv_at hl 1 rfl) ?_
          refine ca_X10_wrong X hK hG hC hS hb a1 h1 wl_3_228 hl.1 (rest := []) rfl (Nat.le_of_ble_eq_true rfl) ⟨Nat.le_of_ble_eq_true rfl, Nat.le_of_ble_eq_true rfl⟩ ⟨Nat.le_of_ble_eq_true rfl, Nat.le_of_ble_eq_true rfl⟩ dX6_readSum_149 (fun f5 H locs hf5 hG hS => ?_)
          exact sg_zret X hr (sg_zn hf5) hlk hb hK hC hG hS hf5 dX6_readSum_152
        · refine lv_aload_n X.1 X.2.1 dX6_readSum_24 rfl (lv_at hl 1 rfl) ?_
          refine ca_X10_sign X hK hG hC (fun _ h => h) hS hb a1 h1 wl_3_219 hl.1 (rest := []) rfl (Nat.le_of_ble_eq_true rfl) ⟨Nat.le_of_ble_eq_true rfl, Nat.le_of_ble_eq_true rfl⟩ ⟨Nat.le_of_ble_eq_true rfl, Nat.le_of_ble_eq_true rfl⟩ dX6_readSum_25 (fun f6 locs hf6 hS => ?_)
          refine lv_istore (lv' := [(5, .int f6), (0, .ref a0), (1, .ref a1), (2, .int x2), (3, .int z3_3), (4, .int z3_4)]) X.1 X.2.1 dX6_readSum_28 hl (by decide) rfl (fun ls hl => ?_)
          refine lv_iload X.1 X.2.1 dX6_readSum_30 (lv_at hl 0 rfl) ?_
          refine lv_bipush (v := 42) X.1 X.2.1 dX6_readSum_32 (by decide +kernel) ?_
          have B8_49 : ∀ (locs : List Loc) (ls : Array Slot) (w8_0 : Int32), va_S (fun q : Nat => base ≤ q) s.heap H locs → lv_has ls 7 [(0, .ref a0), (1, .ref a1), (2, .int x2), (3, .int z3_3), (4, .int z3_4), (5, .int f6)] → iv 0 1 w8_0 → W p l e (headSpec (Cond.code yX6_readSum cX6_readSum 7 (some .boolean) :: sg_tbl) ({ frames := 15, cells := 0, slots := 0, locals := 371 })).room s m #[.ref a0, .ref a1, .int x2] below meth c H locs 0 0 (MQ below (va_Qi (fun r (_ : Unit) => (fun r : Int32 => iv 0 1 r) r) (fun _ => sgB (KT P) D vwCl base tys ad ks) (fun q : Nat => base ≤ q)) #[.ref a0, .ref a1, .int x2] s 0 0 (fun q : Nat => base ≤ q)) (F0 m 49 ls [.int w8_0]) := by
            intro locs ls w8_0 hS hl hw8_0
            refine lv_istore (lv' := [(6, .int w8_0), (0, .ref a0), (1, .ref a1), (2, .int x2), (3, .int z3_3), (4, .int z3_4), (5, .int f6)]) X.1 X.2.1 dX6_readSum_49 hl (by decide) rfl (fun ls hl => ?_)
            refine lv_iload X.1 X.2.1 dX6_readSum_51 (lv_at hl 0 rfl) ?_
            have B10_65 : ∀ (H : Heap) (locs : List Loc) (ls : Array Slot), sgG (KT P) D vwCl (fun q : Nat => base ≤ q) tys ad ks H → va_S (fun q : Nat => base ≤ q) s.heap H locs → lv_has ls 7 [(0, .ref a0), (1, .ref a1), (2, .int x2), (3, .int z3_3), (4, .int z3_4), (5, .int f6), (6, .int w8_0)] → W p l e (headSpec (Cond.code yX6_readSum cX6_readSum 7 (some .boolean) :: sg_tbl) ({ frames := 15, cells := 0, slots := 0, locals := 371 })).room s m #[.ref a0, .ref a1, .int x2] below meth c H locs 0 0 (MQ below (va_Qi (fun r (_ : Unit) => (fun r : Int32 => iv 0 1 r) r) (fun _ => sgB (KT P) D vwCl base tys ad ks) (fun q : Nat => base ≤ q)) #[.ref a0, .ref a1, .int x2] s 0 0 (fun q : Nat => base ≤ q)) (F0 m 65 ls []) := by
              intro H locs ls hG hS hl
              refine lv_iload X.1 X.2.1 dX6_readSum_65 (lv_at hl 6 rfl) ?_
              have B12_86 : ∀ (locs : List Loc) (ls : Array Slot), va_S (fun q : Nat => base ≤ q) s.heap H locs → lv_has ls 7 [(0, .ref a0), (1, .ref a1), (2, .int x2), (3, .int z3_3), (4, .int z3_4), (5, .int f6), (6, .int w8_0)] → W p l e (headSpec (Cond.code yX6_readSum cX6_readSum 7 (some .boolean) :: sg_tbl) ({ frames := 15, cells := 0, slots := 0, locals := 371 })).room s m #[.ref a0, .ref a1, .int x2] below meth c H locs 0 0 (MQ below (va_Qi (fun r (_ : Unit) => (fun r : Int32 => iv 0 1 r) r) (fun _ => sgB (KT P) D vwCl base tys ad ks) (fun q : Nat => base ≤ q)) #[.ref a0, .ref a1, .int x2] s 0 0 (fun q : Nat => base ≤ q)) (F0 m 86 ls []) := by
                intro locs ls hS hl
                refine lv_aload_n X.1 X.2.1 dX6_readSum_86 rfl (lv_at hl 1 rfl) ?_
                refine ca_X10_step X hK hG hC hS hb a1 h1 wl_3_229 hl.1 (rest := []) rfl (Nat.le_of_ble_eq_true rfl) ⟨Nat.le_of_ble_eq_true rfl, Nat.le_of_ble_eq_true rfl⟩ ⟨Nat.le_of_ble_eq_true rfl, Nat.le_of_ble_eq_true rfl⟩ dX6_readSum_87 (fun H locs hG hS => ?_)
                refine lv_aload_n X.1 X.2.1 dX6_readSum_90 rfl (lv_at hl 0 rfl) ?_
                refine lv_aload_n X.1 X.2.1 dX6_readSum_91 rfl (lv_at hl 1 rfl) ?_
                refine lv_iload_n X.1 X.2.1 dX6_readSum_92 rfl (lv_at hl 2 rfl) ?_
                refine ca_X6_readAtom_1 X hK hG hC hS hb a0 h0 a1 h1 x2 h2 wl_3_224 hl.1 (rest := []) rfl (Nat.le_of_ble_eq_true rfl) ⟨Nat.le_of_ble_eq_true rfl, Nat.le_of_ble_eq_true rfl⟩ ⟨Nat.le_of_ble_eq_true rfl, Nat.le_of_ble_eq_true rfl⟩ dX6_readSum_93 (fun f14 H locs hf14 hG hS => ?_)
                refine lv_if_ne (tgt := 101) X.1 X.2.1 dX6_readSum_96 (by decide) (fun c15 => ?_) (fun c15 => ?_)
                · refine lv_iload X.1 X.2.1 dX6_readSum_101 (lv_at hl 6 rfl) ?_
                  have B17_142 : ∀ (H : Heap) (locs : List Loc) (ls : Array Slot) (z17_3 : Int32), sgG (KT P) D vwCl (fun q : Nat => base ≤ q) tys ad ks H → va_S (fun q : Nat => base ≤ q) s.heap H locs → lv_has ls 7 [(0, .ref a0), (1, .ref a1), (2, .int x2), (3, .int z17_3), (4, .int z3_4)] → iv (-11) 0 z17_3 → W p l e (headSpec (Cond.code yX6_readSum cX6_readSum 7 (some .boolean) :: sg_tbl) ({ frames := 15, cells := 0, slots := 0, locals := 371 })).room s m #[.ref a0, .ref a1, .int x2] below meth c H locs 0 0 (MQ below (va_Qi (fun r (_ : Unit) => (fun r : Int32 => iv 0 1 r) r) (fun _ => sgB (KT P) D vwCl base tys ad ks) (fun q : Nat => base ≤ q)) #[.ref a0, .ref a1, .int x2] s 0 0 (fun q : Nat => base ≤ q)) (F0 m 142 ls []) := by
                    intro H locs ls z17_3 hG hS hl hz17_3
                    obtain ⟨y18, ey18⟩ : ∃ y : Int32, y = z3_4 + Int32.ofInt 1 := ⟨_, rfl⟩
                    refine lv_iinc (v := y18) (lv' := [(4, .int y18), (0, .ref a0), (1, .ref a1), (2, .int x2), (3, .int z17_3)]) X.1 X.2.1 dX6_readSum_142 hl (k := 4) rfl ey18.symm (by decide) rfl (fun ls hl => ?_)
                    refine lv_goto (tgt := 16) X.1 X.2.1 dX6_readSum_145 (by decide) ?_
                    exact ih3 H _ _ z17_3 y18 hG hS (lv_sub hl [1, 2, 3, 4, 0] rfl) hz17_3 (iv_of (iv_add (a' := 1) (b' := 240) ey18 (iv_lt (b' := 239) (iv_gt_of c4) hz3_4 (iv_c 240 (a := 240) (b := 240) (by decide +kernel)) (by decide +kernel)) (iv_c _ (a := 1) (b := 1) (by decide +kernel)) (by decide +kernel)) (a' := 0) (b' := 240) (by decide +kernel)) (iv_stepU ey18 (iv_lt (b' := 239) (iv_gt_of c4) hz3_4 (iv_c 240 (a := 240) (b := 240) (by decide +kernel)) (by decide +kernel)) (by decide +kernel) hN3)
                  refine lv_if_eq (tgt := 127) X.1 X.2.1 dX6_readSum_103 (by decide) (fun c16 => ?_) (fun c16 => ?_)
                  · refine lv_iload X.1 X.2.1 dX6_readSum_127 (lv_at hl 5 rfl) ?_
                    refine lv_bipush (v := 43) X.1 X.2.1 dX6_readSum_129 (by decide +kernel) ?_
                    have B20_141 : ∀ (locs : List Loc) (ls : Array Slot) (w20_0 : Int32), va_S (fun q : Nat => base ≤ q) s.heap H locs → lv_has ls 7 [(0, .ref a0), (1, .ref a1), (2, .int x2), (4, .int z3_4)] → iv (-11) (-10) w20_0 → W p l e (headSpec (Cond.code yX6_readSum cX6_readSum 7 (some .boolean) :: sg_tbl) ({ frames := 15, cells := 0, slots := 0, locals := 371 })).room s m #[.ref a0, .ref a1, .int x2] below meth c H locs 0 0 (MQ below (va_Qi (fun r (_ : Unit) => (fun r : Int32 => iv 0 1 r) r) (fun _ => sgB (KT P) D vwCl base tys ad ks) (fun q : Nat => base ≤ q)) #[.ref a0, .ref a1, .int x2] s 0 0 (fun q : Nat => base ≤ q)) (F0 m 141 ls [.int w20_0]) := by
                      intro locs ls w20_0 hS hl hw20_0
                      refine lv_istore_n (lv' := [(3, .int w20_0), (0, .ref a0), (1, .ref a1), (2, .int x2), (4, .int z3_4)]) X.1 X.2.1 dX6_readSum_141 rfl hl (by decide) rfl (fun ls hl => ?_)
                      exact B17_142 H _ _ w20_0 hG hS (lv_sub hl [1, 2, 3, 0, 4] rfl) (iv_of hw20_0 (a' := (-11)) (b' := 0) (by decide +kernel))
                    refine lv_icmp_ne (tgt := 139) X.1 X.2.1 dX6_readSum_131 (by decide) (fun c19 => ?_) (fun c19 => ?_)
                    · refine lv_bipush (v := (-11)) X.1 X.2.1 dX6_readSum_139 (by decide +kernel) ?_
                      exact B20_141 _ _ (-11) hS (lv_sub hl [0, 1, 2, 4] rfl) (iv_of (iv_c (-11) (a := (-11)) (b := (-11)) (by decide +kernel)) (a' := (-11)) (b' := (-10)) (by decide +kernel))
                    · refine lv_bipush (v := (-10)) X.1 X.2.1 dX6_readSum_134 (by decide +kernel) ?_
                      refine lv_goto (tgt := 141) X.1 X.2.1 dX6_readSum_136 (by decide) ?_
                      exact B20_141 _ _ (-10) hS (lv_sub hl [0, 1, 2, 4] rfl) (iv_of (iv_c (-10) (a := (-10)) (b := (-10)) (by decide +kernel)) (a' := (-11)) (b' := (-10)) (by decide +kernel))
                  · refine lv_aload_n X.1 X.2.1 dX6_readSum_106 rfl (lv_at hl 0 rfl) ?_
                    refine lv_iload X.1 X.2.1 dX6_readSum_107 (lv_at hl 5 rfl) ?_
                    refine lv_bipush (v := 42) X.1 X.2.1 dX6_readSum_109 (by decide +kernel) ?_
                    have B22_121 : ∀ (locs : List Loc) (ls : Array Slot) (w22_0 : Int32), va_S (fun q : Nat => base ≤ q) s.heap H locs → lv_has ls 7 [(0, .ref a0), (1, .ref a1), (2, .int x2), (3, .int z3_3), (4, .int z3_4)] → iv (-13) (-12) w22_0 → W p l e (headSpec (Cond.code yX6_readSum cX6_readSum 7 (some .boolean) :: sg_tbl) ({ frames := 15, cells := 0, slots := 0, locals := 371 })).room s m #[.ref a0, .ref a1, .int x2] below meth c H locs 0 0 (MQ below (va_Qi (fun r (_ : Unit) => (fun r : Int32 => iv 0 1 r) r) (fun _ => sgB (KT P) D vwCl base tys ad ks) (fun q : Nat => base ≤ q)) #[.ref a0, .ref a1, .int x2] s 0 0 (fun q : Nat => base ≤ q)) (F0 m 121 ls [.int w22_0, .ref a0]) := by
                      intro locs ls w22_0 hS hl hw22_0
                      refine ca_X6_put X hK hG hC hS hb a0 h0 w22_0 wl_3_232 hl.1 (rest := []) rfl (Nat.le_of_ble_eq_true rfl) ⟨Nat.le_of_ble_eq_true rfl, Nat.le_of_ble_eq_true rfl⟩ ⟨Nat.le_of_ble_eq_true rfl, Nat.le_of_ble_eq_true rfl⟩ dX6_readSum_121 (fun H locs hG hS => ?_)
                      refine lv_goto (tgt := 142) X.1 X.2.1 dX6_readSum_124 (by decide) ?_
                      exact B17_142 H _ _ z3_3 hG hS (lv_sub hl [0, 1, 2, 3, 4] rfl) hz3_3
                    refine lv_icmp_ne (tgt := 119) X.1 X.2.1 dX6_readSum_111 (by decide) (fun c21 => ?_) (fun c21 => ?_)
                    · refine lv_bipush (v := (-13)) X.1 X.2.1 dX6_readSum_119 (by decide +kernel) ?_
                      exact B22_121 _ _ (-13) hS (lv_sub hl [0, 1, 2, 3, 4] rfl) (iv_of (iv_c (-13) (a := (-13)) (b := (-13)) (by decide +kernel)) (a' := (-13)) (b' := (-12)) (by decide +kernel))
                    · refine lv_bipush (v := (-12)) X.1 X.2.1 dX6_readSum_114 (by decide +kernel) ?_
                      refine lv_goto (tgt := 121) X.1 X.2.1 dX6_readSum_116 (by decide) ?_
                      exact B22_121 _ _ (-12) hS (lv_sub hl [0, 1, 2, 3, 4] rfl) (iv_of (iv_c (-12) (a := (-12)) (b := (-12)) (by decide +kernel)) (a' := (-13)) (b' := (-12)) (by decide +kernel))
                · refine lv_iconst (v := 0) X.1 X.2.1 dX6_readSum_99 (by decide +kernel) ?_
                  exact sg_zret X hr (sg_zn (iv_of (iv_c 0 (a := 0) (b := 0) (by decide +kernel)) (a' := 0) (b' := 1) (by decide +kernel))) hlk hb hK hC hG hS (iv_of (iv_c 0 (a := 0) (b := 0) (by decide +kernel)) (a' := 0) (b' := 1) (by decide +kernel)) dX6_readSum_100
              refine lv_if_ne (tgt := 86) X.1 X.2.1 dX6_readSum_67 (by decide) (fun c11 => ?_) (fun c11 => ?_)
              · exact B12_86 _ _ hS (lv_sub hl [0, 1, 2, 3, 4, 5, 6] rfl)
              · refine lv_iload X.1 X.2.1 dX6_readSum_70 (lv_at hl 5 rfl) ?_
                refine lv_bipush (v := 43) X.1 X.2.1 dX6_readSum_72 (by decide +kernel) ?_
                refine lv_icmp_eq (tgt := 86) X.1 X.2.1 dX6_readSum_74 (by decide) (fun c24 => ?_) (fun c24 => ?_)
                · exact B12_86 _ _ hS (lv_sub hl [0, 1, 2, 3, 4, 5, 6] rfl)
                · refine lv_iload X.1 X.2.1 dX6_readSum_77 (lv_at hl 5 rfl) ?_
                  refine lv_bipush (v := 45) X.1 X.2.1 dX6_readSum_79 (by decide +kernel) ?_
                  refine lv_icmp_eq (tgt := 86) X.1 X.2.1 dX6_readSum_81 (by decide) (fun c25 => ?_) (fun c25 => ?_)
                  · exact B12_86 _ _ hS (lv_sub hl [0, 1, 2, 3, 4, 5, 6] rfl)
                  · refine lv_iconst (v := 1) X.1 X.2.1 dX6_readSum_84 (by decide +kernel) ?_
                    exact sg_zret X hr (sg_zn (iv_of (iv_c 1 (a := 1) (b := 1) (by decide +kernel)) (a' := 0) (b' := 1) (by decide +kernel))) hlk hb hK hC hG hS (iv_of (iv_c 1 (a := 1) (b := 1) (by decide +kernel)) (a' := 0) (b' := 1) (by decide +kernel)) dX6_readSum_85
            refine lv_if_ne (tgt := 65) X.1 X.2.1 dX6_readSum_53 (by decide) (fun c9 => ?_) (fun c9 => ?_)
            · exact B10_65 H _ _ hG hS (lv_sub hl [1, 2, 3, 4, 5, 6, 0] rfl)
            · refine lv_iload_n X.1 X.2.1 dX6_readSum_56 rfl (lv_at hl 4 rfl) ?_
              refine lv_if_eq (tgt := 65) X.1 X.2.1 dX6_readSum_57 (by decide) (fun c26 => ?_) (fun c26 => ?_)
              · exact B10_65 H _ _ hG hS (lv_sub hl [1, 2, 3, 4, 5, 6, 0] rfl)
              · refine lv_aload_n X.1 X.2.1 dX6_readSum_60 rfl (lv_at hl 1 rfl) ?_
                refine lv_iload_n X.1 X.2.1 dX6_readSum_61 rfl (lv_at hl 4 rfl) ?_
                refine ca_X6_put X hK hG hC hS hb a0 h0 z3_3 wl_3_232 hl.1 (rest := []) rfl (Nat.le_of_ble_eq_true rfl) ⟨Nat.le_of_ble_eq_true rfl, Nat.le_of_ble_eq_true rfl⟩ ⟨Nat.le_of_ble_eq_true rfl, Nat.le_of_ble_eq_true rfl⟩ dX6_readSum_62 (fun H locs hG hS => ?_)
                exact B10_65 H _ _ hG hS (lv_sub hl [1, 2, 3, 4, 5, 6, 0] rfl)
          have B28_44 : ∀ (locs : List Loc) (ls : Array Slot), va_S (fun q : Nat => base ≤ q) s.heap H locs → lv_has ls 7 [(0, .ref a0), (1, .ref a1), (2, .int x2), (3, .int z3_3), (4, .int z3_4), (5, .int f6)] → W p l e (headSpec (Cond.code yX6_readSum cX6_readSum 7 (some .boolean) :: sg_tbl) ({ frames := 15, cells := 0, slots := 0, locals := 371 })).room s m #[.ref a0, .ref a1, .int x2] below meth c H locs 0 0 (MQ below (va_Qi (fun r (_ : Unit) => (fun r : Int32 => iv 0 1 r) r) (fun _ => sgB (KT P) D vwCl base tys ad ks) (fun q : Nat => base ≤ q)) #[.ref a0, .ref a1, .int x2] s 0 0 (fun q : Nat => base ≤ q)) (F0 m 44 ls []) := by
            intro locs ls hS hl
            refine lv_iconst (v := 1) X.1 X.2.1 dX6_readSum_44 (by decide +kernel) ?_
            refine lv_goto (tgt := 49) X.1 X.2.1 dX6_readSum_45 (by decide) ?_
            exact B8_49 _ _ 1 hS (lv_sub hl [0, 1, 2, 3, 4, 5] rfl) (iv_of (iv_c 1 (a := 1) (b := 1) (by decide +kernel)) (a' := 0) (b' := 1) (by decide +kernel))
          refine lv_icmp_eq (tgt := 44) X.1 X.2.1 dX6_readSum_34 (by decide) (fun c7 => ?_) (fun c7 => ?_)
          · exact B28_44 _ _ hS (lv_sub hl [1, 2, 3, 4, 5, 0] rfl)
          · refine lv_iload X.1 X.2.1 dX6_readSum_37 (lv_at hl 0 rfl) ?_
            refine lv_bipush (v := 47) X.1 X.2.1 dX6_readSum_39 (by decide +kernel) ?_
            refine lv_icmp_ne (tgt := 48) X.1 X.2.1 dX6_readSum_41 (by decide) (fun c29 => ?_) (fun c29 => ?_)
            · refine lv_iconst (v := 0) X.1 X.2.1 dX6_readSum_48 (by decide +kernel) ?_
              exact B8_49 _ _ 0 hS (lv_sub hl [1, 2, 3, 4, 5, 0] rfl) (iv_of (iv_c 0 (a := 0) (b := 0) (by decide +kernel)) (a' := 0) (b' := 1) (by decide +kernel))
            · exact B28_44 _ _ hS (lv_sub hl [1, 2, 3, 4, 5, 0] rfl)
    exact B3_16 _ H _ _ 0 0 hG hS (lv_sub hl [2, 3, 4, 1, 0] rfl) (iv_of (iv_c 0 (a := 0) (b := 0) (by decide +kernel)) (a' := (-11)) (b' := 0) (by decide +kernel)) (iv_of (iv_c 0 (a := 0) (b := 0) (by decide +kernel)) (a' := 0) (b' := 240) (by decide +kernel)) (Nat.le_refl _)
  · refine lv_iconst (v := 0) X.1 X.2.1 dX6_readSum_9 (by decide +kernel) ?_
    exact sg_zret X hr (sg_zn (iv_of (iv_c 0 (a := 0) (b := 0) (by decide +kernel)) (a' := 0) (b' := 1) (by decide +kernel))) hlk hb hK hC hG hS (iv_of (iv_c 0 (a := 0) (b := 0) (by decide +kernel)) (a' := 0) (b' := 1) (by decide +kernel)) dX6_readSum_10

theorem ca_X6_readSum_1   (X : CallFix p m c cc nL s args sg_tbl own) (hK : va_K D vwCl tys s) (hG : sgG (KT P) D vwCl (fun q : Nat => base ≤ q) tys ad ks H) (hC : sgC base s) (hS : va_S (fun q : Nat => base ≤ q) s.heap H locs) (hb : base ≤ s.heap.size) (a0 : Nat) (h0 : isK ad ks 6 a0) (a1 : Nat) (h1 : isK ad ks 10 a1) (x2 : Int32) (h2 : iv 1 1 x2) (hl : Cond.methodLink own index yX6_readSum ∈ sg_tbl) (hsize : ls.size = nL) (hst : st0 = [.ref a1, .int x2].reverse ++ .ref a0 :: rest) (hW : (rest.map fun v => v.category).sum ≤ 8) (hR : 16 ≤ R.frames ∧ 397 ≤ R.locals) (hf : cells ≤ R.cells ∧ slots ≤ R.slots) (hdg : decode cc pc = .ok (.invokevirtual index, 3)) (kk : ∀ (r : Int32) (H1 : Heap) (locs1 : List Loc), (fun r : Int32 => iv 0 1 r) r → sgG (KT P) D vwCl (fun q : Nat => base ≤ q) tys ad ks H1 → va_S (fun q : Nat => base ≤ q) s.heap H1 locs1 → W p l e R s m args below meth c H1 locs1 cells slots Q (F0 m (pc + 3) ls (.int r :: rest))) : W p l e R s m args below meth c H locs cells slots Q (F0 m pc ls st0) :=
  sg_callVi X hK hG hC hS hb (m_X6_readSum_1 l a0 h0 a1 h1 x2 h2) h0 (k := 6) (ci := 6) rfl (C := RX6) (T := TX6) (N := 7) rfl wl_3_223 wl_1_3 wl_3_222 wl_0_11 (n := 2) (by decide +kernel) rfl rfl rfl hl hsize hst hW hR hf hdg kk

set_option maxHeartbeats 8000000 in
set_option maxRecDepth 100000 in
theorem m_X6_readComparison_1 (l : Launch) {D : va_G} {base : Nat} {tys : List (ClassId × FieldType)} {ad ks : List Nat} {P : sgPm} (a0 : Nat) (h0 : isK ad ks 6 a0) (a1 : Nat) (h1 : isK ad ks 10 a1) (x2 : Int32) (h2 : iv 1 1 x2) : sgMi l (KT P) D vwCl base tys ad ks yX6_readComparison cX6_readComparison 4 (some .boolean) ({ frames := 16, cells := 0, slots := 0, locals := 397 }) [.ref a0, .ref a1, .int x2] (fun r : Int32 => iv 0 1 r) := by
  refine sg_ofW (by decide +kernel) (Nat.le_of_ble_eq_true rfl) (fun p e s m below meth c X hr hlk hb hK hC hG ls hl => ?_)
  have hS : va_S (fun q : Nat => base ≤ q) s.heap s.heap [] := va_S.rf
  have hl : lv_has ls 4 [(0, .ref a0), (1, .ref a1), (2, .int x2)] := hl
  refine lv_aload_n X.1 X.2.1 dX6_readComparison_0 rfl (lv_at hl 1 rfl) ?_
  refine ca_X10_sign X hK hG hC (fun _ h => h) hS hb a1 h1 wl_3_219 hl.1 (rest := []) rfl (Nat.le_of_ble_eq_true rfl) ⟨Nat.le_of_ble_eq_true rfl, Nat.le_of_ble_eq_true rfl⟩ ⟨Nat.le_of_ble_eq_true rfl, Nat.le_of_ble_eq_true rfl⟩ dX6_readComparison_1 (fun f1 locs hf1 hS => ?_)
  refine ca_X6_comparison X hK hG hC (fun _ h => h) hS hb f1 wl_3_238 hl.1 (rest := []) rfl (Nat.le_of_ble_eq_true rfl) ⟨Nat.le_of_ble_eq_true rfl, Nat.le_of_ble_eq_true rfl⟩ ⟨Nat.le_of_ble_eq_true rfl, Nat.le_of_ble_eq_true rfl⟩ dX6_readComparison_4 (fun f2 locs hf2 hS => ?_)
  refine lv_istore_n (lv' := [(3, .int f2), (0, .ref a0), (1, .ref a1), (2, .int x2)]) X.1 X.2.1 dX6_readComparison_7 rfl hl (by decide) rfl (fun ls hl => ?_)
  refine lv_iload_n X.1 X.2.1 dX6_readComparison_8 rfl (lv_at hl 0 rfl) ?_
  refine lv_if_ne (tgt := 17) X.1 X.2.1 dX6_readComparison_9 (by decide) (fun c3 => ?_) (fun c3 => ?_)
  · refine lv_aload_n X.1 X.2.1 dX6_readComparison_17 rfl (lv_at hl 2 rfl) ?_
    refine ca_X10_step X hK hG hC hS hb a1 h1 wl_3_229 hl.1 (rest := []) rfl (Nat.le_of_ble_eq_true rfl) ⟨Nat.le_of_ble_eq_true rfl, Nat.le_of_ble_eq_true rfl⟩ ⟨Nat.le_of_ble_eq_true rfl, Nat.le_of_ble_eq_true rfl⟩ dX6_readComparison_18 (fun H locs hG hS => ?_)
    refine lv_aload_n X.1 X.2.1 dX6_readComparison_21 rfl (lv_at hl 1 rfl) ?_
    refine lv_aload_n X.1 X.2.1 dX6_readComparison_22 rfl (lv_at hl 2 rfl) ?_
    refine lv_iload_n X.1 X.2.1 dX6_readComparison_23 rfl (lv_at hl 3 rfl) ?_
    refine ca_X6_readSum_1 X hK hG hC hS hb a0 h0 a1 h1 x2 h2 wl_3_220 hl.1 (rest := []) rfl (Nat.le_of_ble_eq_true rfl) ⟨Nat.le_of_ble_eq_true rfl, Nat.le_of_ble_eq_true rfl⟩ ⟨Nat.le_of_ble_eq_true rfl, Nat.le_of_ble_eq_true rfl⟩ dX6_readComparison_24 (fun f5 H locs hf5 hG hS => ?_)
    refine lv_if_ne (tgt := 32) X.1 X.2.1 dX6_readComparison_27 (by decide) (fun c6 => ?_) (fun c6 => ?_)
    · refine lv_aload_n X.1 X.2.1 dX6_readComparison_32 rfl (lv_at hl 1 rfl) ?_
      refine lv_iload_n X.1 X.2.1 dX6_readComparison_33 rfl (lv_at hl 0 rfl) ?_
      refine ca_X6_put X hK hG hC hS hb a0 h0 f2 wl_3_232 hl.1 (rest := []) rfl (Nat.le_of_ble_eq_true rfl) ⟨Nat.le_of_ble_eq_true rfl, Nat.le_of_ble_eq_true rfl⟩ ⟨Nat.le_of_ble_eq_true rfl, Nat.le_of_ble_eq_true rfl⟩ dX6_readComparison_34 (fun H locs hG hS => ?_)
      refine lv_iconst (v := 1) X.1 X.2.1 dX6_readComparison_37 (by decide +kernel) ?_
      exact sg_zret X hr (sg_zn (iv_of (iv_c 1 (a := 1) (b := 1) (by decide +kernel)) (a' := 0) (b' := 1) (by decide +kernel))) hlk hb hK hC hG hS (iv_of (iv_c 1 (a := 1) (b := 1) (by decide +kernel)) (a' := 0) (b' := 1) (by decide +kernel)) dX6_readComparison_38
    · refine lv_iconst (v := 0) X.1 X.2.1 dX6_readComparison_30 (by decide +kernel) ?_
      exact sg_zret X hr (sg_zn (iv_of (iv_c 0 (a := 0) (b := 0) (by decide +kernel)) (a' := 0) (b' := 1) (by decide +kernel))) hlk hb hK hC hG hS (iv_of (iv_c 0 (a := 0) (b := 0) (by decide +kernel)) (a' := 0) (b' := 1) (by decide +kernel)) dX6_readComparison_31
  · refine lv_aload_n X.1 X.2.1 dX6_readComparison_12 rfl (lv_at hl 2 rfl) ?_
    refine ca_X10_wrong X hK hG hC hS hb a1 h1 wl_3_228 hl.1 (rest := []) rfl (Nat.le_of_ble_eq_true rfl) ⟨Nat.le_of_ble_eq_true rfl, Nat.le_of_ble_eq_true rfl⟩ ⟨Nat.le_of_ble_eq_true rfl, Nat.le_of_ble_eq_true rfl⟩ dX6_readComparison_13 (fun f8 H locs hf8 hG hS => ?_)
    exact sg_zret X hr (sg_zn hf8) hlk hb hK hC hG hS hf8 dX6_readComparison_16

theorem ca_X6_readComparison_1   (X : CallFix p m c cc nL s args sg_tbl own) (hK : va_K D vwCl tys s) (hG : sgG (KT P) D vwCl (fun q : Nat => base ≤ q) tys ad ks H) (hC : sgC base s) (hS : va_S (fun q : Nat => base ≤ q) s.heap H locs) (hb : base ≤ s.heap.size) (a0 : Nat) (h0 : isK ad ks 6 a0) (a1 : Nat) (h1 : isK ad ks 10 a1) (x2 : Int32) (h2 : iv 1 1 x2) (hl : Cond.methodLink own index yX6_readComparison ∈ sg_tbl) (hsize : ls.size = nL) (hst : st0 = [.ref a1, .int x2].reverse ++ .ref a0 :: rest) (hW : (rest.map fun v => v.category).sum ≤ 8) (hR : 17 ≤ R.frames ∧ 420 ≤ R.locals) (hf : cells ≤ R.cells ∧ slots ≤ R.slots) (hdg : decode cc pc = .ok (.invokevirtual index, 3)) (kk : ∀ (r : Int32) (H1 : Heap) (locs1 : List Loc), (fun r : Int32 => iv 0 1 r) r → sgG (KT P) D vwCl (fun q : Nat => base ≤ q) tys ad ks H1 → va_S (fun q : Nat => base ≤ q) s.heap H1 locs1 → W p l e R s m args below meth c H1 locs1 cells slots Q (F0 m (pc + 3) ls (.int r :: rest))) : W p l e R s m args below meth c H locs cells slots Q (F0 m pc ls st0) :=
  sg_callVi X hK hG hC hS hb (m_X6_readComparison_1 l a0 h0 a1 h1 x2 h2) h0 (k := 6) (ci := 6) rfl (C := RX6) (T := TX6) (N := 7) rfl wl_4_4 wl_1_3 wl_4_3 wl_0_14 (n := 2) (by decide +kernel) rfl rfl rfl hl hsize hst hW hR hf hdg kk

set_option maxHeartbeats 8000000 in
set_option maxRecDepth 100000 in
theorem m_X6_readUnit_1 (l : Launch) {D : va_G} {base : Nat} {tys : List (ClassId × FieldType)} {ad ks : List Nat} {P : sgPm} (a0 : Nat) (h0 : isK ad ks 6 a0) (a1 : Nat) (h1 : isK ad ks 10 a1) (x2 : Int32) (h2 : iv 1 1 x2) : sgMi l (KT P) D vwCl base tys ad ks yX6_readUnit cX6_readUnit 4 (some .boolean) ({ frames := 17, cells := 0, slots := 0, locals := 420 }) [.ref a0, .ref a1, .int x2] (fun r : Int32 => iv 0 1 r) := by
  refine sg_ofW (by decide +kernel) (Nat.le_of_ble_eq_true rfl) (fun p e s m below meth c X hr hlk hb hK hC hG ls hl => ?_)
  have hS : va_S (fun q : Nat => base ≤ q) s.heap s.heap [] := va_S.rf
  have hl : lv_has ls 4 [(0, .ref a0), (1, .ref a1), (2, .int x2)] := hl
  refine lv_aload_n X.1 X.2.1 dX6_readUnit_0 rfl (lv_at hl 1 rfl) ?_
  refine ca_X10_sign X hK hG hC (fun _ h => h) hS hb a1 h1 wl_3_219 hl.1 (rest := []) rfl (Nat.le_of_ble_eq_true rfl) ⟨Nat.le_of_ble_eq_true rfl, Nat.le_of_ble_eq_true rfl⟩ ⟨Nat.le_of_ble_eq_true rfl, Nat.le_of_ble_eq_true rfl⟩ dX6_readUnit_1 (fun f1 locs hf1 hS => ?_)
  refine lv_istore_n (lv' := [(3, .int f1), (0, .ref a0), (1, .ref a1), (2, .int x2)]) X.1 X.2.1 dX6_readUnit_4 rfl hl (by decide) rfl (fun ls hl => ?_)
  refine lv_iload_n X.1 X.2.1 dX6_readUnit_5 rfl (lv_at hl 0 rfl) ?_
  refine lv_bipush (v := 33) X.1 X.2.1 dX6_readUnit_6 (by decide +kernel) ?_
  have B3_41 : ∀ (locs : List Loc) (ls : Array Slot), va_S (fun q : Nat => base ≤ q) s.heap s.heap locs → lv_has ls 4 [(0, .ref a0), (1, .ref a1), (2, .int x2), (3, .int f1)] → W p l e (headSpec (Cond.code yX6_readUnit cX6_readUnit 4 (some .boolean) :: sg_tbl) ({ frames := 17, cells := 0, slots := 0, locals := 420 })).room s m #[.ref a0, .ref a1, .int x2] below meth c s.heap locs 0 0 (MQ below (va_Qi (fun r (_ : Unit) => (fun r : Int32 => iv 0 1 r) r) (fun _ => sgB (KT P) D vwCl base tys ad ks) (fun q : Nat => base ≤ q)) #[.ref a0, .ref a1, .int x2] s 0 0 (fun q : Nat => base ≤ q)) (F0 m 41 ls []) := by
    intro locs ls hS hl
    refine lv_iload_n X.1 X.2.1 dX6_readUnit_41 rfl (lv_at hl 2 rfl) ?_
    refine lv_bipush (v := 6) X.1 X.2.1 dX6_readUnit_42 (by decide +kernel) ?_
    refine lv_icmp_lt (tgt := 52) X.1 X.2.1 dX6_readUnit_44 (by decide) (fun c4 => ?_) (fun c4 => ?_)
    · refine lv_aload_n X.1 X.2.1 dX6_readUnit_52 rfl (lv_at hl 1 rfl) ?_
      refine ca_X10_step X hK hG hC hS hb a1 h1 wl_3_229 hl.1 (rest := []) rfl (Nat.le_of_ble_eq_true rfl) ⟨Nat.le_of_ble_eq_true rfl, Nat.le_of_ble_eq_true rfl⟩ ⟨Nat.le_of_ble_eq_true rfl, Nat.le_of_ble_eq_true rfl⟩ dX6_readUnit_53 (fun H locs hG hS => ?_)
      refine lv_iload_n X.1 X.2.1 dX6_readUnit_56 rfl (lv_at hl 3 rfl) ?_
      refine lv_bipush (v := 40) X.1 X.2.1 dX6_readUnit_57 (by decide +kernel) ?_
      refine lv_icmp_ne (tgt := 89) X.1 X.2.1 dX6_readUnit_59 (by decide) (fun c6 => ?_) (fun c6 => ?_)
      · refine lv_aload_n X.1 X.2.1 dX6_readUnit_89 rfl (lv_at hl 0 rfl) ?_
        refine lv_aload_n X.1 X.2.1 dX6_readUnit_90 rfl (lv_at hl 1 rfl) ?_
        refine lv_iload_n X.1 X.2.1 dX6_readUnit_91 rfl (lv_at hl 2 rfl) ?_
        refine lv_iconst (v := 1) X.1 X.2.1 dX6_readUnit_92 (by decide +kernel) ?_
        refine lv_iadd X.1 X.2.1 dX6_readUnit_93 ?_
        refine lv_topi (fun f7 ef7 => ?_)
        refine ca_X6_readUnit_2 X hK hG hC hS hb a0 h0 a1 h1 f7 (iv_add (a' := 2) (b' := 2) ef7 h2 (iv_c 1 (a := 1) (b := 1) (by decide +kernel)) (by decide +kernel)) wl_4_9 hl.1 (rest := []) rfl (Nat.le_of_ble_eq_true rfl) ⟨Nat.le_of_ble_eq_true rfl, Nat.le_of_ble_eq_true rfl⟩ ⟨Nat.le_of_ble_eq_true rfl, Nat.le_of_ble_eq_true rfl⟩ dX6_readUnit_94 (fun f8 H locs hf8 hG hS => ?_)
        refine lv_if_ne (tgt := 102) X.1 X.2.1 dX6_readUnit_97 (by decide) (fun c9 => ?_) (fun c9 => ?_)
        · refine lv_aload_n X.1 X.2.1 dX6_readUnit_102 rfl (lv_at hl 0 rfl) ?_
          refine lv_bipush (v := (-19)) X.1 X.2.1 dX6_readUnit_103 (by decide +kernel) ?_
          refine ca_X6_put X hK hG hC hS hb a0 h0 (-19) wl_3_232 hl.1 (rest := []) rfl (Nat.le_of_ble_eq_true rfl) ⟨Nat.le_of_ble_eq_true rfl, Nat.le_of_ble_eq_true rfl⟩ ⟨Nat.le_of_ble_eq_true rfl, Nat.le_of_ble_eq_true rfl⟩ dX6_readUnit_105 (fun H locs hG hS => ?_)
          refine lv_iconst (v := 1) X.1 X.2.1 dX6_readUnit_108 (by decide +kernel) ?_
          exact sg_zret X hr (sg_zn (iv_of (iv_c 1 (a := 1) (b := 1) (by decide +kernel)) (a' := 0) (b' := 1) (by decide +kernel))) hlk hb hK hC hG hS (iv_of (iv_c 1 (a := 1) (b := 1) (by decide +kernel)) (a' := 0) (b' := 1) (by decide +kernel)) dX6_readUnit_109
        · refine lv_iconst (v := 0) X.1 X.2.1 dX6_readUnit_100 (by decide +kernel) ?_
          exact sg_zret X hr (sg_zn (iv_of (iv_c 0 (a := 0) (b := 0) (by decide +kernel)) (a' := 0) (b' := 1) (by decide +kernel))) hlk hb hK hC hG hS (iv_of (iv_c 0 (a := 0) (b := 0) (by decide +kernel)) (a' := 0) (b' := 1) (by decide +kernel)) dX6_readUnit_101
      · refine lv_aload_n X.1 X.2.1 dX6_readUnit_62 rfl (lv_at hl 0 rfl) ?_
        refine lv_aload_n X.1 X.2.1 dX6_readUnit_63 rfl (lv_at hl 1 rfl) ?_
        refine lv_iload_n X.1 X.2.1 dX6_readUnit_64 rfl (lv_at hl 2 rfl) ?_
        refine lv_iconst (v := 1) X.1 X.2.1 dX6_readUnit_65 (by decide +kernel) ?_
        refine lv_iadd X.1 X.2.1 dX6_readUnit_66 ?_
        refine lv_topi (fun f11 ef11 => ?_)
        refine lv_iconst (v := 0) X.1 X.2.1 dX6_readUnit_67 (by decide +kernel) ?_
        refine ca_X6_readCondition_2 X hK hG hC hS hb a0 h0 a1 h1 f11 (iv_add (a' := 2) (b' := 2) ef11 h2 (iv_c 1 (a := 1) (b := 1) (by decide +kernel)) (by decide +kernel)) 0 (iv_of (iv_c 0 (a := 0) (b := 0) (by decide +kernel)) (a' := 0) (b' := 1) (by decide +kernel)) wl_4_5 hl.1 (rest := []) rfl (Nat.le_of_ble_eq_true rfl) ⟨Nat.le_of_ble_eq_true rfl, Nat.le_of_ble_eq_true rfl⟩ ⟨Nat.le_of_ble_eq_true rfl, Nat.le_of_ble_eq_true rfl⟩ dX6_readUnit_68 (fun f12 H locs hf12 hG hS => ?_)
        have B14_87 : ∀ (H : Heap) (locs : List Loc) (ls : Array Slot), sgG (KT P) D vwCl (fun q : Nat => base ≤ q) tys ad ks H → va_S (fun q : Nat => base ≤ q) s.heap H locs → lv_has ls 4 [] → W p l e (headSpec (Cond.code yX6_readUnit cX6_readUnit 4 (some .boolean) :: sg_tbl) ({ frames := 17, cells := 0, slots := 0, locals := 420 })).room s m #[.ref a0, .ref a1, .int x2] below meth c H locs 0 0 (MQ below (va_Qi (fun r (_ : Unit) => (fun r : Int32 => iv 0 1 r) r) (fun _ => sgB (KT P) D vwCl base tys ad ks) (fun q : Nat => base ≤ q)) #[.ref a0, .ref a1, .int x2] s 0 0 (fun q : Nat => base ≤ q)) (F0 m 87 ls []) := by
          intro H locs ls hG hS hl
          refine lv_iconst (v := 0) X.1 X.2.1 dX6_readUnit_87 (by decide +kernel) ?_
          exact sg_zret X hr (sg_zn (iv_of (iv_c 0 (a := 0) (b := 0) (by decide +kernel)) (a' := 0) (b' := 1) (by decide +kernel))) hlk hb hK hC hG hS (iv_of (iv_c 0 (a := 0) (b := 0) (by decide +kernel)) (a' := 0) (b' := 1) (by decide +kernel)) dX6_readUnit_88
        refine lv_if_eq (tgt := 87) X.1 X.2.1 dX6_readUnit_71 (by decide) (fun c13 => ?_) (fun c13 => ?_)
        · exact B14_87 H _ _ hG hS (lv_sub hl [] rfl)
        · refine lv_aload_n X.1 X.2.1 dX6_readUnit_74 rfl (lv_at hl 1 rfl) ?_
          refine lv_bipush (v := 41) X.1 X.2.1 dX6_readUnit_75 (by decide +kernel) ?_
          refine ca_X10_demand X hK hG hC hS hb a1 h1 41 wl_3_214 hl.1 (rest := []) rfl (Nat.le_of_ble_eq_true rfl) ⟨Nat.le_of_ble_eq_true rfl, Nat.le_of_ble_eq_true rfl⟩ ⟨Nat.le_of_ble_eq_true rfl, Nat.le_of_ble_eq_true rfl⟩ dX6_readUnit_77 (fun f15 H locs hf15 hG hS => ?_)
          refine lv_if_eq (tgt := 87) X.1 X.2.1 dX6_readUnit_80 (by decide) (fun c16 => ?_) (fun c16 => ?_)
          · exact B14_87 H _ _ hG hS (lv_sub hl [] rfl)
          · refine lv_iconst (v := 1) X.1 X.2.1 dX6_readUnit_83 (by decide +kernel) ?_
            refine lv_goto (tgt := 88) X.1 X.2.1 dX6_readUnit_84 (by decide) ?_
            exact sg_zret X hr (sg_zn (iv_of (iv_c 1 (a := 1) (b := 1) (by decide +kernel)) (a' := 0) (b' := 1) (by decide +kernel))) hlk hb hK hC hG hS (iv_of (iv_c 1 (a := 1) (b := 1) (by decide +kernel)) (a' := 0) (b' := 1) (by decide +kernel)) dX6_readUnit_88
    · exact ((iv_no (iv_le (b' := 1) (iv_ge_of c4) (iv_c 6 (a := 6) (b := 6) (by decide +kernel)) h2 (by decide +kernel)) (by decide +kernel))).elim
  refine lv_icmp_eq (tgt := 41) X.1 X.2.1 dX6_readUnit_8 (by decide) (fun c2 => ?_) (fun c2 => ?_)
  · exact B3_41 _ _ hS (lv_sub hl [1, 2, 3, 0] rfl)
  · refine lv_iload_n X.1 X.2.1 dX6_readUnit_11 rfl (lv_at hl 0 rfl) ?_
    refine lv_bipush (v := 40) X.1 X.2.1 dX6_readUnit_12 (by decide +kernel) ?_
    refine lv_icmp_eq (tgt := 41) X.1 X.2.1 dX6_readUnit_14 (by decide) (fun c17 => ?_) (fun c17 => ?_)
    · exact B3_41 _ _ hS (lv_sub hl [1, 2, 3, 0] rfl)
    · refine lv_aload_n X.1 X.2.1 dX6_readUnit_17 rfl (lv_at hl 1 rfl) ?_
      refine lv_aload_n X.1 X.2.1 dX6_readUnit_18 rfl (lv_at hl 2 rfl) ?_
      refine lv_iload_n X.1 X.2.1 dX6_readUnit_19 rfl (lv_at hl 3 rfl) ?_
      refine ca_X6_readSum_1 X hK hG hC hS hb a0 h0 a1 h1 x2 h2 wl_3_220 hl.1 (rest := []) rfl (Nat.le_of_ble_eq_true rfl) ⟨Nat.le_of_ble_eq_true rfl, Nat.le_of_ble_eq_true rfl⟩ ⟨Nat.le_of_ble_eq_true rfl, Nat.le_of_ble_eq_true rfl⟩ dX6_readUnit_20 (fun f18 H locs hf18 hG hS => ?_)
      have B20_39 : ∀ (H : Heap) (locs : List Loc) (ls : Array Slot), sgG (KT P) D vwCl (fun q : Nat => base ≤ q) tys ad ks H → va_S (fun q : Nat => base ≤ q) s.heap H locs → lv_has ls 4 [] → W p l e (headSpec (Cond.code yX6_readUnit cX6_readUnit 4 (some .boolean) :: sg_tbl) ({ frames := 17, cells := 0, slots := 0, locals := 420 })).room s m #[.ref a0, .ref a1, .int x2] below meth c H locs 0 0 (MQ below (va_Qi (fun r (_ : Unit) => (fun r : Int32 => iv 0 1 r) r) (fun _ => sgB (KT P) D vwCl base tys ad ks) (fun q : Nat => base ≤ q)) #[.ref a0, .ref a1, .int x2] s 0 0 (fun q : Nat => base ≤ q)) (F0 m 39 ls []) := by
        intro H locs ls hG hS hl
        refine lv_iconst (v := 0) X.1 X.2.1 dX6_readUnit_39 (by decide +kernel) ?_
        exact sg_zret X hr (sg_zn (iv_of (iv_c 0 (a := 0) (b := 0) (by decide +kernel)) (a' := 0) (b' := 1) (by decide +kernel))) hlk hb hK hC hG hS (iv_of (iv_c 0 (a := 0) (b := 0) (by decide +kernel)) (a' := 0) (b' := 1) (by decide +kernel)) dX6_readUnit_40
      refine lv_if_eq (tgt := 39) X.1 X.2.1 dX6_readUnit_23 (by decide) (fun c19 => ?_) (fun c19 => ?_)
      · exact B20_39 H _ _ hG hS (lv_sub hl [] rfl)
      · refine lv_aload_n X.1 X.2.1 dX6_readUnit_26 rfl (lv_at hl 1 rfl) ?_
        refine lv_aload_n X.1 X.2.1 dX6_readUnit_27 rfl (lv_at hl 2 rfl) ?_
        refine lv_iload_n X.1 X.2.1 dX6_readUnit_28 rfl (lv_at hl 3 rfl) ?_
        refine ca_X6_readComparison_1 X hK hG hC hS hb a0 h0 a1 h1 x2 h2 wl_4_1 hl.1 (rest := []) rfl (Nat.le_of_ble_eq_true rfl) ⟨Nat.le_of_ble_eq_true rfl, Nat.le_of_ble_eq_true rfl⟩ ⟨Nat.le_of_ble_eq_true rfl, Nat.le_of_ble_eq_true rfl⟩ dX6_readUnit_29 (fun f21 H locs hf21 hG hS => ?_)
        refine lv_if_eq (tgt := 39) X.1 X.2.1 dX6_readUnit_32 (by decide) (fun c22 => ?_) (fun c22 => ?_)
        · exact B20_39 H _ _ hG hS (lv_sub hl [] rfl)
        · refine lv_iconst (v := 1) X.1 X.2.1 dX6_readUnit_35 (by decide +kernel) ?_
          refine lv_goto (tgt := 40) X.1 X.2.1 dX6_readUnit_36 (by decide) ?_
          exact sg_zret X hr (sg_zn (iv_of (iv_c 1 (a := 1) (b := 1) (by decide +kernel)) (a' := 0) (b' := 1) (by decide +kernel))) hlk hb hK hC hG hS (iv_of (iv_c 1 (a := 1) (b := 1) (by decide +kernel)) (a' := 0) (b' := 1) (by decide +kernel)) dX6_readUnit_40

theorem ca_X6_readUnit_1   (X : CallFix p m c cc nL s args sg_tbl own) (hK : va_K D vwCl tys s) (hG : sgG (KT P) D vwCl (fun q : Nat => base ≤ q) tys ad ks H) (hC : sgC base s) (hS : va_S (fun q : Nat => base ≤ q) s.heap H locs) (hb : base ≤ s.heap.size) (a0 : Nat) (h0 : isK ad ks 6 a0) (a1 : Nat) (h1 : isK ad ks 10 a1) (x2 : Int32) (h2 : iv 1 1 x2) (hl : Cond.methodLink own index yX6_readUnit ∈ sg_tbl) (hsize : ls.size = nL) (hst : st0 = [.ref a1, .int x2].reverse ++ .ref a0 :: rest) (hW : (rest.map fun v => v.category).sum ≤ 8) (hR : 18 ≤ R.frames ∧ 443 ≤ R.locals) (hf : cells ≤ R.cells ∧ slots ≤ R.slots) (hdg : decode cc pc = .ok (.invokevirtual index, 3)) (kk : ∀ (r : Int32) (H1 : Heap) (locs1 : List Loc), (fun r : Int32 => iv 0 1 r) r → sgG (KT P) D vwCl (fun q : Nat => base ≤ q) tys ad ks H1 → va_S (fun q : Nat => base ≤ q) s.heap H1 locs1 → W p l e R s m args below meth c H1 locs1 cells slots Q (F0 m (pc + 3) ls (.int r :: rest))) : W p l e R s m args below meth c H locs cells slots Q (F0 m pc ls st0) :=
  sg_callVi X hK hG hC hS hb (m_X6_readUnit_1 l a0 h0 a1 h1 x2 h2) h0 (k := 6) (ci := 6) rfl (C := RX6) (T := TX6) (N := 7) rfl wl_4_12 wl_1_3 wl_4_11 wl_0_16 (n := 2) (by decide +kernel) rfl rfl rfl hl hsize hst hW hR hf hdg kk

set_option maxHeartbeats 8000000 in
set_option maxRecDepth 100000 in
theorem m_X6_readCondition_1 (l : Launch) {D : va_G} {base : Nat} {tys : List (ClassId × FieldType)} {ad ks : List Nat} {P : sgPm} (a0 : Nat) (h0 : isK ad ks 6 a0) (a1 : Nat) (h1 : isK ad ks 10 a1) (x2 : Int32) (h2 : iv 1 1 x2) (x3 : Int32) (h3 : iv 0 1 x3) : sgMi l (KT P) D vwCl base tys ad ks yX6_readCondition cX6_readCondition 7 (some .boolean) ({ frames := 18, cells := 0, slots := 0, locals := 443 }) [.ref a0, .ref a1, .int x2, .int x3] (fun r : Int32 => iv 0 1 r) := by
  refine sg_ofW (by decide +kernel) (Nat.le_of_ble_eq_true rfl) (fun p e s m below meth c X hr hlk hb hK hC hG ls hl => ?_)
  have hS : va_S (fun q : Nat => base ≤ q) s.heap s.heap [] := va_S.rf
  have hl : lv_has ls 7 [(0, .ref a0), (1, .ref a1), (2, .int x2), (3, .int x3)] := hl
  refine lv_iload_n X.1 X.2.1 dX6_readCondition_0 rfl (lv_at hl 3 rfl) ?_
  have B2_15 : ∀ (H : Heap) (locs : List Loc) (ls : Array Slot), sgG (KT P) D vwCl (fun q : Nat => base ≤ q) tys ad ks H → va_S (fun q : Nat => base ≤ q) s.heap H locs → lv_has ls 7 [(0, .ref a0), (1, .ref a1), (2, .int x2)] → W p l e (headSpec (Cond.code yX6_readCondition cX6_readCondition 7 (some .boolean) :: sg_tbl) ({ frames := 18, cells := 0, slots := 0, locals := 443 })).room s m #[.ref a0, .ref a1, .int x2, .int x3] below meth c H locs 0 0 (MQ below (va_Qi (fun r (_ : Unit) => (fun r : Int32 => iv 0 1 r) r) (fun _ => sgB (KT P) D vwCl base tys ad ks) (fun q : Nat => base ≤ q)) #[.ref a0, .ref a1, .int x2, .int x3] s 0 0 (fun q : Nat => base ≤ q)) (F0 m 15 ls []) := by
    intro H locs ls hG hS hl
    refine lv_iconst (v := 0) X.1 X.2.1 dX6_readCondition_15 (by decide +kernel) ?_
    refine lv_istore (lv' := [(4, .int 0), (0, .ref a0), (1, .ref a1), (2, .int x2)]) X.1 X.2.1 dX6_readCondition_16 hl (by decide) rfl (fun ls hl => ?_)
    refine lv_iconst (v := 0) X.1 X.2.1 dX6_readCondition_18 (by decide +kernel) ?_
    refine lv_istore (lv' := [(5, .int 0), (4, .int 0), (0, .ref a0), (1, .ref a1), (2, .int x2)]) X.1 X.2.1 dX6_readCondition_19 hl (by decide) rfl (fun ls hl => ?_)
    have B3_21 : ∀ (N : Nat) (H : Heap) (locs : List Loc) (ls : Array Slot) (z3_4 : Int32) (z3_5 : Int32), sgG (KT P) D vwCl (fun q : Nat => base ≤ q) tys ad ks H → va_S (fun q : Nat => base ≤ q) s.heap H locs → lv_has ls 7 [(0, .ref a0), (1, .ref a1), (2, .int x2), (4, .int z3_4), (5, .int z3_5)] → iv 0 1 z3_4 → iv 0 240 z3_5 → (241 - z3_5.toInt).toNat ≤ N → W p l e (headSpec (Cond.code yX6_readCondition cX6_readCondition 7 (some .boolean) :: sg_tbl) ({ frames := 18, cells := 0, slots := 0, locals := 443 })).room s m #[.ref a0, .ref a1, .int x2, .int x3] below meth c H locs 0 0 (MQ below (va_Qi (fun r (_ : Unit) => (fun r : Int32 => iv 0 1 r) r) (fun _ => sgB (KT P) D vwCl base tys ad ks) (fun q : Nat => base ≤ q)) #[.ref a0, .ref a1, .int x2, .int x3] s 0 0 (fun q : Nat => base ≤ q)) (F0 m 21 ls []) := by
      intro N; induction N with
      | zero =>
        intro H locs ls z3_4 z3_5 hG hS hl hz3_4 hz3_5 hN
        exact absurd hN (by have := iv_up hz3_5; omega)
      | succ N ih3 =>
        intro H locs ls z3_4 z3_5 hG hS hl hz3_4 hz3_5 hN3
        refine lv_iload X.1 X.2.1 dX6_readCondition_21 (lv_at hl 4 rfl) ?_
        refine lv_sipush (v := 240) X.1 X.2.1 dX6_readCondition_23 (by decide +kernel) ?_
        refine lv_icmp_ge (tgt := 109) X.1 X.2.1 dX6_readCondition_26 (by decide) (fun c4 => ?_) (fun c4 => ?_)
        · refine lv_aload_n X.1 X.2.1 dX6_readCondition_109 rfl (lv_at hl 1 rfl) ?_
          refine ca_X10_wrong X hK hG hC hS hb a1 h1 wl_3_228 hl.1 (rest := []) rfl (Nat.le_of_ble_eq_true rfl) ⟨Nat.le_of_ble_eq_true rfl, Nat.le_of_ble_eq_true rfl⟩ ⟨Nat.le_of_ble_eq_true rfl, Nat.le_of_ble_eq_true rfl⟩ dX6_readCondition_110 (fun f5 H locs hf5 hG hS => ?_)
          exact sg_zret X hr (sg_zn hf5) hlk hb hK hC hG hS hf5 dX6_readCondition_113
        · refine lv_aload_n X.1 X.2.1 dX6_readCondition_29 rfl (lv_at hl 1 rfl) ?_
          refine ca_X10_sign X hK hG hC (fun _ h => h) hS hb a1 h1 wl_3_219 hl.1 (rest := []) rfl (Nat.le_of_ble_eq_true rfl) ⟨Nat.le_of_ble_eq_true rfl, Nat.le_of_ble_eq_true rfl⟩ ⟨Nat.le_of_ble_eq_true rfl, Nat.le_of_ble_eq_true rfl⟩ dX6_readCondition_30 (fun f6 locs hf6 hS => ?_)
          refine lv_istore (lv' := [(6, .int f6), (0, .ref a0), (1, .ref a1), (2, .int x2), (4, .int z3_4), (5, .int z3_5)]) X.1 X.2.1 dX6_readCondition_33 hl (by decide) rfl (fun ls hl => ?_)
          refine lv_iload X.1 X.2.1 dX6_readCondition_35 (lv_at hl 0 rfl) ?_
          refine lv_bipush (v := 38) X.1 X.2.1 dX6_readCondition_37 (by decide +kernel) ?_
          have B8_53 : ∀ (H : Heap) (locs : List Loc) (ls : Array Slot), sgG (KT P) D vwCl (fun q : Nat => base ≤ q) tys ad ks H → va_S (fun q : Nat => base ≤ q) s.heap H locs → lv_has ls 7 [(0, .ref a0), (1, .ref a1), (2, .int x2), (4, .int z3_4), (5, .int z3_5), (6, .int f6)] → W p l e (headSpec (Cond.code yX6_readCondition cX6_readCondition 7 (some .boolean) :: sg_tbl) ({ frames := 18, cells := 0, slots := 0, locals := 443 })).room s m #[.ref a0, .ref a1, .int x2, .int x3] below meth c H locs 0 0 (MQ below (va_Qi (fun r (_ : Unit) => (fun r : Int32 => iv 0 1 r) r) (fun _ => sgB (KT P) D vwCl base tys ad ks) (fun q : Nat => base ≤ q)) #[.ref a0, .ref a1, .int x2, .int x3] s 0 0 (fun q : Nat => base ≤ q)) (F0 m 53 ls []) := by
            intro H locs ls hG hS hl
            refine lv_iload X.1 X.2.1 dX6_readCondition_53 (lv_at hl 5 rfl) ?_
            refine lv_bipush (v := 38) X.1 X.2.1 dX6_readCondition_55 (by decide +kernel) ?_
            have B10_69 : ∀ (locs : List Loc) (ls : Array Slot), va_S (fun q : Nat => base ≤ q) s.heap H locs → lv_has ls 7 [(0, .ref a0), (1, .ref a1), (2, .int x2), (4, .int z3_4), (5, .int z3_5), (6, .int f6)] → W p l e (headSpec (Cond.code yX6_readCondition cX6_readCondition 7 (some .boolean) :: sg_tbl) ({ frames := 18, cells := 0, slots := 0, locals := 443 })).room s m #[.ref a0, .ref a1, .int x2, .int x3] below meth c H locs 0 0 (MQ below (va_Qi (fun r (_ : Unit) => (fun r : Int32 => iv 0 1 r) r) (fun _ => sgB (KT P) D vwCl base tys ad ks) (fun q : Nat => base ≤ q)) #[.ref a0, .ref a1, .int x2, .int x3] s 0 0 (fun q : Nat => base ≤ q)) (F0 m 69 ls []) := by
              intro locs ls hS hl
              refine lv_aload_n X.1 X.2.1 dX6_readCondition_69 rfl (lv_at hl 1 rfl) ?_
              refine ca_X10_step X hK hG hC hS hb a1 h1 wl_3_229 hl.1 (rest := []) rfl (Nat.le_of_ble_eq_true rfl) ⟨Nat.le_of_ble_eq_true rfl, Nat.le_of_ble_eq_true rfl⟩ ⟨Nat.le_of_ble_eq_true rfl, Nat.le_of_ble_eq_true rfl⟩ dX6_readCondition_70 (fun H locs hG hS => ?_)
              refine lv_aload_n X.1 X.2.1 dX6_readCondition_73 rfl (lv_at hl 0 rfl) ?_
              refine lv_aload_n X.1 X.2.1 dX6_readCondition_74 rfl (lv_at hl 1 rfl) ?_
              refine lv_iload_n X.1 X.2.1 dX6_readCondition_75 rfl (lv_at hl 2 rfl) ?_
              refine ca_X6_readUnit_1 X hK hG hC hS hb a0 h0 a1 h1 x2 h2 wl_4_9 hl.1 (rest := []) rfl (Nat.le_of_ble_eq_true rfl) ⟨Nat.le_of_ble_eq_true rfl, Nat.le_of_ble_eq_true rfl⟩ ⟨Nat.le_of_ble_eq_true rfl, Nat.le_of_ble_eq_true rfl⟩ dX6_readCondition_76 (fun f12 H locs hf12 hG hS => ?_)
              refine lv_if_ne (tgt := 84) X.1 X.2.1 dX6_readCondition_79 (by decide) (fun c13 => ?_) (fun c13 => ?_)
              · refine lv_iload X.1 X.2.1 dX6_readCondition_84 (lv_at hl 5 rfl) ?_
                refine lv_bipush (v := 38) X.1 X.2.1 dX6_readCondition_86 (by decide +kernel) ?_
                have B15_103 : ∀ (H : Heap) (locs : List Loc) (ls : Array Slot) (z15_4 : Int32), sgG (KT P) D vwCl (fun q : Nat => base ≤ q) tys ad ks H → va_S (fun q : Nat => base ≤ q) s.heap H locs → lv_has ls 7 [(0, .ref a0), (1, .ref a1), (2, .int x2), (4, .int z15_4), (5, .int z3_5)] → iv 0 1 z15_4 → W p l e (headSpec (Cond.code yX6_readCondition cX6_readCondition 7 (some .boolean) :: sg_tbl) ({ frames := 18, cells := 0, slots := 0, locals := 443 })).room s m #[.ref a0, .ref a1, .int x2, .int x3] below meth c H locs 0 0 (MQ below (va_Qi (fun r (_ : Unit) => (fun r : Int32 => iv 0 1 r) r) (fun _ => sgB (KT P) D vwCl base tys ad ks) (fun q : Nat => base ≤ q)) #[.ref a0, .ref a1, .int x2, .int x3] s 0 0 (fun q : Nat => base ≤ q)) (F0 m 103 ls []) := by
                  intro H locs ls z15_4 hG hS hl hz15_4
                  obtain ⟨y16, ey16⟩ : ∃ y : Int32, y = z3_5 + Int32.ofInt 1 := ⟨_, rfl⟩
                  refine lv_iinc (v := y16) (lv' := [(5, .int y16), (0, .ref a0), (1, .ref a1), (2, .int x2), (4, .int z15_4)]) X.1 X.2.1 dX6_readCondition_103 hl (k := 4) rfl ey16.symm (by decide) rfl (fun ls hl => ?_)
                  refine lv_goto (tgt := 21) X.1 X.2.1 dX6_readCondition_106 (by decide) ?_
                  exact ih3 H _ _ z15_4 y16 hG hS (lv_sub hl [1, 2, 3, 4, 0] rfl) hz15_4 (iv_of (iv_add (a' := 1) (b' := 240) ey16 (iv_lt (b' := 239) (iv_gt_of c4) hz3_5 (iv_c 240 (a := 240) (b := 240) (by decide +kernel)) (by decide +kernel)) (iv_c _ (a := 1) (b := 1) (by decide +kernel)) (by decide +kernel)) (a' := 0) (b' := 240) (by decide +kernel)) (iv_stepU ey16 (iv_lt (b' := 239) (iv_gt_of c4) hz3_5 (iv_c 240 (a := 240) (b := 240) (by decide +kernel)) (by decide +kernel)) (by decide +kernel) hN3)
                refine lv_icmp_ne (tgt := 100) X.1 X.2.1 dX6_readCondition_88 (by decide) (fun c14 => ?_) (fun c14 => ?_)
                · refine lv_iconst (v := 1) X.1 X.2.1 dX6_readCondition_100 (by decide +kernel) ?_
                  refine lv_istore (lv' := [(4, .int 1), (0, .ref a0), (1, .ref a1), (2, .int x2), (5, .int z3_5), (6, .int f6)]) X.1 X.2.1 dX6_readCondition_101 hl (by decide) rfl (fun ls hl => ?_)
                  exact B15_103 H _ _ 1 hG hS (lv_sub hl [1, 2, 3, 0, 4] rfl) (iv_of (iv_c 1 (a := 1) (b := 1) (by decide +kernel)) (a' := 0) (b' := 1) (by decide +kernel))
                · refine lv_aload_n X.1 X.2.1 dX6_readCondition_91 rfl (lv_at hl 0 rfl) ?_
                  refine lv_bipush (v := (-17)) X.1 X.2.1 dX6_readCondition_92 (by decide +kernel) ?_
                  refine ca_X6_put X hK hG hC hS hb a0 h0 (-17) wl_3_232 hl.1 (rest := []) rfl (Nat.le_of_ble_eq_true rfl) ⟨Nat.le_of_ble_eq_true rfl, Nat.le_of_ble_eq_true rfl⟩ ⟨Nat.le_of_ble_eq_true rfl, Nat.le_of_ble_eq_true rfl⟩ dX6_readCondition_94 (fun H locs hG hS => ?_)
                  refine lv_goto (tgt := 103) X.1 X.2.1 dX6_readCondition_97 (by decide) ?_
                  exact B15_103 H _ _ z3_4 hG hS (lv_sub hl [0, 1, 2, 3, 4] rfl) hz3_4
              · refine lv_iconst (v := 0) X.1 X.2.1 dX6_readCondition_82 (by decide +kernel) ?_
                exact sg_zret X hr (sg_zn (iv_of (iv_c 0 (a := 0) (b := 0) (by decide +kernel)) (a' := 0) (b' := 1) (by decide +kernel))) hlk hb hK hC hG hS (iv_of (iv_c 0 (a := 0) (b := 0) (by decide +kernel)) (a' := 0) (b' := 1) (by decide +kernel)) dX6_readCondition_83
            refine lv_icmp_eq (tgt := 69) X.1 X.2.1 dX6_readCondition_57 (by decide) (fun c9 => ?_) (fun c9 => ?_)
            · exact B10_69 _ _ hS (lv_sub hl [0, 1, 2, 3, 4, 5] rfl)
            · refine lv_iload X.1 X.2.1 dX6_readCondition_60 (lv_at hl 5 rfl) ?_
              refine lv_bipush (v := 124) X.1 X.2.1 dX6_readCondition_62 (by decide +kernel) ?_
              refine lv_icmp_eq (tgt := 69) X.1 X.2.1 dX6_readCondition_64 (by decide) (fun c18 => ?_) (fun c18 => ?_)
              · exact B10_69 _ _ hS (lv_sub hl [0, 1, 2, 3, 4, 5] rfl)
              · refine lv_iconst (v := 1) X.1 X.2.1 dX6_readCondition_67 (by decide +kernel) ?_
                exact sg_zret X hr (sg_zn (iv_of (iv_c 1 (a := 1) (b := 1) (by decide +kernel)) (a' := 0) (b' := 1) (by decide +kernel))) hlk hb hK hC hG hS (iv_of (iv_c 1 (a := 1) (b := 1) (by decide +kernel)) (a' := 0) (b' := 1) (by decide +kernel)) dX6_readCondition_68
          refine lv_icmp_eq (tgt := 53) X.1 X.2.1 dX6_readCondition_39 (by decide) (fun c7 => ?_) (fun c7 => ?_)
          · exact B8_53 H _ _ hG hS (lv_sub hl [1, 2, 3, 4, 5, 0] rfl)
          · refine lv_iload X.1 X.2.1 dX6_readCondition_42 (lv_at hl 4 rfl) ?_
            refine lv_if_eq (tgt := 53) X.1 X.2.1 dX6_readCondition_44 (by decide) (fun c19 => ?_) (fun c19 => ?_)
            · exact B8_53 H _ _ hG hS (lv_sub hl [1, 2, 3, 4, 5, 0] rfl)
            · refine lv_aload_n X.1 X.2.1 dX6_readCondition_47 rfl (lv_at hl 1 rfl) ?_
              refine lv_bipush (v := (-18)) X.1 X.2.1 dX6_readCondition_48 (by decide +kernel) ?_
              refine ca_X6_put X hK hG hC hS hb a0 h0 (-18) wl_3_232 hl.1 (rest := []) rfl (Nat.le_of_ble_eq_true rfl) ⟨Nat.le_of_ble_eq_true rfl, Nat.le_of_ble_eq_true rfl⟩ ⟨Nat.le_of_ble_eq_true rfl, Nat.le_of_ble_eq_true rfl⟩ dX6_readCondition_50 (fun H locs hG hS => ?_)
              exact B8_53 H _ _ hG hS (lv_sub hl [1, 2, 3, 4, 5, 0] rfl)
    exact B3_21 _ H _ _ 0 0 hG hS (lv_sub hl [2, 3, 4, 1, 0] rfl) (iv_of (iv_c 0 (a := 0) (b := 0) (by decide +kernel)) (a' := 0) (b' := 1) (by decide +kernel)) (iv_of (iv_c 0 (a := 0) (b := 0) (by decide +kernel)) (a' := 0) (b' := 240) (by decide +kernel)) (Nat.le_refl _)
  refine lv_if_ne (tgt := 15) X.1 X.2.1 dX6_readCondition_1 (by decide) (fun c1 => ?_) (fun c1 => ?_)
  · exact B2_15 s.heap _ _ hG hS (lv_sub hl [0, 1, 2] rfl)
  · refine lv_aload_n X.1 X.2.1 dX6_readCondition_4 rfl (lv_at hl 0 rfl) ?_
    refine lv_aload_n X.1 X.2.1 dX6_readCondition_5 rfl (lv_at hl 1 rfl) ?_
    refine lv_iload_n X.1 X.2.1 dX6_readCondition_6 rfl (lv_at hl 2 rfl) ?_
    refine ca_X6_readUnit_1 X hK hG hC hS hb a0 h0 a1 h1 x2 h2 wl_4_9 hl.1 (rest := []) rfl (Nat.le_of_ble_eq_true rfl) ⟨Nat.le_of_ble_eq_true rfl, Nat.le_of_ble_eq_true rfl⟩ ⟨Nat.le_of_ble_eq_true rfl, Nat.le_of_ble_eq_true rfl⟩ dX6_readCondition_7 (fun f21 H locs hf21 hG hS => ?_)
    refine lv_if_ne (tgt := 15) X.1 X.2.1 dX6_readCondition_10 (by decide) (fun c22 => ?_) (fun c22 => ?_)
    · exact B2_15 H _ _ hG hS (lv_sub hl [0, 1, 2] rfl)
    · refine lv_iconst (v := 0) X.1 X.2.1 dX6_readCondition_13 (by decide +kernel) ?_
      exact sg_zret X hr (sg_zn (iv_of (iv_c 0 (a := 0) (b := 0) (by decide +kernel)) (a' := 0) (b' := 1) (by decide +kernel))) hlk hb hK hC hG hS (iv_of (iv_c 0 (a := 0) (b := 0) (by decide +kernel)) (a' := 0) (b' := 1) (by decide +kernel)) dX6_readCondition_14

theorem ca_X6_readCondition_1   (X : CallFix p m c cc nL s args sg_tbl own) (hK : va_K D vwCl tys s) (hG : sgG (KT P) D vwCl (fun q : Nat => base ≤ q) tys ad ks H) (hC : sgC base s) (hS : va_S (fun q : Nat => base ≤ q) s.heap H locs) (hb : base ≤ s.heap.size) (a0 : Nat) (h0 : isK ad ks 6 a0) (a1 : Nat) (h1 : isK ad ks 10 a1) (x2 : Int32) (h2 : iv 1 1 x2) (x3 : Int32) (h3 : iv 0 1 x3) (hl : Cond.methodLink own index yX6_readCondition ∈ sg_tbl) (hsize : ls.size = nL) (hst : st0 = [.ref a1, .int x2, .int x3].reverse ++ .ref a0 :: rest) (hW : (rest.map fun v => v.category).sum ≤ 8) (hR : 19 ≤ R.frames ∧ 469 ≤ R.locals) (hf : cells ≤ R.cells ∧ slots ≤ R.slots) (hdg : decode cc pc = .ok (.invokevirtual index, 3)) (kk : ∀ (r : Int32) (H1 : Heap) (locs1 : List Loc), (fun r : Int32 => iv 0 1 r) r → sgG (KT P) D vwCl (fun q : Nat => base ≤ q) tys ad ks H1 → va_S (fun q : Nat => base ≤ q) s.heap H1 locs1 → W p l e R s m args below meth c H1 locs1 cells slots Q (F0 m (pc + 3) ls (.int r :: rest))) : W p l e R s m args below meth c H locs cells slots Q (F0 m pc ls st0) :=
  sg_callVi X hK hG hC hS hb (m_X6_readCondition_1 l a0 h0 a1 h1 x2 h2 x3 h3) h0 (k := 6) (ci := 6) rfl (C := RX6) (T := TX6) (N := 7) rfl wl_4_8 wl_1_3 wl_4_7 wl_0_15 (n := 3) (by decide +kernel) rfl rfl rfl hl hsize hst hW hR hf hdg kk

set_option maxHeartbeats 8000000 in
set_option maxRecDepth 100000 in
theorem m_X6_readAtom_0 (l : Launch) {D : va_G} {base : Nat} {tys : List (ClassId × FieldType)} {ad ks : List Nat} {P : sgPm} (a0 : Nat) (h0 : isK ad ks 6 a0) (a1 : Nat) (h1 : isK ad ks 10 a1) (x2 : Int32) (h2 : iv 0 0 x2) : sgMi l (KT P) D vwCl base tys ad ks yX6_readAtom cX6_readAtom 6 (some .boolean) ({ frames := 16, cells := 0, slots := 0, locals := 397 }) [.ref a0, .ref a1, .int x2] (fun r : Int32 => iv 0 1 r) := by
  refine sg_ofW (by decide +kernel) (Nat.le_of_ble_eq_true rfl) (fun p e s m below meth c X hr hlk hb hK hC hG ls hl => ?_)
  have hS : va_S (fun q : Nat => base ≤ q) s.heap s.heap [] := va_S.rf
  have hl : lv_has ls 6 [(0, .ref a0), (1, .ref a1), (2, .int x2)] := hl
  refine lv_aload_n X.1 X.2.1 dX6_readAtom_0 rfl (lv_at hl 1 rfl) ?_
  refine ca_X10_sign X hK hG hC (fun _ h => h) hS hb a1 h1 wl_3_219 hl.1 (rest := []) rfl (Nat.le_of_ble_eq_true rfl) ⟨Nat.le_of_ble_eq_true rfl, Nat.le_of_ble_eq_true rfl⟩ ⟨Nat.le_of_ble_eq_true rfl, Nat.le_of_ble_eq_true rfl⟩ dX6_readAtom_1 (fun f1 locs hf1 hS => ?_)
  refine lv_istore_n (lv' := [(3, .int f1), (0, .ref a0), (1, .ref a1), (2, .int x2)]) X.1 X.2.1 dX6_readAtom_4 rfl hl (by decide) rfl (fun ls hl => ?_)
  refine lv_iload_n X.1 X.2.1 dX6_readAtom_5 rfl (lv_at hl 0 rfl) ?_
  refine lv_bipush (v := 91) X.1 X.2.1 dX6_readAtom_6 (by decide +kernel) ?_
  refine lv_icmp_ne (tgt := 59) X.1 X.2.1 dX6_readAtom_8 (by decide) (fun c2 => ?_) (fun c2 => ?_)
  · obtain ⟨t3, vt3, pt3, rt3⟩ := hC.1.2.1
    refine va_ldcS X.1 X.2.1 X.2.2.2.1 rt3 dX6_readAtom_59 ?_
    refine lv_iload_n X.1 X.2.1 dX6_readAtom_61 rfl (lv_at hl 0 rfl) ?_
    obtain ⟨f4, ef4⟩ : ∃ y : Int32, y = ((f1 : Int32).toUInt32 % 65536).toInt32 := ⟨_, rfl⟩
    refine lv_i2c (v := f4) X.1 X.2.1 dX6_readAtom_62 ef4.symm ?_
    refine ca_J0_indexOf_0f7a4_6 X hK hG hC (fun _ h => h) hS hb pt3 f4 wl_3_231 hl.1 (rest := []) rfl (Nat.le_of_ble_eq_true rfl) ⟨Nat.le_of_ble_eq_true rfl, Nat.le_of_ble_eq_true rfl⟩ ⟨Nat.le_of_ble_eq_true rfl, Nat.le_of_ble_eq_true rfl⟩ dX6_readAtom_63 (fun f5 locs hf5 hS => ?_)
    refine lv_istore (lv' := [(4, .int f5), (3, .int f1), (0, .ref a0), (1, .ref a1), (2, .int x2)]) X.1 X.2.1 dX6_readAtom_66 hl (by decide) rfl (fun ls hl => ?_)
    refine lv_iload X.1 X.2.1 dX6_readAtom_68 (lv_at hl 0 rfl) ?_
    refine lv_if_lt (tgt := 107) X.1 X.2.1 dX6_readAtom_70 (by decide) (fun c6 => ?_) (fun c6 => ?_)
    · refine lv_aload_n X.1 X.2.1 dX6_readAtom_107 rfl (lv_at hl 3 rfl) ?_
      refine lv_iconst (v := 4) X.1 X.2.1 dX6_readAtom_108 (by decide +kernel) ?_
      refine lv_iconst (v := 0) X.1 X.2.1 dX6_readAtom_109 (by decide +kernel) ?_
      refine lv_sipush (v := 9999) X.1 X.2.1 dX6_readAtom_110 (by decide +kernel) ?_
      refine ca_X10_number X hK hG hC hS hb a1 h1 4 0 9999 wl_3_236 hl.1 (rest := []) rfl (Nat.le_of_ble_eq_true rfl) ⟨Nat.le_of_ble_eq_true rfl, Nat.le_of_ble_eq_true rfl⟩ ⟨Nat.le_of_ble_eq_true rfl, Nat.le_of_ble_eq_true rfl⟩ dX6_readAtom_113 (fun f7 H locs hf7 hG hS => ?_)
      refine lv_istore (lv' := [(5, .int f7), (4, .int f5), (3, .int f1), (0, .ref a0), (1, .ref a1), (2, .int x2)]) X.1 X.2.1 dX6_readAtom_116 hl (by decide) rfl (fun ls hl => ?_)
      refine lv_aload_n X.1 X.2.1 dX6_readAtom_118 rfl (lv_at hl 3 rfl) ?_
      refine lv_iload X.1 X.2.1 dX6_readAtom_119 (lv_at hl 0 rfl) ?_
      refine lv_iconst (v := 0) X.1 X.2.1 dX6_readAtom_121 (by decide +kernel) ?_
      refine va_mmax X.1 X.2.1 (X.2.2.1.trans hl.1.symm) X.2.2.2.1 (X.2.2.2.2 _ wl_3_237) (X.2.2.2.2 _ wl_3_100) (X.2.2.2.2 _ wl_1_15) (X.2.2.2.2 _ wl_3_101) (Nat.le_of_ble_eq_true rfl) (Nat.le_of_ble_eq_true rfl) (Nat.le_of_ble_eq_true rfl) (Nat.le_of_ble_eq_true rfl) dX6_readAtom_122 ?_
      refine lv_topi (fun f8 ef8 => ?_)
      refine ca_X6_put X hK hG hC hS hb a0 h0 f8 wl_3_232 hl.1 (rest := []) rfl (Nat.le_of_ble_eq_true rfl) ⟨Nat.le_of_ble_eq_true rfl, Nat.le_of_ble_eq_true rfl⟩ ⟨Nat.le_of_ble_eq_true rfl, Nat.le_of_ble_eq_true rfl⟩ dX6_readAtom_125 (fun H locs hG hS => ?_)
      refine lv_iload X.1 X.2.1 dX6_readAtom_128 (lv_at hl 0 rfl) ?_
      refine lv_iconst (v := (-1)) X.1 X.2.1 dX6_readAtom_130 (by decide +kernel) ?_
      refine lv_icmp_eq (tgt := 138) X.1 X.2.1 dX6_readAtom_131 (by decide) (fun c10 => ?_) (fun c10 => ?_)
      · refine lv_iconst (v := 0) X.1 X.2.1 dX6_readAtom_138 (by decide +kernel) ?_
        exact sg_zret X hr (sg_zn (iv_of (iv_c 0 (a := 0) (b := 0) (by decide +kernel)) (a' := 0) (b' := 1) (by decide +kernel))) hlk hb hK hC hG hS (iv_of (iv_c 0 (a := 0) (b := 0) (by decide +kernel)) (a' := 0) (b' := 1) (by decide +kernel)) dX6_readAtom_139
      · refine lv_iconst (v := 1) X.1 X.2.1 dX6_readAtom_134 (by decide +kernel) ?_
        refine lv_goto (tgt := 139) X.1 X.2.1 dX6_readAtom_135 (by decide) ?_
        exact sg_zret X hr (sg_zn (iv_of (iv_c 1 (a := 1) (b := 1) (by decide +kernel)) (a' := 0) (b' := 1) (by decide +kernel))) hlk hb hK hC hG hS (iv_of (iv_c 1 (a := 1) (b := 1) (by decide +kernel)) (a' := 0) (b' := 1) (by decide +kernel)) dX6_readAtom_139
    · refine lv_aload_n X.1 X.2.1 dX6_readAtom_73 rfl (lv_at hl 2 rfl) ?_
      refine lv_dup X.1 X.2.1 dX6_readAtom_74 rfl ?_
      refine gf_X6_6 X hK hG h0 wl_1_72 dX6_readAtom_75 (fun f11 hf11 kf11 => ?_)
      refine lv_iload X.1 X.2.1 dX6_readAtom_78 (lv_at hl 0 rfl) ?_
      refine lv_iconst (v := 4) X.1 X.2.1 dX6_readAtom_80 (by decide +kernel) ?_
      have B13_89 : ∀ (locs : List Loc) (ls : Array Slot) (w13_0 : Int32), va_S (fun q : Nat => base ≤ q) s.heap s.heap locs → lv_has ls 6 [(0, .ref a0), (1, .ref a1), (4, .int f5)] → iv 0 1 w13_0 → W p l e (headSpec (Cond.code yX6_readAtom cX6_readAtom 6 (some .boolean) :: sg_tbl) ({ frames := 16, cells := 0, slots := 0, locals := 397 })).room s m #[.ref a0, .ref a1, .int x2] below meth c s.heap locs 0 0 (MQ below (va_Qi (fun r (_ : Unit) => (fun r : Int32 => iv 0 1 r) r) (fun _ => sgB (KT P) D vwCl base tys ad ks) (fun q : Nat => base ≤ q)) #[.ref a0, .ref a1, .int x2] s 0 0 (fun q : Nat => base ≤ q)) (F0 m 89 ls [.int w13_0, .int f11, .ref a0]) := by
        intro locs ls w13_0 hS hl hw13_0
        refine lv_ior X.1 X.2.1 dX6_readAtom_89 ?_
        refine lv_topi (fun f14 ef14 => ?_)
        refine pf_X6_6 X hK hG hS h0 wl_1_72 ⟨_, rfl, (iv_of (iv_or 1 ef14 hf11 hw13_0 (by decide +kernel)) (a' := 0) (b' := 1) (by decide +kernel))⟩ dX6_readAtom_90 (fun H locs hG hS ku15 ru15 => ?_)
        refine lv_aload_n X.1 X.2.1 dX6_readAtom_93 rfl (lv_at hl 0 rfl) ?_
        refine lv_iconst (v := (-1)) X.1 X.2.1 dX6_readAtom_94 (by decide +kernel) ?_
        refine lv_iload X.1 X.2.1 dX6_readAtom_95 (lv_at hl 2 rfl) ?_
        refine lv_isub X.1 X.2.1 dX6_readAtom_97 ?_
        refine lv_topi (fun f16 ef16 => ?_)
        refine ca_X6_put X hK hG hC hS hb a0 h0 f16 wl_3_232 hl.1 (rest := []) rfl (Nat.le_of_ble_eq_true rfl) ⟨Nat.le_of_ble_eq_true rfl, Nat.le_of_ble_eq_true rfl⟩ ⟨Nat.le_of_ble_eq_true rfl, Nat.le_of_ble_eq_true rfl⟩ dX6_readAtom_98 (fun H locs hG hS => ?_)
        refine lv_aload_n X.1 X.2.1 dX6_readAtom_101 rfl (lv_at hl 1 rfl) ?_
        refine ca_X10_step X hK hG hC hS hb a1 h1 wl_3_229 hl.1 (rest := []) rfl (Nat.le_of_ble_eq_true rfl) ⟨Nat.le_of_ble_eq_true rfl, Nat.le_of_ble_eq_true rfl⟩ ⟨Nat.le_of_ble_eq_true rfl, Nat.le_of_ble_eq_true rfl⟩ dX6_readAtom_102 (fun H locs hG hS => ?_)
        refine lv_iconst (v := 1) X.1 X.2.1 dX6_readAtom_105 (by decide +kernel) ?_
        exact sg_zret X hr (sg_zn (iv_of (iv_c 1 (a := 1) (b := 1) (by decide +kernel)) (a' := 0) (b' := 1) (by decide +kernel))) hlk hb hK hC hG hS (iv_of (iv_c 1 (a := 1) (b := 1) (by decide +kernel)) (a' := 0) (b' := 1) (by decide +kernel)) dX6_readAtom_106
      refine lv_icmp_ne (tgt := 88) X.1 X.2.1 dX6_readAtom_81 (by decide) (fun c12 => ?_) (fun c12 => ?_)
      · refine lv_iconst (v := 0) X.1 X.2.1 dX6_readAtom_88 (by decide +kernel) ?_
        exact B13_89 _ _ 0 hS (lv_sub hl [2, 3, 0] rfl) (iv_of (iv_c 0 (a := 0) (b := 0) (by decide +kernel)) (a' := 0) (b' := 1) (by decide +kernel))
      · refine lv_iconst (v := 1) X.1 X.2.1 dX6_readAtom_84 (by decide +kernel) ?_
        refine lv_goto (tgt := 89) X.1 X.2.1 dX6_readAtom_85 (by decide) ?_
        exact B13_89 _ _ 1 hS (lv_sub hl [2, 3, 0] rfl) (iv_of (iv_c 1 (a := 1) (b := 1) (by decide +kernel)) (a' := 0) (b' := 1) (by decide +kernel))
  · refine lv_iload_n X.1 X.2.1 dX6_readAtom_11 rfl (lv_at hl 3 rfl) ?_
    refine lv_bipush (v := 6) X.1 X.2.1 dX6_readAtom_12 (by decide +kernel) ?_
    refine lv_icmp_lt (tgt := 22) X.1 X.2.1 dX6_readAtom_14 (by decide) (fun c19 => ?_) (fun c19 => ?_)
    · refine lv_aload_n X.1 X.2.1 dX6_readAtom_22 rfl (lv_at hl 2 rfl) ?_
      refine ca_X10_step X hK hG hC hS hb a1 h1 wl_3_229 hl.1 (rest := []) rfl (Nat.le_of_ble_eq_true rfl) ⟨Nat.le_of_ble_eq_true rfl, Nat.le_of_ble_eq_true rfl⟩ ⟨Nat.le_of_ble_eq_true rfl, Nat.le_of_ble_eq_true rfl⟩ dX6_readAtom_23 (fun H locs hG hS => ?_)
      refine lv_aload_n X.1 X.2.1 dX6_readAtom_26 rfl (lv_at hl 1 rfl) ?_
      refine lv_aload_n X.1 X.2.1 dX6_readAtom_27 rfl (lv_at hl 2 rfl) ?_
      refine lv_iload_n X.1 X.2.1 dX6_readAtom_28 rfl (lv_at hl 3 rfl) ?_
      refine lv_iconst (v := 1) X.1 X.2.1 dX6_readAtom_29 (by decide +kernel) ?_
      refine lv_iadd X.1 X.2.1 dX6_readAtom_30 ?_
      refine lv_topi (fun f21 ef21 => ?_)
      refine ca_X6_readSum_1 X hK hG hC hS hb a0 h0 a1 h1 f21 (iv_add (a' := 1) (b' := 1) ef21 h2 (iv_c 1 (a := 1) (b := 1) (by decide +kernel)) (by decide +kernel)) wl_3_220 hl.1 (rest := []) rfl (Nat.le_of_ble_eq_true rfl) ⟨Nat.le_of_ble_eq_true rfl, Nat.le_of_ble_eq_true rfl⟩ ⟨Nat.le_of_ble_eq_true rfl, Nat.le_of_ble_eq_true rfl⟩ dX6_readAtom_31 (fun f22 H locs hf22 hG hS => ?_)
      refine lv_if_ne (tgt := 39) X.1 X.2.1 dX6_readAtom_34 (by decide) (fun c23 => ?_) (fun c23 => ?_)
      · refine lv_aload_n X.1 X.2.1 dX6_readAtom_39 rfl (lv_at hl 2 rfl) ?_
        refine ca_X10_sign X hK hG hC (fun _ h => h) hS hb a1 h1 wl_3_219 hl.1 (rest := []) rfl (Nat.le_of_ble_eq_true rfl) ⟨Nat.le_of_ble_eq_true rfl, Nat.le_of_ble_eq_true rfl⟩ ⟨Nat.le_of_ble_eq_true rfl, Nat.le_of_ble_eq_true rfl⟩ dX6_readAtom_40 (fun f24 locs hf24 hS => ?_)
        refine lv_bipush (v := 93) X.1 X.2.1 dX6_readAtom_43 (by decide +kernel) ?_
        refine lv_icmp_eq (tgt := 53) X.1 X.2.1 dX6_readAtom_45 (by decide) (fun c25 => ?_) (fun c25 => ?_)
        · refine lv_aload_n X.1 X.2.1 dX6_readAtom_53 rfl (lv_at hl 2 rfl) ?_
          refine ca_X10_step X hK hG hC hS hb a1 h1 wl_3_229 hl.1 (rest := []) rfl (Nat.le_of_ble_eq_true rfl) ⟨Nat.le_of_ble_eq_true rfl, Nat.le_of_ble_eq_true rfl⟩ ⟨Nat.le_of_ble_eq_true rfl, Nat.le_of_ble_eq_true rfl⟩ dX6_readAtom_54 (fun H locs hG hS => ?_)
          refine lv_iconst (v := 1) X.1 X.2.1 dX6_readAtom_57 (by decide +kernel) ?_
          exact sg_zret X hr (sg_zn (iv_of (iv_c 1 (a := 1) (b := 1) (by decide +kernel)) (a' := 0) (b' := 1) (by decide +kernel))) hlk hb hK hC hG hS (iv_of (iv_c 1 (a := 1) (b := 1) (by decide +kernel)) (a' := 0) (b' := 1) (by decide +kernel)) dX6_readAtom_58
        · refine lv_aload_n X.1 X.2.1 dX6_readAtom_48 rfl (lv_at hl 2 rfl) ?_
          refine ca_X10_wrong X hK hG hC hS hb a1 h1 wl_3_228 hl.1 (rest := []) rfl (Nat.le_of_ble_eq_true rfl) ⟨Nat.le_of_ble_eq_true rfl, Nat.le_of_ble_eq_true rfl⟩ ⟨Nat.le_of_ble_eq_true rfl, Nat.le_of_ble_eq_true rfl⟩ dX6_readAtom_49 (fun f27 H locs hf27 hG hS => ?_)
          exact sg_zret X hr (sg_zn hf27) hlk hb hK hC hG hS hf27 dX6_readAtom_52
      · refine lv_iconst (v := 0) X.1 X.2.1 dX6_readAtom_37 (by decide +kernel) ?_
        exact sg_zret X hr (sg_zn (iv_of (iv_c 0 (a := 0) (b := 0) (by decide +kernel)) (a' := 0) (b' := 1) (by decide +kernel))) hlk hb hK hC hG hS (iv_of (iv_c 0 (a := 0) (b := 0) (by decide +kernel)) (a' := 0) (b' := 1) (by decide +kernel)) dX6_readAtom_38
    · exact ((iv_no (iv_le (b' := 0) (iv_ge_of c19) (iv_c 6 (a := 6) (b := 6) (by decide +kernel)) h2 (by decide +kernel)) (by decide +kernel))).elim

theorem ca_X6_readAtom_0   (X : CallFix p m c cc nL s args sg_tbl own) (hK : va_K D vwCl tys s) (hG : sgG (KT P) D vwCl (fun q : Nat => base ≤ q) tys ad ks H) (hC : sgC base s) (hS : va_S (fun q : Nat => base ≤ q) s.heap H locs) (hb : base ≤ s.heap.size) (a0 : Nat) (h0 : isK ad ks 6 a0) (a1 : Nat) (h1 : isK ad ks 10 a1) (x2 : Int32) (h2 : iv 0 0 x2) (hl : Cond.methodLink own index yX6_readAtom ∈ sg_tbl) (hsize : ls.size = nL) (hst : st0 = [.ref a1, .int x2].reverse ++ .ref a0 :: rest) (hW : (rest.map fun v => v.category).sum ≤ 8) (hR : 17 ≤ R.frames ∧ 422 ≤ R.locals) (hf : cells ≤ R.cells ∧ slots ≤ R.slots) (hdg : decode cc pc = .ok (.invokevirtual index, 3)) (kk : ∀ (r : Int32) (H1 : Heap) (locs1 : List Loc), (fun r : Int32 => iv 0 1 r) r → sgG (KT P) D vwCl (fun q : Nat => base ≤ q) tys ad ks H1 → va_S (fun q : Nat => base ≤ q) s.heap H1 locs1 → W p l e R s m args below meth c H1 locs1 cells slots Q (F0 m (pc + 3) ls (.int r :: rest))) : W p l e R s m args below meth c H locs cells slots Q (F0 m pc ls st0) :=
  sg_callVi X hK hG hC hS hb (m_X6_readAtom_0 l a0 h0 a1 h1 x2 h2) h0 (k := 6) (ci := 6) rfl (C := RX6) (T := TX6) (N := 7) rfl wl_3_227 wl_1_3 wl_3_226 wl_0_12 (n := 2) (by decide +kernel) rfl rfl rfl hl hsize hst hW hR hf hdg kk

set_option maxHeartbeats 8000000 in
set_option maxRecDepth 100000 in
theorem m_X6_readSum_0 (l : Launch) {D : va_G} {base : Nat} {tys : List (ClassId × FieldType)} {ad ks : List Nat} {P : sgPm} (a0 : Nat) (h0 : isK ad ks 6 a0) (a1 : Nat) (h1 : isK ad ks 10 a1) (x2 : Int32) (h2 : iv 0 0 x2) : sgMi l (KT P) D vwCl base tys ad ks yX6_readSum cX6_readSum 7 (some .boolean) ({ frames := 17, cells := 0, slots := 0, locals := 422 }) [.ref a0, .ref a1, .int x2] (fun r : Int32 => iv 0 1 r) := by
  refine sg_ofW (by decide +kernel) (Nat.le_of_ble_eq_true rfl) (fun p e s m below meth c X hr hlk hb hK hC hG ls hl => ?_)
  have hS : va_S (fun q : Nat => base ≤ q) s.heap s.heap [] := va_S.rf
  have hl : lv_has ls 7 [(0, .ref a0), (1, .ref a1), (2, .int x2)] := hl
  refine lv_aload_n X.1 X.2.1 dX6_readSum_0 rfl (lv_at hl 0 rfl) ?_
  refine lv_aload_n X.1 X.2.1 dX6_readSum_1 rfl (lv_at hl 1 rfl) ?_
  refine lv_iload_n X.1 X.2.1 dX6_readSum_2 rfl (lv_at hl 2 rfl) ?_
  refine ca_X6_readAtom_0 X hK hG hC hS hb a0 h0 a1 h1 x2 h2 wl_3_224 hl.1 (rest := []) rfl (Nat.le_of_ble_eq_true rfl) ⟨Nat.le_of_ble_eq_true rfl, Nat.le_of_ble_eq_true rfl⟩ ⟨Nat.le_of_ble_eq_true rfl, Nat.le_of_ble_eq_true rfl⟩ dX6_readSum_3 (fun f1 H locs hf1 hG hS => ?_)
  refine lv_if_ne (tgt := 11) X.1 X.2.1 dX6_readSum_6 (by decide) (fun c2 => ?_) (fun c2 => ?_)
  · refine lv_iconst (v := 0) X.1 X.2.1 dX6_readSum_11 (by decide +kernel) ?_
    refine lv_istore_n (lv' := [(3, .int 0), (0, .ref a0), (1, .ref a1), (2, .int x2)]) X.1 X.2.1 dX6_readSum_12 rfl hl (by decide) rfl (fun ls hl => ?_)
    refine lv_iconst (v := 0) X.1 X.2.1 dX6_readSum_13 (by decide +kernel) ?_
    refine lv_istore (lv' := [(4, .int 0), (3, .int 0), (0, .ref a0), (1, .ref a1), (2, .int x2)]) X.1 X.2.1 dX6_readSum_14 hl (by decide) rfl (fun ls hl => ?_)
    have B3_16 : ∀ (N : Nat) (H : Heap) (locs : List Loc) (ls : Array Slot) (z3_3 : Int32) (z3_4 : Int32), sgG (KT P) D vwCl (fun q : Nat => base ≤ q) tys ad ks H → va_S (fun q : Nat => base ≤ q) s.heap H locs → lv_has ls 7 [(0, .ref a0), (1, .ref a1), (2, .int x2), (3, .int z3_3), (4, .int z3_4)] → iv (-11) 0 z3_3 → iv 0 240 z3_4 → (241 - z3_4.toInt).toNat ≤ N → W p l e (headSpec (Cond.code yX6_readSum cX6_readSum 7 (some .boolean) :: sg_tbl) ({ frames := 17, cells := 0, slots := 0, locals := 422 })).room s m #[.ref a0, .ref a1, .int x2] below meth c H locs 0 0 (MQ below (va_Qi (fun r (_ : Unit) => (fun r : Int32 => iv 0 1 r) r) (fun _ => sgB (KT P) D vwCl base tys ad ks) (fun q : Nat => base ≤ q)) #[.ref a0, .ref a1, .int x2] s 0 0 (fun q : Nat => base ≤ q)) (F0 m 16 ls []) := by
      intro N; induction N with
      | zero =>
        intro H locs ls z3_3 z3_4 hG hS hl hz3_3 hz3_4 hN
        exact absurd hN (by have := iv_up hz3_4; omega)
      | succ N ih3 =>
        intro H locs ls z3_3 z3_4 hG hS hl hz3_3 hz3_4 hN3
        refine lv_iload X.1 X.2.1 dX6_readSum_16 (lv_at hl 4 rfl) ?_
        refine lv_sipush (v := 240) X.1 X.2.1 dX6_readSum_18 (by decide +kernel) ?_
        refine lv_icmp_ge (tgt := 148) X.1 X.2.1 dX6_readSum_21 (by decide) (fun c4 => ?_) (fun c4 => ?_)
        · refine lv_aload_n X.1 X.2.1 dX6_readSum_148 rfl (lv_at hl 1 rfl) ?_
          refine ca_X10_wrong X hK hG hC hS hb a1 h1 wl_3_228 hl.1 (rest := []) rfl (Nat.le_of_ble_eq_true rfl) ⟨Nat.le_of_ble_eq_true rfl, Nat.le_of_ble_eq_true rfl⟩ ⟨Nat.le_of_ble_eq_true rfl, Nat.le_of_ble_eq_true rfl⟩ dX6_readSum_149 (fun f5 H locs hf5 hG hS => ?_)
          exact sg_zret X hr (sg_zn hf5) hlk hb hK hC hG hS hf5 dX6_readSum_152
        · refine lv_aload_n X.1 X.2.1 dX6_readSum_24 rfl (lv_at hl 1 rfl) ?_
          refine ca_X10_sign X hK hG hC (fun _ h => h) hS hb a1 h1 wl_3_219 hl.1 (rest := []) rfl (Nat.le_of_ble_eq_true rfl) ⟨Nat.le_of_ble_eq_true rfl, Nat.le_of_ble_eq_true rfl⟩ ⟨Nat.le_of_ble_eq_true rfl, Nat.le_of_ble_eq_true rfl⟩ dX6_readSum_25 (fun f6 locs hf6 hS => ?_)
          refine lv_istore (lv' := [(5, .int f6), (0, .ref a0), (1, .ref a1), (2, .int x2), (3, .int z3_3), (4, .int z3_4)]) X.1 X.2.1 dX6_readSum_28 hl (by decide) rfl (fun ls hl => ?_)
          refine lv_iload X.1 X.2.1 dX6_readSum_30 (lv_at hl 0 rfl) ?_
          refine lv_bipush (v := 42) X.1 X.2.1 dX6_readSum_32 (by decide +kernel) ?_
          have B8_49 : ∀ (locs : List Loc) (ls : Array Slot) (w8_0 : Int32), va_S (fun q : Nat => base ≤ q) s.heap H locs → lv_has ls 7 [(0, .ref a0), (1, .ref a1), (2, .int x2), (3, .int z3_3), (4, .int z3_4), (5, .int f6)] → iv 0 1 w8_0 → W p l e (headSpec (Cond.code yX6_readSum cX6_readSum 7 (some .boolean) :: sg_tbl) ({ frames := 17, cells := 0, slots := 0, locals := 422 })).room s m #[.ref a0, .ref a1, .int x2] below meth c H locs 0 0 (MQ below (va_Qi (fun r (_ : Unit) => (fun r : Int32 => iv 0 1 r) r) (fun _ => sgB (KT P) D vwCl base tys ad ks) (fun q : Nat => base ≤ q)) #[.ref a0, .ref a1, .int x2] s 0 0 (fun q : Nat => base ≤ q)) (F0 m 49 ls [.int w8_0]) := by
            intro locs ls w8_0 hS hl hw8_0
            refine lv_istore (lv' := [(6, .int w8_0), (0, .ref a0), (1, .ref a1), (2, .int x2), (3, .int z3_3), (4, .int z3_4), (5, .int f6)]) X.1 X.2.1 dX6_readSum_49 hl (by decide) rfl (fun ls hl => ?_)
            refine lv_iload X.1 X.2.1 dX6_readSum_51 (lv_at hl 0 rfl) ?_
            have B10_65 : ∀ (H : Heap) (locs : List Loc) (ls : Array Slot), sgG (KT P) D vwCl (fun q : Nat => base ≤ q) tys ad ks H → va_S (fun q : Nat => base ≤ q) s.heap H locs → lv_has ls 7 [(0, .ref a0), (1, .ref a1), (2, .int x2), (3, .int z3_3), (4, .int z3_4), (5, .int f6), (6, .int w8_0)] → W p l e (headSpec (Cond.code yX6_readSum cX6_readSum 7 (some .boolean) :: sg_tbl) ({ frames := 17, cells := 0, slots := 0, locals := 422 })).room s m #[.ref a0, .ref a1, .int x2] below meth c H locs 0 0 (MQ below (va_Qi (fun r (_ : Unit) => (fun r : Int32 => iv 0 1 r) r) (fun _ => sgB (KT P) D vwCl base tys ad ks) (fun q : Nat => base ≤ q)) #[.ref a0, .ref a1, .int x2] s 0 0 (fun q : Nat => base ≤ q)) (F0 m 65 ls []) := by
              intro H locs ls hG hS hl
              refine lv_iload X.1 X.2.1 dX6_readSum_65 (lv_at hl 6 rfl) ?_
              have B12_86 : ∀ (locs : List Loc) (ls : Array Slot), va_S (fun q : Nat => base ≤ q) s.heap H locs → lv_has ls 7 [(0, .ref a0), (1, .ref a1), (2, .int x2), (3, .int z3_3), (4, .int z3_4), (5, .int f6), (6, .int w8_0)] → W p l e (headSpec (Cond.code yX6_readSum cX6_readSum 7 (some .boolean) :: sg_tbl) ({ frames := 17, cells := 0, slots := 0, locals := 422 })).room s m #[.ref a0, .ref a1, .int x2] below meth c H locs 0 0 (MQ below (va_Qi (fun r (_ : Unit) => (fun r : Int32 => iv 0 1 r) r) (fun _ => sgB (KT P) D vwCl base tys ad ks) (fun q : Nat => base ≤ q)) #[.ref a0, .ref a1, .int x2] s 0 0 (fun q : Nat => base ≤ q)) (F0 m 86 ls []) := by
                intro locs ls hS hl
                refine lv_aload_n X.1 X.2.1 dX6_readSum_86 rfl (lv_at hl 1 rfl) ?_
                refine ca_X10_step X hK hG hC hS hb a1 h1 wl_3_229 hl.1 (rest := []) rfl (Nat.le_of_ble_eq_true rfl) ⟨Nat.le_of_ble_eq_true rfl, Nat.le_of_ble_eq_true rfl⟩ ⟨Nat.le_of_ble_eq_true rfl, Nat.le_of_ble_eq_true rfl⟩ dX6_readSum_87 (fun H locs hG hS => ?_)
                refine lv_aload_n X.1 X.2.1 dX6_readSum_90 rfl (lv_at hl 0 rfl) ?_
                refine lv_aload_n X.1 X.2.1 dX6_readSum_91 rfl (lv_at hl 1 rfl) ?_
                refine lv_iload_n X.1 X.2.1 dX6_readSum_92 rfl (lv_at hl 2 rfl) ?_
                refine ca_X6_readAtom_0 X hK hG hC hS hb a0 h0 a1 h1 x2 h2 wl_3_224 hl.1 (rest := []) rfl (Nat.le_of_ble_eq_true rfl) ⟨Nat.le_of_ble_eq_true rfl, Nat.le_of_ble_eq_true rfl⟩ ⟨Nat.le_of_ble_eq_true rfl, Nat.le_of_ble_eq_true rfl⟩ dX6_readSum_93 (fun f14 H locs hf14 hG hS => ?_)
                refine lv_if_ne (tgt := 101) X.1 X.2.1 dX6_readSum_96 (by decide) (fun c15 => ?_) (fun c15 => ?_)
                · refine lv_iload X.1 X.2.1 dX6_readSum_101 (lv_at hl 6 rfl) ?_
                  have B17_142 : ∀ (H : Heap) (locs : List Loc) (ls : Array Slot) (z17_3 : Int32), sgG (KT P) D vwCl (fun q : Nat => base ≤ q) tys ad ks H → va_S (fun q : Nat => base ≤ q) s.heap H locs → lv_has ls 7 [(0, .ref a0), (1, .ref a1), (2, .int x2), (3, .int z17_3), (4, .int z3_4)] → iv (-11) 0 z17_3 → W p l e (headSpec (Cond.code yX6_readSum cX6_readSum 7 (some .boolean) :: sg_tbl) ({ frames := 17, cells := 0, slots := 0, locals := 422 })).room s m #[.ref a0, .ref a1, .int x2] below meth c H locs 0 0 (MQ below (va_Qi (fun r (_ : Unit) => (fun r : Int32 => iv 0 1 r) r) (fun _ => sgB (KT P) D vwCl base tys ad ks) (fun q : Nat => base ≤ q)) #[.ref a0, .ref a1, .int x2] s 0 0 (fun q : Nat => base ≤ q)) (F0 m 142 ls []) := by
                    intro H locs ls z17_3 hG hS hl hz17_3
                    obtain ⟨y18, ey18⟩ : ∃ y : Int32, y = z3_4 + Int32.ofInt 1 := ⟨_, rfl⟩
                    refine lv_iinc (v := y18) (lv' := [(4, .int y18), (0, .ref a0), (1, .ref a1), (2, .int x2), (3, .int z17_3)]) X.1 X.2.1 dX6_readSum_142 hl (k := 4) rfl ey18.symm (by decide) rfl (fun ls hl => ?_)
                    refine lv_goto (tgt := 16) X.1 X.2.1 dX6_readSum_145 (by decide) ?_
                    exact ih3 H _ _ z17_3 y18 hG hS (lv_sub hl [1, 2, 3, 4, 0] rfl) hz17_3 (iv_of (iv_add (a' := 1) (b' := 240) ey18 (iv_lt (b' := 239) (iv_gt_of c4) hz3_4 (iv_c 240 (a := 240) (b := 240) (by decide +kernel)) (by decide +kernel)) (iv_c _ (a := 1) (b := 1) (by decide +kernel)) (by decide +kernel)) (a' := 0) (b' := 240) (by decide +kernel)) (iv_stepU ey18 (iv_lt (b' := 239) (iv_gt_of c4) hz3_4 (iv_c 240 (a := 240) (b := 240) (by decide +kernel)) (by decide +kernel)) (by decide +kernel) hN3)
                  refine lv_if_eq (tgt := 127) X.1 X.2.1 dX6_readSum_103 (by decide) (fun c16 => ?_) (fun c16 => ?_)
                  · refine lv_iload X.1 X.2.1 dX6_readSum_127 (lv_at hl 5 rfl) ?_
                    refine lv_bipush (v := 43) X.1 X.2.1 dX6_readSum_129 (by decide +kernel) ?_
                    have B20_141 : ∀ (locs : List Loc) (ls : Array Slot) (w20_0 : Int32), va_S (fun q : Nat => base ≤ q) s.heap H locs → lv_has ls 7 [(0, .ref a0), (1, .ref a1), (2, .int x2), (4, .int z3_4)] → iv (-11) (-10) w20_0 → W p l e (headSpec (Cond.code yX6_readSum cX6_readSum 7 (some .boolean) :: sg_tbl) ({ frames := 17, cells := 0, slots := 0, locals := 422 })).room s m #[.ref a0, .ref a1, .int x2] below meth c H locs 0 0 (MQ below (va_Qi (fun r (_ : Unit) => (fun r : Int32 => iv 0 1 r) r) (fun _ => sgB (KT P) D vwCl base tys ad ks) (fun q : Nat => base ≤ q)) #[.ref a0, .ref a1, .int x2] s 0 0 (fun q : Nat => base ≤ q)) (F0 m 141 ls [.int w20_0]) := by
                      intro locs ls w20_0 hS hl hw20_0
                      refine lv_istore_n (lv' := [(3, .int w20_0), (0, .ref a0), (1, .ref a1), (2, .int x2), (4, .int z3_4)]) X.1 X.2.1 dX6_readSum_141 rfl hl (by decide) rfl (fun ls hl => ?_)
                      exact B17_142 H _ _ w20_0 hG hS (lv_sub hl [1, 2, 3, 0, 4] rfl) (iv_of hw20_0 (a' := (-11)) (b' := 0) (by decide +kernel))
                    refine lv_icmp_ne (tgt := 139) X.1 X.2.1 dX6_readSum_131 (by decide) (fun c19 => ?_) (fun c19 => ?_)
                    · refine lv_bipush (v := (-11)) X.1 X.2.1 dX6_readSum_139 (by decide +kernel) ?_
                      exact B20_141 _ _ (-11) hS (lv_sub hl [0, 1, 2, 4] rfl) (iv_of (iv_c (-11) (a := (-11)) (b := (-11)) (by decide +kernel)) (a' := (-11)) (b' := (-10)) (by decide +kernel))
                    · refine lv_bipush (v := (-10)) X.1 X.2.1 dX6_readSum_134 (by decide +kernel) ?_
                      refine lv_goto (tgt := 141) X.1 X.2.1 dX6_readSum_136 (by decide) ?_
                      exact B20_141 _ _ (-10) hS (lv_sub hl [0, 1, 2, 4] rfl) (iv_of (iv_c (-10) (a := (-10)) (b := (-10)) (by decide +kernel)) (a' := (-11)) (b' := (-10)) (by decide +kernel))
                  · refine lv_aload_n X.1 X.2.1 dX6_readSum_106 rfl (lv_at hl 0 rfl) ?_
                    refine lv_iload X.1 X.2.1 dX6_readSum_107 (lv_at hl 5 rfl) ?_
                    refine lv_bipush (v := 42) X.1 X.2.1 dX6_readSum_109 (by decide +kernel) ?_
                    have B22_121 : ∀ (locs : List Loc) (ls : Array Slot) (w22_0 : Int32), va_S (fun q : Nat => base ≤ q) s.heap H locs → lv_has ls 7 [(0, .ref a0), (1, .ref a1), (2, .int x2), (3, .int z3_3), (4, .int z3_4)] → iv (-13) (-12) w22_0 → W p l e (headSpec (Cond.code yX6_readSum cX6_readSum 7 (some .boolean) :: sg_tbl) ({ frames := 17, cells := 0, slots := 0, locals := 422 })).room s m #[.ref a0, .ref a1, .int x2] below meth c H locs 0 0 (MQ below (va_Qi (fun r (_ : Unit) => (fun r : Int32 => iv 0 1 r) r) (fun _ => sgB (KT P) D vwCl base tys ad ks) (fun q : Nat => base ≤ q)) #[.ref a0, .ref a1, .int x2] s 0 0 (fun q : Nat => base ≤ q)) (F0 m 121 ls [.int w22_0, .ref a0]) := by
                      intro locs ls w22_0 hS hl hw22_0
                      refine ca_X6_put X hK hG hC hS hb a0 h0 w22_0 wl_3_232 hl.1 (rest := []) rfl (Nat.le_of_ble_eq_true rfl) ⟨Nat.le_of_ble_eq_true rfl, Nat.le_of_ble_eq_true rfl⟩ ⟨Nat.le_of_ble_eq_true rfl, Nat.le_of_ble_eq_true rfl⟩ dX6_readSum_121 (fun H locs hG hS => ?_)
                      refine lv_goto (tgt := 142) X.1 X.2.1 dX6_readSum_124 (by decide) ?_
                      exact B17_142 H _ _ z3_3 hG hS (lv_sub hl [0, 1, 2, 3, 4] rfl) hz3_3
                    refine lv_icmp_ne (tgt := 119) X.1 X.2.1 dX6_readSum_111 (by decide) (fun c21 => ?_) (fun c21 => ?_)
                    · refine lv_bipush (v := (-13)) X.1 X.2.1 dX6_readSum_119 (by decide +kernel) ?_
                      exact B22_121 _ _ (-13) hS (lv_sub hl [0, 1, 2, 3, 4] rfl) (iv_of (iv_c (-13) (a := (-13)) (b := (-13)) (by decide +kernel)) (a' := (-13)) (b' := (-12)) (by decide +kernel))
                    · refine lv_bipush (v := (-12)) X.1 X.2.1 dX6_readSum_114 (by decide +kernel) ?_
                      refine lv_goto (tgt := 121) X.1 X.2.1 dX6_readSum_116 (by decide) ?_
                      exact B22_121 _ _ (-12) hS (lv_sub hl [0, 1, 2, 3, 4] rfl) (iv_of (iv_c (-12) (a := (-12)) (b := (-12)) (by decide +kernel)) (a' := (-13)) (b' := (-12)) (by decide +kernel))
                · refine lv_iconst (v := 0) X.1 X.2.1 dX6_readSum_99 (by decide +kernel) ?_
                  exact sg_zret X hr (sg_zn (iv_of (iv_c 0 (a := 0) (b := 0) (by decide +kernel)) (a' := 0) (b' := 1) (by decide +kernel))) hlk hb hK hC hG hS (iv_of (iv_c 0 (a := 0) (b := 0) (by decide +kernel)) (a' := 0) (b' := 1) (by decide +kernel)) dX6_readSum_100
              refine lv_if_ne (tgt := 86) X.1 X.2.1 dX6_readSum_67 (by decide) (fun c11 => ?_) (fun c11 => ?_)
              · exact B12_86 _ _ hS (lv_sub hl [0, 1, 2, 3, 4, 5, 6] rfl)
              · refine lv_iload X.1 X.2.1 dX6_readSum_70 (lv_at hl 5 rfl) ?_
                refine lv_bipush (v := 43) X.1 X.2.1 dX6_readSum_72 (by decide +kernel) ?_
                refine lv_icmp_eq (tgt := 86) X.1 X.2.1 dX6_readSum_74 (by decide) (fun c24 => ?_) (fun c24 => ?_)
                · exact B12_86 _ _ hS (lv_sub hl [0, 1, 2, 3, 4, 5, 6] rfl)
                · refine lv_iload X.1 X.2.1 dX6_readSum_77 (lv_at hl 5 rfl) ?_
                  refine lv_bipush (v := 45) X.1 X.2.1 dX6_readSum_79 (by decide +kernel) ?_
                  refine lv_icmp_eq (tgt := 86) X.1 X.2.1 dX6_readSum_81 (by decide) (fun c25 => ?_) (fun c25 => ?_)
                  · exact B12_86 _ _ hS (lv_sub hl [0, 1, 2, 3, 4, 5, 6] rfl)
                  · refine lv_iconst (v := 1) X.1 X.2.1 dX6_readSum_84 (by decide +kernel) ?_
                    exact sg_zret X hr (sg_zn (iv_of (iv_c 1 (a := 1) (b := 1) (by decide +kernel)) (a' := 0) (b' := 1) (by decide +kernel))) hlk hb hK hC hG hS (iv_of (iv_c 1 (a := 1) (b := 1) (by decide +kernel)) (a' := 0) (b' := 1) (by decide +kernel)) dX6_readSum_85
            refine lv_if_ne (tgt := 65) X.1 X.2.1 dX6_readSum_53 (by decide) (fun c9 => ?_) (fun c9 => ?_)
            · exact B10_65 H _ _ hG hS (lv_sub hl [1, 2, 3, 4, 5, 6, 0] rfl)
            · refine lv_iload_n X.1 X.2.1 dX6_readSum_56 rfl (lv_at hl 4 rfl) ?_
              refine lv_if_eq (tgt := 65) X.1 X.2.1 dX6_readSum_57 (by decide) (fun c26 => ?_) (fun c26 => ?_)
              · exact B10_65 H _ _ hG hS (lv_sub hl [1, 2, 3, 4, 5, 6, 0] rfl)
              · refine lv_aload_n X.1 X.2.1 dX6_readSum_60 rfl (lv_at hl 1 rfl) ?_
                refine lv_iload_n X.1 X.2.1 dX6_readSum_61 rfl (lv_at hl 4 rfl) ?_
                refine ca_X6_put X hK hG hC hS hb a0 h0 z3_3 wl_3_232 hl.1 (rest := []) rfl (Nat.le_of_ble_eq_true rfl) ⟨Nat.le_of_ble_eq_true rfl, Nat.le_of_ble_eq_true rfl⟩ ⟨Nat.le_of_ble_eq_true rfl, Nat.le_of_ble_eq_true rfl⟩ dX6_readSum_62 (fun H locs hG hS => ?_)
                exact B10_65 H _ _ hG hS (lv_sub hl [1, 2, 3, 4, 5, 6, 0] rfl)
          have B28_44 : ∀ (locs : List Loc) (ls : Array Slot), va_S (fun q : Nat => base ≤ q) s.heap H locs → lv_has ls 7 [(0, .ref a0), (1, .ref a1), (2, .int x2), (3, .int z3_3), (4, .int z3_4), (5, .int f6)] → W p l e (headSpec (Cond.code yX6_readSum cX6_readSum 7 (some .boolean) :: sg_tbl) ({ frames := 17, cells := 0, slots := 0, locals := 422 })).room s m #[.ref a0, .ref a1, .int x2] below meth c H locs 0 0 (MQ below (va_Qi (fun r (_ : Unit) => (fun r : Int32 => iv 0 1 r) r) (fun _ => sgB (KT P) D vwCl base tys ad ks) (fun q : Nat => base ≤ q)) #[.ref a0, .ref a1, .int x2] s 0 0 (fun q : Nat => base ≤ q)) (F0 m 44 ls []) := by
            intro locs ls hS hl
            refine lv_iconst (v := 1) X.1 X.2.1 dX6_readSum_44 (by decide +kernel) ?_
            refine lv_goto (tgt := 49) X.1 X.2.1 dX6_readSum_45 (by decide) ?_
            exact B8_49 _ _ 1 hS (lv_sub hl [0, 1, 2, 3, 4, 5] rfl) (iv_of (iv_c 1 (a := 1) (b := 1) (by decide +kernel)) (a' := 0) (b' := 1) (by decide +kernel))
          refine lv_icmp_eq (tgt := 44) X.1 X.2.1 dX6_readSum_34 (by decide) (fun c7 => ?_) (fun c7 => ?_)
          · exact B28_44 _ _ hS (lv_sub hl [1, 2, 3, 4, 5, 0] rfl)
          · refine lv_iload X.1 X.2.1 dX6_readSum_37 (lv_at hl 0 rfl) ?_
            refine lv_bipush (v := 47) X.1 X.2.1 dX6_readSum_39 (by decide +kernel) ?_
            refine lv_icmp_ne (tgt := 48) X.1 X.2.1 dX6_readSum_41 (by decide) (fun c29 => ?_) (fun c29 => ?_)
            · refine lv_iconst (v := 0) X.1 X.2.1 dX6_readSum_48 (by decide +kernel) ?_
              exact B8_49 _ _ 0 hS (lv_sub hl [1, 2, 3, 4, 5, 0] rfl) (iv_of (iv_c 0 (a := 0) (b := 0) (by decide +kernel)) (a' := 0) (b' := 1) (by decide +kernel))
            · exact B28_44 _ _ hS (lv_sub hl [1, 2, 3, 4, 5, 0] rfl)
    exact B3_16 _ H _ _ 0 0 hG hS (lv_sub hl [2, 3, 4, 1, 0] rfl) (iv_of (iv_c 0 (a := 0) (b := 0) (by decide +kernel)) (a' := (-11)) (b' := 0) (by decide +kernel)) (iv_of (iv_c 0 (a := 0) (b := 0) (by decide +kernel)) (a' := 0) (b' := 240) (by decide +kernel)) (Nat.le_refl _)
  · refine lv_iconst (v := 0) X.1 X.2.1 dX6_readSum_9 (by decide +kernel) ?_
    exact sg_zret X hr (sg_zn (iv_of (iv_c 0 (a := 0) (b := 0) (by decide +kernel)) (a' := 0) (b' := 1) (by decide +kernel))) hlk hb hK hC hG hS (iv_of (iv_c 0 (a := 0) (b := 0) (by decide +kernel)) (a' := 0) (b' := 1) (by decide +kernel)) dX6_readSum_10

theorem ca_X6_readSum_0   (X : CallFix p m c cc nL s args sg_tbl own) (hK : va_K D vwCl tys s) (hG : sgG (KT P) D vwCl (fun q : Nat => base ≤ q) tys ad ks H) (hC : sgC base s) (hS : va_S (fun q : Nat => base ≤ q) s.heap H locs) (hb : base ≤ s.heap.size) (a0 : Nat) (h0 : isK ad ks 6 a0) (a1 : Nat) (h1 : isK ad ks 10 a1) (x2 : Int32) (h2 : iv 0 0 x2) (hl : Cond.methodLink own index yX6_readSum ∈ sg_tbl) (hsize : ls.size = nL) (hst : st0 = [.ref a1, .int x2].reverse ++ .ref a0 :: rest) (hW : (rest.map fun v => v.category).sum ≤ 8) (hR : 18 ≤ R.frames ∧ 448 ≤ R.locals) (hf : cells ≤ R.cells ∧ slots ≤ R.slots) (hdg : decode cc pc = .ok (.invokevirtual index, 3)) (kk : ∀ (r : Int32) (H1 : Heap) (locs1 : List Loc), (fun r : Int32 => iv 0 1 r) r → sgG (KT P) D vwCl (fun q : Nat => base ≤ q) tys ad ks H1 → va_S (fun q : Nat => base ≤ q) s.heap H1 locs1 → W p l e R s m args below meth c H1 locs1 cells slots Q (F0 m (pc + 3) ls (.int r :: rest))) : W p l e R s m args below meth c H locs cells slots Q (F0 m pc ls st0) :=
  sg_callVi X hK hG hC hS hb (m_X6_readSum_0 l a0 h0 a1 h1 x2 h2) h0 (k := 6) (ci := 6) rfl (C := RX6) (T := TX6) (N := 7) rfl wl_3_223 wl_1_3 wl_3_222 wl_0_11 (n := 2) (by decide +kernel) rfl rfl rfl hl hsize hst hW hR hf hdg kk

set_option maxHeartbeats 8000000 in
set_option maxRecDepth 100000 in
theorem m_X6_readComparison_0 (l : Launch) {D : va_G} {base : Nat} {tys : List (ClassId × FieldType)} {ad ks : List Nat} {P : sgPm} (a0 : Nat) (h0 : isK ad ks 6 a0) (a1 : Nat) (h1 : isK ad ks 10 a1) (x2 : Int32) (h2 : iv 0 0 x2) : sgMi l (KT P) D vwCl base tys ad ks yX6_readComparison cX6_readComparison 4 (some .boolean) ({ frames := 18, cells := 0, slots := 0, locals := 448 }) [.ref a0, .ref a1, .int x2] (fun r : Int32 => iv 0 1 r) := by
  refine sg_ofW (by decide +kernel) (Nat.le_of_ble_eq_true rfl) (fun p e s m below meth c X hr hlk hb hK hC hG ls hl => ?_)
  have hS : va_S (fun q : Nat => base ≤ q) s.heap s.heap [] := va_S.rf
  have hl : lv_has ls 4 [(0, .ref a0), (1, .ref a1), (2, .int x2)] := hl
  refine lv_aload_n X.1 X.2.1 dX6_readComparison_0 rfl (lv_at hl 1 rfl) ?_
  refine ca_X10_sign X hK hG hC (fun _ h => h) hS hb a1 h1 wl_3_219 hl.1 (rest := []) rfl (Nat.le_of_ble_eq_true rfl) ⟨Nat.le_of_ble_eq_true rfl, Nat.le_of_ble_eq_true rfl⟩ ⟨Nat.le_of_ble_eq_true rfl, Nat.le_of_ble_eq_true rfl⟩ dX6_readComparison_1 (fun f1 locs hf1 hS => ?_)
  refine ca_X6_comparison X hK hG hC (fun _ h => h) hS hb f1 wl_3_238 hl.1 (rest := []) rfl (Nat.le_of_ble_eq_true rfl) ⟨Nat.le_of_ble_eq_true rfl, Nat.le_of_ble_eq_true rfl⟩ ⟨Nat.le_of_ble_eq_true rfl, Nat.le_of_ble_eq_true rfl⟩ dX6_readComparison_4 (fun f2 locs hf2 hS => ?_)
  refine lv_istore_n (lv' := [(3, .int f2), (0, .ref a0), (1, .ref a1), (2, .int x2)]) X.1 X.2.1 dX6_readComparison_7 rfl hl (by decide) rfl (fun ls hl => ?_)
  refine lv_iload_n X.1 X.2.1 dX6_readComparison_8 rfl (lv_at hl 0 rfl) ?_
  refine lv_if_ne (tgt := 17) X.1 X.2.1 dX6_readComparison_9 (by decide) (fun c3 => ?_) (fun c3 => ?_)
  · refine lv_aload_n X.1 X.2.1 dX6_readComparison_17 rfl (lv_at hl 2 rfl) ?_
    refine ca_X10_step X hK hG hC hS hb a1 h1 wl_3_229 hl.1 (rest := []) rfl (Nat.le_of_ble_eq_true rfl) ⟨Nat.le_of_ble_eq_true rfl, Nat.le_of_ble_eq_true rfl⟩ ⟨Nat.le_of_ble_eq_true rfl, Nat.le_of_ble_eq_true rfl⟩ dX6_readComparison_18 (fun H locs hG hS => ?_)
    refine lv_aload_n X.1 X.2.1 dX6_readComparison_21 rfl (lv_at hl 1 rfl) ?_
    refine lv_aload_n X.1 X.2.1 dX6_readComparison_22 rfl (lv_at hl 2 rfl) ?_
    refine lv_iload_n X.1 X.2.1 dX6_readComparison_23 rfl (lv_at hl 3 rfl) ?_
    refine ca_X6_readSum_0 X hK hG hC hS hb a0 h0 a1 h1 x2 h2 wl_3_220 hl.1 (rest := []) rfl (Nat.le_of_ble_eq_true rfl) ⟨Nat.le_of_ble_eq_true rfl, Nat.le_of_ble_eq_true rfl⟩ ⟨Nat.le_of_ble_eq_true rfl, Nat.le_of_ble_eq_true rfl⟩ dX6_readComparison_24 (fun f5 H locs hf5 hG hS => ?_)
    refine lv_if_ne (tgt := 32) X.1 X.2.1 dX6_readComparison_27 (by decide) (fun c6 => ?_) (fun c6 => ?_)
    · refine lv_aload_n X.1 X.2.1 dX6_readComparison_32 rfl (lv_at hl 1 rfl) ?_
      refine lv_iload_n X.1 X.2.1 dX6_readComparison_33 rfl (lv_at hl 0 rfl) ?_
      refine ca_X6_put X hK hG hC hS hb a0 h0 f2 wl_3_232 hl.1 (rest := []) rfl (Nat.le_of_ble_eq_true rfl) ⟨Nat.le_of_ble_eq_true rfl, Nat.le_of_ble_eq_true rfl⟩ ⟨Nat.le_of_ble_eq_true rfl, Nat.le_of_ble_eq_true rfl⟩ dX6_readComparison_34 (fun H locs hG hS => ?_)
      refine lv_iconst (v := 1) X.1 X.2.1 dX6_readComparison_37 (by decide +kernel) ?_
      exact sg_zret X hr (sg_zn (iv_of (iv_c 1 (a := 1) (b := 1) (by decide +kernel)) (a' := 0) (b' := 1) (by decide +kernel))) hlk hb hK hC hG hS (iv_of (iv_c 1 (a := 1) (b := 1) (by decide +kernel)) (a' := 0) (b' := 1) (by decide +kernel)) dX6_readComparison_38
    · refine lv_iconst (v := 0) X.1 X.2.1 dX6_readComparison_30 (by decide +kernel) ?_
      exact sg_zret X hr (sg_zn (iv_of (iv_c 0 (a := 0) (b := 0) (by decide +kernel)) (a' := 0) (b' := 1) (by decide +kernel))) hlk hb hK hC hG hS (iv_of (iv_c 0 (a := 0) (b := 0) (by decide +kernel)) (a' := 0) (b' := 1) (by decide +kernel)) dX6_readComparison_31
  · refine lv_aload_n X.1 X.2.1 dX6_readComparison_12 rfl (lv_at hl 2 rfl) ?_
    refine ca_X10_wrong X hK hG hC hS hb a1 h1 wl_3_228 hl.1 (rest := []) rfl (Nat.le_of_ble_eq_true rfl) ⟨Nat.le_of_ble_eq_true rfl, Nat.le_of_ble_eq_true rfl⟩ ⟨Nat.le_of_ble_eq_true rfl, Nat.le_of_ble_eq_true rfl⟩ dX6_readComparison_13 (fun f8 H locs hf8 hG hS => ?_)
    exact sg_zret X hr (sg_zn hf8) hlk hb hK hC hG hS hf8 dX6_readComparison_16

theorem ca_X6_readComparison_0   (X : CallFix p m c cc nL s args sg_tbl own) (hK : va_K D vwCl tys s) (hG : sgG (KT P) D vwCl (fun q : Nat => base ≤ q) tys ad ks H) (hC : sgC base s) (hS : va_S (fun q : Nat => base ≤ q) s.heap H locs) (hb : base ≤ s.heap.size) (a0 : Nat) (h0 : isK ad ks 6 a0) (a1 : Nat) (h1 : isK ad ks 10 a1) (x2 : Int32) (h2 : iv 0 0 x2) (hl : Cond.methodLink own index yX6_readComparison ∈ sg_tbl) (hsize : ls.size = nL) (hst : st0 = [.ref a1, .int x2].reverse ++ .ref a0 :: rest) (hW : (rest.map fun v => v.category).sum ≤ 8) (hR : 19 ≤ R.frames ∧ 471 ≤ R.locals) (hf : cells ≤ R.cells ∧ slots ≤ R.slots) (hdg : decode cc pc = .ok (.invokevirtual index, 3)) (kk : ∀ (r : Int32) (H1 : Heap) (locs1 : List Loc), (fun r : Int32 => iv 0 1 r) r → sgG (KT P) D vwCl (fun q : Nat => base ≤ q) tys ad ks H1 → va_S (fun q : Nat => base ≤ q) s.heap H1 locs1 → W p l e R s m args below meth c H1 locs1 cells slots Q (F0 m (pc + 3) ls (.int r :: rest))) : W p l e R s m args below meth c H locs cells slots Q (F0 m pc ls st0) :=
  sg_callVi X hK hG hC hS hb (m_X6_readComparison_0 l a0 h0 a1 h1 x2 h2) h0 (k := 6) (ci := 6) rfl (C := RX6) (T := TX6) (N := 7) rfl wl_4_4 wl_1_3 wl_4_3 wl_0_14 (n := 2) (by decide +kernel) rfl rfl rfl hl hsize hst hW hR hf hdg kk

set_option maxHeartbeats 8000000 in
set_option maxRecDepth 100000 in
theorem m_X6_readUnit_0 (l : Launch) {D : va_G} {base : Nat} {tys : List (ClassId × FieldType)} {ad ks : List Nat} {P : sgPm} (a0 : Nat) (h0 : isK ad ks 6 a0) (a1 : Nat) (h1 : isK ad ks 10 a1) (x2 : Int32) (h2 : iv 0 0 x2) : sgMi l (KT P) D vwCl base tys ad ks yX6_readUnit cX6_readUnit 4 (some .boolean) ({ frames := 19, cells := 0, slots := 0, locals := 471 }) [.ref a0, .ref a1, .int x2] (fun r : Int32 => iv 0 1 r) := by
  refine sg_ofW (by decide +kernel) (Nat.le_of_ble_eq_true rfl) (fun p e s m below meth c X hr hlk hb hK hC hG ls hl => ?_)
  have hS : va_S (fun q : Nat => base ≤ q) s.heap s.heap [] := va_S.rf
  have hl : lv_has ls 4 [(0, .ref a0), (1, .ref a1), (2, .int x2)] := hl
  refine lv_aload_n X.1 X.2.1 dX6_readUnit_0 rfl (lv_at hl 1 rfl) ?_
  refine ca_X10_sign X hK hG hC (fun _ h => h) hS hb a1 h1 wl_3_219 hl.1 (rest := []) rfl (Nat.le_of_ble_eq_true rfl) ⟨Nat.le_of_ble_eq_true rfl, Nat.le_of_ble_eq_true rfl⟩ ⟨Nat.le_of_ble_eq_true rfl, Nat.le_of_ble_eq_true rfl⟩ dX6_readUnit_1 (fun f1 locs hf1 hS => ?_)
  refine lv_istore_n (lv' := [(3, .int f1), (0, .ref a0), (1, .ref a1), (2, .int x2)]) X.1 X.2.1 dX6_readUnit_4 rfl hl (by decide) rfl (fun ls hl => ?_)
  refine lv_iload_n X.1 X.2.1 dX6_readUnit_5 rfl (lv_at hl 0 rfl) ?_
  refine lv_bipush (v := 33) X.1 X.2.1 dX6_readUnit_6 (by decide +kernel) ?_
  have B3_41 : ∀ (locs : List Loc) (ls : Array Slot), va_S (fun q : Nat => base ≤ q) s.heap s.heap locs → lv_has ls 4 [(0, .ref a0), (1, .ref a1), (2, .int x2), (3, .int f1)] → W p l e (headSpec (Cond.code yX6_readUnit cX6_readUnit 4 (some .boolean) :: sg_tbl) ({ frames := 19, cells := 0, slots := 0, locals := 471 })).room s m #[.ref a0, .ref a1, .int x2] below meth c s.heap locs 0 0 (MQ below (va_Qi (fun r (_ : Unit) => (fun r : Int32 => iv 0 1 r) r) (fun _ => sgB (KT P) D vwCl base tys ad ks) (fun q : Nat => base ≤ q)) #[.ref a0, .ref a1, .int x2] s 0 0 (fun q : Nat => base ≤ q)) (F0 m 41 ls []) := by
    intro locs ls hS hl
    refine lv_iload_n X.1 X.2.1 dX6_readUnit_41 rfl (lv_at hl 2 rfl) ?_
    refine lv_bipush (v := 6) X.1 X.2.1 dX6_readUnit_42 (by decide +kernel) ?_
    refine lv_icmp_lt (tgt := 52) X.1 X.2.1 dX6_readUnit_44 (by decide) (fun c4 => ?_) (fun c4 => ?_)
    · refine lv_aload_n X.1 X.2.1 dX6_readUnit_52 rfl (lv_at hl 1 rfl) ?_
      refine ca_X10_step X hK hG hC hS hb a1 h1 wl_3_229 hl.1 (rest := []) rfl (Nat.le_of_ble_eq_true rfl) ⟨Nat.le_of_ble_eq_true rfl, Nat.le_of_ble_eq_true rfl⟩ ⟨Nat.le_of_ble_eq_true rfl, Nat.le_of_ble_eq_true rfl⟩ dX6_readUnit_53 (fun H locs hG hS => ?_)
      refine lv_iload_n X.1 X.2.1 dX6_readUnit_56 rfl (lv_at hl 3 rfl) ?_
      refine lv_bipush (v := 40) X.1 X.2.1 dX6_readUnit_57 (by decide +kernel) ?_
      refine lv_icmp_ne (tgt := 89) X.1 X.2.1 dX6_readUnit_59 (by decide) (fun c6 => ?_) (fun c6 => ?_)
      · refine lv_aload_n X.1 X.2.1 dX6_readUnit_89 rfl (lv_at hl 0 rfl) ?_
        refine lv_aload_n X.1 X.2.1 dX6_readUnit_90 rfl (lv_at hl 1 rfl) ?_
        refine lv_iload_n X.1 X.2.1 dX6_readUnit_91 rfl (lv_at hl 2 rfl) ?_
        refine lv_iconst (v := 1) X.1 X.2.1 dX6_readUnit_92 (by decide +kernel) ?_
        refine lv_iadd X.1 X.2.1 dX6_readUnit_93 ?_
        refine lv_topi (fun f7 ef7 => ?_)
        refine ca_X6_readUnit_1 X hK hG hC hS hb a0 h0 a1 h1 f7 (iv_add (a' := 1) (b' := 1) ef7 h2 (iv_c 1 (a := 1) (b := 1) (by decide +kernel)) (by decide +kernel)) wl_4_9 hl.1 (rest := []) rfl (Nat.le_of_ble_eq_true rfl) ⟨Nat.le_of_ble_eq_true rfl, Nat.le_of_ble_eq_true rfl⟩ ⟨Nat.le_of_ble_eq_true rfl, Nat.le_of_ble_eq_true rfl⟩ dX6_readUnit_94 (fun f8 H locs hf8 hG hS => ?_)
        refine lv_if_ne (tgt := 102) X.1 X.2.1 dX6_readUnit_97 (by decide) (fun c9 => ?_) (fun c9 => ?_)
        · refine lv_aload_n X.1 X.2.1 dX6_readUnit_102 rfl (lv_at hl 0 rfl) ?_
          refine lv_bipush (v := (-19)) X.1 X.2.1 dX6_readUnit_103 (by decide +kernel) ?_
          refine ca_X6_put X hK hG hC hS hb a0 h0 (-19) wl_3_232 hl.1 (rest := []) rfl (Nat.le_of_ble_eq_true rfl) ⟨Nat.le_of_ble_eq_true rfl, Nat.le_of_ble_eq_true rfl⟩ ⟨Nat.le_of_ble_eq_true rfl, Nat.le_of_ble_eq_true rfl⟩ dX6_readUnit_105 (fun H locs hG hS => ?_)
          refine lv_iconst (v := 1) X.1 X.2.1 dX6_readUnit_108 (by decide +kernel) ?_
          exact sg_zret X hr (sg_zn (iv_of (iv_c 1 (a := 1) (b := 1) (by decide +kernel)) (a' := 0) (b' := 1) (by decide +kernel))) hlk hb hK hC hG hS (iv_of (iv_c 1 (a := 1) (b := 1) (by decide +kernel)) (a' := 0) (b' := 1) (by decide +kernel)) dX6_readUnit_109
        · refine lv_iconst (v := 0) X.1 X.2.1 dX6_readUnit_100 (by decide +kernel) ?_
          exact sg_zret X hr (sg_zn (iv_of (iv_c 0 (a := 0) (b := 0) (by decide +kernel)) (a' := 0) (b' := 1) (by decide +kernel))) hlk hb hK hC hG hS (iv_of (iv_c 0 (a := 0) (b := 0) (by decide +kernel)) (a' := 0) (b' := 1) (by decide +kernel)) dX6_readUnit_101
      · refine lv_aload_n X.1 X.2.1 dX6_readUnit_62 rfl (lv_at hl 0 rfl) ?_
        refine lv_aload_n X.1 X.2.1 dX6_readUnit_63 rfl (lv_at hl 1 rfl) ?_
        refine lv_iload_n X.1 X.2.1 dX6_readUnit_64 rfl (lv_at hl 2 rfl) ?_
        refine lv_iconst (v := 1) X.1 X.2.1 dX6_readUnit_65 (by decide +kernel) ?_
        refine lv_iadd X.1 X.2.1 dX6_readUnit_66 ?_
        refine lv_topi (fun f11 ef11 => ?_)
        refine lv_iconst (v := 0) X.1 X.2.1 dX6_readUnit_67 (by decide +kernel) ?_
        refine ca_X6_readCondition_1 X hK hG hC hS hb a0 h0 a1 h1 f11 (iv_add (a' := 1) (b' := 1) ef11 h2 (iv_c 1 (a := 1) (b := 1) (by decide +kernel)) (by decide +kernel)) 0 (iv_of (iv_c 0 (a := 0) (b := 0) (by decide +kernel)) (a' := 0) (b' := 1) (by decide +kernel)) wl_4_5 hl.1 (rest := []) rfl (Nat.le_of_ble_eq_true rfl) ⟨Nat.le_of_ble_eq_true rfl, Nat.le_of_ble_eq_true rfl⟩ ⟨Nat.le_of_ble_eq_true rfl, Nat.le_of_ble_eq_true rfl⟩ dX6_readUnit_68 (fun f12 H locs hf12 hG hS => ?_)
        have B14_87 : ∀ (H : Heap) (locs : List Loc) (ls : Array Slot), sgG (KT P) D vwCl (fun q : Nat => base ≤ q) tys ad ks H → va_S (fun q : Nat => base ≤ q) s.heap H locs → lv_has ls 4 [] → W p l e (headSpec (Cond.code yX6_readUnit cX6_readUnit 4 (some .boolean) :: sg_tbl) ({ frames := 19, cells := 0, slots := 0, locals := 471 })).room s m #[.ref a0, .ref a1, .int x2] below meth c H locs 0 0 (MQ below (va_Qi (fun r (_ : Unit) => (fun r : Int32 => iv 0 1 r) r) (fun _ => sgB (KT P) D vwCl base tys ad ks) (fun q : Nat => base ≤ q)) #[.ref a0, .ref a1, .int x2] s 0 0 (fun q : Nat => base ≤ q)) (F0 m 87 ls []) := by
          intro H locs ls hG hS hl
          refine lv_iconst (v := 0) X.1 X.2.1 dX6_readUnit_87 (by decide +kernel) ?_
          exact sg_zret X hr (sg_zn (iv_of (iv_c 0 (a := 0) (b := 0) (by decide +kernel)) (a' := 0) (b' := 1) (by decide +kernel))) hlk hb hK hC hG hS (iv_of (iv_c 0 (a := 0) (b := 0) (by decide +kernel)) (a' := 0) (b' := 1) (by decide +kernel)) dX6_readUnit_88
        refine lv_if_eq (tgt := 87) X.1 X.2.1 dX6_readUnit_71 (by decide) (fun c13 => ?_) (fun c13 => ?_)
        · exact B14_87 H _ _ hG hS (lv_sub hl [] rfl)
        · refine lv_aload_n X.1 X.2.1 dX6_readUnit_74 rfl (lv_at hl 1 rfl) ?_
          refine lv_bipush (v := 41) X.1 X.2.1 dX6_readUnit_75 (by decide +kernel) ?_
          refine ca_X10_demand X hK hG hC hS hb a1 h1 41 wl_3_214 hl.1 (rest := []) rfl (Nat.le_of_ble_eq_true rfl) ⟨Nat.le_of_ble_eq_true rfl, Nat.le_of_ble_eq_true rfl⟩ ⟨Nat.le_of_ble_eq_true rfl, Nat.le_of_ble_eq_true rfl⟩ dX6_readUnit_77 (fun f15 H locs hf15 hG hS => ?_)
          refine lv_if_eq (tgt := 87) X.1 X.2.1 dX6_readUnit_80 (by decide) (fun c16 => ?_) (fun c16 => ?_)
          · exact B14_87 H _ _ hG hS (lv_sub hl [] rfl)
          · refine lv_iconst (v := 1) X.1 X.2.1 dX6_readUnit_83 (by decide +kernel) ?_
            refine lv_goto (tgt := 88) X.1 X.2.1 dX6_readUnit_84 (by decide) ?_
            exact sg_zret X hr (sg_zn (iv_of (iv_c 1 (a := 1) (b := 1) (by decide +kernel)) (a' := 0) (b' := 1) (by decide +kernel))) hlk hb hK hC hG hS (iv_of (iv_c 1 (a := 1) (b := 1) (by decide +kernel)) (a' := 0) (b' := 1) (by decide +kernel)) dX6_readUnit_88
    · exact ((iv_no (iv_le (b' := 0) (iv_ge_of c4) (iv_c 6 (a := 6) (b := 6) (by decide +kernel)) h2 (by decide +kernel)) (by decide +kernel))).elim
  refine lv_icmp_eq (tgt := 41) X.1 X.2.1 dX6_readUnit_8 (by decide) (fun c2 => ?_) (fun c2 => ?_)
  · exact B3_41 _ _ hS (lv_sub hl [1, 2, 3, 0] rfl)
  · refine lv_iload_n X.1 X.2.1 dX6_readUnit_11 rfl (lv_at hl 0 rfl) ?_
    refine lv_bipush (v := 40) X.1 X.2.1 dX6_readUnit_12 (by decide +kernel) ?_
    refine lv_icmp_eq (tgt := 41) X.1 X.2.1 dX6_readUnit_14 (by decide) (fun c17 => ?_) (fun c17 => ?_)
    · exact B3_41 _ _ hS (lv_sub hl [1, 2, 3, 0] rfl)
    · refine lv_aload_n X.1 X.2.1 dX6_readUnit_17 rfl (lv_at hl 1 rfl) ?_
      refine lv_aload_n X.1 X.2.1 dX6_readUnit_18 rfl (lv_at hl 2 rfl) ?_
      refine lv_iload_n X.1 X.2.1 dX6_readUnit_19 rfl (lv_at hl 3 rfl) ?_
      refine ca_X6_readSum_0 X hK hG hC hS hb a0 h0 a1 h1 x2 h2 wl_3_220 hl.1 (rest := []) rfl (Nat.le_of_ble_eq_true rfl) ⟨Nat.le_of_ble_eq_true rfl, Nat.le_of_ble_eq_true rfl⟩ ⟨Nat.le_of_ble_eq_true rfl, Nat.le_of_ble_eq_true rfl⟩ dX6_readUnit_20 (fun f18 H locs hf18 hG hS => ?_)
      have B20_39 : ∀ (H : Heap) (locs : List Loc) (ls : Array Slot), sgG (KT P) D vwCl (fun q : Nat => base ≤ q) tys ad ks H → va_S (fun q : Nat => base ≤ q) s.heap H locs → lv_has ls 4 [] → W p l e (headSpec (Cond.code yX6_readUnit cX6_readUnit 4 (some .boolean) :: sg_tbl) ({ frames := 19, cells := 0, slots := 0, locals := 471 })).room s m #[.ref a0, .ref a1, .int x2] below meth c H locs 0 0 (MQ below (va_Qi (fun r (_ : Unit) => (fun r : Int32 => iv 0 1 r) r) (fun _ => sgB (KT P) D vwCl base tys ad ks) (fun q : Nat => base ≤ q)) #[.ref a0, .ref a1, .int x2] s 0 0 (fun q : Nat => base ≤ q)) (F0 m 39 ls []) := by
        intro H locs ls hG hS hl
        refine lv_iconst (v := 0) X.1 X.2.1 dX6_readUnit_39 (by decide +kernel) ?_
        exact sg_zret X hr (sg_zn (iv_of (iv_c 0 (a := 0) (b := 0) (by decide +kernel)) (a' := 0) (b' := 1) (by decide +kernel))) hlk hb hK hC hG hS (iv_of (iv_c 0 (a := 0) (b := 0) (by decide +kernel)) (a' := 0) (b' := 1) (by decide +kernel)) dX6_readUnit_40
      refine lv_if_eq (tgt := 39) X.1 X.2.1 dX6_readUnit_23 (by decide) (fun c19 => ?_) (fun c19 => ?_)
      · exact B20_39 H _ _ hG hS (lv_sub hl [] rfl)
      · refine lv_aload_n X.1 X.2.1 dX6_readUnit_26 rfl (lv_at hl 1 rfl) ?_
        refine lv_aload_n X.1 X.2.1 dX6_readUnit_27 rfl (lv_at hl 2 rfl) ?_
        refine lv_iload_n X.1 X.2.1 dX6_readUnit_28 rfl (lv_at hl 3 rfl) ?_
        refine ca_X6_readComparison_0 X hK hG hC hS hb a0 h0 a1 h1 x2 h2 wl_4_1 hl.1 (rest := []) rfl (Nat.le_of_ble_eq_true rfl) ⟨Nat.le_of_ble_eq_true rfl, Nat.le_of_ble_eq_true rfl⟩ ⟨Nat.le_of_ble_eq_true rfl, Nat.le_of_ble_eq_true rfl⟩ dX6_readUnit_29 (fun f21 H locs hf21 hG hS => ?_)
        refine lv_if_eq (tgt := 39) X.1 X.2.1 dX6_readUnit_32 (by decide) (fun c22 => ?_) (fun c22 => ?_)
        · exact B20_39 H _ _ hG hS (lv_sub hl [] rfl)
        · refine lv_iconst (v := 1) X.1 X.2.1 dX6_readUnit_35 (by decide +kernel) ?_
          refine lv_goto (tgt := 40) X.1 X.2.1 dX6_readUnit_36 (by decide) ?_
          exact sg_zret X hr (sg_zn (iv_of (iv_c 1 (a := 1) (b := 1) (by decide +kernel)) (a' := 0) (b' := 1) (by decide +kernel))) hlk hb hK hC hG hS (iv_of (iv_c 1 (a := 1) (b := 1) (by decide +kernel)) (a' := 0) (b' := 1) (by decide +kernel)) dX6_readUnit_40

theorem ca_X6_readUnit_0   (X : CallFix p m c cc nL s args sg_tbl own) (hK : va_K D vwCl tys s) (hG : sgG (KT P) D vwCl (fun q : Nat => base ≤ q) tys ad ks H) (hC : sgC base s) (hS : va_S (fun q : Nat => base ≤ q) s.heap H locs) (hb : base ≤ s.heap.size) (a0 : Nat) (h0 : isK ad ks 6 a0) (a1 : Nat) (h1 : isK ad ks 10 a1) (x2 : Int32) (h2 : iv 0 0 x2) (hl : Cond.methodLink own index yX6_readUnit ∈ sg_tbl) (hsize : ls.size = nL) (hst : st0 = [.ref a1, .int x2].reverse ++ .ref a0 :: rest) (hW : (rest.map fun v => v.category).sum ≤ 8) (hR : 20 ≤ R.frames ∧ 494 ≤ R.locals) (hf : cells ≤ R.cells ∧ slots ≤ R.slots) (hdg : decode cc pc = .ok (.invokevirtual index, 3)) (kk : ∀ (r : Int32) (H1 : Heap) (locs1 : List Loc), (fun r : Int32 => iv 0 1 r) r → sgG (KT P) D vwCl (fun q : Nat => base ≤ q) tys ad ks H1 → va_S (fun q : Nat => base ≤ q) s.heap H1 locs1 → W p l e R s m args below meth c H1 locs1 cells slots Q (F0 m (pc + 3) ls (.int r :: rest))) : W p l e R s m args below meth c H locs cells slots Q (F0 m pc ls st0) :=
  sg_callVi X hK hG hC hS hb (m_X6_readUnit_0 l a0 h0 a1 h1 x2 h2) h0 (k := 6) (ci := 6) rfl (C := RX6) (T := TX6) (N := 7) rfl wl_4_12 wl_1_3 wl_4_11 wl_0_16 (n := 2) (by decide +kernel) rfl rfl rfl hl hsize hst hW hR hf hdg kk

set_option maxHeartbeats 8000000 in
set_option maxRecDepth 100000 in
theorem m_X6_readCondition_0 (l : Launch) {D : va_G} {base : Nat} {tys : List (ClassId × FieldType)} {ad ks : List Nat} {P : sgPm} (a0 : Nat) (h0 : isK ad ks 6 a0) (a1 : Nat) (h1 : isK ad ks 10 a1) (x2 : Int32) (h2 : iv 0 0 x2) (x3 : Int32) (h3 : iv 0 1 x3) : sgMi l (KT P) D vwCl base tys ad ks yX6_readCondition cX6_readCondition 7 (some .boolean) ({ frames := 20, cells := 0, slots := 0, locals := 494 }) [.ref a0, .ref a1, .int x2, .int x3] (fun r : Int32 => iv 0 1 r) := by
  refine sg_ofW (by decide +kernel) (Nat.le_of_ble_eq_true rfl) (fun p e s m below meth c X hr hlk hb hK hC hG ls hl => ?_)
  have hS : va_S (fun q : Nat => base ≤ q) s.heap s.heap [] := va_S.rf
  have hl : lv_has ls 7 [(0, .ref a0), (1, .ref a1), (2, .int x2), (3, .int x3)] := hl
  refine lv_iload_n X.1 X.2.1 dX6_readCondition_0 rfl (lv_at hl 3 rfl) ?_
  have B2_15 : ∀ (H : Heap) (locs : List Loc) (ls : Array Slot), sgG (KT P) D vwCl (fun q : Nat => base ≤ q) tys ad ks H → va_S (fun q : Nat => base ≤ q) s.heap H locs → lv_has ls 7 [(0, .ref a0), (1, .ref a1), (2, .int x2)] → W p l e (headSpec (Cond.code yX6_readCondition cX6_readCondition 7 (some .boolean) :: sg_tbl) ({ frames := 20, cells := 0, slots := 0, locals := 494 })).room s m #[.ref a0, .ref a1, .int x2, .int x3] below meth c H locs 0 0 (MQ below (va_Qi (fun r (_ : Unit) => (fun r : Int32 => iv 0 1 r) r) (fun _ => sgB (KT P) D vwCl base tys ad ks) (fun q : Nat => base ≤ q)) #[.ref a0, .ref a1, .int x2, .int x3] s 0 0 (fun q : Nat => base ≤ q)) (F0 m 15 ls []) := by
    intro H locs ls hG hS hl
    refine lv_iconst (v := 0) X.1 X.2.1 dX6_readCondition_15 (by decide +kernel) ?_
    refine lv_istore (lv' := [(4, .int 0), (0, .ref a0), (1, .ref a1), (2, .int x2)]) X.1 X.2.1 dX6_readCondition_16 hl (by decide) rfl (fun ls hl => ?_)
    refine lv_iconst (v := 0) X.1 X.2.1 dX6_readCondition_18 (by decide +kernel) ?_
    refine lv_istore (lv' := [(5, .int 0), (4, .int 0), (0, .ref a0), (1, .ref a1), (2, .int x2)]) X.1 X.2.1 dX6_readCondition_19 hl (by decide) rfl (fun ls hl => ?_)
    have B3_21 : ∀ (N : Nat) (H : Heap) (locs : List Loc) (ls : Array Slot) (z3_4 : Int32) (z3_5 : Int32), sgG (KT P) D vwCl (fun q : Nat => base ≤ q) tys ad ks H → va_S (fun q : Nat => base ≤ q) s.heap H locs → lv_has ls 7 [(0, .ref a0), (1, .ref a1), (2, .int x2), (4, .int z3_4), (5, .int z3_5)] → iv 0 1 z3_4 → iv 0 240 z3_5 → (241 - z3_5.toInt).toNat ≤ N → W p l e (headSpec (Cond.code yX6_readCondition cX6_readCondition 7 (some .boolean) :: sg_tbl) ({ frames := 20, cells := 0, slots := 0, locals := 494 })).room s m #[.ref a0, .ref a1, .int x2, .int x3] below meth c H locs 0 0 (MQ below (va_Qi (fun r (_ : Unit) => (fun r : Int32 => iv 0 1 r) r) (fun _ => sgB (KT P) D vwCl base tys ad ks) (fun q : Nat => base ≤ q)) #[.ref a0, .ref a1, .int x2, .int x3] s 0 0 (fun q : Nat => base ≤ q)) (F0 m 21 ls []) := by
      intro N; induction N with
      | zero =>
        intro H locs ls z3_4 z3_5 hG hS hl hz3_4 hz3_5 hN
        exact absurd hN (by have := iv_up hz3_5; omega)
      | succ N ih3 =>
        intro H locs ls z3_4 z3_5 hG hS hl hz3_4 hz3_5 hN3
        refine lv_iload X.1 X.2.1 dX6_readCondition_21 (lv_at hl 4 rfl) ?_
        refine lv_sipush (v := 240) X.1 X.2.1 dX6_readCondition_23 (by decide +kernel) ?_
        refine lv_icmp_ge (tgt := 109) X.1 X.2.1 dX6_readCondition_26 (by decide) (fun c4 => ?_) (fun c4 => ?_)
        · refine lv_aload_n X.1 X.2.1 dX6_readCondition_109 rfl (lv_at hl 1 rfl) ?_
          refine ca_X10_wrong X hK hG hC hS hb a1 h1 wl_3_228 hl.1 (rest := []) rfl (Nat.le_of_ble_eq_true rfl) ⟨Nat.le_of_ble_eq_true rfl, Nat.le_of_ble_eq_true rfl⟩ ⟨Nat.le_of_ble_eq_true rfl, Nat.le_of_ble_eq_true rfl⟩ dX6_readCondition_110 (fun f5 H locs hf5 hG hS => ?_)
          exact sg_zret X hr (sg_zn hf5) hlk hb hK hC hG hS hf5 dX6_readCondition_113
        · refine lv_aload_n X.1 X.2.1 dX6_readCondition_29 rfl (lv_at hl 1 rfl) ?_
          refine ca_X10_sign X hK hG hC (fun _ h => h) hS hb a1 h1 wl_3_219 hl.1 (rest := []) rfl (Nat.le_of_ble_eq_true rfl) ⟨Nat.le_of_ble_eq_true rfl, Nat.le_of_ble_eq_true rfl⟩ ⟨Nat.le_of_ble_eq_true rfl, Nat.le_of_ble_eq_true rfl⟩ dX6_readCondition_30 (fun f6 locs hf6 hS => ?_)
          refine lv_istore (lv' := [(6, .int f6), (0, .ref a0), (1, .ref a1), (2, .int x2), (4, .int z3_4), (5, .int z3_5)]) X.1 X.2.1 dX6_readCondition_33 hl (by decide) rfl (fun ls hl => ?_)
          refine lv_iload X.1 X.2.1 dX6_readCondition_35 (lv_at hl 0 rfl) ?_
          refine lv_bipush (v := 38) X.1 X.2.1 dX6_readCondition_37 (by decide +kernel) ?_
          have B8_53 : ∀ (H : Heap) (locs : List Loc) (ls : Array Slot), sgG (KT P) D vwCl (fun q : Nat => base ≤ q) tys ad ks H → va_S (fun q : Nat => base ≤ q) s.heap H locs → lv_has ls 7 [(0, .ref a0), (1, .ref a1), (2, .int x2), (4, .int z3_4), (5, .int z3_5), (6, .int f6)] → W p l e (headSpec (Cond.code yX6_readCondition cX6_readCondition 7 (some .boolean) :: sg_tbl) ({ frames := 20, cells := 0, slots := 0, locals := 494 })).room s m #[.ref a0, .ref a1, .int x2, .int x3] below meth c H locs 0 0 (MQ below (va_Qi (fun r (_ : Unit) => (fun r : Int32 => iv 0 1 r) r) (fun _ => sgB (KT P) D vwCl base tys ad ks) (fun q : Nat => base ≤ q)) #[.ref a0, .ref a1, .int x2, .int x3] s 0 0 (fun q : Nat => base ≤ q)) (F0 m 53 ls []) := by
            intro H locs ls hG hS hl
            refine lv_iload X.1 X.2.1 dX6_readCondition_53 (lv_at hl 5 rfl) ?_
            refine lv_bipush (v := 38) X.1 X.2.1 dX6_readCondition_55 (by decide +kernel) ?_
            have B10_69 : ∀ (locs : List Loc) (ls : Array Slot), va_S (fun q : Nat => base ≤ q) s.heap H locs → lv_has ls 7 [(0, .ref a0), (1, .ref a1), (2, .int x2), (4, .int z3_4), (5, .int z3_5), (6, .int f6)] → W p l e (headSpec (Cond.code yX6_readCondition cX6_readCondition 7 (some .boolean) :: sg_tbl) ({ frames := 20, cells := 0, slots := 0, locals := 494 })).room s m #[.ref a0, .ref a1, .int x2, .int x3] below meth c H locs 0 0 (MQ below (va_Qi (fun r (_ : Unit) => (fun r : Int32 => iv 0 1 r) r) (fun _ => sgB (KT P) D vwCl base tys ad ks) (fun q : Nat => base ≤ q)) #[.ref a0, .ref a1, .int x2, .int x3] s 0 0 (fun q : Nat => base ≤ q)) (F0 m 69 ls []) := by
              intro locs ls hS hl
              refine lv_aload_n X.1 X.2.1 dX6_readCondition_69 rfl (lv_at hl 1 rfl) ?_
              refine ca_X10_step X hK hG hC hS hb a1 h1 wl_3_229 hl.1 (rest := []) rfl (Nat.le_of_ble_eq_true rfl) ⟨Nat.le_of_ble_eq_true rfl, Nat.le_of_ble_eq_true rfl⟩ ⟨Nat.le_of_ble_eq_true rfl, Nat.le_of_ble_eq_true rfl⟩ dX6_readCondition_70 (fun H locs hG hS => ?_)
              refine lv_aload_n X.1 X.2.1 dX6_readCondition_73 rfl (lv_at hl 0 rfl) ?_
              refine lv_aload_n X.1 X.2.1 dX6_readCondition_74 rfl (lv_at hl 1 rfl) ?_
              refine lv_iload_n X.1 X.2.1 dX6_readCondition_75 rfl (lv_at hl 2 rfl) ?_
              refine ca_X6_readUnit_0 X hK hG hC hS hb a0 h0 a1 h1 x2 h2 wl_4_9 hl.1 (rest := []) rfl (Nat.le_of_ble_eq_true rfl) ⟨Nat.le_of_ble_eq_true rfl, Nat.le_of_ble_eq_true rfl⟩ ⟨Nat.le_of_ble_eq_true rfl, Nat.le_of_ble_eq_true rfl⟩ dX6_readCondition_76 (fun f12 H locs hf12 hG hS => ?_)
              refine lv_if_ne (tgt := 84) X.1 X.2.1 dX6_readCondition_79 (by decide) (fun c13 => ?_) (fun c13 => ?_)
              · refine lv_iload X.1 X.2.1 dX6_readCondition_84 (lv_at hl 5 rfl) ?_
                refine lv_bipush (v := 38) X.1 X.2.1 dX6_readCondition_86 (by decide +kernel) ?_
                have B15_103 : ∀ (H : Heap) (locs : List Loc) (ls : Array Slot) (z15_4 : Int32), sgG (KT P) D vwCl (fun q : Nat => base ≤ q) tys ad ks H → va_S (fun q : Nat => base ≤ q) s.heap H locs → lv_has ls 7 [(0, .ref a0), (1, .ref a1), (2, .int x2), (4, .int z15_4), (5, .int z3_5)] → iv 0 1 z15_4 → W p l e (headSpec (Cond.code yX6_readCondition cX6_readCondition 7 (some .boolean) :: sg_tbl) ({ frames := 20, cells := 0, slots := 0, locals := 494 })).room s m #[.ref a0, .ref a1, .int x2, .int x3] below meth c H locs 0 0 (MQ below (va_Qi (fun r (_ : Unit) => (fun r : Int32 => iv 0 1 r) r) (fun _ => sgB (KT P) D vwCl base tys ad ks) (fun q : Nat => base ≤ q)) #[.ref a0, .ref a1, .int x2, .int x3] s 0 0 (fun q : Nat => base ≤ q)) (F0 m 103 ls []) := by
                  intro H locs ls z15_4 hG hS hl hz15_4
                  obtain ⟨y16, ey16⟩ : ∃ y : Int32, y = z3_5 + Int32.ofInt 1 := ⟨_, rfl⟩
                  refine lv_iinc (v := y16) (lv' := [(5, .int y16), (0, .ref a0), (1, .ref a1), (2, .int x2), (4, .int z15_4)]) X.1 X.2.1 dX6_readCondition_103 hl (k := 4) rfl ey16.symm (by decide) rfl (fun ls hl => ?_)
                  refine lv_goto (tgt := 21) X.1 X.2.1 dX6_readCondition_106 (by decide) ?_
                  exact ih3 H _ _ z15_4 y16 hG hS (lv_sub hl [1, 2, 3, 4, 0] rfl) hz15_4 (iv_of (iv_add (a' := 1) (b' := 240) ey16 (iv_lt (b' := 239) (iv_gt_of c4) hz3_5 (iv_c 240 (a := 240) (b := 240) (by decide +kernel)) (by decide +kernel)) (iv_c _ (a := 1) (b := 1) (by decide +kernel)) (by decide +kernel)) (a' := 0) (b' := 240) (by decide +kernel)) (iv_stepU ey16 (iv_lt (b' := 239) (iv_gt_of c4) hz3_5 (iv_c 240 (a := 240) (b := 240) (by decide +kernel)) (by decide +kernel)) (by decide +kernel) hN3)
                refine lv_icmp_ne (tgt := 100) X.1 X.2.1 dX6_readCondition_88 (by decide) (fun c14 => ?_) (fun c14 => ?_)
                · refine lv_iconst (v := 1) X.1 X.2.1 dX6_readCondition_100 (by decide +kernel) ?_
                  refine lv_istore (lv' := [(4, .int 1), (0, .ref a0), (1, .ref a1), (2, .int x2), (5, .int z3_5), (6, .int f6)]) X.1 X.2.1 dX6_readCondition_101 hl (by decide) rfl (fun ls hl => ?_)
                  exact B15_103 H _ _ 1 hG hS (lv_sub hl [1, 2, 3, 0, 4] rfl) (iv_of (iv_c 1 (a := 1) (b := 1) (by decide +kernel)) (a' := 0) (b' := 1) (by decide +kernel))
                · refine lv_aload_n X.1 X.2.1 dX6_readCondition_91 rfl (lv_at hl 0 rfl) ?_
                  refine lv_bipush (v := (-17)) X.1 X.2.1 dX6_readCondition_92 (by decide +kernel) ?_
                  refine ca_X6_put X hK hG hC hS hb a0 h0 (-17) wl_3_232 hl.1 (rest := []) rfl (Nat.le_of_ble_eq_true rfl) ⟨Nat.le_of_ble_eq_true rfl, Nat.le_of_ble_eq_true rfl⟩ ⟨Nat.le_of_ble_eq_true rfl, Nat.le_of_ble_eq_true rfl⟩ dX6_readCondition_94 (fun H locs hG hS => ?_)
                  refine lv_goto (tgt := 103) X.1 X.2.1 dX6_readCondition_97 (by decide) ?_
                  exact B15_103 H _ _ z3_4 hG hS (lv_sub hl [0, 1, 2, 3, 4] rfl) hz3_4
              · refine lv_iconst (v := 0) X.1 X.2.1 dX6_readCondition_82 (by decide +kernel) ?_
                exact sg_zret X hr (sg_zn (iv_of (iv_c 0 (a := 0) (b := 0) (by decide +kernel)) (a' := 0) (b' := 1) (by decide +kernel))) hlk hb hK hC hG hS (iv_of (iv_c 0 (a := 0) (b := 0) (by decide +kernel)) (a' := 0) (b' := 1) (by decide +kernel)) dX6_readCondition_83
            refine lv_icmp_eq (tgt := 69) X.1 X.2.1 dX6_readCondition_57 (by decide) (fun c9 => ?_) (fun c9 => ?_)
            · exact B10_69 _ _ hS (lv_sub hl [0, 1, 2, 3, 4, 5] rfl)
            · refine lv_iload X.1 X.2.1 dX6_readCondition_60 (lv_at hl 5 rfl) ?_
              refine lv_bipush (v := 124) X.1 X.2.1 dX6_readCondition_62 (by decide +kernel) ?_
              refine lv_icmp_eq (tgt := 69) X.1 X.2.1 dX6_readCondition_64 (by decide) (fun c18 => ?_) (fun c18 => ?_)
              · exact B10_69 _ _ hS (lv_sub hl [0, 1, 2, 3, 4, 5] rfl)
              · refine lv_iconst (v := 1) X.1 X.2.1 dX6_readCondition_67 (by decide +kernel) ?_
                exact sg_zret X hr (sg_zn (iv_of (iv_c 1 (a := 1) (b := 1) (by decide +kernel)) (a' := 0) (b' := 1) (by decide +kernel))) hlk hb hK hC hG hS (iv_of (iv_c 1 (a := 1) (b := 1) (by decide +kernel)) (a' := 0) (b' := 1) (by decide +kernel)) dX6_readCondition_68
          refine lv_icmp_eq (tgt := 53) X.1 X.2.1 dX6_readCondition_39 (by decide) (fun c7 => ?_) (fun c7 => ?_)
          · exact B8_53 H _ _ hG hS (lv_sub hl [1, 2, 3, 4, 5, 0] rfl)
          · refine lv_iload X.1 X.2.1 dX6_readCondition_42 (lv_at hl 4 rfl) ?_
            refine lv_if_eq (tgt := 53) X.1 X.2.1 dX6_readCondition_44 (by decide) (fun c19 => ?_) (fun c19 => ?_)
            · exact B8_53 H _ _ hG hS (lv_sub hl [1, 2, 3, 4, 5, 0] rfl)
            · refine lv_aload_n X.1 X.2.1 dX6_readCondition_47 rfl (lv_at hl 1 rfl) ?_
              refine lv_bipush (v := (-18)) X.1 X.2.1 dX6_readCondition_48 (by decide +kernel) ?_
              refine ca_X6_put X hK hG hC hS hb a0 h0 (-18) wl_3_232 hl.1 (rest := []) rfl (Nat.le_of_ble_eq_true rfl) ⟨Nat.le_of_ble_eq_true rfl, Nat.le_of_ble_eq_true rfl⟩ ⟨Nat.le_of_ble_eq_true rfl, Nat.le_of_ble_eq_true rfl⟩ dX6_readCondition_50 (fun H locs hG hS => ?_)
              exact B8_53 H _ _ hG hS (lv_sub hl [1, 2, 3, 4, 5, 0] rfl)
    exact B3_21 _ H _ _ 0 0 hG hS (lv_sub hl [2, 3, 4, 1, 0] rfl) (iv_of (iv_c 0 (a := 0) (b := 0) (by decide +kernel)) (a' := 0) (b' := 1) (by decide +kernel)) (iv_of (iv_c 0 (a := 0) (b := 0) (by decide +kernel)) (a' := 0) (b' := 240) (by decide +kernel)) (Nat.le_refl _)
  refine lv_if_ne (tgt := 15) X.1 X.2.1 dX6_readCondition_1 (by decide) (fun c1 => ?_) (fun c1 => ?_)
  · exact B2_15 s.heap _ _ hG hS (lv_sub hl [0, 1, 2] rfl)
  · refine lv_aload_n X.1 X.2.1 dX6_readCondition_4 rfl (lv_at hl 0 rfl) ?_
    refine lv_aload_n X.1 X.2.1 dX6_readCondition_5 rfl (lv_at hl 1 rfl) ?_
    refine lv_iload_n X.1 X.2.1 dX6_readCondition_6 rfl (lv_at hl 2 rfl) ?_
    refine ca_X6_readUnit_0 X hK hG hC hS hb a0 h0 a1 h1 x2 h2 wl_4_9 hl.1 (rest := []) rfl (Nat.le_of_ble_eq_true rfl) ⟨Nat.le_of_ble_eq_true rfl, Nat.le_of_ble_eq_true rfl⟩ ⟨Nat.le_of_ble_eq_true rfl, Nat.le_of_ble_eq_true rfl⟩ dX6_readCondition_7 (fun f21 H locs hf21 hG hS => ?_)
    refine lv_if_ne (tgt := 15) X.1 X.2.1 dX6_readCondition_10 (by decide) (fun c22 => ?_) (fun c22 => ?_)
    · exact B2_15 H _ _ hG hS (lv_sub hl [0, 1, 2] rfl)
    · refine lv_iconst (v := 0) X.1 X.2.1 dX6_readCondition_13 (by decide +kernel) ?_
      exact sg_zret X hr (sg_zn (iv_of (iv_c 0 (a := 0) (b := 0) (by decide +kernel)) (a' := 0) (b' := 1) (by decide +kernel))) hlk hb hK hC hG hS (iv_of (iv_c 0 (a := 0) (b := 0) (by decide +kernel)) (a' := 0) (b' := 1) (by decide +kernel)) dX6_readCondition_14

theorem ca_X6_readCondition_0   (X : CallFix p m c cc nL s args sg_tbl own) (hK : va_K D vwCl tys s) (hG : sgG (KT P) D vwCl (fun q : Nat => base ≤ q) tys ad ks H) (hC : sgC base s) (hS : va_S (fun q : Nat => base ≤ q) s.heap H locs) (hb : base ≤ s.heap.size) (a0 : Nat) (h0 : isK ad ks 6 a0) (a1 : Nat) (h1 : isK ad ks 10 a1) (x2 : Int32) (h2 : iv 0 0 x2) (x3 : Int32) (h3 : iv 0 1 x3) (hl : Cond.methodLink own index yX6_readCondition ∈ sg_tbl) (hsize : ls.size = nL) (hst : st0 = [.ref a1, .int x2, .int x3].reverse ++ .ref a0 :: rest) (hW : (rest.map fun v => v.category).sum ≤ 8) (hR : 21 ≤ R.frames ∧ 520 ≤ R.locals) (hf : cells ≤ R.cells ∧ slots ≤ R.slots) (hdg : decode cc pc = .ok (.invokevirtual index, 3)) (kk : ∀ (r : Int32) (H1 : Heap) (locs1 : List Loc), (fun r : Int32 => iv 0 1 r) r → sgG (KT P) D vwCl (fun q : Nat => base ≤ q) tys ad ks H1 → va_S (fun q : Nat => base ≤ q) s.heap H1 locs1 → W p l e R s m args below meth c H1 locs1 cells slots Q (F0 m (pc + 3) ls (.int r :: rest))) : W p l e R s m args below meth c H locs cells slots Q (F0 m pc ls st0) :=
  sg_callVi X hK hG hC hS hb (m_X6_readCondition_0 l a0 h0 a1 h1 x2 h2 x3 h3) h0 (k := 6) (ci := 6) rfl (C := RX6) (T := TX6) (N := 7) rfl wl_4_8 wl_1_3 wl_4_7 wl_0_15 (n := 3) (by decide +kernel) rfl rfl rfl hl hsize hst hW hR hf hdg kk

set_option maxHeartbeats 8000000 in
set_option maxRecDepth 100000 in
theorem m_X6_readClause (l : Launch) {D : va_G} {base : Nat} {tys : List (ClassId × FieldType)} {ad ks : List Nat} {P : sgPm} (a0 : Nat) (h0 : isK ad ks 6 a0) (a1 : Nat) (h1 : isK ad ks 10 a1) (x2 : Int32) (h2 : iv 0 63 x2) : sgMi l (KT P) D vwCl base tys ad ks yX6_readClause cX6_readClause 4 (some .boolean) ({ frames := 21, cells := 0, slots := 0, locals := 520 }) [.ref a0, .ref a1, .int x2] (fun r : Int32 => iv 0 1 r) := by
  refine sg_ofW (by decide +kernel) (Nat.le_of_ble_eq_true rfl) (fun p e s m below meth c X hr hlk hb hK hC hG ls hl => ?_)
  have hS : va_S (fun q : Nat => base ≤ q) s.heap s.heap [] := va_S.rf
  have hl : lv_has ls 4 [(0, .ref a0), (1, .ref a1), (2, .int x2)] := hl
  refine lv_aload_n X.1 X.2.1 dX6_readClause_0 rfl (lv_at hl 1 rfl) ?_
  refine lv_bipush (v := 121) X.1 X.2.1 dX6_readClause_1 (by decide +kernel) ?_
  refine ca_X10_demand X hK hG hC hS hb a1 h1 121 wl_3_214 hl.1 (rest := []) rfl (Nat.le_of_ble_eq_true rfl) ⟨Nat.le_of_ble_eq_true rfl, Nat.le_of_ble_eq_true rfl⟩ ⟨Nat.le_of_ble_eq_true rfl, Nat.le_of_ble_eq_true rfl⟩ dX6_readClause_3 (fun f1 H locs hf1 hG hS => ?_)
  refine lv_if_eq (tgt := 18) X.1 X.2.1 dX6_readClause_6 (by decide) (fun c2 => ?_) (fun c2 => ?_)
  · refine lv_iconst (v := 0) X.1 X.2.1 dX6_readClause_18 (by decide +kernel) ?_
    exact sg_zret X hr (sg_zn (iv_of (iv_c 0 (a := 0) (b := 0) (by decide +kernel)) (a' := 0) (b' := 1) (by decide +kernel))) hlk hb hK hC hG hS (iv_of (iv_c 0 (a := 0) (b := 0) (by decide +kernel)) (a' := 0) (b' := 1) (by decide +kernel)) dX6_readClause_19
  · refine lv_aload_n X.1 X.2.1 dX6_readClause_9 rfl (lv_at hl 1 rfl) ?_
    refine lv_bipush (v := 58) X.1 X.2.1 dX6_readClause_10 (by decide +kernel) ?_
    refine ca_X10_demand X hK hG hC hS hb a1 h1 58 wl_3_214 hl.1 (rest := []) rfl (Nat.le_of_ble_eq_true rfl) ⟨Nat.le_of_ble_eq_true rfl, Nat.le_of_ble_eq_true rfl⟩ ⟨Nat.le_of_ble_eq_true rfl, Nat.le_of_ble_eq_true rfl⟩ dX6_readClause_12 (fun f3 H locs hf3 hG hS => ?_)
    refine lv_if_ne (tgt := 20) X.1 X.2.1 dX6_readClause_15 (by decide) (fun c4 => ?_) (fun c4 => ?_)
    · refine lv_aload_n X.1 X.2.1 dX6_readClause_20 rfl (lv_at hl 0 rfl) ?_
      refine gf_X6_3 X hK hG h0 wl_1_69 dX6_readClause_21 (fun q5 hq5 kq5 => ?_)
      refine lv_iload_n X.1 X.2.1 dX6_readClause_24 rfl (lv_at hl 2 rfl) ?_
      refine lv_aload_n X.1 X.2.1 dX6_readClause_25 rfl (lv_at hl 0 rfl) ?_
      refine gf_X6_4 X hK hG h0 wl_1_70 dX6_readClause_26 (fun f6 hf6 kf6 => ?_)
      refine as_32 X hK hG hS hq5 (iv_vpin h2 (by decide +kernel)) ⟨_, rfl, hf6⟩ dX6_readClause_29 (fun H locs hG hS ru7 => ?_)
      refine lv_iconst (v := 0) X.1 X.2.1 dX6_readClause_30 (by decide +kernel) ?_
      refine lv_istore_n (lv' := [(3, .int 0), (0, .ref a0), (1, .ref a1), (2, .int x2)]) X.1 X.2.1 dX6_readClause_31 rfl hl (by decide) rfl (fun ls hl => ?_)
      refine lv_aload_n X.1 X.2.1 dX6_readClause_32 rfl (lv_at hl 2 rfl) ?_
      refine ca_X10_sign X hK hG hC (fun _ h => h) hS hb a1 h1 wl_3_219 hl.1 (rest := []) rfl (Nat.le_of_ble_eq_true rfl) ⟨Nat.le_of_ble_eq_true rfl, Nat.le_of_ble_eq_true rfl⟩ ⟨Nat.le_of_ble_eq_true rfl, Nat.le_of_ble_eq_true rfl⟩ dX6_readClause_33 (fun f8 locs hf8 hS => ?_)
      refine lv_bipush (v := 33) X.1 X.2.1 dX6_readClause_36 (by decide +kernel) ?_
      have B10_86 : ∀ (H : Heap) (locs : List Loc) (ls : Array Slot) (z10_3 : Int32), sgG (KT P) D vwCl (fun q : Nat => base ≤ q) tys ad ks H → va_S (fun q : Nat => base ≤ q) s.heap H locs → lv_has ls 4 [(0, .ref a0), (1, .ref a1), (2, .int x2), (3, .int z10_3)] → iv 0 1 z10_3 → W p l e (headSpec (Cond.code yX6_readClause cX6_readClause 4 (some .boolean) :: sg_tbl) ({ frames := 21, cells := 0, slots := 0, locals := 520 })).room s m #[.ref a0, .ref a1, .int x2] below meth c H locs 0 0 (MQ below (va_Qi (fun r (_ : Unit) => (fun r : Int32 => iv 0 1 r) r) (fun _ => sgB (KT P) D vwCl base tys ad ks) (fun q : Nat => base ≤ q)) #[.ref a0, .ref a1, .int x2] s 0 0 (fun q : Nat => base ≤ q)) (F0 m 86 ls []) := by
        intro H locs ls z10_3 hG hS hl hz10_3
        refine lv_aload_n X.1 X.2.1 dX6_readClause_86 rfl (lv_at hl 0 rfl) ?_
        refine lv_aload_n X.1 X.2.1 dX6_readClause_87 rfl (lv_at hl 1 rfl) ?_
        refine lv_iconst (v := 0) X.1 X.2.1 dX6_readClause_88 (by decide +kernel) ?_
        refine lv_iload_n X.1 X.2.1 dX6_readClause_89 rfl (lv_at hl 3 rfl) ?_
        refine ca_X6_readCondition_0 X hK hG hC hS hb a0 h0 a1 h1 0 (iv_c 0 (a := 0) (b := 0) (by decide +kernel)) z10_3 hz10_3 wl_4_5 hl.1 (rest := []) rfl (Nat.le_of_ble_eq_true rfl) ⟨Nat.le_of_ble_eq_true rfl, Nat.le_of_ble_eq_true rfl⟩ ⟨Nat.le_of_ble_eq_true rfl, Nat.le_of_ble_eq_true rfl⟩ dX6_readClause_90 (fun f11 H locs hf11 hG hS => ?_)
        refine lv_if_eq (tgt := 105) X.1 X.2.1 dX6_readClause_93 (by decide) (fun c12 => ?_) (fun c12 => ?_)
        · refine lv_iconst (v := 0) X.1 X.2.1 dX6_readClause_105 (by decide +kernel) ?_
          exact sg_zret X hr (sg_zn (iv_of (iv_c 0 (a := 0) (b := 0) (by decide +kernel)) (a' := 0) (b' := 1) (by decide +kernel))) hlk hb hK hC hG hS (iv_of (iv_c 0 (a := 0) (b := 0) (by decide +kernel)) (a' := 0) (b' := 1) (by decide +kernel)) dX6_readClause_106
        · refine lv_aload_n X.1 X.2.1 dX6_readClause_96 rfl (lv_at hl 1 rfl) ?_
          refine lv_bipush (v := 63) X.1 X.2.1 dX6_readClause_97 (by decide +kernel) ?_
          refine ca_X10_demand X hK hG hC hS hb a1 h1 63 wl_3_214 hl.1 (rest := []) rfl (Nat.le_of_ble_eq_true rfl) ⟨Nat.le_of_ble_eq_true rfl, Nat.le_of_ble_eq_true rfl⟩ ⟨Nat.le_of_ble_eq_true rfl, Nat.le_of_ble_eq_true rfl⟩ dX6_readClause_99 (fun f13 H locs hf13 hG hS => ?_)
          refine lv_if_ne (tgt := 107) X.1 X.2.1 dX6_readClause_102 (by decide) (fun c14 => ?_) (fun c14 => ?_)
          · refine lv_aload_n X.1 X.2.1 dX6_readClause_107 rfl (lv_at hl 0 rfl) ?_
            refine gf_X6_3 X hK hG h0 wl_1_69 dX6_readClause_108 (fun q15 hq15 kq15 => ?_)
            refine lv_iload_n X.1 X.2.1 dX6_readClause_111 rfl (lv_at hl 2 rfl) ?_
            refine lv_aload_n X.1 X.2.1 dX6_readClause_112 rfl (lv_at hl 0 rfl) ?_
            refine gf_X6_4 X hK hG h0 wl_1_70 dX6_readClause_113 (fun f16 hf16 kf16 => ?_)
            refine as_32 X hK hG hS hq15 (iv_vpin h2 (by decide +kernel)) ⟨_, rfl, hf16⟩ dX6_readClause_116 (fun H locs hG hS ru17 => ?_)
            refine lv_aload_n X.1 X.2.1 dX6_readClause_117 rfl (lv_at hl 0 rfl) ?_
            refine lv_aload_n X.1 X.2.1 dX6_readClause_118 rfl (lv_at hl 1 rfl) ?_
            refine lv_iconst (v := 0) X.1 X.2.1 dX6_readClause_119 (by decide +kernel) ?_
            refine ca_X6_readSum_0 X hK hG hC hS hb a0 h0 a1 h1 0 (iv_c 0 (a := 0) (b := 0) (by decide +kernel)) wl_3_220 hl.1 (rest := []) rfl (Nat.le_of_ble_eq_true rfl) ⟨Nat.le_of_ble_eq_true rfl, Nat.le_of_ble_eq_true rfl⟩ ⟨Nat.le_of_ble_eq_true rfl, Nat.le_of_ble_eq_true rfl⟩ dX6_readClause_120 (fun f18 H locs hf18 hG hS => ?_)
            exact sg_zret X hr (sg_zn hf18) hlk hb hK hC hG hS hf18 dX6_readClause_123
          · refine lv_iconst (v := 0) X.1 X.2.1 dX6_readClause_105 (by decide +kernel) ?_
            exact sg_zret X hr (sg_zn (iv_of (iv_c 0 (a := 0) (b := 0) (by decide +kernel)) (a' := 0) (b' := 1) (by decide +kernel))) hlk hb hK hC hG hS (iv_of (iv_c 0 (a := 0) (b := 0) (by decide +kernel)) (a' := 0) (b' := 1) (by decide +kernel)) dX6_readClause_106
      refine lv_icmp_eq (tgt := 86) X.1 X.2.1 dX6_readClause_38 (by decide) (fun c9 => ?_) (fun c9 => ?_)
      · exact B10_86 H _ _ 0 hG hS (lv_sub hl [1, 2, 3, 0] rfl) (iv_of (iv_c 0 (a := 0) (b := 0) (by decide +kernel)) (a' := 0) (b' := 1) (by decide +kernel))
      · refine lv_aload_n X.1 X.2.1 dX6_readClause_41 rfl (lv_at hl 2 rfl) ?_
        refine ca_X10_sign X hK hG hC (fun _ h => h) hS hb a1 h1 wl_3_219 hl.1 (rest := []) rfl (Nat.le_of_ble_eq_true rfl) ⟨Nat.le_of_ble_eq_true rfl, Nat.le_of_ble_eq_true rfl⟩ ⟨Nat.le_of_ble_eq_true rfl, Nat.le_of_ble_eq_true rfl⟩ dX6_readClause_42 (fun f19 locs hf19 hS => ?_)
        refine lv_bipush (v := 40) X.1 X.2.1 dX6_readClause_45 (by decide +kernel) ?_
        refine lv_icmp_eq (tgt := 86) X.1 X.2.1 dX6_readClause_47 (by decide) (fun c20 => ?_) (fun c20 => ?_)
        · exact B10_86 H _ _ 0 hG hS (lv_sub hl [1, 2, 3, 0] rfl) (iv_of (iv_c 0 (a := 0) (b := 0) (by decide +kernel)) (a' := 0) (b' := 1) (by decide +kernel))
        · refine lv_aload_n X.1 X.2.1 dX6_readClause_50 rfl (lv_at hl 1 rfl) ?_
          refine lv_aload_n X.1 X.2.1 dX6_readClause_51 rfl (lv_at hl 2 rfl) ?_
          refine lv_iconst (v := 0) X.1 X.2.1 dX6_readClause_52 (by decide +kernel) ?_
          refine ca_X6_readSum_0 X hK hG hC hS hb a0 h0 a1 h1 0 (iv_c 0 (a := 0) (b := 0) (by decide +kernel)) wl_3_220 hl.1 (rest := []) rfl (Nat.le_of_ble_eq_true rfl) ⟨Nat.le_of_ble_eq_true rfl, Nat.le_of_ble_eq_true rfl⟩ ⟨Nat.le_of_ble_eq_true rfl, Nat.le_of_ble_eq_true rfl⟩ dX6_readClause_53 (fun f21 H locs hf21 hG hS => ?_)
          refine lv_if_ne (tgt := 61) X.1 X.2.1 dX6_readClause_56 (by decide) (fun c22 => ?_) (fun c22 => ?_)
          · refine lv_aload_n X.1 X.2.1 dX6_readClause_61 rfl (lv_at hl 2 rfl) ?_
            refine ca_X10_sign X hK hG hC (fun _ h => h) hS hb a1 h1 wl_3_219 hl.1 (rest := []) rfl (Nat.le_of_ble_eq_true rfl) ⟨Nat.le_of_ble_eq_true rfl, Nat.le_of_ble_eq_true rfl⟩ ⟨Nat.le_of_ble_eq_true rfl, Nat.le_of_ble_eq_true rfl⟩ dX6_readClause_62 (fun f23 locs hf23 hS => ?_)
            refine ca_X6_comparison X hK hG hC (fun _ h => h) hS hb f23 wl_3_238 hl.1 (rest := []) rfl (Nat.le_of_ble_eq_true rfl) ⟨Nat.le_of_ble_eq_true rfl, Nat.le_of_ble_eq_true rfl⟩ ⟨Nat.le_of_ble_eq_true rfl, Nat.le_of_ble_eq_true rfl⟩ dX6_readClause_65 (fun f24 locs hf24 hS => ?_)
            refine lv_if_ne (tgt := 73) X.1 X.2.1 dX6_readClause_68 (by decide) (fun c25 => ?_) (fun c25 => ?_)
            · refine lv_aload_n X.1 X.2.1 dX6_readClause_73 rfl (lv_at hl 1 rfl) ?_
              refine lv_aload_n X.1 X.2.1 dX6_readClause_74 rfl (lv_at hl 2 rfl) ?_
              refine lv_iconst (v := 0) X.1 X.2.1 dX6_readClause_75 (by decide +kernel) ?_
              refine ca_X6_readComparison_0 X hK hG hC hS hb a0 h0 a1 h1 0 (iv_c 0 (a := 0) (b := 0) (by decide +kernel)) wl_4_1 hl.1 (rest := []) rfl (Nat.le_of_ble_eq_true rfl) ⟨Nat.le_of_ble_eq_true rfl, Nat.le_of_ble_eq_true rfl⟩ ⟨Nat.le_of_ble_eq_true rfl, Nat.le_of_ble_eq_true rfl⟩ dX6_readClause_76 (fun f26 H locs hf26 hG hS => ?_)
              refine lv_if_ne (tgt := 84) X.1 X.2.1 dX6_readClause_79 (by decide) (fun c27 => ?_) (fun c27 => ?_)
              · refine lv_iconst (v := 1) X.1 X.2.1 dX6_readClause_84 (by decide +kernel) ?_
                refine lv_istore_n (lv' := [(3, .int 1), (0, .ref a0), (1, .ref a1), (2, .int x2)]) X.1 X.2.1 dX6_readClause_85 rfl hl (by decide) rfl (fun ls hl => ?_)
                exact B10_86 H _ _ 1 hG hS (lv_sub hl [1, 2, 3, 0] rfl) (iv_of (iv_c 1 (a := 1) (b := 1) (by decide +kernel)) (a' := 0) (b' := 1) (by decide +kernel))
              · refine lv_iconst (v := 0) X.1 X.2.1 dX6_readClause_82 (by decide +kernel) ?_
                exact sg_zret X hr (sg_zn (iv_of (iv_c 0 (a := 0) (b := 0) (by decide +kernel)) (a' := 0) (b' := 1) (by decide +kernel))) hlk hb hK hC hG hS (iv_of (iv_c 0 (a := 0) (b := 0) (by decide +kernel)) (a' := 0) (b' := 1) (by decide +kernel)) dX6_readClause_83
            · refine lv_iconst (v := 1) X.1 X.2.1 dX6_readClause_71 (by decide +kernel) ?_
              exact sg_zret X hr (sg_zn (iv_of (iv_c 1 (a := 1) (b := 1) (by decide +kernel)) (a' := 0) (b' := 1) (by decide +kernel))) hlk hb hK hC hG hS (iv_of (iv_c 1 (a := 1) (b := 1) (by decide +kernel)) (a' := 0) (b' := 1) (by decide +kernel)) dX6_readClause_72
          · refine lv_iconst (v := 0) X.1 X.2.1 dX6_readClause_59 (by decide +kernel) ?_
            exact sg_zret X hr (sg_zn (iv_of (iv_c 0 (a := 0) (b := 0) (by decide +kernel)) (a' := 0) (b' := 1) (by decide +kernel))) hlk hb hK hC hG hS (iv_of (iv_c 0 (a := 0) (b := 0) (by decide +kernel)) (a' := 0) (b' := 1) (by decide +kernel)) dX6_readClause_60
    · refine lv_iconst (v := 0) X.1 X.2.1 dX6_readClause_18 (by decide +kernel) ?_
      exact sg_zret X hr (sg_zn (iv_of (iv_c 0 (a := 0) (b := 0) (by decide +kernel)) (a' := 0) (b' := 1) (by decide +kernel))) hlk hb hK hC hG hS (iv_of (iv_c 0 (a := 0) (b := 0) (by decide +kernel)) (a' := 0) (b' := 1) (by decide +kernel)) dX6_readClause_19

theorem ca_X6_readClause   (X : CallFix p m c cc nL s args sg_tbl own) (hK : va_K D vwCl tys s) (hG : sgG (KT P) D vwCl (fun q : Nat => base ≤ q) tys ad ks H) (hC : sgC base s) (hS : va_S (fun q : Nat => base ≤ q) s.heap H locs) (hb : base ≤ s.heap.size) (a0 : Nat) (h0 : isK ad ks 6 a0) (a1 : Nat) (h1 : isK ad ks 10 a1) (x2 : Int32) (h2 : iv 0 63 x2) (hl : Cond.methodLink own index yX6_readClause ∈ sg_tbl) (hsize : ls.size = nL) (hst : st0 = [.ref a1, .int x2].reverse ++ .ref a0 :: rest) (hW : (rest.map fun v => v.category).sum ≤ 8) (hR : 22 ≤ R.frames ∧ 543 ≤ R.locals) (hf : cells ≤ R.cells ∧ slots ≤ R.slots) (hdg : decode cc pc = .ok (.invokevirtual index, 3)) (kk : ∀ (r : Int32) (H1 : Heap) (locs1 : List Loc), (fun r : Int32 => iv 0 1 r) r → sgG (KT P) D vwCl (fun q : Nat => base ≤ q) tys ad ks H1 → va_S (fun q : Nat => base ≤ q) s.heap H1 locs1 → W p l e R s m args below meth c H1 locs1 cells slots Q (F0 m (pc + 3) ls (.int r :: rest))) : W p l e R s m args below meth c H locs cells slots Q (F0 m pc ls st0) :=
  sg_callVi X hK hG hC hS hb (m_X6_readClause l a0 h0 a1 h1 x2 h2) h0 (k := 6) (ci := 6) rfl (C := RX6) (T := TX6) (N := 7) rfl wl_3_213 wl_1_3 wl_3_212 wl_0_10 (n := 2) (by decide +kernel) rfl rfl rfl hl hsize hst hW hR hf hdg kk

set_option maxHeartbeats 8000000 in
set_option maxRecDepth 100000 in
theorem m_X6_read (l : Launch) {D : va_G} {base : Nat} {tys : List (ClassId × FieldType)} {ad ks : List Nat} {P : sgPm} (a0 : Nat) (h0 : isK ad ks 6 a0) (a1 : Nat) (h1 : isK ad ks 10 a1) : sgMi l (KT P) D vwCl base tys ad ks yX6_read cX6_read 3 (some .boolean) ({ frames := 22, cells := 0, slots := 0, locals := 543 }) [.ref a0, .ref a1] (fun r : Int32 => iv 0 1 r) := by
  refine sg_ofW (by decide +kernel) (Nat.le_of_ble_eq_true rfl) (fun p e s m below meth c X hr hlk hb hK hC hG ls hl => ?_)
  have hS : va_S (fun q : Nat => base ≤ q) s.heap s.heap [] := va_S.rf
  have hl : lv_has ls 3 [(0, .ref a0), (1, .ref a1)] := hl
  refine lv_aload_n X.1 X.2.1 dX6_read_0 rfl (lv_at hl 1 rfl) ?_
  refine ca_X10_rewind X hK hG hC hS hb a1 h1 wl_3_209 hl.1 (rest := []) rfl (Nat.le_of_ble_eq_true rfl) ⟨Nat.le_of_ble_eq_true rfl, Nat.le_of_ble_eq_true rfl⟩ ⟨Nat.le_of_ble_eq_true rfl, Nat.le_of_ble_eq_true rfl⟩ dX6_read_1 (fun H locs hG hS => ?_)
  refine lv_aload_n X.1 X.2.1 dX6_read_4 rfl (lv_at hl 0 rfl) ?_
  refine lv_iconst (v := 0) X.1 X.2.1 dX6_read_5 (by decide +kernel) ?_
  refine pf_X6_4 X hK hG hS h0 wl_1_70 ⟨_, rfl, (iv_of (iv_c 0 (a := 0) (b := 0) (by decide +kernel)) (a' := 0) (b' := 240) (by decide +kernel))⟩ dX6_read_6 (fun H locs hG hS ku2 ru2 => ?_)
  refine lv_aload_n X.1 X.2.1 dX6_read_9 rfl (lv_at hl 0 rfl) ?_
  refine lv_iconst (v := 0) X.1 X.2.1 dX6_read_10 (by decide +kernel) ?_
  refine pf_X6_6 X hK hG hS h0 wl_1_72 ⟨_, rfl, (iv_of (iv_c 0 (a := 0) (b := 0) (by decide +kernel)) (a' := 0) (b' := 1) (by decide +kernel))⟩ dX6_read_11 (fun H locs hG hS ku3 ru3 => ?_)
  refine lv_aload_n X.1 X.2.1 dX6_read_14 rfl (lv_at hl 0 rfl) ?_
  refine lv_iconst (v := 0) X.1 X.2.1 dX6_read_15 (by decide +kernel) ?_
  refine pf_X6_5 X hK hG hS h0 wl_1_71 ⟨_, rfl, (iv_of (iv_c 0 (a := 0) (b := 0) (by decide +kernel)) (a' := 0) (b' := 64) (by decide +kernel))⟩ dX6_read_16 (fun H locs hG hS ku4 ru4 => ?_)
  refine lv_iconst (v := 0) X.1 X.2.1 dX6_read_19 (by decide +kernel) ?_
  refine lv_istore_n (lv' := [(2, .int 0), (0, .ref a0), (1, .ref a1)]) X.1 X.2.1 dX6_read_20 rfl hl (by decide) rfl (fun ls hl => ?_)
  have B5_21 : ∀ (N : Nat) (H : Heap) (locs : List Loc) (ls : Array Slot) (z5_2 : Int32), sgG (KT P) D vwCl (fun q : Nat => base ≤ q) tys ad ks H → va_S (fun q : Nat => base ≤ q) s.heap H locs → lv_has ls 3 [(0, .ref a0), (1, .ref a1), (2, .int z5_2)] → iv 0 64 z5_2 → (65 - z5_2.toInt).toNat ≤ N → W p l e (headSpec (Cond.code yX6_read cX6_read 3 (some .boolean) :: sg_tbl) ({ frames := 22, cells := 0, slots := 0, locals := 543 })).room s m #[.ref a0, .ref a1] below meth c H locs 0 0 (MQ below (va_Qi (fun r (_ : Unit) => (fun r : Int32 => iv 0 1 r) r) (fun _ => sgB (KT P) D vwCl base tys ad ks) (fun q : Nat => base ≤ q)) #[.ref a0, .ref a1] s 0 0 (fun q : Nat => base ≤ q)) (F0 m 21 ls []) := by
    intro N; induction N with
    | zero =>
      intro H locs ls z5_2 hG hS hl hz5_2 hN
      exact absurd hN (by have := iv_up hz5_2; omega)
    | succ N ih5 =>
      intro H locs ls z5_2 hG hS hl hz5_2 hN5
      refine lv_iload_n X.1 X.2.1 dX6_read_21 rfl (lv_at hl 2 rfl) ?_
      refine lv_bipush (v := 64) X.1 X.2.1 dX6_read_22 (by decide +kernel) ?_
      have B7_77 : ∀ (H : Heap) (locs : List Loc) (ls : Array Slot), sgG (KT P) D vwCl (fun q : Nat => base ≤ q) tys ad ks H → va_S (fun q : Nat => base ≤ q) s.heap H locs → lv_has ls 3 [(0, .ref a0), (1, .ref a1)] → W p l e (headSpec (Cond.code yX6_read cX6_read 3 (some .boolean) :: sg_tbl) ({ frames := 22, cells := 0, slots := 0, locals := 543 })).room s m #[.ref a0, .ref a1] below meth c H locs 0 0 (MQ below (va_Qi (fun r (_ : Unit) => (fun r : Int32 => iv 0 1 r) r) (fun _ => sgB (KT P) D vwCl base tys ad ks) (fun q : Nat => base ≤ q)) #[.ref a0, .ref a1] s 0 0 (fun q : Nat => base ≤ q)) (F0 m 77 ls []) := by
        intro H locs ls hG hS hl
        refine lv_aload_n X.1 X.2.1 dX6_read_77 rfl (lv_at hl 0 rfl) ?_
        refine gf_X6_2 X hK hG h0 wl_1_68 dX6_read_78 (fun q8 hq8 kq8 => ?_)
        refine lv_aload_n X.1 X.2.1 dX6_read_81 rfl (lv_at hl 0 rfl) ?_
        refine gf_X6_5 X hK hG h0 wl_1_71 dX6_read_82 (fun f9 hf9 kf9 => ?_)
        refine lv_aload_n X.1 X.2.1 dX6_read_85 rfl (lv_at hl 0 rfl) ?_
        refine gf_X6_4 X hK hG h0 wl_1_70 dX6_read_86 (fun f10 hf10 kf10 => ?_)
        refine as_31 X hK hG hS hq8 (iv_vpin hf9 (by decide +kernel)) ⟨_, rfl, hf10⟩ dX6_read_89 (fun H locs hG hS ru11 => ?_)
        refine lv_aload_n X.1 X.2.1 dX6_read_90 rfl (lv_at hl 1 rfl) ?_
        refine ca_X10_ended X hK hG hC hS hb a1 h1 wl_4_13 hl.1 (rest := []) rfl (Nat.le_of_ble_eq_true rfl) ⟨Nat.le_of_ble_eq_true rfl, Nat.le_of_ble_eq_true rfl⟩ ⟨Nat.le_of_ble_eq_true rfl, Nat.le_of_ble_eq_true rfl⟩ dX6_read_91 (fun f12 H locs hf12 hG hS => ?_)
        exact sg_zret X hr (sg_zn hf12) hlk hb hK hC hG hS hf12 dX6_read_94
      refine lv_icmp_ge (tgt := 77) X.1 X.2.1 dX6_read_24 (by decide) (fun c6 => ?_) (fun c6 => ?_)
      · exact B7_77 H _ _ hG hS (lv_sub hl [0, 1] rfl)
      · refine lv_aload_n X.1 X.2.1 dX6_read_27 rfl (lv_at hl 0 rfl) ?_
        refine gf_X6_2 X hK hG h0 wl_1_68 dX6_read_28 (fun q13 hq13 kq13 => ?_)
        refine lv_iload_n X.1 X.2.1 dX6_read_31 rfl (lv_at hl 2 rfl) ?_
        refine lv_aload_n X.1 X.2.1 dX6_read_32 rfl (lv_at hl 0 rfl) ?_
        refine gf_X6_4 X hK hG h0 wl_1_70 dX6_read_33 (fun f14 hf14 kf14 => ?_)
        refine as_31 X hK hG hS hq13 (iv_vpin (iv_lt (b' := 63) (iv_gt_of c6) hz5_2 (iv_c 64 (a := 64) (b := 64) (by decide +kernel)) (by decide +kernel)) (by decide +kernel)) ⟨_, rfl, hf14⟩ dX6_read_36 (fun H locs hG hS ru15 => ?_)
        refine lv_aload_n X.1 X.2.1 dX6_read_37 rfl (lv_at hl 0 rfl) ?_
        refine lv_aload_n X.1 X.2.1 dX6_read_38 rfl (lv_at hl 1 rfl) ?_
        refine lv_iload_n X.1 X.2.1 dX6_read_39 rfl (lv_at hl 2 rfl) ?_
        refine ca_X6_readClause X hK hG hC hS hb a0 h0 a1 h1 z5_2 (iv_lt (b' := 63) (iv_gt_of c6) hz5_2 (iv_c 64 (a := 64) (b := 64) (by decide +kernel)) (by decide +kernel)) wl_3_210 hl.1 (rest := []) rfl (Nat.le_of_ble_eq_true rfl) ⟨Nat.le_of_ble_eq_true rfl, Nat.le_of_ble_eq_true rfl⟩ ⟨Nat.le_of_ble_eq_true rfl, Nat.le_of_ble_eq_true rfl⟩ dX6_read_40 (fun f16 H locs hf16 hG hS => ?_)
        refine lv_if_ne (tgt := 48) X.1 X.2.1 dX6_read_43 (by decide) (fun c17 => ?_) (fun c17 => ?_)
        · refine lv_aload_n X.1 X.2.1 dX6_read_48 rfl (lv_at hl 0 rfl) ?_
          refine lv_iload_n X.1 X.2.1 dX6_read_49 rfl (lv_at hl 2 rfl) ?_
          refine lv_iconst (v := 1) X.1 X.2.1 dX6_read_50 (by decide +kernel) ?_
          refine lv_iadd X.1 X.2.1 dX6_read_51 ?_
          refine lv_topi (fun f18 ef18 => ?_)
          refine pf_X6_5 X hK hG hS h0 wl_1_71 ⟨_, rfl, (iv_of (iv_add (a' := 1) (b' := 64) ef18 (iv_lt (b' := 63) (iv_gt_of c6) hz5_2 (iv_c 64 (a := 64) (b := 64) (by decide +kernel)) (by decide +kernel)) (iv_c 1 (a := 1) (b := 1) (by decide +kernel)) (by decide +kernel)) (a' := 0) (b' := 64) (by decide +kernel))⟩ dX6_read_52 (fun H locs hG hS ku19 ru19 => ?_)
          refine lv_aload_n X.1 X.2.1 dX6_read_55 rfl (lv_at hl 1 rfl) ?_
          refine ca_X10_sign X hK hG hC (fun _ h => h) hS hb a1 h1 wl_3_219 hl.1 (rest := []) rfl (Nat.le_of_ble_eq_true rfl) ⟨Nat.le_of_ble_eq_true rfl, Nat.le_of_ble_eq_true rfl⟩ ⟨Nat.le_of_ble_eq_true rfl, Nat.le_of_ble_eq_true rfl⟩ dX6_read_56 (fun f20 locs hf20 hS => ?_)
          refine lv_bipush (v := 59) X.1 X.2.1 dX6_read_59 (by decide +kernel) ?_
          refine lv_icmp_eq (tgt := 67) X.1 X.2.1 dX6_read_61 (by decide) (fun c21 => ?_) (fun c21 => ?_)
          · refine lv_aload_n X.1 X.2.1 dX6_read_67 rfl (lv_at hl 1 rfl) ?_
            refine ca_X10_step X hK hG hC hS hb a1 h1 wl_3_229 hl.1 (rest := []) rfl (Nat.le_of_ble_eq_true rfl) ⟨Nat.le_of_ble_eq_true rfl, Nat.le_of_ble_eq_true rfl⟩ ⟨Nat.le_of_ble_eq_true rfl, Nat.le_of_ble_eq_true rfl⟩ dX6_read_68 (fun H locs hG hS => ?_)
            obtain ⟨y23, ey23⟩ : ∃ y : Int32, y = z5_2 + Int32.ofInt 1 := ⟨_, rfl⟩
            refine lv_iinc (v := y23) (lv' := [(2, .int y23), (0, .ref a0), (1, .ref a1)]) X.1 X.2.1 dX6_read_71 hl (k := 2) rfl ey23.symm (by decide) rfl (fun ls hl => ?_)
            refine lv_goto (tgt := 21) X.1 X.2.1 dX6_read_74 (by decide) ?_
            exact ih5 H _ _ y23 hG hS (lv_sub hl [1, 2, 0] rfl) (iv_of (iv_add (a' := 1) (b' := 64) ey23 (iv_lt (b' := 63) (iv_gt_of c6) hz5_2 (iv_c 64 (a := 64) (b := 64) (by decide +kernel)) (by decide +kernel)) (iv_c _ (a := 1) (b := 1) (by decide +kernel)) (by decide +kernel)) (a' := 0) (b' := 64) (by decide +kernel)) (iv_stepU ey23 (iv_lt (b' := 63) (iv_gt_of c6) hz5_2 (iv_c 64 (a := 64) (b := 64) (by decide +kernel)) (by decide +kernel)) (by decide +kernel) hN5)
          · refine lv_goto (tgt := 77) X.1 X.2.1 dX6_read_64 (by decide) ?_
            exact B7_77 H _ _ hG hS (lv_sub hl [0, 1] rfl)
        · refine lv_iconst (v := 0) X.1 X.2.1 dX6_read_46 (by decide +kernel) ?_
          exact sg_zret X hr (sg_zn (iv_of (iv_c 0 (a := 0) (b := 0) (by decide +kernel)) (a' := 0) (b' := 1) (by decide +kernel))) hlk hb hK hC hG hS (iv_of (iv_c 0 (a := 0) (b := 0) (by decide +kernel)) (a' := 0) (b' := 1) (by decide +kernel)) dX6_read_47
  exact B5_21 _ H _ _ 0 hG hS (lv_sub hl [1, 2, 0] rfl) (iv_of (iv_c 0 (a := 0) (b := 0) (by decide +kernel)) (a' := 0) (b' := 64) (by decide +kernel)) (Nat.le_refl _)

theorem ca_X6_read   (X : CallFix p m c cc nL s args sg_tbl own) (hK : va_K D vwCl tys s) (hG : sgG (KT P) D vwCl (fun q : Nat => base ≤ q) tys ad ks H) (hC : sgC base s) (hS : va_S (fun q : Nat => base ≤ q) s.heap H locs) (hb : base ≤ s.heap.size) (a0 : Nat) (h0 : isK ad ks 6 a0) (a1 : Nat) (h1 : isK ad ks 10 a1) (hl : Cond.methodLink own index yX6_read ∈ sg_tbl) (hsize : ls.size = nL) (hst : st0 = [.ref a1].reverse ++ .ref a0 :: rest) (hW : (rest.map fun v => v.category).sum ≤ 8) (hR : 23 ≤ R.frames ∧ 565 ≤ R.locals) (hf : cells ≤ R.cells ∧ slots ≤ R.slots) (hdg : decode cc pc = .ok (.invokevirtual index, 3)) (kk : ∀ (r : Int32) (H1 : Heap) (locs1 : List Loc), (fun r : Int32 => iv 0 1 r) r → sgG (KT P) D vwCl (fun q : Nat => base ≤ q) tys ad ks H1 → va_S (fun q : Nat => base ≤ q) s.heap H1 locs1 → W p l e R s m args below meth c H1 locs1 cells slots Q (F0 m (pc + 3) ls (.int r :: rest))) : W p l e R s m args below meth c H locs cells slots Q (F0 m pc ls st0) :=
  sg_callVi X hK hG hC hS hb (m_X6_read l a0 h0 a1 h1) h0 (k := 6) (ci := 6) rfl (C := RX6) (T := TX6) (N := 7) rfl wl_3_208 wl_1_3 wl_3_206 wl_3_207 (n := 1) (by decide +kernel) rfl rfl rfl hl hsize hst hW hR hf hdg kk
end
