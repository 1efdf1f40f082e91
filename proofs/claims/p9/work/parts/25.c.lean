abbrev cX11_drought : ByteArray := prog_1_method_15_code
def yX11_drought : MethodName := ⟨RX11, "drought", "(I)Z"⟩
abbrev cX11_law : ByteArray := prog_1_method_14_code
def yX11_law : MethodName := ⟨RX11, "law", "(I)Z"⟩
abbrev cX11_lookByLaw : ByteArray := prog_1_method_7_code
def yX11_lookByLaw : MethodName := ⟨RX11, "lookByLaw", "()V"⟩
abbrev cX11_tellLawn : ByteArray := prog_1_method_6_code
def yX11_tellLawn : MethodName := ⟨RX11, "tellLawn", "()I"⟩
abbrev cX11_text : ByteArray := prog_1_method_5_code
def yX11_text : MethodName := ⟨RX11, "text", "(I)I"⟩
theorem dX11_drought_0 : decode cX11_drought 0 = .ok (.iload_n 1, 1) := by decide +kernel
theorem dX11_drought_1 : decode cX11_drought 1 = .ok (.ifCond .lt 17, 3) := by decide +kernel
theorem dX11_drought_4 : decode cX11_drought 4 = .ok (.iload_n 1, 1) := by decide +kernel
theorem dX11_drought_5 : decode cX11_drought 5 = .ok (.bipush 99, 2) := by decide +kernel
theorem dX11_drought_7 : decode cX11_drought 7 = .ok (.if_icmp .gt 11, 3) := by decide +kernel
theorem dX11_drought_10 : decode cX11_drought 10 = .ok (.iload_n 1, 1) := by decide +kernel
theorem dX11_drought_11 : decode cX11_drought 11 = .ok (.aload_n 0, 1) := by decide +kernel
theorem dX11_drought_12 : decode cX11_drought 12 = .ok (.getfield 187, 3) := by decide +kernel
theorem dX11_drought_15 : decode cX11_drought 15 = .ok (.if_icmp .ne 5, 3) := by decide +kernel
theorem dX11_drought_18 : decode cX11_drought 18 = .ok (.iconst 0, 1) := by decide +kernel
theorem dX11_drought_19 : decode cX11_drought 19 = .ok (.ireturn, 1) := by decide +kernel
theorem dX11_drought_20 : decode cX11_drought 20 = .ok (.aload_n 0, 1) := by decide +kernel
theorem dX11_drought_21 : decode cX11_drought 21 = .ok (.iload_n 1, 1) := by decide +kernel
theorem dX11_drought_22 : decode cX11_drought 22 = .ok (.putfield 187, 3) := by decide +kernel
theorem dX11_drought_25 : decode cX11_drought 25 = .ok (.iconst 1, 1) := by decide +kernel
theorem dX11_drought_26 : decode cX11_drought 26 = .ok (.ireturn, 1) := by decide +kernel
theorem dX11_law_0 : decode cX11_law 0 = .ok (.iload_n 1, 1) := by decide +kernel
theorem dX11_law_1 : decode cX11_law 1 = .ok (.iconst (-1), 1) := by decide +kernel
theorem dX11_law_2 : decode cX11_law 2 = .ok (.if_icmp .lt 11, 3) := by decide +kernel
theorem dX11_law_5 : decode cX11_law 5 = .ok (.iload_n 1, 1) := by decide +kernel
theorem dX11_law_6 : decode cX11_law 6 = .ok (.aload_n 0, 1) := by decide +kernel
theorem dX11_law_7 : decode cX11_law 7 = .ok (.getfield 115, 3) := by decide +kernel
theorem dX11_law_10 : decode cX11_law 10 = .ok (.if_icmp .lt 5, 3) := by decide +kernel
theorem dX11_law_13 : decode cX11_law 13 = .ok (.iconst 0, 1) := by decide +kernel
theorem dX11_law_14 : decode cX11_law 14 = .ok (.ireturn, 1) := by decide +kernel
theorem dX11_law_15 : decode cX11_law 15 = .ok (.aload_n 0, 1) := by decide +kernel
theorem dX11_law_16 : decode cX11_law 16 = .ok (.iload_n 1, 1) := by decide +kernel
theorem dX11_law_17 : decode cX11_law 17 = .ok (.putfield 93, 3) := by decide +kernel
theorem dX11_law_20 : decode cX11_law 20 = .ok (.aload_n 0, 1) := by decide +kernel
theorem dX11_law_21 : decode cX11_law 21 = .ok (.invokevirtual 145, 3) := by decide +kernel
theorem dX11_law_24 : decode cX11_law 24 = .ok (.iconst 1, 1) := by decide +kernel
theorem dX11_law_25 : decode cX11_law 25 = .ok (.ireturn, 1) := by decide +kernel
theorem dX11_lookByLaw_0 : decode cX11_lookByLaw 0 = .ok (.aload_n 0, 1) := by decide +kernel
theorem dX11_lookByLaw_1 : decode cX11_lookByLaw 1 = .ok (.getfield 93, 3) := by decide +kernel
theorem dX11_lookByLaw_4 : decode cX11_lookByLaw 4 = .ok (.ifCond .lt 18, 3) := by decide +kernel
theorem dX11_lookByLaw_7 : decode cX11_lookByLaw 7 = .ok (.aload_n 0, 1) := by decide +kernel
theorem dX11_lookByLaw_8 : decode cX11_lookByLaw 8 = .ok (.getfield 93, 3) := by decide +kernel
theorem dX11_lookByLaw_11 : decode cX11_lookByLaw 11 = .ok (.aload_n 0, 1) := by decide +kernel
theorem dX11_lookByLaw_12 : decode cX11_lookByLaw 12 = .ok (.getfield 115, 3) := by decide +kernel
theorem dX11_lookByLaw_15 : decode cX11_lookByLaw 15 = .ok (.if_icmp .ge 7, 3) := by decide +kernel
theorem dX11_lookByLaw_18 : decode cX11_lookByLaw 18 = .ok (.iconst 1, 1) := by decide +kernel
theorem dX11_lookByLaw_19 : decode cX11_lookByLaw 19 = .ok (.goto 4, 3) := by decide +kernel
theorem dX11_lookByLaw_22 : decode cX11_lookByLaw 22 = .ok (.iconst 0, 1) := by decide +kernel
theorem dX11_lookByLaw_23 : decode cX11_lookByLaw 23 = .ok (.istore_n 1, 1) := by decide +kernel
theorem dX11_lookByLaw_24 : decode cX11_lookByLaw 24 = .ok (.aload_n 0, 1) := by decide +kernel
theorem dX11_lookByLaw_25 : decode cX11_lookByLaw 25 = .ok (.getfield 59, 3) := by decide +kernel
theorem dX11_lookByLaw_28 : decode cX11_lookByLaw 28 = .ok (.aload_n 0, 1) := by decide +kernel
theorem dX11_lookByLaw_29 : decode cX11_lookByLaw 29 = .ok (.getfield 47, 3) := by decide +kernel
theorem dX11_lookByLaw_32 : decode cX11_lookByLaw 32 = .ok (.iload_n 1, 1) := by decide +kernel
theorem dX11_lookByLaw_33 : decode cX11_lookByLaw 33 = .ok (.ifCond .eq 15, 3) := by decide +kernel
theorem dX11_lookByLaw_36 : decode cX11_lookByLaw 36 = .ok (.aload_n 0, 1) := by decide +kernel
theorem dX11_lookByLaw_37 : decode cX11_lookByLaw 37 = .ok (.getfield 18, 3) := by decide +kernel
theorem dX11_lookByLaw_40 : decode cX11_lookByLaw 40 = .ok (.aload_n 0, 1) := by decide +kernel
theorem dX11_lookByLaw_41 : decode cX11_lookByLaw 41 = .ok (.getfield 93, 3) := by decide +kernel
theorem dX11_lookByLaw_44 : decode cX11_lookByLaw 44 = .ok (.aaload, 1) := by decide +kernel
theorem dX11_lookByLaw_45 : decode cX11_lookByLaw 45 = .ok (.goto 4, 3) := by decide +kernel
theorem dX11_lookByLaw_48 : decode cX11_lookByLaw 48 = .ok (.aconst_null, 1) := by decide +kernel
theorem dX11_lookByLaw_49 : decode cX11_lookByLaw 49 = .ok (.invokevirtual 151, 3) := by decide +kernel
theorem dX11_lookByLaw_52 : decode cX11_lookByLaw 52 = .ok (.return_, 1) := by decide +kernel
theorem dX11_tellLawn_0 : decode cX11_tellLawn 0 = .ok (.aload_n 0, 1) := by decide +kernel
theorem dX11_tellLawn_1 : decode cX11_tellLawn 1 = .ok (.getfield 51, 3) := by decide +kernel
theorem dX11_tellLawn_4 : decode cX11_tellLawn 4 = .ok (.aload_n 0, 1) := by decide +kernel
theorem dX11_tellLawn_5 : decode cX11_tellLawn 5 = .ok (.getfield 10, 3) := by decide +kernel
theorem dX11_tellLawn_8 : decode cX11_tellLawn 8 = .ok (.invokevirtual 108, 3) := by decide +kernel
theorem dX11_tellLawn_11 : decode cX11_tellLawn 11 = .ok (.ifCond .ne 5, 3) := by decide +kernel
theorem dX11_tellLawn_14 : decode cX11_tellLawn 14 = .ok (.iconst (-1), 1) := by decide +kernel
theorem dX11_tellLawn_15 : decode cX11_tellLawn 15 = .ok (.ireturn, 1) := by decide +kernel
theorem dX11_tellLawn_16 : decode cX11_tellLawn 16 = .ok (.aload_n 0, 1) := by decide +kernel
theorem dX11_tellLawn_17 : decode cX11_tellLawn 17 = .ok (.getfield 47, 3) := by decide +kernel
theorem dX11_tellLawn_20 : decode cX11_tellLawn 20 = .ok (.astore_n 1, 1) := by decide +kernel
theorem dX11_tellLawn_21 : decode cX11_tellLawn 21 = .ok (.aload_n 0, 1) := by decide +kernel
theorem dX11_tellLawn_22 : decode cX11_tellLawn 22 = .ok (.aload_n 0, 1) := by decide +kernel
theorem dX11_tellLawn_23 : decode cX11_tellLawn 23 = .ok (.getfield 51, 3) := by decide +kernel
theorem dX11_tellLawn_26 : decode cX11_tellLawn 26 = .ok (.putfield 47, 3) := by decide +kernel
theorem dX11_tellLawn_29 : decode cX11_tellLawn 29 = .ok (.aload_n 0, 1) := by decide +kernel
theorem dX11_tellLawn_30 : decode cX11_tellLawn 30 = .ok (.aload_n 1, 1) := by decide +kernel
theorem dX11_tellLawn_31 : decode cX11_tellLawn 31 = .ok (.putfield 51, 3) := by decide +kernel
theorem dX11_tellLawn_34 : decode cX11_tellLawn 34 = .ok (.aload_n 0, 1) := by decide +kernel
theorem dX11_tellLawn_35 : decode cX11_tellLawn 35 = .ok (.getfield 10, 3) := by decide +kernel
theorem dX11_tellLawn_38 : decode cX11_tellLawn 38 = .ok (.iconst 0, 1) := by decide +kernel
theorem dX11_tellLawn_39 : decode cX11_tellLawn 39 = .ok (.putfield 101, 3) := by decide +kernel
theorem dX11_tellLawn_42 : decode cX11_tellLawn 42 = .ok (.aload_n 0, 1) := by decide +kernel
theorem dX11_tellLawn_43 : decode cX11_tellLawn 43 = .ok (.getfield 33, 3) := by decide +kernel
theorem dX11_tellLawn_46 : decode cX11_tellLawn 46 = .ok (.aload_n 0, 1) := by decide +kernel
theorem dX11_tellLawn_47 : decode cX11_tellLawn 47 = .ok (.getfield 47, 3) := by decide +kernel
theorem dX11_tellLawn_50 : decode cX11_tellLawn 50 = .ok (.getfield 127, 3) := by decide +kernel
theorem dX11_tellLawn_53 : decode cX11_tellLawn 53 = .ok (.aload_n 0, 1) := by decide +kernel
theorem dX11_tellLawn_54 : decode cX11_tellLawn 54 = .ok (.getfield 47, 3) := by decide +kernel
theorem dX11_tellLawn_57 : decode cX11_tellLawn 57 = .ok (.getfield 130, 3) := by decide +kernel
theorem dX11_tellLawn_60 : decode cX11_tellLawn 60 = .ok (.bipush 6, 2) := by decide +kernel
theorem dX11_tellLawn_62 : decode cX11_tellLawn 62 = .ok (.iaload, 1) := by decide +kernel
theorem dX11_tellLawn_63 : decode cX11_tellLawn 63 = .ok (.invokevirtual 134, 3) := by decide +kernel
theorem dX11_tellLawn_66 : decode cX11_tellLawn 66 = .ok (.aload_n 0, 1) := by decide +kernel
theorem dX11_tellLawn_67 : decode cX11_tellLawn 67 = .ok (.getfield 40, 3) := by decide +kernel
theorem dX11_tellLawn_70 : decode cX11_tellLawn 70 = .ok (.invokevirtual 138, 3) := by decide +kernel
theorem dX11_tellLawn_73 : decode cX11_tellLawn 73 = .ok (.aload_n 0, 1) := by decide +kernel
theorem dX11_tellLawn_74 : decode cX11_tellLawn 74 = .ok (.getfield 89, 3) := by decide +kernel
theorem dX11_tellLawn_77 : decode cX11_tellLawn 77 = .ok (.invokevirtual 141, 3) := by decide +kernel
theorem dX11_tellLawn_80 : decode cX11_tellLawn 80 = .ok (.aload_n 0, 1) := by decide +kernel
theorem dX11_tellLawn_81 : decode cX11_tellLawn 81 = .ok (.getfield 82, 3) := by decide +kernel
theorem dX11_tellLawn_84 : decode cX11_tellLawn 84 = .ok (.invokevirtual 142, 3) := by decide +kernel
theorem dX11_tellLawn_87 : decode cX11_tellLawn 87 = .ok (.aload_n 0, 1) := by decide +kernel
theorem dX11_tellLawn_88 : decode cX11_tellLawn 88 = .ok (.invokevirtual 145, 3) := by decide +kernel
theorem dX11_tellLawn_91 : decode cX11_tellLawn 91 = .ok (.aload_n 0, 1) := by decide +kernel
theorem dX11_tellLawn_92 : decode cX11_tellLawn 92 = .ok (.getfield 47, 3) := by decide +kernel
theorem dX11_tellLawn_95 : decode cX11_tellLawn 95 = .ok (.getfield 148, 3) := by decide +kernel
theorem dX11_tellLawn_98 : decode cX11_tellLawn 98 = .ok (.ireturn, 1) := by decide +kernel
theorem dX11_text_0 : decode cX11_text 0 = .ok (.iload_n 1, 1) := by decide +kernel
theorem dX11_text_1 : decode cX11_text 1 = .ok (.ifCond .ne 8, 3) := by decide +kernel
theorem dX11_text_4 : decode cX11_text 4 = .ok (.aload_n 0, 1) := by decide +kernel
theorem dX11_text_5 : decode cX11_text 5 = .ok (.invokevirtual 123, 3) := by decide +kernel
theorem dX11_text_8 : decode cX11_text 8 = .ok (.ireturn, 1) := by decide +kernel
theorem dX11_text_9 : decode cX11_text 9 = .ok (.iload_n 1, 1) := by decide +kernel
theorem dX11_text_10 : decode cX11_text 10 = .ok (.iconst 1, 1) := by decide +kernel
theorem dX11_text_11 : decode cX11_text 11 = .ok (.if_icmp .ne 55, 3) := by decide +kernel
theorem dX11_text_14 : decode cX11_text 14 = .ok (.aload_n 0, 1) := by decide +kernel
theorem dX11_text_15 : decode cX11_text 15 = .ok (.getfield 115, 3) := by decide +kernel
theorem dX11_text_18 : decode cX11_text 18 = .ok (.iconst 4, 1) := by decide +kernel
theorem dX11_text_19 : decode cX11_text 19 = .ok (.if_icmp .ge 47, 3) := by decide +kernel
theorem dX11_text_22 : decode cX11_text 22 = .ok (.aload_n 0, 1) := by decide +kernel
theorem dX11_text_23 : decode cX11_text 23 = .ok (.getfield 18, 3) := by decide +kernel
theorem dX11_text_26 : decode cX11_text 26 = .ok (.aload_n 0, 1) := by decide +kernel
theorem dX11_text_27 : decode cX11_text 27 = .ok (.getfield 115, 3) := by decide +kernel
theorem dX11_text_30 : decode cX11_text 30 = .ok (.aaload, 1) := by decide +kernel
theorem dX11_text_31 : decode cX11_text 31 = .ok (.aload_n 0, 1) := by decide +kernel
theorem dX11_text_32 : decode cX11_text 32 = .ok (.getfield 10, 3) := by decide +kernel
theorem dX11_text_35 : decode cX11_text 35 = .ok (.invokevirtual 118, 3) := by decide +kernel
theorem dX11_text_38 : decode cX11_text 38 = .ok (.ifCond .eq 28, 3) := by decide +kernel
theorem dX11_text_41 : decode cX11_text 41 = .ok (.aload_n 0, 1) := by decide +kernel
theorem dX11_text_42 : decode cX11_text 42 = .ok (.getfield 10, 3) := by decide +kernel
theorem dX11_text_45 : decode cX11_text 45 = .ok (.iconst 0, 1) := by decide +kernel
theorem dX11_text_46 : decode cX11_text 46 = .ok (.putfield 101, 3) := by decide +kernel
theorem dX11_text_49 : decode cX11_text 49 = .ok (.aload_n 0, 1) := by decide +kernel
theorem dX11_text_50 : decode cX11_text 50 = .ok (.dup, 1) := by decide +kernel
theorem dX11_text_51 : decode cX11_text 51 = .ok (.getfield 115, 3) := by decide +kernel
theorem dX11_text_54 : decode cX11_text 54 = .ok (.iconst 1, 1) := by decide +kernel
theorem dX11_text_55 : decode cX11_text 55 = .ok (.iadd, 1) := by decide +kernel
theorem dX11_text_56 : decode cX11_text 56 = .ok (.putfield 115, 3) := by decide +kernel
theorem dX11_text_59 : decode cX11_text 59 = .ok (.aload_n 0, 1) := by decide +kernel
theorem dX11_text_60 : decode cX11_text 60 = .ok (.getfield 115, 3) := by decide +kernel
theorem dX11_text_63 : decode cX11_text 63 = .ok (.iconst 1, 1) := by decide +kernel
theorem dX11_text_64 : decode cX11_text 64 = .ok (.isub, 1) := by decide +kernel
theorem dX11_text_65 : decode cX11_text 65 = .ok (.ireturn, 1) := by decide +kernel
theorem dX11_text_66 : decode cX11_text 66 = .ok (.iload_n 1, 1) := by decide +kernel
theorem dX11_text_67 : decode cX11_text 67 = .ok (.iconst 2, 1) := by decide +kernel
theorem dX11_text_68 : decode cX11_text 68 = .ok (.if_icmp .ne 55, 3) := by decide +kernel
theorem dX11_text_71 : decode cX11_text 71 = .ok (.aload_n 0, 1) := by decide +kernel
theorem dX11_text_72 : decode cX11_text 72 = .ok (.getfield 119, 3) := by decide +kernel
theorem dX11_text_75 : decode cX11_text 75 = .ok (.iconst 4, 1) := by decide +kernel
theorem dX11_text_76 : decode cX11_text 76 = .ok (.if_icmp .ge 47, 3) := by decide +kernel
theorem dX11_text_79 : decode cX11_text 79 = .ok (.aload_n 0, 1) := by decide +kernel
theorem dX11_text_80 : decode cX11_text 80 = .ok (.getfield 24, 3) := by decide +kernel
theorem dX11_text_83 : decode cX11_text 83 = .ok (.aload_n 0, 1) := by decide +kernel
theorem dX11_text_84 : decode cX11_text 84 = .ok (.getfield 119, 3) := by decide +kernel
theorem dX11_text_87 : decode cX11_text 87 = .ok (.aaload, 1) := by decide +kernel
theorem dX11_text_88 : decode cX11_text 88 = .ok (.aload_n 0, 1) := by decide +kernel
theorem dX11_text_89 : decode cX11_text 89 = .ok (.getfield 10, 3) := by decide +kernel
theorem dX11_text_92 : decode cX11_text 92 = .ok (.invokevirtual 122, 3) := by decide +kernel
theorem dX11_text_95 : decode cX11_text 95 = .ok (.ifCond .eq 28, 3) := by decide +kernel
theorem dX11_text_98 : decode cX11_text 98 = .ok (.aload_n 0, 1) := by decide +kernel
theorem dX11_text_99 : decode cX11_text 99 = .ok (.getfield 10, 3) := by decide +kernel
theorem dX11_text_102 : decode cX11_text 102 = .ok (.iconst 0, 1) := by decide +kernel
theorem dX11_text_103 : decode cX11_text 103 = .ok (.putfield 101, 3) := by decide +kernel
theorem dX11_text_106 : decode cX11_text 106 = .ok (.aload_n 0, 1) := by decide +kernel
theorem dX11_text_107 : decode cX11_text 107 = .ok (.dup, 1) := by decide +kernel
theorem dX11_text_108 : decode cX11_text 108 = .ok (.getfield 119, 3) := by decide +kernel
theorem dX11_text_111 : decode cX11_text 111 = .ok (.iconst 1, 1) := by decide +kernel
theorem dX11_text_112 : decode cX11_text 112 = .ok (.iadd, 1) := by decide +kernel
theorem dX11_text_113 : decode cX11_text 113 = .ok (.putfield 119, 3) := by decide +kernel
theorem dX11_text_116 : decode cX11_text 116 = .ok (.aload_n 0, 1) := by decide +kernel
theorem dX11_text_117 : decode cX11_text 117 = .ok (.getfield 119, 3) := by decide +kernel
theorem dX11_text_120 : decode cX11_text 120 = .ok (.iconst 1, 1) := by decide +kernel
theorem dX11_text_121 : decode cX11_text 121 = .ok (.isub, 1) := by decide +kernel
theorem dX11_text_122 : decode cX11_text 122 = .ok (.ireturn, 1) := by decide +kernel
theorem dX11_text_123 : decode cX11_text 123 = .ok (.iconst (-1), 1) := by decide +kernel
theorem dX11_text_124 : decode cX11_text 124 = .ok (.ireturn, 1) := by decide +kernel
theorem wl_4_63 : (.methodLink RX11 151 yX8_face : Cond) ∈ sg_tbl := tb_4 _ (List.mem_of_getElem? (i := 63) (by decide +kernel)) (by decide +kernel)
theorem wl_4_59 : (.methodLink RX11 145 yX11_lookByLaw : Cond) ∈ sg_tbl := tb_4 _ (List.mem_of_getElem? (i := 59) (by decide +kernel)) (by decide +kernel)
theorem wl_1_228 : (.fieldLink RX11 127 "LawnAhead$Ground" "tufts" "I" : Cond) ∈ sg_tbl := tb_1 _ (List.mem_of_getElem? (i := 228) (by decide +kernel)) (by decide +kernel)
theorem wl_4_43 : (.methodLink RX11 134 yX9_begin : Cond) ∈ sg_tbl := tb_4 _ (List.mem_of_getElem? (i := 43) (by decide +kernel)) (by decide +kernel)
theorem wl_4_47 : (.methodLink RX11 138 yX5_clear : Cond) ∈ sg_tbl := tb_4 _ (List.mem_of_getElem? (i := 47) (by decide +kernel)) (by decide +kernel)
theorem wl_4_51 : (.methodLink RX11 141 yX1_clear : Cond) ∈ sg_tbl := tb_4 _ (List.mem_of_getElem? (i := 51) (by decide +kernel)) (by decide +kernel)
theorem wl_4_55 : (.methodLink RX11 142 yX2_forget : Cond) ∈ sg_tbl := tb_4 _ (List.mem_of_getElem? (i := 55) (by decide +kernel)) (by decide +kernel)
theorem wl_4_39 : (.methodLink RX11 123 yX11_tellLawn : Cond) ∈ sg_tbl := tb_4 _ (List.mem_of_getElem? (i := 39) (by decide +kernel)) (by decide +kernel)
theorem wl_4_62 : (.code yX11_lookByLaw cX11_lookByLaw 2 none : Cond) ∈ sg_tbl := tb_4 _ (List.mem_of_getElem? (i := 62) (by decide +kernel)) (by decide +kernel)
theorem wl_4_61 : (.instanceMethod yX11_lookByLaw : Cond) ∈ sg_tbl := tb_4 _ (List.mem_of_getElem? (i := 61) (by decide +kernel)) (by decide +kernel)
theorem wl_0_19 : (.selects RX11 yX11_lookByLaw yX11_lookByLaw : Cond) ∈ sg_tbl := tb_0 _ (List.mem_of_getElem? (i := 19) (by decide +kernel)) (by decide +kernel)
theorem wl_4_81 : (.code yX11_law cX11_law 2 (some .boolean) : Cond) ∈ sg_tbl := tb_4 _ (List.mem_of_getElem? (i := 81) (by decide +kernel)) (by decide +kernel)
theorem wl_4_79 : (.instanceMethod yX11_law : Cond) ∈ sg_tbl := tb_4 _ (List.mem_of_getElem? (i := 79) (by decide +kernel)) (by decide +kernel)
theorem wl_4_80 : (.selects RX11 yX11_law yX11_law : Cond) ∈ sg_tbl := tb_4 _ (List.mem_of_getElem? (i := 80) (by decide +kernel)) (by decide +kernel)
theorem wl_4_42 : (.code yX11_tellLawn cX11_tellLawn 2 (some .int) : Cond) ∈ sg_tbl := tb_4 _ (List.mem_of_getElem? (i := 42) (by decide +kernel)) (by decide +kernel)
theorem wl_4_41 : (.instanceMethod yX11_tellLawn : Cond) ∈ sg_tbl := tb_4 _ (List.mem_of_getElem? (i := 41) (by decide +kernel)) (by decide +kernel)
theorem wl_0_18 : (.selects RX11 yX11_tellLawn yX11_tellLawn : Cond) ∈ sg_tbl := tb_0 _ (List.mem_of_getElem? (i := 18) (by decide +kernel)) (by decide +kernel)
theorem wl_4_38 : (.code yX11_text cX11_text 2 (some .int) : Cond) ∈ sg_tbl := tb_4 _ (List.mem_of_getElem? (i := 38) (by decide +kernel)) (by decide +kernel)
theorem wl_4_36 : (.instanceMethod yX11_text : Cond) ∈ sg_tbl := tb_4 _ (List.mem_of_getElem? (i := 36) (by decide +kernel)) (by decide +kernel)
theorem wl_4_37 : (.selects RX11 yX11_text yX11_text : Cond) ∈ sg_tbl := tb_4 _ (List.mem_of_getElem? (i := 37) (by decide +kernel)) (by decide +kernel)
theorem wl_4_85 : (.code yX11_drought cX11_drought 2 (some .boolean) : Cond) ∈ sg_tbl := tb_4 _ (List.mem_of_getElem? (i := 85) (by decide +kernel)) (by decide +kernel)
theorem wl_4_83 : (.instanceMethod yX11_drought : Cond) ∈ sg_tbl := tb_4 _ (List.mem_of_getElem? (i := 83) (by decide +kernel)) (by decide +kernel)
theorem wl_4_84 : (.selects RX11 yX11_drought yX11_drought : Cond) ∈ sg_tbl := tb_4 _ (List.mem_of_getElem? (i := 84) (by decide +kernel)) (by decide +kernel)
section
variable {p : Program} {l : Launch} {e : Env} {R : Room} {s : State} {m : MethodId} {args : Array Value} {below : List Frame} {meth : Method} {c : Code} {H : Heap} {locs : List Loc} {cells slots : Nat} {Q : State → Prop} {cc : ByteArray} {nL pc : Nat} {ls : Array Slot} {rest : List Value} {own : String} {D : va_G} {A : Nat → Prop} {tys : List (ClassId × FieldType)} {ad ks : List Nat} {P : sgPm} {H0 : Heap} {index : Nat} {base : Nat} {st0 : List Value} {a : Nat}
theorem gg_X11_12   (X : CallFix p m c cc nL s args sg_tbl own) (hK : va_K D vwCl tys s) (hG : sgG (KT P) D vwCl A tys ad ks H) (ha : isK ad ks 11 a) (hl : Cond.fieldLink own index "LawnAhead" "lawCount" "I" ∈ sg_tbl) {v : Value} (hf : fld D H 11 a 12 v) (hdg : decode cc pc = .ok (.getfield index, 3)) (kk : W p l e R s m args below meth c H locs cells slots Q (F0 m (pc + 3) ls (v :: rest))) : W p l e R s m args below meth c H locs cells slots Q (F0 m pc ls (.ref a :: rest)) :=
  sg_getf X hK hG ha (k := 11) (ci := 11) rfl (C := RX11) (T := TX11) (N := 17) rfl inL_X11 12 (by decide) (show 12 < 17 by decide) hl (fun _ h => h) hf hdg kk
theorem gg_X11_13   (X : CallFix p m c cc nL s args sg_tbl own) (hK : va_K D vwCl tys s) (hG : sgG (KT P) D vwCl A tys ad ks H) (ha : isK ad ks 11 a) (hl : Cond.fieldLink own index "LawnAhead" "gameCount" "I" ∈ sg_tbl) {v : Value} (hf : fld D H 11 a 13 v) (hdg : decode cc pc = .ok (.getfield index, 3)) (kk : W p l e R s m args below meth c H locs cells slots Q (F0 m (pc + 3) ls (v :: rest))) : W p l e R s m args below meth c H locs cells slots Q (F0 m pc ls (.ref a :: rest)) :=
  sg_getf X hK hG ha (k := 11) (ci := 11) rfl (C := RX11) (T := TX11) (N := 17) rfl inL_X11 13 (by decide) (show 13 < 17 by decide) hl (fun _ h => h) hf hdg kk
theorem gg_X11_14   (X : CallFix p m c cc nL s args sg_tbl own) (hK : va_K D vwCl tys s) (hG : sgG (KT P) D vwCl A tys ad ks H) (ha : isK ad ks 11 a) (hl : Cond.fieldLink own index "LawnAhead" "holding" "I" ∈ sg_tbl) {v : Value} (hf : fld D H 11 a 14 v) (hdg : decode cc pc = .ok (.getfield index, 3)) (kk : W p l e R s m args below meth c H locs cells slots Q (F0 m (pc + 3) ls (v :: rest))) : W p l e R s m args below meth c H locs cells slots Q (F0 m pc ls (.ref a :: rest)) :=
  sg_getf X hK hG ha (k := 11) (ci := 11) rfl (C := RX11) (T := TX11) (N := 17) rfl inL_X11 14 (by decide) (show 14 < 17 by decide) hl (fun _ h => h) hf hdg kk
theorem pf_X11_10  {x : Value}  (X : CallFix p m c cc nL s args sg_tbl own) (hK : va_K D vwCl tys s) (hG : sgG (KT P) D vwCl A tys ad ks H) (hS : va_S A H0 H locs) (ha : isK ad ks 11 a) (hl : Cond.fieldLink own index "LawnAhead" "ground" "LLawnAhead$Ground;" ∈ sg_tbl) (hv : okV ad ks (.inr (.inl (false, 4))) x) (hdg : decode cc pc = .ok (.putfield index, 3)) (kk : ∀ (H1 : Heap) (locs1 : List Loc), sgG (KT P) D vwCl A tys ad ks H1 → va_S A H0 H1 locs1 → fld D H1 11 a 10 x → sgFr (KT P) D vwCl ad ks H H1 (fun a' j' => a' = a ∧ j' = 10) → W p l e R s m args below meth c H1 locs1 cells slots Q (F0 m (pc + 3) ls rest)) : W p l e R s m args below meth c H locs cells slots Q (F0 m pc ls (x :: .ref a :: rest)) :=
  sg_put X hK hG hS ha (k := 11) (ci := 11) rfl (C := RX11) (T := TX11) (N := 17) rfl inL_X11 tyX11 tyX11_ok nmX11 10 (by decide) rfl hl (fun _ h => h) rfl (ty := (tyX11 10)) rfl (by rcases hv with ⟨-, rfl⟩ | ⟨y, rfl, -⟩ <;> rfl) (by rcases hv with ⟨-, rfl⟩ | ⟨y, rfl, -⟩ <;> rfl) hv hdg kk
theorem pf_X11_11  {x : Value}  (X : CallFix p m c cc nL s args sg_tbl own) (hK : va_K D vwCl tys s) (hG : sgG (KT P) D vwCl A tys ad ks H) (hS : va_S A H0 H locs) (ha : isK ad ks 11 a) (hl : Cond.fieldLink own index "LawnAhead" "spare" "LLawnAhead$Ground;" ∈ sg_tbl) (hv : okV ad ks (.inr (.inl (false, 4))) x) (hdg : decode cc pc = .ok (.putfield index, 3)) (kk : ∀ (H1 : Heap) (locs1 : List Loc), sgG (KT P) D vwCl A tys ad ks H1 → va_S A H0 H1 locs1 → fld D H1 11 a 11 x → sgFr (KT P) D vwCl ad ks H H1 (fun a' j' => a' = a ∧ j' = 11) → W p l e R s m args below meth c H1 locs1 cells slots Q (F0 m (pc + 3) ls rest)) : W p l e R s m args below meth c H locs cells slots Q (F0 m pc ls (x :: .ref a :: rest)) :=
  sg_put X hK hG hS ha (k := 11) (ci := 11) rfl (C := RX11) (T := TX11) (N := 17) rfl inL_X11 tyX11 tyX11_ok nmX11 11 (by decide) rfl hl (fun _ h => h) rfl (ty := (tyX11 11)) rfl (by rcases hv with ⟨-, rfl⟩ | ⟨y, rfl, -⟩ <;> rfl) (by rcases hv with ⟨-, rfl⟩ | ⟨y, rfl, -⟩ <;> rfl) hv hdg kk
theorem pf_X11_12p   (X : CallFix p m c cc nL s args sg_tbl own) (hK : va_K D vwCl tys s) (hG : sgG (KT P) D vwCl A tys ad ks H) {x : Int32} (hS : va_S A H0 H locs) (ha : isK ad ks 11 a) (hl : Cond.fieldLink own index "LawnAhead" "lawCount" "I" ∈ sg_tbl) {n : Fin 5} (hv : iv (n.val : Int) (n.val : Int) x) (hdg : decode cc pc = .ok (.putfield index, 3)) (kk : ∀ (H1 : Heap) (locs1 : List Loc), sgG (KT (P.1, P.2.1, P.2.2.1, P.2.2.2.1, P.2.2.2.2.1, P.2.2.2.2.2.1, n, P.2.2.2.2.2.2.2)) D vwCl A tys ad ks H1 → va_S A H0 H1 locs1 → W p l e R s m args below meth c H1 locs1 cells slots Q (F0 m (pc + 3) ls rest)) : W p l e R s m args below meth c H locs cells slots Q (F0 m pc ls (.int x :: .ref a :: rest)) :=
  sg_put1 (kt' := KT (P.1, P.2.1, P.2.2.1, P.2.2.2.1, P.2.2.2.2.1, P.2.2.2.2.2.1, n, P.2.2.2.2.2.2.2)) X hK hG hS ha (k := 11) (by decide) (ci := 11) (fts := [.inr (.inl (false, 10)), .inr (.inl (false, 43)), .inr (.inl (false, 44)), .inr (.inl (false, 9)), .inr (.inl (false, 5)), .inr (.inl (false, 8)), .inr (.inl (false, 7)), .inr (.inl (false, 0)), .inr (.inl (false, 2)), .inr (.inl (false, 1)), .inr (.inl (false, 4)), .inr (.inl (false, 4)), .inl ((P.2.2.2.2.2.2.1.val : Int), (P.2.2.2.2.2.2.1.val : Int)), .inl ((P.2.2.2.2.2.2.2.1.val : Int), (P.2.2.2.2.2.2.2.1.val : Int)), .inl ((-2147483648), 2147483647), .inl (P.2.2.2.1, P.2.2.2.1), .inr (.inr false)]) (fts' := [.inr (.inl (false, 10)), .inr (.inl (false, 43)), .inr (.inl (false, 44)), .inr (.inl (false, 9)), .inr (.inl (false, 5)), .inr (.inl (false, 8)), .inr (.inl (false, 7)), .inr (.inl (false, 0)), .inr (.inl (false, 2)), .inr (.inl (false, 1)), .inr (.inl (false, 4)), .inr (.inl (false, 4)), .inl (((P.1, P.2.1, P.2.2.1, P.2.2.2.1, P.2.2.2.2.1, P.2.2.2.2.2.1, n, P.2.2.2.2.2.2.2).2.2.2.2.2.2.1.val : Int), ((P.1, P.2.1, P.2.2.1, P.2.2.2.1, P.2.2.2.2.1, P.2.2.2.2.2.1, n, P.2.2.2.2.2.2.2).2.2.2.2.2.2.1.val : Int)), .inl (((P.1, P.2.1, P.2.2.1, P.2.2.2.1, P.2.2.2.2.1, P.2.2.2.2.2.1, n, P.2.2.2.2.2.2.2).2.2.2.2.2.2.2.1.val : Int), ((P.1, P.2.1, P.2.2.1, P.2.2.2.1, P.2.2.2.2.1, P.2.2.2.2.2.1, n, P.2.2.2.2.2.2.2).2.2.2.2.2.2.2.1.val : Int)), .inl ((-2147483648), 2147483647), .inl ((P.1, P.2.1, P.2.2.1, P.2.2.2.1, P.2.2.2.2.1, P.2.2.2.2.2.1, n, P.2.2.2.2.2.2.2).2.2.2.1, (P.1, P.2.1, P.2.2.1, P.2.2.2.1, P.2.2.2.2.1, P.2.2.2.2.2.1, n, P.2.2.2.2.2.2.2).2.2.2.1), .inr (.inr false)]) rfl rfl (C := RX11) (T := TX11) (N := 17) rfl inL_X11 tyX11 tyX11_ok nmX11 12 (by decide) rfl (t' := .inl ((n.val : Int), (n.val : Int))) rfl (fun i hi => by match i, hi with
    | 0, hi => rfl
    | 1, hi => rfl
    | 2, hi => rfl
    | 3, hi => rfl
    | 4, hi => rfl
    | 5, hi => rfl
    | 6, hi => rfl
    | 7, hi => rfl
    | 8, hi => rfl
    | 9, hi => rfl
    | 10, hi => rfl
    | 11, hi => rfl
    | 12, hi => exact absurd rfl hi
    | 13, hi => rfl
    | 14, hi => rfl
    | 15, hi => rfl
    | 16, hi => rfl
    | i + 17, hi => rfl) (fun i hi => by match i, hi with
    | 0, hi => rfl
    | 1, hi => rfl
    | 2, hi => rfl
    | 3, hi => rfl
    | 4, hi => rfl
    | 5, hi => rfl
    | 6, hi => rfl
    | 7, hi => rfl
    | 8, hi => rfl
    | 9, hi => rfl
    | 10, hi => rfl
    | 11, hi => exact absurd rfl hi
    | 12, hi => rfl
    | 13, hi => rfl
    | 14, hi => rfl
    | 15, hi => rfl
    | 16, hi => rfl
    | 17, hi => rfl
    | 18, hi => rfl
    | 19, hi => rfl
    | 20, hi => rfl
    | 21, hi => rfl
    | 22, hi => rfl
    | 23, hi => rfl
    | 24, hi => rfl
    | 25, hi => rfl
    | 26, hi => rfl
    | 27, hi => rfl
    | 28, hi => rfl
    | 29, hi => rfl
    | 30, hi => rfl
    | 31, hi => rfl
    | 32, hi => rfl
    | 33, hi => rfl
    | 34, hi => rfl
    | 35, hi => rfl
    | 36, hi => rfl
    | 37, hi => rfl
    | 38, hi => rfl
    | 39, hi => rfl
    | 40, hi => rfl
    | 41, hi => rfl
    | 42, hi => rfl
    | 43, hi => rfl
    | 44, hi => rfl
    | 45, hi => rfl
    | 46, hi => rfl
    | 47, hi => rfl
    | 48, hi => rfl
    | 49, hi => rfl
    | 50, hi => rfl
    | 51, hi => rfl
    | 52, hi => rfl
    | 53, hi => rfl
    | 54, hi => rfl
    | 55, hi => rfl
    | 56, hi => rfl
    | 57, hi => rfl
    | 58, hi => rfl
    | 59, hi => rfl
    | 60, hi => rfl
    | 61, hi => rfl
    | 62, hi => rfl
    | 63, hi => rfl
    | 64, hi => rfl
    | 65, hi => rfl
    | 66, hi => rfl
    | i + 67, hi => rfl) hl (fun _ h => h) rfl (ty := .int) rfl rfl rfl ⟨_, rfl, hv⟩ hdg kk
theorem pf_X11_13p   (X : CallFix p m c cc nL s args sg_tbl own) (hK : va_K D vwCl tys s) (hG : sgG (KT P) D vwCl A tys ad ks H) {x : Int32} (hS : va_S A H0 H locs) (ha : isK ad ks 11 a) (hl : Cond.fieldLink own index "LawnAhead" "gameCount" "I" ∈ sg_tbl) {n : Fin 5} (hv : iv (n.val : Int) (n.val : Int) x) (hdg : decode cc pc = .ok (.putfield index, 3)) (kk : ∀ (H1 : Heap) (locs1 : List Loc), sgG (KT (P.1, P.2.1, P.2.2.1, P.2.2.2.1, P.2.2.2.2.1, P.2.2.2.2.2.1, P.2.2.2.2.2.2.1, n, P.2.2.2.2.2.2.2.2)) D vwCl A tys ad ks H1 → va_S A H0 H1 locs1 → W p l e R s m args below meth c H1 locs1 cells slots Q (F0 m (pc + 3) ls rest)) : W p l e R s m args below meth c H locs cells slots Q (F0 m pc ls (.int x :: .ref a :: rest)) :=
  sg_put1 (kt' := KT (P.1, P.2.1, P.2.2.1, P.2.2.2.1, P.2.2.2.2.1, P.2.2.2.2.2.1, P.2.2.2.2.2.2.1, n, P.2.2.2.2.2.2.2.2)) X hK hG hS ha (k := 11) (by decide) (ci := 11) (fts := [.inr (.inl (false, 10)), .inr (.inl (false, 43)), .inr (.inl (false, 44)), .inr (.inl (false, 9)), .inr (.inl (false, 5)), .inr (.inl (false, 8)), .inr (.inl (false, 7)), .inr (.inl (false, 0)), .inr (.inl (false, 2)), .inr (.inl (false, 1)), .inr (.inl (false, 4)), .inr (.inl (false, 4)), .inl ((P.2.2.2.2.2.2.1.val : Int), (P.2.2.2.2.2.2.1.val : Int)), .inl ((P.2.2.2.2.2.2.2.1.val : Int), (P.2.2.2.2.2.2.2.1.val : Int)), .inl ((-2147483648), 2147483647), .inl (P.2.2.2.1, P.2.2.2.1), .inr (.inr false)]) (fts' := [.inr (.inl (false, 10)), .inr (.inl (false, 43)), .inr (.inl (false, 44)), .inr (.inl (false, 9)), .inr (.inl (false, 5)), .inr (.inl (false, 8)), .inr (.inl (false, 7)), .inr (.inl (false, 0)), .inr (.inl (false, 2)), .inr (.inl (false, 1)), .inr (.inl (false, 4)), .inr (.inl (false, 4)), .inl (((P.1, P.2.1, P.2.2.1, P.2.2.2.1, P.2.2.2.2.1, P.2.2.2.2.2.1, P.2.2.2.2.2.2.1, n, P.2.2.2.2.2.2.2.2).2.2.2.2.2.2.1.val : Int), ((P.1, P.2.1, P.2.2.1, P.2.2.2.1, P.2.2.2.2.1, P.2.2.2.2.2.1, P.2.2.2.2.2.2.1, n, P.2.2.2.2.2.2.2.2).2.2.2.2.2.2.1.val : Int)), .inl (((P.1, P.2.1, P.2.2.1, P.2.2.2.1, P.2.2.2.2.1, P.2.2.2.2.2.1, P.2.2.2.2.2.2.1, n, P.2.2.2.2.2.2.2.2).2.2.2.2.2.2.2.1.val : Int), ((P.1, P.2.1, P.2.2.1, P.2.2.2.1, P.2.2.2.2.1, P.2.2.2.2.2.1, P.2.2.2.2.2.2.1, n, P.2.2.2.2.2.2.2.2).2.2.2.2.2.2.2.1.val : Int)), .inl ((-2147483648), 2147483647), .inl ((P.1, P.2.1, P.2.2.1, P.2.2.2.1, P.2.2.2.2.1, P.2.2.2.2.2.1, P.2.2.2.2.2.2.1, n, P.2.2.2.2.2.2.2.2).2.2.2.1, (P.1, P.2.1, P.2.2.1, P.2.2.2.1, P.2.2.2.2.1, P.2.2.2.2.2.1, P.2.2.2.2.2.2.1, n, P.2.2.2.2.2.2.2.2).2.2.2.1), .inr (.inr false)]) rfl rfl (C := RX11) (T := TX11) (N := 17) rfl inL_X11 tyX11 tyX11_ok nmX11 13 (by decide) rfl (t' := .inl ((n.val : Int), (n.val : Int))) rfl (fun i hi => by match i, hi with
    | 0, hi => rfl
    | 1, hi => rfl
    | 2, hi => rfl
    | 3, hi => rfl
    | 4, hi => rfl
    | 5, hi => rfl
    | 6, hi => rfl
    | 7, hi => rfl
    | 8, hi => rfl
    | 9, hi => rfl
    | 10, hi => rfl
    | 11, hi => rfl
    | 12, hi => rfl
    | 13, hi => exact absurd rfl hi
    | 14, hi => rfl
    | 15, hi => rfl
    | 16, hi => rfl
    | i + 17, hi => rfl) (fun i hi => by match i, hi with
    | 0, hi => rfl
    | 1, hi => rfl
    | 2, hi => rfl
    | 3, hi => rfl
    | 4, hi => rfl
    | 5, hi => rfl
    | 6, hi => rfl
    | 7, hi => rfl
    | 8, hi => rfl
    | 9, hi => rfl
    | 10, hi => rfl
    | 11, hi => exact absurd rfl hi
    | 12, hi => rfl
    | 13, hi => rfl
    | 14, hi => rfl
    | 15, hi => rfl
    | 16, hi => rfl
    | 17, hi => rfl
    | 18, hi => rfl
    | 19, hi => rfl
    | 20, hi => rfl
    | 21, hi => rfl
    | 22, hi => rfl
    | 23, hi => rfl
    | 24, hi => rfl
    | 25, hi => rfl
    | 26, hi => rfl
    | 27, hi => rfl
    | 28, hi => rfl
    | 29, hi => rfl
    | 30, hi => rfl
    | 31, hi => rfl
    | 32, hi => rfl
    | 33, hi => rfl
    | 34, hi => rfl
    | 35, hi => rfl
    | 36, hi => rfl
    | 37, hi => rfl
    | 38, hi => rfl
    | 39, hi => rfl
    | 40, hi => rfl
    | 41, hi => rfl
    | 42, hi => rfl
    | 43, hi => rfl
    | 44, hi => rfl
    | 45, hi => rfl
    | 46, hi => rfl
    | 47, hi => rfl
    | 48, hi => rfl
    | 49, hi => rfl
    | 50, hi => rfl
    | 51, hi => rfl
    | 52, hi => rfl
    | 53, hi => rfl
    | 54, hi => rfl
    | 55, hi => rfl
    | 56, hi => rfl
    | 57, hi => rfl
    | 58, hi => rfl
    | 59, hi => rfl
    | 60, hi => rfl
    | 61, hi => rfl
    | 62, hi => rfl
    | 63, hi => rfl
    | 64, hi => rfl
    | 65, hi => rfl
    | 66, hi => rfl
    | i + 67, hi => rfl) hl (fun _ h => h) rfl (ty := .int) rfl rfl rfl ⟨_, rfl, hv⟩ hdg kk
theorem pf_X11_14  {x : Int32}  (X : CallFix p m c cc nL s args sg_tbl own) (hK : va_K D vwCl tys s) (hG : sgG (KT P) D vwCl A tys ad ks H) (hS : va_S A H0 H locs) (ha : isK ad ks 11 a) (hl : Cond.fieldLink own index "LawnAhead" "holding" "I" ∈ sg_tbl) (hv : okV ad ks (.inl ((-2147483648), 2147483647)) (.int x)) (hdg : decode cc pc = .ok (.putfield index, 3)) (kk : ∀ (H1 : Heap) (locs1 : List Loc), sgG (KT P) D vwCl A tys ad ks H1 → va_S A H0 H1 locs1 → fld D H1 11 a 14 (.int x) → sgFr (KT P) D vwCl ad ks H H1 (fun a' j' => a' = a ∧ j' = 14) → W p l e R s m args below meth c H1 locs1 cells slots Q (F0 m (pc + 3) ls rest)) : W p l e R s m args below meth c H locs cells slots Q (F0 m pc ls (.int x :: .ref a :: rest)) :=
  sg_put X hK hG hS ha (k := 11) (ci := 11) rfl (C := RX11) (T := TX11) (N := 17) rfl inL_X11 tyX11 tyX11_ok nmX11 14 (by decide) rfl hl (fun _ h => h) rfl (ty := .int) rfl rfl rfl hv hdg kk
theorem pf_X11_15d   (X : CallFix p m c cc nL s args sg_tbl own) (hK : va_K D vwCl tys s) (hG : sgG (KT P) D vwCl A tys ad ks H) {x : Int32} (hS : va_S A H0 H locs) (ha : isK ad ks 11 a) (hl : Cond.fieldLink own index "LawnAhead" "dryness" "I" ∈ sg_tbl) (hdg : decode cc pc = .ok (.putfield index, 3)) (kk : ∀ (H1 : Heap) (locs1 : List Loc), sgG (KT (P.1, P.2.1, P.2.2.1, x.toInt, P.2.2.2.2)) D vwCl A tys ad ks H1 → va_S A H0 H1 locs1 → W p l e R s m args below meth c H1 locs1 cells slots Q (F0 m (pc + 3) ls rest)) : W p l e R s m args below meth c H locs cells slots Q (F0 m pc ls (.int x :: .ref a :: rest)) :=
  sg_put1 (kt' := KT (P.1, P.2.1, P.2.2.1, x.toInt, P.2.2.2.2)) X hK hG hS ha (k := 11) (by decide) (ci := 11) (fts := [.inr (.inl (false, 10)), .inr (.inl (false, 43)), .inr (.inl (false, 44)), .inr (.inl (false, 9)), .inr (.inl (false, 5)), .inr (.inl (false, 8)), .inr (.inl (false, 7)), .inr (.inl (false, 0)), .inr (.inl (false, 2)), .inr (.inl (false, 1)), .inr (.inl (false, 4)), .inr (.inl (false, 4)), .inl ((P.2.2.2.2.2.2.1.val : Int), (P.2.2.2.2.2.2.1.val : Int)), .inl ((P.2.2.2.2.2.2.2.1.val : Int), (P.2.2.2.2.2.2.2.1.val : Int)), .inl ((-2147483648), 2147483647), .inl (P.2.2.2.1, P.2.2.2.1), .inr (.inr false)]) (fts' := [.inr (.inl (false, 10)), .inr (.inl (false, 43)), .inr (.inl (false, 44)), .inr (.inl (false, 9)), .inr (.inl (false, 5)), .inr (.inl (false, 8)), .inr (.inl (false, 7)), .inr (.inl (false, 0)), .inr (.inl (false, 2)), .inr (.inl (false, 1)), .inr (.inl (false, 4)), .inr (.inl (false, 4)), .inl (((P.1, P.2.1, P.2.2.1, x.toInt, P.2.2.2.2).2.2.2.2.2.2.1.val : Int), ((P.1, P.2.1, P.2.2.1, x.toInt, P.2.2.2.2).2.2.2.2.2.2.1.val : Int)), .inl (((P.1, P.2.1, P.2.2.1, x.toInt, P.2.2.2.2).2.2.2.2.2.2.2.1.val : Int), ((P.1, P.2.1, P.2.2.1, x.toInt, P.2.2.2.2).2.2.2.2.2.2.2.1.val : Int)), .inl ((-2147483648), 2147483647), .inl ((P.1, P.2.1, P.2.2.1, x.toInt, P.2.2.2.2).2.2.2.1, (P.1, P.2.1, P.2.2.1, x.toInt, P.2.2.2.2).2.2.2.1), .inr (.inr false)]) rfl rfl (C := RX11) (T := TX11) (N := 17) rfl inL_X11 tyX11 tyX11_ok nmX11 15 (by decide) rfl (t' := .inl (x.toInt, x.toInt)) rfl (fun i hi => by match i, hi with
    | 0, hi => rfl
    | 1, hi => rfl
    | 2, hi => rfl
    | 3, hi => rfl
    | 4, hi => rfl
    | 5, hi => rfl
    | 6, hi => rfl
    | 7, hi => rfl
    | 8, hi => rfl
    | 9, hi => rfl
    | 10, hi => rfl
    | 11, hi => rfl
    | 12, hi => rfl
    | 13, hi => rfl
    | 14, hi => rfl
    | 15, hi => exact absurd rfl hi
    | 16, hi => rfl
    | i + 17, hi => rfl) (fun i hi => by match i, hi with
    | 0, hi => rfl
    | 1, hi => rfl
    | 2, hi => rfl
    | 3, hi => rfl
    | 4, hi => rfl
    | 5, hi => rfl
    | 6, hi => rfl
    | 7, hi => rfl
    | 8, hi => rfl
    | 9, hi => rfl
    | 10, hi => rfl
    | 11, hi => exact absurd rfl hi
    | 12, hi => rfl
    | 13, hi => rfl
    | 14, hi => rfl
    | 15, hi => rfl
    | 16, hi => rfl
    | 17, hi => rfl
    | 18, hi => rfl
    | 19, hi => rfl
    | 20, hi => rfl
    | 21, hi => rfl
    | 22, hi => rfl
    | 23, hi => rfl
    | 24, hi => rfl
    | 25, hi => rfl
    | 26, hi => rfl
    | 27, hi => rfl
    | 28, hi => rfl
    | 29, hi => rfl
    | 30, hi => rfl
    | 31, hi => rfl
    | 32, hi => rfl
    | 33, hi => rfl
    | 34, hi => rfl
    | 35, hi => rfl
    | 36, hi => rfl
    | 37, hi => rfl
    | 38, hi => rfl
    | 39, hi => rfl
    | 40, hi => rfl
    | 41, hi => rfl
    | 42, hi => rfl
    | 43, hi => rfl
    | 44, hi => rfl
    | 45, hi => rfl
    | 46, hi => rfl
    | 47, hi => rfl
    | 48, hi => rfl
    | 49, hi => rfl
    | 50, hi => rfl
    | 51, hi => rfl
    | 52, hi => rfl
    | 53, hi => rfl
    | 54, hi => rfl
    | 55, hi => rfl
    | 56, hi => rfl
    | 57, hi => rfl
    | 58, hi => rfl
    | 59, hi => rfl
    | 60, hi => rfl
    | 61, hi => rfl
    | 62, hi => rfl
    | 63, hi => rfl
    | 64, hi => rfl
    | 65, hi => rfl
    | 66, hi => rfl
    | i + 67, hi => rfl) hl (fun _ h => h) rfl (ty := .int) rfl rfl rfl ⟨_, rfl, ⟨Int.le_refl _, Int.le_refl _⟩⟩ hdg kk
theorem pf_X8_1xs  {x : Nat}  (X : CallFix p m c cc nL s args sg_tbl own) (hK : va_K D vwCl tys s) (hG : sgG (KT P) D vwCl A tys ad ks H) (hS : va_S A H0 H locs) (ha : isK ad ks 8 a) (hl : Cond.fieldLink own index "LawnAhead$Sight" "law" "LLawnAhead$Law;" ∈ sg_tbl) (hv : okV ad ks (.inr (.inl (false, 6))) (.ref x)) (hdg : decode cc pc = .ok (.putfield index, 3)) (kk : ∀ (H1 : Heap) (locs1 : List Loc), sgG (KT (true, P.2)) D vwCl A tys ad ks H1 → va_S A H0 H1 locs1 → W p l e R s m args below meth c H1 locs1 cells slots Q (F0 m (pc + 3) ls rest)) : W p l e R s m args below meth c H locs cells slots Q (F0 m pc ls (.ref x :: .ref a :: rest)) :=
  sg_put1 (kt' := KT (true, P.2)) X hK hG hS ha (k := 8) (by decide) (ci := 8) (fts := [.inr (.inl (false, 4)), bif P.1 then .inr (.inl (false, 6)) else .inr (.inl (true, 999)), .inr (.inl (false, 36)), .inr (.inl (false, 37)), .inr (.inl (false, 38)), .inr (.inl (false, 39)), .inr (.inl (false, 40)), .inr (.inl (false, 41)), .inl (0, 270)]) (fts' := [.inr (.inl (false, 4)), bif (true, P.2).1 then .inr (.inl (false, 6)) else .inr (.inl (true, 999)), .inr (.inl (false, 36)), .inr (.inl (false, 37)), .inr (.inl (false, 38)), .inr (.inl (false, 39)), .inr (.inl (false, 40)), .inr (.inl (false, 41)), .inl (0, 270)]) rfl rfl (C := RX8) (T := TX8) (N := 9) rfl inL_X8 tyX8 tyX8_ok nmX8 1 (by decide) rfl (t' := .inr (.inl (false, 6))) rfl (fun i hi => by match i, hi with
    | 0, hi => rfl
    | 1, hi => exact absurd rfl hi
    | 2, hi => rfl
    | 3, hi => rfl
    | 4, hi => rfl
    | 5, hi => rfl
    | 6, hi => rfl
    | 7, hi => rfl
    | 8, hi => rfl
    | i + 9, hi => rfl) (fun i hi => by match i, hi with
    | 0, hi => rfl
    | 1, hi => rfl
    | 2, hi => rfl
    | 3, hi => rfl
    | 4, hi => rfl
    | 5, hi => rfl
    | 6, hi => rfl
    | 7, hi => rfl
    | 8, hi => exact absurd rfl hi
    | 9, hi => rfl
    | 10, hi => rfl
    | 11, hi => rfl
    | 12, hi => rfl
    | 13, hi => rfl
    | 14, hi => rfl
    | 15, hi => rfl
    | 16, hi => rfl
    | 17, hi => rfl
    | 18, hi => rfl
    | 19, hi => rfl
    | 20, hi => rfl
    | 21, hi => rfl
    | 22, hi => rfl
    | 23, hi => rfl
    | 24, hi => rfl
    | 25, hi => rfl
    | 26, hi => rfl
    | 27, hi => rfl
    | 28, hi => rfl
    | 29, hi => rfl
    | 30, hi => rfl
    | 31, hi => rfl
    | 32, hi => rfl
    | 33, hi => rfl
    | 34, hi => rfl
    | 35, hi => rfl
    | 36, hi => rfl
    | 37, hi => rfl
    | 38, hi => rfl
    | 39, hi => rfl
    | 40, hi => rfl
    | 41, hi => rfl
    | 42, hi => rfl
    | 43, hi => rfl
    | 44, hi => rfl
    | 45, hi => rfl
    | 46, hi => rfl
    | 47, hi => rfl
    | 48, hi => rfl
    | 49, hi => rfl
    | 50, hi => rfl
    | 51, hi => rfl
    | 52, hi => rfl
    | 53, hi => rfl
    | 54, hi => rfl
    | 55, hi => rfl
    | 56, hi => rfl
    | 57, hi => rfl
    | 58, hi => rfl
    | 59, hi => rfl
    | 60, hi => rfl
    | 61, hi => rfl
    | 62, hi => rfl
    | 63, hi => rfl
    | 64, hi => rfl
    | 65, hi => rfl
    | 66, hi => rfl
    | i + 67, hi => rfl) hl (fun _ h => h) rfl (ty := (tyX8 1)) rfl rfl rfl hv hdg kk
set_option maxHeartbeats 8000000 in
set_option maxRecDepth 100000 in
theorem m_X8_face_l (l : Launch) {D : va_G} {base : Nat} {tys : List (ClassId × FieldType)} {ad ks : List Nat} {P : sgPm} (a0 : Nat) (h0 : isK ad ks 8 a0) (a1 : Nat) (h1 : isK ad ks 4 a1) (a2 : Nat) (h2 : isK ad ks 6 a2) : Met l yX8_face (Cond.code yX8_face cX8_face 3 none :: sg_tbl) ({ frames := 1, cells := 0, slots := 0, locals := 23 }) (va_Pc [.ref a0, .ref a1, .ref a2] (sgB (KT P) D vwCl base tys ad ks)) (va_Qv (fun (_ : Unit) => True) (fun _ => sgB (KT (true, P.2)) D vwCl base tys ad ks) (fun q : Nat => base ≤ q)) 0 0 (fun q : Nat => base ≤ q) := by
  refine sg_ofW (by decide +kernel) (Nat.le_of_ble_eq_true rfl) (fun p e s m below meth c X hr hlk hb hK hC hG ls hl => ?_)
  have hS : va_S (fun q : Nat => base ≤ q) s.heap s.heap [] := va_S.rf
  have hl : lv_has ls 3 [(0, .ref a0), (1, .ref a1), (2, .ref a2)] := hl
  refine lv_aload_n X.1 X.2.1 dX8_face_0 rfl (lv_at hl 0 rfl) ?_
  refine lv_aload_n X.1 X.2.1 dX8_face_1 rfl (lv_at hl 1 rfl) ?_
  refine pf_X8_0 X hK hG hS h0 wl_2_35 (Or.inr ⟨_, rfl, h1⟩) dX8_face_2 (fun H locs hG hS ku1 ru1 => ?_)
  refine lv_aload_n X.1 X.2.1 dX8_face_5 rfl (lv_at hl 0 rfl) ?_
  refine lv_aload_n X.1 X.2.1 dX8_face_6 rfl (lv_at hl 2 rfl) ?_
  refine pf_X8_1xs X hK hG hS h0 wl_2_39 (Or.inr ⟨_, rfl, h2⟩) dX8_face_7 (fun H locs hG hS => ?_)
  refine lv_aload_n X.1 X.2.1 dX8_face_10 rfl (lv_at hl 0 rfl) ?_
  refine gf_X8_2 X hK hG h0 wl_2_40 dX8_face_11 (fun q2 hq2 kq2 => ?_)
  refine lv_iconst (v := 0) X.1 X.2.1 dX8_face_14 (by decide +kernel) ?_
  refine ca_J7_fill_53178_pageDays X hK hG hC hS hb q2 hq2 0 wl_4_67 hl.1 (rest := []) rfl (Nat.le_of_ble_eq_true rfl) ⟨Nat.le_of_ble_eq_true rfl, Nat.le_of_ble_eq_true rfl⟩ ⟨Nat.le_of_ble_eq_true rfl, Nat.le_of_ble_eq_true rfl⟩ dX8_face_15 (fun H locs hG hS => ?_)
  refine lv_aload_n X.1 X.2.1 dX8_face_18 rfl (lv_at hl 0 rfl) ?_
  refine gf_X8_3 X hK hG h0 wl_2_41 dX8_face_19 (fun q4 hq4 kq4 => ?_)
  refine lv_iconst (v := 0) X.1 X.2.1 dX8_face_22 (by decide +kernel) ?_
  refine ca_J7_fill_53178_reckoned X hK hG hC hS hb q4 hq4 0 wl_4_67 hl.1 (rest := []) rfl (Nat.le_of_ble_eq_true rfl) ⟨Nat.le_of_ble_eq_true rfl, Nat.le_of_ble_eq_true rfl⟩ ⟨Nat.le_of_ble_eq_true rfl, Nat.le_of_ble_eq_true rfl⟩ dX8_face_23 (fun H locs hG hS => ?_)
  refine lv_aload_n X.1 X.2.1 dX8_face_26 rfl (lv_at hl 0 rfl) ?_
  refine gf_X8_4 X hK hG h0 wl_2_42 dX8_face_27 (fun q6 hq6 kq6 => ?_)
  refine lv_iconst (v := 0) X.1 X.2.1 dX8_face_30 (by decide +kernel) ?_
  refine ca_J7_fill_53178_worthy X hK hG hC hS hb q6 hq6 0 wl_4_67 hl.1 (rest := []) rfl (Nat.le_of_ble_eq_true rfl) ⟨Nat.le_of_ble_eq_true rfl, Nat.le_of_ble_eq_true rfl⟩ ⟨Nat.le_of_ble_eq_true rfl, Nat.le_of_ble_eq_true rfl⟩ dX8_face_31 (fun H locs hG hS => ?_)
  exact sg_vret2 X hr hlk hS (fun t ht hW => sg_post hb hK hC hG hS ht hW) dX8_face_34

theorem ca_X8_face_l   (X : CallFix p m c cc nL s args sg_tbl own) (hK : va_K D vwCl tys s) (hG : sgG (KT P) D vwCl (fun q : Nat => base ≤ q) tys ad ks H) (hC : sgC base s) (hS : va_S (fun q : Nat => base ≤ q) s.heap H locs) (hb : base ≤ s.heap.size) (a0 : Nat) (h0 : isK ad ks 8 a0) (a1 : Nat) (h1 : isK ad ks 4 a1) (a2 : Nat) (h2 : isK ad ks 6 a2) (hl : Cond.methodLink own index yX8_face ∈ sg_tbl) (hsize : ls.size = nL) (hst : st0 = [.ref a1, .ref a2].reverse ++ .ref a0 :: rest) (hW : (rest.map fun v => v.category).sum ≤ 8) (hR : 2 ≤ R.frames ∧ 45 ≤ R.locals) (hf : cells ≤ R.cells ∧ slots ≤ R.slots) (hdg : decode cc pc = .ok (.invokevirtual index, 3)) (kk : ∀ (t : State) (H1 : Heap) (locs1 : List Loc), t.heap = H1 → (sgB (KT (true, P.2)) D vwCl base tys ad ks t) → va_S (fun q : Nat => base ≤ q) s.heap H1 locs1 → W p l e R s m args below meth c H1 locs1 cells slots Q (F0 m (pc + 3) ls rest)) : W p l e R s m args below meth c H locs cells slots Q (F0 m pc ls st0) :=
  sg_callV2v X hK hG hC hS hb (m_X8_face_l l a0 h0 a1 h1 a2 h2) h0 (k := 8) (ci := 8) rfl (C := RX8) (T := TX8) (N := 9) rfl wl_4_66 wl_1_8 wl_4_64 wl_4_65 (n := 2) (by decide +kernel) rfl rfl rfl hl hsize hst hW hR hf hdg kk

set_option maxHeartbeats 8000000 in
set_option maxRecDepth 100000 in
theorem m_X11_lookByLaw (l : Launch) {D : va_G} {base : Nat} {tys : List (ClassId × FieldType)} {ad ks : List Nat} {P : sgPm} (a0 : Nat) (h0 : isK ad ks 11 a0) : Met l yX11_lookByLaw (Cond.code yX11_lookByLaw cX11_lookByLaw 2 none :: sg_tbl) ({ frames := 2, cells := 0, slots := 0, locals := 45 }) (va_Pc [.ref a0] (sgB (KT P) D vwCl base tys ad ks)) (va_Qv (fun (_ : Unit) => True) (fun _ => fun t => ∃ b : Bool, sgB (KT (b, P.2)) D vwCl base tys ad ks t) (fun q : Nat => base ≤ q)) 0 0 (fun q : Nat => base ≤ q) := by
  refine sg_ofW (by decide +kernel) (Nat.le_of_ble_eq_true rfl) (fun p e s m below meth c X hr hlk hb hK hC hG ls hl => ?_)
  have hS : va_S (fun q : Nat => base ≤ q) s.heap s.heap [] := va_S.rf
  have hl : lv_has ls 2 [(0, .ref a0)] := hl
  refine lv_aload_n X.1 X.2.1 dX11_lookByLaw_0 rfl (lv_at hl 0 rfl) ?_
  refine gf_X11_14 X hK hG h0 wl_2_209 dX11_lookByLaw_1 (fun f1 hf1 kf1 => ?_)
  refine lv_if_lt (tgt := 22) X.1 X.2.1 dX11_lookByLaw_4 (by decide) (fun c2 => ?_) (fun c2 => ?_)
  · refine lv_iconst (v := 0) X.1 X.2.1 dX11_lookByLaw_22 (by decide +kernel) ?_
    refine lv_istore_n (lv' := [(1, .int 0), (0, .ref a0)]) X.1 X.2.1 dX11_lookByLaw_23 rfl hl (by decide) rfl (fun ls hl => ?_)
    refine lv_aload_n X.1 X.2.1 dX11_lookByLaw_24 rfl (lv_at hl 1 rfl) ?_
    refine gf_X11_5 X hK hG h0 wl_2_200 dX11_lookByLaw_25 (fun q3 hq3 kq3 => ?_)
    refine lv_aload_n X.1 X.2.1 dX11_lookByLaw_28 rfl (lv_at hl 1 rfl) ?_
    refine gf_X11_10 X hK hG h0 wl_2_205 dX11_lookByLaw_29 (fun q4 hq4 kq4 => ?_)
    refine lv_iload_n X.1 X.2.1 dX11_lookByLaw_32 rfl (lv_at hl 0 rfl) ?_
    refine lv_if_eq (tgt := 48) X.1 X.2.1 dX11_lookByLaw_33 (by decide) (fun c5 => ?_) (fun c5 => ?_)
    · refine lv_null X.1 X.2.1 dX11_lookByLaw_48 ?_
      refine ca_X8_face_n X hK hG hC hS hb q3 hq3 q4 hq4 wl_4_63 hl.1 (rest := []) rfl (Nat.le_of_ble_eq_true rfl) ⟨Nat.le_of_ble_eq_true rfl, Nat.le_of_ble_eq_true rfl⟩ ⟨Nat.le_of_ble_eq_true rfl, Nat.le_of_ble_eq_true rfl⟩ dX11_lookByLaw_49 (fun tg6 H locs htg6 hWg6 hS => ?_)
      have hBg6 := hWg6
      have hG := hBg6.2.2.2
      rw [htg6] at hG
      exact sg_vret2 X hr hlk hS (fun t ht hW => ⟨_, sg_post hb hK hC hG hS ht hW⟩) dX11_lookByLaw_52
    · exact ((c5 (iv_one (iv_c 0 (a := 0) (b := 0) (by decide +kernel)) (iv_c 0 (a := 0) (b := 0) (by decide +kernel)) (by decide +kernel)))).elim
  · refine lv_aload_n X.1 X.2.1 dX11_lookByLaw_7 rfl (lv_at hl 0 rfl) ?_
    refine gg_X11_14 X hK hG h0 wl_2_209 kf1 dX11_lookByLaw_8 ?_
    refine lv_aload_n X.1 X.2.1 dX11_lookByLaw_11 rfl (lv_at hl 0 rfl) ?_
    refine gf_X11_12 X hK hG h0 wl_2_207 dX11_lookByLaw_12 (fun f7 hf7 pf7 kf7 => ?_)
    refine lv_icmp_ge (tgt := 22) X.1 X.2.1 dX11_lookByLaw_15 (by decide) (fun c8 => ?_) (fun c8 => ?_)
    · refine lv_iconst (v := 0) X.1 X.2.1 dX11_lookByLaw_22 (by decide +kernel) ?_
      refine lv_istore_n (lv' := [(1, .int 0), (0, .ref a0)]) X.1 X.2.1 dX11_lookByLaw_23 rfl hl (by decide) rfl (fun ls hl => ?_)
      refine lv_aload_n X.1 X.2.1 dX11_lookByLaw_24 rfl (lv_at hl 1 rfl) ?_
      refine gf_X11_5 X hK hG h0 wl_2_200 dX11_lookByLaw_25 (fun q9 hq9 kq9 => ?_)
      refine lv_aload_n X.1 X.2.1 dX11_lookByLaw_28 rfl (lv_at hl 1 rfl) ?_
      refine gf_X11_10 X hK hG h0 wl_2_205 dX11_lookByLaw_29 (fun q10 hq10 kq10 => ?_)
      refine lv_iload_n X.1 X.2.1 dX11_lookByLaw_32 rfl (lv_at hl 0 rfl) ?_
      refine lv_if_eq (tgt := 48) X.1 X.2.1 dX11_lookByLaw_33 (by decide) (fun c11 => ?_) (fun c11 => ?_)
      · refine lv_null X.1 X.2.1 dX11_lookByLaw_48 ?_
        refine ca_X8_face_n X hK hG hC hS hb q9 hq9 q10 hq10 wl_4_63 hl.1 (rest := []) rfl (Nat.le_of_ble_eq_true rfl) ⟨Nat.le_of_ble_eq_true rfl, Nat.le_of_ble_eq_true rfl⟩ ⟨Nat.le_of_ble_eq_true rfl, Nat.le_of_ble_eq_true rfl⟩ dX11_lookByLaw_49 (fun tg12 H locs htg12 hWg12 hS => ?_)
        have hBg12 := hWg12
        have hG := hBg12.2.2.2
        rw [htg12] at hG
        exact sg_vret2 X hr hlk hS (fun t ht hW => ⟨_, sg_post hb hK hC hG hS ht hW⟩) dX11_lookByLaw_52
      · exact ((c11 (iv_one (iv_c 0 (a := 0) (b := 0) (by decide +kernel)) (iv_c 0 (a := 0) (b := 0) (by decide +kernel)) (by decide +kernel)))).elim
    · refine lv_iconst (v := 1) X.1 X.2.1 dX11_lookByLaw_18 (by decide +kernel) ?_
      refine lv_goto (tgt := 23) X.1 X.2.1 dX11_lookByLaw_19 (by decide) ?_
      refine lv_istore_n (lv' := [(1, .int 1), (0, .ref a0)]) X.1 X.2.1 dX11_lookByLaw_23 rfl hl (by decide) rfl (fun ls hl => ?_)
      refine lv_aload_n X.1 X.2.1 dX11_lookByLaw_24 rfl (lv_at hl 1 rfl) ?_
      refine gf_X11_5 X hK hG h0 wl_2_200 dX11_lookByLaw_25 (fun q13 hq13 kq13 => ?_)
      refine lv_aload_n X.1 X.2.1 dX11_lookByLaw_28 rfl (lv_at hl 1 rfl) ?_
      refine gf_X11_10 X hK hG h0 wl_2_205 dX11_lookByLaw_29 (fun q14 hq14 kq14 => ?_)
      refine lv_iload_n X.1 X.2.1 dX11_lookByLaw_32 rfl (lv_at hl 0 rfl) ?_
      refine lv_if_eq (tgt := 48) X.1 X.2.1 dX11_lookByLaw_33 (by decide) (fun c15 => ?_) (fun c15 => ?_)
      · exact ((iv_no (a := 1) (b := 0) (iv_eqm c15 (iv_c 1 (a := 1) (b := 1) (by decide +kernel)) (iv_c 0 (a := 0) (b := 0) (by decide +kernel)) (by decide +kernel)) (by decide +kernel))).elim
      · refine lv_aload_n X.1 X.2.1 dX11_lookByLaw_36 rfl (lv_at hl 1 rfl) ?_
        refine gf_X11_1 X hK hG h0 wl_2_196 dX11_lookByLaw_37 (fun q16 hq16 kq16 => ?_)
        refine lv_aload_n X.1 X.2.1 dX11_lookByLaw_40 rfl (lv_at hl 1 rfl) ?_
        refine gg_X11_14 X hK hG h0 wl_2_209 kf1 dX11_lookByLaw_41 ?_
        refine al_43 X hK hG hq16 (iv_vpin (iv_lt (b' := 3) (iv_gt_of c8) (iv_ler (c' := 0) (iv_ge_of c2) (iv_c 0 (a := 0) (b := 0) (by decide +kernel)) (iv_top f1) (by decide +kernel)) hf7 (by decide +kernel)) (by decide +kernel)) dX11_lookByLaw_44 (fun q17 hq17 => ?_)
        refine lv_goto (tgt := 49) X.1 X.2.1 dX11_lookByLaw_45 (by decide) ?_
        refine ca_X8_face_l X hK hG hC hS hb q13 hq13 q14 hq14 q17 hq17 wl_4_63 hl.1 (rest := []) rfl (Nat.le_of_ble_eq_true rfl) ⟨Nat.le_of_ble_eq_true rfl, Nat.le_of_ble_eq_true rfl⟩ ⟨Nat.le_of_ble_eq_true rfl, Nat.le_of_ble_eq_true rfl⟩ dX11_lookByLaw_49 (fun tg18 H locs htg18 hWg18 hS => ?_)
        have hBg18 := hWg18
        have hG := hBg18.2.2.2
        rw [htg18] at hG
        exact sg_vret2 X hr hlk hS (fun t ht hW => ⟨_, sg_post hb hK hC hG hS ht hW⟩) dX11_lookByLaw_52

theorem ca_X11_lookByLaw   (X : CallFix p m c cc nL s args sg_tbl own) (hK : va_K D vwCl tys s) (hG : sgG (KT P) D vwCl (fun q : Nat => base ≤ q) tys ad ks H) (hC : sgC base s) (hS : va_S (fun q : Nat => base ≤ q) s.heap H locs) (hb : base ≤ s.heap.size) (a0 : Nat) (h0 : isK ad ks 11 a0) (hl : Cond.methodLink own index yX11_lookByLaw ∈ sg_tbl) (hsize : ls.size = nL) (hst : st0 = [].reverse ++ .ref a0 :: rest) (hW : (rest.map fun v => v.category).sum ≤ 8) (hR : 3 ≤ R.frames ∧ 66 ≤ R.locals) (hf : cells ≤ R.cells ∧ slots ≤ R.slots) (hdg : decode cc pc = .ok (.invokevirtual index, 3)) (kk : ∀ (t : State) (H1 : Heap) (locs1 : List Loc), t.heap = H1 → ((fun t => ∃ b : Bool, sgB (KT (b, P.2)) D vwCl base tys ad ks t) t) → va_S (fun q : Nat => base ≤ q) s.heap H1 locs1 → W p l e R s m args below meth c H1 locs1 cells slots Q (F0 m (pc + 3) ls rest)) : W p l e R s m args below meth c H locs cells slots Q (F0 m pc ls st0) :=
  sg_callV2v X hK hG hC hS hb (m_X11_lookByLaw l a0 h0) h0 (k := 11) (ci := 11) rfl (C := RX11) (T := TX11) (N := 17) rfl wl_4_62 wl_1_1 wl_4_61 wl_0_19 (n := 0) (by decide +kernel) rfl rfl rfl hl hsize hst hW hR hf hdg kk

set_option maxHeartbeats 8000000 in
set_option maxRecDepth 100000 in
theorem m_X11_law (l : Launch) {D : va_G} {base : Nat} {tys : List (ClassId × FieldType)} {ad ks : List Nat} {P : sgPm} (a0 : Nat) (h0 : isK ad ks 11 a0) (x1 : Int32) : Met l yX11_law (Cond.code yX11_law cX11_law 2 (some .boolean) :: sg_tbl) ({ frames := 3, cells := 0, slots := 0, locals := 66 }) (va_Pc [.ref a0, .int x1] (sgB (KT P) D vwCl base tys ad ks)) (va_Qi (fun r (u : Int32) => u = r ∧ (fun r : Int32 => iv 0 1 r) r) (fun u t => ∃ b : Bool, sgB (KT (b, P.2)) D vwCl base tys ad ks t) (fun q : Nat => base ≤ q)) 0 0 (fun q : Nat => base ≤ q) := by
  refine sg_ofW (by decide +kernel) (Nat.le_of_ble_eq_true rfl) (fun p e s m below meth c X hr hlk hb hK hC hG ls hl => ?_)
  have hS : va_S (fun q : Nat => base ≤ q) s.heap s.heap [] := va_S.rf
  have hl : lv_has ls 2 [(0, .ref a0), (1, .int x1)] := hl
  refine lv_iload_n X.1 X.2.1 dX11_law_0 rfl (lv_at hl 1 rfl) ?_
  refine lv_iconst (v := (-1)) X.1 X.2.1 dX11_law_1 (by decide +kernel) ?_
  refine lv_icmp_lt (tgt := 13) X.1 X.2.1 dX11_law_2 (by decide) (fun c1 => ?_) (fun c1 => ?_)
  · refine lv_iconst (v := 0) X.1 X.2.1 dX11_law_13 (by decide +kernel) ?_
    exact sg_zret2 X hr (sg_zn (iv_of (iv_c 0 (a := 0) (b := 0) (by decide +kernel)) (a' := 0) (b' := 1) (by decide +kernel))) hlk hS (iv_of (iv_c 0 (a := 0) (b := 0) (by decide +kernel)) (a' := 0) (b' := 1) (by decide +kernel)) (fun t ht hW => ⟨_, sg_post hb hK hC hG hS ht hW⟩) dX11_law_14
  · refine lv_iload_n X.1 X.2.1 dX11_law_5 rfl (lv_at hl 1 rfl) ?_
    refine lv_aload_n X.1 X.2.1 dX11_law_6 rfl (lv_at hl 0 rfl) ?_
    refine gf_X11_12 X hK hG h0 wl_2_207 dX11_law_7 (fun f2 hf2 pf2 kf2 => ?_)
    refine lv_icmp_lt (tgt := 15) X.1 X.2.1 dX11_law_10 (by decide) (fun c3 => ?_) (fun c3 => ?_)
    · refine lv_aload_n X.1 X.2.1 dX11_law_15 rfl (lv_at hl 0 rfl) ?_
      refine lv_iload_n X.1 X.2.1 dX11_law_16 rfl (lv_at hl 1 rfl) ?_
      refine pf_X11_14 X hK hG hS h0 wl_2_209 ⟨_, rfl, (iv_top _)⟩ dX11_law_17 (fun H locs hG hS ku4 ru4 => ?_)
      refine lv_aload_n X.1 X.2.1 dX11_law_20 rfl (lv_at hl 0 rfl) ?_
      refine ca_X11_lookByLaw X hK hG hC hS hb a0 h0 wl_4_59 hl.1 (rest := []) rfl (Nat.le_of_ble_eq_true rfl) ⟨Nat.le_of_ble_eq_true rfl, Nat.le_of_ble_eq_true rfl⟩ ⟨Nat.le_of_ble_eq_true rfl, Nat.le_of_ble_eq_true rfl⟩ dX11_law_21 (fun tg5 H locs htg5 hWg5 hS => ?_)
      obtain ⟨b6, hBg5⟩ := hWg5
      have hG := hBg5.2.2.2
      rw [htg5] at hG
      refine lv_iconst (v := 1) X.1 X.2.1 dX11_law_24 (by decide +kernel) ?_
      exact sg_zret2 X hr (sg_zn (iv_of (iv_c 1 (a := 1) (b := 1) (by decide +kernel)) (a' := 0) (b' := 1) (by decide +kernel))) hlk hS (iv_of (iv_c 1 (a := 1) (b := 1) (by decide +kernel)) (a' := 0) (b' := 1) (by decide +kernel)) (fun t ht hW => ⟨_, sg_post hb hK hC hG hS ht hW⟩) dX11_law_25
    · refine lv_iconst (v := 0) X.1 X.2.1 dX11_law_13 (by decide +kernel) ?_
      exact sg_zret2 X hr (sg_zn (iv_of (iv_c 0 (a := 0) (b := 0) (by decide +kernel)) (a' := 0) (b' := 1) (by decide +kernel))) hlk hS (iv_of (iv_c 0 (a := 0) (b := 0) (by decide +kernel)) (a' := 0) (b' := 1) (by decide +kernel)) (fun t ht hW => ⟨_, sg_post hb hK hC hG hS ht hW⟩) dX11_law_14

theorem ca_X11_law   (X : CallFix p m c cc nL s args sg_tbl own) (hK : va_K D vwCl tys s) (hG : sgG (KT P) D vwCl (fun q : Nat => base ≤ q) tys ad ks H) (hC : sgC base s) (hS : va_S (fun q : Nat => base ≤ q) s.heap H locs) (hb : base ≤ s.heap.size) (a0 : Nat) (h0 : isK ad ks 11 a0) (x1 : Int32) (hl : Cond.methodLink own index yX11_law ∈ sg_tbl) (hsize : ls.size = nL) (hst : st0 = [.int x1].reverse ++ .ref a0 :: rest) (hW : (rest.map fun v => v.category).sum ≤ 8) (hR : 4 ≤ R.frames ∧ 87 ≤ R.locals) (hf : cells ≤ R.cells ∧ slots ≤ R.slots) (hdg : decode cc pc = .ok (.invokevirtual index, 3)) (kk : ∀ (r : Int32) (t : State) (H1 : Heap) (locs1 : List Loc), t.heap = H1 → (fun r : Int32 => iv 0 1 r) r → (∃ b : Bool, sgB (KT (b, P.2)) D vwCl base tys ad ks t) → va_S (fun q : Nat => base ≤ q) s.heap H1 locs1 → W p l e R s m args below meth c H1 locs1 cells slots Q (F0 m (pc + 3) ls (.int r :: rest))) : W p l e R s m args below meth c H locs cells slots Q (F0 m pc ls st0) :=
  sg_callV2i X hK hG hC hS hb (m_X11_law l a0 h0 x1) h0 (k := 11) (ci := 11) rfl (C := RX11) (T := TX11) (N := 17) rfl wl_4_81 wl_1_1 wl_4_79 wl_4_80 (n := 1) (by decide +kernel) rfl rfl rfl hl hsize hst hW hR hf hdg kk

set_option maxHeartbeats 8000000 in
set_option maxRecDepth 100000 in
theorem m_X11_tellLawn (l : Launch) {D : va_G} {base : Nat} {tys : List (ClassId × FieldType)} {ad ks : List Nat} {P : sgPm} (a0 : Nat) (h0 : isK ad ks 11 a0) : Met l yX11_tellLawn (Cond.code yX11_tellLawn cX11_tellLawn 2 (some .int) :: sg_tbl) ({ frames := 7, cells := 0, slots := 0, locals := 160 }) (va_Pc [.ref a0] (sgB (KT P) D vwCl base tys ad ks)) (va_Qi (fun r (u : Int32) => u = r ∧ (fun r : Int32 => True) r) (fun u t => ∃ b : Bool, sgB (KT (b, P.2)) D vwCl base tys ad ks t) (fun q : Nat => base ≤ q)) 0 0 (fun q : Nat => base ≤ q) := by
  refine sg_ofW (by decide +kernel) (Nat.le_of_ble_eq_true rfl) (fun p e s m below meth c X hr hlk hb hK hC hG ls hl => ?_)
  have hS : va_S (fun q : Nat => base ≤ q) s.heap s.heap [] := va_S.rf
  have hl : lv_has ls 2 [(0, .ref a0)] := hl
  refine lv_aload_n X.1 X.2.1 dX11_tellLawn_0 rfl (lv_at hl 0 rfl) ?_
  refine gf_X11_11 X hK hG h0 wl_2_206 dX11_tellLawn_1 (fun q1 hq1 kq1 => ?_)
  refine lv_aload_n X.1 X.2.1 dX11_tellLawn_4 rfl (lv_at hl 0 rfl) ?_
  refine gf_X11_0 X hK hG h0 wl_2_195 dX11_tellLawn_5 (fun q2 hq2 kq2 => ?_)
  refine ca_X4_read X hK hG hC hS hb q1 hq1 q2 hq2 wl_3_26 hl.1 (rest := []) rfl (Nat.le_of_ble_eq_true rfl) ⟨Nat.le_of_ble_eq_true rfl, Nat.le_of_ble_eq_true rfl⟩ ⟨Nat.le_of_ble_eq_true rfl, Nat.le_of_ble_eq_true rfl⟩ dX11_tellLawn_8 (fun f3 H locs hf3 hG hS => ?_)
  refine lv_if_ne (tgt := 16) X.1 X.2.1 dX11_tellLawn_11 (by decide) (fun c4 => ?_) (fun c4 => ?_)
  · refine lv_aload_n X.1 X.2.1 dX11_tellLawn_16 rfl (lv_at hl 0 rfl) ?_
    refine gf_X11_10 X hK hG h0 wl_2_205 dX11_tellLawn_17 (fun q5 hq5 kq5 => ?_)
    refine lv_astore_n (lv' := [(1, .ref q5), (0, .ref a0)]) X.1 X.2.1 dX11_tellLawn_20 rfl hl (by decide) rfl (fun ls hl => ?_)
    refine lv_aload_n X.1 X.2.1 dX11_tellLawn_21 rfl (lv_at hl 1 rfl) ?_
    refine lv_aload_n X.1 X.2.1 dX11_tellLawn_22 rfl (lv_at hl 1 rfl) ?_
    refine gf_X11_11 X hK hG h0 wl_2_206 dX11_tellLawn_23 (fun q6 hq6 kq6 => ?_)
    refine pf_X11_10 X hK hG hS h0 wl_2_205 (Or.inr ⟨_, rfl, hq6⟩) dX11_tellLawn_26 (fun H locs hG hS ku7 ru7 => ?_)
    refine lv_aload_n X.1 X.2.1 dX11_tellLawn_29 rfl (lv_at hl 1 rfl) ?_
    refine lv_aload_n X.1 X.2.1 dX11_tellLawn_30 rfl (lv_at hl 0 rfl) ?_
    refine pf_X11_11 X hK hG hS h0 wl_2_206 (Or.inr ⟨_, rfl, hq5⟩) dX11_tellLawn_31 (fun H locs hG hS ku8 ru8 => ?_)
    refine lv_aload_n X.1 X.2.1 dX11_tellLawn_34 rfl (lv_at hl 1 rfl) ?_
    refine gf_X11_0 X hK hG h0 wl_2_195 dX11_tellLawn_35 (fun q9 hq9 kq9 => ?_)
    refine lv_iconst (v := 0) X.1 X.2.1 dX11_tellLawn_38 (by decide +kernel) ?_
    refine pf_X10_1 X hK hG hS hq9 wl_1_42 ⟨_, rfl, (iv_of (iv_c 0 (a := 0) (b := 0) (by decide +kernel)) (a' := 0) (b' := 240) (by decide +kernel))⟩ dX11_tellLawn_39 (fun H locs hG hS ku10 ru10 => ?_)
    refine lv_aload_n X.1 X.2.1 dX11_tellLawn_42 rfl (lv_at hl 1 rfl) ?_
    refine gf_X11_3 X hK hG h0 wl_2_198 dX11_tellLawn_43 (fun q11 hq11 kq11 => ?_)
    refine lv_aload_n X.1 X.2.1 dX11_tellLawn_46 rfl (lv_at hl 1 rfl) ?_
    refine gg_X11_10 X hK hG h0 wl_2_205 (ru10 _ _ _ _ _ _ _ h0 rfl rfl (by decide) (fun z => absurd z.1 (isK_ne hG h0 hq9 (by decide))) (ru8 _ _ _ _ _ _ _ h0 rfl rfl (by decide) (fun z => absurd z.2 (by decide)) ku7)) dX11_tellLawn_47 ?_
    refine gf_X4_9 X hK hG hq6 wl_1_228 dX11_tellLawn_50 (fun f12 hf12 kf12 => ?_)
    refine lv_aload_n X.1 X.2.1 dX11_tellLawn_53 rfl (lv_at hl 1 rfl) ?_
    refine gg_X11_10 X hK hG h0 wl_2_205 (ru10 _ _ _ _ _ _ _ h0 rfl rfl (by decide) (fun z => absurd z.1 (isK_ne hG h0 hq9 (by decide))) (ru8 _ _ _ _ _ _ _ h0 rfl rfl (by decide) (fun z => absurd z.2 (by decide)) ku7)) dX11_tellLawn_54 ?_
    refine gf_X4_0 X hK hG hq6 wl_1_211 dX11_tellLawn_57 (fun q13 hq13 kq13 => ?_)
    refine lv_bipush (v := 6) X.1 X.2.1 dX11_tellLawn_60 (by decide +kernel) ?_
    refine al_21 X hK hG hq13 (iv_vpin (iv_c 6 (a := 6) (b := 6) (by decide +kernel)) (by decide +kernel)) dX11_tellLawn_62 (fun f14 hf14 => ?_)
    have of14 := hf14
    have hf14 : iv 0 1 f14 := sg_sp_rules hf14 (iv_c 6 (a := 6) (b := 6) (by decide +kernel)) (by decide +kernel) rfl
    refine ca_X9_begin X hK hG hC hS hb q11 hq11 f12 hf12 f14 wl_4_43 hl.1 (rest := []) rfl (Nat.le_of_ble_eq_true rfl) ⟨Nat.le_of_ble_eq_true rfl, Nat.le_of_ble_eq_true rfl⟩ ⟨Nat.le_of_ble_eq_true rfl, Nat.le_of_ble_eq_true rfl⟩ dX11_tellLawn_63 (fun H locs hG hS => ?_)
    refine lv_aload_n X.1 X.2.1 dX11_tellLawn_66 rfl (lv_at hl 1 rfl) ?_
    refine gf_X11_4 X hK hG h0 wl_2_199 dX11_tellLawn_67 (fun q16 hq16 kq16 => ?_)
    refine ca_X5_clear X hK hG hC hS hb q16 hq16 wl_4_47 hl.1 (rest := []) rfl (Nat.le_of_ble_eq_true rfl) ⟨Nat.le_of_ble_eq_true rfl, Nat.le_of_ble_eq_true rfl⟩ ⟨Nat.le_of_ble_eq_true rfl, Nat.le_of_ble_eq_true rfl⟩ dX11_tellLawn_70 (fun H locs hG hS => ?_)
    refine lv_aload_n X.1 X.2.1 dX11_tellLawn_73 rfl (lv_at hl 1 rfl) ?_
    refine gf_X11_9 X hK hG h0 wl_2_204 dX11_tellLawn_74 (fun q18 hq18 kq18 => ?_)
    refine ca_X1_clear X hK hG hC hS hb q18 hq18 wl_4_51 hl.1 (rest := []) rfl (Nat.le_of_ble_eq_true rfl) ⟨Nat.le_of_ble_eq_true rfl, Nat.le_of_ble_eq_true rfl⟩ ⟨Nat.le_of_ble_eq_true rfl, Nat.le_of_ble_eq_true rfl⟩ dX11_tellLawn_77 (fun H locs hG hS => ?_)
    refine lv_aload_n X.1 X.2.1 dX11_tellLawn_80 rfl (lv_at hl 1 rfl) ?_
    refine gf_X11_8 X hK hG h0 wl_2_203 dX11_tellLawn_81 (fun q20 hq20 kq20 => ?_)
    refine ca_X2_forget X hK hG hC hS hb q20 hq20 wl_4_55 hl.1 (rest := []) rfl (Nat.le_of_ble_eq_true rfl) ⟨Nat.le_of_ble_eq_true rfl, Nat.le_of_ble_eq_true rfl⟩ ⟨Nat.le_of_ble_eq_true rfl, Nat.le_of_ble_eq_true rfl⟩ dX11_tellLawn_84 (fun H locs hG hS => ?_)
    refine lv_aload_n X.1 X.2.1 dX11_tellLawn_87 rfl (lv_at hl 1 rfl) ?_
    refine ca_X11_lookByLaw X hK hG hC hS hb a0 h0 wl_4_59 hl.1 (rest := []) rfl (Nat.le_of_ble_eq_true rfl) ⟨Nat.le_of_ble_eq_true rfl, Nat.le_of_ble_eq_true rfl⟩ ⟨Nat.le_of_ble_eq_true rfl, Nat.le_of_ble_eq_true rfl⟩ dX11_tellLawn_88 (fun tg22 H locs htg22 hWg22 hS => ?_)
    obtain ⟨b23, hBg22⟩ := hWg22
    have hG := hBg22.2.2.2
    rw [htg22] at hG
    refine lv_aload_n X.1 X.2.1 dX11_tellLawn_91 rfl (lv_at hl 1 rfl) ?_
    refine gf_X11_10 X hK hG h0 wl_2_205 dX11_tellLawn_92 (fun q24 hq24 kq24 => ?_)
    refine gf_X4_5 X hK hG hq24 wl_1_220 dX11_tellLawn_95 (fun f25 hf25 kf25 => ?_)
    exact sg_iret2 X hr hlk hS trivial (fun t ht hW => ⟨_, sg_post hb hK hC hG hS ht hW⟩) dX11_tellLawn_98
  · refine lv_iconst (v := (-1)) X.1 X.2.1 dX11_tellLawn_14 (by decide +kernel) ?_
    exact sg_iret2 X hr hlk hS trivial (fun t ht hW => ⟨_, sg_post hb hK hC hG hS ht hW⟩) dX11_tellLawn_15

theorem ca_X11_tellLawn   (X : CallFix p m c cc nL s args sg_tbl own) (hK : va_K D vwCl tys s) (hG : sgG (KT P) D vwCl (fun q : Nat => base ≤ q) tys ad ks H) (hC : sgC base s) (hS : va_S (fun q : Nat => base ≤ q) s.heap H locs) (hb : base ≤ s.heap.size) (a0 : Nat) (h0 : isK ad ks 11 a0) (hl : Cond.methodLink own index yX11_tellLawn ∈ sg_tbl) (hsize : ls.size = nL) (hst : st0 = [].reverse ++ .ref a0 :: rest) (hW : (rest.map fun v => v.category).sum ≤ 8) (hR : 8 ≤ R.frames ∧ 181 ≤ R.locals) (hf : cells ≤ R.cells ∧ slots ≤ R.slots) (hdg : decode cc pc = .ok (.invokevirtual index, 3)) (kk : ∀ (r : Int32) (t : State) (H1 : Heap) (locs1 : List Loc), t.heap = H1 → (fun r : Int32 => True) r → (∃ b : Bool, sgB (KT (b, P.2)) D vwCl base tys ad ks t) → va_S (fun q : Nat => base ≤ q) s.heap H1 locs1 → W p l e R s m args below meth c H1 locs1 cells slots Q (F0 m (pc + 3) ls (.int r :: rest))) : W p l e R s m args below meth c H locs cells slots Q (F0 m pc ls st0) :=
  sg_callV2i X hK hG hC hS hb (m_X11_tellLawn l a0 h0) h0 (k := 11) (ci := 11) rfl (C := RX11) (T := TX11) (N := 17) rfl wl_4_42 wl_1_1 wl_4_41 wl_0_18 (n := 0) (by decide +kernel) rfl rfl rfl hl hsize hst hW hR hf hdg kk

set_option maxHeartbeats 8000000 in
set_option maxRecDepth 100000 in
theorem m_X11_text (l : Launch) {D : va_G} {base : Nat} {tys : List (ClassId × FieldType)} {ad ks : List Nat} {P : sgPm} (a0 : Nat) (h0 : isK ad ks 11 a0) (x1 : Int32) : Met l yX11_text (Cond.code yX11_text cX11_text 2 (some .int) :: sg_tbl) ({ frames := 23, cells := 0, slots := 0, locals := 565 }) (va_Pc [.ref a0, .int x1] (sgB (KT P) D vwCl base tys ad ks)) (va_Qi (fun r (u : Int32) => u = r ∧ (fun r : Int32 => True) r) (fun u t => ∃ P1 : sgPm, sgKeep P P1 ∧ sgPin P1 = sgPin P ∧ sgN P1 = sgN P ∧ sgB (KT P1) D vwCl base tys ad ks t) (fun q : Nat => base ≤ q)) 0 0 (fun q : Nat => base ≤ q) := by
  refine sg_ofW (by decide +kernel) (Nat.le_of_ble_eq_true rfl) (fun p e s m below meth c X hr hlk hb hK hC hG ls hl => ?_)
  have hS : va_S (fun q : Nat => base ≤ q) s.heap s.heap [] := va_S.rf
  have hl : lv_has ls 2 [(0, .ref a0), (1, .int x1)] := hl
  refine lv_iload_n X.1 X.2.1 dX11_text_0 rfl (lv_at hl 1 rfl) ?_
  refine lv_if_ne (tgt := 9) X.1 X.2.1 dX11_text_1 (by decide) (fun c1 => ?_) (fun c1 => ?_)
  · refine lv_iload_n X.1 X.2.1 dX11_text_9 rfl (lv_at hl 1 rfl) ?_
    refine lv_iconst (v := 1) X.1 X.2.1 dX11_text_10 (by decide +kernel) ?_
    refine lv_icmp_ne (tgt := 66) X.1 X.2.1 dX11_text_11 (by decide) (fun c2 => ?_) (fun c2 => ?_)
    · refine lv_iload_n X.1 X.2.1 dX11_text_66 rfl (lv_at hl 1 rfl) ?_
      refine lv_iconst (v := 2) X.1 X.2.1 dX11_text_67 (by decide +kernel) ?_
      refine lv_icmp_ne (tgt := 123) X.1 X.2.1 dX11_text_68 (by decide) (fun c3 => ?_) (fun c3 => ?_)
      · refine lv_iconst (v := (-1)) X.1 X.2.1 dX11_text_123 (by decide +kernel) ?_
        exact sg_iret2 X hr hlk hS trivial (fun t ht hW => ⟨P, ⟨rfl, rfl, Nat.le_refl _, Nat.le_add_right _ _⟩, rfl, rfl, sg_post hb hK hC hG hS ht hW⟩) dX11_text_124
      · refine lv_aload_n X.1 X.2.1 dX11_text_71 rfl (lv_at hl 0 rfl) ?_
        refine gf_X11_13 X hK hG h0 wl_2_208 dX11_text_72 (fun f4 hf4 pf4 kf4 => ?_)
        refine lv_iconst (v := 4) X.1 X.2.1 dX11_text_75 (by decide +kernel) ?_
        refine lv_icmp_ge (tgt := 123) X.1 X.2.1 dX11_text_76 (by decide) (fun c5 => ?_) (fun c5 => ?_)
        · refine lv_iconst (v := (-1)) X.1 X.2.1 dX11_text_123 (by decide +kernel) ?_
          exact sg_iret2 X hr hlk hS trivial (fun t ht hW => ⟨P, ⟨rfl, rfl, Nat.le_refl _, Nat.le_add_right _ _⟩, rfl, rfl, sg_post hb hK hC hG hS ht hW⟩) dX11_text_124
        · refine lv_aload_n X.1 X.2.1 dX11_text_79 rfl (lv_at hl 0 rfl) ?_
          refine gf_X11_2 X hK hG h0 wl_2_197 dX11_text_80 (fun q6 hq6 kq6 => ?_)
          refine lv_aload_n X.1 X.2.1 dX11_text_83 rfl (lv_at hl 0 rfl) ?_
          refine gg_X11_13 X hK hG h0 wl_2_208 kf4 dX11_text_84 ?_
          refine al_44 X hK hG hq6 (iv_vpin (iv_lt (b' := 3) (iv_gt_of c5) hf4 (iv_c 4 (a := 4) (b := 4) (by decide +kernel)) (by decide +kernel)) (by decide +kernel)) dX11_text_87 (fun q7 hq7 => ?_)
          refine lv_aload_n X.1 X.2.1 dX11_text_88 rfl (lv_at hl 0 rfl) ?_
          refine gf_X11_0 X hK hG h0 wl_2_195 dX11_text_89 (fun q8 hq8 kq8 => ?_)
          refine ca_X3_read X hK hG hC hS hb q7 hq7 q8 hq8 wl_4_14 hl.1 (rest := []) rfl (Nat.le_of_ble_eq_true rfl) ⟨Nat.le_of_ble_eq_true rfl, Nat.le_of_ble_eq_true rfl⟩ ⟨Nat.le_of_ble_eq_true rfl, Nat.le_of_ble_eq_true rfl⟩ dX11_text_92 (fun f9 H locs hf9 hG hS => ?_)
          refine lv_if_eq (tgt := 123) X.1 X.2.1 dX11_text_95 (by decide) (fun c10 => ?_) (fun c10 => ?_)
          · refine lv_iconst (v := (-1)) X.1 X.2.1 dX11_text_123 (by decide +kernel) ?_
            exact sg_iret2 X hr hlk hS trivial (fun t ht hW => ⟨P, ⟨rfl, rfl, Nat.le_refl _, Nat.le_add_right _ _⟩, rfl, rfl, sg_post hb hK hC hG hS ht hW⟩) dX11_text_124
          · refine lv_aload_n X.1 X.2.1 dX11_text_98 rfl (lv_at hl 0 rfl) ?_
            refine gf_X11_0 X hK hG h0 wl_2_195 dX11_text_99 (fun q11 hq11 kq11 => ?_)
            refine lv_iconst (v := 0) X.1 X.2.1 dX11_text_102 (by decide +kernel) ?_
            refine pf_X10_1 X hK hG hS hq11 wl_1_42 ⟨_, rfl, (iv_of (iv_c 0 (a := 0) (b := 0) (by decide +kernel)) (a' := 0) (b' := 240) (by decide +kernel))⟩ dX11_text_103 (fun H locs hG hS ku12 ru12 => ?_)
            refine lv_aload_n X.1 X.2.1 dX11_text_106 rfl (lv_at hl 0 rfl) ?_
            refine lv_dup X.1 X.2.1 dX11_text_107 rfl ?_
            refine gf_X11_13 X hK hG h0 wl_2_208 dX11_text_108 (fun f13 hf13 pf13 kf13 => ?_)
            refine lv_iconst (v := 1) X.1 X.2.1 dX11_text_111 (by decide +kernel) ?_
            refine lv_iadd X.1 X.2.1 dX11_text_112 ?_
            refine lv_topi (fun f14 ef14 => ?_)
            obtain ⟨n15, hn15⟩ := sg_pin pf4 (iv_lt (b' := 3) (iv_gt_of c5) hf4 (iv_c 4 (a := 4) (b := 4) (by decide +kernel)) (by decide +kernel)) pf13 ef14
            refine pf_X11_13p X hK hG hS h0 wl_2_208 (n := n15) (sg_pinv hn15) dX11_text_113 (fun H locs hG hS => ?_)
            refine lv_aload_n X.1 X.2.1 dX11_text_116 rfl (lv_at hl 0 rfl) ?_
            refine gf_X11_13 X hK hG h0 wl_2_208 dX11_text_117 (fun f16 hf16 pf16 kf16 => ?_)
            refine lv_iconst (v := 1) X.1 X.2.1 dX11_text_120 (by decide +kernel) ?_
            refine lv_isub X.1 X.2.1 dX11_text_121 ?_
            refine lv_topi (fun f17 ef17 => ?_)
            exact sg_iret2 X hr hlk hS trivial (fun t ht hW => ⟨(P.1, P.2.1, P.2.2.1, P.2.2.2.1, P.2.2.2.2.1, P.2.2.2.2.2.1, P.2.2.2.2.2.2.1, n15, P.2.2.2.2.2.2.2.2), ⟨rfl, rfl, Nat.le_refl _, Nat.le_add_right _ _⟩, rfl, rfl, sg_post hb hK hC hG hS ht hW⟩) dX11_text_122
    · refine lv_aload_n X.1 X.2.1 dX11_text_14 rfl (lv_at hl 0 rfl) ?_
      refine gf_X11_12 X hK hG h0 wl_2_207 dX11_text_15 (fun f18 hf18 pf18 kf18 => ?_)
      refine lv_iconst (v := 4) X.1 X.2.1 dX11_text_18 (by decide +kernel) ?_
      refine lv_icmp_ge (tgt := 66) X.1 X.2.1 dX11_text_19 (by decide) (fun c19 => ?_) (fun c19 => ?_)
      · refine lv_iload_n X.1 X.2.1 dX11_text_66 rfl (lv_at hl 1 rfl) ?_
        refine lv_iconst (v := 2) X.1 X.2.1 dX11_text_67 (by decide +kernel) ?_
        refine lv_icmp_ne (tgt := 123) X.1 X.2.1 dX11_text_68 (by decide) (fun c20 => ?_) (fun c20 => ?_)
        · refine lv_iconst (v := (-1)) X.1 X.2.1 dX11_text_123 (by decide +kernel) ?_
          exact sg_iret2 X hr hlk hS trivial (fun t ht hW => ⟨P, ⟨rfl, rfl, Nat.le_refl _, Nat.le_add_right _ _⟩, rfl, rfl, sg_post hb hK hC hG hS ht hW⟩) dX11_text_124
        · exact ((iv_no (a := 2) (b := 1) (iv_eqm c20 (iv_eqm (a' := 1) (b' := 1) c2 (iv_top x1) (iv_c 1 (a := 1) (b := 1) (by decide +kernel)) (by decide +kernel)) (iv_c 2 (a := 2) (b := 2) (by decide +kernel)) (by decide +kernel)) (by decide +kernel))).elim
      · refine lv_aload_n X.1 X.2.1 dX11_text_22 rfl (lv_at hl 0 rfl) ?_
        refine gf_X11_1 X hK hG h0 wl_2_196 dX11_text_23 (fun q21 hq21 kq21 => ?_)
        refine lv_aload_n X.1 X.2.1 dX11_text_26 rfl (lv_at hl 0 rfl) ?_
        refine gg_X11_12 X hK hG h0 wl_2_207 kf18 dX11_text_27 ?_
        refine al_43 X hK hG hq21 (iv_vpin (iv_lt (b' := 3) (iv_gt_of c19) hf18 (iv_c 4 (a := 4) (b := 4) (by decide +kernel)) (by decide +kernel)) (by decide +kernel)) dX11_text_30 (fun q22 hq22 => ?_)
        refine lv_aload_n X.1 X.2.1 dX11_text_31 rfl (lv_at hl 0 rfl) ?_
        refine gf_X11_0 X hK hG h0 wl_2_195 dX11_text_32 (fun q23 hq23 kq23 => ?_)
        refine ca_X6_read X hK hG hC hS hb q22 hq22 q23 hq23 wl_3_205 hl.1 (rest := []) rfl (Nat.le_of_ble_eq_true rfl) ⟨Nat.le_of_ble_eq_true rfl, Nat.le_of_ble_eq_true rfl⟩ ⟨Nat.le_of_ble_eq_true rfl, Nat.le_of_ble_eq_true rfl⟩ dX11_text_35 (fun f24 H locs hf24 hG hS => ?_)
        refine lv_if_eq (tgt := 66) X.1 X.2.1 dX11_text_38 (by decide) (fun c25 => ?_) (fun c25 => ?_)
        · refine lv_iload_n X.1 X.2.1 dX11_text_66 rfl (lv_at hl 1 rfl) ?_
          refine lv_iconst (v := 2) X.1 X.2.1 dX11_text_67 (by decide +kernel) ?_
          refine lv_icmp_ne (tgt := 123) X.1 X.2.1 dX11_text_68 (by decide) (fun c26 => ?_) (fun c26 => ?_)
          · refine lv_iconst (v := (-1)) X.1 X.2.1 dX11_text_123 (by decide +kernel) ?_
            exact sg_iret2 X hr hlk hS trivial (fun t ht hW => ⟨P, ⟨rfl, rfl, Nat.le_refl _, Nat.le_add_right _ _⟩, rfl, rfl, sg_post hb hK hC hG hS ht hW⟩) dX11_text_124
          · exact ((iv_no (a := 2) (b := 1) (iv_eqm c26 (iv_eqm (a' := 1) (b' := 1) c2 (iv_top x1) (iv_c 1 (a := 1) (b := 1) (by decide +kernel)) (by decide +kernel)) (iv_c 2 (a := 2) (b := 2) (by decide +kernel)) (by decide +kernel)) (by decide +kernel))).elim
        · refine lv_aload_n X.1 X.2.1 dX11_text_41 rfl (lv_at hl 0 rfl) ?_
          refine gf_X11_0 X hK hG h0 wl_2_195 dX11_text_42 (fun q27 hq27 kq27 => ?_)
          refine lv_iconst (v := 0) X.1 X.2.1 dX11_text_45 (by decide +kernel) ?_
          refine pf_X10_1 X hK hG hS hq27 wl_1_42 ⟨_, rfl, (iv_of (iv_c 0 (a := 0) (b := 0) (by decide +kernel)) (a' := 0) (b' := 240) (by decide +kernel))⟩ dX11_text_46 (fun H locs hG hS ku28 ru28 => ?_)
          refine lv_aload_n X.1 X.2.1 dX11_text_49 rfl (lv_at hl 0 rfl) ?_
          refine lv_dup X.1 X.2.1 dX11_text_50 rfl ?_
          refine gf_X11_12 X hK hG h0 wl_2_207 dX11_text_51 (fun f29 hf29 pf29 kf29 => ?_)
          refine lv_iconst (v := 1) X.1 X.2.1 dX11_text_54 (by decide +kernel) ?_
          refine lv_iadd X.1 X.2.1 dX11_text_55 ?_
          refine lv_topi (fun f30 ef30 => ?_)
          obtain ⟨n31, hn31⟩ := sg_pin pf18 (iv_lt (b' := 3) (iv_gt_of c19) hf18 (iv_c 4 (a := 4) (b := 4) (by decide +kernel)) (by decide +kernel)) pf29 ef30
          refine pf_X11_12p X hK hG hS h0 wl_2_207 (n := n31) (sg_pinv hn31) dX11_text_56 (fun H locs hG hS => ?_)
          refine lv_aload_n X.1 X.2.1 dX11_text_59 rfl (lv_at hl 0 rfl) ?_
          refine gf_X11_12 X hK hG h0 wl_2_207 dX11_text_60 (fun f32 hf32 pf32 kf32 => ?_)
          refine lv_iconst (v := 1) X.1 X.2.1 dX11_text_63 (by decide +kernel) ?_
          refine lv_isub X.1 X.2.1 dX11_text_64 ?_
          refine lv_topi (fun f33 ef33 => ?_)
          exact sg_iret2 X hr hlk hS trivial (fun t ht hW => ⟨(P.1, P.2.1, P.2.2.1, P.2.2.2.1, P.2.2.2.2.1, P.2.2.2.2.2.1, n31, P.2.2.2.2.2.2.2), ⟨rfl, rfl, Nat.le_refl _, Nat.le_add_right _ _⟩, rfl, rfl, sg_post hb hK hC hG hS ht hW⟩) dX11_text_65
  · refine lv_aload_n X.1 X.2.1 dX11_text_4 rfl (lv_at hl 0 rfl) ?_
    refine ca_X11_tellLawn X hK hG hC hS hb a0 h0 wl_4_39 hl.1 (rest := []) rfl (Nat.le_of_ble_eq_true rfl) ⟨Nat.le_of_ble_eq_true rfl, Nat.le_of_ble_eq_true rfl⟩ ⟨Nat.le_of_ble_eq_true rfl, Nat.le_of_ble_eq_true rfl⟩ dX11_text_5 (fun f34 tf34 H locs htf34 hf34 hWf34 hS => ?_)
    obtain ⟨b35, hBf34⟩ := hWf34
    have hG := hBf34.2.2.2
    rw [htf34] at hG
    exact sg_iret2 X hr hlk hS trivial (fun t ht hW => ⟨(b35, P.2), ⟨rfl, rfl, Nat.le_refl _, Nat.le_add_right _ _⟩, rfl, rfl, sg_post hb hK hC hG hS ht hW⟩) dX11_text_8

theorem ca_X11_text   (X : CallFix p m c cc nL s args sg_tbl own) (hK : va_K D vwCl tys s) (hG : sgG (KT P) D vwCl (fun q : Nat => base ≤ q) tys ad ks H) (hC : sgC base s) (hS : va_S (fun q : Nat => base ≤ q) s.heap H locs) (hb : base ≤ s.heap.size) (a0 : Nat) (h0 : isK ad ks 11 a0) (x1 : Int32) (hl : Cond.methodLink own index yX11_text ∈ sg_tbl) (hsize : ls.size = nL) (hst : st0 = [.int x1].reverse ++ .ref a0 :: rest) (hW : (rest.map fun v => v.category).sum ≤ 8) (hR : 24 ≤ R.frames ∧ 586 ≤ R.locals) (hf : cells ≤ R.cells ∧ slots ≤ R.slots) (hdg : decode cc pc = .ok (.invokevirtual index, 3)) (kk : ∀ (r : Int32) (t : State) (H1 : Heap) (locs1 : List Loc), t.heap = H1 → (fun r : Int32 => True) r → (∃ P1 : sgPm, sgKeep P P1 ∧ sgPin P1 = sgPin P ∧ sgN P1 = sgN P ∧ sgB (KT P1) D vwCl base tys ad ks t) → va_S (fun q : Nat => base ≤ q) s.heap H1 locs1 → W p l e R s m args below meth c H1 locs1 cells slots Q (F0 m (pc + 3) ls (.int r :: rest))) : W p l e R s m args below meth c H locs cells slots Q (F0 m pc ls st0) :=
  sg_callV2i X hK hG hC hS hb (m_X11_text l a0 h0 x1) h0 (k := 11) (ci := 11) rfl (C := RX11) (T := TX11) (N := 17) rfl wl_4_38 wl_1_1 wl_4_36 wl_4_37 (n := 1) (by decide +kernel) rfl rfl rfl hl hsize hst hW hR hf hdg kk

set_option maxHeartbeats 8000000 in
set_option maxRecDepth 100000 in
theorem m_X11_drought (l : Launch) {D : va_G} {base : Nat} {tys : List (ClassId × FieldType)} {ad ks : List Nat} {P : sgPm} (a0 : Nat) (h0 : isK ad ks 11 a0) (x1 : Int32) : Met l yX11_drought (Cond.code yX11_drought cX11_drought 2 (some .boolean) :: sg_tbl) ({ frames := 0, cells := 0, slots := 0, locals := 0 }) (va_Pc [.ref a0, .int x1] (sgB (KT P) D vwCl base tys ad ks)) (va_Qi (fun r (u : Int32) => u = r ∧ (fun r : Int32 => iv 0 1 r) r) (fun u t => sgDr x1 P.2.2.2.1 u ∧ (u = 0 ∧ sgB (KT P) D vwCl base tys ad ks t ∨ u = 1 ∧ sgB (KT (P.1, P.2.1, P.2.2.1, x1.toInt, P.2.2.2.2)) D vwCl base tys ad ks t)) (fun q : Nat => base ≤ q)) 0 0 (fun q : Nat => base ≤ q) := by
  refine sg_ofW (by decide +kernel) (Nat.le_of_ble_eq_true rfl) (fun p e s m below meth c X hr hlk hb hK hC hG ls hl => ?_)
  have hS : va_S (fun q : Nat => base ≤ q) s.heap s.heap [] := va_S.rf
  have hl : lv_has ls 2 [(0, .ref a0), (1, .int x1)] := hl
  refine lv_iload_n X.1 X.2.1 dX11_drought_0 rfl (lv_at hl 1 rfl) ?_
  refine lv_if_lt (tgt := 18) X.1 X.2.1 dX11_drought_1 (by decide) (fun c1 => ?_) (fun c1 => ?_)
  · refine lv_iconst (v := 0) X.1 X.2.1 dX11_drought_18 (by decide +kernel) ?_
    exact sg_zret2 X hr (sg_zn (iv_of (iv_c 0 (a := 0) (b := 0) (by decide +kernel)) (a' := 0) (b' := 1) (by decide +kernel))) hlk hS (iv_of (iv_c 0 (a := 0) (b := 0) (by decide +kernel)) (a' := 0) (b' := 1) (by decide +kernel)) (fun t ht hW => ⟨Or.inl ⟨rfl, (sg_drA c1)⟩, Or.inl ⟨rfl, sg_post hb hK hC hG hS ht hW⟩⟩) dX11_drought_19
  · refine lv_iload_n X.1 X.2.1 dX11_drought_4 rfl (lv_at hl 1 rfl) ?_
    refine lv_bipush (v := 99) X.1 X.2.1 dX11_drought_5 (by decide +kernel) ?_
    refine lv_icmp_gt (tgt := 18) X.1 X.2.1 dX11_drought_7 (by decide) (fun c2 => ?_) (fun c2 => ?_)
    · refine lv_iconst (v := 0) X.1 X.2.1 dX11_drought_18 (by decide +kernel) ?_
      exact sg_zret2 X hr (sg_zn (iv_of (iv_c 0 (a := 0) (b := 0) (by decide +kernel)) (a' := 0) (b' := 1) (by decide +kernel))) hlk hS (iv_of (iv_c 0 (a := 0) (b := 0) (by decide +kernel)) (a' := 0) (b' := 1) (by decide +kernel)) (fun t ht hW => ⟨Or.inl ⟨rfl, (sg_drB c2)⟩, Or.inl ⟨rfl, sg_post hb hK hC hG hS ht hW⟩⟩) dX11_drought_19
    · refine lv_iload_n X.1 X.2.1 dX11_drought_10 rfl (lv_at hl 1 rfl) ?_
      refine lv_aload_n X.1 X.2.1 dX11_drought_11 rfl (lv_at hl 0 rfl) ?_
      refine gf_X11_15 X hK hG h0 wl_2_210 dX11_drought_12 (fun f3 hf3 kf3 => ?_)
      refine lv_icmp_ne (tgt := 20) X.1 X.2.1 dX11_drought_15 (by decide) (fun c4 => ?_) (fun c4 => ?_)
      · refine lv_aload_n X.1 X.2.1 dX11_drought_20 rfl (lv_at hl 0 rfl) ?_
        refine lv_iload_n X.1 X.2.1 dX11_drought_21 rfl (lv_at hl 1 rfl) ?_
        refine pf_X11_15d X hK hG hS h0 wl_2_210 dX11_drought_22 (fun H locs hG hS => ?_)
        refine lv_iconst (v := 1) X.1 X.2.1 dX11_drought_25 (by decide +kernel) ?_
        exact sg_zret2 X hr (sg_zn (iv_of (iv_c 1 (a := 1) (b := 1) (by decide +kernel)) (a' := 0) (b' := 1) (by decide +kernel))) hlk hS (iv_of (iv_c 1 (a := 1) (b := 1) (by decide +kernel)) (a' := 0) (b' := 1) (by decide +kernel)) (fun t ht hW => ⟨Or.inr ⟨rfl, sg_drN (iv_ge_of c1) (iv_ge_of c2) c4 hf3⟩, Or.inr ⟨rfl, sg_post hb hK hC hG hS ht hW⟩⟩) dX11_drought_26
      · refine lv_iconst (v := 0) X.1 X.2.1 dX11_drought_18 (by decide +kernel) ?_
        exact sg_zret2 X hr (sg_zn (iv_of (iv_c 0 (a := 0) (b := 0) (by decide +kernel)) (a' := 0) (b' := 1) (by decide +kernel))) hlk hS (iv_of (iv_c 0 (a := 0) (b := 0) (by decide +kernel)) (a' := 0) (b' := 1) (by decide +kernel)) (fun t ht hW => ⟨Or.inl ⟨rfl, (sg_drC c4 hf3)⟩, Or.inl ⟨rfl, sg_post hb hK hC hG hS ht hW⟩⟩) dX11_drought_19

theorem ca_X11_drought   (X : CallFix p m c cc nL s args sg_tbl own) (hK : va_K D vwCl tys s) (hG : sgG (KT P) D vwCl (fun q : Nat => base ≤ q) tys ad ks H) (hC : sgC base s) (hS : va_S (fun q : Nat => base ≤ q) s.heap H locs) (hb : base ≤ s.heap.size) (a0 : Nat) (h0 : isK ad ks 11 a0) (x1 : Int32) (hl : Cond.methodLink own index yX11_drought ∈ sg_tbl) (hsize : ls.size = nL) (hst : st0 = [.int x1].reverse ++ .ref a0 :: rest) (hW : (rest.map fun v => v.category).sum ≤ 8) (hR : 1 ≤ R.frames ∧ 21 ≤ R.locals) (hf : cells ≤ R.cells ∧ slots ≤ R.slots) (hdg : decode cc pc = .ok (.invokevirtual index, 3)) (kk : ∀ (r : Int32) (t : State) (H1 : Heap) (locs1 : List Loc), t.heap = H1 → (fun r : Int32 => iv 0 1 r) r → (sgDr x1 P.2.2.2.1 r ∧ (r = 0 ∧ sgB (KT P) D vwCl base tys ad ks t ∨ r = 1 ∧ sgB (KT (P.1, P.2.1, P.2.2.1, x1.toInt, P.2.2.2.2)) D vwCl base tys ad ks t)) → va_S (fun q : Nat => base ≤ q) s.heap H1 locs1 → W p l e R s m args below meth c H1 locs1 cells slots Q (F0 m (pc + 3) ls (.int r :: rest))) : W p l e R s m args below meth c H locs cells slots Q (F0 m pc ls st0) :=
  sg_callV2i X hK hG hC hS hb (m_X11_drought l a0 h0 x1) h0 (k := 11) (ci := 11) rfl (C := RX11) (T := TX11) (N := 17) rfl wl_4_85 wl_1_1 wl_4_83 wl_4_84 (n := 1) (by decide +kernel) rfl rfl rfl hl hsize hst hW hR hf hdg kk
end
