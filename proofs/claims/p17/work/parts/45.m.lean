abbrev cX12_canGrow : ByteArray := prog_14_method_58_code
def yX12_canGrow : MethodName := ⟨RX12, "canGrow", "([II)Z"⟩
abbrev cX12_games : ByteArray := prog_14_method_73_code
def yX12_games : MethodName := ⟨RX12, "games", "(IJ)I"⟩
abbrev cX12_grow : ByteArray := prog_14_method_60_code
def yX12_grow : MethodName := ⟨RX12, "grow", "(I)I"⟩
abbrev cX12_isSign : ByteArray := prog_14_method_19_code
def yX12_isSign : MethodName := ⟨RX12, "isSign", "(I)Z"⟩
abbrev cX12_leastOf : ByteArray := prog_14_method_31_code
def yX12_leastOf : MethodName := ⟨RX12, "leastOf", "(II)I"⟩
abbrev cX12_mostOf : ByteArray := prog_14_method_30_code
def yX12_mostOf : MethodName := ⟨RX12, "mostOf", "(II)I"⟩
abbrev cX12_remember : ByteArray := prog_14_method_55_code
def yX12_remember : MethodName := ⟨RX12, "remember", "()V"⟩
abbrev cX12_sit : ByteArray := prog_14_method_66_code
def yX12_sit : MethodName := ⟨RX12, "sit", "()I"⟩
abbrev cX12_sumOf : ByteArray := prog_14_method_108_code
def yX12_sumOf : MethodName := ⟨RX12, "sumOf", "(I)I"⟩
abbrev cX12_undo : ByteArray := prog_14_method_74_code
def yX12_undo : MethodName := ⟨RX12, "undo", "()I"⟩
abbrev cX12_usual : ByteArray := prog_14_method_32_code
def yX12_usual : MethodName := ⟨RX12, "usual", "(II)I"⟩
abbrev cX12_where : ByteArray := prog_14_method_123_code
def yX12_where : MethodName := ⟨RX12, "where", "(I)I"⟩
theorem dX12_canGrow_0 : decode cX12_canGrow 0 = .ok (.aload_n 0, 1) := by decide +kernel
theorem dX12_canGrow_1 : decode cX12_canGrow 1 = .ok (.aload_n 1, 1) := by decide +kernel
theorem dX12_canGrow_2 : decode cX12_canGrow 2 = .ok (.invokevirtual 363, 3) := by decide +kernel
theorem dX12_canGrow_5 : decode cX12_canGrow 5 = .ok (.ifCond .eq 38, 3) := by decide +kernel
theorem dX12_canGrow_43 : decode cX12_canGrow 43 = .ok (.iconst 0, 1) := by decide +kernel
theorem dX12_canGrow_44 : decode cX12_canGrow 44 = .ok (.ireturn, 1) := by decide +kernel
theorem dX12_games_0 : decode cX12_games 0 = .ok (.aload_n 0, 1) := by decide +kernel
theorem dX12_games_1 : decode cX12_games 1 = .ok (.iconst 0, 1) := by decide +kernel
theorem dX12_games_2 : decode cX12_games 2 = .ok (.putfield 94, 3) := by decide +kernel
theorem dX12_games_5 : decode cX12_games 5 = .ok (.aload_n 0, 1) := by decide +kernel
theorem dX12_games_6 : decode cX12_games 6 = .ok (.aload_n 0, 1) := by decide +kernel
theorem dX12_games_7 : decode cX12_games 7 = .ok (.getfield 52, 3) := by decide +kernel
theorem dX12_games_10 : decode cX12_games 10 = .ok (.invokevirtual 363, 3) := by decide +kernel
theorem dX12_games_13 : decode cX12_games 13 = .ok (.ifCond .eq 15, 3) := by decide +kernel
theorem dX12_games_28 : decode cX12_games 28 = .ok (.iconst (-1), 1) := by decide +kernel
theorem dX12_games_29 : decode cX12_games 29 = .ok (.ireturn, 1) := by decide +kernel
theorem dX12_grow_0 : decode cX12_grow 0 = .ok (.aload_n 0, 1) := by decide +kernel
theorem dX12_grow_1 : decode cX12_grow 1 = .ok (.iconst 0, 1) := by decide +kernel
theorem dX12_grow_2 : decode cX12_grow 2 = .ok (.putfield 94, 3) := by decide +kernel
theorem dX12_grow_5 : decode cX12_grow 5 = .ok (.aload_n 0, 1) := by decide +kernel
theorem dX12_grow_6 : decode cX12_grow 6 = .ok (.aload_n 0, 1) := by decide +kernel
theorem dX12_grow_7 : decode cX12_grow 7 = .ok (.getfield 52, 3) := by decide +kernel
theorem dX12_grow_10 : decode cX12_grow 10 = .ok (.iload_n 1, 1) := by decide +kernel
theorem dX12_grow_11 : decode cX12_grow 11 = .ok (.invokevirtual 375, 3) := by decide +kernel
theorem dX12_grow_14 : decode cX12_grow 14 = .ok (.ifCond .ne 5, 3) := by decide +kernel
theorem dX12_grow_17 : decode cX12_grow 17 = .ok (.iconst (-1), 1) := by decide +kernel
theorem dX12_grow_18 : decode cX12_grow 18 = .ok (.ireturn, 1) := by decide +kernel
theorem dX12_isSign_0 : decode cX12_isSign 0 = .ok (.iload_n 0, 1) := by decide +kernel
theorem dX12_isSign_1 : decode cX12_isSign 1 = .ok (.bipush 61, 2) := by decide +kernel
theorem dX12_isSign_3 : decode cX12_isSign 3 = .ok (.if_icmp .eq 15, 3) := by decide +kernel
theorem dX12_isSign_6 : decode cX12_isSign 6 = .ok (.iload_n 0, 1) := by decide +kernel
theorem dX12_isSign_7 : decode cX12_isSign 7 = .ok (.bipush 60, 2) := by decide +kernel
theorem dX12_isSign_9 : decode cX12_isSign 9 = .ok (.if_icmp .eq 9, 3) := by decide +kernel
theorem dX12_isSign_12 : decode cX12_isSign 12 = .ok (.iload_n 0, 1) := by decide +kernel
theorem dX12_isSign_13 : decode cX12_isSign 13 = .ok (.bipush 62, 2) := by decide +kernel
theorem dX12_isSign_15 : decode cX12_isSign 15 = .ok (.if_icmp .ne 7, 3) := by decide +kernel
theorem dX12_isSign_18 : decode cX12_isSign 18 = .ok (.iconst 1, 1) := by decide +kernel
theorem dX12_isSign_19 : decode cX12_isSign 19 = .ok (.goto 4, 3) := by decide +kernel
theorem dX12_isSign_22 : decode cX12_isSign 22 = .ok (.iconst 0, 1) := by decide +kernel
theorem dX12_isSign_23 : decode cX12_isSign 23 = .ok (.ireturn, 1) := by decide +kernel
theorem dX12_leastOf_0 : decode cX12_leastOf 0 = .ok (.iload_n 0, 1) := by decide +kernel
theorem dX12_leastOf_1 : decode cX12_leastOf 1 = .ok (.bipush 115, 2) := by decide +kernel
theorem dX12_leastOf_3 : decode cX12_leastOf 3 = .ok (.if_icmp .ne 21, 3) := by decide +kernel
theorem dX12_leastOf_6 : decode cX12_leastOf 6 = .ok (.iload_n 1, 1) := by decide +kernel
theorem dX12_leastOf_7 : decode cX12_leastOf 7 = .ok (.iconst 4, 1) := by decide +kernel
theorem dX12_leastOf_8 : decode cX12_leastOf 8 = .ok (.if_icmp .ge 16, 3) := by decide +kernel
theorem dX12_leastOf_11 : decode cX12_leastOf 11 = .ok (.iload_n 1, 1) := by decide +kernel
theorem dX12_leastOf_12 : decode cX12_leastOf 12 = .ok (.iconst 2, 1) := by decide +kernel
theorem dX12_leastOf_13 : decode cX12_leastOf 13 = .ok (.if_icmp .ne 7, 3) := by decide +kernel
theorem dX12_leastOf_16 : decode cX12_leastOf 16 = .ok (.iconst 2, 1) := by decide +kernel
theorem dX12_leastOf_17 : decode cX12_leastOf 17 = .ok (.goto 8, 3) := by decide +kernel
theorem dX12_leastOf_20 : decode cX12_leastOf 20 = .ok (.iconst 1, 1) := by decide +kernel
theorem dX12_leastOf_21 : decode cX12_leastOf 21 = .ok (.goto 4, 3) := by decide +kernel
theorem dX12_leastOf_24 : decode cX12_leastOf 24 = .ok (.iconst 0, 1) := by decide +kernel
theorem dX12_leastOf_25 : decode cX12_leastOf 25 = .ok (.ireturn, 1) := by decide +kernel
theorem dX12_mostOf_0 : decode cX12_mostOf 0 = .ok (.iload_n 0, 1) := by decide +kernel
theorem dX12_mostOf_1 : decode cX12_mostOf 1 = .ok (.bipush 115, 2) := by decide +kernel
theorem dX12_mostOf_3 : decode cX12_mostOf 3 = .ok (.if_icmp .eq 6, 3) := by decide +kernel
theorem dX12_mostOf_6 : decode cX12_mostOf 6 = .ok (.bipush 29, 2) := by decide +kernel
theorem dX12_mostOf_8 : decode cX12_mostOf 8 = .ok (.ireturn, 1) := by decide +kernel
theorem dX12_mostOf_9 : decode cX12_mostOf 9 = .ok (.iload_n 1, 1) := by decide +kernel
theorem dX12_mostOf_10 : decode cX12_mostOf 10 = .ok (.ifCond .ne 8, 3) := by decide +kernel
theorem dX12_mostOf_13 : decode cX12_mostOf 13 = .ok (.bipush 6, 2) := by decide +kernel
theorem dX12_mostOf_15 : decode cX12_mostOf 15 = .ok (.goto 34, 3) := by decide +kernel
theorem dX12_mostOf_18 : decode cX12_mostOf 18 = .ok (.iload_n 1, 1) := by decide +kernel
theorem dX12_mostOf_19 : decode cX12_mostOf 19 = .ok (.iconst 1, 1) := by decide +kernel
theorem dX12_mostOf_20 : decode cX12_mostOf 20 = .ok (.if_icmp .eq 13, 3) := by decide +kernel
theorem dX12_mostOf_23 : decode cX12_mostOf 23 = .ok (.iload_n 1, 1) := by decide +kernel
theorem dX12_mostOf_24 : decode cX12_mostOf 24 = .ok (.iconst 2, 1) := by decide +kernel
theorem dX12_mostOf_25 : decode cX12_mostOf 25 = .ok (.if_icmp .eq 8, 3) := by decide +kernel
theorem dX12_mostOf_28 : decode cX12_mostOf 28 = .ok (.iload_n 1, 1) := by decide +kernel
theorem dX12_mostOf_29 : decode cX12_mostOf 29 = .ok (.iconst 3, 1) := by decide +kernel
theorem dX12_mostOf_30 : decode cX12_mostOf 30 = .ok (.if_icmp .ne 7, 3) := by decide +kernel
theorem dX12_mostOf_33 : decode cX12_mostOf 33 = .ok (.iconst 5, 1) := by decide +kernel
theorem dX12_mostOf_34 : decode cX12_mostOf 34 = .ok (.goto 15, 3) := by decide +kernel
theorem dX12_mostOf_37 : decode cX12_mostOf 37 = .ok (.iload_n 1, 1) := by decide +kernel
theorem dX12_mostOf_38 : decode cX12_mostOf 38 = .ok (.bipush 6, 2) := by decide +kernel
theorem dX12_mostOf_40 : decode cX12_mostOf 40 = .ok (.if_icmp .ne 7, 3) := by decide +kernel
theorem dX12_mostOf_43 : decode cX12_mostOf 43 = .ok (.iconst 1, 1) := by decide +kernel
theorem dX12_mostOf_44 : decode cX12_mostOf 44 = .ok (.goto 5, 3) := by decide +kernel
theorem dX12_mostOf_47 : decode cX12_mostOf 47 = .ok (.bipush 8, 2) := by decide +kernel
theorem dX12_mostOf_49 : decode cX12_mostOf 49 = .ok (.ireturn, 1) := by decide +kernel
theorem dX12_remember_0 : decode cX12_remember 0 = .ok (.aload_n 0, 1) := by decide +kernel
theorem dX12_remember_1 : decode cX12_remember 1 = .ok (.getfield 311, 3) := by decide +kernel
theorem dX12_remember_4 : decode cX12_remember 4 = .ok (.bipush 40, 2) := by decide +kernel
theorem dX12_remember_6 : decode cX12_remember 6 = .ok (.if_icmp .ne 44, 3) := by decide +kernel
theorem dX12_remember_9 : decode cX12_remember 9 = .ok (.iconst 0, 1) := by decide +kernel
theorem dX12_remember_10 : decode cX12_remember 10 = .ok (.istore_n 1, 1) := by decide +kernel
theorem dX12_remember_11 : decode cX12_remember 11 = .ok (.iload_n 1, 1) := by decide +kernel
theorem dX12_remember_12 : decode cX12_remember 12 = .ok (.sipush 9711, 3) := by decide +kernel
theorem dX12_remember_15 : decode cX12_remember 15 = .ok (.if_icmp .ge 25, 3) := by decide +kernel
theorem dX12_remember_18 : decode cX12_remember 18 = .ok (.aload_n 0, 1) := by decide +kernel
theorem dX12_remember_19 : decode cX12_remember 19 = .ok (.getfield 69, 3) := by decide +kernel
theorem dX12_remember_22 : decode cX12_remember 22 = .ok (.iload_n 1, 1) := by decide +kernel
theorem dX12_remember_23 : decode cX12_remember 23 = .ok (.aload_n 0, 1) := by decide +kernel
theorem dX12_remember_24 : decode cX12_remember 24 = .ok (.getfield 69, 3) := by decide +kernel
theorem dX12_remember_27 : decode cX12_remember 27 = .ok (.iload_n 1, 1) := by decide +kernel
theorem dX12_remember_28 : decode cX12_remember 28 = .ok (.sipush 249, 3) := by decide +kernel
theorem dX12_remember_31 : decode cX12_remember 31 = .ok (.iadd, 1) := by decide +kernel
theorem dX12_remember_32 : decode cX12_remember 32 = .ok (.iaload, 1) := by decide +kernel
theorem dX12_remember_33 : decode cX12_remember 33 = .ok (.iastore, 1) := by decide +kernel
theorem dX12_remember_34 : decode cX12_remember 34 = .ok (.iinc 1 1, 3) := by decide +kernel
theorem dX12_remember_37 : decode cX12_remember 37 = .ok (.goto (-26), 3) := by decide +kernel
theorem dX12_remember_40 : decode cX12_remember 40 = .ok (.aload_n 0, 1) := by decide +kernel
theorem dX12_remember_41 : decode cX12_remember 41 = .ok (.dup, 1) := by decide +kernel
theorem dX12_remember_42 : decode cX12_remember 42 = .ok (.getfield 311, 3) := by decide +kernel
theorem dX12_remember_45 : decode cX12_remember 45 = .ok (.iconst 1, 1) := by decide +kernel
theorem dX12_remember_46 : decode cX12_remember 46 = .ok (.isub, 1) := by decide +kernel
theorem dX12_remember_47 : decode cX12_remember 47 = .ok (.putfield 311, 3) := by decide +kernel
theorem dX12_remember_50 : decode cX12_remember 50 = .ok (.iconst 0, 1) := by decide +kernel
theorem dX12_remember_51 : decode cX12_remember 51 = .ok (.istore_n 1, 1) := by decide +kernel
theorem dX12_remember_52 : decode cX12_remember 52 = .ok (.iload_n 1, 1) := by decide +kernel
theorem dX12_remember_53 : decode cX12_remember 53 = .ok (.sipush 249, 3) := by decide +kernel
theorem dX12_remember_56 : decode cX12_remember 56 = .ok (.if_icmp .ge 30, 3) := by decide +kernel
theorem dX12_remember_59 : decode cX12_remember 59 = .ok (.aload_n 0, 1) := by decide +kernel
theorem dX12_remember_60 : decode cX12_remember 60 = .ok (.getfield 69, 3) := by decide +kernel
theorem dX12_remember_63 : decode cX12_remember 63 = .ok (.sipush 249, 3) := by decide +kernel
theorem dX12_remember_66 : decode cX12_remember 66 = .ok (.aload_n 0, 1) := by decide +kernel
theorem dX12_remember_67 : decode cX12_remember 67 = .ok (.getfield 311, 3) := by decide +kernel
theorem dX12_remember_70 : decode cX12_remember 70 = .ok (.imul, 1) := by decide +kernel
theorem dX12_remember_71 : decode cX12_remember 71 = .ok (.iload_n 1, 1) := by decide +kernel
theorem dX12_remember_72 : decode cX12_remember 72 = .ok (.iadd, 1) := by decide +kernel
theorem dX12_remember_73 : decode cX12_remember 73 = .ok (.aload_n 0, 1) := by decide +kernel
theorem dX12_remember_74 : decode cX12_remember 74 = .ok (.getfield 52, 3) := by decide +kernel
theorem dX12_remember_77 : decode cX12_remember 77 = .ok (.iload_n 1, 1) := by decide +kernel
theorem dX12_remember_78 : decode cX12_remember 78 = .ok (.iaload, 1) := by decide +kernel
theorem dX12_remember_79 : decode cX12_remember 79 = .ok (.iastore, 1) := by decide +kernel
theorem dX12_remember_80 : decode cX12_remember 80 = .ok (.iinc 1 1, 3) := by decide +kernel
theorem dX12_remember_83 : decode cX12_remember 83 = .ok (.goto (-31), 3) := by decide +kernel
theorem dX12_remember_86 : decode cX12_remember 86 = .ok (.aload_n 0, 1) := by decide +kernel
theorem dX12_remember_87 : decode cX12_remember 87 = .ok (.dup, 1) := by decide +kernel
theorem dX12_remember_88 : decode cX12_remember 88 = .ok (.getfield 311, 3) := by decide +kernel
theorem dX12_remember_91 : decode cX12_remember 91 = .ok (.iconst 1, 1) := by decide +kernel
theorem dX12_remember_92 : decode cX12_remember 92 = .ok (.iadd, 1) := by decide +kernel
theorem dX12_remember_93 : decode cX12_remember 93 = .ok (.putfield 311, 3) := by decide +kernel
theorem dX12_remember_96 : decode cX12_remember 96 = .ok (.return_, 1) := by decide +kernel
theorem dX12_sit_0 : decode cX12_sit 0 = .ok (.aload_n 0, 1) := by decide +kernel
theorem dX12_sit_1 : decode cX12_sit 1 = .ok (.iconst 0, 1) := by decide +kernel
theorem dX12_sit_2 : decode cX12_sit 2 = .ok (.putfield 94, 3) := by decide +kernel
theorem dX12_sit_5 : decode cX12_sit 5 = .ok (.aload_n 0, 1) := by decide +kernel
theorem dX12_sit_6 : decode cX12_sit 6 = .ok (.aload_n 0, 1) := by decide +kernel
theorem dX12_sit_7 : decode cX12_sit 7 = .ok (.getfield 52, 3) := by decide +kernel
theorem dX12_sit_10 : decode cX12_sit 10 = .ok (.invokevirtual 363, 3) := by decide +kernel
theorem dX12_sit_13 : decode cX12_sit 13 = .ok (.ifCond .ne 5, 3) := by decide +kernel
theorem dX12_sit_16 : decode cX12_sit 16 = .ok (.iconst (-1), 1) := by decide +kernel
theorem dX12_sit_17 : decode cX12_sit 17 = .ok (.ireturn, 1) := by decide +kernel
theorem dX12_sumOf_0 : decode cX12_sumOf 0 = .ok (.aload_n 0, 1) := by decide +kernel
theorem dX12_sumOf_1 : decode cX12_sumOf 1 = .ok (.iconst 0, 1) := by decide +kernel
theorem dX12_sumOf_2 : decode cX12_sumOf 2 = .ok (.putfield 94, 3) := by decide +kernel
theorem dX12_sumOf_5 : decode cX12_sumOf 5 = .ok (.aload_n 0, 1) := by decide +kernel
theorem dX12_sumOf_6 : decode cX12_sumOf 6 = .ok (.getfield 302, 3) := by decide +kernel
theorem dX12_sumOf_9 : decode cX12_sumOf 9 = .ok (.ifCond .eq 29, 3) := by decide +kernel
theorem dX12_sumOf_38 : decode cX12_sumOf 38 = .ok (.ldc_w 439, 3) := by decide +kernel
theorem dX12_sumOf_41 : decode cX12_sumOf 41 = .ok (.ireturn, 1) := by decide +kernel
theorem dX12_undo_0 : decode cX12_undo 0 = .ok (.aload_n 0, 1) := by decide +kernel
theorem dX12_undo_1 : decode cX12_undo 1 = .ok (.iconst 0, 1) := by decide +kernel
theorem dX12_undo_2 : decode cX12_undo 2 = .ok (.putfield 94, 3) := by decide +kernel
theorem dX12_undo_5 : decode cX12_undo 5 = .ok (.aload_n 0, 1) := by decide +kernel
theorem dX12_undo_6 : decode cX12_undo 6 = .ok (.getfield 311, 3) := by decide +kernel
theorem dX12_undo_9 : decode cX12_undo 9 = .ok (.ifCond .ne 5, 3) := by decide +kernel
theorem dX12_undo_12 : decode cX12_undo 12 = .ok (.iconst (-1), 1) := by decide +kernel
theorem dX12_undo_13 : decode cX12_undo 13 = .ok (.ireturn, 1) := by decide +kernel
theorem dX12_undo_14 : decode cX12_undo 14 = .ok (.aload_n 0, 1) := by decide +kernel
theorem dX12_undo_15 : decode cX12_undo 15 = .ok (.dup, 1) := by decide +kernel
theorem dX12_undo_16 : decode cX12_undo 16 = .ok (.getfield 311, 3) := by decide +kernel
theorem dX12_undo_19 : decode cX12_undo 19 = .ok (.iconst 1, 1) := by decide +kernel
theorem dX12_undo_20 : decode cX12_undo 20 = .ok (.isub, 1) := by decide +kernel
theorem dX12_undo_21 : decode cX12_undo 21 = .ok (.putfield 311, 3) := by decide +kernel
theorem dX12_undo_24 : decode cX12_undo 24 = .ok (.iconst 0, 1) := by decide +kernel
theorem dX12_undo_25 : decode cX12_undo 25 = .ok (.istore_n 1, 1) := by decide +kernel
theorem dX12_undo_26 : decode cX12_undo 26 = .ok (.iload_n 1, 1) := by decide +kernel
theorem dX12_undo_27 : decode cX12_undo 27 = .ok (.sipush 249, 3) := by decide +kernel
theorem dX12_undo_30 : decode cX12_undo 30 = .ok (.if_icmp .ge 30, 3) := by decide +kernel
theorem dX12_undo_33 : decode cX12_undo 33 = .ok (.aload_n 0, 1) := by decide +kernel
theorem dX12_undo_34 : decode cX12_undo 34 = .ok (.getfield 52, 3) := by decide +kernel
theorem dX12_undo_37 : decode cX12_undo 37 = .ok (.iload_n 1, 1) := by decide +kernel
theorem dX12_undo_38 : decode cX12_undo 38 = .ok (.aload_n 0, 1) := by decide +kernel
theorem dX12_undo_39 : decode cX12_undo 39 = .ok (.getfield 69, 3) := by decide +kernel
theorem dX12_undo_42 : decode cX12_undo 42 = .ok (.sipush 249, 3) := by decide +kernel
theorem dX12_undo_45 : decode cX12_undo 45 = .ok (.aload_n 0, 1) := by decide +kernel
theorem dX12_undo_46 : decode cX12_undo 46 = .ok (.getfield 311, 3) := by decide +kernel
theorem dX12_undo_49 : decode cX12_undo 49 = .ok (.imul, 1) := by decide +kernel
theorem dX12_undo_50 : decode cX12_undo 50 = .ok (.iload_n 1, 1) := by decide +kernel
theorem dX12_undo_51 : decode cX12_undo 51 = .ok (.iadd, 1) := by decide +kernel
theorem dX12_undo_52 : decode cX12_undo 52 = .ok (.iaload, 1) := by decide +kernel
theorem dX12_undo_53 : decode cX12_undo 53 = .ok (.iastore, 1) := by decide +kernel
theorem dX12_undo_54 : decode cX12_undo 54 = .ok (.iinc 1 1, 3) := by decide +kernel
theorem dX12_undo_57 : decode cX12_undo 57 = .ok (.goto (-31), 3) := by decide +kernel
theorem dX12_undo_60 : decode cX12_undo 60 = .ok (.aload_n 0, 1) := by decide +kernel
theorem dX12_undo_61 : decode cX12_undo 61 = .ok (.getfield 311, 3) := by decide +kernel
theorem dX12_undo_64 : decode cX12_undo 64 = .ok (.ireturn, 1) := by decide +kernel
theorem dX12_usual_0 : decode cX12_usual 0 = .ok (.iload_n 0, 1) := by decide +kernel
theorem dX12_usual_1 : decode cX12_usual 1 = .ok (.bipush 115, 2) := by decide +kernel
theorem dX12_usual_3 : decode cX12_usual 3 = .ok (.if_icmp .eq 5, 3) := by decide +kernel
theorem dX12_usual_6 : decode cX12_usual 6 = .ok (.iconst 0, 1) := by decide +kernel
theorem dX12_usual_7 : decode cX12_usual 7 = .ok (.ireturn, 1) := by decide +kernel
theorem dX12_usual_8 : decode cX12_usual 8 = .ok (.iload_n 1, 1) := by decide +kernel
theorem dX12_usual_9 : decode cX12_usual 9 = .ok (.ifCond .ne 7, 3) := by decide +kernel
theorem dX12_usual_12 : decode cX12_usual 12 = .ok (.iconst 5, 1) := by decide +kernel
theorem dX12_usual_13 : decode cX12_usual 13 = .ok (.goto 41, 3) := by decide +kernel
theorem dX12_usual_16 : decode cX12_usual 16 = .ok (.iload_n 1, 1) := by decide +kernel
theorem dX12_usual_17 : decode cX12_usual 17 = .ok (.iconst 1, 1) := by decide +kernel
theorem dX12_usual_18 : decode cX12_usual 18 = .ok (.if_icmp .ne 7, 3) := by decide +kernel
theorem dX12_usual_21 : decode cX12_usual 21 = .ok (.iconst 4, 1) := by decide +kernel
theorem dX12_usual_22 : decode cX12_usual 22 = .ok (.goto 32, 3) := by decide +kernel
theorem dX12_usual_25 : decode cX12_usual 25 = .ok (.iload_n 1, 1) := by decide +kernel
theorem dX12_usual_26 : decode cX12_usual 26 = .ok (.iconst 2, 1) := by decide +kernel
theorem dX12_usual_27 : decode cX12_usual 27 = .ok (.if_icmp .ne 7, 3) := by decide +kernel
theorem dX12_usual_30 : decode cX12_usual 30 = .ok (.iconst 3, 1) := by decide +kernel
theorem dX12_usual_31 : decode cX12_usual 31 = .ok (.goto 23, 3) := by decide +kernel
theorem dX12_usual_34 : decode cX12_usual 34 = .ok (.iload_n 1, 1) := by decide +kernel
theorem dX12_usual_35 : decode cX12_usual 35 = .ok (.iconst 3, 1) := by decide +kernel
theorem dX12_usual_36 : decode cX12_usual 36 = .ok (.if_icmp .ne 7, 3) := by decide +kernel
theorem dX12_usual_39 : decode cX12_usual 39 = .ok (.iconst 2, 1) := by decide +kernel
theorem dX12_usual_40 : decode cX12_usual 40 = .ok (.goto 14, 3) := by decide +kernel
theorem dX12_usual_43 : decode cX12_usual 43 = .ok (.iload_n 1, 1) := by decide +kernel
theorem dX12_usual_44 : decode cX12_usual 44 = .ok (.iconst 5, 1) := by decide +kernel
theorem dX12_usual_45 : decode cX12_usual 45 = .ok (.if_icmp .ne 8, 3) := by decide +kernel
theorem dX12_usual_48 : decode cX12_usual 48 = .ok (.bipush 8, 2) := by decide +kernel
theorem dX12_usual_50 : decode cX12_usual 50 = .ok (.goto 4, 3) := by decide +kernel
theorem dX12_usual_53 : decode cX12_usual 53 = .ok (.iconst 0, 1) := by decide +kernel
theorem dX12_usual_54 : decode cX12_usual 54 = .ok (.ireturn, 1) := by decide +kernel
theorem dX12_where_0 : decode cX12_where 0 = .ok (.aload_n 0, 1) := by decide +kernel
theorem dX12_where_1 : decode cX12_where 1 = .ok (.iconst 0, 1) := by decide +kernel
theorem dX12_where_2 : decode cX12_where 2 = .ok (.putfield 94, 3) := by decide +kernel
theorem dX12_where_5 : decode cX12_where 5 = .ok (.aload_n 0, 1) := by decide +kernel
theorem dX12_where_6 : decode cX12_where 6 = .ok (.getfield 302, 3) := by decide +kernel
theorem dX12_where_9 : decode cX12_where 9 = .ok (.ifCond .eq 13, 3) := by decide +kernel
theorem dX12_where_22 : decode cX12_where 22 = .ok (.iconst (-1), 1) := by decide +kernel
theorem dX12_where_23 : decode cX12_where 23 = .ok (.ireturn, 1) := by decide +kernel
theorem wl_6_216 : (.fieldLink RX12 69 "LawnAheadModel" "undoRow" "[I" : Cond) ∈ sg_tbl := tb_6 _ (List.mem_of_getElem? (i := 216) (by decide +kernel)) (by decide +kernel)
theorem wl_8_90 : (.methodLink RX12 375 yX12_canGrow : Cond) ∈ sg_tbl := tb_8 _ (List.mem_of_getElem? (i := 90) (by decide +kernel)) (by decide +kernel)
theorem wl_9_141 : (.code yX12_where cX12_where 6 (some .int) : Cond) ∈ sg_tbl := tb_9 _ (List.mem_of_getElem? (i := 141) (by decide +kernel)) (by decide +kernel)
theorem wl_9_139 : (.instanceMethod yX12_where : Cond) ∈ sg_tbl := tb_9 _ (List.mem_of_getElem? (i := 139) (by decide +kernel)) (by decide +kernel)
theorem wl_9_140 : (.selects RX12 yX12_where yX12_where : Cond) ∈ sg_tbl := tb_9 _ (List.mem_of_getElem? (i := 140) (by decide +kernel)) (by decide +kernel)
theorem wl_9_54 : (.code yX12_sumOf cX12_sumOf 2 (some .int) : Cond) ∈ sg_tbl := tb_9 _ (List.mem_of_getElem? (i := 54) (by decide +kernel)) (by decide +kernel)
theorem wl_9_52 : (.instanceMethod yX12_sumOf : Cond) ∈ sg_tbl := tb_9 _ (List.mem_of_getElem? (i := 52) (by decide +kernel)) (by decide +kernel)
theorem wl_9_53 : (.selects RX12 yX12_sumOf yX12_sumOf : Cond) ∈ sg_tbl := tb_9 _ (List.mem_of_getElem? (i := 53) (by decide +kernel)) (by decide +kernel)
theorem wl_8_132 : (.code yX12_sit cX12_sit 1 (some .int) : Cond) ∈ sg_tbl := tb_8 _ (List.mem_of_getElem? (i := 132) (by decide +kernel)) (by decide +kernel)
theorem wl_8_130 : (.instanceMethod yX12_sit : Cond) ∈ sg_tbl := tb_8 _ (List.mem_of_getElem? (i := 130) (by decide +kernel)) (by decide +kernel)
theorem wl_8_131 : (.selects RX12 yX12_sit yX12_sit : Cond) ∈ sg_tbl := tb_8 _ (List.mem_of_getElem? (i := 131) (by decide +kernel)) (by decide +kernel)
theorem wl_8_150 : (.code yX12_games cX12_games 5 (some .int) : Cond) ∈ sg_tbl := tb_8 _ (List.mem_of_getElem? (i := 150) (by decide +kernel)) (by decide +kernel)
theorem wl_8_148 : (.instanceMethod yX12_games : Cond) ∈ sg_tbl := tb_8 _ (List.mem_of_getElem? (i := 148) (by decide +kernel)) (by decide +kernel)
theorem wl_8_149 : (.selects RX12 yX12_games yX12_games : Cond) ∈ sg_tbl := tb_8 _ (List.mem_of_getElem? (i := 149) (by decide +kernel)) (by decide +kernel)
theorem wl_8_101 : (.code yX12_remember cX12_remember 2 none : Cond) ∈ sg_tbl := tb_8 _ (List.mem_of_getElem? (i := 101) (by decide +kernel)) (by decide +kernel)
theorem wl_8_100 : (.instanceMethod yX12_remember : Cond) ∈ sg_tbl := tb_8 _ (List.mem_of_getElem? (i := 100) (by decide +kernel)) (by decide +kernel)
theorem wl_0_78 : (.selects RX12 yX12_remember yX12_remember : Cond) ∈ sg_tbl := tb_0 _ (List.mem_of_getElem? (i := 78) (by decide +kernel)) (by decide +kernel)
theorem wl_8_184 : (.code yX12_undo cX12_undo 2 (some .int) : Cond) ∈ sg_tbl := tb_8 _ (List.mem_of_getElem? (i := 184) (by decide +kernel)) (by decide +kernel)
theorem wl_8_182 : (.instanceMethod yX12_undo : Cond) ∈ sg_tbl := tb_8 _ (List.mem_of_getElem? (i := 182) (by decide +kernel)) (by decide +kernel)
theorem wl_8_183 : (.selects RX12 yX12_undo yX12_undo : Cond) ∈ sg_tbl := tb_8 _ (List.mem_of_getElem? (i := 183) (by decide +kernel)) (by decide +kernel)
theorem wl_8_22 : (.code yX12_isSign cX12_isSign 1 (some .boolean) : Cond) ∈ sg_tbl := tb_8 _ (List.mem_of_getElem? (i := 22) (by decide +kernel)) (by decide +kernel)
theorem wl_8_21 : (.static yX12_isSign : Cond) ∈ sg_tbl := tb_8 _ (List.mem_of_getElem? (i := 21) (by decide +kernel)) (by decide +kernel)
theorem wl_7_182 : (.code yX12_mostOf cX12_mostOf 2 (some .int) : Cond) ∈ sg_tbl := tb_7 _ (List.mem_of_getElem? (i := 182) (by decide +kernel)) (by decide +kernel)
theorem wl_7_181 : (.static yX12_mostOf : Cond) ∈ sg_tbl := tb_7 _ (List.mem_of_getElem? (i := 181) (by decide +kernel)) (by decide +kernel)
theorem wl_7_179 : (.code yX12_leastOf cX12_leastOf 2 (some .int) : Cond) ∈ sg_tbl := tb_7 _ (List.mem_of_getElem? (i := 179) (by decide +kernel)) (by decide +kernel)
theorem wl_7_178 : (.static yX12_leastOf : Cond) ∈ sg_tbl := tb_7 _ (List.mem_of_getElem? (i := 178) (by decide +kernel)) (by decide +kernel)
theorem wl_7_132 : (.code yX12_usual cX12_usual 2 (some .int) : Cond) ∈ sg_tbl := tb_7 _ (List.mem_of_getElem? (i := 132) (by decide +kernel)) (by decide +kernel)
theorem wl_7_131 : (.static yX12_usual : Cond) ∈ sg_tbl := tb_7 _ (List.mem_of_getElem? (i := 131) (by decide +kernel)) (by decide +kernel)
theorem wl_8_93 : (.code yX12_canGrow cX12_canGrow 3 (some .boolean) : Cond) ∈ sg_tbl := tb_8 _ (List.mem_of_getElem? (i := 93) (by decide +kernel)) (by decide +kernel)
theorem wl_8_92 : (.instanceMethod yX12_canGrow : Cond) ∈ sg_tbl := tb_8 _ (List.mem_of_getElem? (i := 92) (by decide +kernel)) (by decide +kernel)
theorem wl_0_76 : (.selects RX12 yX12_canGrow yX12_canGrow : Cond) ∈ sg_tbl := tb_0 _ (List.mem_of_getElem? (i := 76) (by decide +kernel)) (by decide +kernel)
theorem wl_8_89 : (.code yX12_grow cX12_grow 2 (some .int) : Cond) ∈ sg_tbl := tb_8 _ (List.mem_of_getElem? (i := 89) (by decide +kernel)) (by decide +kernel)
theorem wl_8_87 : (.instanceMethod yX12_grow : Cond) ∈ sg_tbl := tb_8 _ (List.mem_of_getElem? (i := 87) (by decide +kernel)) (by decide +kernel)
theorem wl_8_88 : (.selects RX12 yX12_grow yX12_grow : Cond) ∈ sg_tbl := tb_8 _ (List.mem_of_getElem? (i := 88) (by decide +kernel)) (by decide +kernel)
section
variable {p : Program} {l : Launch} {e : Env} {R : Room} {s : State} {m : MethodId} {args : Array Value} {below : List Frame} {meth : Method} {c : Code} {H : Heap} {locs : List Loc} {cells slots : Nat} {Q : State → Prop} {cc : ByteArray} {nL pc : Nat} {ls : Array Slot} {rest : List Value} {own : String} {D : va_G} {A : Nat → Prop} {tys : List (ClassId × FieldType)} {ad ks : List Nat} {P : sgPm} {H0 : Heap} {index : Nat} {base : Nat} {st0 : List Value} {a : Nat}
theorem gf_X12_38   (X : CallFix p m c cc nL s args sg_tbl own) (hK : va_K D vwCl tys s) (hG : sgG (KT P) D vwCl A tys ad ks H) (ha : isK ad ks 12 a) (hl : Cond.fieldLink own index "LawnAheadModel" "undoRow" "[I" ∈ sg_tbl) (hdg : decode cc pc = .ok (.getfield index, 3)) (kk : ∀ x : Nat, isK ad ks 58 x → fld D H 12 a 38 (.ref x) → W p l e R s m args below meth c H locs cells slots Q (F0 m (pc + 3) ls (.ref x :: rest))) : W p l e R s m args below meth c H locs cells slots Q (F0 m pc ls (.ref a :: rest)) :=
  sg_get X hK hG ha (k := 12) (ci := 12) rfl (C := RX12) (T := TX12) (N := 53) rfl inL_X12 38 (by decide) rfl hl (fun _ h => h) hdg (fun v hv hf => by
    obtain ⟨h1, -⟩ | ⟨x, rfl, hx⟩ := hv
    · cases h1
    · exact kk x hx hf)
theorem gg_X12_38   (X : CallFix p m c cc nL s args sg_tbl own) (hK : va_K D vwCl tys s) (hG : sgG (KT P) D vwCl A tys ad ks H) (ha : isK ad ks 12 a) (hl : Cond.fieldLink own index "LawnAheadModel" "undoRow" "[I" ∈ sg_tbl) {v : Value} (hf : fld D H 12 a 38 v) (hdg : decode cc pc = .ok (.getfield index, 3)) (kk : W p l e R s m args below meth c H locs cells slots Q (F0 m (pc + 3) ls (v :: rest))) : W p l e R s m args below meth c H locs cells slots Q (F0 m pc ls (.ref a :: rest)) :=
  sg_getf X hK hG ha (k := 12) (ci := 12) rfl (C := RX12) (T := TX12) (N := 53) rfl inL_X12 38 (by decide) (show 38 < 53 by decide) hl (fun _ h => h) hf hdg kk
theorem gg_X12_39   (X : CallFix p m c cc nL s args sg_tbl own) (hK : va_K D vwCl tys s) (hG : sgG (KT P) D vwCl A tys ad ks H) (ha : isK ad ks 12 a) (hl : Cond.fieldLink own index "LawnAheadModel" "acts" "I" ∈ sg_tbl) {v : Value} (hf : fld D H 12 a 39 v) (hdg : decode cc pc = .ok (.getfield index, 3)) (kk : W p l e R s m args below meth c H locs cells slots Q (F0 m (pc + 3) ls (v :: rest))) : W p l e R s m args below meth c H locs cells slots Q (F0 m pc ls (.ref a :: rest)) :=
  sg_getf X hK hG ha (k := 12) (ci := 12) rfl (C := RX12) (T := TX12) (N := 53) rfl inL_X12 39 (by decide) (show 39 < 53 by decide) hl (fun _ h => h) hf hdg kk
theorem al_58  {i : Int32}  (X : CallFix p m c cc nL s args sg_tbl own) (hK : va_K D vwCl tys s) (hG : sgG (KT P) D vwCl A tys ad ks H) (ha : isK ad ks 58 a) (hin : vp_in i 9960) (hdg : decode cc pc = .ok (.iaload, 1)) (kk : ∀ x : Int32, okV ad ks ((fun i => sg_now (sgN P) (i % 249) : Nat → sgT) i.toNatClampNeg) (.int x) → W p l e R s m args below meth c H locs cells slots Q (F0 m (pc + 1) ls (.int x :: rest))) : W p l e R s m args below meth c H locs cells slots Q (F0 m pc ls (.int i :: .ref a :: rest)) :=
  sg_iald X hK hG ha (k := 58) rfl hin hdg kk
theorem as_58  {i : Int32} {x : Int32}  (X : CallFix p m c cc nL s args sg_tbl own) (hK : va_K D vwCl tys s) (hG : sgG (KT P) D vwCl A tys ad ks H) (hS : va_S A H0 H locs) (ha : isK ad ks 58 a) (hin : vp_in i 9960) (hv : okV ad ks ((fun i => sg_now (sgN P) (i % 249) : Nat → sgT) i.toNatClampNeg) (.int x)) (hdg : decode cc pc = .ok (.iastore, 1)) (kk : ∀ (H1 : Heap) (locs1 : List Loc), sgG (KT P) D vwCl A tys ad ks H1 → va_S A H0 H1 locs1 → sgFr (KT P) D vwCl ad ks H H1 (fun _ _ => False) → W p l e R s m args below meth c H1 locs1 cells slots Q (F0 m (pc + 1) ls rest)) : W p l e R s m args below meth c H locs cells slots Q (F0 m pc ls (.int x :: .int i :: .ref a :: rest)) :=
  sg_iast X hK hG hS ha (k := 58) rfl hin hv hdg kk
set_option maxHeartbeats 8000000 in
set_option maxRecDepth 100000 in
theorem m_X12_where_0 (l : Launch) {D : va_G} {base : Nat} {tys : List (ClassId × FieldType)} {ad ks : List Nat} {P : sgPm} (hp4 : P.2.2.2.2.1 = false) (a0 : Nat) (h0 : isK ad ks 12 a0) (x1 : Int32) : sgMi l (KT P) D vwCl base tys ad ks yX12_where cX12_where 6 (some .int) ({ frames := 0, cells := 0, slots := 0, locals := 0 }) [.ref a0, .int x1] (fun r : Int32 => True) := by
  refine sg_ofW (by decide +kernel) (Nat.le_of_ble_eq_true rfl) (fun p e s m below meth c X hr hlk hb hK hC hG ls hl => ?_)
  have hS : va_S (fun q : Nat => base ≤ q) s.heap s.heap [] := va_S.rf
  have hl : lv_has ls 6 [(0, .ref a0), (1, .int x1)] := hl
  refine lv_aload_n X.1 X.2.1 dX12_where_0 rfl (lv_at hl 0 rfl) ?_
  refine lv_iconst (v := 0) X.1 X.2.1 dX12_where_1 (by decide +kernel) ?_
  refine pf_X12_0 X hK hG hS h0 wl_6_178 ⟨_, rfl, (iv_top _)⟩ dX12_where_2 (fun H locs hG hS ku1 ru1 => ?_)
  refine lv_aload_n X.1 X.2.1 dX12_where_5 rfl (lv_at hl 0 rfl) ?_
  refine gf_X12_23n X hK hG h0 hp4 wl_6_201 dX12_where_6 (fun f2 hf2 kf2 => ?_)
  refine lv_if_eq (tgt := 22) X.1 X.2.1 dX12_where_9 (by decide) (fun c3 => ?_) (fun c3 => ?_)
  · refine lv_iconst (v := (-1)) X.1 X.2.1 dX12_where_22 (by decide +kernel) ?_
    exact sg_iret X hr hlk hb hK hC hG hS trivial dX12_where_23
  · exact ((c3 (iv_one hf2 (iv_c 0 (a := 0) (b := 0) (by decide +kernel)) (by decide +kernel)))).elim

theorem ca_X12_where_0   (X : CallFix p m c cc nL s args sg_tbl own) (hK : va_K D vwCl tys s) (hG : sgG (KT P) D vwCl (fun q : Nat => base ≤ q) tys ad ks H) (hC : sgC base s) (hS : va_S (fun q : Nat => base ≤ q) s.heap H locs) (hb : base ≤ s.heap.size) (hp4 : P.2.2.2.2.1 = false) (a0 : Nat) (h0 : isK ad ks 12 a0) (x1 : Int32) (hl : Cond.methodLink own index yX12_where ∈ sg_tbl) (hsize : ls.size = nL) (hst : st0 = [.int x1].reverse ++ .ref a0 :: rest) (hW : (rest.map fun v => v.category).sum ≤ 8) (hR : 1 ≤ R.frames ∧ 25 ≤ R.locals) (hf : cells ≤ R.cells ∧ slots ≤ R.slots) (hdg : decode cc pc = .ok (.invokevirtual index, 3)) (kk : ∀ (r : Int32) (H1 : Heap) (locs1 : List Loc), (fun r : Int32 => True) r → sgG (KT P) D vwCl (fun q : Nat => base ≤ q) tys ad ks H1 → va_S (fun q : Nat => base ≤ q) s.heap H1 locs1 → W p l e R s m args below meth c H1 locs1 cells slots Q (F0 m (pc + 3) ls (.int r :: rest))) : W p l e R s m args below meth c H locs cells slots Q (F0 m pc ls st0) :=
  sg_callVi X hK hG hC hS hb (m_X12_where_0 l hp4 a0 h0 x1) h0 (k := 12) (ci := 12) rfl (C := RX12) (T := TX12) (N := 53) rfl wl_9_141 wl_1_13 wl_9_139 wl_9_140 (n := 1) (by decide +kernel) rfl rfl rfl hl hsize hst hW hR hf hdg kk

set_option maxHeartbeats 8000000 in
set_option maxRecDepth 100000 in
theorem m_X12_sumOf_0 (l : Launch) {D : va_G} {base : Nat} {tys : List (ClassId × FieldType)} {ad ks : List Nat} {P : sgPm} (hp4 : P.2.2.2.2.1 = false) (a0 : Nat) (h0 : isK ad ks 12 a0) (x1 : Int32) : sgMi l (KT P) D vwCl base tys ad ks yX12_sumOf cX12_sumOf 2 (some .int) ({ frames := 0, cells := 0, slots := 0, locals := 0 }) [.ref a0, .int x1] (fun r : Int32 => True) := by
  refine sg_ofW (by decide +kernel) (Nat.le_of_ble_eq_true rfl) (fun p e s m below meth c X hr hlk hb hK hC hG ls hl => ?_)
  have hS : va_S (fun q : Nat => base ≤ q) s.heap s.heap [] := va_S.rf
  have hl : lv_has ls 2 [(0, .ref a0), (1, .int x1)] := hl
  refine lv_aload_n X.1 X.2.1 dX12_sumOf_0 rfl (lv_at hl 0 rfl) ?_
  refine lv_iconst (v := 0) X.1 X.2.1 dX12_sumOf_1 (by decide +kernel) ?_
  refine pf_X12_0 X hK hG hS h0 wl_6_178 ⟨_, rfl, (iv_top _)⟩ dX12_sumOf_2 (fun H locs hG hS ku1 ru1 => ?_)
  refine lv_aload_n X.1 X.2.1 dX12_sumOf_5 rfl (lv_at hl 0 rfl) ?_
  refine gf_X12_23n X hK hG h0 hp4 wl_6_201 dX12_sumOf_6 (fun f2 hf2 kf2 => ?_)
  refine lv_if_eq (tgt := 38) X.1 X.2.1 dX12_sumOf_9 (by decide) (fun c3 => ?_) (fun c3 => ?_)
  · refine lv_ldcw X.1 X.2.1 X.2.2.2.1 (X.2.2.2.2 _ wl_8_190) dX12_sumOf_38 ?_
    exact sg_iret X hr hlk hb hK hC hG hS trivial dX12_sumOf_41
  · exact ((c3 (iv_one hf2 (iv_c 0 (a := 0) (b := 0) (by decide +kernel)) (by decide +kernel)))).elim

theorem ca_X12_sumOf_0   (X : CallFix p m c cc nL s args sg_tbl own) (hK : va_K D vwCl tys s) (hG : sgG (KT P) D vwCl (fun q : Nat => base ≤ q) tys ad ks H) (hC : sgC base s) (hS : va_S (fun q : Nat => base ≤ q) s.heap H locs) (hb : base ≤ s.heap.size) (hp4 : P.2.2.2.2.1 = false) (a0 : Nat) (h0 : isK ad ks 12 a0) (x1 : Int32) (hl : Cond.methodLink own index yX12_sumOf ∈ sg_tbl) (hsize : ls.size = nL) (hst : st0 = [.int x1].reverse ++ .ref a0 :: rest) (hW : (rest.map fun v => v.category).sum ≤ 8) (hR : 1 ≤ R.frames ∧ 21 ≤ R.locals) (hf : cells ≤ R.cells ∧ slots ≤ R.slots) (hdg : decode cc pc = .ok (.invokevirtual index, 3)) (kk : ∀ (r : Int32) (H1 : Heap) (locs1 : List Loc), (fun r : Int32 => True) r → sgG (KT P) D vwCl (fun q : Nat => base ≤ q) tys ad ks H1 → va_S (fun q : Nat => base ≤ q) s.heap H1 locs1 → W p l e R s m args below meth c H1 locs1 cells slots Q (F0 m (pc + 3) ls (.int r :: rest))) : W p l e R s m args below meth c H locs cells slots Q (F0 m pc ls st0) :=
  sg_callVi X hK hG hC hS hb (m_X12_sumOf_0 l hp4 a0 h0 x1) h0 (k := 12) (ci := 12) rfl (C := RX12) (T := TX12) (N := 53) rfl wl_9_54 wl_1_13 wl_9_52 wl_9_53 (n := 1) (by decide +kernel) rfl rfl rfl hl hsize hst hW hR hf hdg kk

set_option maxHeartbeats 8000000 in
set_option maxRecDepth 100000 in
theorem m_X12_sit_0 (l : Launch) {D : va_G} {base : Nat} {tys : List (ClassId × FieldType)} {ad ks : List Nat} {P : sgPm} (hp4 : P.2.2.2.2.1 = false) (a0 : Nat) (h0 : isK ad ks 12 a0) : sgMi l (KT P) D vwCl base tys ad ks yX12_sit cX12_sit 1 (some .int) ({ frames := 1, cells := 0, slots := 0, locals := 21 }) [.ref a0] (fun r : Int32 => True) := by
  refine sg_ofW (by decide +kernel) (Nat.le_of_ble_eq_true rfl) (fun p e s m below meth c X hr hlk hb hK hC hG ls hl => ?_)
  have hS : va_S (fun q : Nat => base ≤ q) s.heap s.heap [] := va_S.rf
  have hl : lv_has ls 1 [(0, .ref a0)] := hl
  refine lv_aload_n X.1 X.2.1 dX12_sit_0 rfl (lv_at hl 0 rfl) ?_
  refine lv_iconst (v := 0) X.1 X.2.1 dX12_sit_1 (by decide +kernel) ?_
  refine pf_X12_0 X hK hG hS h0 wl_6_178 ⟨_, rfl, (iv_top _)⟩ dX12_sit_2 (fun H locs hG hS ku1 ru1 => ?_)
  refine lv_aload_n X.1 X.2.1 dX12_sit_5 rfl (lv_at hl 0 rfl) ?_
  refine lv_aload_n X.1 X.2.1 dX12_sit_6 rfl (lv_at hl 0 rfl) ?_
  refine gf_X12_32 X hK hG h0 wl_6_210 dX12_sit_7 (fun q2 hq2 kq2 => ?_)
  refine ca_X12_isOpen_0 X hK hG hC (fun _ h => h) hS hb hp4 a0 h0 q2 hq2 wl_8_94 hl.1 (rest := []) rfl (Nat.le_of_ble_eq_true rfl) ⟨Nat.le_of_ble_eq_true rfl, Nat.le_of_ble_eq_true rfl⟩ ⟨Nat.le_of_ble_eq_true rfl, Nat.le_of_ble_eq_true rfl⟩ dX12_sit_10 (fun f3 locs hf3 hS => ?_)
  refine lv_if_ne (tgt := 18) X.1 X.2.1 dX12_sit_13 (by decide) (fun c4 => ?_) (fun c4 => ?_)
  · exact ((c4 (iv_one hf3 (iv_c 0 (a := 0) (b := 0) (by decide +kernel)) (by decide +kernel)))).elim
  · refine lv_iconst (v := (-1)) X.1 X.2.1 dX12_sit_16 (by decide +kernel) ?_
    exact sg_iret X hr hlk hb hK hC hG hS trivial dX12_sit_17

theorem ca_X12_sit_0   (X : CallFix p m c cc nL s args sg_tbl own) (hK : va_K D vwCl tys s) (hG : sgG (KT P) D vwCl (fun q : Nat => base ≤ q) tys ad ks H) (hC : sgC base s) (hS : va_S (fun q : Nat => base ≤ q) s.heap H locs) (hb : base ≤ s.heap.size) (hp4 : P.2.2.2.2.1 = false) (a0 : Nat) (h0 : isK ad ks 12 a0) (hl : Cond.methodLink own index yX12_sit ∈ sg_tbl) (hsize : ls.size = nL) (hst : st0 = [].reverse ++ .ref a0 :: rest) (hW : (rest.map fun v => v.category).sum ≤ 8) (hR : 2 ≤ R.frames ∧ 41 ≤ R.locals) (hf : cells ≤ R.cells ∧ slots ≤ R.slots) (hdg : decode cc pc = .ok (.invokevirtual index, 3)) (kk : ∀ (r : Int32) (H1 : Heap) (locs1 : List Loc), (fun r : Int32 => True) r → sgG (KT P) D vwCl (fun q : Nat => base ≤ q) tys ad ks H1 → va_S (fun q : Nat => base ≤ q) s.heap H1 locs1 → W p l e R s m args below meth c H1 locs1 cells slots Q (F0 m (pc + 3) ls (.int r :: rest))) : W p l e R s m args below meth c H locs cells slots Q (F0 m pc ls st0) :=
  sg_callVi X hK hG hC hS hb (m_X12_sit_0 l hp4 a0 h0) h0 (k := 12) (ci := 12) rfl (C := RX12) (T := TX12) (N := 53) rfl wl_8_132 wl_1_13 wl_8_130 wl_8_131 (n := 0) (by decide +kernel) rfl rfl rfl hl hsize hst hW hR hf hdg kk

set_option maxHeartbeats 8000000 in
set_option maxRecDepth 100000 in
theorem m_X12_games_0 (l : Launch) {D : va_G} {base : Nat} {tys : List (ClassId × FieldType)} {ad ks : List Nat} {P : sgPm} (hp4 : P.2.2.2.2.1 = false) (a0 : Nat) (h0 : isK ad ks 12 a0) (x1 : Int32) (x2 : Int64) : sgMi l (KT P) D vwCl base tys ad ks yX12_games cX12_games 5 (some .int) ({ frames := 1, cells := 0, slots := 0, locals := 21 }) [.ref a0, .int x1, .long x2] (fun r : Int32 => True) := by
  refine sg_ofW (by decide +kernel) (Nat.le_of_ble_eq_true rfl) (fun p e s m below meth c X hr hlk hb hK hC hG ls hl => ?_)
  have hS : va_S (fun q : Nat => base ≤ q) s.heap s.heap [] := va_S.rf
  have hl : lv_has ls 5 [(0, .ref a0), (1, .int x1), (2, .long x2)] := hl
  refine lv_aload_n X.1 X.2.1 dX12_games_0 rfl (lv_at hl 0 rfl) ?_
  refine lv_iconst (v := 0) X.1 X.2.1 dX12_games_1 (by decide +kernel) ?_
  refine pf_X12_0 X hK hG hS h0 wl_6_178 ⟨_, rfl, (iv_top _)⟩ dX12_games_2 (fun H locs hG hS ku1 ru1 => ?_)
  refine lv_aload_n X.1 X.2.1 dX12_games_5 rfl (lv_at hl 0 rfl) ?_
  refine lv_aload_n X.1 X.2.1 dX12_games_6 rfl (lv_at hl 0 rfl) ?_
  refine gf_X12_32 X hK hG h0 wl_6_210 dX12_games_7 (fun q2 hq2 kq2 => ?_)
  refine ca_X12_isOpen_0 X hK hG hC (fun _ h => h) hS hb hp4 a0 h0 q2 hq2 wl_8_94 hl.1 (rest := []) rfl (Nat.le_of_ble_eq_true rfl) ⟨Nat.le_of_ble_eq_true rfl, Nat.le_of_ble_eq_true rfl⟩ ⟨Nat.le_of_ble_eq_true rfl, Nat.le_of_ble_eq_true rfl⟩ dX12_games_10 (fun f3 locs hf3 hS => ?_)
  refine lv_if_eq (tgt := 28) X.1 X.2.1 dX12_games_13 (by decide) (fun c4 => ?_) (fun c4 => ?_)
  · refine lv_iconst (v := (-1)) X.1 X.2.1 dX12_games_28 (by decide +kernel) ?_
    exact sg_iret X hr hlk hb hK hC hG hS trivial dX12_games_29
  · exact ((c4 (iv_one hf3 (iv_c 0 (a := 0) (b := 0) (by decide +kernel)) (by decide +kernel)))).elim

theorem ca_X12_games_0   (X : CallFix p m c cc nL s args sg_tbl own) (hK : va_K D vwCl tys s) (hG : sgG (KT P) D vwCl (fun q : Nat => base ≤ q) tys ad ks H) (hC : sgC base s) (hS : va_S (fun q : Nat => base ≤ q) s.heap H locs) (hb : base ≤ s.heap.size) (hp4 : P.2.2.2.2.1 = false) (a0 : Nat) (h0 : isK ad ks 12 a0) (x1 : Int32) (x2 : Int64) (hl : Cond.methodLink own index yX12_games ∈ sg_tbl) (hsize : ls.size = nL) (hst : st0 = [.int x1, .long x2].reverse ++ .ref a0 :: rest) (hW : (rest.map fun v => v.category).sum ≤ 8) (hR : 2 ≤ R.frames ∧ 45 ≤ R.locals) (hf : cells ≤ R.cells ∧ slots ≤ R.slots) (hdg : decode cc pc = .ok (.invokevirtual index, 3)) (kk : ∀ (r : Int32) (H1 : Heap) (locs1 : List Loc), (fun r : Int32 => True) r → sgG (KT P) D vwCl (fun q : Nat => base ≤ q) tys ad ks H1 → va_S (fun q : Nat => base ≤ q) s.heap H1 locs1 → W p l e R s m args below meth c H1 locs1 cells slots Q (F0 m (pc + 3) ls (.int r :: rest))) : W p l e R s m args below meth c H locs cells slots Q (F0 m pc ls st0) :=
  sg_callVi X hK hG hC hS hb (m_X12_games_0 l hp4 a0 h0 x1 x2) h0 (k := 12) (ci := 12) rfl (C := RX12) (T := TX12) (N := 53) rfl wl_8_150 wl_1_13 wl_8_148 wl_8_149 (n := 2) (by decide +kernel) rfl rfl rfl hl hsize hst hW hR hf hdg kk

set_option maxHeartbeats 8000000 in
set_option maxRecDepth 100000 in
theorem m_X12_remember (l : Launch) {D : va_G} {base : Nat} {tys : List (ClassId × FieldType)} {ad ks : List Nat} {P : sgPm} (a0 : Nat) (h0 : isK ad ks 12 a0) : sgMv l (KT P) D vwCl base tys ad ks yX12_remember cX12_remember 2 none ({ frames := 0, cells := 0, slots := 0, locals := 0 }) [.ref a0] := by
  refine sg_ofW (by decide +kernel) (Nat.le_of_ble_eq_true rfl) (fun p e s m below meth c X hr hlk hb hK hC hG ls hl => ?_)
  have hS : va_S (fun q : Nat => base ≤ q) s.heap s.heap [] := va_S.rf
  have hl : lv_has ls 2 [(0, .ref a0)] := hl
  refine lv_aload_n X.1 X.2.1 dX12_remember_0 rfl (lv_at hl 0 rfl) ?_
  refine gf_X12_39 X hK hG h0 wl_6_217 dX12_remember_1 (fun f1 hf1 kf1 => ?_)
  refine lv_bipush (v := 40) X.1 X.2.1 dX12_remember_4 (by decide +kernel) ?_
  have B3_50 : ∀ (H : Heap) (locs : List Loc) (ls : Array Slot) (v3_0_39 : Int32), sgG (KT P) D vwCl (fun q : Nat => base ≤ q) tys ad ks H → va_S (fun q : Nat => base ≤ q) s.heap H locs → lv_has ls 2 [(0, .ref a0)] → iv 0 39 v3_0_39 → fld D H 12 a0 39 (.int v3_0_39) → W p l e (headSpec (Cond.code yX12_remember cX12_remember 2 none :: sg_tbl) ({ frames := 0, cells := 0, slots := 0, locals := 0 })).room s m #[.ref a0] below meth c H locs 0 0 (MQ below (va_Qv (fun (_ : Unit) => True) (fun _ => sgB (KT P) D vwCl base tys ad ks) (fun q : Nat => base ≤ q)) #[.ref a0] s 0 0 (fun q : Nat => base ≤ q)) (F0 m 50 ls []) := by
    intro H locs ls v3_0_39 hG hS hl hv3_0_39 hkv3_0_39
    refine lv_iconst (v := 0) X.1 X.2.1 dX12_remember_50 (by decide +kernel) ?_
    refine lv_istore_n (lv' := [(1, .int 0), (0, .ref a0)]) X.1 X.2.1 dX12_remember_51 rfl hl (by decide) rfl (fun ls hl => ?_)
    have B4_52 : ∀ (N : Nat) (H : Heap) (locs : List Loc) (ls : Array Slot) (z4_1 : Int32) (v4_0_39 : Int32), sgG (KT P) D vwCl (fun q : Nat => base ≤ q) tys ad ks H → va_S (fun q : Nat => base ≤ q) s.heap H locs → lv_has ls 2 [(0, .ref a0), (1, .int z4_1)] → iv 0 249 z4_1 → iv 0 39 v4_0_39 → fld D H 12 a0 39 (.int v4_0_39) → (250 - z4_1.toInt).toNat ≤ N → W p l e (headSpec (Cond.code yX12_remember cX12_remember 2 none :: sg_tbl) ({ frames := 0, cells := 0, slots := 0, locals := 0 })).room s m #[.ref a0] below meth c H locs 0 0 (MQ below (va_Qv (fun (_ : Unit) => True) (fun _ => sgB (KT P) D vwCl base tys ad ks) (fun q : Nat => base ≤ q)) #[.ref a0] s 0 0 (fun q : Nat => base ≤ q)) (F0 m 52 ls []) := by
      intro N; induction N with
      | zero =>
        intro H locs ls z4_1 v4_0_39 hG hS hl hz4_1 hv4_0_39 hkv4_0_39 hN
        exact absurd hN (by have := iv_up hz4_1; omega)
      | succ N ih4 =>
        intro H locs ls z4_1 v4_0_39 hG hS hl hz4_1 hv4_0_39 hkv4_0_39 hN4
        refine lv_iload_n X.1 X.2.1 dX12_remember_52 rfl (lv_at hl 1 rfl) ?_
        refine lv_sipush (v := 249) X.1 X.2.1 dX12_remember_53 (by decide +kernel) ?_
        refine lv_icmp_ge (tgt := 86) X.1 X.2.1 dX12_remember_56 (by decide) (fun c5 => ?_) (fun c5 => ?_)
        · refine lv_aload_n X.1 X.2.1 dX12_remember_86 rfl (lv_at hl 0 rfl) ?_
          refine lv_dup X.1 X.2.1 dX12_remember_87 rfl ?_
          refine gg_X12_39 X hK hG h0 wl_6_217 hkv4_0_39 dX12_remember_88 ?_
          refine lv_iconst (v := 1) X.1 X.2.1 dX12_remember_91 (by decide +kernel) ?_
          refine lv_iadd X.1 X.2.1 dX12_remember_92 ?_
          refine lv_topi (fun f6 ef6 => ?_)
          refine pf_X12_39 X hK hG hS h0 wl_6_217 ⟨_, rfl, (iv_of (iv_add (a' := 1) (b' := 40) ef6 hv4_0_39 (iv_c 1 (a := 1) (b := 1) (by decide +kernel)) (by decide +kernel)) (a' := 0) (b' := 40) (by decide +kernel))⟩ dX12_remember_93 (fun H locs hG hS ku7 ru7 => ?_)
          exact sg_vret X hr hlk hb hK hC hG hS dX12_remember_96
        · refine lv_aload_n X.1 X.2.1 dX12_remember_59 rfl (lv_at hl 0 rfl) ?_
          refine gf_X12_38 X hK hG h0 wl_6_216 dX12_remember_60 (fun q8 hq8 kq8 => ?_)
          refine lv_sipush (v := 249) X.1 X.2.1 dX12_remember_63 (by decide +kernel) ?_
          refine lv_aload_n X.1 X.2.1 dX12_remember_66 rfl (lv_at hl 0 rfl) ?_
          refine gg_X12_39 X hK hG h0 wl_6_217 hkv4_0_39 dX12_remember_67 ?_
          refine lv_imul X.1 X.2.1 dX12_remember_70 ?_
          refine lv_topi (fun f9 ef9 => ?_)
          refine lv_iload_n X.1 X.2.1 dX12_remember_71 rfl (lv_at hl 1 rfl) ?_
          refine lv_iadd X.1 X.2.1 dX12_remember_72 ?_
          refine lv_topi (fun f10 ef10 => ?_)
          refine lv_aload_n X.1 X.2.1 dX12_remember_73 rfl (lv_at hl 0 rfl) ?_
          refine gf_X12_32 X hK hG h0 wl_6_210 dX12_remember_74 (fun q11 hq11 kq11 => ?_)
          refine lv_iload_n X.1 X.2.1 dX12_remember_77 rfl (lv_at hl 1 rfl) ?_
          refine al_54 X hK hG hq11 (iv_vpin (iv_lt (b' := 248) (iv_gt_of c5) hz4_1 (iv_c 249 (a := 249) (b := 249) (by decide +kernel)) (by decide +kernel)) (by decide +kernel)) dX12_remember_78 (fun f12 hf12 => ?_)
          have hf12 := sg_nw_now hf12
          have of12 := hf12
          have hf12 : iv (-2147483648) 2147483647 f12 := sg_spa_now hf12
          refine as_58 X hK hG hS hq8 (iv_vpin (iv_add (a' := 0) (b' := 9959) ef10 (iv_mul (a' := 0) (b' := 9711) ef9 (iv_c 249 (a := 249) (b := 249) (by decide +kernel)) hv4_0_39 (by decide +kernel)) (iv_lt (b' := 248) (iv_gt_of c5) hz4_1 (iv_c 249 (a := 249) (b := 249) (by decide +kernel)) (by decide +kernel)) (by decide +kernel)) (by decide +kernel)) (sg_und2 hv4_0_39 ef9 (iv_lt (b' := 248) (iv_gt_of c5) hz4_1 (iv_c 249 (a := 249) (b := 249) (by decide +kernel)) (by decide +kernel)) ef10 of12) dX12_remember_79 (fun H locs hG hS ru13 => ?_)
          obtain ⟨y14, ey14⟩ : ∃ y : Int32, y = z4_1 + Int32.ofInt 1 := ⟨_, rfl⟩
          refine lv_iinc (v := y14) (lv' := [(1, .int y14), (0, .ref a0)]) X.1 X.2.1 dX12_remember_80 hl (k := 1) rfl ey14.symm (by decide) rfl (fun ls hl => ?_)
          refine lv_goto (tgt := 52) X.1 X.2.1 dX12_remember_83 (by decide) ?_
          exact ih4 H _ _ y14 v4_0_39 hG hS (lv_sub hl [1, 0] rfl) (iv_of (iv_add (a' := 1) (b' := 249) ey14 (iv_lt (b' := 248) (iv_gt_of c5) hz4_1 (iv_c 249 (a := 249) (b := 249) (by decide +kernel)) (by decide +kernel)) (iv_c _ (a := 1) (b := 1) (by decide +kernel)) (by decide +kernel)) (a' := 0) (b' := 249) (by decide +kernel)) hv4_0_39 (ru13 _ _ _ _ _ _ _ h0 rfl rfl (by decide) (fun z => z.elim) hkv4_0_39) (iv_stepU ey14 (iv_lt (b' := 248) (iv_gt_of c5) hz4_1 (iv_c 249 (a := 249) (b := 249) (by decide +kernel)) (by decide +kernel)) (by decide +kernel) hN4)
    exact B4_52 _ H _ _ 0 v3_0_39 hG hS (lv_sub hl [1, 0] rfl) (iv_of (iv_c 0 (a := 0) (b := 0) (by decide +kernel)) (a' := 0) (b' := 249) (by decide +kernel)) hv3_0_39 hkv3_0_39 (Nat.le_refl _)
  refine lv_icmp_ne (tgt := 50) X.1 X.2.1 dX12_remember_6 (by decide) (fun c2 => ?_) (fun c2 => ?_)
  · exact B3_50 s.heap _ _ f1 hG hS (lv_sub hl [0] rfl) (iv_ne_hi (b' := 39) c2 hf1 (by decide +kernel)) kf1
  · refine lv_iconst (v := 0) X.1 X.2.1 dX12_remember_9 (by decide +kernel) ?_
    refine lv_istore_n (lv' := [(1, .int 0), (0, .ref a0)]) X.1 X.2.1 dX12_remember_10 rfl hl (by decide) rfl (fun ls hl => ?_)
    have B15_11 : ∀ (N : Nat) (H : Heap) (locs : List Loc) (ls : Array Slot) (z15_1 : Int32) (v15_0_39 : Int32), sgG (KT P) D vwCl (fun q : Nat => base ≤ q) tys ad ks H → va_S (fun q : Nat => base ≤ q) s.heap H locs → lv_has ls 2 [(0, .ref a0), (1, .int z15_1)] → iv 0 9711 z15_1 → iv 40 40 v15_0_39 → fld D H 12 a0 39 (.int v15_0_39) → (9712 - z15_1.toInt).toNat ≤ N → W p l e (headSpec (Cond.code yX12_remember cX12_remember 2 none :: sg_tbl) ({ frames := 0, cells := 0, slots := 0, locals := 0 })).room s m #[.ref a0] below meth c H locs 0 0 (MQ below (va_Qv (fun (_ : Unit) => True) (fun _ => sgB (KT P) D vwCl base tys ad ks) (fun q : Nat => base ≤ q)) #[.ref a0] s 0 0 (fun q : Nat => base ≤ q)) (F0 m 11 ls []) := by
      intro N; induction N with
      | zero =>
        intro H locs ls z15_1 v15_0_39 hG hS hl hz15_1 hv15_0_39 hkv15_0_39 hN
        exact absurd hN (by have := iv_up hz15_1; omega)
      | succ N ih15 =>
        intro H locs ls z15_1 v15_0_39 hG hS hl hz15_1 hv15_0_39 hkv15_0_39 hN15
        refine lv_iload_n X.1 X.2.1 dX12_remember_11 rfl (lv_at hl 1 rfl) ?_
        refine lv_sipush (v := 9711) X.1 X.2.1 dX12_remember_12 (by decide +kernel) ?_
        refine lv_icmp_ge (tgt := 40) X.1 X.2.1 dX12_remember_15 (by decide) (fun c16 => ?_) (fun c16 => ?_)
        · refine lv_aload_n X.1 X.2.1 dX12_remember_40 rfl (lv_at hl 0 rfl) ?_
          refine lv_dup X.1 X.2.1 dX12_remember_41 rfl ?_
          refine gg_X12_39 X hK hG h0 wl_6_217 hkv15_0_39 dX12_remember_42 ?_
          refine lv_iconst (v := 1) X.1 X.2.1 dX12_remember_45 (by decide +kernel) ?_
          refine lv_isub X.1 X.2.1 dX12_remember_46 ?_
          refine lv_topi (fun f17 ef17 => ?_)
          refine pf_X12_39 X hK hG hS h0 wl_6_217 ⟨_, rfl, (iv_of (iv_sub (a' := 39) (b' := 39) ef17 hv15_0_39 (iv_c 1 (a := 1) (b := 1) (by decide +kernel)) (by decide +kernel)) (a' := 0) (b' := 40) (by decide +kernel))⟩ dX12_remember_47 (fun H locs hG hS ku18 ru18 => ?_)
          exact B3_50 H _ _ f17 hG hS (lv_sub hl [0] rfl) (iv_of (iv_sub (a' := 39) (b' := 39) ef17 hv15_0_39 (iv_c 1 (a := 1) (b := 1) (by decide +kernel)) (by decide +kernel)) (a' := 0) (b' := 39) (by decide +kernel)) ku18
        · refine lv_aload_n X.1 X.2.1 dX12_remember_18 rfl (lv_at hl 0 rfl) ?_
          refine gf_X12_38 X hK hG h0 wl_6_216 dX12_remember_19 (fun q19 hq19 kq19 => ?_)
          refine lv_iload_n X.1 X.2.1 dX12_remember_22 rfl (lv_at hl 1 rfl) ?_
          refine lv_aload_n X.1 X.2.1 dX12_remember_23 rfl (lv_at hl 0 rfl) ?_
          refine gg_X12_38 X hK hG h0 wl_6_216 kq19 dX12_remember_24 ?_
          refine lv_iload_n X.1 X.2.1 dX12_remember_27 rfl (lv_at hl 1 rfl) ?_
          refine lv_sipush (v := 249) X.1 X.2.1 dX12_remember_28 (by decide +kernel) ?_
          refine lv_iadd X.1 X.2.1 dX12_remember_31 ?_
          refine lv_topi (fun f20 ef20 => ?_)
          refine al_58 X hK hG hq19 (iv_vpin (iv_add (a' := 249) (b' := 9959) ef20 (iv_lt (b' := 9710) (iv_gt_of c16) hz15_1 (iv_c 9711 (a := 9711) (b := 9711) (by decide +kernel)) (by decide +kernel)) (iv_c 249 (a := 249) (b := 249) (by decide +kernel)) (by decide +kernel)) (by decide +kernel)) dX12_remember_32 (fun f21 hf21 => ?_)
          have of21 := hf21
          have hf21 : iv (-2147483648) 2147483647 f21 := sg_spa_now hf21
          refine as_58 X hK hG hS hq19 (iv_vpin (iv_lt (b' := 9710) (iv_gt_of c16) hz15_1 (iv_c 9711 (a := 9711) (b := 9711) (by decide +kernel)) (by decide +kernel)) (by decide +kernel)) (sg_und1 (iv_lt (b' := 9710) (iv_gt_of c16) hz15_1 (iv_c 9711 (a := 9711) (b := 9711) (by decide +kernel)) (by decide +kernel)) ef20 of21) dX12_remember_33 (fun H locs hG hS ru22 => ?_)
          obtain ⟨y23, ey23⟩ : ∃ y : Int32, y = z15_1 + Int32.ofInt 1 := ⟨_, rfl⟩
          refine lv_iinc (v := y23) (lv' := [(1, .int y23), (0, .ref a0)]) X.1 X.2.1 dX12_remember_34 hl (k := 1) rfl ey23.symm (by decide) rfl (fun ls hl => ?_)
          refine lv_goto (tgt := 11) X.1 X.2.1 dX12_remember_37 (by decide) ?_
          exact ih15 H _ _ y23 v15_0_39 hG hS (lv_sub hl [1, 0] rfl) (iv_of (iv_add (a' := 1) (b' := 9711) ey23 (iv_lt (b' := 9710) (iv_gt_of c16) hz15_1 (iv_c 9711 (a := 9711) (b := 9711) (by decide +kernel)) (by decide +kernel)) (iv_c _ (a := 1) (b := 1) (by decide +kernel)) (by decide +kernel)) (a' := 0) (b' := 9711) (by decide +kernel)) hv15_0_39 (ru22 _ _ _ _ _ _ _ h0 rfl rfl (by decide) (fun z => z.elim) hkv15_0_39) (iv_stepU ey23 (iv_lt (b' := 9710) (iv_gt_of c16) hz15_1 (iv_c 9711 (a := 9711) (b := 9711) (by decide +kernel)) (by decide +kernel)) (by decide +kernel) hN15)
    exact B15_11 _ s.heap _ _ 0 f1 hG hS (lv_sub hl [1, 0] rfl) (iv_of (iv_c 0 (a := 0) (b := 0) (by decide +kernel)) (a' := 0) (b' := 9711) (by decide +kernel)) (iv_eqm (a' := 40) (b' := 40) c2 hf1 (iv_c 40 (a := 40) (b := 40) (by decide +kernel)) (by decide +kernel)) kf1 (Nat.le_refl _)

theorem ca_X12_remember   (X : CallFix p m c cc nL s args sg_tbl own) (hK : va_K D vwCl tys s) (hG : sgG (KT P) D vwCl (fun q : Nat => base ≤ q) tys ad ks H) (hC : sgC base s) (hS : va_S (fun q : Nat => base ≤ q) s.heap H locs) (hb : base ≤ s.heap.size) (a0 : Nat) (h0 : isK ad ks 12 a0) (hl : Cond.methodLink own index yX12_remember ∈ sg_tbl) (hsize : ls.size = nL) (hst : st0 = [].reverse ++ .ref a0 :: rest) (hW : (rest.map fun v => v.category).sum ≤ 8) (hR : 1 ≤ R.frames ∧ 21 ≤ R.locals) (hf : cells ≤ R.cells ∧ slots ≤ R.slots) (hdg : decode cc pc = .ok (.invokevirtual index, 3)) (kk : ∀ (H1 : Heap) (locs1 : List Loc), sgG (KT P) D vwCl (fun q : Nat => base ≤ q) tys ad ks H1 → va_S (fun q : Nat => base ≤ q) s.heap H1 locs1 → W p l e R s m args below meth c H1 locs1 cells slots Q (F0 m (pc + 3) ls rest)) : W p l e R s m args below meth c H locs cells slots Q (F0 m pc ls st0) :=
  sg_callVv X hK hG hC hS hb (m_X12_remember l a0 h0) h0 (k := 12) (ci := 12) rfl (C := RX12) (T := TX12) (N := 53) rfl wl_8_101 wl_1_13 wl_8_100 wl_0_78 (n := 0) (by decide +kernel) rfl rfl rfl hl hsize hst hW hR hf hdg kk

set_option maxHeartbeats 8000000 in
set_option maxRecDepth 100000 in
theorem m_X12_undo (l : Launch) {D : va_G} {base : Nat} {tys : List (ClassId × FieldType)} {ad ks : List Nat} {P : sgPm} (hp10 : sgPin P = none) (a0 : Nat) (h0 : isK ad ks 12 a0) : sgMi l (KT P) D vwCl base tys ad ks yX12_undo cX12_undo 2 (some .int) ({ frames := 0, cells := 0, slots := 0, locals := 0 }) [.ref a0] (fun r : Int32 => True) := by
  refine sg_ofW (by decide +kernel) (Nat.le_of_ble_eq_true rfl) (fun p e s m below meth c X hr hlk hb hK hC hG ls hl => ?_)
  have hS : va_S (fun q : Nat => base ≤ q) s.heap s.heap [] := va_S.rf
  have hl : lv_has ls 2 [(0, .ref a0)] := hl
  refine lv_aload_n X.1 X.2.1 dX12_undo_0 rfl (lv_at hl 0 rfl) ?_
  refine lv_iconst (v := 0) X.1 X.2.1 dX12_undo_1 (by decide +kernel) ?_
  refine pf_X12_0 X hK hG hS h0 wl_6_178 ⟨_, rfl, (iv_top _)⟩ dX12_undo_2 (fun H locs hG hS ku1 ru1 => ?_)
  refine lv_aload_n X.1 X.2.1 dX12_undo_5 rfl (lv_at hl 0 rfl) ?_
  refine gf_X12_39 X hK hG h0 wl_6_217 dX12_undo_6 (fun f2 hf2 kf2 => ?_)
  refine lv_if_ne (tgt := 14) X.1 X.2.1 dX12_undo_9 (by decide) (fun c3 => ?_) (fun c3 => ?_)
  · refine lv_aload_n X.1 X.2.1 dX12_undo_14 rfl (lv_at hl 0 rfl) ?_
    refine lv_dup X.1 X.2.1 dX12_undo_15 rfl ?_
    refine gg_X12_39 X hK hG h0 wl_6_217 kf2 dX12_undo_16 ?_
    refine lv_iconst (v := 1) X.1 X.2.1 dX12_undo_19 (by decide +kernel) ?_
    refine lv_isub X.1 X.2.1 dX12_undo_20 ?_
    refine lv_topi (fun f4 ef4 => ?_)
    refine pf_X12_39 X hK hG hS h0 wl_6_217 ⟨_, rfl, (iv_of (iv_sub (a' := 0) (b' := 39) ef4 (iv_ne_lo (a' := 1) c3 hf2 (by decide +kernel)) (iv_c 1 (a := 1) (b := 1) (by decide +kernel)) (by decide +kernel)) (a' := 0) (b' := 40) (by decide +kernel))⟩ dX12_undo_21 (fun H locs hG hS ku5 ru5 => ?_)
    refine lv_iconst (v := 0) X.1 X.2.1 dX12_undo_24 (by decide +kernel) ?_
    refine lv_istore_n (lv' := [(1, .int 0), (0, .ref a0)]) X.1 X.2.1 dX12_undo_25 rfl hl (by decide) rfl (fun ls hl => ?_)
    have B6_26 : ∀ (N : Nat) (H : Heap) (locs : List Loc) (ls : Array Slot) (z6_1 : Int32) (v6_0_39 : Int32), sgG (KT P) D vwCl (fun q : Nat => base ≤ q) tys ad ks H → va_S (fun q : Nat => base ≤ q) s.heap H locs → lv_has ls 2 [(0, .ref a0), (1, .int z6_1)] → iv 0 249 z6_1 → iv 0 39 v6_0_39 → fld D H 12 a0 39 (.int v6_0_39) → (250 - z6_1.toInt).toNat ≤ N → W p l e (headSpec (Cond.code yX12_undo cX12_undo 2 (some .int) :: sg_tbl) ({ frames := 0, cells := 0, slots := 0, locals := 0 })).room s m #[.ref a0] below meth c H locs 0 0 (MQ below (va_Qi (fun r (_ : Unit) => (fun r : Int32 => True) r) (fun _ => sgB (KT P) D vwCl base tys ad ks) (fun q : Nat => base ≤ q)) #[.ref a0] s 0 0 (fun q : Nat => base ≤ q)) (F0 m 26 ls []) := by
      intro N; induction N with
      | zero =>
        intro H locs ls z6_1 v6_0_39 hG hS hl hz6_1 hv6_0_39 hkv6_0_39 hN
        exact absurd hN (by have := iv_up hz6_1; omega)
      | succ N ih6 =>
        intro H locs ls z6_1 v6_0_39 hG hS hl hz6_1 hv6_0_39 hkv6_0_39 hN6
        refine lv_iload_n X.1 X.2.1 dX12_undo_26 rfl (lv_at hl 1 rfl) ?_
        refine lv_sipush (v := 249) X.1 X.2.1 dX12_undo_27 (by decide +kernel) ?_
        refine lv_icmp_ge (tgt := 60) X.1 X.2.1 dX12_undo_30 (by decide) (fun c7 => ?_) (fun c7 => ?_)
        · refine lv_aload_n X.1 X.2.1 dX12_undo_60 rfl (lv_at hl 0 rfl) ?_
          refine gg_X12_39 X hK hG h0 wl_6_217 hkv6_0_39 dX12_undo_61 ?_
          exact sg_iret X hr hlk hb hK hC hG hS trivial dX12_undo_64
        · refine lv_aload_n X.1 X.2.1 dX12_undo_33 rfl (lv_at hl 0 rfl) ?_
          refine gf_X12_32 X hK hG h0 wl_6_210 dX12_undo_34 (fun q8 hq8 kq8 => ?_)
          refine lv_iload_n X.1 X.2.1 dX12_undo_37 rfl (lv_at hl 1 rfl) ?_
          refine lv_aload_n X.1 X.2.1 dX12_undo_38 rfl (lv_at hl 0 rfl) ?_
          refine gf_X12_38 X hK hG h0 wl_6_216 dX12_undo_39 (fun q9 hq9 kq9 => ?_)
          refine lv_sipush (v := 249) X.1 X.2.1 dX12_undo_42 (by decide +kernel) ?_
          refine lv_aload_n X.1 X.2.1 dX12_undo_45 rfl (lv_at hl 0 rfl) ?_
          refine gg_X12_39 X hK hG h0 wl_6_217 hkv6_0_39 dX12_undo_46 ?_
          refine lv_imul X.1 X.2.1 dX12_undo_49 ?_
          refine lv_topi (fun f10 ef10 => ?_)
          refine lv_iload_n X.1 X.2.1 dX12_undo_50 rfl (lv_at hl 1 rfl) ?_
          refine lv_iadd X.1 X.2.1 dX12_undo_51 ?_
          refine lv_topi (fun f11 ef11 => ?_)
          refine al_58 X hK hG hq9 (iv_vpin (iv_add (a' := 0) (b' := 9959) ef11 (iv_mul (a' := 0) (b' := 9711) ef10 (iv_c 249 (a := 249) (b := 249) (by decide +kernel)) hv6_0_39 (by decide +kernel)) (iv_lt (b' := 248) (iv_gt_of c7) hz6_1 (iv_c 249 (a := 249) (b := 249) (by decide +kernel)) (by decide +kernel)) (by decide +kernel)) (by decide +kernel)) dX12_undo_52 (fun f12 hf12 => ?_)
          have of12 := hf12
          have hf12 : iv (-2147483648) 2147483647 f12 := sg_spa_now hf12
          refine as_54 X hK hG hS hq8 (iv_vpin (iv_lt (b' := 248) (iv_gt_of c7) hz6_1 (iv_c 249 (a := 249) (b := 249) (by decide +kernel)) (by decide +kernel)) (by decide +kernel)) (sg_nw_none hp10 (sg_und3 hv6_0_39 ef10 (iv_lt (b' := 248) (iv_gt_of c7) hz6_1 (iv_c 249 (a := 249) (b := 249) (by decide +kernel)) (by decide +kernel)) ef11 of12)) dX12_undo_53 (fun H locs hG hS ru13 => ?_)
          obtain ⟨y14, ey14⟩ : ∃ y : Int32, y = z6_1 + Int32.ofInt 1 := ⟨_, rfl⟩
          refine lv_iinc (v := y14) (lv' := [(1, .int y14), (0, .ref a0)]) X.1 X.2.1 dX12_undo_54 hl (k := 1) rfl ey14.symm (by decide) rfl (fun ls hl => ?_)
          refine lv_goto (tgt := 26) X.1 X.2.1 dX12_undo_57 (by decide) ?_
          exact ih6 H _ _ y14 v6_0_39 hG hS (lv_sub hl [1, 0] rfl) (iv_of (iv_add (a' := 1) (b' := 249) ey14 (iv_lt (b' := 248) (iv_gt_of c7) hz6_1 (iv_c 249 (a := 249) (b := 249) (by decide +kernel)) (by decide +kernel)) (iv_c _ (a := 1) (b := 1) (by decide +kernel)) (by decide +kernel)) (a' := 0) (b' := 249) (by decide +kernel)) hv6_0_39 (ru13 _ _ _ _ _ _ _ h0 rfl rfl (by decide) (fun z => z.elim) hkv6_0_39) (iv_stepU ey14 (iv_lt (b' := 248) (iv_gt_of c7) hz6_1 (iv_c 249 (a := 249) (b := 249) (by decide +kernel)) (by decide +kernel)) (by decide +kernel) hN6)
    exact B6_26 _ H _ _ 0 f4 hG hS (lv_sub hl [1, 0] rfl) (iv_of (iv_c 0 (a := 0) (b := 0) (by decide +kernel)) (a' := 0) (b' := 249) (by decide +kernel)) (iv_sub (a' := 0) (b' := 39) ef4 (iv_ne_lo (a' := 1) c3 hf2 (by decide +kernel)) (iv_c 1 (a := 1) (b := 1) (by decide +kernel)) (by decide +kernel)) ku5 (Nat.le_refl _)
  · refine lv_iconst (v := (-1)) X.1 X.2.1 dX12_undo_12 (by decide +kernel) ?_
    exact sg_iret X hr hlk hb hK hC hG hS trivial dX12_undo_13

theorem ca_X12_undo   (X : CallFix p m c cc nL s args sg_tbl own) (hK : va_K D vwCl tys s) (hG : sgG (KT P) D vwCl (fun q : Nat => base ≤ q) tys ad ks H) (hC : sgC base s) (hS : va_S (fun q : Nat => base ≤ q) s.heap H locs) (hb : base ≤ s.heap.size) (hp10 : sgPin P = none) (a0 : Nat) (h0 : isK ad ks 12 a0) (hl : Cond.methodLink own index yX12_undo ∈ sg_tbl) (hsize : ls.size = nL) (hst : st0 = [].reverse ++ .ref a0 :: rest) (hW : (rest.map fun v => v.category).sum ≤ 8) (hR : 1 ≤ R.frames ∧ 21 ≤ R.locals) (hf : cells ≤ R.cells ∧ slots ≤ R.slots) (hdg : decode cc pc = .ok (.invokevirtual index, 3)) (kk : ∀ (r : Int32) (H1 : Heap) (locs1 : List Loc), (fun r : Int32 => True) r → sgG (KT P) D vwCl (fun q : Nat => base ≤ q) tys ad ks H1 → va_S (fun q : Nat => base ≤ q) s.heap H1 locs1 → W p l e R s m args below meth c H1 locs1 cells slots Q (F0 m (pc + 3) ls (.int r :: rest))) : W p l e R s m args below meth c H locs cells slots Q (F0 m pc ls st0) :=
  sg_callVi X hK hG hC hS hb (m_X12_undo l hp10 a0 h0) h0 (k := 12) (ci := 12) rfl (C := RX12) (T := TX12) (N := 53) rfl wl_8_184 wl_1_13 wl_8_182 wl_8_183 (n := 0) (by decide +kernel) rfl rfl rfl hl hsize hst hW hR hf hdg kk

set_option maxHeartbeats 8000000 in
set_option maxRecDepth 100000 in
theorem m_X12_isSign (l : Launch) {D : va_G} {base : Nat} {tys : List (ClassId × FieldType)} {ad ks : List Nat} {P : sgPm} {Hx : Heap} (x0 : Int32) : sgPi l (KT P) D vwCl base tys ad ks Hx yX12_isSign cX12_isSign 1 (some .boolean) ({ frames := 0, cells := 0, slots := 0, locals := 0 }) [.int x0] (fun r : Int32 => iv 0 1 r ∧ (¬ r = 0 → iv 60 62 x0)) := by
  refine sg_ofP (Pq := fun Hx => va_Qi (fun r (_ : Unit) => (fun r : Int32 => iv 0 1 r ∧ (¬ r = 0 → iv 60 62 x0)) r) (fun _ t => t.heap = Hx) (fun _ : Nat => False)) (by decide +kernel) (Nat.le_of_ble_eq_true rfl) (fun p e s m below meth c X hr hlk hb hK hC hG ls hl => ?_)
  have hS : va_S (fun _ : Nat => False) s.heap s.heap [] := va_S.rf
  have hl : lv_has ls 1 [(0, .int x0)] := hl
  refine lv_iload_n X.1 X.2.1 dX12_isSign_0 rfl (lv_at hl 0 rfl) ?_
  refine lv_bipush (v := 61) X.1 X.2.1 dX12_isSign_1 (by decide +kernel) ?_
  refine lv_icmp_eq (tgt := 18) X.1 X.2.1 dX12_isSign_3 (by decide) (fun c1 => ?_) (fun c1 => ?_)
  · refine lv_iconst (v := 1) X.1 X.2.1 dX12_isSign_18 (by decide +kernel) ?_
    refine lv_goto (tgt := 23) X.1 X.2.1 dX12_isSign_19 (by decide) ?_
    exact sg_zretP X hr (sg_zn (iv_of (iv_c 1 (a := 1) (b := 1) (by decide +kernel)) (a' := 0) (b' := 1) (by decide +kernel))) hlk hS ⟨(iv_of (iv_c 1 (a := 1) (b := 1) (by decide +kernel)) (a' := 0) (b' := 1) (by decide +kernel)), fun h => (iv_of (iv_eqm (a' := 61) (b' := 61) c1 (iv_top x0) (iv_c 61 (a := 61) (b := 61) (by decide +kernel)) (by decide +kernel)) (a' := 60) (b' := 62) (by decide +kernel))⟩ dX12_isSign_23
  · refine lv_iload_n X.1 X.2.1 dX12_isSign_6 rfl (lv_at hl 0 rfl) ?_
    refine lv_bipush (v := 60) X.1 X.2.1 dX12_isSign_7 (by decide +kernel) ?_
    refine lv_icmp_eq (tgt := 18) X.1 X.2.1 dX12_isSign_9 (by decide) (fun c2 => ?_) (fun c2 => ?_)
    · refine lv_iconst (v := 1) X.1 X.2.1 dX12_isSign_18 (by decide +kernel) ?_
      refine lv_goto (tgt := 23) X.1 X.2.1 dX12_isSign_19 (by decide) ?_
      exact sg_zretP X hr (sg_zn (iv_of (iv_c 1 (a := 1) (b := 1) (by decide +kernel)) (a' := 0) (b' := 1) (by decide +kernel))) hlk hS ⟨(iv_of (iv_c 1 (a := 1) (b := 1) (by decide +kernel)) (a' := 0) (b' := 1) (by decide +kernel)), fun h => (iv_of (iv_eqm (a' := 60) (b' := 60) c2 (iv_top x0) (iv_c 60 (a := 60) (b := 60) (by decide +kernel)) (by decide +kernel)) (a' := 60) (b' := 62) (by decide +kernel))⟩ dX12_isSign_23
    · refine lv_iload_n X.1 X.2.1 dX12_isSign_12 rfl (lv_at hl 0 rfl) ?_
      refine lv_bipush (v := 62) X.1 X.2.1 dX12_isSign_13 (by decide +kernel) ?_
      refine lv_icmp_ne (tgt := 22) X.1 X.2.1 dX12_isSign_15 (by decide) (fun c3 => ?_) (fun c3 => ?_)
      · refine lv_iconst (v := 0) X.1 X.2.1 dX12_isSign_22 (by decide +kernel) ?_
        exact sg_zretP X hr (sg_zn (iv_of (iv_c 0 (a := 0) (b := 0) (by decide +kernel)) (a' := 0) (b' := 1) (by decide +kernel))) hlk hS ⟨(iv_of (iv_c 0 (a := 0) (b := 0) (by decide +kernel)) (a' := 0) (b' := 1) (by decide +kernel)), fun h => absurd rfl h⟩ dX12_isSign_23
      · refine lv_iconst (v := 1) X.1 X.2.1 dX12_isSign_18 (by decide +kernel) ?_
        refine lv_goto (tgt := 23) X.1 X.2.1 dX12_isSign_19 (by decide) ?_
        exact sg_zretP X hr (sg_zn (iv_of (iv_c 1 (a := 1) (b := 1) (by decide +kernel)) (a' := 0) (b' := 1) (by decide +kernel))) hlk hS ⟨(iv_of (iv_c 1 (a := 1) (b := 1) (by decide +kernel)) (a' := 0) (b' := 1) (by decide +kernel)), fun h => (iv_of (iv_eqm (a' := 62) (b' := 62) c3 (iv_top x0) (iv_c 62 (a := 62) (b := 62) (by decide +kernel)) (by decide +kernel)) (a' := 60) (b' := 62) (by decide +kernel))⟩ dX12_isSign_23

theorem ca_X12_isSign   (X : CallFix p m c cc nL s args sg_tbl own) (hK : va_K D vwCl tys s) (hG : sgG (KT P) D vwCl (fun q : Nat => base ≤ q) tys ad ks H) (hC : sgC base s) (hA : ∀ q : Nat, A q → base ≤ q) (hS : va_S A s.heap H locs) (hb : base ≤ s.heap.size) (x0 : Int32) (hl : Cond.methodLink own index yX12_isSign ∈ sg_tbl) (hsize : ls.size = nL) (hst : st0 = [.int x0].reverse ++ rest) (hW : (rest.map fun v => v.category).sum ≤ 8) (hR : 1 ≤ R.frames ∧ 20 ≤ R.locals) (hf : cells ≤ R.cells ∧ slots ≤ R.slots) (hdg : decode cc pc = .ok (.invokestatic index, 3)) (kk : ∀ (r : Int32) (locs1 : List Loc), (fun r : Int32 => iv 0 1 r ∧ (¬ r = 0 → iv 60 62 x0)) r → va_S A s.heap H locs1 → W p l e R s m args below meth c H locs1 cells slots Q (F0 m (pc + 3) ls (.int r :: rest))) : W p l e R s m args below meth c H locs cells slots Q (F0 m pc ls st0) :=
  sg_callPSi X hK hG hC hA hS hb (m_X12_isSign l x0) wl_8_22 wl_1_13 wl_8_21 (n := 1) (by decide +kernel) rfl rfl rfl hl hsize hst hW hR hf hdg kk

set_option maxHeartbeats 8000000 in
set_option maxRecDepth 100000 in
theorem m_X12_mostOf (l : Launch) {D : va_G} {base : Nat} {tys : List (ClassId × FieldType)} {ad ks : List Nat} {P : sgPm} {Hx : Heap} (x0 : Int32) (x1 : Int32) : sgPi l (KT P) D vwCl base tys ad ks Hx yX12_mostOf cX12_mostOf 2 (some .int) ({ frames := 0, cells := 0, slots := 0, locals := 0 }) [.int x0, .int x1] (fun r : Int32 => True) := by
  refine sg_ofP (Pq := fun Hx => va_Qi (fun r (_ : Unit) => (fun r : Int32 => True) r) (fun _ t => t.heap = Hx) (fun _ : Nat => False)) (by decide +kernel) (Nat.le_of_ble_eq_true rfl) (fun p e s m below meth c X hr hlk hb hK hC hG ls hl => ?_)
  have hS : va_S (fun _ : Nat => False) s.heap s.heap [] := va_S.rf
  have hl : lv_has ls 2 [(0, .int x0), (1, .int x1)] := hl
  refine lv_iload_n X.1 X.2.1 dX12_mostOf_0 rfl (lv_at hl 0 rfl) ?_
  refine lv_bipush (v := 115) X.1 X.2.1 dX12_mostOf_1 (by decide +kernel) ?_
  refine lv_icmp_eq (tgt := 9) X.1 X.2.1 dX12_mostOf_3 (by decide) (fun c1 => ?_) (fun c1 => ?_)
  · refine lv_iload_n X.1 X.2.1 dX12_mostOf_9 rfl (lv_at hl 1 rfl) ?_
    refine lv_if_ne (tgt := 18) X.1 X.2.1 dX12_mostOf_10 (by decide) (fun c2 => ?_) (fun c2 => ?_)
    · refine lv_iload_n X.1 X.2.1 dX12_mostOf_18 rfl (lv_at hl 1 rfl) ?_
      refine lv_iconst (v := 1) X.1 X.2.1 dX12_mostOf_19 (by decide +kernel) ?_
      have B4_33 : ∀ (locs : List Loc) (ls : Array Slot), va_S (fun _ : Nat => False) s.heap s.heap locs → lv_has ls 2 [] → W p l e (headSpec (Cond.code yX12_mostOf cX12_mostOf 2 (some .int) :: sg_tbl) ({ frames := 0, cells := 0, slots := 0, locals := 0 })).room s m #[.int x0, .int x1] below meth c s.heap locs 0 0 (MQ below (va_Qi (fun r (_ : Unit) => (fun r : Int32 => True) r) (fun _ t => t.heap = s.heap) (fun _ : Nat => False)) #[.int x0, .int x1] s 0 0 (fun _ : Nat => False)) (F0 m 33 ls []) := by
        intro locs ls hS hl
        refine lv_iconst (v := 5) X.1 X.2.1 dX12_mostOf_33 (by decide +kernel) ?_
        refine lv_goto (tgt := 49) X.1 X.2.1 dX12_mostOf_34 (by decide) ?_
        exact sg_iretP X hr hlk hS trivial dX12_mostOf_49
      refine lv_icmp_eq (tgt := 33) X.1 X.2.1 dX12_mostOf_20 (by decide) (fun c3 => ?_) (fun c3 => ?_)
      · exact B4_33 _ _ hS (lv_sub hl [] rfl)
      · refine lv_iload_n X.1 X.2.1 dX12_mostOf_23 rfl (lv_at hl 1 rfl) ?_
        refine lv_iconst (v := 2) X.1 X.2.1 dX12_mostOf_24 (by decide +kernel) ?_
        refine lv_icmp_eq (tgt := 33) X.1 X.2.1 dX12_mostOf_25 (by decide) (fun c5 => ?_) (fun c5 => ?_)
        · exact B4_33 _ _ hS (lv_sub hl [] rfl)
        · refine lv_iload_n X.1 X.2.1 dX12_mostOf_28 rfl (lv_at hl 1 rfl) ?_
          refine lv_iconst (v := 3) X.1 X.2.1 dX12_mostOf_29 (by decide +kernel) ?_
          refine lv_icmp_ne (tgt := 37) X.1 X.2.1 dX12_mostOf_30 (by decide) (fun c6 => ?_) (fun c6 => ?_)
          · refine lv_iload_n X.1 X.2.1 dX12_mostOf_37 rfl (lv_at hl 1 rfl) ?_
            refine lv_bipush (v := 6) X.1 X.2.1 dX12_mostOf_38 (by decide +kernel) ?_
            refine lv_icmp_ne (tgt := 47) X.1 X.2.1 dX12_mostOf_40 (by decide) (fun c7 => ?_) (fun c7 => ?_)
            · refine lv_bipush (v := 8) X.1 X.2.1 dX12_mostOf_47 (by decide +kernel) ?_
              exact sg_iretP X hr hlk hS trivial dX12_mostOf_49
            · refine lv_iconst (v := 1) X.1 X.2.1 dX12_mostOf_43 (by decide +kernel) ?_
              refine lv_goto (tgt := 49) X.1 X.2.1 dX12_mostOf_44 (by decide) ?_
              exact sg_iretP X hr hlk hS trivial dX12_mostOf_49
          · exact B4_33 _ _ hS (lv_sub hl [] rfl)
    · refine lv_bipush (v := 6) X.1 X.2.1 dX12_mostOf_13 (by decide +kernel) ?_
      refine lv_goto (tgt := 49) X.1 X.2.1 dX12_mostOf_15 (by decide) ?_
      exact sg_iretP X hr hlk hS trivial dX12_mostOf_49
  · refine lv_bipush (v := 29) X.1 X.2.1 dX12_mostOf_6 (by decide +kernel) ?_
    exact sg_iretP X hr hlk hS trivial dX12_mostOf_8

theorem ca_X12_mostOf   (X : CallFix p m c cc nL s args sg_tbl own) (hK : va_K D vwCl tys s) (hG : sgG (KT P) D vwCl (fun q : Nat => base ≤ q) tys ad ks H) (hC : sgC base s) (hA : ∀ q : Nat, A q → base ≤ q) (hS : va_S A s.heap H locs) (hb : base ≤ s.heap.size) (x0 : Int32) (x1 : Int32) (hl : Cond.methodLink own index yX12_mostOf ∈ sg_tbl) (hsize : ls.size = nL) (hst : st0 = [.int x0, .int x1].reverse ++ rest) (hW : (rest.map fun v => v.category).sum ≤ 8) (hR : 1 ≤ R.frames ∧ 21 ≤ R.locals) (hf : cells ≤ R.cells ∧ slots ≤ R.slots) (hdg : decode cc pc = .ok (.invokestatic index, 3)) (kk : ∀ (r : Int32) (locs1 : List Loc), (fun r : Int32 => True) r → va_S A s.heap H locs1 → W p l e R s m args below meth c H locs1 cells slots Q (F0 m (pc + 3) ls (.int r :: rest))) : W p l e R s m args below meth c H locs cells slots Q (F0 m pc ls st0) :=
  sg_callPSi X hK hG hC hA hS hb (m_X12_mostOf l x0 x1) wl_7_182 wl_1_13 wl_7_181 (n := 2) (by decide +kernel) rfl rfl rfl hl hsize hst hW hR hf hdg kk

set_option maxHeartbeats 8000000 in
set_option maxRecDepth 100000 in
theorem m_X12_leastOf (l : Launch) {D : va_G} {base : Nat} {tys : List (ClassId × FieldType)} {ad ks : List Nat} {P : sgPm} {Hx : Heap} (x0 : Int32) (x1 : Int32) : sgPi l (KT P) D vwCl base tys ad ks Hx yX12_leastOf cX12_leastOf 2 (some .int) ({ frames := 0, cells := 0, slots := 0, locals := 0 }) [.int x0, .int x1] (fun r : Int32 => True) := by
  refine sg_ofP (Pq := fun Hx => va_Qi (fun r (_ : Unit) => (fun r : Int32 => True) r) (fun _ t => t.heap = Hx) (fun _ : Nat => False)) (by decide +kernel) (Nat.le_of_ble_eq_true rfl) (fun p e s m below meth c X hr hlk hb hK hC hG ls hl => ?_)
  have hS : va_S (fun _ : Nat => False) s.heap s.heap [] := va_S.rf
  have hl : lv_has ls 2 [(0, .int x0), (1, .int x1)] := hl
  refine lv_iload_n X.1 X.2.1 dX12_leastOf_0 rfl (lv_at hl 0 rfl) ?_
  refine lv_bipush (v := 115) X.1 X.2.1 dX12_leastOf_1 (by decide +kernel) ?_
  have B2_24 : ∀ (locs : List Loc) (ls : Array Slot), va_S (fun _ : Nat => False) s.heap s.heap locs → lv_has ls 2 [] → W p l e (headSpec (Cond.code yX12_leastOf cX12_leastOf 2 (some .int) :: sg_tbl) ({ frames := 0, cells := 0, slots := 0, locals := 0 })).room s m #[.int x0, .int x1] below meth c s.heap locs 0 0 (MQ below (va_Qi (fun r (_ : Unit) => (fun r : Int32 => True) r) (fun _ t => t.heap = s.heap) (fun _ : Nat => False)) #[.int x0, .int x1] s 0 0 (fun _ : Nat => False)) (F0 m 24 ls []) := by
    intro locs ls hS hl
    refine lv_iconst (v := 0) X.1 X.2.1 dX12_leastOf_24 (by decide +kernel) ?_
    exact sg_iretP X hr hlk hS trivial dX12_leastOf_25
  refine lv_icmp_ne (tgt := 24) X.1 X.2.1 dX12_leastOf_3 (by decide) (fun c1 => ?_) (fun c1 => ?_)
  · exact B2_24 _ _ hS (lv_sub hl [] rfl)
  · refine lv_iload_n X.1 X.2.1 dX12_leastOf_6 rfl (lv_at hl 1 rfl) ?_
    refine lv_iconst (v := 4) X.1 X.2.1 dX12_leastOf_7 (by decide +kernel) ?_
    refine lv_icmp_ge (tgt := 24) X.1 X.2.1 dX12_leastOf_8 (by decide) (fun c3 => ?_) (fun c3 => ?_)
    · exact B2_24 _ _ hS (lv_sub hl [] rfl)
    · refine lv_iload_n X.1 X.2.1 dX12_leastOf_11 rfl (lv_at hl 1 rfl) ?_
      refine lv_iconst (v := 2) X.1 X.2.1 dX12_leastOf_12 (by decide +kernel) ?_
      refine lv_icmp_ne (tgt := 20) X.1 X.2.1 dX12_leastOf_13 (by decide) (fun c4 => ?_) (fun c4 => ?_)
      · refine lv_iconst (v := 1) X.1 X.2.1 dX12_leastOf_20 (by decide +kernel) ?_
        refine lv_goto (tgt := 25) X.1 X.2.1 dX12_leastOf_21 (by decide) ?_
        exact sg_iretP X hr hlk hS trivial dX12_leastOf_25
      · refine lv_iconst (v := 2) X.1 X.2.1 dX12_leastOf_16 (by decide +kernel) ?_
        refine lv_goto (tgt := 25) X.1 X.2.1 dX12_leastOf_17 (by decide) ?_
        exact sg_iretP X hr hlk hS trivial dX12_leastOf_25

theorem ca_X12_leastOf   (X : CallFix p m c cc nL s args sg_tbl own) (hK : va_K D vwCl tys s) (hG : sgG (KT P) D vwCl (fun q : Nat => base ≤ q) tys ad ks H) (hC : sgC base s) (hA : ∀ q : Nat, A q → base ≤ q) (hS : va_S A s.heap H locs) (hb : base ≤ s.heap.size) (x0 : Int32) (x1 : Int32) (hl : Cond.methodLink own index yX12_leastOf ∈ sg_tbl) (hsize : ls.size = nL) (hst : st0 = [.int x0, .int x1].reverse ++ rest) (hW : (rest.map fun v => v.category).sum ≤ 8) (hR : 1 ≤ R.frames ∧ 21 ≤ R.locals) (hf : cells ≤ R.cells ∧ slots ≤ R.slots) (hdg : decode cc pc = .ok (.invokestatic index, 3)) (kk : ∀ (r : Int32) (locs1 : List Loc), (fun r : Int32 => True) r → va_S A s.heap H locs1 → W p l e R s m args below meth c H locs1 cells slots Q (F0 m (pc + 3) ls (.int r :: rest))) : W p l e R s m args below meth c H locs cells slots Q (F0 m pc ls st0) :=
  sg_callPSi X hK hG hC hA hS hb (m_X12_leastOf l x0 x1) wl_7_179 wl_1_13 wl_7_178 (n := 2) (by decide +kernel) rfl rfl rfl hl hsize hst hW hR hf hdg kk

set_option maxHeartbeats 8000000 in
set_option maxRecDepth 100000 in
theorem m_X12_usual (l : Launch) {D : va_G} {base : Nat} {tys : List (ClassId × FieldType)} {ad ks : List Nat} {P : sgPm} {Hx : Heap} (x0 : Int32) (x1 : Int32) : sgPi l (KT P) D vwCl base tys ad ks Hx yX12_usual cX12_usual 2 (some .int) ({ frames := 0, cells := 0, slots := 0, locals := 0 }) [.int x0, .int x1] (fun r : Int32 => True) := by
  refine sg_ofP (Pq := fun Hx => va_Qi (fun r (_ : Unit) => (fun r : Int32 => True) r) (fun _ t => t.heap = Hx) (fun _ : Nat => False)) (by decide +kernel) (Nat.le_of_ble_eq_true rfl) (fun p e s m below meth c X hr hlk hb hK hC hG ls hl => ?_)
  have hS : va_S (fun _ : Nat => False) s.heap s.heap [] := va_S.rf
  have hl : lv_has ls 2 [(0, .int x0), (1, .int x1)] := hl
  refine lv_iload_n X.1 X.2.1 dX12_usual_0 rfl (lv_at hl 0 rfl) ?_
  refine lv_bipush (v := 115) X.1 X.2.1 dX12_usual_1 (by decide +kernel) ?_
  refine lv_icmp_eq (tgt := 8) X.1 X.2.1 dX12_usual_3 (by decide) (fun c1 => ?_) (fun c1 => ?_)
  · refine lv_iload_n X.1 X.2.1 dX12_usual_8 rfl (lv_at hl 1 rfl) ?_
    refine lv_if_ne (tgt := 16) X.1 X.2.1 dX12_usual_9 (by decide) (fun c2 => ?_) (fun c2 => ?_)
    · refine lv_iload_n X.1 X.2.1 dX12_usual_16 rfl (lv_at hl 1 rfl) ?_
      refine lv_iconst (v := 1) X.1 X.2.1 dX12_usual_17 (by decide +kernel) ?_
      refine lv_icmp_ne (tgt := 25) X.1 X.2.1 dX12_usual_18 (by decide) (fun c3 => ?_) (fun c3 => ?_)
      · refine lv_iload_n X.1 X.2.1 dX12_usual_25 rfl (lv_at hl 1 rfl) ?_
        refine lv_iconst (v := 2) X.1 X.2.1 dX12_usual_26 (by decide +kernel) ?_
        refine lv_icmp_ne (tgt := 34) X.1 X.2.1 dX12_usual_27 (by decide) (fun c4 => ?_) (fun c4 => ?_)
        · refine lv_iload_n X.1 X.2.1 dX12_usual_34 rfl (lv_at hl 1 rfl) ?_
          refine lv_iconst (v := 3) X.1 X.2.1 dX12_usual_35 (by decide +kernel) ?_
          refine lv_icmp_ne (tgt := 43) X.1 X.2.1 dX12_usual_36 (by decide) (fun c5 => ?_) (fun c5 => ?_)
          · refine lv_iload_n X.1 X.2.1 dX12_usual_43 rfl (lv_at hl 1 rfl) ?_
            refine lv_iconst (v := 5) X.1 X.2.1 dX12_usual_44 (by decide +kernel) ?_
            refine lv_icmp_ne (tgt := 53) X.1 X.2.1 dX12_usual_45 (by decide) (fun c6 => ?_) (fun c6 => ?_)
            · refine lv_iconst (v := 0) X.1 X.2.1 dX12_usual_53 (by decide +kernel) ?_
              exact sg_iretP X hr hlk hS trivial dX12_usual_54
            · refine lv_bipush (v := 8) X.1 X.2.1 dX12_usual_48 (by decide +kernel) ?_
              refine lv_goto (tgt := 54) X.1 X.2.1 dX12_usual_50 (by decide) ?_
              exact sg_iretP X hr hlk hS trivial dX12_usual_54
          · refine lv_iconst (v := 2) X.1 X.2.1 dX12_usual_39 (by decide +kernel) ?_
            refine lv_goto (tgt := 54) X.1 X.2.1 dX12_usual_40 (by decide) ?_
            exact sg_iretP X hr hlk hS trivial dX12_usual_54
        · refine lv_iconst (v := 3) X.1 X.2.1 dX12_usual_30 (by decide +kernel) ?_
          refine lv_goto (tgt := 54) X.1 X.2.1 dX12_usual_31 (by decide) ?_
          exact sg_iretP X hr hlk hS trivial dX12_usual_54
      · refine lv_iconst (v := 4) X.1 X.2.1 dX12_usual_21 (by decide +kernel) ?_
        refine lv_goto (tgt := 54) X.1 X.2.1 dX12_usual_22 (by decide) ?_
        exact sg_iretP X hr hlk hS trivial dX12_usual_54
    · refine lv_iconst (v := 5) X.1 X.2.1 dX12_usual_12 (by decide +kernel) ?_
      refine lv_goto (tgt := 54) X.1 X.2.1 dX12_usual_13 (by decide) ?_
      exact sg_iretP X hr hlk hS trivial dX12_usual_54
  · refine lv_iconst (v := 0) X.1 X.2.1 dX12_usual_6 (by decide +kernel) ?_
    exact sg_iretP X hr hlk hS trivial dX12_usual_7

theorem ca_X12_usual   (X : CallFix p m c cc nL s args sg_tbl own) (hK : va_K D vwCl tys s) (hG : sgG (KT P) D vwCl (fun q : Nat => base ≤ q) tys ad ks H) (hC : sgC base s) (hA : ∀ q : Nat, A q → base ≤ q) (hS : va_S A s.heap H locs) (hb : base ≤ s.heap.size) (x0 : Int32) (x1 : Int32) (hl : Cond.methodLink own index yX12_usual ∈ sg_tbl) (hsize : ls.size = nL) (hst : st0 = [.int x0, .int x1].reverse ++ rest) (hW : (rest.map fun v => v.category).sum ≤ 8) (hR : 1 ≤ R.frames ∧ 21 ≤ R.locals) (hf : cells ≤ R.cells ∧ slots ≤ R.slots) (hdg : decode cc pc = .ok (.invokestatic index, 3)) (kk : ∀ (r : Int32) (locs1 : List Loc), (fun r : Int32 => True) r → va_S A s.heap H locs1 → W p l e R s m args below meth c H locs1 cells slots Q (F0 m (pc + 3) ls (.int r :: rest))) : W p l e R s m args below meth c H locs cells slots Q (F0 m pc ls st0) :=
  sg_callPSi X hK hG hC hA hS hb (m_X12_usual l x0 x1) wl_7_132 wl_1_13 wl_7_131 (n := 2) (by decide +kernel) rfl rfl rfl hl hsize hst hW hR hf hdg kk

set_option maxHeartbeats 8000000 in
set_option maxRecDepth 100000 in
theorem m_X12_canGrow_0 (l : Launch) {D : va_G} {base : Nat} {tys : List (ClassId × FieldType)} {ad ks : List Nat} {P : sgPm} (hp4 : P.2.2.2.2.1 = false) (a0 : Nat) (h0 : isK ad ks 12 a0) (a1 : Nat) (h1 : isK ad ks 54 a1) (x2 : Int32) : sgMi l (KT P) D vwCl base tys ad ks yX12_canGrow cX12_canGrow 3 (some .boolean) ({ frames := 1, cells := 0, slots := 0, locals := 21 }) [.ref a0, .ref a1, .int x2] (fun r : Int32 => iv 0 0 r) := by
  refine sg_ofW (by decide +kernel) (Nat.le_of_ble_eq_true rfl) (fun p e s m below meth c X hr hlk hb hK hC hG ls hl => ?_)
  have hS : va_S (fun q : Nat => base ≤ q) s.heap s.heap [] := va_S.rf
  have hl : lv_has ls 3 [(0, .ref a0), (1, .ref a1), (2, .int x2)] := hl
  refine lv_aload_n X.1 X.2.1 dX12_canGrow_0 rfl (lv_at hl 0 rfl) ?_
  refine lv_aload_n X.1 X.2.1 dX12_canGrow_1 rfl (lv_at hl 1 rfl) ?_
  refine ca_X12_isOpen_0 X hK hG hC (fun _ h => h) hS hb hp4 a0 h0 a1 h1 wl_8_94 hl.1 (rest := []) rfl (Nat.le_of_ble_eq_true rfl) ⟨Nat.le_of_ble_eq_true rfl, Nat.le_of_ble_eq_true rfl⟩ ⟨Nat.le_of_ble_eq_true rfl, Nat.le_of_ble_eq_true rfl⟩ dX12_canGrow_2 (fun f1 locs hf1 hS => ?_)
  have B3_43 : ∀ (H : Heap) (locs : List Loc) (ls : Array Slot), sgG (KT P) D vwCl (fun q : Nat => base ≤ q) tys ad ks H → va_S (fun q : Nat => base ≤ q) s.heap H locs → lv_has ls 3 [] → W p l e (headSpec (Cond.code yX12_canGrow cX12_canGrow 3 (some .boolean) :: sg_tbl) ({ frames := 1, cells := 0, slots := 0, locals := 21 })).room s m #[.ref a0, .ref a1, .int x2] below meth c H locs 0 0 (MQ below (va_Qi (fun r (_ : Unit) => (fun r : Int32 => iv 0 0 r) r) (fun _ => sgB (KT P) D vwCl base tys ad ks) (fun q : Nat => base ≤ q)) #[.ref a0, .ref a1, .int x2] s 0 0 (fun q : Nat => base ≤ q)) (F0 m 43 ls []) := by
    intro H locs ls hG hS hl
    refine lv_iconst (v := 0) X.1 X.2.1 dX12_canGrow_43 (by decide +kernel) ?_
    exact sg_zret X hr (sg_zn (iv_of (iv_c 0 (a := 0) (b := 0) (by decide +kernel)) (a' := 0) (b' := 1) (by decide +kernel))) hlk hb hK hC hG hS (iv_c 0 (a := 0) (b := 0) (by decide +kernel)) dX12_canGrow_44
  refine lv_if_eq (tgt := 43) X.1 X.2.1 dX12_canGrow_5 (by decide) (fun c2 => ?_) (fun c2 => ?_)
  · exact B3_43 s.heap _ _ hG hS (lv_sub hl [] rfl)
  · exact ((c2 (iv_one hf1 (iv_c 0 (a := 0) (b := 0) (by decide +kernel)) (by decide +kernel)))).elim

theorem ca_X12_canGrow_0   (X : CallFix p m c cc nL s args sg_tbl own) (hK : va_K D vwCl tys s) (hG : sgG (KT P) D vwCl (fun q : Nat => base ≤ q) tys ad ks H) (hC : sgC base s) (hS : va_S (fun q : Nat => base ≤ q) s.heap H locs) (hb : base ≤ s.heap.size) (hp4 : P.2.2.2.2.1 = false) (a0 : Nat) (h0 : isK ad ks 12 a0) (a1 : Nat) (h1 : isK ad ks 54 a1) (x2 : Int32) (hl : Cond.methodLink own index yX12_canGrow ∈ sg_tbl) (hsize : ls.size = nL) (hst : st0 = [.ref a1, .int x2].reverse ++ .ref a0 :: rest) (hW : (rest.map fun v => v.category).sum ≤ 8) (hR : 2 ≤ R.frames ∧ 43 ≤ R.locals) (hf : cells ≤ R.cells ∧ slots ≤ R.slots) (hdg : decode cc pc = .ok (.invokevirtual index, 3)) (kk : ∀ (r : Int32) (H1 : Heap) (locs1 : List Loc), (fun r : Int32 => iv 0 0 r) r → sgG (KT P) D vwCl (fun q : Nat => base ≤ q) tys ad ks H1 → va_S (fun q : Nat => base ≤ q) s.heap H1 locs1 → W p l e R s m args below meth c H1 locs1 cells slots Q (F0 m (pc + 3) ls (.int r :: rest))) : W p l e R s m args below meth c H locs cells slots Q (F0 m pc ls st0) :=
  sg_callVi X hK hG hC hS hb (m_X12_canGrow_0 l hp4 a0 h0 a1 h1 x2) h0 (k := 12) (ci := 12) rfl (C := RX12) (T := TX12) (N := 53) rfl wl_8_93 wl_1_13 wl_8_92 wl_0_76 (n := 2) (by decide +kernel) rfl rfl rfl hl hsize hst hW hR hf hdg kk

set_option maxHeartbeats 8000000 in
set_option maxRecDepth 100000 in
theorem m_X12_canCut_0 (l : Launch) {D : va_G} {base : Nat} {tys : List (ClassId × FieldType)} {ad ks : List Nat} {P : sgPm} (hp4 : P.2.2.2.2.1 = false) (a0 : Nat) (h0 : isK ad ks 12 a0) (a1 : Nat) (h1 : isK ad ks 54 a1) (x2 : Int32) (x3 : Int32) (x4 : Int32) : sgMi l (KT P) D vwCl base tys ad ks yX12_canCut cX12_canCut 5 (some .boolean) ({ frames := 1, cells := 0, slots := 0, locals := 21 }) [.ref a0, .ref a1, .int x2, .int x3, .int x4] (fun r : Int32 => iv 0 0 r) := by
  refine sg_ofW (by decide +kernel) (Nat.le_of_ble_eq_true rfl) (fun p e s m below meth c X hr hlk hb hK hC hG ls hl => ?_)
  have hS : va_S (fun q : Nat => base ≤ q) s.heap s.heap [] := va_S.rf
  have hl : lv_has ls 5 [(0, .ref a0), (1, .ref a1), (2, .int x2), (3, .int x3), (4, .int x4)] := hl
  refine lv_aload_n X.1 X.2.1 dX12_canCut_0 rfl (lv_at hl 0 rfl) ?_
  refine lv_aload_n X.1 X.2.1 dX12_canCut_1 rfl (lv_at hl 1 rfl) ?_
  refine ca_X12_isOpen_0 X hK hG hC (fun _ h => h) hS hb hp4 a0 h0 a1 h1 wl_8_94 hl.1 (rest := []) rfl (Nat.le_of_ble_eq_true rfl) ⟨Nat.le_of_ble_eq_true rfl, Nat.le_of_ble_eq_true rfl⟩ ⟨Nat.le_of_ble_eq_true rfl, Nat.le_of_ble_eq_true rfl⟩ dX12_canCut_2 (fun f1 locs hf1 hS => ?_)
  have B3_34 : ∀ (locs : List Loc) (ls : Array Slot), va_S (fun q : Nat => base ≤ q) s.heap s.heap locs → lv_has ls 5 [] → W p l e (headSpec (Cond.code yX12_canCut cX12_canCut 5 (some .boolean) :: sg_tbl) ({ frames := 1, cells := 0, slots := 0, locals := 21 })).room s m #[.ref a0, .ref a1, .int x2, .int x3, .int x4] below meth c s.heap locs 0 0 (MQ below (va_Qi (fun r (_ : Unit) => (fun r : Int32 => iv 0 0 r) r) (fun _ => sgB (KT P) D vwCl base tys ad ks) (fun q : Nat => base ≤ q)) #[.ref a0, .ref a1, .int x2, .int x3, .int x4] s 0 0 (fun q : Nat => base ≤ q)) (F0 m 34 ls []) := by
    intro locs ls hS hl
    refine lv_iconst (v := 0) X.1 X.2.1 dX12_canCut_34 (by decide +kernel) ?_
    exact sg_zret X hr (sg_zn (iv_of (iv_c 0 (a := 0) (b := 0) (by decide +kernel)) (a' := 0) (b' := 1) (by decide +kernel))) hlk hb hK hC hG hS (iv_c 0 (a := 0) (b := 0) (by decide +kernel)) dX12_canCut_35
  refine lv_if_eq (tgt := 34) X.1 X.2.1 dX12_canCut_5 (by decide) (fun c2 => ?_) (fun c2 => ?_)
  · exact B3_34 _ _ hS (lv_sub hl [] rfl)
  · exact ((c2 (iv_one hf1 (iv_c 0 (a := 0) (b := 0) (by decide +kernel)) (by decide +kernel)))).elim

theorem ca_X12_canCut_0   (X : CallFix p m c cc nL s args sg_tbl own) (hK : va_K D vwCl tys s) (hG : sgG (KT P) D vwCl (fun q : Nat => base ≤ q) tys ad ks H) (hC : sgC base s) (hS : va_S (fun q : Nat => base ≤ q) s.heap H locs) (hb : base ≤ s.heap.size) (hp4 : P.2.2.2.2.1 = false) (a0 : Nat) (h0 : isK ad ks 12 a0) (a1 : Nat) (h1 : isK ad ks 54 a1) (x2 : Int32) (x3 : Int32) (x4 : Int32) (hl : Cond.methodLink own index yX12_canCut ∈ sg_tbl) (hsize : ls.size = nL) (hst : st0 = [.ref a1, .int x2, .int x3, .int x4].reverse ++ .ref a0 :: rest) (hW : (rest.map fun v => v.category).sum ≤ 8) (hR : 2 ≤ R.frames ∧ 45 ≤ R.locals) (hf : cells ≤ R.cells ∧ slots ≤ R.slots) (hdg : decode cc pc = .ok (.invokevirtual index, 3)) (kk : ∀ (r : Int32) (H1 : Heap) (locs1 : List Loc), (fun r : Int32 => iv 0 0 r) r → sgG (KT P) D vwCl (fun q : Nat => base ≤ q) tys ad ks H1 → va_S (fun q : Nat => base ≤ q) s.heap H1 locs1 → W p l e R s m args below meth c H1 locs1 cells slots Q (F0 m (pc + 3) ls (.int r :: rest))) : W p l e R s m args below meth c H locs cells slots Q (F0 m pc ls st0) :=
  sg_callVi X hK hG hC hS hb (m_X12_canCut_0 l hp4 a0 h0 a1 h1 x2 x3 x4) h0 (k := 12) (ci := 12) rfl (C := RX12) (T := TX12) (N := 53) rfl wl_8_120 wl_1_13 wl_8_119 wl_0_81 (n := 4) (by decide +kernel) rfl rfl rfl hl hsize hst hW hR hf hdg kk

set_option maxHeartbeats 8000000 in
set_option maxRecDepth 100000 in
theorem m_X12_canDig_0 (l : Launch) {D : va_G} {base : Nat} {tys : List (ClassId × FieldType)} {ad ks : List Nat} {P : sgPm} (hp4 : P.2.2.2.2.1 = false) (a0 : Nat) (h0 : isK ad ks 12 a0) (a1 : Nat) (h1 : isK ad ks 54 a1) (x2 : Int32) : sgMi l (KT P) D vwCl base tys ad ks yX12_canDig cX12_canDig 3 (some .boolean) ({ frames := 1, cells := 0, slots := 0, locals := 21 }) [.ref a0, .ref a1, .int x2] (fun r : Int32 => iv 0 0 r) := by
  refine sg_ofW (by decide +kernel) (Nat.le_of_ble_eq_true rfl) (fun p e s m below meth c X hr hlk hb hK hC hG ls hl => ?_)
  have hS : va_S (fun q : Nat => base ≤ q) s.heap s.heap [] := va_S.rf
  have hl : lv_has ls 3 [(0, .ref a0), (1, .ref a1), (2, .int x2)] := hl
  refine lv_aload_n X.1 X.2.1 dX12_canDig_0 rfl (lv_at hl 0 rfl) ?_
  refine lv_aload_n X.1 X.2.1 dX12_canDig_1 rfl (lv_at hl 1 rfl) ?_
  refine ca_X12_isOpen_0 X hK hG hC (fun _ h => h) hS hb hp4 a0 h0 a1 h1 wl_8_94 hl.1 (rest := []) rfl (Nat.le_of_ble_eq_true rfl) ⟨Nat.le_of_ble_eq_true rfl, Nat.le_of_ble_eq_true rfl⟩ ⟨Nat.le_of_ble_eq_true rfl, Nat.le_of_ble_eq_true rfl⟩ dX12_canDig_2 (fun f1 locs hf1 hS => ?_)
  have B3_35 : ∀ (locs : List Loc) (ls : Array Slot), va_S (fun q : Nat => base ≤ q) s.heap s.heap locs → lv_has ls 3 [] → W p l e (headSpec (Cond.code yX12_canDig cX12_canDig 3 (some .boolean) :: sg_tbl) ({ frames := 1, cells := 0, slots := 0, locals := 21 })).room s m #[.ref a0, .ref a1, .int x2] below meth c s.heap locs 0 0 (MQ below (va_Qi (fun r (_ : Unit) => (fun r : Int32 => iv 0 0 r) r) (fun _ => sgB (KT P) D vwCl base tys ad ks) (fun q : Nat => base ≤ q)) #[.ref a0, .ref a1, .int x2] s 0 0 (fun q : Nat => base ≤ q)) (F0 m 35 ls []) := by
    intro locs ls hS hl
    refine lv_iconst (v := 0) X.1 X.2.1 dX12_canDig_35 (by decide +kernel) ?_
    exact sg_zret X hr (sg_zn (iv_of (iv_c 0 (a := 0) (b := 0) (by decide +kernel)) (a' := 0) (b' := 1) (by decide +kernel))) hlk hb hK hC hG hS (iv_c 0 (a := 0) (b := 0) (by decide +kernel)) dX12_canDig_36
  refine lv_if_eq (tgt := 35) X.1 X.2.1 dX12_canDig_5 (by decide) (fun c2 => ?_) (fun c2 => ?_)
  · exact B3_35 _ _ hS (lv_sub hl [] rfl)
  · exact ((c2 (iv_one hf1 (iv_c 0 (a := 0) (b := 0) (by decide +kernel)) (by decide +kernel)))).elim

theorem ca_X12_canDig_0   (X : CallFix p m c cc nL s args sg_tbl own) (hK : va_K D vwCl tys s) (hG : sgG (KT P) D vwCl (fun q : Nat => base ≤ q) tys ad ks H) (hC : sgC base s) (hS : va_S (fun q : Nat => base ≤ q) s.heap H locs) (hb : base ≤ s.heap.size) (hp4 : P.2.2.2.2.1 = false) (a0 : Nat) (h0 : isK ad ks 12 a0) (a1 : Nat) (h1 : isK ad ks 54 a1) (x2 : Int32) (hl : Cond.methodLink own index yX12_canDig ∈ sg_tbl) (hsize : ls.size = nL) (hst : st0 = [.ref a1, .int x2].reverse ++ .ref a0 :: rest) (hW : (rest.map fun v => v.category).sum ≤ 8) (hR : 2 ≤ R.frames ∧ 43 ≤ R.locals) (hf : cells ≤ R.cells ∧ slots ≤ R.slots) (hdg : decode cc pc = .ok (.invokevirtual index, 3)) (kk : ∀ (r : Int32) (H1 : Heap) (locs1 : List Loc), (fun r : Int32 => iv 0 0 r) r → sgG (KT P) D vwCl (fun q : Nat => base ≤ q) tys ad ks H1 → va_S (fun q : Nat => base ≤ q) s.heap H1 locs1 → W p l e R s m args below meth c H1 locs1 cells slots Q (F0 m (pc + 3) ls (.int r :: rest))) : W p l e R s m args below meth c H locs cells slots Q (F0 m pc ls st0) :=
  sg_callVi X hK hG hC hS hb (m_X12_canDig_0 l hp4 a0 h0 a1 h1 x2) h0 (k := 12) (ci := 12) rfl (C := RX12) (T := TX12) (N := 53) rfl wl_8_143 wl_1_13 wl_8_142 wl_0_84 (n := 2) (by decide +kernel) rfl rfl rfl hl hsize hst hW hR hf hdg kk

set_option maxHeartbeats 8000000 in
set_option maxRecDepth 100000 in
theorem m_X12_grow_0 (l : Launch) {D : va_G} {base : Nat} {tys : List (ClassId × FieldType)} {ad ks : List Nat} {P : sgPm} (hp4 : P.2.2.2.2.1 = false) (a0 : Nat) (h0 : isK ad ks 12 a0) (x1 : Int32) : sgMi l (KT P) D vwCl base tys ad ks yX12_grow cX12_grow 2 (some .int) ({ frames := 2, cells := 0, slots := 0, locals := 43 }) [.ref a0, .int x1] (fun r : Int32 => True) := by
  refine sg_ofW (by decide +kernel) (Nat.le_of_ble_eq_true rfl) (fun p e s m below meth c X hr hlk hb hK hC hG ls hl => ?_)
  have hS : va_S (fun q : Nat => base ≤ q) s.heap s.heap [] := va_S.rf
  have hl : lv_has ls 2 [(0, .ref a0), (1, .int x1)] := hl
  refine lv_aload_n X.1 X.2.1 dX12_grow_0 rfl (lv_at hl 0 rfl) ?_
  refine lv_iconst (v := 0) X.1 X.2.1 dX12_grow_1 (by decide +kernel) ?_
  refine pf_X12_0 X hK hG hS h0 wl_6_178 ⟨_, rfl, (iv_top _)⟩ dX12_grow_2 (fun H locs hG hS ku1 ru1 => ?_)
  refine lv_aload_n X.1 X.2.1 dX12_grow_5 rfl (lv_at hl 0 rfl) ?_
  refine lv_aload_n X.1 X.2.1 dX12_grow_6 rfl (lv_at hl 0 rfl) ?_
  refine gf_X12_32 X hK hG h0 wl_6_210 dX12_grow_7 (fun q2 hq2 kq2 => ?_)
  refine lv_iload_n X.1 X.2.1 dX12_grow_10 rfl (lv_at hl 1 rfl) ?_
  refine ca_X12_canGrow_0 X hK hG hC hS hb hp4 a0 h0 q2 hq2 x1 wl_8_90 hl.1 (rest := []) rfl (Nat.le_of_ble_eq_true rfl) ⟨Nat.le_of_ble_eq_true rfl, Nat.le_of_ble_eq_true rfl⟩ ⟨Nat.le_of_ble_eq_true rfl, Nat.le_of_ble_eq_true rfl⟩ dX12_grow_11 (fun f3 H locs hf3 hG hS => ?_)
  refine lv_if_ne (tgt := 19) X.1 X.2.1 dX12_grow_14 (by decide) (fun c4 => ?_) (fun c4 => ?_)
  · exact ((c4 (iv_one hf3 (iv_c 0 (a := 0) (b := 0) (by decide +kernel)) (by decide +kernel)))).elim
  · refine lv_iconst (v := (-1)) X.1 X.2.1 dX12_grow_17 (by decide +kernel) ?_
    exact sg_iret X hr hlk hb hK hC hG hS trivial dX12_grow_18

theorem ca_X12_grow_0   (X : CallFix p m c cc nL s args sg_tbl own) (hK : va_K D vwCl tys s) (hG : sgG (KT P) D vwCl (fun q : Nat => base ≤ q) tys ad ks H) (hC : sgC base s) (hS : va_S (fun q : Nat => base ≤ q) s.heap H locs) (hb : base ≤ s.heap.size) (hp4 : P.2.2.2.2.1 = false) (a0 : Nat) (h0 : isK ad ks 12 a0) (x1 : Int32) (hl : Cond.methodLink own index yX12_grow ∈ sg_tbl) (hsize : ls.size = nL) (hst : st0 = [.int x1].reverse ++ .ref a0 :: rest) (hW : (rest.map fun v => v.category).sum ≤ 8) (hR : 3 ≤ R.frames ∧ 64 ≤ R.locals) (hf : cells ≤ R.cells ∧ slots ≤ R.slots) (hdg : decode cc pc = .ok (.invokevirtual index, 3)) (kk : ∀ (r : Int32) (H1 : Heap) (locs1 : List Loc), (fun r : Int32 => True) r → sgG (KT P) D vwCl (fun q : Nat => base ≤ q) tys ad ks H1 → va_S (fun q : Nat => base ≤ q) s.heap H1 locs1 → W p l e R s m args below meth c H1 locs1 cells slots Q (F0 m (pc + 3) ls (.int r :: rest))) : W p l e R s m args below meth c H locs cells slots Q (F0 m pc ls st0) :=
  sg_callVi X hK hG hC hS hb (m_X12_grow_0 l hp4 a0 h0 x1) h0 (k := 12) (ci := 12) rfl (C := RX12) (T := TX12) (N := 53) rfl wl_8_89 wl_1_13 wl_8_87 wl_8_88 (n := 1) (by decide +kernel) rfl rfl rfl hl hsize hst hW hR hf hdg kk
end
