abbrev cX12_alike : ByteArray := prog_14_method_119_code
def yX12_alike : MethodName := ⟨RX12, "alike", "(I)I"⟩
abbrev cX12_codeOf : ByteArray := prog_14_method_87_code
def yX12_codeOf : MethodName := ⟨RX12, "codeOf", "(II)I"⟩
abbrev cX12_cutBits : ByteArray := prog_14_method_61_code
def yX12_cutBits : MethodName := ⟨RX12, "cutBits", "(IIII)I"⟩
abbrev cX12_draw : ByteArray := prog_14_method_70_code
def yX12_draw : MethodName := ⟨RX12, "draw", "(I)I"⟩
abbrev cX12_fits : ByteArray := prog_14_method_113_code
def yX12_fits : MethodName := ⟨RX12, "fits", "(II)Z"⟩
abbrev cX12_gathered : ByteArray := prog_14_method_104_code
def yX12_gathered : MethodName := ⟨RX12, "gathered", "(I)I"⟩
abbrev cX12_isGame : ByteArray := prog_14_method_76_code
def yX12_isGame : MethodName := ⟨RX12, "isGame", "(I)Z"⟩
abbrev cX12_isGrass : ByteArray := prog_14_method_111_code
def yX12_isGrass : MethodName := ⟨RX12, "isGrass", "(I)Z"⟩
abbrev cX12_partAt : ByteArray := prog_14_method_101_code
def yX12_partAt : MethodName := ⟨RX12, "partAt", "(I)I"⟩
abbrev cX12_partOf : ByteArray := prog_14_method_100_code
def yX12_partOf : MethodName := ⟨RX12, "partOf", "(I)I"⟩
abbrev cX12_spread : ByteArray := prog_14_method_103_code
def yX12_spread : MethodName := ⟨RX12, "spread", "(I)I"⟩
abbrev cX12_turned : ByteArray := prog_14_method_117_code
def yX12_turned : MethodName := ⟨RX12, "turned", "(II)I"⟩
abbrev cX12_turnedSet : ByteArray := prog_14_method_118_code
def yX12_turnedSet : MethodName := ⟨RX12, "turnedSet", "(II)I"⟩
abbrev cX12_without : ByteArray := prog_14_method_88_code
def yX12_without : MethodName := ⟨RX12, "without", "(II)I"⟩
theorem dX12_alike_0 : decode cX12_alike 0 = .ok (.aload_n 0, 1) := by decide +kernel
theorem dX12_alike_1 : decode cX12_alike 1 = .ok (.iconst 0, 1) := by decide +kernel
theorem dX12_alike_2 : decode cX12_alike 2 = .ok (.putfield 94, 3) := by decide +kernel
theorem dX12_alike_5 : decode cX12_alike 5 = .ok (.aload_n 0, 1) := by decide +kernel
theorem dX12_alike_6 : decode cX12_alike 6 = .ok (.getfield 302, 3) := by decide +kernel
theorem dX12_alike_9 : decode cX12_alike 9 = .ok (.ifCond .eq 13, 3) := by decide +kernel
theorem dX12_alike_12 : decode cX12_alike 12 = .ok (.iload_n 1, 1) := by decide +kernel
theorem dX12_alike_13 : decode cX12_alike 13 = .ok (.i2l, 1) := by decide +kernel
theorem dX12_alike_14 : decode cX12_alike 14 = .ok (.lconst 0, 1) := by decide +kernel
theorem dX12_alike_15 : decode cX12_alike 15 = .ok (.lconst 1, 1) := by decide +kernel
theorem dX12_alike_16 : decode cX12_alike 16 = .ok (.invokestatic 215, 3) := by decide +kernel
theorem dX12_alike_19 : decode cX12_alike 19 = .ok (.ifCond .ne 5, 3) := by decide +kernel
theorem dX12_alike_22 : decode cX12_alike 22 = .ok (.iconst (-1), 1) := by decide +kernel
theorem dX12_alike_23 : decode cX12_alike 23 = .ok (.ireturn, 1) := by decide +kernel
theorem dX12_alike_24 : decode cX12_alike 24 = .ok (.iconst 0, 1) := by decide +kernel
theorem dX12_alike_25 : decode cX12_alike 25 = .ok (.istore_n 2, 1) := by decide +kernel
theorem dX12_alike_26 : decode cX12_alike 26 = .ok (.aload_n 0, 1) := by decide +kernel
theorem dX12_alike_27 : decode cX12_alike 27 = .ok (.getfield 52, 3) := by decide +kernel
theorem dX12_alike_30 : decode cX12_alike 30 = .ok (.iconst 0, 1) := by decide +kernel
theorem dX12_alike_31 : decode cX12_alike 31 = .ok (.iaload, 1) := by decide +kernel
theorem dX12_alike_32 : decode cX12_alike 32 = .ok (.istore_n 3, 1) := by decide +kernel
theorem dX12_alike_33 : decode cX12_alike 33 = .ok (.iconst 0, 1) := by decide +kernel
theorem dX12_alike_34 : decode cX12_alike 34 = .ok (.istore 4, 2) := by decide +kernel
theorem dX12_alike_36 : decode cX12_alike 36 = .ok (.iload 4, 2) := by decide +kernel
theorem dX12_alike_38 : decode cX12_alike 38 = .ok (.aload_n 0, 1) := by decide +kernel
theorem dX12_alike_39 : decode cX12_alike 39 = .ok (.invokevirtual 525, 3) := by decide +kernel
theorem dX12_alike_42 : decode cX12_alike 42 = .ok (.if_icmp .ge 49, 3) := by decide +kernel
theorem dX12_alike_45 : decode cX12_alike 45 = .ok (.aload_n 0, 1) := by decide +kernel
theorem dX12_alike_46 : decode cX12_alike 46 = .ok (.aload_n 0, 1) := by decide +kernel
theorem dX12_alike_47 : decode cX12_alike 47 = .ok (.getfield 52, 3) := by decide +kernel
theorem dX12_alike_50 : decode cX12_alike 50 = .ok (.iconst 0, 1) := by decide +kernel
theorem dX12_alike_51 : decode cX12_alike 51 = .ok (.iaload, 1) := by decide +kernel
theorem dX12_alike_52 : decode cX12_alike 52 = .ok (.iload 4, 2) := by decide +kernel
theorem dX12_alike_54 : decode cX12_alike 54 = .ok (.invokevirtual 528, 3) := by decide +kernel
theorem dX12_alike_57 : decode cX12_alike 57 = .ok (.istore 5, 2) := by decide +kernel
theorem dX12_alike_59 : decode cX12_alike 59 = .ok (.iload_n 2, 1) := by decide +kernel
theorem dX12_alike_60 : decode cX12_alike 60 = .ok (.iload 5, 2) := by decide +kernel
theorem dX12_alike_62 : decode cX12_alike 62 = .ok (.aload_n 0, 1) := by decide +kernel
theorem dX12_alike_63 : decode cX12_alike 63 = .ok (.getfield 52, 3) := by decide +kernel
theorem dX12_alike_66 : decode cX12_alike 66 = .ok (.iconst 0, 1) := by decide +kernel
theorem dX12_alike_67 : decode cX12_alike 67 = .ok (.iaload, 1) := by decide +kernel
theorem dX12_alike_68 : decode cX12_alike 68 = .ok (.if_icmp .ne 7, 3) := by decide +kernel
theorem dX12_alike_71 : decode cX12_alike 71 = .ok (.iconst 1, 1) := by decide +kernel
theorem dX12_alike_72 : decode cX12_alike 72 = .ok (.goto 4, 3) := by decide +kernel
theorem dX12_alike_75 : decode cX12_alike 75 = .ok (.iconst 0, 1) := by decide +kernel
theorem dX12_alike_76 : decode cX12_alike 76 = .ok (.iadd, 1) := by decide +kernel
theorem dX12_alike_77 : decode cX12_alike 77 = .ok (.istore_n 2, 1) := by decide +kernel
theorem dX12_alike_78 : decode cX12_alike 78 = .ok (.iload_n 3, 1) := by decide +kernel
theorem dX12_alike_79 : decode cX12_alike 79 = .ok (.iload 5, 2) := by decide +kernel
theorem dX12_alike_81 : decode cX12_alike 81 = .ok (.invokestatic 508, 3) := by decide +kernel
theorem dX12_alike_84 : decode cX12_alike 84 = .ok (.istore_n 3, 1) := by decide +kernel
theorem dX12_alike_85 : decode cX12_alike 85 = .ok (.iinc 4 1, 3) := by decide +kernel
theorem dX12_alike_88 : decode cX12_alike 88 = .ok (.goto (-52), 3) := by decide +kernel
theorem dX12_alike_91 : decode cX12_alike 91 = .ok (.iload_n 1, 1) := by decide +kernel
theorem dX12_alike_92 : decode cX12_alike 92 = .ok (.ifCond .ne 7, 3) := by decide +kernel
theorem dX12_alike_95 : decode cX12_alike 95 = .ok (.iload_n 2, 1) := by decide +kernel
theorem dX12_alike_96 : decode cX12_alike 96 = .ok (.goto 4, 3) := by decide +kernel
theorem dX12_alike_99 : decode cX12_alike 99 = .ok (.iload_n 3, 1) := by decide +kernel
theorem dX12_alike_100 : decode cX12_alike 100 = .ok (.ireturn, 1) := by decide +kernel
theorem dX12_codeOf_0 : decode cX12_codeOf 0 = .ok (.iload_n 2, 1) := by decide +kernel
theorem dX12_codeOf_1 : decode cX12_codeOf 1 = .ok (.bipush 10, 2) := by decide +kernel
theorem dX12_codeOf_3 : decode cX12_codeOf 3 = .ok (.idiv, 1) := by decide +kernel
theorem dX12_codeOf_4 : decode cX12_codeOf 4 = .ok (.istore_n 3, 1) := by decide +kernel
theorem dX12_codeOf_5 : decode cX12_codeOf 5 = .ok (.iload_n 2, 1) := by decide +kernel
theorem dX12_codeOf_6 : decode cX12_codeOf 6 = .ok (.iconst 5, 1) := by decide +kernel
theorem dX12_codeOf_7 : decode cX12_codeOf 7 = .ok (.idiv, 1) := by decide +kernel
theorem dX12_codeOf_8 : decode cX12_codeOf 8 = .ok (.iconst 2, 1) := by decide +kernel
theorem dX12_codeOf_9 : decode cX12_codeOf 9 = .ok (.irem, 1) := by decide +kernel
theorem dX12_codeOf_10 : decode cX12_codeOf 10 = .ok (.istore 4, 2) := by decide +kernel
theorem dX12_codeOf_12 : decode cX12_codeOf 12 = .ok (.iload_n 2, 1) := by decide +kernel
theorem dX12_codeOf_13 : decode cX12_codeOf 13 = .ok (.iconst 5, 1) := by decide +kernel
theorem dX12_codeOf_14 : decode cX12_codeOf 14 = .ok (.irem, 1) := by decide +kernel
theorem dX12_codeOf_15 : decode cX12_codeOf 15 = .ok (.iconst 1, 1) := by decide +kernel
theorem dX12_codeOf_16 : decode cX12_codeOf 16 = .ok (.iadd, 1) := by decide +kernel
theorem dX12_codeOf_17 : decode cX12_codeOf 17 = .ok (.istore 5, 2) := by decide +kernel
theorem dX12_codeOf_19 : decode cX12_codeOf 19 = .ok (.iload 5, 2) := by decide +kernel
theorem dX12_codeOf_21 : decode cX12_codeOf 21 = .ok (.iconst 1, 1) := by decide +kernel
theorem dX12_codeOf_22 : decode cX12_codeOf 22 = .ok (.if_icmp .ne 9, 3) := by decide +kernel
theorem dX12_codeOf_25 : decode cX12_codeOf 25 = .ok (.iload 4, 2) := by decide +kernel
theorem dX12_codeOf_27 : decode cX12_codeOf 27 = .ok (.iconst 1, 1) := by decide +kernel
theorem dX12_codeOf_28 : decode cX12_codeOf 28 = .ok (.if_icmp .eq 17, 3) := by decide +kernel
theorem dX12_codeOf_31 : decode cX12_codeOf 31 = .ok (.aload_n 0, 1) := by decide +kernel
theorem dX12_codeOf_32 : decode cX12_codeOf 32 = .ok (.iload_n 1, 1) := by decide +kernel
theorem dX12_codeOf_33 : decode cX12_codeOf 33 = .ok (.iload_n 3, 1) := by decide +kernel
theorem dX12_codeOf_34 : decode cX12_codeOf 34 = .ok (.iload 4, 2) := by decide +kernel
theorem dX12_codeOf_36 : decode cX12_codeOf 36 = .ok (.iload 5, 2) := by decide +kernel
theorem dX12_codeOf_38 : decode cX12_codeOf 38 = .ok (.invokevirtual 386, 3) := by decide +kernel
theorem dX12_codeOf_41 : decode cX12_codeOf 41 = .ok (.iconst (-1), 1) := by decide +kernel
theorem dX12_codeOf_42 : decode cX12_codeOf 42 = .ok (.if_icmp .ne 7, 3) := by decide +kernel
theorem dX12_codeOf_45 : decode cX12_codeOf 45 = .ok (.iconst (-1), 1) := by decide +kernel
theorem dX12_codeOf_46 : decode cX12_codeOf 46 = .ok (.goto 16, 3) := by decide +kernel
theorem dX12_codeOf_49 : decode cX12_codeOf 49 = .ok (.bipush 100, 2) := by decide +kernel
theorem dX12_codeOf_51 : decode cX12_codeOf 51 = .ok (.iload_n 3, 1) := by decide +kernel
theorem dX12_codeOf_52 : decode cX12_codeOf 52 = .ok (.imul, 1) := by decide +kernel
theorem dX12_codeOf_53 : decode cX12_codeOf 53 = .ok (.bipush 10, 2) := by decide +kernel
theorem dX12_codeOf_55 : decode cX12_codeOf 55 = .ok (.iload 4, 2) := by decide +kernel
theorem dX12_codeOf_57 : decode cX12_codeOf 57 = .ok (.imul, 1) := by decide +kernel
theorem dX12_codeOf_58 : decode cX12_codeOf 58 = .ok (.iadd, 1) := by decide +kernel
theorem dX12_codeOf_59 : decode cX12_codeOf 59 = .ok (.iload 5, 2) := by decide +kernel
theorem dX12_codeOf_61 : decode cX12_codeOf 61 = .ok (.iadd, 1) := by decide +kernel
theorem dX12_codeOf_62 : decode cX12_codeOf 62 = .ok (.ireturn, 1) := by decide +kernel
theorem dX12_cutBits_0 : decode cX12_cutBits 0 = .ok (.aload_n 0, 1) := by decide +kernel
theorem dX12_cutBits_1 : decode cX12_cutBits 1 = .ok (.iload_n 2, 1) := by decide +kernel
theorem dX12_cutBits_2 : decode cX12_cutBits 2 = .ok (.invokevirtual 355, 3) := by decide +kernel
theorem dX12_cutBits_5 : decode cX12_cutBits 5 = .ok (.ifCond .eq 45, 3) := by decide +kernel
theorem dX12_cutBits_8 : decode cX12_cutBits 8 = .ok (.iload_n 3, 1) := by decide +kernel
theorem dX12_cutBits_9 : decode cX12_cutBits 9 = .ok (.i2l, 1) := by decide +kernel
theorem dX12_cutBits_10 : decode cX12_cutBits 10 = .ok (.lconst 0, 1) := by decide +kernel
theorem dX12_cutBits_11 : decode cX12_cutBits 11 = .ok (.lconst 1, 1) := by decide +kernel
theorem dX12_cutBits_12 : decode cX12_cutBits 12 = .ok (.invokestatic 215, 3) := by decide +kernel
theorem dX12_cutBits_15 : decode cX12_cutBits 15 = .ok (.ifCond .eq 35, 3) := by decide +kernel
theorem dX12_cutBits_18 : decode cX12_cutBits 18 = .ok (.iload 4, 2) := by decide +kernel
theorem dX12_cutBits_20 : decode cX12_cutBits 20 = .ok (.i2l, 1) := by decide +kernel
theorem dX12_cutBits_21 : decode cX12_cutBits 21 = .ok (.lconst 1, 1) := by decide +kernel
theorem dX12_cutBits_22 : decode cX12_cutBits 22 = .ok (.aload_n 0, 1) := by decide +kernel
theorem dX12_cutBits_23 : decode cX12_cutBits 23 = .ok (.getfield 37, 3) := by decide +kernel
theorem dX12_cutBits_26 : decode cX12_cutBits 26 = .ok (.iconst 3, 1) := by decide +kernel
theorem dX12_cutBits_27 : decode cX12_cutBits 27 = .ok (.iaload, 1) := by decide +kernel
theorem dX12_cutBits_28 : decode cX12_cutBits 28 = .ok (.i2l, 1) := by decide +kernel
theorem dX12_cutBits_29 : decode cX12_cutBits 29 = .ok (.invokestatic 215, 3) := by decide +kernel
theorem dX12_cutBits_32 : decode cX12_cutBits 32 = .ok (.ifCond .eq 18, 3) := by decide +kernel
theorem dX12_cutBits_35 : decode cX12_cutBits 35 = .ok (.iload_n 1, 1) := by decide +kernel
theorem dX12_cutBits_36 : decode cX12_cutBits 36 = .ok (.iload_n 2, 1) := by decide +kernel
theorem dX12_cutBits_37 : decode cX12_cutBits 37 = .ok (.iload_n 3, 1) := by decide +kernel
theorem dX12_cutBits_38 : decode cX12_cutBits 38 = .ok (.aload_n 0, 1) := by decide +kernel
theorem dX12_cutBits_39 : decode cX12_cutBits 39 = .ok (.getfield 37, 3) := by decide +kernel
theorem dX12_cutBits_42 : decode cX12_cutBits 42 = .ok (.invokestatic 317, 3) := by decide +kernel
theorem dX12_cutBits_45 : decode cX12_cutBits 45 = .ok (.iload 4, 2) := by decide +kernel
theorem dX12_cutBits_47 : decode cX12_cutBits 47 = .ok (.if_icmp .ge 5, 3) := by decide +kernel
theorem dX12_cutBits_50 : decode cX12_cutBits 50 = .ok (.iconst (-1), 1) := by decide +kernel
theorem dX12_cutBits_51 : decode cX12_cutBits 51 = .ok (.ireturn, 1) := by decide +kernel
theorem dX12_cutBits_52 : decode cX12_cutBits 52 = .ok (.iconst 0, 1) := by decide +kernel
theorem dX12_cutBits_53 : decode cX12_cutBits 53 = .ok (.istore 5, 2) := by decide +kernel
theorem dX12_cutBits_55 : decode cX12_cutBits 55 = .ok (.iconst 0, 1) := by decide +kernel
theorem dX12_cutBits_56 : decode cX12_cutBits 56 = .ok (.istore 6, 2) := by decide +kernel
theorem dX12_cutBits_58 : decode cX12_cutBits 58 = .ok (.iload 6, 2) := by decide +kernel
theorem dX12_cutBits_60 : decode cX12_cutBits 60 = .ok (.iload 4, 2) := by decide +kernel
theorem dX12_cutBits_62 : decode cX12_cutBits 62 = .ok (.if_icmp .ge 35, 3) := by decide +kernel
theorem dX12_cutBits_65 : decode cX12_cutBits 65 = .ok (.iload 5, 2) := by decide +kernel
theorem dX12_cutBits_67 : decode cX12_cutBits 67 = .ok (.iconst 1, 1) := by decide +kernel
theorem dX12_cutBits_68 : decode cX12_cutBits 68 = .ok (.iload_n 2, 1) := by decide +kernel
theorem dX12_cutBits_69 : decode cX12_cutBits 69 = .ok (.iload 6, 2) := by decide +kernel
theorem dX12_cutBits_71 : decode cX12_cutBits 71 = .ok (.iload_n 3, 1) := by decide +kernel
theorem dX12_cutBits_72 : decode cX12_cutBits 72 = .ok (.ifCond .ne 7, 3) := by decide +kernel
theorem dX12_cutBits_75 : decode cX12_cutBits 75 = .ok (.iconst 1, 1) := by decide +kernel
theorem dX12_cutBits_76 : decode cX12_cutBits 76 = .ok (.goto 9, 3) := by decide +kernel
theorem dX12_cutBits_79 : decode cX12_cutBits 79 = .ok (.aload_n 0, 1) := by decide +kernel
theorem dX12_cutBits_80 : decode cX12_cutBits 80 = .ok (.getfield 37, 3) := by decide +kernel
theorem dX12_cutBits_83 : decode cX12_cutBits 83 = .ok (.iconst 0, 1) := by decide +kernel
theorem dX12_cutBits_84 : decode cX12_cutBits 84 = .ok (.iaload, 1) := by decide +kernel
theorem dX12_cutBits_85 : decode cX12_cutBits 85 = .ok (.imul, 1) := by decide +kernel
theorem dX12_cutBits_86 : decode cX12_cutBits 86 = .ok (.iadd, 1) := by decide +kernel
theorem dX12_cutBits_87 : decode cX12_cutBits 87 = .ok (.ishl, 1) := by decide +kernel
theorem dX12_cutBits_88 : decode cX12_cutBits 88 = .ok (.ior, 1) := by decide +kernel
theorem dX12_cutBits_89 : decode cX12_cutBits 89 = .ok (.istore 5, 2) := by decide +kernel
theorem dX12_cutBits_91 : decode cX12_cutBits 91 = .ok (.iinc 6 1, 3) := by decide +kernel
theorem dX12_cutBits_94 : decode cX12_cutBits 94 = .ok (.goto (-36), 3) := by decide +kernel
theorem dX12_cutBits_97 : decode cX12_cutBits 97 = .ok (.iload 5, 2) := by decide +kernel
theorem dX12_cutBits_99 : decode cX12_cutBits 99 = .ok (.ireturn, 1) := by decide +kernel
theorem dX12_draw_0 : decode cX12_draw 0 = .ok (.aload_n 0, 1) := by decide +kernel
theorem dX12_draw_1 : decode cX12_draw 1 = .ok (.aload_n 0, 1) := by decide +kernel
theorem dX12_draw_2 : decode cX12_draw 2 = .ok (.getfield 408, 3) := by decide +kernel
theorem dX12_draw_5 : decode cX12_draw 5 = .ok (.ldc2_w 412, 3) := by decide +kernel
theorem dX12_draw_8 : decode cX12_draw 8 = .ok (.lmul, 1) := by decide +kernel
theorem dX12_draw_9 : decode cX12_draw 9 = .ok (.ldc2_w 414, 3) := by decide +kernel
theorem dX12_draw_12 : decode cX12_draw 12 = .ok (.ladd, 1) := by decide +kernel
theorem dX12_draw_13 : decode cX12_draw 13 = .ok (.putfield 408, 3) := by decide +kernel
theorem dX12_draw_16 : decode cX12_draw 16 = .ok (.aload_n 0, 1) := by decide +kernel
theorem dX12_draw_17 : decode cX12_draw 17 = .ok (.getfield 408, 3) := by decide +kernel
theorem dX12_draw_20 : decode cX12_draw 20 = .ok (.bipush 33, 2) := by decide +kernel
theorem dX12_draw_22 : decode cX12_draw 22 = .ok (.lushr, 1) := by decide +kernel
theorem dX12_draw_23 : decode cX12_draw 23 = .ok (.iload_n 1, 1) := by decide +kernel
theorem dX12_draw_24 : decode cX12_draw 24 = .ok (.i2l, 1) := by decide +kernel
theorem dX12_draw_25 : decode cX12_draw 25 = .ok (.lrem, 1) := by decide +kernel
theorem dX12_draw_26 : decode cX12_draw 26 = .ok (.l2i, 1) := by decide +kernel
theorem dX12_draw_27 : decode cX12_draw 27 = .ok (.ireturn, 1) := by decide +kernel
theorem dX12_fits_0 : decode cX12_fits 0 = .ok (.iconst 0, 1) := by decide +kernel
theorem dX12_fits_1 : decode cX12_fits 1 = .ok (.istore_n 3, 1) := by decide +kernel
theorem dX12_fits_2 : decode cX12_fits 2 = .ok (.iload_n 3, 1) := by decide +kernel
theorem dX12_fits_3 : decode cX12_fits 3 = .ok (.aload_n 0, 1) := by decide +kernel
theorem dX12_fits_4 : decode cX12_fits 4 = .ok (.getfield 308, 3) := by decide +kernel
theorem dX12_fits_7 : decode cX12_fits 7 = .ok (.if_icmp .ge 45, 3) := by decide +kernel
theorem dX12_fits_10 : decode cX12_fits 10 = .ok (.aload_n 0, 1) := by decide +kernel
theorem dX12_fits_11 : decode cX12_fits 11 = .ok (.getfield 84, 3) := by decide +kernel
theorem dX12_fits_14 : decode cX12_fits 14 = .ok (.iload_n 3, 1) := by decide +kernel
theorem dX12_fits_15 : decode cX12_fits 15 = .ok (.iaload, 1) := by decide +kernel
theorem dX12_fits_16 : decode cX12_fits 16 = .ok (.iload_n 1, 1) := by decide +kernel
theorem dX12_fits_17 : decode cX12_fits 17 = .ok (.if_icmp .lt 17, 3) := by decide +kernel
theorem dX12_fits_20 : decode cX12_fits 20 = .ok (.aload_n 0, 1) := by decide +kernel
theorem dX12_fits_21 : decode cX12_fits 21 = .ok (.getfield 84, 3) := by decide +kernel
theorem dX12_fits_24 : decode cX12_fits 24 = .ok (.iload_n 3, 1) := by decide +kernel
theorem dX12_fits_25 : decode cX12_fits 25 = .ok (.iaload, 1) := by decide +kernel
theorem dX12_fits_26 : decode cX12_fits 26 = .ok (.iload_n 2, 1) := by decide +kernel
theorem dX12_fits_27 : decode cX12_fits 27 = .ok (.if_icmp .gt 7, 3) := by decide +kernel
theorem dX12_fits_30 : decode cX12_fits 30 = .ok (.iconst 1, 1) := by decide +kernel
theorem dX12_fits_31 : decode cX12_fits 31 = .ok (.goto 4, 3) := by decide +kernel
theorem dX12_fits_34 : decode cX12_fits 34 = .ok (.iconst 0, 1) := by decide +kernel
theorem dX12_fits_35 : decode cX12_fits 35 = .ok (.aload_n 0, 1) := by decide +kernel
theorem dX12_fits_36 : decode cX12_fits 36 = .ok (.getfield 87, 3) := by decide +kernel
theorem dX12_fits_39 : decode cX12_fits 39 = .ok (.iload_n 3, 1) := by decide +kernel
theorem dX12_fits_40 : decode cX12_fits 40 = .ok (.baload, 1) := by decide +kernel
theorem dX12_fits_41 : decode cX12_fits 41 = .ok (.if_icmp .eq 5, 3) := by decide +kernel
theorem dX12_fits_44 : decode cX12_fits 44 = .ok (.iconst 0, 1) := by decide +kernel
theorem dX12_fits_45 : decode cX12_fits 45 = .ok (.ireturn, 1) := by decide +kernel
theorem dX12_fits_46 : decode cX12_fits 46 = .ok (.iinc 3 1, 3) := by decide +kernel
theorem dX12_fits_49 : decode cX12_fits 49 = .ok (.goto (-47), 3) := by decide +kernel
theorem dX12_fits_52 : decode cX12_fits 52 = .ok (.iconst 1, 1) := by decide +kernel
theorem dX12_fits_53 : decode cX12_fits 53 = .ok (.ireturn, 1) := by decide +kernel
theorem dX12_gathered_0 : decode cX12_gathered 0 = .ok (.iconst 0, 1) := by decide +kernel
theorem dX12_gathered_1 : decode cX12_gathered 1 = .ok (.istore_n 2, 1) := by decide +kernel
theorem dX12_gathered_2 : decode cX12_gathered 2 = .ok (.iconst 0, 1) := by decide +kernel
theorem dX12_gathered_3 : decode cX12_gathered 3 = .ok (.istore_n 3, 1) := by decide +kernel
theorem dX12_gathered_4 : decode cX12_gathered 4 = .ok (.iload_n 3, 1) := by decide +kernel
theorem dX12_gathered_5 : decode cX12_gathered 5 = .ok (.aload_n 0, 1) := by decide +kernel
theorem dX12_gathered_6 : decode cX12_gathered 6 = .ok (.getfield 496, 3) := by decide +kernel
theorem dX12_gathered_9 : decode cX12_gathered 9 = .ok (.if_icmp .ge 32, 3) := by decide +kernel
theorem dX12_gathered_12 : decode cX12_gathered 12 = .ok (.iload_n 2, 1) := by decide +kernel
theorem dX12_gathered_13 : decode cX12_gathered 13 = .ok (.iload_n 1, 1) := by decide +kernel
theorem dX12_gathered_14 : decode cX12_gathered 14 = .ok (.aload_n 0, 1) := by decide +kernel
theorem dX12_gathered_15 : decode cX12_gathered 15 = .ok (.getfield 75, 3) := by decide +kernel
theorem dX12_gathered_18 : decode cX12_gathered 18 = .ok (.iload_n 3, 1) := by decide +kernel
theorem dX12_gathered_19 : decode cX12_gathered 19 = .ok (.iaload, 1) := by decide +kernel
theorem dX12_gathered_20 : decode cX12_gathered 20 = .ok (.invokestatic 227, 3) := by decide +kernel
theorem dX12_gathered_23 : decode cX12_gathered 23 = .ok (.ifCond .eq 9, 3) := by decide +kernel
theorem dX12_gathered_26 : decode cX12_gathered 26 = .ok (.iconst 1, 1) := by decide +kernel
theorem dX12_gathered_27 : decode cX12_gathered 27 = .ok (.iload_n 3, 1) := by decide +kernel
theorem dX12_gathered_28 : decode cX12_gathered 28 = .ok (.ishl, 1) := by decide +kernel
theorem dX12_gathered_29 : decode cX12_gathered 29 = .ok (.goto 4, 3) := by decide +kernel
theorem dX12_gathered_32 : decode cX12_gathered 32 = .ok (.iconst 0, 1) := by decide +kernel
theorem dX12_gathered_33 : decode cX12_gathered 33 = .ok (.ior, 1) := by decide +kernel
theorem dX12_gathered_34 : decode cX12_gathered 34 = .ok (.istore_n 2, 1) := by decide +kernel
theorem dX12_gathered_35 : decode cX12_gathered 35 = .ok (.iinc 3 1, 3) := by decide +kernel
theorem dX12_gathered_38 : decode cX12_gathered 38 = .ok (.goto (-34), 3) := by decide +kernel
theorem dX12_gathered_41 : decode cX12_gathered 41 = .ok (.iload_n 2, 1) := by decide +kernel
theorem dX12_gathered_42 : decode cX12_gathered 42 = .ok (.ireturn, 1) := by decide +kernel
theorem dX12_isGame_0 : decode cX12_isGame 0 = .ok (.iload_n 1, 1) := by decide +kernel
theorem dX12_isGame_1 : decode cX12_isGame 1 = .ok (.ifCond .lt 15, 3) := by decide +kernel
theorem dX12_isGame_4 : decode cX12_isGame 4 = .ok (.iload_n 1, 1) := by decide +kernel
theorem dX12_isGame_5 : decode cX12_isGame 5 = .ok (.aload_n 0, 1) := by decide +kernel
theorem dX12_isGame_6 : decode cX12_isGame 6 = .ok (.getfield 297, 3) := by decide +kernel
theorem dX12_isGame_9 : decode cX12_isGame 9 = .ok (.if_icmp .ge 7, 3) := by decide +kernel
theorem dX12_isGame_12 : decode cX12_isGame 12 = .ok (.iconst 1, 1) := by decide +kernel
theorem dX12_isGame_13 : decode cX12_isGame 13 = .ok (.goto 4, 3) := by decide +kernel
theorem dX12_isGame_16 : decode cX12_isGame 16 = .ok (.iconst 0, 1) := by decide +kernel
theorem dX12_isGame_17 : decode cX12_isGame 17 = .ok (.ireturn, 1) := by decide +kernel
theorem dX12_isGrass_0 : decode cX12_isGrass 0 = .ok (.aload_n 0, 1) := by decide +kernel
theorem dX12_isGrass_1 : decode cX12_isGrass 1 = .ok (.iload_n 1, 1) := by decide +kernel
theorem dX12_isGrass_2 : decode cX12_isGrass 2 = .ok (.invokevirtual 355, 3) := by decide +kernel
theorem dX12_isGrass_5 : decode cX12_isGrass 5 = .ok (.ifCond .eq 32, 3) := by decide +kernel
theorem dX12_isGrass_8 : decode cX12_isGrass 8 = .ok (.aload_n 0, 1) := by decide +kernel
theorem dX12_isGrass_9 : decode cX12_isGrass 9 = .ok (.getfield 52, 3) := by decide +kernel
theorem dX12_isGrass_12 : decode cX12_isGrass 12 = .ok (.iconst 0, 1) := by decide +kernel
theorem dX12_isGrass_13 : decode cX12_isGrass 13 = .ok (.iaload, 1) := by decide +kernel
theorem dX12_isGrass_14 : decode cX12_isGrass 14 = .ok (.aload_n 0, 1) := by decide +kernel
theorem dX12_isGrass_15 : decode cX12_isGrass 15 = .ok (.getfield 52, 3) := by decide +kernel
theorem dX12_isGrass_18 : decode cX12_isGrass 18 = .ok (.iconst 1, 1) := by decide +kernel
theorem dX12_isGrass_19 : decode cX12_isGrass 19 = .ok (.iaload, 1) := by decide +kernel
theorem dX12_isGrass_20 : decode cX12_isGrass 20 = .ok (.ior, 1) := by decide +kernel
theorem dX12_isGrass_21 : decode cX12_isGrass 21 = .ok (.aload_n 0, 1) := by decide +kernel
theorem dX12_isGrass_22 : decode cX12_isGrass 22 = .ok (.getfield 305, 3) := by decide +kernel
theorem dX12_isGrass_25 : decode cX12_isGrass 25 = .ok (.ior, 1) := by decide +kernel
theorem dX12_isGrass_26 : decode cX12_isGrass 26 = .ok (.iload_n 1, 1) := by decide +kernel
theorem dX12_isGrass_27 : decode cX12_isGrass 27 = .ok (.invokestatic 227, 3) := by decide +kernel
theorem dX12_isGrass_30 : decode cX12_isGrass 30 = .ok (.ifCond .ne 7, 3) := by decide +kernel
theorem dX12_isGrass_33 : decode cX12_isGrass 33 = .ok (.iconst 1, 1) := by decide +kernel
theorem dX12_isGrass_34 : decode cX12_isGrass 34 = .ok (.goto 4, 3) := by decide +kernel
theorem dX12_isGrass_37 : decode cX12_isGrass 37 = .ok (.iconst 0, 1) := by decide +kernel
theorem dX12_isGrass_38 : decode cX12_isGrass 38 = .ok (.ireturn, 1) := by decide +kernel
theorem dX12_partAt_0 : decode cX12_partAt 0 = .ok (.iconst 0, 1) := by decide +kernel
theorem dX12_partAt_1 : decode cX12_partAt 1 = .ok (.istore_n 2, 1) := by decide +kernel
theorem dX12_partAt_2 : decode cX12_partAt 2 = .ok (.iconst 0, 1) := by decide +kernel
theorem dX12_partAt_3 : decode cX12_partAt 3 = .ok (.istore_n 3, 1) := by decide +kernel
theorem dX12_partAt_4 : decode cX12_partAt 4 = .ok (.iconst 0, 1) := by decide +kernel
theorem dX12_partAt_5 : decode cX12_partAt 5 = .ok (.istore 4, 2) := by decide +kernel
theorem dX12_partAt_7 : decode cX12_partAt 7 = .ok (.iload 4, 2) := by decide +kernel
theorem dX12_partAt_9 : decode cX12_partAt 9 = .ok (.aload_n 0, 1) := by decide +kernel
theorem dX12_partAt_10 : decode cX12_partAt 10 = .ok (.getfield 302, 3) := by decide +kernel
theorem dX12_partAt_13 : decode cX12_partAt 13 = .ok (.if_icmp .ge 59, 3) := by decide +kernel
theorem dX12_partAt_16 : decode cX12_partAt 16 = .ok (.aload_n 0, 1) := by decide +kernel
theorem dX12_partAt_17 : decode cX12_partAt 17 = .ok (.getfield 52, 3) := by decide +kernel
theorem dX12_partAt_20 : decode cX12_partAt 20 = .ok (.iconst 0, 1) := by decide +kernel
theorem dX12_partAt_21 : decode cX12_partAt 21 = .ok (.iaload, 1) := by decide +kernel
theorem dX12_partAt_22 : decode cX12_partAt 22 = .ok (.iload 4, 2) := by decide +kernel
theorem dX12_partAt_24 : decode cX12_partAt 24 = .ok (.invokestatic 227, 3) := by decide +kernel
theorem dX12_partAt_27 : decode cX12_partAt 27 = .ok (.ifCond .eq 39, 3) := by decide +kernel
theorem dX12_partAt_30 : decode cX12_partAt 30 = .ok (.iload_n 2, 1) := by decide +kernel
theorem dX12_partAt_31 : decode cX12_partAt 31 = .ok (.iload 4, 2) := by decide +kernel
theorem dX12_partAt_33 : decode cX12_partAt 33 = .ok (.invokestatic 227, 3) := by decide +kernel
theorem dX12_partAt_36 : decode cX12_partAt 36 = .ok (.ifCond .eq 6, 3) := by decide +kernel
theorem dX12_partAt_39 : decode cX12_partAt 39 = .ok (.goto 27, 3) := by decide +kernel
theorem dX12_partAt_42 : decode cX12_partAt 42 = .ok (.aload_n 0, 1) := by decide +kernel
theorem dX12_partAt_43 : decode cX12_partAt 43 = .ok (.iload 4, 2) := by decide +kernel
theorem dX12_partAt_45 : decode cX12_partAt 45 = .ok (.invokevirtual 490, 3) := by decide +kernel
theorem dX12_partAt_48 : decode cX12_partAt 48 = .ok (.istore 5, 2) := by decide +kernel
theorem dX12_partAt_50 : decode cX12_partAt 50 = .ok (.iload_n 3, 1) := by decide +kernel
theorem dX12_partAt_51 : decode cX12_partAt 51 = .ok (.iload_n 1, 1) := by decide +kernel
theorem dX12_partAt_52 : decode cX12_partAt 52 = .ok (.if_icmp .ne 6, 3) := by decide +kernel
theorem dX12_partAt_55 : decode cX12_partAt 55 = .ok (.iload 5, 2) := by decide +kernel
theorem dX12_partAt_57 : decode cX12_partAt 57 = .ok (.ireturn, 1) := by decide +kernel
theorem dX12_partAt_58 : decode cX12_partAt 58 = .ok (.iload_n 2, 1) := by decide +kernel
theorem dX12_partAt_59 : decode cX12_partAt 59 = .ok (.iload 5, 2) := by decide +kernel
theorem dX12_partAt_61 : decode cX12_partAt 61 = .ok (.ior, 1) := by decide +kernel
theorem dX12_partAt_62 : decode cX12_partAt 62 = .ok (.istore_n 2, 1) := by decide +kernel
theorem dX12_partAt_63 : decode cX12_partAt 63 = .ok (.iinc 3 1, 3) := by decide +kernel
theorem dX12_partAt_66 : decode cX12_partAt 66 = .ok (.iinc 4 1, 3) := by decide +kernel
theorem dX12_partAt_69 : decode cX12_partAt 69 = .ok (.goto (-62), 3) := by decide +kernel
theorem dX12_partAt_72 : decode cX12_partAt 72 = .ok (.iload_n 1, 1) := by decide +kernel
theorem dX12_partAt_73 : decode cX12_partAt 73 = .ok (.iconst (-1), 1) := by decide +kernel
theorem dX12_partAt_74 : decode cX12_partAt 74 = .ok (.if_icmp .ne 7, 3) := by decide +kernel
theorem dX12_partAt_77 : decode cX12_partAt 77 = .ok (.iload_n 3, 1) := by decide +kernel
theorem dX12_partAt_78 : decode cX12_partAt 78 = .ok (.goto 4, 3) := by decide +kernel
theorem dX12_partAt_81 : decode cX12_partAt 81 = .ok (.iconst (-1), 1) := by decide +kernel
theorem dX12_partAt_82 : decode cX12_partAt 82 = .ok (.ireturn, 1) := by decide +kernel
theorem dX12_partOf_0 : decode cX12_partOf 0 = .ok (.iconst 1, 1) := by decide +kernel
theorem dX12_partOf_1 : decode cX12_partOf 1 = .ok (.iload_n 1, 1) := by decide +kernel
theorem dX12_partOf_2 : decode cX12_partOf 2 = .ok (.ishl, 1) := by decide +kernel
theorem dX12_partOf_3 : decode cX12_partOf 3 = .ok (.istore_n 2, 1) := by decide +kernel
theorem dX12_partOf_4 : decode cX12_partOf 4 = .ok (.iconst 0, 1) := by decide +kernel
theorem dX12_partOf_5 : decode cX12_partOf 5 = .ok (.istore_n 3, 1) := by decide +kernel
theorem dX12_partOf_6 : decode cX12_partOf 6 = .ok (.iload_n 3, 1) := by decide +kernel
theorem dX12_partOf_7 : decode cX12_partOf 7 = .ok (.aload_n 0, 1) := by decide +kernel
theorem dX12_partOf_8 : decode cX12_partOf 8 = .ok (.getfield 302, 3) := by decide +kernel
theorem dX12_partOf_11 : decode cX12_partOf 11 = .ok (.if_icmp .ge 169, 3) := by decide +kernel
theorem dX12_partOf_14 : decode cX12_partOf 14 = .ok (.iconst 0, 1) := by decide +kernel
theorem dX12_partOf_15 : decode cX12_partOf 15 = .ok (.istore 4, 2) := by decide +kernel
theorem dX12_partOf_17 : decode cX12_partOf 17 = .ok (.iload 4, 2) := by decide +kernel
theorem dX12_partOf_19 : decode cX12_partOf 19 = .ok (.aload_n 0, 1) := by decide +kernel
theorem dX12_partOf_20 : decode cX12_partOf 20 = .ok (.getfield 302, 3) := by decide +kernel
theorem dX12_partOf_23 : decode cX12_partOf 23 = .ok (.if_icmp .ge 151, 3) := by decide +kernel
theorem dX12_partOf_26 : decode cX12_partOf 26 = .ok (.iload_n 2, 1) := by decide +kernel
theorem dX12_partOf_27 : decode cX12_partOf 27 = .ok (.iload 4, 2) := by decide +kernel
theorem dX12_partOf_29 : decode cX12_partOf 29 = .ok (.invokestatic 227, 3) := by decide +kernel
theorem dX12_partOf_32 : decode cX12_partOf 32 = .ok (.ifCond .ne 6, 3) := by decide +kernel
theorem dX12_partOf_35 : decode cX12_partOf 35 = .ok (.goto 133, 3) := by decide +kernel
theorem dX12_partOf_38 : decode cX12_partOf 38 = .ok (.iload 4, 2) := by decide +kernel
theorem dX12_partOf_40 : decode cX12_partOf 40 = .ok (.aload_n 0, 1) := by decide +kernel
theorem dX12_partOf_41 : decode cX12_partOf 41 = .ok (.getfield 37, 3) := by decide +kernel
theorem dX12_partOf_44 : decode cX12_partOf 44 = .ok (.iconst 0, 1) := by decide +kernel
theorem dX12_partOf_45 : decode cX12_partOf 45 = .ok (.iaload, 1) := by decide +kernel
theorem dX12_partOf_46 : decode cX12_partOf 46 = .ok (.irem, 1) := by decide +kernel
theorem dX12_partOf_47 : decode cX12_partOf 47 = .ok (.istore 5, 2) := by decide +kernel
theorem dX12_partOf_49 : decode cX12_partOf 49 = .ok (.iload 5, 2) := by decide +kernel
theorem dX12_partOf_51 : decode cX12_partOf 51 = .ok (.ifCond .le 19, 3) := by decide +kernel
theorem dX12_partOf_54 : decode cX12_partOf 54 = .ok (.iload_n 2, 1) := by decide +kernel
theorem dX12_partOf_55 : decode cX12_partOf 55 = .ok (.iconst 1, 1) := by decide +kernel
theorem dX12_partOf_56 : decode cX12_partOf 56 = .ok (.iload 4, 2) := by decide +kernel
theorem dX12_partOf_58 : decode cX12_partOf 58 = .ok (.iconst 1, 1) := by decide +kernel
theorem dX12_partOf_59 : decode cX12_partOf 59 = .ok (.isub, 1) := by decide +kernel
theorem dX12_partOf_60 : decode cX12_partOf 60 = .ok (.ishl, 1) := by decide +kernel
theorem dX12_partOf_61 : decode cX12_partOf 61 = .ok (.aload_n 0, 1) := by decide +kernel
theorem dX12_partOf_62 : decode cX12_partOf 62 = .ok (.getfield 52, 3) := by decide +kernel
theorem dX12_partOf_65 : decode cX12_partOf 65 = .ok (.iconst 0, 1) := by decide +kernel
theorem dX12_partOf_66 : decode cX12_partOf 66 = .ok (.iaload, 1) := by decide +kernel
theorem dX12_partOf_67 : decode cX12_partOf 67 = .ok (.iand, 1) := by decide +kernel
theorem dX12_partOf_68 : decode cX12_partOf 68 = .ok (.ior, 1) := by decide +kernel
theorem dX12_partOf_69 : decode cX12_partOf 69 = .ok (.istore_n 2, 1) := by decide +kernel
theorem dX12_partOf_70 : decode cX12_partOf 70 = .ok (.iload 5, 2) := by decide +kernel
theorem dX12_partOf_72 : decode cX12_partOf 72 = .ok (.aload_n 0, 1) := by decide +kernel
theorem dX12_partOf_73 : decode cX12_partOf 73 = .ok (.getfield 37, 3) := by decide +kernel
theorem dX12_partOf_76 : decode cX12_partOf 76 = .ok (.iconst 0, 1) := by decide +kernel
theorem dX12_partOf_77 : decode cX12_partOf 77 = .ok (.iaload, 1) := by decide +kernel
theorem dX12_partOf_78 : decode cX12_partOf 78 = .ok (.iconst 1, 1) := by decide +kernel
theorem dX12_partOf_79 : decode cX12_partOf 79 = .ok (.isub, 1) := by decide +kernel
theorem dX12_partOf_80 : decode cX12_partOf 80 = .ok (.if_icmp .ge 19, 3) := by decide +kernel
theorem dX12_partOf_83 : decode cX12_partOf 83 = .ok (.iload_n 2, 1) := by decide +kernel
theorem dX12_partOf_84 : decode cX12_partOf 84 = .ok (.iconst 1, 1) := by decide +kernel
theorem dX12_partOf_85 : decode cX12_partOf 85 = .ok (.iload 4, 2) := by decide +kernel
theorem dX12_partOf_87 : decode cX12_partOf 87 = .ok (.iconst 1, 1) := by decide +kernel
theorem dX12_partOf_88 : decode cX12_partOf 88 = .ok (.iadd, 1) := by decide +kernel
theorem dX12_partOf_89 : decode cX12_partOf 89 = .ok (.ishl, 1) := by decide +kernel
theorem dX12_partOf_90 : decode cX12_partOf 90 = .ok (.aload_n 0, 1) := by decide +kernel
theorem dX12_partOf_91 : decode cX12_partOf 91 = .ok (.getfield 52, 3) := by decide +kernel
theorem dX12_partOf_94 : decode cX12_partOf 94 = .ok (.iconst 0, 1) := by decide +kernel
theorem dX12_partOf_95 : decode cX12_partOf 95 = .ok (.iaload, 1) := by decide +kernel
theorem dX12_partOf_96 : decode cX12_partOf 96 = .ok (.iand, 1) := by decide +kernel
theorem dX12_partOf_97 : decode cX12_partOf 97 = .ok (.ior, 1) := by decide +kernel
theorem dX12_partOf_98 : decode cX12_partOf 98 = .ok (.istore_n 2, 1) := by decide +kernel
theorem dX12_partOf_99 : decode cX12_partOf 99 = .ok (.iload 4, 2) := by decide +kernel
theorem dX12_partOf_101 : decode cX12_partOf 101 = .ok (.aload_n 0, 1) := by decide +kernel
theorem dX12_partOf_102 : decode cX12_partOf 102 = .ok (.getfield 37, 3) := by decide +kernel
theorem dX12_partOf_105 : decode cX12_partOf 105 = .ok (.iconst 0, 1) := by decide +kernel
theorem dX12_partOf_106 : decode cX12_partOf 106 = .ok (.iaload, 1) := by decide +kernel
theorem dX12_partOf_107 : decode cX12_partOf 107 = .ok (.if_icmp .lt 24, 3) := by decide +kernel
theorem dX12_partOf_110 : decode cX12_partOf 110 = .ok (.iload_n 2, 1) := by decide +kernel
theorem dX12_partOf_111 : decode cX12_partOf 111 = .ok (.iconst 1, 1) := by decide +kernel
theorem dX12_partOf_112 : decode cX12_partOf 112 = .ok (.iload 4, 2) := by decide +kernel
theorem dX12_partOf_114 : decode cX12_partOf 114 = .ok (.aload_n 0, 1) := by decide +kernel
theorem dX12_partOf_115 : decode cX12_partOf 115 = .ok (.getfield 37, 3) := by decide +kernel
theorem dX12_partOf_118 : decode cX12_partOf 118 = .ok (.iconst 0, 1) := by decide +kernel
theorem dX12_partOf_119 : decode cX12_partOf 119 = .ok (.iaload, 1) := by decide +kernel
theorem dX12_partOf_120 : decode cX12_partOf 120 = .ok (.isub, 1) := by decide +kernel
theorem dX12_partOf_121 : decode cX12_partOf 121 = .ok (.ishl, 1) := by decide +kernel
theorem dX12_partOf_122 : decode cX12_partOf 122 = .ok (.aload_n 0, 1) := by decide +kernel
theorem dX12_partOf_123 : decode cX12_partOf 123 = .ok (.getfield 52, 3) := by decide +kernel
theorem dX12_partOf_126 : decode cX12_partOf 126 = .ok (.iconst 0, 1) := by decide +kernel
theorem dX12_partOf_127 : decode cX12_partOf 127 = .ok (.iaload, 1) := by decide +kernel
theorem dX12_partOf_128 : decode cX12_partOf 128 = .ok (.iand, 1) := by decide +kernel
theorem dX12_partOf_129 : decode cX12_partOf 129 = .ok (.ior, 1) := by decide +kernel
theorem dX12_partOf_130 : decode cX12_partOf 130 = .ok (.istore_n 2, 1) := by decide +kernel
theorem dX12_partOf_131 : decode cX12_partOf 131 = .ok (.iload 4, 2) := by decide +kernel
theorem dX12_partOf_133 : decode cX12_partOf 133 = .ok (.aload_n 0, 1) := by decide +kernel
theorem dX12_partOf_134 : decode cX12_partOf 134 = .ok (.getfield 37, 3) := by decide +kernel
theorem dX12_partOf_137 : decode cX12_partOf 137 = .ok (.iconst 0, 1) := by decide +kernel
theorem dX12_partOf_138 : decode cX12_partOf 138 = .ok (.iaload, 1) := by decide +kernel
theorem dX12_partOf_139 : decode cX12_partOf 139 = .ok (.iadd, 1) := by decide +kernel
theorem dX12_partOf_140 : decode cX12_partOf 140 = .ok (.aload_n 0, 1) := by decide +kernel
theorem dX12_partOf_141 : decode cX12_partOf 141 = .ok (.getfield 302, 3) := by decide +kernel
theorem dX12_partOf_144 : decode cX12_partOf 144 = .ok (.if_icmp .ge 24, 3) := by decide +kernel
theorem dX12_partOf_147 : decode cX12_partOf 147 = .ok (.iload_n 2, 1) := by decide +kernel
theorem dX12_partOf_148 : decode cX12_partOf 148 = .ok (.iconst 1, 1) := by decide +kernel
theorem dX12_partOf_149 : decode cX12_partOf 149 = .ok (.iload 4, 2) := by decide +kernel
theorem dX12_partOf_151 : decode cX12_partOf 151 = .ok (.aload_n 0, 1) := by decide +kernel
theorem dX12_partOf_152 : decode cX12_partOf 152 = .ok (.getfield 37, 3) := by decide +kernel
theorem dX12_partOf_155 : decode cX12_partOf 155 = .ok (.iconst 0, 1) := by decide +kernel
theorem dX12_partOf_156 : decode cX12_partOf 156 = .ok (.iaload, 1) := by decide +kernel
theorem dX12_partOf_157 : decode cX12_partOf 157 = .ok (.iadd, 1) := by decide +kernel
theorem dX12_partOf_158 : decode cX12_partOf 158 = .ok (.ishl, 1) := by decide +kernel
theorem dX12_partOf_159 : decode cX12_partOf 159 = .ok (.aload_n 0, 1) := by decide +kernel
theorem dX12_partOf_160 : decode cX12_partOf 160 = .ok (.getfield 52, 3) := by decide +kernel
theorem dX12_partOf_163 : decode cX12_partOf 163 = .ok (.iconst 0, 1) := by decide +kernel
theorem dX12_partOf_164 : decode cX12_partOf 164 = .ok (.iaload, 1) := by decide +kernel
theorem dX12_partOf_165 : decode cX12_partOf 165 = .ok (.iand, 1) := by decide +kernel
theorem dX12_partOf_166 : decode cX12_partOf 166 = .ok (.ior, 1) := by decide +kernel
theorem dX12_partOf_167 : decode cX12_partOf 167 = .ok (.istore_n 2, 1) := by decide +kernel
theorem dX12_partOf_168 : decode cX12_partOf 168 = .ok (.iinc 4 1, 3) := by decide +kernel
theorem dX12_partOf_171 : decode cX12_partOf 171 = .ok (.goto (-154), 3) := by decide +kernel
theorem dX12_partOf_174 : decode cX12_partOf 174 = .ok (.iinc 3 1, 3) := by decide +kernel
theorem dX12_partOf_177 : decode cX12_partOf 177 = .ok (.goto (-171), 3) := by decide +kernel
theorem dX12_partOf_180 : decode cX12_partOf 180 = .ok (.iload_n 2, 1) := by decide +kernel
theorem dX12_partOf_181 : decode cX12_partOf 181 = .ok (.ireturn, 1) := by decide +kernel
theorem dX12_spread_0 : decode cX12_spread 0 = .ok (.iconst 0, 1) := by decide +kernel
theorem dX12_spread_1 : decode cX12_spread 1 = .ok (.istore_n 2, 1) := by decide +kernel
theorem dX12_spread_2 : decode cX12_spread 2 = .ok (.iconst 0, 1) := by decide +kernel
theorem dX12_spread_3 : decode cX12_spread 3 = .ok (.istore_n 3, 1) := by decide +kernel
theorem dX12_spread_4 : decode cX12_spread 4 = .ok (.iload_n 3, 1) := by decide +kernel
theorem dX12_spread_5 : decode cX12_spread 5 = .ok (.aload_n 0, 1) := by decide +kernel
theorem dX12_spread_6 : decode cX12_spread 6 = .ok (.getfield 496, 3) := by decide +kernel
theorem dX12_spread_9 : decode cX12_spread 9 = .ok (.if_icmp .ge 32, 3) := by decide +kernel
theorem dX12_spread_12 : decode cX12_spread 12 = .ok (.iload_n 2, 1) := by decide +kernel
theorem dX12_spread_13 : decode cX12_spread 13 = .ok (.iload_n 1, 1) := by decide +kernel
theorem dX12_spread_14 : decode cX12_spread 14 = .ok (.iload_n 3, 1) := by decide +kernel
theorem dX12_spread_15 : decode cX12_spread 15 = .ok (.invokestatic 227, 3) := by decide +kernel
theorem dX12_spread_18 : decode cX12_spread 18 = .ok (.ifCond .eq 14, 3) := by decide +kernel
theorem dX12_spread_21 : decode cX12_spread 21 = .ok (.iconst 1, 1) := by decide +kernel
theorem dX12_spread_22 : decode cX12_spread 22 = .ok (.aload_n 0, 1) := by decide +kernel
theorem dX12_spread_23 : decode cX12_spread 23 = .ok (.getfield 75, 3) := by decide +kernel
theorem dX12_spread_26 : decode cX12_spread 26 = .ok (.iload_n 3, 1) := by decide +kernel
theorem dX12_spread_27 : decode cX12_spread 27 = .ok (.iaload, 1) := by decide +kernel
theorem dX12_spread_28 : decode cX12_spread 28 = .ok (.ishl, 1) := by decide +kernel
theorem dX12_spread_29 : decode cX12_spread 29 = .ok (.goto 4, 3) := by decide +kernel
theorem dX12_spread_32 : decode cX12_spread 32 = .ok (.iconst 0, 1) := by decide +kernel
theorem dX12_spread_33 : decode cX12_spread 33 = .ok (.ior, 1) := by decide +kernel
theorem dX12_spread_34 : decode cX12_spread 34 = .ok (.istore_n 2, 1) := by decide +kernel
theorem dX12_spread_35 : decode cX12_spread 35 = .ok (.iinc 3 1, 3) := by decide +kernel
theorem dX12_spread_38 : decode cX12_spread 38 = .ok (.goto (-34), 3) := by decide +kernel
theorem dX12_spread_41 : decode cX12_spread 41 = .ok (.iload_n 2, 1) := by decide +kernel
theorem dX12_spread_42 : decode cX12_spread 42 = .ok (.ireturn, 1) := by decide +kernel
theorem dX12_turned_0 : decode cX12_turned 0 = .ok (.iload_n 1, 1) := by decide +kernel
theorem dX12_turned_1 : decode cX12_turned 1 = .ok (.aload_n 0, 1) := by decide +kernel
theorem dX12_turned_2 : decode cX12_turned 2 = .ok (.getfield 37, 3) := by decide +kernel
theorem dX12_turned_5 : decode cX12_turned 5 = .ok (.iconst 0, 1) := by decide +kernel
theorem dX12_turned_6 : decode cX12_turned 6 = .ok (.iaload, 1) := by decide +kernel
theorem dX12_turned_7 : decode cX12_turned 7 = .ok (.irem, 1) := by decide +kernel
theorem dX12_turned_8 : decode cX12_turned 8 = .ok (.istore_n 3, 1) := by decide +kernel
theorem dX12_turned_9 : decode cX12_turned 9 = .ok (.iload_n 1, 1) := by decide +kernel
theorem dX12_turned_10 : decode cX12_turned 10 = .ok (.aload_n 0, 1) := by decide +kernel
theorem dX12_turned_11 : decode cX12_turned 11 = .ok (.getfield 37, 3) := by decide +kernel
theorem dX12_turned_14 : decode cX12_turned 14 = .ok (.iconst 0, 1) := by decide +kernel
theorem dX12_turned_15 : decode cX12_turned 15 = .ok (.iaload, 1) := by decide +kernel
theorem dX12_turned_16 : decode cX12_turned 16 = .ok (.idiv, 1) := by decide +kernel
theorem dX12_turned_17 : decode cX12_turned 17 = .ok (.istore 4, 2) := by decide +kernel
theorem dX12_turned_19 : decode cX12_turned 19 = .ok (.iload_n 2, 1) := by decide +kernel
theorem dX12_turned_20 : decode cX12_turned 20 = .ok (.iconst 2, 1) := by decide +kernel
theorem dX12_turned_21 : decode cX12_turned 21 = .ok (.invokestatic 227, 3) := by decide +kernel
theorem dX12_turned_24 : decode cX12_turned 24 = .ok (.ifCond .eq 13, 3) := by decide +kernel
theorem dX12_turned_27 : decode cX12_turned 27 = .ok (.iload_n 3, 1) := by decide +kernel
theorem dX12_turned_28 : decode cX12_turned 28 = .ok (.istore 5, 2) := by decide +kernel
theorem dX12_turned_30 : decode cX12_turned 30 = .ok (.iload 4, 2) := by decide +kernel
theorem dX12_turned_32 : decode cX12_turned 32 = .ok (.istore_n 3, 1) := by decide +kernel
theorem dX12_turned_33 : decode cX12_turned 33 = .ok (.iload 5, 2) := by decide +kernel
theorem dX12_turned_35 : decode cX12_turned 35 = .ok (.istore 4, 2) := by decide +kernel
theorem dX12_turned_37 : decode cX12_turned 37 = .ok (.iload_n 2, 1) := by decide +kernel
theorem dX12_turned_38 : decode cX12_turned 38 = .ok (.iconst 0, 1) := by decide +kernel
theorem dX12_turned_39 : decode cX12_turned 39 = .ok (.invokestatic 227, 3) := by decide +kernel
theorem dX12_turned_42 : decode cX12_turned 42 = .ok (.ifCond .eq 14, 3) := by decide +kernel
theorem dX12_turned_45 : decode cX12_turned 45 = .ok (.aload_n 0, 1) := by decide +kernel
theorem dX12_turned_46 : decode cX12_turned 46 = .ok (.getfield 37, 3) := by decide +kernel
theorem dX12_turned_49 : decode cX12_turned 49 = .ok (.iconst 0, 1) := by decide +kernel
theorem dX12_turned_50 : decode cX12_turned 50 = .ok (.iaload, 1) := by decide +kernel
theorem dX12_turned_51 : decode cX12_turned 51 = .ok (.iconst 1, 1) := by decide +kernel
theorem dX12_turned_52 : decode cX12_turned 52 = .ok (.isub, 1) := by decide +kernel
theorem dX12_turned_53 : decode cX12_turned 53 = .ok (.iload_n 3, 1) := by decide +kernel
theorem dX12_turned_54 : decode cX12_turned 54 = .ok (.isub, 1) := by decide +kernel
theorem dX12_turned_55 : decode cX12_turned 55 = .ok (.istore_n 3, 1) := by decide +kernel
theorem dX12_turned_56 : decode cX12_turned 56 = .ok (.iload_n 2, 1) := by decide +kernel
theorem dX12_turned_57 : decode cX12_turned 57 = .ok (.iconst 1, 1) := by decide +kernel
theorem dX12_turned_58 : decode cX12_turned 58 = .ok (.invokestatic 227, 3) := by decide +kernel
theorem dX12_turned_61 : decode cX12_turned 61 = .ok (.ifCond .eq 16, 3) := by decide +kernel
theorem dX12_turned_64 : decode cX12_turned 64 = .ok (.aload_n 0, 1) := by decide +kernel
theorem dX12_turned_65 : decode cX12_turned 65 = .ok (.getfield 37, 3) := by decide +kernel
theorem dX12_turned_68 : decode cX12_turned 68 = .ok (.iconst 1, 1) := by decide +kernel
theorem dX12_turned_69 : decode cX12_turned 69 = .ok (.iaload, 1) := by decide +kernel
theorem dX12_turned_70 : decode cX12_turned 70 = .ok (.iconst 1, 1) := by decide +kernel
theorem dX12_turned_71 : decode cX12_turned 71 = .ok (.isub, 1) := by decide +kernel
theorem dX12_turned_72 : decode cX12_turned 72 = .ok (.iload 4, 2) := by decide +kernel
theorem dX12_turned_74 : decode cX12_turned 74 = .ok (.isub, 1) := by decide +kernel
theorem dX12_turned_75 : decode cX12_turned 75 = .ok (.istore 4, 2) := by decide +kernel
theorem dX12_turned_77 : decode cX12_turned 77 = .ok (.iload 4, 2) := by decide +kernel
theorem dX12_turned_79 : decode cX12_turned 79 = .ok (.aload_n 0, 1) := by decide +kernel
theorem dX12_turned_80 : decode cX12_turned 80 = .ok (.getfield 37, 3) := by decide +kernel
theorem dX12_turned_83 : decode cX12_turned 83 = .ok (.iconst 0, 1) := by decide +kernel
theorem dX12_turned_84 : decode cX12_turned 84 = .ok (.iaload, 1) := by decide +kernel
theorem dX12_turned_85 : decode cX12_turned 85 = .ok (.imul, 1) := by decide +kernel
theorem dX12_turned_86 : decode cX12_turned 86 = .ok (.iload_n 3, 1) := by decide +kernel
theorem dX12_turned_87 : decode cX12_turned 87 = .ok (.iadd, 1) := by decide +kernel
theorem dX12_turned_88 : decode cX12_turned 88 = .ok (.ireturn, 1) := by decide +kernel
theorem dX12_turnedSet_0 : decode cX12_turnedSet 0 = .ok (.iconst 0, 1) := by decide +kernel
theorem dX12_turnedSet_1 : decode cX12_turnedSet 1 = .ok (.istore_n 3, 1) := by decide +kernel
theorem dX12_turnedSet_2 : decode cX12_turnedSet 2 = .ok (.iconst 0, 1) := by decide +kernel
theorem dX12_turnedSet_3 : decode cX12_turnedSet 3 = .ok (.istore 4, 2) := by decide +kernel
theorem dX12_turnedSet_5 : decode cX12_turnedSet 5 = .ok (.iload 4, 2) := by decide +kernel
theorem dX12_turnedSet_7 : decode cX12_turnedSet 7 = .ok (.aload_n 0, 1) := by decide +kernel
theorem dX12_turnedSet_8 : decode cX12_turnedSet 8 = .ok (.getfield 302, 3) := by decide +kernel
theorem dX12_turnedSet_11 : decode cX12_turnedSet 11 = .ok (.if_icmp .ge 34, 3) := by decide +kernel
theorem dX12_turnedSet_14 : decode cX12_turnedSet 14 = .ok (.iload_n 3, 1) := by decide +kernel
theorem dX12_turnedSet_15 : decode cX12_turnedSet 15 = .ok (.iload_n 1, 1) := by decide +kernel
theorem dX12_turnedSet_16 : decode cX12_turnedSet 16 = .ok (.iload 4, 2) := by decide +kernel
theorem dX12_turnedSet_18 : decode cX12_turnedSet 18 = .ok (.invokestatic 227, 3) := by decide +kernel
theorem dX12_turnedSet_21 : decode cX12_turnedSet 21 = .ok (.ifCond .eq 15, 3) := by decide +kernel
theorem dX12_turnedSet_24 : decode cX12_turnedSet 24 = .ok (.iconst 1, 1) := by decide +kernel
theorem dX12_turnedSet_25 : decode cX12_turnedSet 25 = .ok (.aload_n 0, 1) := by decide +kernel
theorem dX12_turnedSet_26 : decode cX12_turnedSet 26 = .ok (.iload 4, 2) := by decide +kernel
theorem dX12_turnedSet_28 : decode cX12_turnedSet 28 = .ok (.iload_n 2, 1) := by decide +kernel
theorem dX12_turnedSet_29 : decode cX12_turnedSet 29 = .ok (.invokevirtual 522, 3) := by decide +kernel
theorem dX12_turnedSet_32 : decode cX12_turnedSet 32 = .ok (.ishl, 1) := by decide +kernel
theorem dX12_turnedSet_33 : decode cX12_turnedSet 33 = .ok (.goto 4, 3) := by decide +kernel
theorem dX12_turnedSet_36 : decode cX12_turnedSet 36 = .ok (.iconst 0, 1) := by decide +kernel
theorem dX12_turnedSet_37 : decode cX12_turnedSet 37 = .ok (.ior, 1) := by decide +kernel
theorem dX12_turnedSet_38 : decode cX12_turnedSet 38 = .ok (.istore_n 3, 1) := by decide +kernel
theorem dX12_turnedSet_39 : decode cX12_turnedSet 39 = .ok (.iinc 4 1, 3) := by decide +kernel
theorem dX12_turnedSet_42 : decode cX12_turnedSet 42 = .ok (.goto (-37), 3) := by decide +kernel
theorem dX12_turnedSet_45 : decode cX12_turnedSet 45 = .ok (.iload_n 3, 1) := by decide +kernel
theorem dX12_turnedSet_46 : decode cX12_turnedSet 46 = .ok (.ireturn, 1) := by decide +kernel
theorem dX12_without_0 : decode cX12_without 0 = .ok (.iload_n 1, 1) := by decide +kernel
theorem dX12_without_1 : decode cX12_without 1 = .ok (.aload_n 0, 1) := by decide +kernel
theorem dX12_without_2 : decode cX12_without 2 = .ok (.iload_n 1, 1) := by decide +kernel
theorem dX12_without_3 : decode cX12_without 3 = .ok (.iload_n 2, 1) := by decide +kernel
theorem dX12_without_4 : decode cX12_without 4 = .ok (.bipush 100, 2) := by decide +kernel
theorem dX12_without_6 : decode cX12_without 6 = .ok (.idiv, 1) := by decide +kernel
theorem dX12_without_7 : decode cX12_without 7 = .ok (.iload_n 2, 1) := by decide +kernel
theorem dX12_without_8 : decode cX12_without 8 = .ok (.bipush 10, 2) := by decide +kernel
theorem dX12_without_10 : decode cX12_without 10 = .ok (.idiv, 1) := by decide +kernel
theorem dX12_without_11 : decode cX12_without 11 = .ok (.bipush 10, 2) := by decide +kernel
theorem dX12_without_13 : decode cX12_without 13 = .ok (.irem, 1) := by decide +kernel
theorem dX12_without_14 : decode cX12_without 14 = .ok (.iload_n 2, 1) := by decide +kernel
theorem dX12_without_15 : decode cX12_without 15 = .ok (.bipush 10, 2) := by decide +kernel
theorem dX12_without_17 : decode cX12_without 17 = .ok (.irem, 1) := by decide +kernel
theorem dX12_without_18 : decode cX12_without 18 = .ok (.invokevirtual 386, 3) := by decide +kernel
theorem dX12_without_21 : decode cX12_without 21 = .ok (.iconst (-1), 1) := by decide +kernel
theorem dX12_without_22 : decode cX12_without 22 = .ok (.ixor, 1) := by decide +kernel
theorem dX12_without_23 : decode cX12_without 23 = .ok (.iand, 1) := by decide +kernel
theorem dX12_without_24 : decode cX12_without 24 = .ok (.ireturn, 1) := by decide +kernel
theorem wl_9_116 : (.methodLink RX12 522 yX12_turned : Cond) ∈ sg_tbl := tb_9 _ (List.mem_of_getElem? (i := 116) (by decide +kernel)) (by decide +kernel)
theorem wl_8_55 : (.methodLink RX12 355 yX12_isCell : Cond) ∈ sg_tbl := tb_8 _ (List.mem_of_getElem? (i := 55) (by decide +kernel)) (by decide +kernel)
theorem wl_6_210 : (.fieldLink RX12 52 "LawnAheadModel" "now" "[I" : Cond) ∈ sg_tbl := tb_6 _ (List.mem_of_getElem? (i := 210) (by decide +kernel)) (by decide +kernel)
theorem wl_6_202 : (.fieldLink RX12 305 "LawnAheadModel" "beds" "I" : Cond) ∈ sg_tbl := tb_6 _ (List.mem_of_getElem? (i := 202) (by decide +kernel)) (by decide +kernel)
theorem wl_6_228 : (.fieldLink RX12 308 "LawnAheadModel" "books" "I" : Cond) ∈ sg_tbl := tb_6 _ (List.mem_of_getElem? (i := 228) (by decide +kernel)) (by decide +kernel)
theorem wl_6_226 : (.fieldLink RX12 84 "LawnAheadModel" "bookAround" "[I" : Cond) ∈ sg_tbl := tb_6 _ (List.mem_of_getElem? (i := 226) (by decide +kernel)) (by decide +kernel)
theorem wl_6_227 : (.fieldLink RX12 87 "LawnAheadModel" "bookMay" "[Z" : Cond) ∈ sg_tbl := tb_6 _ (List.mem_of_getElem? (i := 227) (by decide +kernel)) (by decide +kernel)
theorem wl_8_160 : (.constantLong RX12 412 (6364136223846793005) : Cond) ∈ sg_tbl := tb_8 _ (List.mem_of_getElem? (i := 160) (by decide +kernel)) (by decide +kernel)
theorem wl_8_161 : (.constantLong RX12 414 (1442695040888963407) : Cond) ∈ sg_tbl := tb_8 _ (List.mem_of_getElem? (i := 161) (by decide +kernel)) (by decide +kernel)
theorem wl_6_218 : (.fieldLink RX12 408 "LawnAheadModel" "x" "J" : Cond) ∈ sg_tbl := tb_6 _ (List.mem_of_getElem? (i := 218) (by decide +kernel)) (by decide +kernel)
theorem wl_6_207 : (.fieldLink RX12 297 "LawnAheadModel" "games" "I" : Cond) ∈ sg_tbl := tb_6 _ (List.mem_of_getElem? (i := 207) (by decide +kernel)) (by decide +kernel)
theorem wl_7_119 : (.methodLink RX12 215 yX12_isIn : Cond) ∈ sg_tbl := tb_7 _ (List.mem_of_getElem? (i := 119) (by decide +kernel)) (by decide +kernel)
theorem wl_8_121 : (.methodLink RX12 386 yX12_cutBits : Cond) ∈ sg_tbl := tb_8 _ (List.mem_of_getElem? (i := 121) (by decide +kernel)) (by decide +kernel)
theorem wl_9_47 : (.methodLink RX12 490 yX12_partOf : Cond) ∈ sg_tbl := tb_9 _ (List.mem_of_getElem? (i := 47) (by decide +kernel)) (by decide +kernel)
theorem wl_6_225 : (.fieldLink RX12 496 "LawnAheadModel" "cellMany" "I" : Cond) ∈ sg_tbl := tb_6 _ (List.mem_of_getElem? (i := 225) (by decide +kernel)) (by decide +kernel)
theorem wl_6_222 : (.fieldLink RX12 75 "LawnAheadModel" "cellRow" "[I" : Cond) ∈ sg_tbl := tb_6 _ (List.mem_of_getElem? (i := 222) (by decide +kernel)) (by decide +kernel)
theorem wl_9_71 : (.methodLink RX12 508 Lib.Math.min.name : Cond) ∈ sg_tbl := tb_9 _ (List.mem_of_getElem? (i := 71) (by decide +kernel)) (by decide +kernel)
theorem wl_6_178 : (.fieldLink RX12 94 "LawnAheadModel" "thrown" "I" : Cond) ∈ sg_tbl := tb_6 _ (List.mem_of_getElem? (i := 178) (by decide +kernel)) (by decide +kernel)
theorem wl_9_108 : (.methodLink RX12 525 yX12_turns : Cond) ∈ sg_tbl := tb_9 _ (List.mem_of_getElem? (i := 108) (by decide +kernel)) (by decide +kernel)
theorem wl_9_112 : (.methodLink RX12 528 yX12_turnedSet : Cond) ∈ sg_tbl := tb_9 _ (List.mem_of_getElem? (i := 112) (by decide +kernel)) (by decide +kernel)
theorem wl_9_119 : (.code yX12_turned cX12_turned 6 (some .int) : Cond) ∈ sg_tbl := tb_9 _ (List.mem_of_getElem? (i := 119) (by decide +kernel)) (by decide +kernel)
theorem wl_9_118 : (.instanceMethod yX12_turned : Cond) ∈ sg_tbl := tb_9 _ (List.mem_of_getElem? (i := 118) (by decide +kernel)) (by decide +kernel)
theorem wl_0_112 : (.selects RX12 yX12_turned yX12_turned : Cond) ∈ sg_tbl := tb_0 _ (List.mem_of_getElem? (i := 112) (by decide +kernel)) (by decide +kernel)
theorem wl_9_115 : (.code yX12_turnedSet cX12_turnedSet 5 (some .int) : Cond) ∈ sg_tbl := tb_9 _ (List.mem_of_getElem? (i := 115) (by decide +kernel)) (by decide +kernel)
theorem wl_9_114 : (.instanceMethod yX12_turnedSet : Cond) ∈ sg_tbl := tb_9 _ (List.mem_of_getElem? (i := 114) (by decide +kernel)) (by decide +kernel)
theorem wl_0_111 : (.selects RX12 yX12_turnedSet yX12_turnedSet : Cond) ∈ sg_tbl := tb_0 _ (List.mem_of_getElem? (i := 111) (by decide +kernel)) (by decide +kernel)
theorem wl_9_91 : (.code yX12_isGrass cX12_isGrass 2 (some .boolean) : Cond) ∈ sg_tbl := tb_9 _ (List.mem_of_getElem? (i := 91) (by decide +kernel)) (by decide +kernel)
theorem wl_9_90 : (.instanceMethod yX12_isGrass : Cond) ∈ sg_tbl := tb_9 _ (List.mem_of_getElem? (i := 90) (by decide +kernel)) (by decide +kernel)
theorem wl_0_108 : (.selects RX12 yX12_isGrass yX12_isGrass : Cond) ∈ sg_tbl := tb_0 _ (List.mem_of_getElem? (i := 108) (by decide +kernel)) (by decide +kernel)
theorem wl_9_99 : (.code yX12_fits cX12_fits 4 (some .boolean) : Cond) ∈ sg_tbl := tb_9 _ (List.mem_of_getElem? (i := 99) (by decide +kernel)) (by decide +kernel)
theorem wl_9_98 : (.instanceMethod yX12_fits : Cond) ∈ sg_tbl := tb_9 _ (List.mem_of_getElem? (i := 98) (by decide +kernel)) (by decide +kernel)
theorem wl_0_109 : (.selects RX12 yX12_fits yX12_fits : Cond) ∈ sg_tbl := tb_0 _ (List.mem_of_getElem? (i := 109) (by decide +kernel)) (by decide +kernel)
theorem wl_8_159 : (.code yX12_draw cX12_draw 2 (some .int) : Cond) ∈ sg_tbl := tb_8 _ (List.mem_of_getElem? (i := 159) (by decide +kernel)) (by decide +kernel)
theorem wl_8_158 : (.instanceMethod yX12_draw : Cond) ∈ sg_tbl := tb_8 _ (List.mem_of_getElem? (i := 158) (by decide +kernel)) (by decide +kernel)
theorem wl_0_86 : (.selects RX12 yX12_draw yX12_draw : Cond) ∈ sg_tbl := tb_0 _ (List.mem_of_getElem? (i := 86) (by decide +kernel)) (by decide +kernel)
theorem wl_8_198 : (.code yX12_isGame cX12_isGame 2 (some .boolean) : Cond) ∈ sg_tbl := tb_8 _ (List.mem_of_getElem? (i := 198) (by decide +kernel)) (by decide +kernel)
theorem wl_8_197 : (.instanceMethod yX12_isGame : Cond) ∈ sg_tbl := tb_8 _ (List.mem_of_getElem? (i := 197) (by decide +kernel)) (by decide +kernel)
theorem wl_0_91 : (.selects RX12 yX12_isGame yX12_isGame : Cond) ∈ sg_tbl := tb_0 _ (List.mem_of_getElem? (i := 91) (by decide +kernel)) (by decide +kernel)
theorem wl_8_124 : (.code yX12_cutBits cX12_cutBits 7 (some .int) : Cond) ∈ sg_tbl := tb_8 _ (List.mem_of_getElem? (i := 124) (by decide +kernel)) (by decide +kernel)
theorem wl_8_123 : (.instanceMethod yX12_cutBits : Cond) ∈ sg_tbl := tb_8 _ (List.mem_of_getElem? (i := 123) (by decide +kernel)) (by decide +kernel)
theorem wl_0_82 : (.selects RX12 yX12_cutBits yX12_cutBits : Cond) ∈ sg_tbl := tb_0 _ (List.mem_of_getElem? (i := 82) (by decide +kernel)) (by decide +kernel)
theorem wl_8_176 : (.code yX12_codeOf cX12_codeOf 6 (some .int) : Cond) ∈ sg_tbl := tb_8 _ (List.mem_of_getElem? (i := 176) (by decide +kernel)) (by decide +kernel)
theorem wl_8_175 : (.instanceMethod yX12_codeOf : Cond) ∈ sg_tbl := tb_8 _ (List.mem_of_getElem? (i := 175) (by decide +kernel)) (by decide +kernel)
theorem wl_0_89 : (.selects RX12 yX12_codeOf yX12_codeOf : Cond) ∈ sg_tbl := tb_0 _ (List.mem_of_getElem? (i := 89) (by decide +kernel)) (by decide +kernel)
theorem wl_8_180 : (.code yX12_without cX12_without 3 (some .int) : Cond) ∈ sg_tbl := tb_8 _ (List.mem_of_getElem? (i := 180) (by decide +kernel)) (by decide +kernel)
theorem wl_8_179 : (.instanceMethod yX12_without : Cond) ∈ sg_tbl := tb_8 _ (List.mem_of_getElem? (i := 179) (by decide +kernel)) (by decide +kernel)
theorem wl_0_90 : (.selects RX12 yX12_without yX12_without : Cond) ∈ sg_tbl := tb_0 _ (List.mem_of_getElem? (i := 90) (by decide +kernel)) (by decide +kernel)
theorem wl_9_50 : (.code yX12_partOf cX12_partOf 6 (some .int) : Cond) ∈ sg_tbl := tb_9 _ (List.mem_of_getElem? (i := 50) (by decide +kernel)) (by decide +kernel)
theorem wl_9_49 : (.instanceMethod yX12_partOf : Cond) ∈ sg_tbl := tb_9 _ (List.mem_of_getElem? (i := 49) (by decide +kernel)) (by decide +kernel)
theorem wl_0_102 : (.selects RX12 yX12_partOf yX12_partOf : Cond) ∈ sg_tbl := tb_0 _ (List.mem_of_getElem? (i := 102) (by decide +kernel)) (by decide +kernel)
theorem wl_9_46 : (.code yX12_partAt cX12_partAt 6 (some .int) : Cond) ∈ sg_tbl := tb_9 _ (List.mem_of_getElem? (i := 46) (by decide +kernel)) (by decide +kernel)
theorem wl_9_45 : (.instanceMethod yX12_partAt : Cond) ∈ sg_tbl := tb_9 _ (List.mem_of_getElem? (i := 45) (by decide +kernel)) (by decide +kernel)
theorem wl_0_101 : (.selects RX12 yX12_partAt yX12_partAt : Cond) ∈ sg_tbl := tb_0 _ (List.mem_of_getElem? (i := 101) (by decide +kernel)) (by decide +kernel)
theorem wl_9_66 : (.code yX12_spread cX12_spread 4 (some .int) : Cond) ∈ sg_tbl := tb_9 _ (List.mem_of_getElem? (i := 66) (by decide +kernel)) (by decide +kernel)
theorem wl_9_65 : (.instanceMethod yX12_spread : Cond) ∈ sg_tbl := tb_9 _ (List.mem_of_getElem? (i := 65) (by decide +kernel)) (by decide +kernel)
theorem wl_0_105 : (.selects RX12 yX12_spread yX12_spread : Cond) ∈ sg_tbl := tb_0 _ (List.mem_of_getElem? (i := 105) (by decide +kernel)) (by decide +kernel)
theorem wl_9_70 : (.code yX12_gathered cX12_gathered 4 (some .int) : Cond) ∈ sg_tbl := tb_9 _ (List.mem_of_getElem? (i := 70) (by decide +kernel)) (by decide +kernel)
theorem wl_9_69 : (.instanceMethod yX12_gathered : Cond) ∈ sg_tbl := tb_9 _ (List.mem_of_getElem? (i := 69) (by decide +kernel)) (by decide +kernel)
theorem wl_0_106 : (.selects RX12 yX12_gathered yX12_gathered : Cond) ∈ sg_tbl := tb_0 _ (List.mem_of_getElem? (i := 106) (by decide +kernel)) (by decide +kernel)
theorem wl_9_107 : (.code yX12_alike cX12_alike 6 (some .int) : Cond) ∈ sg_tbl := tb_9 _ (List.mem_of_getElem? (i := 107) (by decide +kernel)) (by decide +kernel)
theorem wl_9_105 : (.instanceMethod yX12_alike : Cond) ∈ sg_tbl := tb_9 _ (List.mem_of_getElem? (i := 105) (by decide +kernel)) (by decide +kernel)
theorem wl_9_106 : (.selects RX12 yX12_alike yX12_alike : Cond) ∈ sg_tbl := tb_9 _ (List.mem_of_getElem? (i := 106) (by decide +kernel)) (by decide +kernel)
section
variable {p : Program} {l : Launch} {e : Env} {R : Room} {s : State} {m : MethodId} {args : Array Value} {below : List Frame} {meth : Method} {c : Code} {H : Heap} {locs : List Loc} {cells slots : Nat} {Q : State → Prop} {cc : ByteArray} {nL pc : Nat} {ls : Array Slot} {rest : List Value} {own : String} {D : va_G} {A : Nat → Prop} {tys : List (ClassId × FieldType)} {ad ks : List Nat} {P : sgPm} {H0 : Heap} {index : Nat} {base : Nat} {st0 : List Value} {a : Nat}
theorem gf_X12_24   (X : CallFix p m c cc nL s args sg_tbl own) (hK : va_K D vwCl tys s) (hG : sgG (KT P) D vwCl A tys ad ks H) (ha : isK ad ks 12 a) (hl : Cond.fieldLink own index "LawnAheadModel" "beds" "I" ∈ sg_tbl) (hdg : decode cc pc = .ok (.getfield index, 3)) (kk : ∀ x : Int32, iv (-2147483648) 2147483647 x → fld D H 12 a 24 (.int x) → W p l e R s m args below meth c H locs cells slots Q (F0 m (pc + 3) ls (.int x :: rest))) : W p l e R s m args below meth c H locs cells slots Q (F0 m pc ls (.ref a :: rest)) :=
  sg_get X hK hG ha (k := 12) (ci := 12) rfl (C := RX12) (T := TX12) (N := 53) rfl inL_X12 24 (by decide) rfl hl (fun _ h => h) hdg (fun v hv hf => by obtain ⟨x, rfl, hx⟩ := hv; exact kk x hx hf)
theorem gf_X12_29   (X : CallFix p m c cc nL s args sg_tbl own) (hK : va_K D vwCl tys s) (hG : sgG (KT P) D vwCl A tys ad ks H) (ha : isK ad ks 12 a) (hl : Cond.fieldLink own index "LawnAheadModel" "games" "I" ∈ sg_tbl) (hdg : decode cc pc = .ok (.getfield index, 3)) (kk : ∀ x : Int32, iv 0 4 x → iv (P.2.2.2.2.2.2.2.2.2.1.val : Int) (P.2.2.2.2.2.2.2.2.2.1.val : Int) x → fld D H 12 a 29 (.int x) → W p l e R s m args below meth c H locs cells slots Q (F0 m (pc + 3) ls (.int x :: rest))) : W p l e R s m args below meth c H locs cells slots Q (F0 m pc ls (.ref a :: rest)) :=
  sg_get X hK hG ha (k := 12) (ci := 12) rfl (C := RX12) (T := TX12) (N := 53) rfl inL_X12 29 (by decide) rfl hl (fun _ h => h) hdg (fun v hv hf => by obtain ⟨x, rfl, hx⟩ := hv; exact kk x (sg_pin4 hx) hx hf)
theorem gf_X12_32   (X : CallFix p m c cc nL s args sg_tbl own) (hK : va_K D vwCl tys s) (hG : sgG (KT P) D vwCl A tys ad ks H) (ha : isK ad ks 12 a) (hl : Cond.fieldLink own index "LawnAheadModel" "now" "[I" ∈ sg_tbl) (hdg : decode cc pc = .ok (.getfield index, 3)) (kk : ∀ x : Nat, isK ad ks 54 x → fld D H 12 a 32 (.ref x) → W p l e R s m args below meth c H locs cells slots Q (F0 m (pc + 3) ls (.ref x :: rest))) : W p l e R s m args below meth c H locs cells slots Q (F0 m pc ls (.ref a :: rest)) :=
  sg_get X hK hG ha (k := 12) (ci := 12) rfl (C := RX12) (T := TX12) (N := 53) rfl inL_X12 32 (by decide) rfl hl (fun _ h => h) hdg (fun v hv hf => by
    obtain ⟨h1, -⟩ | ⟨x, rfl, hx⟩ := hv
    · cases h1
    · exact kk x hx hf)
theorem gf_X12_40   (X : CallFix p m c cc nL s args sg_tbl own) (hK : va_K D vwCl tys s) (hG : sgG (KT P) D vwCl A tys ad ks H) (ha : isK ad ks 12 a) (hl : Cond.fieldLink own index "LawnAheadModel" "x" "J" ∈ sg_tbl) (hdg : decode cc pc = .ok (.getfield index, 3)) (kk : ∀ x : Int64, True → fld D H 12 a 40 (.long x) → W p l e R s m args below meth c H locs cells slots Q (F0 m (pc + 3) ls (.long x :: rest))) : W p l e R s m args below meth c H locs cells slots Q (F0 m pc ls (.ref a :: rest)) :=
  sg_get X hK hG ha (k := 12) (ci := 12) rfl (C := RX12) (T := TX12) (N := 53) rfl inL_X12 40 (by decide) rfl hl (fun _ h => h) hdg (fun v hv hf => by obtain ⟨x, rfl⟩ := hv; exact kk x trivial hf)
theorem gf_X12_44   (X : CallFix p m c cc nL s args sg_tbl own) (hK : va_K D vwCl tys s) (hG : sgG (KT P) D vwCl A tys ad ks H) (ha : isK ad ks 12 a) (hl : Cond.fieldLink own index "LawnAheadModel" "cellRow" "[I" ∈ sg_tbl) (hdg : decode cc pc = .ok (.getfield index, 3)) (kk : ∀ x : Nat, isK ad ks 60 x → fld D H 12 a 44 (.ref x) → W p l e R s m args below meth c H locs cells slots Q (F0 m (pc + 3) ls (.ref x :: rest))) : W p l e R s m args below meth c H locs cells slots Q (F0 m pc ls (.ref a :: rest)) :=
  sg_get X hK hG ha (k := 12) (ci := 12) rfl (C := RX12) (T := TX12) (N := 53) rfl inL_X12 44 (by decide) rfl hl (fun _ h => h) hdg (fun v hv hf => by
    obtain ⟨h1, -⟩ | ⟨x, rfl, hx⟩ := hv
    · cases h1
    · exact kk x hx hf)
theorem gf_X12_47   (X : CallFix p m c cc nL s args sg_tbl own) (hK : va_K D vwCl tys s) (hG : sgG (KT P) D vwCl A tys ad ks H) (ha : isK ad ks 12 a) (hl : Cond.fieldLink own index "LawnAheadModel" "cellMany" "I" ∈ sg_tbl) (hdg : decode cc pc = .ok (.getfield index, 3)) (kk : ∀ x : Int32, iv 0 12 x → fld D H 12 a 47 (.int x) → W p l e R s m args below meth c H locs cells slots Q (F0 m (pc + 3) ls (.int x :: rest))) : W p l e R s m args below meth c H locs cells slots Q (F0 m pc ls (.ref a :: rest)) :=
  sg_get X hK hG ha (k := 12) (ci := 12) rfl (C := RX12) (T := TX12) (N := 53) rfl inL_X12 47 (by decide) rfl hl (fun _ h => h) hdg (fun v hv hf => by obtain ⟨x, rfl, hx⟩ := hv; exact kk x hx hf)
theorem gf_X12_48   (X : CallFix p m c cc nL s args sg_tbl own) (hK : va_K D vwCl tys s) (hG : sgG (KT P) D vwCl A tys ad ks H) (ha : isK ad ks 12 a) (hl : Cond.fieldLink own index "LawnAheadModel" "bookAround" "[I" ∈ sg_tbl) (hdg : decode cc pc = .ok (.getfield index, 3)) (kk : ∀ x : Nat, isK ad ks 63 x → fld D H 12 a 48 (.ref x) → W p l e R s m args below meth c H locs cells slots Q (F0 m (pc + 3) ls (.ref x :: rest))) : W p l e R s m args below meth c H locs cells slots Q (F0 m pc ls (.ref a :: rest)) :=
  sg_get X hK hG ha (k := 12) (ci := 12) rfl (C := RX12) (T := TX12) (N := 53) rfl inL_X12 48 (by decide) rfl hl (fun _ h => h) hdg (fun v hv hf => by
    obtain ⟨h1, -⟩ | ⟨x, rfl, hx⟩ := hv
    · cases h1
    · exact kk x hx hf)
theorem gf_X12_49   (X : CallFix p m c cc nL s args sg_tbl own) (hK : va_K D vwCl tys s) (hG : sgG (KT P) D vwCl A tys ad ks H) (ha : isK ad ks 12 a) (hl : Cond.fieldLink own index "LawnAheadModel" "bookMay" "[Z" ∈ sg_tbl) (hdg : decode cc pc = .ok (.getfield index, 3)) (kk : ∀ x : Nat, isK ad ks 64 x → fld D H 12 a 49 (.ref x) → W p l e R s m args below meth c H locs cells slots Q (F0 m (pc + 3) ls (.ref x :: rest))) : W p l e R s m args below meth c H locs cells slots Q (F0 m pc ls (.ref a :: rest)) :=
  sg_get X hK hG ha (k := 12) (ci := 12) rfl (C := RX12) (T := TX12) (N := 53) rfl inL_X12 49 (by decide) rfl hl (fun _ h => h) hdg (fun v hv hf => by
    obtain ⟨h1, -⟩ | ⟨x, rfl, hx⟩ := hv
    · cases h1
    · exact kk x hx hf)
theorem gf_X12_50   (X : CallFix p m c cc nL s args sg_tbl own) (hK : va_K D vwCl tys s) (hG : sgG (KT P) D vwCl A tys ad ks H) (ha : isK ad ks 12 a) (hl : Cond.fieldLink own index "LawnAheadModel" "books" "I" ∈ sg_tbl) (hdg : decode cc pc = .ok (.getfield index, 3)) (kk : ∀ x : Int32, iv 0 12 x → fld D H 12 a 50 (.int x) → W p l e R s m args below meth c H locs cells slots Q (F0 m (pc + 3) ls (.int x :: rest))) : W p l e R s m args below meth c H locs cells slots Q (F0 m pc ls (.ref a :: rest)) :=
  sg_get X hK hG ha (k := 12) (ci := 12) rfl (C := RX12) (T := TX12) (N := 53) rfl inL_X12 50 (by decide) rfl hl (fun _ h => h) hdg (fun v hv hf => by obtain ⟨x, rfl, hx⟩ := hv; exact kk x hx hf)
theorem gg_X12_23   (X : CallFix p m c cc nL s args sg_tbl own) (hK : va_K D vwCl tys s) (hG : sgG (KT P) D vwCl A tys ad ks H) (ha : isK ad ks 12 a) (hl : Cond.fieldLink own index "LawnAheadModel" "cells" "I" ∈ sg_tbl) {v : Value} (hf : fld D H 12 a 23 v) (hdg : decode cc pc = .ok (.getfield index, 3)) (kk : W p l e R s m args below meth c H locs cells slots Q (F0 m (pc + 3) ls (v :: rest))) : W p l e R s m args below meth c H locs cells slots Q (F0 m pc ls (.ref a :: rest)) :=
  sg_getf X hK hG ha (k := 12) (ci := 12) rfl (C := RX12) (T := TX12) (N := 53) rfl inL_X12 23 (by decide) (show 23 < 53 by decide) hl (fun _ h => h) hf hdg kk
theorem gg_X12_32   (X : CallFix p m c cc nL s args sg_tbl own) (hK : va_K D vwCl tys s) (hG : sgG (KT P) D vwCl A tys ad ks H) (ha : isK ad ks 12 a) (hl : Cond.fieldLink own index "LawnAheadModel" "now" "[I" ∈ sg_tbl) {v : Value} (hf : fld D H 12 a 32 v) (hdg : decode cc pc = .ok (.getfield index, 3)) (kk : W p l e R s m args below meth c H locs cells slots Q (F0 m (pc + 3) ls (v :: rest))) : W p l e R s m args below meth c H locs cells slots Q (F0 m pc ls (.ref a :: rest)) :=
  sg_getf X hK hG ha (k := 12) (ci := 12) rfl (C := RX12) (T := TX12) (N := 53) rfl inL_X12 32 (by decide) (show 32 < 53 by decide) hl (fun _ h => h) hf hdg kk
theorem gg_X12_40   (X : CallFix p m c cc nL s args sg_tbl own) (hK : va_K D vwCl tys s) (hG : sgG (KT P) D vwCl A tys ad ks H) (ha : isK ad ks 12 a) (hl : Cond.fieldLink own index "LawnAheadModel" "x" "J" ∈ sg_tbl) {v : Value} (hf : fld D H 12 a 40 v) (hdg : decode cc pc = .ok (.getfield index, 3)) (kk : W p l e R s m args below meth c H locs cells slots Q (F0 m (pc + 3) ls (v :: rest))) : W p l e R s m args below meth c H locs cells slots Q (F0 m pc ls (.ref a :: rest)) :=
  sg_getf X hK hG ha (k := 12) (ci := 12) rfl (C := RX12) (T := TX12) (N := 53) rfl inL_X12 40 (by decide) (show 40 < 53 by decide) hl (fun _ h => h) hf hdg kk
theorem gg_X12_48   (X : CallFix p m c cc nL s args sg_tbl own) (hK : va_K D vwCl tys s) (hG : sgG (KT P) D vwCl A tys ad ks H) (ha : isK ad ks 12 a) (hl : Cond.fieldLink own index "LawnAheadModel" "bookAround" "[I" ∈ sg_tbl) {v : Value} (hf : fld D H 12 a 48 v) (hdg : decode cc pc = .ok (.getfield index, 3)) (kk : W p l e R s m args below meth c H locs cells slots Q (F0 m (pc + 3) ls (v :: rest))) : W p l e R s m args below meth c H locs cells slots Q (F0 m pc ls (.ref a :: rest)) :=
  sg_getf X hK hG ha (k := 12) (ci := 12) rfl (C := RX12) (T := TX12) (N := 53) rfl inL_X12 48 (by decide) (show 48 < 53 by decide) hl (fun _ h => h) hf hdg kk
theorem pf_X12_0  {x : Int32}  (X : CallFix p m c cc nL s args sg_tbl own) (hK : va_K D vwCl tys s) (hG : sgG (KT P) D vwCl A tys ad ks H) (hS : va_S A H0 H locs) (ha : isK ad ks 12 a) (hl : Cond.fieldLink own index "LawnAheadModel" "thrown" "I" ∈ sg_tbl) (hv : okV ad ks (.inl ((-2147483648), 2147483647)) (.int x)) (hdg : decode cc pc = .ok (.putfield index, 3)) (kk : ∀ (H1 : Heap) (locs1 : List Loc), sgG (KT P) D vwCl A tys ad ks H1 → va_S A H0 H1 locs1 → fld D H1 12 a 0 (.int x) → sgFr (KT P) D vwCl ad ks H H1 (fun a' j' => a' = a ∧ j' = 0) → W p l e R s m args below meth c H1 locs1 cells slots Q (F0 m (pc + 3) ls rest)) : W p l e R s m args below meth c H locs cells slots Q (F0 m pc ls (.int x :: .ref a :: rest)) :=
  sg_put X hK hG hS ha (k := 12) (ci := 12) rfl (C := RX12) (T := TX12) (N := 53) rfl inL_X12 tyX12 tyX12_ok nmX12 0 (by decide) rfl hl (fun _ h => h) rfl (ty := .int) rfl rfl rfl hv hdg kk
theorem pf_X12_40  {x : Int64}  (X : CallFix p m c cc nL s args sg_tbl own) (hK : va_K D vwCl tys s) (hG : sgG (KT P) D vwCl A tys ad ks H) (hS : va_S A H0 H locs) (ha : isK ad ks 12 a) (hl : Cond.fieldLink own index "LawnAheadModel" "x" "J" ∈ sg_tbl) (hv : okV ad ks (.inr (.inr false)) (.long x)) (hdg : decode cc pc = .ok (.putfield index, 3)) (kk : ∀ (H1 : Heap) (locs1 : List Loc), sgG (KT P) D vwCl A tys ad ks H1 → va_S A H0 H1 locs1 → fld D H1 12 a 40 (.long x) → sgFr (KT P) D vwCl ad ks H H1 (fun a' j' => a' = a ∧ j' = 40) → W p l e R s m args below meth c H1 locs1 cells slots Q (F0 m (pc + 3) ls rest)) : W p l e R s m args below meth c H locs cells slots Q (F0 m pc ls (.long x :: .ref a :: rest)) :=
  sg_put X hK hG hS ha (k := 12) (ci := 12) rfl (C := RX12) (T := TX12) (N := 53) rfl inL_X12 tyX12 tyX12_ok nmX12 40 (by decide) rfl hl (fun _ h => h) rfl (ty := .long) rfl rfl rfl hv hdg kk
theorem al_60  {i : Int32}  (X : CallFix p m c cc nL s args sg_tbl own) (hK : va_K D vwCl tys s) (hG : sgG (KT P) D vwCl A tys ad ks H) (ha : isK ad ks 60 a) (hin : vp_in i 12) (hdg : decode cc pc = .ok (.iaload, 1)) (kk : ∀ x : Int32, iv (-2147483648) 2147483647 x → W p l e R s m args below meth c H locs cells slots Q (F0 m (pc + 1) ls (.int x :: rest))) : W p l e R s m args below meth c H locs cells slots Q (F0 m pc ls (.int i :: .ref a :: rest)) :=
  sg_iald X hK hG ha (k := 60) rfl hin hdg (fun x hx => by obtain ⟨y, h1, h2⟩ := hx; cases h1; exact kk _ h2)
theorem al_63  {i : Int32}  (X : CallFix p m c cc nL s args sg_tbl own) (hK : va_K D vwCl tys s) (hG : sgG (KT P) D vwCl A tys ad ks H) (ha : isK ad ks 63 a) (hin : vp_in i 12) (hdg : decode cc pc = .ok (.iaload, 1)) (kk : ∀ x : Int32, iv (-2147483648) 2147483647 x → W p l e R s m args below meth c H locs cells slots Q (F0 m (pc + 1) ls (.int x :: rest))) : W p l e R s m args below meth c H locs cells slots Q (F0 m pc ls (.int i :: .ref a :: rest)) :=
  sg_iald X hK hG ha (k := 63) rfl hin hdg (fun x hx => by obtain ⟨y, h1, h2⟩ := hx; cases h1; exact kk _ h2)
theorem al_64  {i : Int32}  (X : CallFix p m c cc nL s args sg_tbl own) (hK : va_K D vwCl tys s) (hG : sgG (KT P) D vwCl A tys ad ks H) (ha : isK ad ks 64 a) (hin : vp_in i 12) (hdg : decode cc pc = .ok (.baload, 1)) (kk : ∀ x : Int32, iv 0 1 x → W p l e R s m args below meth c H locs cells slots Q (F0 m (pc + 1) ls (.int x :: rest))) : W p l e R s m args below meth c H locs cells slots Q (F0 m pc ls (.int i :: .ref a :: rest)) :=
  sg_zald X hK hG ha (k := 64) rfl hin hdg (fun x hx => by obtain ⟨y, h1, h2⟩ := hx; cases h1; exact kk _ h2)
set_option maxHeartbeats 8000000 in
set_option maxRecDepth 100000 in
theorem m_X12_turned_1 (l : Launch) {D : va_G} {base : Nat} {tys : List (ClassId × FieldType)} {ad ks : List Nat} {P : sgPm} {Hx : Heap} (hp4 : P.2.2.2.2.1 = true) (a0 : Nat) (h0 : isK ad ks 12 a0) (x1 : Int32) (h1 : iv 0 29 x1) (x2 : Int32) (h2 : iv 0 7 x2) : sgPi l (KT P) D vwCl base tys ad ks Hx yX12_turned cX12_turned 6 (some .int) ({ frames := 1, cells := 0, slots := 0, locals := 21 }) [.ref a0, .int x1, .int x2] (fun r : Int32 => True) := by
  refine sg_ofP (Pq := fun Hx => va_Qi (fun r (_ : Unit) => (fun r : Int32 => True) r) (fun _ t => t.heap = Hx) (fun _ : Nat => False)) (by decide +kernel) (Nat.le_of_ble_eq_true rfl) (fun p e s m below meth c X hr hlk hb hK hC hG ls hl => ?_)
  have hS : va_S (fun _ : Nat => False) s.heap s.heap [] := va_S.rf
  have hl : lv_has ls 6 [(0, .ref a0), (1, .int x1), (2, .int x2)] := hl
  refine lv_iload_n X.1 X.2.1 dX12_turned_0 rfl (lv_at hl 1 rfl) ?_
  refine lv_aload_n X.1 X.2.1 dX12_turned_1 rfl (lv_at hl 0 rfl) ?_
  refine gf_X12_18 X hK hG h0 wl_6_196 dX12_turned_2 (fun q1 hq1 kq1 => ?_)
  refine lv_iconst (v := 0) X.1 X.2.1 dX12_turned_5 (by decide +kernel) ?_
  refine al_49 X hK hG hq1 (iv_vpin (iv_c 0 (a := 0) (b := 0) (by decide +kernel)) (by decide +kernel)) dX12_turned_6 (fun f2 hf2 => ?_)
  have of2 := hf2
  have hf2 : iv 1 6 f2 := sg_r1 hp4 hf2 (iv_c 0 (a := 0) (b := 0) (by decide +kernel)) (by decide +kernel) rfl
  refine lv_irem X.1 X.2.1 dX12_turned_7 (iv_ne0 hf2 (by decide +kernel)) ?_
  refine lv_topi (fun f3 ef3 => ?_)
  refine lv_istore_n (lv' := [(3, .int f3), (0, .ref a0), (1, .int x1), (2, .int x2)]) X.1 X.2.1 dX12_turned_8 rfl hl (by decide) rfl (fun ls hl => ?_)
  refine lv_iload_n X.1 X.2.1 dX12_turned_9 rfl (lv_at hl 2 rfl) ?_
  refine lv_aload_n X.1 X.2.1 dX12_turned_10 rfl (lv_at hl 1 rfl) ?_
  refine gg_X12_18 X hK hG h0 wl_6_196 kq1 dX12_turned_11 ?_
  refine lv_iconst (v := 0) X.1 X.2.1 dX12_turned_14 (by decide +kernel) ?_
  refine al_49 X hK hG hq1 (iv_vpin (iv_c 0 (a := 0) (b := 0) (by decide +kernel)) (by decide +kernel)) dX12_turned_15 (fun f4 hf4 => ?_)
  have of4 := hf4
  have hf4 : iv 1 6 f4 := sg_r1 hp4 hf4 (iv_c 0 (a := 0) (b := 0) (by decide +kernel)) (by decide +kernel) rfl
  refine lv_idiv X.1 X.2.1 dX12_turned_16 (iv_ne0 hf4 (by decide +kernel)) ?_
  refine lv_topi (fun f5 ef5 => ?_)
  refine lv_istore (lv' := [(4, .int f5), (3, .int f3), (0, .ref a0), (1, .int x1), (2, .int x2)]) X.1 X.2.1 dX12_turned_17 hl (by decide) rfl (fun ls hl => ?_)
  refine lv_iload_n X.1 X.2.1 dX12_turned_19 rfl (lv_at hl 4 rfl) ?_
  refine lv_iconst (v := 2) X.1 X.2.1 dX12_turned_20 (by decide +kernel) ?_
  refine ca_X12_has X hK hG hC (fun _ h => h.elim) hS hb x2 2 wl_7_174 hl.1 (rest := []) rfl (Nat.le_of_ble_eq_true rfl) ⟨Nat.le_of_ble_eq_true rfl, Nat.le_of_ble_eq_true rfl⟩ ⟨Nat.le_of_ble_eq_true rfl, Nat.le_of_ble_eq_true rfl⟩ dX12_turned_21 (fun f6 locs hf6 hS => ?_)
  have B8_37 : ∀ (locs : List Loc) (ls : Array Slot) (z8_3 : Int32) (z8_4 : Int32), va_S (fun _ : Nat => False) s.heap s.heap locs → lv_has ls 6 [(0, .ref a0), (2, .int x2), (3, .int z8_3), (4, .int z8_4)] → iv 0 29 z8_3 → iv 0 29 z8_4 → W p l e (headSpec (Cond.code yX12_turned cX12_turned 6 (some .int) :: sg_tbl) ({ frames := 1, cells := 0, slots := 0, locals := 21 })).room s m #[.ref a0, .int x1, .int x2] below meth c s.heap locs 0 0 (MQ below (va_Qi (fun r (_ : Unit) => (fun r : Int32 => True) r) (fun _ t => t.heap = s.heap) (fun _ : Nat => False)) #[.ref a0, .int x1, .int x2] s 0 0 (fun _ : Nat => False)) (F0 m 37 ls []) := by
    intro locs ls z8_3 z8_4 hS hl hz8_3 hz8_4
    refine lv_iload_n X.1 X.2.1 dX12_turned_37 rfl (lv_at hl 1 rfl) ?_
    refine lv_iconst (v := 0) X.1 X.2.1 dX12_turned_38 (by decide +kernel) ?_
    refine ca_X12_has X hK hG hC (fun _ h => h.elim) hS hb x2 0 wl_7_174 hl.1 (rest := []) rfl (Nat.le_of_ble_eq_true rfl) ⟨Nat.le_of_ble_eq_true rfl, Nat.le_of_ble_eq_true rfl⟩ ⟨Nat.le_of_ble_eq_true rfl, Nat.le_of_ble_eq_true rfl⟩ dX12_turned_39 (fun f9 locs hf9 hS => ?_)
    have B11_56 : ∀ (locs : List Loc) (ls : Array Slot) (z11_3 : Int32), va_S (fun _ : Nat => False) s.heap s.heap locs → lv_has ls 6 [(0, .ref a0), (2, .int x2), (3, .int z11_3), (4, .int z8_4)] → iv (-29) 29 z11_3 → W p l e (headSpec (Cond.code yX12_turned cX12_turned 6 (some .int) :: sg_tbl) ({ frames := 1, cells := 0, slots := 0, locals := 21 })).room s m #[.ref a0, .int x1, .int x2] below meth c s.heap locs 0 0 (MQ below (va_Qi (fun r (_ : Unit) => (fun r : Int32 => True) r) (fun _ t => t.heap = s.heap) (fun _ : Nat => False)) #[.ref a0, .int x1, .int x2] s 0 0 (fun _ : Nat => False)) (F0 m 56 ls []) := by
      intro locs ls z11_3 hS hl hz11_3
      refine lv_iload_n X.1 X.2.1 dX12_turned_56 rfl (lv_at hl 1 rfl) ?_
      refine lv_iconst (v := 1) X.1 X.2.1 dX12_turned_57 (by decide +kernel) ?_
      refine ca_X12_has X hK hG hC (fun _ h => h.elim) hS hb x2 1 wl_7_174 hl.1 (rest := []) rfl (Nat.le_of_ble_eq_true rfl) ⟨Nat.le_of_ble_eq_true rfl, Nat.le_of_ble_eq_true rfl⟩ ⟨Nat.le_of_ble_eq_true rfl, Nat.le_of_ble_eq_true rfl⟩ dX12_turned_58 (fun f12 locs hf12 hS => ?_)
      have B14_77 : ∀ (locs : List Loc) (ls : Array Slot) (z14_4 : Int32), va_S (fun _ : Nat => False) s.heap s.heap locs → lv_has ls 6 [(0, .ref a0), (3, .int z11_3), (4, .int z14_4)] → iv (-29) 29 z14_4 → W p l e (headSpec (Cond.code yX12_turned cX12_turned 6 (some .int) :: sg_tbl) ({ frames := 1, cells := 0, slots := 0, locals := 21 })).room s m #[.ref a0, .int x1, .int x2] below meth c s.heap locs 0 0 (MQ below (va_Qi (fun r (_ : Unit) => (fun r : Int32 => True) r) (fun _ t => t.heap = s.heap) (fun _ : Nat => False)) #[.ref a0, .int x1, .int x2] s 0 0 (fun _ : Nat => False)) (F0 m 77 ls []) := by
        intro locs ls z14_4 hS hl hz14_4
        refine lv_iload X.1 X.2.1 dX12_turned_77 (lv_at hl 2 rfl) ?_
        refine lv_aload_n X.1 X.2.1 dX12_turned_79 rfl (lv_at hl 0 rfl) ?_
        refine gg_X12_18 X hK hG h0 wl_6_196 kq1 dX12_turned_80 ?_
        refine lv_iconst (v := 0) X.1 X.2.1 dX12_turned_83 (by decide +kernel) ?_
        refine al_49 X hK hG hq1 (iv_vpin (iv_c 0 (a := 0) (b := 0) (by decide +kernel)) (by decide +kernel)) dX12_turned_84 (fun f15 hf15 => ?_)
        have of15 := hf15
        have hf15 : iv 1 6 f15 := sg_r1 hp4 hf15 (iv_c 0 (a := 0) (b := 0) (by decide +kernel)) (by decide +kernel) rfl
        refine lv_imul X.1 X.2.1 dX12_turned_85 ?_
        refine lv_topi (fun f16 ef16 => ?_)
        refine lv_iload_n X.1 X.2.1 dX12_turned_86 rfl (lv_at hl 1 rfl) ?_
        refine lv_iadd X.1 X.2.1 dX12_turned_87 ?_
        refine lv_topi (fun f17 ef17 => ?_)
        exact sg_iretP X hr hlk hS trivial dX12_turned_88
      refine lv_if_eq (tgt := 77) X.1 X.2.1 dX12_turned_61 (by decide) (fun c13 => ?_) (fun c13 => ?_)
      · exact B14_77 _ _ z8_4 hS (lv_sub hl [0, 2, 3] rfl) (iv_of hz8_4 (a' := (-29)) (b' := 29) (by decide +kernel))
      · refine lv_aload_n X.1 X.2.1 dX12_turned_64 rfl (lv_at hl 0 rfl) ?_
        refine gg_X12_18 X hK hG h0 wl_6_196 kq1 dX12_turned_65 ?_
        refine lv_iconst (v := 1) X.1 X.2.1 dX12_turned_68 (by decide +kernel) ?_
        refine al_49 X hK hG hq1 (iv_vpin (iv_c 1 (a := 1) (b := 1) (by decide +kernel)) (by decide +kernel)) dX12_turned_69 (fun f18 hf18 => ?_)
        have of18 := hf18
        have hf18 : iv 1 5 f18 := sg_r1 hp4 hf18 (iv_c 1 (a := 1) (b := 1) (by decide +kernel)) (by decide +kernel) rfl
        refine lv_iconst (v := 1) X.1 X.2.1 dX12_turned_70 (by decide +kernel) ?_
        refine lv_isub X.1 X.2.1 dX12_turned_71 ?_
        refine lv_topi (fun f19 ef19 => ?_)
        refine lv_iload X.1 X.2.1 dX12_turned_72 (lv_at hl 3 rfl) ?_
        refine lv_isub X.1 X.2.1 dX12_turned_74 ?_
        refine lv_topi (fun f20 ef20 => ?_)
        refine lv_istore (lv' := [(4, .int f20), (0, .ref a0), (2, .int x2), (3, .int z11_3)]) X.1 X.2.1 dX12_turned_75 hl (by decide) rfl (fun ls hl => ?_)
        exact B14_77 _ _ f20 hS (lv_sub hl [1, 3, 0] rfl) (iv_of (iv_sub (a' := (-29)) (b' := 4) ef20 (iv_sub (a' := 0) (b' := 4) ef19 hf18 (iv_c 1 (a := 1) (b := 1) (by decide +kernel)) (by decide +kernel)) hz8_4 (by decide +kernel)) (a' := (-29)) (b' := 29) (by decide +kernel))
    refine lv_if_eq (tgt := 56) X.1 X.2.1 dX12_turned_42 (by decide) (fun c10 => ?_) (fun c10 => ?_)
    · exact B11_56 _ _ z8_3 hS (lv_sub hl [0, 1, 2, 3] rfl) (iv_of hz8_3 (a' := (-29)) (b' := 29) (by decide +kernel))
    · refine lv_aload_n X.1 X.2.1 dX12_turned_45 rfl (lv_at hl 0 rfl) ?_
      refine gg_X12_18 X hK hG h0 wl_6_196 kq1 dX12_turned_46 ?_
      refine lv_iconst (v := 0) X.1 X.2.1 dX12_turned_49 (by decide +kernel) ?_
      refine al_49 X hK hG hq1 (iv_vpin (iv_c 0 (a := 0) (b := 0) (by decide +kernel)) (by decide +kernel)) dX12_turned_50 (fun f21 hf21 => ?_)
      have of21 := hf21
      have hf21 : iv 1 6 f21 := sg_r1 hp4 hf21 (iv_c 0 (a := 0) (b := 0) (by decide +kernel)) (by decide +kernel) rfl
      refine lv_iconst (v := 1) X.1 X.2.1 dX12_turned_51 (by decide +kernel) ?_
      refine lv_isub X.1 X.2.1 dX12_turned_52 ?_
      refine lv_topi (fun f22 ef22 => ?_)
      refine lv_iload_n X.1 X.2.1 dX12_turned_53 rfl (lv_at hl 2 rfl) ?_
      refine lv_isub X.1 X.2.1 dX12_turned_54 ?_
      refine lv_topi (fun f23 ef23 => ?_)
      refine lv_istore_n (lv' := [(3, .int f23), (0, .ref a0), (2, .int x2), (4, .int z8_4)]) X.1 X.2.1 dX12_turned_55 rfl hl (by decide) rfl (fun ls hl => ?_)
      exact B11_56 _ _ f23 hS (lv_sub hl [1, 2, 0, 3] rfl) (iv_of (iv_sub (a' := (-29)) (b' := 5) ef23 (iv_sub (a' := 0) (b' := 5) ef22 hf21 (iv_c 1 (a := 1) (b := 1) (by decide +kernel)) (by decide +kernel)) hz8_3 (by decide +kernel)) (a' := (-29)) (b' := 29) (by decide +kernel))
  refine lv_if_eq (tgt := 37) X.1 X.2.1 dX12_turned_24 (by decide) (fun c7 => ?_) (fun c7 => ?_)
  · exact B8_37 _ _ f3 f5 hS (lv_sub hl [2, 4, 1, 0] rfl) (iv_of (iv_rem (a' := 0) (b' := 5) ef3 h1 hf2 (by decide +kernel)) (a' := 0) (b' := 29) (by decide +kernel)) (iv_div (a' := 0) (b' := 29) ef5 h1 hf4 (by decide +kernel))
  · refine lv_iload_n X.1 X.2.1 dX12_turned_27 rfl (lv_at hl 1 rfl) ?_
    refine lv_istore (lv' := [(5, .int f3), (4, .int f5), (3, .int f3), (0, .ref a0), (1, .int x1), (2, .int x2)]) X.1 X.2.1 dX12_turned_28 hl (by decide) rfl (fun ls hl => ?_)
    refine lv_iload X.1 X.2.1 dX12_turned_30 (lv_at hl 1 rfl) ?_
    refine lv_istore_n (lv' := [(3, .int f5), (5, .int f3), (4, .int f5), (0, .ref a0), (1, .int x1), (2, .int x2)]) X.1 X.2.1 dX12_turned_32 rfl hl (by decide) rfl (fun ls hl => ?_)
    refine lv_iload X.1 X.2.1 dX12_turned_33 (lv_at hl 1 rfl) ?_
    refine lv_istore (lv' := [(4, .int f3), (3, .int f5), (5, .int f3), (0, .ref a0), (1, .int x1), (2, .int x2)]) X.1 X.2.1 dX12_turned_35 hl (by decide) rfl (fun ls hl => ?_)
    exact B8_37 _ _ f5 f3 hS (lv_sub hl [3, 5, 1, 0] rfl) (iv_div (a' := 0) (b' := 29) ef5 h1 hf4 (by decide +kernel)) (iv_of (iv_rem (a' := 0) (b' := 5) ef3 h1 hf2 (by decide +kernel)) (a' := 0) (b' := 29) (by decide +kernel))

theorem ca_X12_turned_1   (X : CallFix p m c cc nL s args sg_tbl own) (hK : va_K D vwCl tys s) (hG : sgG (KT P) D vwCl (fun q : Nat => base ≤ q) tys ad ks H) (hC : sgC base s) (hA : ∀ q : Nat, A q → base ≤ q) (hS : va_S A s.heap H locs) (hb : base ≤ s.heap.size) (hp4 : P.2.2.2.2.1 = true) (a0 : Nat) (h0 : isK ad ks 12 a0) (x1 : Int32) (h1 : iv 0 29 x1) (x2 : Int32) (h2 : iv 0 7 x2) (hl : Cond.methodLink own index yX12_turned ∈ sg_tbl) (hsize : ls.size = nL) (hst : st0 = [.int x1, .int x2].reverse ++ .ref a0 :: rest) (hW : (rest.map fun v => v.category).sum ≤ 8) (hR : 2 ≤ R.frames ∧ 46 ≤ R.locals) (hf : cells ≤ R.cells ∧ slots ≤ R.slots) (hdg : decode cc pc = .ok (.invokevirtual index, 3)) (kk : ∀ (r : Int32) (locs1 : List Loc), (fun r : Int32 => True) r → va_S A s.heap H locs1 → W p l e R s m args below meth c H locs1 cells slots Q (F0 m (pc + 3) ls (.int r :: rest))) : W p l e R s m args below meth c H locs cells slots Q (F0 m pc ls st0) :=
  sg_callPVi X hK hG hC hA hS hb (m_X12_turned_1 l hp4 a0 h0 x1 h1 x2 h2) h0 (k := 12) (ci := 12) rfl (C := RX12) (T := TX12) (N := 53) rfl wl_9_119 wl_1_13 wl_9_118 wl_0_112 (n := 2) (by decide +kernel) rfl rfl rfl hl hsize hst hW hR hf hdg kk

set_option maxHeartbeats 8000000 in
set_option maxRecDepth 100000 in
theorem m_X12_turnedSet_1 (l : Launch) {D : va_G} {base : Nat} {tys : List (ClassId × FieldType)} {ad ks : List Nat} {P : sgPm} {Hx : Heap} (hp4 : P.2.2.2.2.1 = true) (a0 : Nat) (h0 : isK ad ks 12 a0) (x1 : Int32) (x2 : Int32) (h2 : iv 0 7 x2) : sgPi l (KT P) D vwCl base tys ad ks Hx yX12_turnedSet cX12_turnedSet 5 (some .int) ({ frames := 2, cells := 0, slots := 0, locals := 46 }) [.ref a0, .int x1, .int x2] (fun r : Int32 => True) := by
  refine sg_ofP (Pq := fun Hx => va_Qi (fun r (_ : Unit) => (fun r : Int32 => True) r) (fun _ t => t.heap = Hx) (fun _ : Nat => False)) (by decide +kernel) (Nat.le_of_ble_eq_true rfl) (fun p e s m below meth c X hr hlk hb hK hC hG ls hl => ?_)
  have hS : va_S (fun _ : Nat => False) s.heap s.heap [] := va_S.rf
  have hl : lv_has ls 5 [(0, .ref a0), (1, .int x1), (2, .int x2)] := hl
  refine lv_iconst (v := 0) X.1 X.2.1 dX12_turnedSet_0 (by decide +kernel) ?_
  refine lv_istore_n (lv' := [(3, .int 0), (0, .ref a0), (1, .int x1), (2, .int x2)]) X.1 X.2.1 dX12_turnedSet_1 rfl hl (by decide) rfl (fun ls hl => ?_)
  refine lv_iconst (v := 0) X.1 X.2.1 dX12_turnedSet_2 (by decide +kernel) ?_
  refine lv_istore (lv' := [(4, .int 0), (3, .int 0), (0, .ref a0), (1, .int x1), (2, .int x2)]) X.1 X.2.1 dX12_turnedSet_3 hl (by decide) rfl (fun ls hl => ?_)
  have B1_5 : ∀ (N : Nat) (locs : List Loc) (ls : Array Slot) (z1_3 : Int32) (z1_4 : Int32), va_S (fun _ : Nat => False) s.heap s.heap locs → lv_has ls 5 [(0, .ref a0), (1, .int x1), (2, .int x2), (3, .int z1_3), (4, .int z1_4)] → iv 0 30 z1_4 → (31 - z1_4.toInt).toNat ≤ N → W p l e (headSpec (Cond.code yX12_turnedSet cX12_turnedSet 5 (some .int) :: sg_tbl) ({ frames := 2, cells := 0, slots := 0, locals := 46 })).room s m #[.ref a0, .int x1, .int x2] below meth c s.heap locs 0 0 (MQ below (va_Qi (fun r (_ : Unit) => (fun r : Int32 => True) r) (fun _ t => t.heap = s.heap) (fun _ : Nat => False)) #[.ref a0, .int x1, .int x2] s 0 0 (fun _ : Nat => False)) (F0 m 5 ls []) := by
    intro N; induction N with
    | zero =>
      intro locs ls z1_3 z1_4 hS hl hz1_4 hN
      exact absurd hN (by have := iv_up hz1_4; omega)
    | succ N ih1 =>
      intro locs ls z1_3 z1_4 hS hl hz1_4 hN1
      refine lv_iload X.1 X.2.1 dX12_turnedSet_5 (lv_at hl 4 rfl) ?_
      refine lv_aload_n X.1 X.2.1 dX12_turnedSet_7 rfl (lv_at hl 0 rfl) ?_
      refine gf_X12_23s X hK hG h0 hp4 wl_6_201 dX12_turnedSet_8 (fun f2 hf2 kf2 => ?_)
      refine lv_icmp_ge (tgt := 45) X.1 X.2.1 dX12_turnedSet_11 (by decide) (fun c3 => ?_) (fun c3 => ?_)
      · refine lv_iload_n X.1 X.2.1 dX12_turnedSet_45 rfl (lv_at hl 3 rfl) ?_
        exact sg_iretP X hr hlk hS trivial dX12_turnedSet_46
      · refine lv_iload_n X.1 X.2.1 dX12_turnedSet_14 rfl (lv_at hl 3 rfl) ?_
        refine lv_iload_n X.1 X.2.1 dX12_turnedSet_15 rfl (lv_at hl 1 rfl) ?_
        refine lv_iload X.1 X.2.1 dX12_turnedSet_16 (lv_at hl 4 rfl) ?_
        refine ca_X12_has X hK hG hC (fun _ h => h.elim) hS hb x1 z1_4 wl_7_174 hl.1 (rest := [.int z1_3]) rfl (Nat.le_of_ble_eq_true rfl) ⟨Nat.le_of_ble_eq_true rfl, Nat.le_of_ble_eq_true rfl⟩ ⟨Nat.le_of_ble_eq_true rfl, Nat.le_of_ble_eq_true rfl⟩ dX12_turnedSet_18 (fun f4 locs hf4 hS => ?_)
        have B6_37 : ∀ (locs : List Loc) (ls : Array Slot) (w6_0 : Int32), va_S (fun _ : Nat => False) s.heap s.heap locs → lv_has ls 5 [(0, .ref a0), (1, .int x1), (2, .int x2), (4, .int z1_4)] → W p l e (headSpec (Cond.code yX12_turnedSet cX12_turnedSet 5 (some .int) :: sg_tbl) ({ frames := 2, cells := 0, slots := 0, locals := 46 })).room s m #[.ref a0, .int x1, .int x2] below meth c s.heap locs 0 0 (MQ below (va_Qi (fun r (_ : Unit) => (fun r : Int32 => True) r) (fun _ t => t.heap = s.heap) (fun _ : Nat => False)) #[.ref a0, .int x1, .int x2] s 0 0 (fun _ : Nat => False)) (F0 m 37 ls [.int w6_0, .int z1_3]) := by
          intro locs ls w6_0 hS hl
          refine lv_ior X.1 X.2.1 dX12_turnedSet_37 ?_
          refine lv_topi (fun f7 ef7 => ?_)
          refine lv_istore_n (lv' := [(3, .int f7), (0, .ref a0), (1, .int x1), (2, .int x2), (4, .int z1_4)]) X.1 X.2.1 dX12_turnedSet_38 rfl hl (by decide) rfl (fun ls hl => ?_)
          obtain ⟨y8, ey8⟩ : ∃ y : Int32, y = z1_4 + Int32.ofInt 1 := ⟨_, rfl⟩
          refine lv_iinc (v := y8) (lv' := [(4, .int y8), (3, .int f7), (0, .ref a0), (1, .int x1), (2, .int x2)]) X.1 X.2.1 dX12_turnedSet_39 hl (k := 4) rfl ey8.symm (by decide) rfl (fun ls hl => ?_)
          refine lv_goto (tgt := 5) X.1 X.2.1 dX12_turnedSet_42 (by decide) ?_
          exact ih1 _ _ f7 y8 hS (lv_sub hl [2, 3, 4, 1, 0] rfl) (iv_of (iv_add (a' := 1) (b' := 30) ey8 (iv_lt (b' := 29) (iv_gt_of c3) hz1_4 hf2 (by decide +kernel)) (iv_c _ (a := 1) (b := 1) (by decide +kernel)) (by decide +kernel)) (a' := 0) (b' := 30) (by decide +kernel)) (iv_stepU ey8 (iv_lt (b' := 29) (iv_gt_of c3) hz1_4 hf2 (by decide +kernel)) (by decide +kernel) hN1)
        refine lv_if_eq (tgt := 36) X.1 X.2.1 dX12_turnedSet_21 (by decide) (fun c5 => ?_) (fun c5 => ?_)
        · refine lv_iconst (v := 0) X.1 X.2.1 dX12_turnedSet_36 (by decide +kernel) ?_
          exact B6_37 _ _ 0 hS (lv_sub hl [0, 1, 2, 4] rfl)
        · refine lv_iconst (v := 1) X.1 X.2.1 dX12_turnedSet_24 (by decide +kernel) ?_
          refine lv_aload_n X.1 X.2.1 dX12_turnedSet_25 rfl (lv_at hl 0 rfl) ?_
          refine lv_iload X.1 X.2.1 dX12_turnedSet_26 (lv_at hl 4 rfl) ?_
          refine lv_iload_n X.1 X.2.1 dX12_turnedSet_28 rfl (lv_at hl 2 rfl) ?_
          refine ca_X12_turned_1 X hK hG hC (fun _ h => h.elim) hS hb hp4 a0 h0 z1_4 (iv_lt (b' := 29) (iv_gt_of c3) hz1_4 hf2 (by decide +kernel)) x2 h2 wl_9_116 hl.1 (rest := [.int 1, .int z1_3]) rfl (Nat.le_of_ble_eq_true rfl) ⟨Nat.le_of_ble_eq_true rfl, Nat.le_of_ble_eq_true rfl⟩ ⟨Nat.le_of_ble_eq_true rfl, Nat.le_of_ble_eq_true rfl⟩ dX12_turnedSet_29 (fun f9 locs hf9 hS => ?_)
          refine lv_ishl X.1 X.2.1 dX12_turnedSet_32 ?_
          refine lv_topi (fun f10 ef10 => ?_)
          refine lv_goto (tgt := 37) X.1 X.2.1 dX12_turnedSet_33 (by decide) ?_
          exact B6_37 _ _ f10 hS (lv_sub hl [0, 1, 2, 4] rfl)
  exact B1_5 _ _ _ 0 0 hS (lv_sub hl [2, 3, 4, 1, 0] rfl) (iv_of (iv_c 0 (a := 0) (b := 0) (by decide +kernel)) (a' := 0) (b' := 30) (by decide +kernel)) (Nat.le_refl _)

theorem ca_X12_turnedSet_1   (X : CallFix p m c cc nL s args sg_tbl own) (hK : va_K D vwCl tys s) (hG : sgG (KT P) D vwCl (fun q : Nat => base ≤ q) tys ad ks H) (hC : sgC base s) (hA : ∀ q : Nat, A q → base ≤ q) (hS : va_S A s.heap H locs) (hb : base ≤ s.heap.size) (hp4 : P.2.2.2.2.1 = true) (a0 : Nat) (h0 : isK ad ks 12 a0) (x1 : Int32) (x2 : Int32) (h2 : iv 0 7 x2) (hl : Cond.methodLink own index yX12_turnedSet ∈ sg_tbl) (hsize : ls.size = nL) (hst : st0 = [.int x1, .int x2].reverse ++ .ref a0 :: rest) (hW : (rest.map fun v => v.category).sum ≤ 8) (hR : 3 ≤ R.frames ∧ 70 ≤ R.locals) (hf : cells ≤ R.cells ∧ slots ≤ R.slots) (hdg : decode cc pc = .ok (.invokevirtual index, 3)) (kk : ∀ (r : Int32) (locs1 : List Loc), (fun r : Int32 => True) r → va_S A s.heap H locs1 → W p l e R s m args below meth c H locs1 cells slots Q (F0 m (pc + 3) ls (.int r :: rest))) : W p l e R s m args below meth c H locs cells slots Q (F0 m pc ls st0) :=
  sg_callPVi X hK hG hC hA hS hb (m_X12_turnedSet_1 l hp4 a0 h0 x1 x2 h2) h0 (k := 12) (ci := 12) rfl (C := RX12) (T := TX12) (N := 53) rfl wl_9_115 wl_1_13 wl_9_114 wl_0_111 (n := 2) (by decide +kernel) rfl rfl rfl hl hsize hst hW hR hf hdg kk

set_option maxHeartbeats 8000000 in
set_option maxRecDepth 100000 in
theorem m_X12_isGrass_1 (l : Launch) {D : va_G} {base : Nat} {tys : List (ClassId × FieldType)} {ad ks : List Nat} {P : sgPm} {Hx : Heap} (hp4 : P.2.2.2.2.1 = true) (a0 : Nat) (h0 : isK ad ks 12 a0) (x1 : Int32) : sgPi l (KT P) D vwCl base tys ad ks Hx yX12_isGrass cX12_isGrass 2 (some .boolean) ({ frames := 1, cells := 0, slots := 0, locals := 21 }) [.ref a0, .int x1] (fun r : Int32 => iv 0 1 r ∧ (¬ r = 0 → iv 0 29 x1)) := by
  refine sg_ofP (Pq := fun Hx => va_Qi (fun r (_ : Unit) => (fun r : Int32 => iv 0 1 r ∧ (¬ r = 0 → iv 0 29 x1)) r) (fun _ t => t.heap = Hx) (fun _ : Nat => False)) (by decide +kernel) (Nat.le_of_ble_eq_true rfl) (fun p e s m below meth c X hr hlk hb hK hC hG ls hl => ?_)
  have hS : va_S (fun _ : Nat => False) s.heap s.heap [] := va_S.rf
  have hl : lv_has ls 2 [(0, .ref a0), (1, .int x1)] := hl
  refine lv_aload_n X.1 X.2.1 dX12_isGrass_0 rfl (lv_at hl 0 rfl) ?_
  refine lv_iload_n X.1 X.2.1 dX12_isGrass_1 rfl (lv_at hl 1 rfl) ?_
  refine ca_X12_isCell_1 X hK hG hC (fun _ h => h.elim) hS hb hp4 a0 h0 x1 wl_8_55 hl.1 (rest := []) rfl (Nat.le_of_ble_eq_true rfl) ⟨Nat.le_of_ble_eq_true rfl, Nat.le_of_ble_eq_true rfl⟩ ⟨Nat.le_of_ble_eq_true rfl, Nat.le_of_ble_eq_true rfl⟩ dX12_isGrass_2 (fun f1 locs hf1 hS => ?_)
  have B3_37 : ∀ (locs : List Loc) (ls : Array Slot), va_S (fun _ : Nat => False) s.heap s.heap locs → lv_has ls 2 [] → W p l e (headSpec (Cond.code yX12_isGrass cX12_isGrass 2 (some .boolean) :: sg_tbl) ({ frames := 1, cells := 0, slots := 0, locals := 21 })).room s m #[.ref a0, .int x1] below meth c s.heap locs 0 0 (MQ below (va_Qi (fun r (_ : Unit) => (fun r : Int32 => iv 0 1 r ∧ (¬ r = 0 → iv 0 29 x1)) r) (fun _ t => t.heap = s.heap) (fun _ : Nat => False)) #[.ref a0, .int x1] s 0 0 (fun _ : Nat => False)) (F0 m 37 ls []) := by
    intro locs ls hS hl
    refine lv_iconst (v := 0) X.1 X.2.1 dX12_isGrass_37 (by decide +kernel) ?_
    exact sg_zretP X hr (sg_zn (iv_of (iv_c 0 (a := 0) (b := 0) (by decide +kernel)) (a' := 0) (b' := 1) (by decide +kernel))) hlk hS ⟨(iv_of (iv_c 0 (a := 0) (b := 0) (by decide +kernel)) (a' := 0) (b' := 1) (by decide +kernel)), fun h => absurd rfl h⟩ dX12_isGrass_38
  refine lv_if_eq (tgt := 37) X.1 X.2.1 dX12_isGrass_5 (by decide) (fun c2 => ?_) (fun c2 => ?_)
  · exact B3_37 _ _ hS (lv_sub hl [] rfl)
  · refine lv_aload_n X.1 X.2.1 dX12_isGrass_8 rfl (lv_at hl 0 rfl) ?_
    refine gf_X12_32 X hK hG h0 wl_6_210 dX12_isGrass_9 (fun q4 hq4 kq4 => ?_)
    refine lv_iconst (v := 0) X.1 X.2.1 dX12_isGrass_12 (by decide +kernel) ?_
    refine al_54 X hK hG hq4 (iv_vpin (iv_c 0 (a := 0) (b := 0) (by decide +kernel)) (by decide +kernel)) dX12_isGrass_13 (fun f5 hf5 => ?_)
    have hf5 := sg_nw_now hf5
    have of5 := hf5
    have hf5 : iv (-2147483648) 2147483647 f5 := sg_sp_now hf5 (iv_c 0 (a := 0) (b := 0) (by decide +kernel)) (by decide +kernel) rfl
    refine lv_aload_n X.1 X.2.1 dX12_isGrass_14 rfl (lv_at hl 0 rfl) ?_
    refine gg_X12_32 X hK hG h0 wl_6_210 kq4 dX12_isGrass_15 ?_
    refine lv_iconst (v := 1) X.1 X.2.1 dX12_isGrass_18 (by decide +kernel) ?_
    refine al_54 X hK hG hq4 (iv_vpin (iv_c 1 (a := 1) (b := 1) (by decide +kernel)) (by decide +kernel)) dX12_isGrass_19 (fun f6 hf6 => ?_)
    have hf6 := sg_nw_now hf6
    have of6 := hf6
    have hf6 : iv (-2147483648) 2147483647 f6 := sg_sp_now hf6 (iv_c 1 (a := 1) (b := 1) (by decide +kernel)) (by decide +kernel) rfl
    refine lv_ior X.1 X.2.1 dX12_isGrass_20 ?_
    refine lv_topi (fun f7 ef7 => ?_)
    refine lv_aload_n X.1 X.2.1 dX12_isGrass_21 rfl (lv_at hl 0 rfl) ?_
    refine gf_X12_24 X hK hG h0 wl_6_202 dX12_isGrass_22 (fun f8 hf8 kf8 => ?_)
    refine lv_ior X.1 X.2.1 dX12_isGrass_25 ?_
    refine lv_topi (fun f9 ef9 => ?_)
    refine lv_iload_n X.1 X.2.1 dX12_isGrass_26 rfl (lv_at hl 1 rfl) ?_
    refine ca_X12_has X hK hG hC (fun _ h => h.elim) hS hb f9 x1 wl_7_174 hl.1 (rest := []) rfl (Nat.le_of_ble_eq_true rfl) ⟨Nat.le_of_ble_eq_true rfl, Nat.le_of_ble_eq_true rfl⟩ ⟨Nat.le_of_ble_eq_true rfl, Nat.le_of_ble_eq_true rfl⟩ dX12_isGrass_27 (fun f10 locs hf10 hS => ?_)
    refine lv_if_ne (tgt := 37) X.1 X.2.1 dX12_isGrass_30 (by decide) (fun c11 => ?_) (fun c11 => ?_)
    · exact B3_37 _ _ hS (lv_sub hl [] rfl)
    · refine lv_iconst (v := 1) X.1 X.2.1 dX12_isGrass_33 (by decide +kernel) ?_
      refine lv_goto (tgt := 38) X.1 X.2.1 dX12_isGrass_34 (by decide) ?_
      exact sg_zretP X hr (sg_zn (iv_of (iv_c 1 (a := 1) (b := 1) (by decide +kernel)) (a' := 0) (b' := 1) (by decide +kernel))) hlk hS ⟨(iv_of (iv_c 1 (a := 1) (b := 1) (by decide +kernel)) (a' := 0) (b' := 1) (by decide +kernel)), fun h => (hf1.2 c2)⟩ dX12_isGrass_38

theorem ca_X12_isGrass_1   (X : CallFix p m c cc nL s args sg_tbl own) (hK : va_K D vwCl tys s) (hG : sgG (KT P) D vwCl (fun q : Nat => base ≤ q) tys ad ks H) (hC : sgC base s) (hA : ∀ q : Nat, A q → base ≤ q) (hS : va_S A s.heap H locs) (hb : base ≤ s.heap.size) (hp4 : P.2.2.2.2.1 = true) (a0 : Nat) (h0 : isK ad ks 12 a0) (x1 : Int32) (hl : Cond.methodLink own index yX12_isGrass ∈ sg_tbl) (hsize : ls.size = nL) (hst : st0 = [.int x1].reverse ++ .ref a0 :: rest) (hW : (rest.map fun v => v.category).sum ≤ 8) (hR : 2 ≤ R.frames ∧ 42 ≤ R.locals) (hf : cells ≤ R.cells ∧ slots ≤ R.slots) (hdg : decode cc pc = .ok (.invokevirtual index, 3)) (kk : ∀ (r : Int32) (locs1 : List Loc), (fun r : Int32 => iv 0 1 r ∧ (¬ r = 0 → iv 0 29 x1)) r → va_S A s.heap H locs1 → W p l e R s m args below meth c H locs1 cells slots Q (F0 m (pc + 3) ls (.int r :: rest))) : W p l e R s m args below meth c H locs cells slots Q (F0 m pc ls st0) :=
  sg_callPVi X hK hG hC hA hS hb (m_X12_isGrass_1 l hp4 a0 h0 x1) h0 (k := 12) (ci := 12) rfl (C := RX12) (T := TX12) (N := 53) rfl wl_9_91 wl_1_13 wl_9_90 wl_0_108 (n := 1) (by decide +kernel) rfl rfl rfl hl hsize hst hW hR hf hdg kk

set_option maxHeartbeats 8000000 in
set_option maxRecDepth 100000 in
theorem m_X12_fits (l : Launch) {D : va_G} {base : Nat} {tys : List (ClassId × FieldType)} {ad ks : List Nat} {P : sgPm} {Hx : Heap} (a0 : Nat) (h0 : isK ad ks 12 a0) (x1 : Int32) (x2 : Int32) : sgPi l (KT P) D vwCl base tys ad ks Hx yX12_fits cX12_fits 4 (some .boolean) ({ frames := 0, cells := 0, slots := 0, locals := 0 }) [.ref a0, .int x1, .int x2] (fun r : Int32 => iv 0 1 r) := by
  refine sg_ofP (Pq := fun Hx => va_Qi (fun r (_ : Unit) => (fun r : Int32 => iv 0 1 r) r) (fun _ t => t.heap = Hx) (fun _ : Nat => False)) (by decide +kernel) (Nat.le_of_ble_eq_true rfl) (fun p e s m below meth c X hr hlk hb hK hC hG ls hl => ?_)
  have hS : va_S (fun _ : Nat => False) s.heap s.heap [] := va_S.rf
  have hl : lv_has ls 4 [(0, .ref a0), (1, .int x1), (2, .int x2)] := hl
  refine lv_iconst (v := 0) X.1 X.2.1 dX12_fits_0 (by decide +kernel) ?_
  refine lv_istore_n (lv' := [(3, .int 0), (0, .ref a0), (1, .int x1), (2, .int x2)]) X.1 X.2.1 dX12_fits_1 rfl hl (by decide) rfl (fun ls hl => ?_)
  have B1_2 : ∀ (N : Nat) (locs : List Loc) (ls : Array Slot) (z1_3 : Int32), va_S (fun _ : Nat => False) s.heap s.heap locs → lv_has ls 4 [(0, .ref a0), (1, .int x1), (2, .int x2), (3, .int z1_3)] → iv 0 12 z1_3 → (13 - z1_3.toInt).toNat ≤ N → W p l e (headSpec (Cond.code yX12_fits cX12_fits 4 (some .boolean) :: sg_tbl) ({ frames := 0, cells := 0, slots := 0, locals := 0 })).room s m #[.ref a0, .int x1, .int x2] below meth c s.heap locs 0 0 (MQ below (va_Qi (fun r (_ : Unit) => (fun r : Int32 => iv 0 1 r) r) (fun _ t => t.heap = s.heap) (fun _ : Nat => False)) #[.ref a0, .int x1, .int x2] s 0 0 (fun _ : Nat => False)) (F0 m 2 ls []) := by
    intro N; induction N with
    | zero =>
      intro locs ls z1_3 hS hl hz1_3 hN
      exact absurd hN (by have := iv_up hz1_3; omega)
    | succ N ih1 =>
      intro locs ls z1_3 hS hl hz1_3 hN1
      refine lv_iload_n X.1 X.2.1 dX12_fits_2 rfl (lv_at hl 3 rfl) ?_
      refine lv_aload_n X.1 X.2.1 dX12_fits_3 rfl (lv_at hl 0 rfl) ?_
      refine gf_X12_50 X hK hG h0 wl_6_228 dX12_fits_4 (fun f2 hf2 kf2 => ?_)
      refine lv_icmp_ge (tgt := 52) X.1 X.2.1 dX12_fits_7 (by decide) (fun c3 => ?_) (fun c3 => ?_)
      · refine lv_iconst (v := 1) X.1 X.2.1 dX12_fits_52 (by decide +kernel) ?_
        exact sg_zretP X hr (sg_zn (iv_of (iv_c 1 (a := 1) (b := 1) (by decide +kernel)) (a' := 0) (b' := 1) (by decide +kernel))) hlk hS (iv_of (iv_c 1 (a := 1) (b := 1) (by decide +kernel)) (a' := 0) (b' := 1) (by decide +kernel)) dX12_fits_53
      · refine lv_aload_n X.1 X.2.1 dX12_fits_10 rfl (lv_at hl 0 rfl) ?_
        refine gf_X12_48 X hK hG h0 wl_6_226 dX12_fits_11 (fun q4 hq4 kq4 => ?_)
        refine lv_iload_n X.1 X.2.1 dX12_fits_14 rfl (lv_at hl 3 rfl) ?_
        refine al_63 X hK hG hq4 (iv_vpin (iv_lt (b' := 11) (iv_gt_of c3) hz1_3 hf2 (by decide +kernel)) (by decide +kernel)) dX12_fits_15 (fun f5 hf5 => ?_)
        refine lv_iload_n X.1 X.2.1 dX12_fits_16 rfl (lv_at hl 1 rfl) ?_
        have B7_35 : ∀ (locs : List Loc) (ls : Array Slot) (w7_0 : Int32), va_S (fun _ : Nat => False) s.heap s.heap locs → lv_has ls 4 [(0, .ref a0), (1, .int x1), (2, .int x2), (3, .int z1_3)] → iv 0 1 w7_0 → W p l e (headSpec (Cond.code yX12_fits cX12_fits 4 (some .boolean) :: sg_tbl) ({ frames := 0, cells := 0, slots := 0, locals := 0 })).room s m #[.ref a0, .int x1, .int x2] below meth c s.heap locs 0 0 (MQ below (va_Qi (fun r (_ : Unit) => (fun r : Int32 => iv 0 1 r) r) (fun _ t => t.heap = s.heap) (fun _ : Nat => False)) #[.ref a0, .int x1, .int x2] s 0 0 (fun _ : Nat => False)) (F0 m 35 ls [.int w7_0]) := by
          intro locs ls w7_0 hS hl hw7_0
          refine lv_aload_n X.1 X.2.1 dX12_fits_35 rfl (lv_at hl 0 rfl) ?_
          refine gf_X12_49 X hK hG h0 wl_6_227 dX12_fits_36 (fun q8 hq8 kq8 => ?_)
          refine lv_iload_n X.1 X.2.1 dX12_fits_39 rfl (lv_at hl 3 rfl) ?_
          refine al_64 X hK hG hq8 (iv_vpin (iv_lt (b' := 11) (iv_gt_of c3) hz1_3 hf2 (by decide +kernel)) (by decide +kernel)) dX12_fits_40 (fun f9 hf9 => ?_)
          refine lv_icmp_eq (tgt := 46) X.1 X.2.1 dX12_fits_41 (by decide) (fun c10 => ?_) (fun c10 => ?_)
          · obtain ⟨y11, ey11⟩ : ∃ y : Int32, y = z1_3 + Int32.ofInt 1 := ⟨_, rfl⟩
            refine lv_iinc (v := y11) (lv' := [(3, .int y11), (0, .ref a0), (1, .int x1), (2, .int x2)]) X.1 X.2.1 dX12_fits_46 hl (k := 3) rfl ey11.symm (by decide) rfl (fun ls hl => ?_)
            refine lv_goto (tgt := 2) X.1 X.2.1 dX12_fits_49 (by decide) ?_
            exact ih1 _ _ y11 hS (lv_sub hl [1, 2, 3, 0] rfl) (iv_of (iv_add (a' := 1) (b' := 12) ey11 (iv_lt (b' := 11) (iv_gt_of c3) hz1_3 hf2 (by decide +kernel)) (iv_c _ (a := 1) (b := 1) (by decide +kernel)) (by decide +kernel)) (a' := 0) (b' := 12) (by decide +kernel)) (iv_stepU ey11 (iv_lt (b' := 11) (iv_gt_of c3) hz1_3 hf2 (by decide +kernel)) (by decide +kernel) hN1)
          · refine lv_iconst (v := 0) X.1 X.2.1 dX12_fits_44 (by decide +kernel) ?_
            exact sg_zretP X hr (sg_zn (iv_of (iv_c 0 (a := 0) (b := 0) (by decide +kernel)) (a' := 0) (b' := 1) (by decide +kernel))) hlk hS (iv_of (iv_c 0 (a := 0) (b := 0) (by decide +kernel)) (a' := 0) (b' := 1) (by decide +kernel)) dX12_fits_45
        have B12_34 : ∀ (locs : List Loc) (ls : Array Slot), va_S (fun _ : Nat => False) s.heap s.heap locs → lv_has ls 4 [(0, .ref a0), (1, .int x1), (2, .int x2), (3, .int z1_3)] → W p l e (headSpec (Cond.code yX12_fits cX12_fits 4 (some .boolean) :: sg_tbl) ({ frames := 0, cells := 0, slots := 0, locals := 0 })).room s m #[.ref a0, .int x1, .int x2] below meth c s.heap locs 0 0 (MQ below (va_Qi (fun r (_ : Unit) => (fun r : Int32 => iv 0 1 r) r) (fun _ t => t.heap = s.heap) (fun _ : Nat => False)) #[.ref a0, .int x1, .int x2] s 0 0 (fun _ : Nat => False)) (F0 m 34 ls []) := by
          intro locs ls hS hl
          refine lv_iconst (v := 0) X.1 X.2.1 dX12_fits_34 (by decide +kernel) ?_
          exact B7_35 _ _ 0 hS (lv_sub hl [0, 1, 2, 3] rfl) (iv_of (iv_c 0 (a := 0) (b := 0) (by decide +kernel)) (a' := 0) (b' := 1) (by decide +kernel))
        refine lv_icmp_lt (tgt := 34) X.1 X.2.1 dX12_fits_17 (by decide) (fun c6 => ?_) (fun c6 => ?_)
        · exact B12_34 _ _ hS (lv_sub hl [0, 1, 2, 3] rfl)
        · refine lv_aload_n X.1 X.2.1 dX12_fits_20 rfl (lv_at hl 0 rfl) ?_
          refine gg_X12_48 X hK hG h0 wl_6_226 kq4 dX12_fits_21 ?_
          refine lv_iload_n X.1 X.2.1 dX12_fits_24 rfl (lv_at hl 3 rfl) ?_
          refine al_63 X hK hG hq4 (iv_vpin (iv_lt (b' := 11) (iv_gt_of c3) hz1_3 hf2 (by decide +kernel)) (by decide +kernel)) dX12_fits_25 (fun f13 hf13 => ?_)
          refine lv_iload_n X.1 X.2.1 dX12_fits_26 rfl (lv_at hl 2 rfl) ?_
          refine lv_icmp_gt (tgt := 34) X.1 X.2.1 dX12_fits_27 (by decide) (fun c14 => ?_) (fun c14 => ?_)
          · exact B12_34 _ _ hS (lv_sub hl [0, 1, 2, 3] rfl)
          · refine lv_iconst (v := 1) X.1 X.2.1 dX12_fits_30 (by decide +kernel) ?_
            refine lv_goto (tgt := 35) X.1 X.2.1 dX12_fits_31 (by decide) ?_
            exact B7_35 _ _ 1 hS (lv_sub hl [0, 1, 2, 3] rfl) (iv_of (iv_c 1 (a := 1) (b := 1) (by decide +kernel)) (a' := 0) (b' := 1) (by decide +kernel))
  exact B1_2 _ _ _ 0 hS (lv_sub hl [1, 2, 3, 0] rfl) (iv_of (iv_c 0 (a := 0) (b := 0) (by decide +kernel)) (a' := 0) (b' := 12) (by decide +kernel)) (Nat.le_refl _)

theorem ca_X12_fits   (X : CallFix p m c cc nL s args sg_tbl own) (hK : va_K D vwCl tys s) (hG : sgG (KT P) D vwCl (fun q : Nat => base ≤ q) tys ad ks H) (hC : sgC base s) (hA : ∀ q : Nat, A q → base ≤ q) (hS : va_S A s.heap H locs) (hb : base ≤ s.heap.size) (a0 : Nat) (h0 : isK ad ks 12 a0) (x1 : Int32) (x2 : Int32) (hl : Cond.methodLink own index yX12_fits ∈ sg_tbl) (hsize : ls.size = nL) (hst : st0 = [.int x1, .int x2].reverse ++ .ref a0 :: rest) (hW : (rest.map fun v => v.category).sum ≤ 8) (hR : 1 ≤ R.frames ∧ 23 ≤ R.locals) (hf : cells ≤ R.cells ∧ slots ≤ R.slots) (hdg : decode cc pc = .ok (.invokevirtual index, 3)) (kk : ∀ (r : Int32) (locs1 : List Loc), (fun r : Int32 => iv 0 1 r) r → va_S A s.heap H locs1 → W p l e R s m args below meth c H locs1 cells slots Q (F0 m (pc + 3) ls (.int r :: rest))) : W p l e R s m args below meth c H locs cells slots Q (F0 m pc ls st0) :=
  sg_callPVi X hK hG hC hA hS hb (m_X12_fits l a0 h0 x1 x2) h0 (k := 12) (ci := 12) rfl (C := RX12) (T := TX12) (N := 53) rfl wl_9_99 wl_1_13 wl_9_98 wl_0_109 (n := 2) (by decide +kernel) rfl rfl rfl hl hsize hst hW hR hf hdg kk

set_option maxHeartbeats 8000000 in
set_option maxRecDepth 100000 in
theorem m_X12_draw (l : Launch) {D : va_G} {base : Nat} {tys : List (ClassId × FieldType)} {ad ks : List Nat} {P : sgPm} (a0 : Nat) (h0 : isK ad ks 12 a0) (x1 : Int32) (h1 : iv 1 100 x1) : sgMi l (KT P) D vwCl base tys ad ks yX12_draw cX12_draw 2 (some .int) ({ frames := 0, cells := 0, slots := 0, locals := 0 }) [.ref a0, .int x1] (fun r : Int32 => True) := by
  refine sg_ofW (by decide +kernel) (Nat.le_of_ble_eq_true rfl) (fun p e s m below meth c X hr hlk hb hK hC hG ls hl => ?_)
  have hS : va_S (fun q : Nat => base ≤ q) s.heap s.heap [] := va_S.rf
  have hl : lv_has ls 2 [(0, .ref a0), (1, .int x1)] := hl
  refine lv_aload_n X.1 X.2.1 dX12_draw_0 rfl (lv_at hl 0 rfl) ?_
  refine lv_aload_n X.1 X.2.1 dX12_draw_1 rfl (lv_at hl 0 rfl) ?_
  refine gf_X12_40 X hK hG h0 wl_6_218 dX12_draw_2 (fun g1 hg1 kg1 => ?_)
  refine lv_ldc2 X.1 X.2.1 X.2.2.2.1 (X.2.2.2.2 _ wl_8_160) dX12_draw_5 ?_
  refine lv_lmul X.1 X.2.1 dX12_draw_8 ?_
  refine lv_topl (fun g2 eg2 => ?_)
  refine lv_ldc2 X.1 X.2.1 X.2.2.2.1 (X.2.2.2.2 _ wl_8_161) dX12_draw_9 ?_
  refine lv_ladd X.1 X.2.1 dX12_draw_12 ?_
  refine lv_topl (fun g3 eg3 => ?_)
  refine pf_X12_40 X hK hG hS h0 wl_6_218 ⟨_, rfl⟩ dX12_draw_13 (fun H locs hG hS ku4 ru4 => ?_)
  refine lv_aload_n X.1 X.2.1 dX12_draw_16 rfl (lv_at hl 0 rfl) ?_
  refine gg_X12_40 X hK hG h0 wl_6_218 ku4 dX12_draw_17 ?_
  refine lv_bipush (v := 33) X.1 X.2.1 dX12_draw_20 (by decide +kernel) ?_
  obtain ⟨g5, eg5⟩ : ∃ y : Int64, y = ((g3 : Int64).toUInt64 >>> ((33 : Int32).toInt64.toUInt64 &&& Int64.toUInt64 63)).toInt64 := ⟨_, rfl⟩
  refine lv_lushr (v := g5) X.1 X.2.1 dX12_draw_22 eg5.symm ?_
  refine lv_iload_n X.1 X.2.1 dX12_draw_23 rfl (lv_at hl 1 rfl) ?_
  obtain ⟨g6, eg6⟩ : ∃ y : Int64, y = (x1 : Int32).toInt64 := ⟨_, rfl⟩
  refine lv_i2l (v := g6) X.1 X.2.1 dX12_draw_24 eg6.symm ?_
  refine lv_lrem X.1 X.2.1 dX12_draw_25 (sg_i2l_ne0 eg6 (iv_ne0 h1 (by decide +kernel))) ?_
  refine lv_topl (fun g7 eg7 => ?_)
  obtain ⟨f8, ef8⟩ : ∃ y : Int32, y = (g7 : Int64).toInt32 := ⟨_, rfl⟩
  refine lv_l2i (v := f8) X.1 X.2.1 dX12_draw_26 ef8.symm ?_
  exact sg_iret X hr hlk hb hK hC hG hS trivial dX12_draw_27

theorem ca_X12_draw   (X : CallFix p m c cc nL s args sg_tbl own) (hK : va_K D vwCl tys s) (hG : sgG (KT P) D vwCl (fun q : Nat => base ≤ q) tys ad ks H) (hC : sgC base s) (hS : va_S (fun q : Nat => base ≤ q) s.heap H locs) (hb : base ≤ s.heap.size) (a0 : Nat) (h0 : isK ad ks 12 a0) (x1 : Int32) (h1 : iv 1 100 x1) (hl : Cond.methodLink own index yX12_draw ∈ sg_tbl) (hsize : ls.size = nL) (hst : st0 = [.int x1].reverse ++ .ref a0 :: rest) (hW : (rest.map fun v => v.category).sum ≤ 8) (hR : 1 ≤ R.frames ∧ 21 ≤ R.locals) (hf : cells ≤ R.cells ∧ slots ≤ R.slots) (hdg : decode cc pc = .ok (.invokevirtual index, 3)) (kk : ∀ (r : Int32) (H1 : Heap) (locs1 : List Loc), (fun r : Int32 => True) r → sgG (KT P) D vwCl (fun q : Nat => base ≤ q) tys ad ks H1 → va_S (fun q : Nat => base ≤ q) s.heap H1 locs1 → W p l e R s m args below meth c H1 locs1 cells slots Q (F0 m (pc + 3) ls (.int r :: rest))) : W p l e R s m args below meth c H locs cells slots Q (F0 m pc ls st0) :=
  sg_callVi X hK hG hC hS hb (m_X12_draw l a0 h0 x1 h1) h0 (k := 12) (ci := 12) rfl (C := RX12) (T := TX12) (N := 53) rfl wl_8_159 wl_1_13 wl_8_158 wl_0_86 (n := 1) (by decide +kernel) rfl rfl rfl hl hsize hst hW hR hf hdg kk

set_option maxHeartbeats 8000000 in
set_option maxRecDepth 100000 in
theorem m_X12_isGame (l : Launch) {D : va_G} {base : Nat} {tys : List (ClassId × FieldType)} {ad ks : List Nat} {P : sgPm} {Hx : Heap} (a0 : Nat) (h0 : isK ad ks 12 a0) (x1 : Int32) : sgPi l (KT P) D vwCl base tys ad ks Hx yX12_isGame cX12_isGame 2 (some .boolean) ({ frames := 0, cells := 0, slots := 0, locals := 0 }) [.ref a0, .int x1] (fun r : Int32 => iv 0 1 r ∧ (¬ r = 0 → iv 0 3 x1)) := by
  refine sg_ofP (Pq := fun Hx => va_Qi (fun r (_ : Unit) => (fun r : Int32 => iv 0 1 r ∧ (¬ r = 0 → iv 0 3 x1)) r) (fun _ t => t.heap = Hx) (fun _ : Nat => False)) (by decide +kernel) (Nat.le_of_ble_eq_true rfl) (fun p e s m below meth c X hr hlk hb hK hC hG ls hl => ?_)
  have hS : va_S (fun _ : Nat => False) s.heap s.heap [] := va_S.rf
  have hl : lv_has ls 2 [(0, .ref a0), (1, .int x1)] := hl
  refine lv_iload_n X.1 X.2.1 dX12_isGame_0 rfl (lv_at hl 1 rfl) ?_
  have B2_16 : ∀ (locs : List Loc) (ls : Array Slot), va_S (fun _ : Nat => False) s.heap s.heap locs → lv_has ls 2 [] → W p l e (headSpec (Cond.code yX12_isGame cX12_isGame 2 (some .boolean) :: sg_tbl) ({ frames := 0, cells := 0, slots := 0, locals := 0 })).room s m #[.ref a0, .int x1] below meth c s.heap locs 0 0 (MQ below (va_Qi (fun r (_ : Unit) => (fun r : Int32 => iv 0 1 r ∧ (¬ r = 0 → iv 0 3 x1)) r) (fun _ t => t.heap = s.heap) (fun _ : Nat => False)) #[.ref a0, .int x1] s 0 0 (fun _ : Nat => False)) (F0 m 16 ls []) := by
    intro locs ls hS hl
    refine lv_iconst (v := 0) X.1 X.2.1 dX12_isGame_16 (by decide +kernel) ?_
    exact sg_zretP X hr (sg_zn (iv_of (iv_c 0 (a := 0) (b := 0) (by decide +kernel)) (a' := 0) (b' := 1) (by decide +kernel))) hlk hS ⟨(iv_of (iv_c 0 (a := 0) (b := 0) (by decide +kernel)) (a' := 0) (b' := 1) (by decide +kernel)), fun h => absurd rfl h⟩ dX12_isGame_17
  refine lv_if_lt (tgt := 16) X.1 X.2.1 dX12_isGame_1 (by decide) (fun c1 => ?_) (fun c1 => ?_)
  · exact B2_16 _ _ hS (lv_sub hl [] rfl)
  · refine lv_iload_n X.1 X.2.1 dX12_isGame_4 rfl (lv_at hl 1 rfl) ?_
    refine lv_aload_n X.1 X.2.1 dX12_isGame_5 rfl (lv_at hl 0 rfl) ?_
    refine gf_X12_29 X hK hG h0 wl_6_207 dX12_isGame_6 (fun f3 hf3 pf3 kf3 => ?_)
    refine lv_icmp_ge (tgt := 16) X.1 X.2.1 dX12_isGame_9 (by decide) (fun c4 => ?_) (fun c4 => ?_)
    · exact B2_16 _ _ hS (lv_sub hl [] rfl)
    · refine lv_iconst (v := 1) X.1 X.2.1 dX12_isGame_12 (by decide +kernel) ?_
      refine lv_goto (tgt := 17) X.1 X.2.1 dX12_isGame_13 (by decide) ?_
      exact sg_zretP X hr (sg_zn (iv_of (iv_c 1 (a := 1) (b := 1) (by decide +kernel)) (a' := 0) (b' := 1) (by decide +kernel))) hlk hS ⟨(iv_of (iv_c 1 (a := 1) (b := 1) (by decide +kernel)) (a' := 0) (b' := 1) (by decide +kernel)), fun h => (iv_lt (b' := 3) (iv_gt_of c4) (iv_ler (c' := 0) (iv_ge_of c1) (iv_c 0 (a := 0) (b := 0) (by decide +kernel)) (iv_top x1) (by decide +kernel)) hf3 (by decide +kernel))⟩ dX12_isGame_17

theorem ca_X12_isGame   (X : CallFix p m c cc nL s args sg_tbl own) (hK : va_K D vwCl tys s) (hG : sgG (KT P) D vwCl (fun q : Nat => base ≤ q) tys ad ks H) (hC : sgC base s) (hA : ∀ q : Nat, A q → base ≤ q) (hS : va_S A s.heap H locs) (hb : base ≤ s.heap.size) (a0 : Nat) (h0 : isK ad ks 12 a0) (x1 : Int32) (hl : Cond.methodLink own index yX12_isGame ∈ sg_tbl) (hsize : ls.size = nL) (hst : st0 = [.int x1].reverse ++ .ref a0 :: rest) (hW : (rest.map fun v => v.category).sum ≤ 8) (hR : 1 ≤ R.frames ∧ 21 ≤ R.locals) (hf : cells ≤ R.cells ∧ slots ≤ R.slots) (hdg : decode cc pc = .ok (.invokevirtual index, 3)) (kk : ∀ (r : Int32) (locs1 : List Loc), (fun r : Int32 => iv 0 1 r ∧ (¬ r = 0 → iv 0 3 x1)) r → va_S A s.heap H locs1 → W p l e R s m args below meth c H locs1 cells slots Q (F0 m (pc + 3) ls (.int r :: rest))) : W p l e R s m args below meth c H locs cells slots Q (F0 m pc ls st0) :=
  sg_callPVi X hK hG hC hA hS hb (m_X12_isGame l a0 h0 x1) h0 (k := 12) (ci := 12) rfl (C := RX12) (T := TX12) (N := 53) rfl wl_8_198 wl_1_13 wl_8_197 wl_0_91 (n := 1) (by decide +kernel) rfl rfl rfl hl hsize hst hW hR hf hdg kk

set_option maxHeartbeats 8000000 in
set_option maxRecDepth 100000 in
theorem m_X12_cutBits_1 (l : Launch) {D : va_G} {base : Nat} {tys : List (ClassId × FieldType)} {ad ks : List Nat} {P : sgPm} {Hx : Heap} (hp4 : P.2.2.2.2.1 = true) (a0 : Nat) (h0 : isK ad ks 12 a0) (x1 : Int32) (x2 : Int32) (x3 : Int32) (x4 : Int32) : sgPi l (KT P) D vwCl base tys ad ks Hx yX12_cutBits cX12_cutBits 7 (some .int) ({ frames := 2, cells := 0, slots := 0, locals := 49 }) [.ref a0, .int x1, .int x2, .int x3, .int x4] (fun r : Int32 => True) := by
  refine sg_ofP (Pq := fun Hx => va_Qi (fun r (_ : Unit) => (fun r : Int32 => True) r) (fun _ t => t.heap = Hx) (fun _ : Nat => False)) (by decide +kernel) (Nat.le_of_ble_eq_true rfl) (fun p e s m below meth c X hr hlk hb hK hC hG ls hl => ?_)
  have hS : va_S (fun _ : Nat => False) s.heap s.heap [] := va_S.rf
  have hl : lv_has ls 7 [(0, .ref a0), (1, .int x1), (2, .int x2), (3, .int x3), (4, .int x4)] := hl
  refine lv_aload_n X.1 X.2.1 dX12_cutBits_0 rfl (lv_at hl 0 rfl) ?_
  refine lv_iload_n X.1 X.2.1 dX12_cutBits_1 rfl (lv_at hl 2 rfl) ?_
  refine ca_X12_isCell_1 X hK hG hC (fun _ h => h.elim) hS hb hp4 a0 h0 x2 wl_8_55 hl.1 (rest := []) rfl (Nat.le_of_ble_eq_true rfl) ⟨Nat.le_of_ble_eq_true rfl, Nat.le_of_ble_eq_true rfl⟩ ⟨Nat.le_of_ble_eq_true rfl, Nat.le_of_ble_eq_true rfl⟩ dX12_cutBits_2 (fun f1 locs hf1 hS => ?_)
  refine lv_if_eq (tgt := 50) X.1 X.2.1 dX12_cutBits_5 (by decide) (fun c2 => ?_) (fun c2 => ?_)
  · refine lv_iconst (v := (-1)) X.1 X.2.1 dX12_cutBits_50 (by decide +kernel) ?_
    exact sg_iretP X hr hlk hS trivial dX12_cutBits_51
  · refine lv_iload_n X.1 X.2.1 dX12_cutBits_8 rfl (lv_at hl 3 rfl) ?_
    obtain ⟨g3, eg3⟩ : ∃ y : Int64, y = (x3 : Int32).toInt64 := ⟨_, rfl⟩
    refine lv_i2l (v := g3) X.1 X.2.1 dX12_cutBits_9 eg3.symm ?_
    refine lv_lconst (v := 0) X.1 X.2.1 dX12_cutBits_10 (by decide +kernel) ?_
    refine lv_lconst (v := 1) X.1 X.2.1 dX12_cutBits_11 (by decide +kernel) ?_
    refine ca_X12_isIn X hK hG hC (fun _ h => h.elim) hS hb g3 0 1 wl_7_119 hl.1 (rest := []) rfl (Nat.le_of_ble_eq_true rfl) ⟨Nat.le_of_ble_eq_true rfl, Nat.le_of_ble_eq_true rfl⟩ ⟨Nat.le_of_ble_eq_true rfl, Nat.le_of_ble_eq_true rfl⟩ dX12_cutBits_12 (fun f4 locs hf4 hS => ?_)
    refine lv_if_eq (tgt := 50) X.1 X.2.1 dX12_cutBits_15 (by decide) (fun c5 => ?_) (fun c5 => ?_)
    · refine lv_iconst (v := (-1)) X.1 X.2.1 dX12_cutBits_50 (by decide +kernel) ?_
      exact sg_iretP X hr hlk hS trivial dX12_cutBits_51
    · refine lv_iload X.1 X.2.1 dX12_cutBits_18 (lv_at hl 4 rfl) ?_
      obtain ⟨g6, eg6⟩ : ∃ y : Int64, y = (x4 : Int32).toInt64 := ⟨_, rfl⟩
      refine lv_i2l (v := g6) X.1 X.2.1 dX12_cutBits_20 eg6.symm ?_
      refine lv_lconst (v := 1) X.1 X.2.1 dX12_cutBits_21 (by decide +kernel) ?_
      refine lv_aload_n X.1 X.2.1 dX12_cutBits_22 rfl (lv_at hl 0 rfl) ?_
      refine gf_X12_18 X hK hG h0 wl_6_196 dX12_cutBits_23 (fun q7 hq7 kq7 => ?_)
      refine lv_iconst (v := 3) X.1 X.2.1 dX12_cutBits_26 (by decide +kernel) ?_
      refine al_49 X hK hG hq7 (iv_vpin (iv_c 3 (a := 3) (b := 3) (by decide +kernel)) (by decide +kernel)) dX12_cutBits_27 (fun f8 hf8 => ?_)
      have of8 := hf8
      have hf8 : iv 1 5 f8 := sg_r1 hp4 hf8 (iv_c 3 (a := 3) (b := 3) (by decide +kernel)) (by decide +kernel) rfl
      obtain ⟨g9, eg9⟩ : ∃ y : Int64, y = (f8 : Int32).toInt64 := ⟨_, rfl⟩
      refine lv_i2l (v := g9) X.1 X.2.1 dX12_cutBits_28 eg9.symm ?_
      refine ca_X12_isIn X hK hG hC (fun _ h => h.elim) hS hb g6 1 g9 wl_7_119 hl.1 (rest := []) rfl (Nat.le_of_ble_eq_true rfl) ⟨Nat.le_of_ble_eq_true rfl, Nat.le_of_ble_eq_true rfl⟩ ⟨Nat.le_of_ble_eq_true rfl, Nat.le_of_ble_eq_true rfl⟩ dX12_cutBits_29 (fun f10 locs hf10 hS => ?_)
      refine lv_if_eq (tgt := 50) X.1 X.2.1 dX12_cutBits_32 (by decide) (fun c11 => ?_) (fun c11 => ?_)
      · refine lv_iconst (v := (-1)) X.1 X.2.1 dX12_cutBits_50 (by decide +kernel) ?_
        exact sg_iretP X hr hlk hS trivial dX12_cutBits_51
      · have ilq12 : x4.toInt ≤ f8.toInt := sg_isinI (hf10.2 c11) eg6 eg9
        refine lv_iload_n X.1 X.2.1 dX12_cutBits_35 rfl (lv_at hl 1 rfl) ?_
        refine lv_iload_n X.1 X.2.1 dX12_cutBits_36 rfl (lv_at hl 2 rfl) ?_
        refine lv_iload_n X.1 X.2.1 dX12_cutBits_37 rfl (lv_at hl 3 rfl) ?_
        refine lv_aload_n X.1 X.2.1 dX12_cutBits_38 rfl (lv_at hl 0 rfl) ?_
        refine gg_X12_18 X hK hG h0 wl_6_196 kq7 dX12_cutBits_39 ?_
        refine ca_X12_rowFrom_c X hK hG hC (fun _ h => h.elim) hS hb hp4 x1 x2 (hf1.2 c2) x3 (iv_of (sg_isin (a := 0) (b := 1) (hf4.2 c5) eg3 (by decide +kernel) (by decide +kernel)) (a' := 0) (b' := 3) (by decide +kernel)) q7 hq7 wl_7_202 hl.1 (rest := []) rfl (Nat.le_of_ble_eq_true rfl) ⟨Nat.le_of_ble_eq_true rfl, Nat.le_of_ble_eq_true rfl⟩ ⟨Nat.le_of_ble_eq_true rfl, Nat.le_of_ble_eq_true rfl⟩ dX12_cutBits_42 (fun f13 locs hf13 hS => ?_)
        refine lv_iload X.1 X.2.1 dX12_cutBits_45 (lv_at hl 4 rfl) ?_
        refine lv_icmp_ge (tgt := 52) X.1 X.2.1 dX12_cutBits_47 (by decide) (fun c14 => ?_) (fun c14 => ?_)
        · refine lv_iconst (v := 0) X.1 X.2.1 dX12_cutBits_52 (by decide +kernel) ?_
          refine lv_istore (lv' := [(5, .int 0), (0, .ref a0), (1, .int x1), (2, .int x2), (3, .int x3), (4, .int x4)]) X.1 X.2.1 dX12_cutBits_53 hl (by decide) rfl (fun ls hl => ?_)
          refine lv_iconst (v := 0) X.1 X.2.1 dX12_cutBits_55 (by decide +kernel) ?_
          refine lv_istore (lv' := [(6, .int 0), (5, .int 0), (0, .ref a0), (1, .int x1), (2, .int x2), (3, .int x3), (4, .int x4)]) X.1 X.2.1 dX12_cutBits_56 hl (by decide) rfl (fun ls hl => ?_)
          have B15_58 : ∀ (N : Nat) (locs : List Loc) (ls : Array Slot) (z15_5 : Int32) (z15_6 : Int32), va_S (fun _ : Nat => False) s.heap s.heap locs → lv_has ls 7 [(0, .ref a0), (2, .int x2), (3, .int x3), (4, .int x4), (5, .int z15_5), (6, .int z15_6)] → iv 0 5 z15_6 → (6 - z15_6.toInt).toNat ≤ N → W p l e (headSpec (Cond.code yX12_cutBits cX12_cutBits 7 (some .int) :: sg_tbl) ({ frames := 2, cells := 0, slots := 0, locals := 49 })).room s m #[.ref a0, .int x1, .int x2, .int x3, .int x4] below meth c s.heap locs 0 0 (MQ below (va_Qi (fun r (_ : Unit) => (fun r : Int32 => True) r) (fun _ t => t.heap = s.heap) (fun _ : Nat => False)) #[.ref a0, .int x1, .int x2, .int x3, .int x4] s 0 0 (fun _ : Nat => False)) (F0 m 58 ls []) := by
            intro N; induction N with
            | zero =>
              intro locs ls z15_5 z15_6 hS hl hz15_6 hN
              exact absurd hN (by have := iv_up hz15_6; omega)
            | succ N ih15 =>
              intro locs ls z15_5 z15_6 hS hl hz15_6 hN15
              refine lv_iload X.1 X.2.1 dX12_cutBits_58 (lv_at hl 5 rfl) ?_
              refine lv_iload X.1 X.2.1 dX12_cutBits_60 (lv_at hl 3 rfl) ?_
              refine lv_icmp_ge (tgt := 97) X.1 X.2.1 dX12_cutBits_62 (by decide) (fun c16 => ?_) (fun c16 => ?_)
              · refine lv_iload X.1 X.2.1 dX12_cutBits_97 (lv_at hl 4 rfl) ?_
                exact sg_iretP X hr hlk hS trivial dX12_cutBits_99
              · refine lv_iload X.1 X.2.1 dX12_cutBits_65 (lv_at hl 4 rfl) ?_
                refine lv_iconst (v := 1) X.1 X.2.1 dX12_cutBits_67 (by decide +kernel) ?_
                refine lv_iload_n X.1 X.2.1 dX12_cutBits_68 rfl (lv_at hl 1 rfl) ?_
                refine lv_iload X.1 X.2.1 dX12_cutBits_69 (lv_at hl 5 rfl) ?_
                refine lv_iload_n X.1 X.2.1 dX12_cutBits_71 rfl (lv_at hl 2 rfl) ?_
                have B18_85 : ∀ (locs : List Loc) (ls : Array Slot) (w18_0 : Int32), va_S (fun _ : Nat => False) s.heap s.heap locs → lv_has ls 7 [(0, .ref a0), (2, .int x2), (3, .int x3), (4, .int x4), (6, .int z15_6)] → iv 1 6 w18_0 → W p l e (headSpec (Cond.code yX12_cutBits cX12_cutBits 7 (some .int) :: sg_tbl) ({ frames := 2, cells := 0, slots := 0, locals := 49 })).room s m #[.ref a0, .int x1, .int x2, .int x3, .int x4] below meth c s.heap locs 0 0 (MQ below (va_Qi (fun r (_ : Unit) => (fun r : Int32 => True) r) (fun _ t => t.heap = s.heap) (fun _ : Nat => False)) #[.ref a0, .int x1, .int x2, .int x3, .int x4] s 0 0 (fun _ : Nat => False)) (F0 m 85 ls [.int w18_0, .int z15_6, .int x2, .int 1, .int z15_5]) := by
                  intro locs ls w18_0 hS hl hw18_0
                  refine lv_imul X.1 X.2.1 dX12_cutBits_85 ?_
                  refine lv_topi (fun f19 ef19 => ?_)
                  refine lv_iadd X.1 X.2.1 dX12_cutBits_86 ?_
                  refine lv_topi (fun f20 ef20 => ?_)
                  refine lv_ishl X.1 X.2.1 dX12_cutBits_87 ?_
                  refine lv_topi (fun f21 ef21 => ?_)
                  refine lv_ior X.1 X.2.1 dX12_cutBits_88 ?_
                  refine lv_topi (fun f22 ef22 => ?_)
                  refine lv_istore (lv' := [(5, .int f22), (0, .ref a0), (2, .int x2), (3, .int x3), (4, .int x4), (6, .int z15_6)]) X.1 X.2.1 dX12_cutBits_89 hl (by decide) rfl (fun ls hl => ?_)
                  obtain ⟨y23, ey23⟩ : ∃ y : Int32, y = z15_6 + Int32.ofInt 1 := ⟨_, rfl⟩
                  refine lv_iinc (v := y23) (lv' := [(6, .int y23), (5, .int f22), (0, .ref a0), (2, .int x2), (3, .int x3), (4, .int x4)]) X.1 X.2.1 dX12_cutBits_91 hl (k := 5) rfl ey23.symm (by decide) rfl (fun ls hl => ?_)
                  refine lv_goto (tgt := 58) X.1 X.2.1 dX12_cutBits_94 (by decide) ?_
                  exact ih15 _ _ f22 y23 hS (lv_sub hl [2, 3, 4, 5, 1, 0] rfl) (iv_of (iv_add (a' := 1) (b' := 5) ey23 (iv_lt (b' := 4) (iv_gt_of c16) hz15_6 (sg_isin (a := 1) (b := 5) (hf10.2 c11) eg6 (by decide +kernel) (sg_lbu eg9 hf8)) (by decide +kernel)) (iv_c _ (a := 1) (b := 1) (by decide +kernel)) (by decide +kernel)) (a' := 0) (b' := 5) (by decide +kernel)) (iv_stepU ey23 (iv_lt (b' := 4) (iv_gt_of c16) hz15_6 (sg_isin (a := 1) (b := 5) (hf10.2 c11) eg6 (by decide +kernel) (sg_lbu eg9 hf8)) (by decide +kernel)) (by decide +kernel) hN15)
                refine lv_if_ne (tgt := 79) X.1 X.2.1 dX12_cutBits_72 (by decide) (fun c17 => ?_) (fun c17 => ?_)
                · refine lv_aload_n X.1 X.2.1 dX12_cutBits_79 rfl (lv_at hl 0 rfl) ?_
                  refine gg_X12_18 X hK hG h0 wl_6_196 kq7 dX12_cutBits_80 ?_
                  refine lv_iconst (v := 0) X.1 X.2.1 dX12_cutBits_83 (by decide +kernel) ?_
                  refine al_49 X hK hG hq7 (iv_vpin (iv_c 0 (a := 0) (b := 0) (by decide +kernel)) (by decide +kernel)) dX12_cutBits_84 (fun f24 hf24 => ?_)
                  have of24 := hf24
                  have hf24 : iv 1 6 f24 := sg_r1 hp4 hf24 (iv_c 0 (a := 0) (b := 0) (by decide +kernel)) (by decide +kernel) rfl
                  exact B18_85 _ _ f24 hS (lv_sub hl [0, 1, 2, 3, 5] rfl) hf24
                · refine lv_iconst (v := 1) X.1 X.2.1 dX12_cutBits_75 (by decide +kernel) ?_
                  refine lv_goto (tgt := 85) X.1 X.2.1 dX12_cutBits_76 (by decide) ?_
                  exact B18_85 _ _ 1 hS (lv_sub hl [0, 1, 2, 3, 5] rfl) (iv_of (iv_c 1 (a := 1) (b := 1) (by decide +kernel)) (a' := 1) (b' := 6) (by decide +kernel))
          exact B15_58 _ _ _ 0 0 hS (lv_sub hl [2, 4, 5, 6, 1, 0] rfl) (iv_of (iv_c 0 (a := 0) (b := 0) (by decide +kernel)) (a' := 0) (b' := 5) (by decide +kernel)) (Nat.le_refl _)
        · refine lv_iconst (v := (-1)) X.1 X.2.1 dX12_cutBits_50 (by decide +kernel) ?_
          exact sg_iretP X hr hlk hS trivial dX12_cutBits_51

theorem ca_X12_cutBits_1   (X : CallFix p m c cc nL s args sg_tbl own) (hK : va_K D vwCl tys s) (hG : sgG (KT P) D vwCl (fun q : Nat => base ≤ q) tys ad ks H) (hC : sgC base s) (hA : ∀ q : Nat, A q → base ≤ q) (hS : va_S A s.heap H locs) (hb : base ≤ s.heap.size) (hp4 : P.2.2.2.2.1 = true) (a0 : Nat) (h0 : isK ad ks 12 a0) (x1 : Int32) (x2 : Int32) (x3 : Int32) (x4 : Int32) (hl : Cond.methodLink own index yX12_cutBits ∈ sg_tbl) (hsize : ls.size = nL) (hst : st0 = [.int x1, .int x2, .int x3, .int x4].reverse ++ .ref a0 :: rest) (hW : (rest.map fun v => v.category).sum ≤ 8) (hR : 3 ≤ R.frames ∧ 75 ≤ R.locals) (hf : cells ≤ R.cells ∧ slots ≤ R.slots) (hdg : decode cc pc = .ok (.invokevirtual index, 3)) (kk : ∀ (r : Int32) (locs1 : List Loc), (fun r : Int32 => True) r → va_S A s.heap H locs1 → W p l e R s m args below meth c H locs1 cells slots Q (F0 m (pc + 3) ls (.int r :: rest))) : W p l e R s m args below meth c H locs cells slots Q (F0 m pc ls st0) :=
  sg_callPVi X hK hG hC hA hS hb (m_X12_cutBits_1 l hp4 a0 h0 x1 x2 x3 x4) h0 (k := 12) (ci := 12) rfl (C := RX12) (T := TX12) (N := 53) rfl wl_8_124 wl_1_13 wl_8_123 wl_0_82 (n := 4) (by decide +kernel) rfl rfl rfl hl hsize hst hW hR hf hdg kk

set_option maxHeartbeats 8000000 in
set_option maxRecDepth 100000 in
theorem m_X12_codeOf_1 (l : Launch) {D : va_G} {base : Nat} {tys : List (ClassId × FieldType)} {ad ks : List Nat} {P : sgPm} {Hx : Heap} (hp4 : P.2.2.2.2.1 = true) (a0 : Nat) (h0 : isK ad ks 12 a0) (x1 : Int32) (x2 : Int32) (h2 : iv 0 300 x2) : sgPi l (KT P) D vwCl base tys ad ks Hx yX12_codeOf cX12_codeOf 6 (some .int) ({ frames := 3, cells := 0, slots := 0, locals := 75 }) [.ref a0, .int x1, .int x2] (fun r : Int32 => True) := by
  refine sg_ofP (Pq := fun Hx => va_Qi (fun r (_ : Unit) => (fun r : Int32 => True) r) (fun _ t => t.heap = Hx) (fun _ : Nat => False)) (by decide +kernel) (Nat.le_of_ble_eq_true rfl) (fun p e s m below meth c X hr hlk hb hK hC hG ls hl => ?_)
  have hS : va_S (fun _ : Nat => False) s.heap s.heap [] := va_S.rf
  have hl : lv_has ls 6 [(0, .ref a0), (1, .int x1), (2, .int x2)] := hl
  refine lv_iload_n X.1 X.2.1 dX12_codeOf_0 rfl (lv_at hl 2 rfl) ?_
  refine lv_bipush (v := 10) X.1 X.2.1 dX12_codeOf_1 (by decide +kernel) ?_
  refine lv_idiv X.1 X.2.1 dX12_codeOf_3 (iv_ne0 (iv_c 10 (a := 10) (b := 10) (by decide +kernel)) (by decide +kernel)) ?_
  refine lv_topi (fun f1 ef1 => ?_)
  refine lv_istore_n (lv' := [(3, .int f1), (0, .ref a0), (1, .int x1), (2, .int x2)]) X.1 X.2.1 dX12_codeOf_4 rfl hl (by decide) rfl (fun ls hl => ?_)
  refine lv_iload_n X.1 X.2.1 dX12_codeOf_5 rfl (lv_at hl 3 rfl) ?_
  refine lv_iconst (v := 5) X.1 X.2.1 dX12_codeOf_6 (by decide +kernel) ?_
  refine lv_idiv X.1 X.2.1 dX12_codeOf_7 (iv_ne0 (iv_c 5 (a := 5) (b := 5) (by decide +kernel)) (by decide +kernel)) ?_
  refine lv_topi (fun f2 ef2 => ?_)
  refine lv_iconst (v := 2) X.1 X.2.1 dX12_codeOf_8 (by decide +kernel) ?_
  refine lv_irem X.1 X.2.1 dX12_codeOf_9 (iv_ne0 (iv_c 2 (a := 2) (b := 2) (by decide +kernel)) (by decide +kernel)) ?_
  refine lv_topi (fun f3 ef3 => ?_)
  refine lv_istore (lv' := [(4, .int f3), (3, .int f1), (0, .ref a0), (1, .int x1), (2, .int x2)]) X.1 X.2.1 dX12_codeOf_10 hl (by decide) rfl (fun ls hl => ?_)
  refine lv_iload_n X.1 X.2.1 dX12_codeOf_12 rfl (lv_at hl 4 rfl) ?_
  refine lv_iconst (v := 5) X.1 X.2.1 dX12_codeOf_13 (by decide +kernel) ?_
  refine lv_irem X.1 X.2.1 dX12_codeOf_14 (iv_ne0 (iv_c 5 (a := 5) (b := 5) (by decide +kernel)) (by decide +kernel)) ?_
  refine lv_topi (fun f4 ef4 => ?_)
  refine lv_iconst (v := 1) X.1 X.2.1 dX12_codeOf_15 (by decide +kernel) ?_
  refine lv_iadd X.1 X.2.1 dX12_codeOf_16 ?_
  refine lv_topi (fun f5 ef5 => ?_)
  refine lv_istore (lv' := [(5, .int f5), (4, .int f3), (3, .int f1), (0, .ref a0), (1, .int x1), (2, .int x2)]) X.1 X.2.1 dX12_codeOf_17 hl (by decide) rfl (fun ls hl => ?_)
  refine lv_iload X.1 X.2.1 dX12_codeOf_19 (lv_at hl 0 rfl) ?_
  refine lv_iconst (v := 1) X.1 X.2.1 dX12_codeOf_21 (by decide +kernel) ?_
  have B7_45 : ∀ (locs : List Loc) (ls : Array Slot), va_S (fun _ : Nat => False) s.heap s.heap locs → lv_has ls 6 [] → W p l e (headSpec (Cond.code yX12_codeOf cX12_codeOf 6 (some .int) :: sg_tbl) ({ frames := 3, cells := 0, slots := 0, locals := 75 })).room s m #[.ref a0, .int x1, .int x2] below meth c s.heap locs 0 0 (MQ below (va_Qi (fun r (_ : Unit) => (fun r : Int32 => True) r) (fun _ t => t.heap = s.heap) (fun _ : Nat => False)) #[.ref a0, .int x1, .int x2] s 0 0 (fun _ : Nat => False)) (F0 m 45 ls []) := by
    intro locs ls hS hl
    refine lv_iconst (v := (-1)) X.1 X.2.1 dX12_codeOf_45 (by decide +kernel) ?_
    refine lv_goto (tgt := 62) X.1 X.2.1 dX12_codeOf_46 (by decide) ?_
    exact sg_iretP X hr hlk hS trivial dX12_codeOf_62
  have B8_31 : ∀ (locs : List Loc) (ls : Array Slot), va_S (fun _ : Nat => False) s.heap s.heap locs → lv_has ls 6 [(0, .ref a0), (1, .int x1), (3, .int f1), (4, .int f3), (5, .int f5)] → W p l e (headSpec (Cond.code yX12_codeOf cX12_codeOf 6 (some .int) :: sg_tbl) ({ frames := 3, cells := 0, slots := 0, locals := 75 })).room s m #[.ref a0, .int x1, .int x2] below meth c s.heap locs 0 0 (MQ below (va_Qi (fun r (_ : Unit) => (fun r : Int32 => True) r) (fun _ t => t.heap = s.heap) (fun _ : Nat => False)) #[.ref a0, .int x1, .int x2] s 0 0 (fun _ : Nat => False)) (F0 m 31 ls []) := by
    intro locs ls hS hl
    refine lv_aload_n X.1 X.2.1 dX12_codeOf_31 rfl (lv_at hl 0 rfl) ?_
    refine lv_iload_n X.1 X.2.1 dX12_codeOf_32 rfl (lv_at hl 1 rfl) ?_
    refine lv_iload_n X.1 X.2.1 dX12_codeOf_33 rfl (lv_at hl 2 rfl) ?_
    refine lv_iload X.1 X.2.1 dX12_codeOf_34 (lv_at hl 3 rfl) ?_
    refine lv_iload X.1 X.2.1 dX12_codeOf_36 (lv_at hl 4 rfl) ?_
    refine ca_X12_cutBits_1 X hK hG hC (fun _ h => h.elim) hS hb hp4 a0 h0 x1 f1 f3 f5 wl_8_121 hl.1 (rest := []) rfl (Nat.le_of_ble_eq_true rfl) ⟨Nat.le_of_ble_eq_true rfl, Nat.le_of_ble_eq_true rfl⟩ ⟨Nat.le_of_ble_eq_true rfl, Nat.le_of_ble_eq_true rfl⟩ dX12_codeOf_38 (fun f9 locs hf9 hS => ?_)
    refine lv_iconst (v := (-1)) X.1 X.2.1 dX12_codeOf_41 (by decide +kernel) ?_
    refine lv_icmp_ne (tgt := 49) X.1 X.2.1 dX12_codeOf_42 (by decide) (fun c10 => ?_) (fun c10 => ?_)
    · refine lv_bipush (v := 100) X.1 X.2.1 dX12_codeOf_49 (by decide +kernel) ?_
      refine lv_iload_n X.1 X.2.1 dX12_codeOf_51 rfl (lv_at hl 2 rfl) ?_
      refine lv_imul X.1 X.2.1 dX12_codeOf_52 ?_
      refine lv_topi (fun f11 ef11 => ?_)
      refine lv_bipush (v := 10) X.1 X.2.1 dX12_codeOf_53 (by decide +kernel) ?_
      refine lv_iload X.1 X.2.1 dX12_codeOf_55 (lv_at hl 3 rfl) ?_
      refine lv_imul X.1 X.2.1 dX12_codeOf_57 ?_
      refine lv_topi (fun f12 ef12 => ?_)
      refine lv_iadd X.1 X.2.1 dX12_codeOf_58 ?_
      refine lv_topi (fun f13 ef13 => ?_)
      refine lv_iload X.1 X.2.1 dX12_codeOf_59 (lv_at hl 4 rfl) ?_
      refine lv_iadd X.1 X.2.1 dX12_codeOf_61 ?_
      refine lv_topi (fun f14 ef14 => ?_)
      exact sg_iretP X hr hlk hS trivial dX12_codeOf_62
    · exact B7_45 _ _ hS (lv_sub hl [] rfl)
  refine lv_icmp_ne (tgt := 31) X.1 X.2.1 dX12_codeOf_22 (by decide) (fun c6 => ?_) (fun c6 => ?_)
  · exact B8_31 _ _ hS (lv_sub hl [3, 4, 2, 1, 0] rfl)
  · refine lv_iload X.1 X.2.1 dX12_codeOf_25 (lv_at hl 1 rfl) ?_
    refine lv_iconst (v := 1) X.1 X.2.1 dX12_codeOf_27 (by decide +kernel) ?_
    refine lv_icmp_eq (tgt := 45) X.1 X.2.1 dX12_codeOf_28 (by decide) (fun c15 => ?_) (fun c15 => ?_)
    · exact B7_45 _ _ hS (lv_sub hl [] rfl)
    · exact B8_31 _ _ hS (lv_sub hl [3, 4, 2, 1, 0] rfl)

theorem ca_X12_codeOf_1   (X : CallFix p m c cc nL s args sg_tbl own) (hK : va_K D vwCl tys s) (hG : sgG (KT P) D vwCl (fun q : Nat => base ≤ q) tys ad ks H) (hC : sgC base s) (hA : ∀ q : Nat, A q → base ≤ q) (hS : va_S A s.heap H locs) (hb : base ≤ s.heap.size) (hp4 : P.2.2.2.2.1 = true) (a0 : Nat) (h0 : isK ad ks 12 a0) (x1 : Int32) (x2 : Int32) (h2 : iv 0 300 x2) (hl : Cond.methodLink own index yX12_codeOf ∈ sg_tbl) (hsize : ls.size = nL) (hst : st0 = [.int x1, .int x2].reverse ++ .ref a0 :: rest) (hW : (rest.map fun v => v.category).sum ≤ 8) (hR : 4 ≤ R.frames ∧ 100 ≤ R.locals) (hf : cells ≤ R.cells ∧ slots ≤ R.slots) (hdg : decode cc pc = .ok (.invokevirtual index, 3)) (kk : ∀ (r : Int32) (locs1 : List Loc), (fun r : Int32 => True) r → va_S A s.heap H locs1 → W p l e R s m args below meth c H locs1 cells slots Q (F0 m (pc + 3) ls (.int r :: rest))) : W p l e R s m args below meth c H locs cells slots Q (F0 m pc ls st0) :=
  sg_callPVi X hK hG hC hA hS hb (m_X12_codeOf_1 l hp4 a0 h0 x1 x2 h2) h0 (k := 12) (ci := 12) rfl (C := RX12) (T := TX12) (N := 53) rfl wl_8_176 wl_1_13 wl_8_175 wl_0_89 (n := 2) (by decide +kernel) rfl rfl rfl hl hsize hst hW hR hf hdg kk

set_option maxHeartbeats 8000000 in
set_option maxRecDepth 100000 in
theorem m_X12_without_1 (l : Launch) {D : va_G} {base : Nat} {tys : List (ClassId × FieldType)} {ad ks : List Nat} {P : sgPm} {Hx : Heap} (hp4 : P.2.2.2.2.1 = true) (a0 : Nat) (h0 : isK ad ks 12 a0) (x1 : Int32) (x2 : Int32) : sgPi l (KT P) D vwCl base tys ad ks Hx yX12_without cX12_without 3 (some .int) ({ frames := 3, cells := 0, slots := 0, locals := 75 }) [.ref a0, .int x1, .int x2] (fun r : Int32 => True) := by
  refine sg_ofP (Pq := fun Hx => va_Qi (fun r (_ : Unit) => (fun r : Int32 => True) r) (fun _ t => t.heap = Hx) (fun _ : Nat => False)) (by decide +kernel) (Nat.le_of_ble_eq_true rfl) (fun p e s m below meth c X hr hlk hb hK hC hG ls hl => ?_)
  have hS : va_S (fun _ : Nat => False) s.heap s.heap [] := va_S.rf
  have hl : lv_has ls 3 [(0, .ref a0), (1, .int x1), (2, .int x2)] := hl
  refine lv_iload_n X.1 X.2.1 dX12_without_0 rfl (lv_at hl 1 rfl) ?_
  refine lv_aload_n X.1 X.2.1 dX12_without_1 rfl (lv_at hl 0 rfl) ?_
  refine lv_iload_n X.1 X.2.1 dX12_without_2 rfl (lv_at hl 1 rfl) ?_
  refine lv_iload_n X.1 X.2.1 dX12_without_3 rfl (lv_at hl 2 rfl) ?_
  refine lv_bipush (v := 100) X.1 X.2.1 dX12_without_4 (by decide +kernel) ?_
  refine lv_idiv X.1 X.2.1 dX12_without_6 (iv_ne0 (iv_c 100 (a := 100) (b := 100) (by decide +kernel)) (by decide +kernel)) ?_
  refine lv_topi (fun f1 ef1 => ?_)
  refine lv_iload_n X.1 X.2.1 dX12_without_7 rfl (lv_at hl 2 rfl) ?_
  refine lv_bipush (v := 10) X.1 X.2.1 dX12_without_8 (by decide +kernel) ?_
  refine lv_idiv X.1 X.2.1 dX12_without_10 (iv_ne0 (iv_c 10 (a := 10) (b := 10) (by decide +kernel)) (by decide +kernel)) ?_
  refine lv_topi (fun f2 ef2 => ?_)
  refine lv_bipush (v := 10) X.1 X.2.1 dX12_without_11 (by decide +kernel) ?_
  refine lv_irem X.1 X.2.1 dX12_without_13 (iv_ne0 (iv_c 10 (a := 10) (b := 10) (by decide +kernel)) (by decide +kernel)) ?_
  refine lv_topi (fun f3 ef3 => ?_)
  refine lv_iload_n X.1 X.2.1 dX12_without_14 rfl (lv_at hl 2 rfl) ?_
  refine lv_bipush (v := 10) X.1 X.2.1 dX12_without_15 (by decide +kernel) ?_
  refine lv_irem X.1 X.2.1 dX12_without_17 (iv_ne0 (iv_c 10 (a := 10) (b := 10) (by decide +kernel)) (by decide +kernel)) ?_
  refine lv_topi (fun f4 ef4 => ?_)
  refine ca_X12_cutBits_1 X hK hG hC (fun _ h => h.elim) hS hb hp4 a0 h0 x1 f1 f3 f4 wl_8_121 hl.1 (rest := [.int x1]) rfl (Nat.le_of_ble_eq_true rfl) ⟨Nat.le_of_ble_eq_true rfl, Nat.le_of_ble_eq_true rfl⟩ ⟨Nat.le_of_ble_eq_true rfl, Nat.le_of_ble_eq_true rfl⟩ dX12_without_18 (fun f5 locs hf5 hS => ?_)
  refine lv_iconst (v := (-1)) X.1 X.2.1 dX12_without_21 (by decide +kernel) ?_
  refine lv_ixor X.1 X.2.1 dX12_without_22 ?_
  refine lv_topi (fun f6 ef6 => ?_)
  refine lv_iand X.1 X.2.1 dX12_without_23 ?_
  refine lv_topi (fun f7 ef7 => ?_)
  exact sg_iretP X hr hlk hS trivial dX12_without_24

theorem ca_X12_without_1   (X : CallFix p m c cc nL s args sg_tbl own) (hK : va_K D vwCl tys s) (hG : sgG (KT P) D vwCl (fun q : Nat => base ≤ q) tys ad ks H) (hC : sgC base s) (hA : ∀ q : Nat, A q → base ≤ q) (hS : va_S A s.heap H locs) (hb : base ≤ s.heap.size) (hp4 : P.2.2.2.2.1 = true) (a0 : Nat) (h0 : isK ad ks 12 a0) (x1 : Int32) (x2 : Int32) (hl : Cond.methodLink own index yX12_without ∈ sg_tbl) (hsize : ls.size = nL) (hst : st0 = [.int x1, .int x2].reverse ++ .ref a0 :: rest) (hW : (rest.map fun v => v.category).sum ≤ 8) (hR : 4 ≤ R.frames ∧ 97 ≤ R.locals) (hf : cells ≤ R.cells ∧ slots ≤ R.slots) (hdg : decode cc pc = .ok (.invokevirtual index, 3)) (kk : ∀ (r : Int32) (locs1 : List Loc), (fun r : Int32 => True) r → va_S A s.heap H locs1 → W p l e R s m args below meth c H locs1 cells slots Q (F0 m (pc + 3) ls (.int r :: rest))) : W p l e R s m args below meth c H locs cells slots Q (F0 m pc ls st0) :=
  sg_callPVi X hK hG hC hA hS hb (m_X12_without_1 l hp4 a0 h0 x1 x2) h0 (k := 12) (ci := 12) rfl (C := RX12) (T := TX12) (N := 53) rfl wl_8_180 wl_1_13 wl_8_179 wl_0_90 (n := 2) (by decide +kernel) rfl rfl rfl hl hsize hst hW hR hf hdg kk

set_option maxHeartbeats 8000000 in
set_option maxRecDepth 100000 in
theorem m_X12_partOf_1 (l : Launch) {D : va_G} {base : Nat} {tys : List (ClassId × FieldType)} {ad ks : List Nat} {P : sgPm} {Hx : Heap} (hp4 : P.2.2.2.2.1 = true) (a0 : Nat) (h0 : isK ad ks 12 a0) (x1 : Int32) : sgPi l (KT P) D vwCl base tys ad ks Hx yX12_partOf cX12_partOf 6 (some .int) ({ frames := 1, cells := 0, slots := 0, locals := 21 }) [.ref a0, .int x1] (fun r : Int32 => True) := by
  refine sg_ofP (Pq := fun Hx => va_Qi (fun r (_ : Unit) => (fun r : Int32 => True) r) (fun _ t => t.heap = Hx) (fun _ : Nat => False)) (by decide +kernel) (Nat.le_of_ble_eq_true rfl) (fun p e s m below meth c X hr hlk hb hK hC hG ls hl => ?_)
  have hS : va_S (fun _ : Nat => False) s.heap s.heap [] := va_S.rf
  have hl : lv_has ls 6 [(0, .ref a0), (1, .int x1)] := hl
  refine lv_iconst (v := 1) X.1 X.2.1 dX12_partOf_0 (by decide +kernel) ?_
  refine lv_iload_n X.1 X.2.1 dX12_partOf_1 rfl (lv_at hl 1 rfl) ?_
  refine lv_ishl X.1 X.2.1 dX12_partOf_2 ?_
  refine lv_topi (fun f1 ef1 => ?_)
  refine lv_istore_n (lv' := [(2, .int f1), (0, .ref a0), (1, .int x1)]) X.1 X.2.1 dX12_partOf_3 rfl hl (by decide) rfl (fun ls hl => ?_)
  refine lv_iconst (v := 0) X.1 X.2.1 dX12_partOf_4 (by decide +kernel) ?_
  refine lv_istore_n (lv' := [(3, .int 0), (2, .int f1), (0, .ref a0), (1, .int x1)]) X.1 X.2.1 dX12_partOf_5 rfl hl (by decide) rfl (fun ls hl => ?_)
  have B2_6 : ∀ (N : Nat) (locs : List Loc) (ls : Array Slot) (z2_2 : Int32) (z2_3 : Int32), va_S (fun _ : Nat => False) s.heap s.heap locs → lv_has ls 6 [(0, .ref a0), (2, .int z2_2), (3, .int z2_3)] → iv 0 30 z2_3 → (31 - z2_3.toInt).toNat ≤ N → W p l e (headSpec (Cond.code yX12_partOf cX12_partOf 6 (some .int) :: sg_tbl) ({ frames := 1, cells := 0, slots := 0, locals := 21 })).room s m #[.ref a0, .int x1] below meth c s.heap locs 0 0 (MQ below (va_Qi (fun r (_ : Unit) => (fun r : Int32 => True) r) (fun _ t => t.heap = s.heap) (fun _ : Nat => False)) #[.ref a0, .int x1] s 0 0 (fun _ : Nat => False)) (F0 m 6 ls []) := by
    intro N; induction N with
    | zero =>
      intro locs ls z2_2 z2_3 hS hl hz2_3 hN
      exact absurd hN (by have := iv_up hz2_3; omega)
    | succ N ih2 =>
      intro locs ls z2_2 z2_3 hS hl hz2_3 hN2
      refine lv_iload_n X.1 X.2.1 dX12_partOf_6 rfl (lv_at hl 2 rfl) ?_
      refine lv_aload_n X.1 X.2.1 dX12_partOf_7 rfl (lv_at hl 0 rfl) ?_
      refine gf_X12_23s X hK hG h0 hp4 wl_6_201 dX12_partOf_8 (fun f3 hf3 kf3 => ?_)
      refine lv_icmp_ge (tgt := 180) X.1 X.2.1 dX12_partOf_11 (by decide) (fun c4 => ?_) (fun c4 => ?_)
      · refine lv_iload_n X.1 X.2.1 dX12_partOf_180 rfl (lv_at hl 1 rfl) ?_
        exact sg_iretP X hr hlk hS trivial dX12_partOf_181
      · refine lv_iconst (v := 0) X.1 X.2.1 dX12_partOf_14 (by decide +kernel) ?_
        refine lv_istore (lv' := [(4, .int 0), (0, .ref a0), (2, .int z2_2), (3, .int z2_3)]) X.1 X.2.1 dX12_partOf_15 hl (by decide) rfl (fun ls hl => ?_)
        have B5_17 : ∀ (N : Nat) (locs : List Loc) (ls : Array Slot) (z5_2 : Int32) (z5_4 : Int32), va_S (fun _ : Nat => False) s.heap s.heap locs → lv_has ls 6 [(0, .ref a0), (2, .int z5_2), (3, .int z2_3), (4, .int z5_4)] → iv 0 30 z5_4 → (31 - z5_4.toInt).toNat ≤ N → W p l e (headSpec (Cond.code yX12_partOf cX12_partOf 6 (some .int) :: sg_tbl) ({ frames := 1, cells := 0, slots := 0, locals := 21 })).room s m #[.ref a0, .int x1] below meth c s.heap locs 0 0 (MQ below (va_Qi (fun r (_ : Unit) => (fun r : Int32 => True) r) (fun _ t => t.heap = s.heap) (fun _ : Nat => False)) #[.ref a0, .int x1] s 0 0 (fun _ : Nat => False)) (F0 m 17 ls []) := by
          intro N; induction N with
          | zero =>
            intro locs ls z5_2 z5_4 hS hl hz5_4 hN
            exact absurd hN (by have := iv_up hz5_4; omega)
          | succ N ih5 =>
            intro locs ls z5_2 z5_4 hS hl hz5_4 hN5
            refine lv_iload X.1 X.2.1 dX12_partOf_17 (lv_at hl 3 rfl) ?_
            refine lv_aload_n X.1 X.2.1 dX12_partOf_19 rfl (lv_at hl 0 rfl) ?_
            refine gg_X12_23 X hK hG h0 wl_6_201 kf3 dX12_partOf_20 ?_
            refine lv_icmp_ge (tgt := 174) X.1 X.2.1 dX12_partOf_23 (by decide) (fun c6 => ?_) (fun c6 => ?_)
            · obtain ⟨y7, ey7⟩ : ∃ y : Int32, y = z2_3 + Int32.ofInt 1 := ⟨_, rfl⟩
              refine lv_iinc (v := y7) (lv' := [(3, .int y7), (0, .ref a0), (2, .int z5_2), (4, .int z5_4)]) X.1 X.2.1 dX12_partOf_174 hl (k := 2) rfl ey7.symm (by decide) rfl (fun ls hl => ?_)
              refine lv_goto (tgt := 6) X.1 X.2.1 dX12_partOf_177 (by decide) ?_
              exact ih2 _ _ z5_2 y7 hS (lv_sub hl [1, 2, 0] rfl) (iv_of (iv_add (a' := 1) (b' := 30) ey7 (iv_lt (b' := 29) (iv_gt_of c4) hz2_3 hf3 (by decide +kernel)) (iv_c _ (a := 1) (b := 1) (by decide +kernel)) (by decide +kernel)) (a' := 0) (b' := 30) (by decide +kernel)) (iv_stepU ey7 (iv_lt (b' := 29) (iv_gt_of c4) hz2_3 hf3 (by decide +kernel)) (by decide +kernel) hN2)
            · refine lv_iload_n X.1 X.2.1 dX12_partOf_26 rfl (lv_at hl 1 rfl) ?_
              refine lv_iload X.1 X.2.1 dX12_partOf_27 (lv_at hl 3 rfl) ?_
              refine ca_X12_has X hK hG hC (fun _ h => h.elim) hS hb z5_2 z5_4 wl_7_174 hl.1 (rest := []) rfl (Nat.le_of_ble_eq_true rfl) ⟨Nat.le_of_ble_eq_true rfl, Nat.le_of_ble_eq_true rfl⟩ ⟨Nat.le_of_ble_eq_true rfl, Nat.le_of_ble_eq_true rfl⟩ dX12_partOf_29 (fun f8 locs hf8 hS => ?_)
              have B10_168 : ∀ (locs : List Loc) (ls : Array Slot) (z10_2 : Int32), va_S (fun _ : Nat => False) s.heap s.heap locs → lv_has ls 6 [(0, .ref a0), (2, .int z10_2), (3, .int z2_3), (4, .int z5_4)] → W p l e (headSpec (Cond.code yX12_partOf cX12_partOf 6 (some .int) :: sg_tbl) ({ frames := 1, cells := 0, slots := 0, locals := 21 })).room s m #[.ref a0, .int x1] below meth c s.heap locs 0 0 (MQ below (va_Qi (fun r (_ : Unit) => (fun r : Int32 => True) r) (fun _ t => t.heap = s.heap) (fun _ : Nat => False)) #[.ref a0, .int x1] s 0 0 (fun _ : Nat => False)) (F0 m 168 ls []) := by
                intro locs ls z10_2 hS hl
                obtain ⟨y11, ey11⟩ : ∃ y : Int32, y = z5_4 + Int32.ofInt 1 := ⟨_, rfl⟩
                refine lv_iinc (v := y11) (lv' := [(4, .int y11), (0, .ref a0), (2, .int z10_2), (3, .int z2_3)]) X.1 X.2.1 dX12_partOf_168 hl (k := 3) rfl ey11.symm (by decide) rfl (fun ls hl => ?_)
                refine lv_goto (tgt := 17) X.1 X.2.1 dX12_partOf_171 (by decide) ?_
                exact ih5 _ _ z10_2 y11 hS (lv_sub hl [1, 2, 3, 0] rfl) (iv_of (iv_add (a' := 1) (b' := 30) ey11 (iv_lt (b' := 29) (iv_gt_of c6) hz5_4 hf3 (by decide +kernel)) (iv_c _ (a := 1) (b := 1) (by decide +kernel)) (by decide +kernel)) (a' := 0) (b' := 30) (by decide +kernel)) (iv_stepU ey11 (iv_lt (b' := 29) (iv_gt_of c6) hz5_4 hf3 (by decide +kernel)) (by decide +kernel) hN5)
              refine lv_if_ne (tgt := 38) X.1 X.2.1 dX12_partOf_32 (by decide) (fun c9 => ?_) (fun c9 => ?_)
              · refine lv_iload X.1 X.2.1 dX12_partOf_38 (lv_at hl 3 rfl) ?_
                refine lv_aload_n X.1 X.2.1 dX12_partOf_40 rfl (lv_at hl 0 rfl) ?_
                refine gf_X12_18 X hK hG h0 wl_6_196 dX12_partOf_41 (fun q12 hq12 kq12 => ?_)
                refine lv_iconst (v := 0) X.1 X.2.1 dX12_partOf_44 (by decide +kernel) ?_
                refine al_49 X hK hG hq12 (iv_vpin (iv_c 0 (a := 0) (b := 0) (by decide +kernel)) (by decide +kernel)) dX12_partOf_45 (fun f13 hf13 => ?_)
                have of13 := hf13
                have hf13 : iv 1 6 f13 := sg_r1 hp4 hf13 (iv_c 0 (a := 0) (b := 0) (by decide +kernel)) (by decide +kernel) rfl
                refine lv_irem X.1 X.2.1 dX12_partOf_46 (iv_ne0 hf13 (by decide +kernel)) ?_
                refine lv_topi (fun f14 ef14 => ?_)
                refine lv_istore (lv' := [(5, .int f14), (0, .ref a0), (2, .int z5_2), (3, .int z2_3), (4, .int z5_4)]) X.1 X.2.1 dX12_partOf_47 hl (by decide) rfl (fun ls hl => ?_)
                refine lv_iload X.1 X.2.1 dX12_partOf_49 (lv_at hl 0 rfl) ?_
                have B16_70 : ∀ (locs : List Loc) (ls : Array Slot) (z16_2 : Int32), va_S (fun _ : Nat => False) s.heap s.heap locs → lv_has ls 6 [(0, .ref a0), (2, .int z16_2), (3, .int z2_3), (4, .int z5_4), (5, .int f14)] → W p l e (headSpec (Cond.code yX12_partOf cX12_partOf 6 (some .int) :: sg_tbl) ({ frames := 1, cells := 0, slots := 0, locals := 21 })).room s m #[.ref a0, .int x1] below meth c s.heap locs 0 0 (MQ below (va_Qi (fun r (_ : Unit) => (fun r : Int32 => True) r) (fun _ t => t.heap = s.heap) (fun _ : Nat => False)) #[.ref a0, .int x1] s 0 0 (fun _ : Nat => False)) (F0 m 70 ls []) := by
                  intro locs ls z16_2 hS hl
                  refine lv_iload X.1 X.2.1 dX12_partOf_70 (lv_at hl 4 rfl) ?_
                  refine lv_aload_n X.1 X.2.1 dX12_partOf_72 rfl (lv_at hl 0 rfl) ?_
                  refine gg_X12_18 X hK hG h0 wl_6_196 kq12 dX12_partOf_73 ?_
                  refine lv_iconst (v := 0) X.1 X.2.1 dX12_partOf_76 (by decide +kernel) ?_
                  refine al_49 X hK hG hq12 (iv_vpin (iv_c 0 (a := 0) (b := 0) (by decide +kernel)) (by decide +kernel)) dX12_partOf_77 (fun f17 hf17 => ?_)
                  have of17 := hf17
                  have hf17 : iv 1 6 f17 := sg_r1 hp4 hf17 (iv_c 0 (a := 0) (b := 0) (by decide +kernel)) (by decide +kernel) rfl
                  refine lv_iconst (v := 1) X.1 X.2.1 dX12_partOf_78 (by decide +kernel) ?_
                  refine lv_isub X.1 X.2.1 dX12_partOf_79 ?_
                  refine lv_topi (fun f18 ef18 => ?_)
                  have B20_99 : ∀ (locs : List Loc) (ls : Array Slot) (z20_2 : Int32), va_S (fun _ : Nat => False) s.heap s.heap locs → lv_has ls 6 [(0, .ref a0), (2, .int z20_2), (3, .int z2_3), (4, .int z5_4)] → W p l e (headSpec (Cond.code yX12_partOf cX12_partOf 6 (some .int) :: sg_tbl) ({ frames := 1, cells := 0, slots := 0, locals := 21 })).room s m #[.ref a0, .int x1] below meth c s.heap locs 0 0 (MQ below (va_Qi (fun r (_ : Unit) => (fun r : Int32 => True) r) (fun _ t => t.heap = s.heap) (fun _ : Nat => False)) #[.ref a0, .int x1] s 0 0 (fun _ : Nat => False)) (F0 m 99 ls []) := by
                    intro locs ls z20_2 hS hl
                    refine lv_iload X.1 X.2.1 dX12_partOf_99 (lv_at hl 3 rfl) ?_
                    refine lv_aload_n X.1 X.2.1 dX12_partOf_101 rfl (lv_at hl 0 rfl) ?_
                    refine gg_X12_18 X hK hG h0 wl_6_196 kq12 dX12_partOf_102 ?_
                    refine lv_iconst (v := 0) X.1 X.2.1 dX12_partOf_105 (by decide +kernel) ?_
                    refine al_49 X hK hG hq12 (iv_vpin (iv_c 0 (a := 0) (b := 0) (by decide +kernel)) (by decide +kernel)) dX12_partOf_106 (fun f21 hf21 => ?_)
                    have of21 := hf21
                    have hf21 : iv 1 6 f21 := sg_r1 hp4 hf21 (iv_c 0 (a := 0) (b := 0) (by decide +kernel)) (by decide +kernel) rfl
                    have B23_131 : ∀ (locs : List Loc) (ls : Array Slot) (z23_2 : Int32), va_S (fun _ : Nat => False) s.heap s.heap locs → lv_has ls 6 [(0, .ref a0), (2, .int z23_2), (3, .int z2_3), (4, .int z5_4)] → W p l e (headSpec (Cond.code yX12_partOf cX12_partOf 6 (some .int) :: sg_tbl) ({ frames := 1, cells := 0, slots := 0, locals := 21 })).room s m #[.ref a0, .int x1] below meth c s.heap locs 0 0 (MQ below (va_Qi (fun r (_ : Unit) => (fun r : Int32 => True) r) (fun _ t => t.heap = s.heap) (fun _ : Nat => False)) #[.ref a0, .int x1] s 0 0 (fun _ : Nat => False)) (F0 m 131 ls []) := by
                      intro locs ls z23_2 hS hl
                      refine lv_iload X.1 X.2.1 dX12_partOf_131 (lv_at hl 3 rfl) ?_
                      refine lv_aload_n X.1 X.2.1 dX12_partOf_133 rfl (lv_at hl 0 rfl) ?_
                      refine gg_X12_18 X hK hG h0 wl_6_196 kq12 dX12_partOf_134 ?_
                      refine lv_iconst (v := 0) X.1 X.2.1 dX12_partOf_137 (by decide +kernel) ?_
                      refine al_49 X hK hG hq12 (iv_vpin (iv_c 0 (a := 0) (b := 0) (by decide +kernel)) (by decide +kernel)) dX12_partOf_138 (fun f24 hf24 => ?_)
                      have of24 := hf24
                      have hf24 : iv 1 6 f24 := sg_r1 hp4 hf24 (iv_c 0 (a := 0) (b := 0) (by decide +kernel)) (by decide +kernel) rfl
                      refine lv_iadd X.1 X.2.1 dX12_partOf_139 ?_
                      refine lv_topi (fun f25 ef25 => ?_)
                      refine lv_aload_n X.1 X.2.1 dX12_partOf_140 rfl (lv_at hl 0 rfl) ?_
                      refine gg_X12_23 X hK hG h0 wl_6_201 kf3 dX12_partOf_141 ?_
                      refine lv_icmp_ge (tgt := 168) X.1 X.2.1 dX12_partOf_144 (by decide) (fun c26 => ?_) (fun c26 => ?_)
                      · exact B10_168 _ _ z23_2 hS (lv_sub hl [0, 1, 2, 3] rfl)
                      · refine lv_iload_n X.1 X.2.1 dX12_partOf_147 rfl (lv_at hl 1 rfl) ?_
                        refine lv_iconst (v := 1) X.1 X.2.1 dX12_partOf_148 (by decide +kernel) ?_
                        refine lv_iload X.1 X.2.1 dX12_partOf_149 (lv_at hl 3 rfl) ?_
                        refine lv_aload_n X.1 X.2.1 dX12_partOf_151 rfl (lv_at hl 0 rfl) ?_
                        refine gg_X12_18 X hK hG h0 wl_6_196 kq12 dX12_partOf_152 ?_
                        refine lv_iconst (v := 0) X.1 X.2.1 dX12_partOf_155 (by decide +kernel) ?_
                        refine al_49 X hK hG hq12 (iv_vpin (iv_c 0 (a := 0) (b := 0) (by decide +kernel)) (by decide +kernel)) dX12_partOf_156 (fun f27 hf27 => ?_)
                        have of27 := hf27
                        have hf27 : iv 1 6 f27 := sg_r1 hp4 hf27 (iv_c 0 (a := 0) (b := 0) (by decide +kernel)) (by decide +kernel) rfl
                        refine lv_iadd X.1 X.2.1 dX12_partOf_157 ?_
                        refine lv_topi (fun f28 ef28 => ?_)
                        refine lv_ishl X.1 X.2.1 dX12_partOf_158 ?_
                        refine lv_topi (fun f29 ef29 => ?_)
                        refine lv_aload_n X.1 X.2.1 dX12_partOf_159 rfl (lv_at hl 0 rfl) ?_
                        refine gf_X12_32 X hK hG h0 wl_6_210 dX12_partOf_160 (fun q30 hq30 kq30 => ?_)
                        refine lv_iconst (v := 0) X.1 X.2.1 dX12_partOf_163 (by decide +kernel) ?_
                        refine al_54 X hK hG hq30 (iv_vpin (iv_c 0 (a := 0) (b := 0) (by decide +kernel)) (by decide +kernel)) dX12_partOf_164 (fun f31 hf31 => ?_)
                        have hf31 := sg_nw_now hf31
                        have of31 := hf31
                        have hf31 : iv (-2147483648) 2147483647 f31 := sg_sp_now hf31 (iv_c 0 (a := 0) (b := 0) (by decide +kernel)) (by decide +kernel) rfl
                        refine lv_iand X.1 X.2.1 dX12_partOf_165 ?_
                        refine lv_topi (fun f32 ef32 => ?_)
                        refine lv_ior X.1 X.2.1 dX12_partOf_166 ?_
                        refine lv_topi (fun f33 ef33 => ?_)
                        refine lv_istore_n (lv' := [(2, .int f33), (0, .ref a0), (3, .int z2_3), (4, .int z5_4)]) X.1 X.2.1 dX12_partOf_167 rfl hl (by decide) rfl (fun ls hl => ?_)
                        exact B10_168 _ _ f33 hS (lv_sub hl [1, 0, 2, 3] rfl)
                    refine lv_icmp_lt (tgt := 131) X.1 X.2.1 dX12_partOf_107 (by decide) (fun c22 => ?_) (fun c22 => ?_)
                    · exact B23_131 _ _ z20_2 hS (lv_sub hl [0, 1, 2, 3] rfl)
                    · refine lv_iload_n X.1 X.2.1 dX12_partOf_110 rfl (lv_at hl 1 rfl) ?_
                      refine lv_iconst (v := 1) X.1 X.2.1 dX12_partOf_111 (by decide +kernel) ?_
                      refine lv_iload X.1 X.2.1 dX12_partOf_112 (lv_at hl 3 rfl) ?_
                      refine lv_aload_n X.1 X.2.1 dX12_partOf_114 rfl (lv_at hl 0 rfl) ?_
                      refine gg_X12_18 X hK hG h0 wl_6_196 kq12 dX12_partOf_115 ?_
                      refine lv_iconst (v := 0) X.1 X.2.1 dX12_partOf_118 (by decide +kernel) ?_
                      refine al_49 X hK hG hq12 (iv_vpin (iv_c 0 (a := 0) (b := 0) (by decide +kernel)) (by decide +kernel)) dX12_partOf_119 (fun f34 hf34 => ?_)
                      have of34 := hf34
                      have hf34 : iv 1 6 f34 := sg_r1 hp4 hf34 (iv_c 0 (a := 0) (b := 0) (by decide +kernel)) (by decide +kernel) rfl
                      refine lv_isub X.1 X.2.1 dX12_partOf_120 ?_
                      refine lv_topi (fun f35 ef35 => ?_)
                      refine lv_ishl X.1 X.2.1 dX12_partOf_121 ?_
                      refine lv_topi (fun f36 ef36 => ?_)
                      refine lv_aload_n X.1 X.2.1 dX12_partOf_122 rfl (lv_at hl 0 rfl) ?_
                      refine gf_X12_32 X hK hG h0 wl_6_210 dX12_partOf_123 (fun q37 hq37 kq37 => ?_)
                      refine lv_iconst (v := 0) X.1 X.2.1 dX12_partOf_126 (by decide +kernel) ?_
                      refine al_54 X hK hG hq37 (iv_vpin (iv_c 0 (a := 0) (b := 0) (by decide +kernel)) (by decide +kernel)) dX12_partOf_127 (fun f38 hf38 => ?_)
                      have hf38 := sg_nw_now hf38
                      have of38 := hf38
                      have hf38 : iv (-2147483648) 2147483647 f38 := sg_sp_now hf38 (iv_c 0 (a := 0) (b := 0) (by decide +kernel)) (by decide +kernel) rfl
                      refine lv_iand X.1 X.2.1 dX12_partOf_128 ?_
                      refine lv_topi (fun f39 ef39 => ?_)
                      refine lv_ior X.1 X.2.1 dX12_partOf_129 ?_
                      refine lv_topi (fun f40 ef40 => ?_)
                      refine lv_istore_n (lv' := [(2, .int f40), (0, .ref a0), (3, .int z2_3), (4, .int z5_4)]) X.1 X.2.1 dX12_partOf_130 rfl hl (by decide) rfl (fun ls hl => ?_)
                      exact B23_131 _ _ f40 hS (lv_sub hl [1, 0, 2, 3] rfl)
                  refine lv_icmp_ge (tgt := 99) X.1 X.2.1 dX12_partOf_80 (by decide) (fun c19 => ?_) (fun c19 => ?_)
                  · exact B20_99 _ _ z16_2 hS (lv_sub hl [0, 1, 2, 3] rfl)
                  · refine lv_iload_n X.1 X.2.1 dX12_partOf_83 rfl (lv_at hl 1 rfl) ?_
                    refine lv_iconst (v := 1) X.1 X.2.1 dX12_partOf_84 (by decide +kernel) ?_
                    refine lv_iload X.1 X.2.1 dX12_partOf_85 (lv_at hl 3 rfl) ?_
                    refine lv_iconst (v := 1) X.1 X.2.1 dX12_partOf_87 (by decide +kernel) ?_
                    refine lv_iadd X.1 X.2.1 dX12_partOf_88 ?_
                    refine lv_topi (fun f41 ef41 => ?_)
                    refine lv_ishl X.1 X.2.1 dX12_partOf_89 ?_
                    refine lv_topi (fun f42 ef42 => ?_)
                    refine lv_aload_n X.1 X.2.1 dX12_partOf_90 rfl (lv_at hl 0 rfl) ?_
                    refine gf_X12_32 X hK hG h0 wl_6_210 dX12_partOf_91 (fun q43 hq43 kq43 => ?_)
                    refine lv_iconst (v := 0) X.1 X.2.1 dX12_partOf_94 (by decide +kernel) ?_
                    refine al_54 X hK hG hq43 (iv_vpin (iv_c 0 (a := 0) (b := 0) (by decide +kernel)) (by decide +kernel)) dX12_partOf_95 (fun f44 hf44 => ?_)
                    have hf44 := sg_nw_now hf44
                    have of44 := hf44
                    have hf44 : iv (-2147483648) 2147483647 f44 := sg_sp_now hf44 (iv_c 0 (a := 0) (b := 0) (by decide +kernel)) (by decide +kernel) rfl
                    refine lv_iand X.1 X.2.1 dX12_partOf_96 ?_
                    refine lv_topi (fun f45 ef45 => ?_)
                    refine lv_ior X.1 X.2.1 dX12_partOf_97 ?_
                    refine lv_topi (fun f46 ef46 => ?_)
                    refine lv_istore_n (lv' := [(2, .int f46), (0, .ref a0), (3, .int z2_3), (4, .int z5_4), (5, .int f14)]) X.1 X.2.1 dX12_partOf_98 rfl hl (by decide) rfl (fun ls hl => ?_)
                    exact B20_99 _ _ f46 hS (lv_sub hl [1, 0, 2, 3] rfl)
                refine lv_if_le (tgt := 70) X.1 X.2.1 dX12_partOf_51 (by decide) (fun c15 => ?_) (fun c15 => ?_)
                · exact B16_70 _ _ z5_2 hS (lv_sub hl [1, 2, 3, 4, 0] rfl)
                · refine lv_iload_n X.1 X.2.1 dX12_partOf_54 rfl (lv_at hl 2 rfl) ?_
                  refine lv_iconst (v := 1) X.1 X.2.1 dX12_partOf_55 (by decide +kernel) ?_
                  refine lv_iload X.1 X.2.1 dX12_partOf_56 (lv_at hl 4 rfl) ?_
                  refine lv_iconst (v := 1) X.1 X.2.1 dX12_partOf_58 (by decide +kernel) ?_
                  refine lv_isub X.1 X.2.1 dX12_partOf_59 ?_
                  refine lv_topi (fun f47 ef47 => ?_)
                  refine lv_ishl X.1 X.2.1 dX12_partOf_60 ?_
                  refine lv_topi (fun f48 ef48 => ?_)
                  refine lv_aload_n X.1 X.2.1 dX12_partOf_61 rfl (lv_at hl 1 rfl) ?_
                  refine gf_X12_32 X hK hG h0 wl_6_210 dX12_partOf_62 (fun q49 hq49 kq49 => ?_)
                  refine lv_iconst (v := 0) X.1 X.2.1 dX12_partOf_65 (by decide +kernel) ?_
                  refine al_54 X hK hG hq49 (iv_vpin (iv_c 0 (a := 0) (b := 0) (by decide +kernel)) (by decide +kernel)) dX12_partOf_66 (fun f50 hf50 => ?_)
                  have hf50 := sg_nw_now hf50
                  have of50 := hf50
                  have hf50 : iv (-2147483648) 2147483647 f50 := sg_sp_now hf50 (iv_c 0 (a := 0) (b := 0) (by decide +kernel)) (by decide +kernel) rfl
                  refine lv_iand X.1 X.2.1 dX12_partOf_67 ?_
                  refine lv_topi (fun f51 ef51 => ?_)
                  refine lv_ior X.1 X.2.1 dX12_partOf_68 ?_
                  refine lv_topi (fun f52 ef52 => ?_)
                  refine lv_istore_n (lv' := [(2, .int f52), (5, .int f14), (0, .ref a0), (3, .int z2_3), (4, .int z5_4)]) X.1 X.2.1 dX12_partOf_69 rfl hl (by decide) rfl (fun ls hl => ?_)
                  exact B16_70 _ _ f52 hS (lv_sub hl [2, 0, 3, 4, 1] rfl)
              · refine lv_goto (tgt := 168) X.1 X.2.1 dX12_partOf_35 (by decide) ?_
                exact B10_168 _ _ z5_2 hS (lv_sub hl [0, 1, 2, 3] rfl)
        exact B5_17 _ _ _ z2_2 0 hS (lv_sub hl [1, 2, 3, 0] rfl) (iv_of (iv_c 0 (a := 0) (b := 0) (by decide +kernel)) (a' := 0) (b' := 30) (by decide +kernel)) (Nat.le_refl _)
  exact B2_6 _ _ _ f1 0 hS (lv_sub hl [2, 1, 0] rfl) (iv_of (iv_c 0 (a := 0) (b := 0) (by decide +kernel)) (a' := 0) (b' := 30) (by decide +kernel)) (Nat.le_refl _)

theorem ca_X12_partOf_1   (X : CallFix p m c cc nL s args sg_tbl own) (hK : va_K D vwCl tys s) (hG : sgG (KT P) D vwCl (fun q : Nat => base ≤ q) tys ad ks H) (hC : sgC base s) (hA : ∀ q : Nat, A q → base ≤ q) (hS : va_S A s.heap H locs) (hb : base ≤ s.heap.size) (hp4 : P.2.2.2.2.1 = true) (a0 : Nat) (h0 : isK ad ks 12 a0) (x1 : Int32) (hl : Cond.methodLink own index yX12_partOf ∈ sg_tbl) (hsize : ls.size = nL) (hst : st0 = [.int x1].reverse ++ .ref a0 :: rest) (hW : (rest.map fun v => v.category).sum ≤ 8) (hR : 2 ≤ R.frames ∧ 46 ≤ R.locals) (hf : cells ≤ R.cells ∧ slots ≤ R.slots) (hdg : decode cc pc = .ok (.invokevirtual index, 3)) (kk : ∀ (r : Int32) (locs1 : List Loc), (fun r : Int32 => True) r → va_S A s.heap H locs1 → W p l e R s m args below meth c H locs1 cells slots Q (F0 m (pc + 3) ls (.int r :: rest))) : W p l e R s m args below meth c H locs cells slots Q (F0 m pc ls st0) :=
  sg_callPVi X hK hG hC hA hS hb (m_X12_partOf_1 l hp4 a0 h0 x1) h0 (k := 12) (ci := 12) rfl (C := RX12) (T := TX12) (N := 53) rfl wl_9_50 wl_1_13 wl_9_49 wl_0_102 (n := 1) (by decide +kernel) rfl rfl rfl hl hsize hst hW hR hf hdg kk

set_option maxHeartbeats 8000000 in
set_option maxRecDepth 100000 in
theorem m_X12_partAt_1 (l : Launch) {D : va_G} {base : Nat} {tys : List (ClassId × FieldType)} {ad ks : List Nat} {P : sgPm} {Hx : Heap} (hp4 : P.2.2.2.2.1 = true) (a0 : Nat) (h0 : isK ad ks 12 a0) (x1 : Int32) : sgPi l (KT P) D vwCl base tys ad ks Hx yX12_partAt cX12_partAt 6 (some .int) ({ frames := 2, cells := 0, slots := 0, locals := 46 }) [.ref a0, .int x1] (fun r : Int32 => True) := by
  refine sg_ofP (Pq := fun Hx => va_Qi (fun r (_ : Unit) => (fun r : Int32 => True) r) (fun _ t => t.heap = Hx) (fun _ : Nat => False)) (by decide +kernel) (Nat.le_of_ble_eq_true rfl) (fun p e s m below meth c X hr hlk hb hK hC hG ls hl => ?_)
  have hS : va_S (fun _ : Nat => False) s.heap s.heap [] := va_S.rf
  have hl : lv_has ls 6 [(0, .ref a0), (1, .int x1)] := hl
  refine lv_iconst (v := 0) X.1 X.2.1 dX12_partAt_0 (by decide +kernel) ?_
  refine lv_istore_n (lv' := [(2, .int 0), (0, .ref a0), (1, .int x1)]) X.1 X.2.1 dX12_partAt_1 rfl hl (by decide) rfl (fun ls hl => ?_)
  refine lv_iconst (v := 0) X.1 X.2.1 dX12_partAt_2 (by decide +kernel) ?_
  refine lv_istore_n (lv' := [(3, .int 0), (2, .int 0), (0, .ref a0), (1, .int x1)]) X.1 X.2.1 dX12_partAt_3 rfl hl (by decide) rfl (fun ls hl => ?_)
  refine lv_iconst (v := 0) X.1 X.2.1 dX12_partAt_4 (by decide +kernel) ?_
  refine lv_istore (lv' := [(4, .int 0), (3, .int 0), (2, .int 0), (0, .ref a0), (1, .int x1)]) X.1 X.2.1 dX12_partAt_5 hl (by decide) rfl (fun ls hl => ?_)
  have B1_7 : ∀ (N : Nat) (locs : List Loc) (ls : Array Slot) (z1_2 : Int32) (z1_3 : Int32) (z1_4 : Int32), va_S (fun _ : Nat => False) s.heap s.heap locs → lv_has ls 6 [(0, .ref a0), (1, .int x1), (2, .int z1_2), (3, .int z1_3), (4, .int z1_4)] → iv 0 30 z1_4 → (31 - z1_4.toInt).toNat ≤ N → W p l e (headSpec (Cond.code yX12_partAt cX12_partAt 6 (some .int) :: sg_tbl) ({ frames := 2, cells := 0, slots := 0, locals := 46 })).room s m #[.ref a0, .int x1] below meth c s.heap locs 0 0 (MQ below (va_Qi (fun r (_ : Unit) => (fun r : Int32 => True) r) (fun _ t => t.heap = s.heap) (fun _ : Nat => False)) #[.ref a0, .int x1] s 0 0 (fun _ : Nat => False)) (F0 m 7 ls []) := by
    intro N; induction N with
    | zero =>
      intro locs ls z1_2 z1_3 z1_4 hS hl hz1_4 hN
      exact absurd hN (by have := iv_up hz1_4; omega)
    | succ N ih1 =>
      intro locs ls z1_2 z1_3 z1_4 hS hl hz1_4 hN1
      refine lv_iload X.1 X.2.1 dX12_partAt_7 (lv_at hl 4 rfl) ?_
      refine lv_aload_n X.1 X.2.1 dX12_partAt_9 rfl (lv_at hl 0 rfl) ?_
      refine gf_X12_23s X hK hG h0 hp4 wl_6_201 dX12_partAt_10 (fun f2 hf2 kf2 => ?_)
      refine lv_icmp_ge (tgt := 72) X.1 X.2.1 dX12_partAt_13 (by decide) (fun c3 => ?_) (fun c3 => ?_)
      · refine lv_iload_n X.1 X.2.1 dX12_partAt_72 rfl (lv_at hl 1 rfl) ?_
        refine lv_iconst (v := (-1)) X.1 X.2.1 dX12_partAt_73 (by decide +kernel) ?_
        refine lv_icmp_ne (tgt := 81) X.1 X.2.1 dX12_partAt_74 (by decide) (fun c4 => ?_) (fun c4 => ?_)
        · refine lv_iconst (v := (-1)) X.1 X.2.1 dX12_partAt_81 (by decide +kernel) ?_
          exact sg_iretP X hr hlk hS trivial dX12_partAt_82
        · refine lv_iload_n X.1 X.2.1 dX12_partAt_77 rfl (lv_at hl 3 rfl) ?_
          refine lv_goto (tgt := 82) X.1 X.2.1 dX12_partAt_78 (by decide) ?_
          exact sg_iretP X hr hlk hS trivial dX12_partAt_82
      · refine lv_aload_n X.1 X.2.1 dX12_partAt_16 rfl (lv_at hl 0 rfl) ?_
        refine gf_X12_32 X hK hG h0 wl_6_210 dX12_partAt_17 (fun q5 hq5 kq5 => ?_)
        refine lv_iconst (v := 0) X.1 X.2.1 dX12_partAt_20 (by decide +kernel) ?_
        refine al_54 X hK hG hq5 (iv_vpin (iv_c 0 (a := 0) (b := 0) (by decide +kernel)) (by decide +kernel)) dX12_partAt_21 (fun f6 hf6 => ?_)
        have hf6 := sg_nw_now hf6
        have of6 := hf6
        have hf6 : iv (-2147483648) 2147483647 f6 := sg_sp_now hf6 (iv_c 0 (a := 0) (b := 0) (by decide +kernel)) (by decide +kernel) rfl
        refine lv_iload X.1 X.2.1 dX12_partAt_22 (lv_at hl 4 rfl) ?_
        refine ca_X12_has X hK hG hC (fun _ h => h.elim) hS hb f6 z1_4 wl_7_174 hl.1 (rest := []) rfl (Nat.le_of_ble_eq_true rfl) ⟨Nat.le_of_ble_eq_true rfl, Nat.le_of_ble_eq_true rfl⟩ ⟨Nat.le_of_ble_eq_true rfl, Nat.le_of_ble_eq_true rfl⟩ dX12_partAt_24 (fun f7 locs hf7 hS => ?_)
        have B9_66 : ∀ (locs : List Loc) (ls : Array Slot) (z9_2 : Int32) (z9_3 : Int32), va_S (fun _ : Nat => False) s.heap s.heap locs → lv_has ls 6 [(0, .ref a0), (1, .int x1), (2, .int z9_2), (3, .int z9_3), (4, .int z1_4)] → W p l e (headSpec (Cond.code yX12_partAt cX12_partAt 6 (some .int) :: sg_tbl) ({ frames := 2, cells := 0, slots := 0, locals := 46 })).room s m #[.ref a0, .int x1] below meth c s.heap locs 0 0 (MQ below (va_Qi (fun r (_ : Unit) => (fun r : Int32 => True) r) (fun _ t => t.heap = s.heap) (fun _ : Nat => False)) #[.ref a0, .int x1] s 0 0 (fun _ : Nat => False)) (F0 m 66 ls []) := by
          intro locs ls z9_2 z9_3 hS hl
          obtain ⟨y10, ey10⟩ : ∃ y : Int32, y = z1_4 + Int32.ofInt 1 := ⟨_, rfl⟩
          refine lv_iinc (v := y10) (lv' := [(4, .int y10), (0, .ref a0), (1, .int x1), (2, .int z9_2), (3, .int z9_3)]) X.1 X.2.1 dX12_partAt_66 hl (k := 4) rfl ey10.symm (by decide) rfl (fun ls hl => ?_)
          refine lv_goto (tgt := 7) X.1 X.2.1 dX12_partAt_69 (by decide) ?_
          exact ih1 _ _ z9_2 z9_3 y10 hS (lv_sub hl [1, 2, 3, 4, 0] rfl) (iv_of (iv_add (a' := 1) (b' := 30) ey10 (iv_lt (b' := 29) (iv_gt_of c3) hz1_4 hf2 (by decide +kernel)) (iv_c _ (a := 1) (b := 1) (by decide +kernel)) (by decide +kernel)) (a' := 0) (b' := 30) (by decide +kernel)) (iv_stepU ey10 (iv_lt (b' := 29) (iv_gt_of c3) hz1_4 hf2 (by decide +kernel)) (by decide +kernel) hN1)
        refine lv_if_eq (tgt := 66) X.1 X.2.1 dX12_partAt_27 (by decide) (fun c8 => ?_) (fun c8 => ?_)
        · exact B9_66 _ _ z1_2 z1_3 hS (lv_sub hl [0, 1, 2, 3, 4] rfl)
        · refine lv_iload_n X.1 X.2.1 dX12_partAt_30 rfl (lv_at hl 2 rfl) ?_
          refine lv_iload X.1 X.2.1 dX12_partAt_31 (lv_at hl 4 rfl) ?_
          refine ca_X12_has X hK hG hC (fun _ h => h.elim) hS hb z1_2 z1_4 wl_7_174 hl.1 (rest := []) rfl (Nat.le_of_ble_eq_true rfl) ⟨Nat.le_of_ble_eq_true rfl, Nat.le_of_ble_eq_true rfl⟩ ⟨Nat.le_of_ble_eq_true rfl, Nat.le_of_ble_eq_true rfl⟩ dX12_partAt_33 (fun f11 locs hf11 hS => ?_)
          refine lv_if_eq (tgt := 42) X.1 X.2.1 dX12_partAt_36 (by decide) (fun c12 => ?_) (fun c12 => ?_)
          · refine lv_aload_n X.1 X.2.1 dX12_partAt_42 rfl (lv_at hl 0 rfl) ?_
            refine lv_iload X.1 X.2.1 dX12_partAt_43 (lv_at hl 4 rfl) ?_
            refine ca_X12_partOf_1 X hK hG hC (fun _ h => h.elim) hS hb hp4 a0 h0 z1_4 wl_9_47 hl.1 (rest := []) rfl (Nat.le_of_ble_eq_true rfl) ⟨Nat.le_of_ble_eq_true rfl, Nat.le_of_ble_eq_true rfl⟩ ⟨Nat.le_of_ble_eq_true rfl, Nat.le_of_ble_eq_true rfl⟩ dX12_partAt_45 (fun f13 locs hf13 hS => ?_)
            refine lv_istore (lv' := [(5, .int f13), (0, .ref a0), (1, .int x1), (2, .int z1_2), (3, .int z1_3), (4, .int z1_4)]) X.1 X.2.1 dX12_partAt_48 hl (by decide) rfl (fun ls hl => ?_)
            refine lv_iload_n X.1 X.2.1 dX12_partAt_50 rfl (lv_at hl 4 rfl) ?_
            refine lv_iload_n X.1 X.2.1 dX12_partAt_51 rfl (lv_at hl 2 rfl) ?_
            refine lv_icmp_ne (tgt := 58) X.1 X.2.1 dX12_partAt_52 (by decide) (fun c14 => ?_) (fun c14 => ?_)
            · refine lv_iload_n X.1 X.2.1 dX12_partAt_58 rfl (lv_at hl 3 rfl) ?_
              refine lv_iload X.1 X.2.1 dX12_partAt_59 (lv_at hl 0 rfl) ?_
              refine lv_ior X.1 X.2.1 dX12_partAt_61 ?_
              refine lv_topi (fun f15 ef15 => ?_)
              refine lv_istore_n (lv' := [(2, .int f15), (5, .int f13), (0, .ref a0), (1, .int x1), (3, .int z1_3), (4, .int z1_4)]) X.1 X.2.1 dX12_partAt_62 rfl hl (by decide) rfl (fun ls hl => ?_)
              obtain ⟨y16, ey16⟩ : ∃ y : Int32, y = z1_3 + Int32.ofInt 1 := ⟨_, rfl⟩
              refine lv_iinc (v := y16) (lv' := [(3, .int y16), (2, .int f15), (5, .int f13), (0, .ref a0), (1, .int x1), (4, .int z1_4)]) X.1 X.2.1 dX12_partAt_63 hl (k := 4) rfl ey16.symm (by decide) rfl (fun ls hl => ?_)
              exact B9_66 _ _ f15 y16 hS (lv_sub hl [3, 4, 1, 0, 5] rfl)
            · refine lv_iload X.1 X.2.1 dX12_partAt_55 (lv_at hl 0 rfl) ?_
              exact sg_iretP X hr hlk hS trivial dX12_partAt_57
          · refine lv_goto (tgt := 66) X.1 X.2.1 dX12_partAt_39 (by decide) ?_
            exact B9_66 _ _ z1_2 z1_3 hS (lv_sub hl [0, 1, 2, 3, 4] rfl)
  exact B1_7 _ _ _ 0 0 0 hS (lv_sub hl [3, 4, 2, 1, 0] rfl) (iv_of (iv_c 0 (a := 0) (b := 0) (by decide +kernel)) (a' := 0) (b' := 30) (by decide +kernel)) (Nat.le_refl _)

theorem ca_X12_partAt_1   (X : CallFix p m c cc nL s args sg_tbl own) (hK : va_K D vwCl tys s) (hG : sgG (KT P) D vwCl (fun q : Nat => base ≤ q) tys ad ks H) (hC : sgC base s) (hA : ∀ q : Nat, A q → base ≤ q) (hS : va_S A s.heap H locs) (hb : base ≤ s.heap.size) (hp4 : P.2.2.2.2.1 = true) (a0 : Nat) (h0 : isK ad ks 12 a0) (x1 : Int32) (hl : Cond.methodLink own index yX12_partAt ∈ sg_tbl) (hsize : ls.size = nL) (hst : st0 = [.int x1].reverse ++ .ref a0 :: rest) (hW : (rest.map fun v => v.category).sum ≤ 8) (hR : 3 ≤ R.frames ∧ 71 ≤ R.locals) (hf : cells ≤ R.cells ∧ slots ≤ R.slots) (hdg : decode cc pc = .ok (.invokevirtual index, 3)) (kk : ∀ (r : Int32) (locs1 : List Loc), (fun r : Int32 => True) r → va_S A s.heap H locs1 → W p l e R s m args below meth c H locs1 cells slots Q (F0 m (pc + 3) ls (.int r :: rest))) : W p l e R s m args below meth c H locs cells slots Q (F0 m pc ls st0) :=
  sg_callPVi X hK hG hC hA hS hb (m_X12_partAt_1 l hp4 a0 h0 x1) h0 (k := 12) (ci := 12) rfl (C := RX12) (T := TX12) (N := 53) rfl wl_9_46 wl_1_13 wl_9_45 wl_0_101 (n := 1) (by decide +kernel) rfl rfl rfl hl hsize hst hW hR hf hdg kk

set_option maxHeartbeats 8000000 in
set_option maxRecDepth 100000 in
theorem m_X12_spread (l : Launch) {D : va_G} {base : Nat} {tys : List (ClassId × FieldType)} {ad ks : List Nat} {P : sgPm} {Hx : Heap} (a0 : Nat) (h0 : isK ad ks 12 a0) (x1 : Int32) : sgPi l (KT P) D vwCl base tys ad ks Hx yX12_spread cX12_spread 4 (some .int) ({ frames := 1, cells := 0, slots := 0, locals := 21 }) [.ref a0, .int x1] (fun r : Int32 => True) := by
  refine sg_ofP (Pq := fun Hx => va_Qi (fun r (_ : Unit) => (fun r : Int32 => True) r) (fun _ t => t.heap = Hx) (fun _ : Nat => False)) (by decide +kernel) (Nat.le_of_ble_eq_true rfl) (fun p e s m below meth c X hr hlk hb hK hC hG ls hl => ?_)
  have hS : va_S (fun _ : Nat => False) s.heap s.heap [] := va_S.rf
  have hl : lv_has ls 4 [(0, .ref a0), (1, .int x1)] := hl
  refine lv_iconst (v := 0) X.1 X.2.1 dX12_spread_0 (by decide +kernel) ?_
  refine lv_istore_n (lv' := [(2, .int 0), (0, .ref a0), (1, .int x1)]) X.1 X.2.1 dX12_spread_1 rfl hl (by decide) rfl (fun ls hl => ?_)
  refine lv_iconst (v := 0) X.1 X.2.1 dX12_spread_2 (by decide +kernel) ?_
  refine lv_istore_n (lv' := [(3, .int 0), (2, .int 0), (0, .ref a0), (1, .int x1)]) X.1 X.2.1 dX12_spread_3 rfl hl (by decide) rfl (fun ls hl => ?_)
  have B1_4 : ∀ (N : Nat) (locs : List Loc) (ls : Array Slot) (z1_2 : Int32) (z1_3 : Int32), va_S (fun _ : Nat => False) s.heap s.heap locs → lv_has ls 4 [(0, .ref a0), (1, .int x1), (2, .int z1_2), (3, .int z1_3)] → iv 0 12 z1_3 → (13 - z1_3.toInt).toNat ≤ N → W p l e (headSpec (Cond.code yX12_spread cX12_spread 4 (some .int) :: sg_tbl) ({ frames := 1, cells := 0, slots := 0, locals := 21 })).room s m #[.ref a0, .int x1] below meth c s.heap locs 0 0 (MQ below (va_Qi (fun r (_ : Unit) => (fun r : Int32 => True) r) (fun _ t => t.heap = s.heap) (fun _ : Nat => False)) #[.ref a0, .int x1] s 0 0 (fun _ : Nat => False)) (F0 m 4 ls []) := by
    intro N; induction N with
    | zero =>
      intro locs ls z1_2 z1_3 hS hl hz1_3 hN
      exact absurd hN (by have := iv_up hz1_3; omega)
    | succ N ih1 =>
      intro locs ls z1_2 z1_3 hS hl hz1_3 hN1
      refine lv_iload_n X.1 X.2.1 dX12_spread_4 rfl (lv_at hl 3 rfl) ?_
      refine lv_aload_n X.1 X.2.1 dX12_spread_5 rfl (lv_at hl 0 rfl) ?_
      refine gf_X12_47 X hK hG h0 wl_6_225 dX12_spread_6 (fun f2 hf2 kf2 => ?_)
      refine lv_icmp_ge (tgt := 41) X.1 X.2.1 dX12_spread_9 (by decide) (fun c3 => ?_) (fun c3 => ?_)
      · refine lv_iload_n X.1 X.2.1 dX12_spread_41 rfl (lv_at hl 2 rfl) ?_
        exact sg_iretP X hr hlk hS trivial dX12_spread_42
      · refine lv_iload_n X.1 X.2.1 dX12_spread_12 rfl (lv_at hl 2 rfl) ?_
        refine lv_iload_n X.1 X.2.1 dX12_spread_13 rfl (lv_at hl 1 rfl) ?_
        refine lv_iload_n X.1 X.2.1 dX12_spread_14 rfl (lv_at hl 3 rfl) ?_
        refine ca_X12_has X hK hG hC (fun _ h => h.elim) hS hb x1 z1_3 wl_7_174 hl.1 (rest := [.int z1_2]) rfl (Nat.le_of_ble_eq_true rfl) ⟨Nat.le_of_ble_eq_true rfl, Nat.le_of_ble_eq_true rfl⟩ ⟨Nat.le_of_ble_eq_true rfl, Nat.le_of_ble_eq_true rfl⟩ dX12_spread_15 (fun f4 locs hf4 hS => ?_)
        have B6_33 : ∀ (locs : List Loc) (ls : Array Slot) (w6_0 : Int32), va_S (fun _ : Nat => False) s.heap s.heap locs → lv_has ls 4 [(0, .ref a0), (1, .int x1), (3, .int z1_3)] → W p l e (headSpec (Cond.code yX12_spread cX12_spread 4 (some .int) :: sg_tbl) ({ frames := 1, cells := 0, slots := 0, locals := 21 })).room s m #[.ref a0, .int x1] below meth c s.heap locs 0 0 (MQ below (va_Qi (fun r (_ : Unit) => (fun r : Int32 => True) r) (fun _ t => t.heap = s.heap) (fun _ : Nat => False)) #[.ref a0, .int x1] s 0 0 (fun _ : Nat => False)) (F0 m 33 ls [.int w6_0, .int z1_2]) := by
          intro locs ls w6_0 hS hl
          refine lv_ior X.1 X.2.1 dX12_spread_33 ?_
          refine lv_topi (fun f7 ef7 => ?_)
          refine lv_istore_n (lv' := [(2, .int f7), (0, .ref a0), (1, .int x1), (3, .int z1_3)]) X.1 X.2.1 dX12_spread_34 rfl hl (by decide) rfl (fun ls hl => ?_)
          obtain ⟨y8, ey8⟩ : ∃ y : Int32, y = z1_3 + Int32.ofInt 1 := ⟨_, rfl⟩
          refine lv_iinc (v := y8) (lv' := [(3, .int y8), (2, .int f7), (0, .ref a0), (1, .int x1)]) X.1 X.2.1 dX12_spread_35 hl (k := 3) rfl ey8.symm (by decide) rfl (fun ls hl => ?_)
          refine lv_goto (tgt := 4) X.1 X.2.1 dX12_spread_38 (by decide) ?_
          exact ih1 _ _ f7 y8 hS (lv_sub hl [2, 3, 1, 0] rfl) (iv_of (iv_add (a' := 1) (b' := 12) ey8 (iv_lt (b' := 11) (iv_gt_of c3) hz1_3 hf2 (by decide +kernel)) (iv_c _ (a := 1) (b := 1) (by decide +kernel)) (by decide +kernel)) (a' := 0) (b' := 12) (by decide +kernel)) (iv_stepU ey8 (iv_lt (b' := 11) (iv_gt_of c3) hz1_3 hf2 (by decide +kernel)) (by decide +kernel) hN1)
        refine lv_if_eq (tgt := 32) X.1 X.2.1 dX12_spread_18 (by decide) (fun c5 => ?_) (fun c5 => ?_)
        · refine lv_iconst (v := 0) X.1 X.2.1 dX12_spread_32 (by decide +kernel) ?_
          exact B6_33 _ _ 0 hS (lv_sub hl [0, 1, 3] rfl)
        · refine lv_iconst (v := 1) X.1 X.2.1 dX12_spread_21 (by decide +kernel) ?_
          refine lv_aload_n X.1 X.2.1 dX12_spread_22 rfl (lv_at hl 0 rfl) ?_
          refine gf_X12_44 X hK hG h0 wl_6_222 dX12_spread_23 (fun q9 hq9 kq9 => ?_)
          refine lv_iload_n X.1 X.2.1 dX12_spread_26 rfl (lv_at hl 3 rfl) ?_
          refine al_60 X hK hG hq9 (iv_vpin (iv_lt (b' := 11) (iv_gt_of c3) hz1_3 hf2 (by decide +kernel)) (by decide +kernel)) dX12_spread_27 (fun f10 hf10 => ?_)
          refine lv_ishl X.1 X.2.1 dX12_spread_28 ?_
          refine lv_topi (fun f11 ef11 => ?_)
          refine lv_goto (tgt := 33) X.1 X.2.1 dX12_spread_29 (by decide) ?_
          exact B6_33 _ _ f11 hS (lv_sub hl [0, 1, 3] rfl)
  exact B1_4 _ _ _ 0 0 hS (lv_sub hl [2, 3, 1, 0] rfl) (iv_of (iv_c 0 (a := 0) (b := 0) (by decide +kernel)) (a' := 0) (b' := 12) (by decide +kernel)) (Nat.le_refl _)

theorem ca_X12_spread   (X : CallFix p m c cc nL s args sg_tbl own) (hK : va_K D vwCl tys s) (hG : sgG (KT P) D vwCl (fun q : Nat => base ≤ q) tys ad ks H) (hC : sgC base s) (hA : ∀ q : Nat, A q → base ≤ q) (hS : va_S A s.heap H locs) (hb : base ≤ s.heap.size) (a0 : Nat) (h0 : isK ad ks 12 a0) (x1 : Int32) (hl : Cond.methodLink own index yX12_spread ∈ sg_tbl) (hsize : ls.size = nL) (hst : st0 = [.int x1].reverse ++ .ref a0 :: rest) (hW : (rest.map fun v => v.category).sum ≤ 8) (hR : 2 ≤ R.frames ∧ 44 ≤ R.locals) (hf : cells ≤ R.cells ∧ slots ≤ R.slots) (hdg : decode cc pc = .ok (.invokevirtual index, 3)) (kk : ∀ (r : Int32) (locs1 : List Loc), (fun r : Int32 => True) r → va_S A s.heap H locs1 → W p l e R s m args below meth c H locs1 cells slots Q (F0 m (pc + 3) ls (.int r :: rest))) : W p l e R s m args below meth c H locs cells slots Q (F0 m pc ls st0) :=
  sg_callPVi X hK hG hC hA hS hb (m_X12_spread l a0 h0 x1) h0 (k := 12) (ci := 12) rfl (C := RX12) (T := TX12) (N := 53) rfl wl_9_66 wl_1_13 wl_9_65 wl_0_105 (n := 1) (by decide +kernel) rfl rfl rfl hl hsize hst hW hR hf hdg kk

set_option maxHeartbeats 8000000 in
set_option maxRecDepth 100000 in
theorem m_X12_gathered (l : Launch) {D : va_G} {base : Nat} {tys : List (ClassId × FieldType)} {ad ks : List Nat} {P : sgPm} {Hx : Heap} (a0 : Nat) (h0 : isK ad ks 12 a0) (x1 : Int32) : sgPi l (KT P) D vwCl base tys ad ks Hx yX12_gathered cX12_gathered 4 (some .int) ({ frames := 1, cells := 0, slots := 0, locals := 21 }) [.ref a0, .int x1] (fun r : Int32 => True) := by
  refine sg_ofP (Pq := fun Hx => va_Qi (fun r (_ : Unit) => (fun r : Int32 => True) r) (fun _ t => t.heap = Hx) (fun _ : Nat => False)) (by decide +kernel) (Nat.le_of_ble_eq_true rfl) (fun p e s m below meth c X hr hlk hb hK hC hG ls hl => ?_)
  have hS : va_S (fun _ : Nat => False) s.heap s.heap [] := va_S.rf
  have hl : lv_has ls 4 [(0, .ref a0), (1, .int x1)] := hl
  refine lv_iconst (v := 0) X.1 X.2.1 dX12_gathered_0 (by decide +kernel) ?_
  refine lv_istore_n (lv' := [(2, .int 0), (0, .ref a0), (1, .int x1)]) X.1 X.2.1 dX12_gathered_1 rfl hl (by decide) rfl (fun ls hl => ?_)
  refine lv_iconst (v := 0) X.1 X.2.1 dX12_gathered_2 (by decide +kernel) ?_
  refine lv_istore_n (lv' := [(3, .int 0), (2, .int 0), (0, .ref a0), (1, .int x1)]) X.1 X.2.1 dX12_gathered_3 rfl hl (by decide) rfl (fun ls hl => ?_)
  have B1_4 : ∀ (N : Nat) (locs : List Loc) (ls : Array Slot) (z1_2 : Int32) (z1_3 : Int32), va_S (fun _ : Nat => False) s.heap s.heap locs → lv_has ls 4 [(0, .ref a0), (1, .int x1), (2, .int z1_2), (3, .int z1_3)] → iv 0 4095 z1_2 → iv 0 12 z1_3 → (13 - z1_3.toInt).toNat ≤ N → W p l e (headSpec (Cond.code yX12_gathered cX12_gathered 4 (some .int) :: sg_tbl) ({ frames := 1, cells := 0, slots := 0, locals := 21 })).room s m #[.ref a0, .int x1] below meth c s.heap locs 0 0 (MQ below (va_Qi (fun r (_ : Unit) => (fun r : Int32 => True) r) (fun _ t => t.heap = s.heap) (fun _ : Nat => False)) #[.ref a0, .int x1] s 0 0 (fun _ : Nat => False)) (F0 m 4 ls []) := by
    intro N; induction N with
    | zero =>
      intro locs ls z1_2 z1_3 hS hl hz1_2 hz1_3 hN
      exact absurd hN (by have := iv_up hz1_3; omega)
    | succ N ih1 =>
      intro locs ls z1_2 z1_3 hS hl hz1_2 hz1_3 hN1
      refine lv_iload_n X.1 X.2.1 dX12_gathered_4 rfl (lv_at hl 3 rfl) ?_
      refine lv_aload_n X.1 X.2.1 dX12_gathered_5 rfl (lv_at hl 0 rfl) ?_
      refine gf_X12_47 X hK hG h0 wl_6_225 dX12_gathered_6 (fun f2 hf2 kf2 => ?_)
      refine lv_icmp_ge (tgt := 41) X.1 X.2.1 dX12_gathered_9 (by decide) (fun c3 => ?_) (fun c3 => ?_)
      · refine lv_iload_n X.1 X.2.1 dX12_gathered_41 rfl (lv_at hl 2 rfl) ?_
        exact sg_iretP X hr hlk hS trivial dX12_gathered_42
      · refine lv_iload_n X.1 X.2.1 dX12_gathered_12 rfl (lv_at hl 2 rfl) ?_
        refine lv_iload_n X.1 X.2.1 dX12_gathered_13 rfl (lv_at hl 1 rfl) ?_
        refine lv_aload_n X.1 X.2.1 dX12_gathered_14 rfl (lv_at hl 0 rfl) ?_
        refine gf_X12_44 X hK hG h0 wl_6_222 dX12_gathered_15 (fun q4 hq4 kq4 => ?_)
        refine lv_iload_n X.1 X.2.1 dX12_gathered_18 rfl (lv_at hl 3 rfl) ?_
        refine al_60 X hK hG hq4 (iv_vpin (iv_lt (b' := 11) (iv_gt_of c3) hz1_3 hf2 (by decide +kernel)) (by decide +kernel)) dX12_gathered_19 (fun f5 hf5 => ?_)
        refine ca_X12_has X hK hG hC (fun _ h => h.elim) hS hb x1 f5 wl_7_174 hl.1 (rest := [.int z1_2]) rfl (Nat.le_of_ble_eq_true rfl) ⟨Nat.le_of_ble_eq_true rfl, Nat.le_of_ble_eq_true rfl⟩ ⟨Nat.le_of_ble_eq_true rfl, Nat.le_of_ble_eq_true rfl⟩ dX12_gathered_20 (fun f6 locs hf6 hS => ?_)
        have B8_33 : ∀ (locs : List Loc) (ls : Array Slot) (w8_0 : Int32), va_S (fun _ : Nat => False) s.heap s.heap locs → lv_has ls 4 [(0, .ref a0), (1, .int x1), (3, .int z1_3)] → iv 0 2048 w8_0 → W p l e (headSpec (Cond.code yX12_gathered cX12_gathered 4 (some .int) :: sg_tbl) ({ frames := 1, cells := 0, slots := 0, locals := 21 })).room s m #[.ref a0, .int x1] below meth c s.heap locs 0 0 (MQ below (va_Qi (fun r (_ : Unit) => (fun r : Int32 => True) r) (fun _ t => t.heap = s.heap) (fun _ : Nat => False)) #[.ref a0, .int x1] s 0 0 (fun _ : Nat => False)) (F0 m 33 ls [.int w8_0, .int z1_2]) := by
          intro locs ls w8_0 hS hl hw8_0
          refine lv_ior X.1 X.2.1 dX12_gathered_33 ?_
          refine lv_topi (fun f9 ef9 => ?_)
          refine lv_istore_n (lv' := [(2, .int f9), (0, .ref a0), (1, .int x1), (3, .int z1_3)]) X.1 X.2.1 dX12_gathered_34 rfl hl (by decide) rfl (fun ls hl => ?_)
          obtain ⟨y10, ey10⟩ : ∃ y : Int32, y = z1_3 + Int32.ofInt 1 := ⟨_, rfl⟩
          refine lv_iinc (v := y10) (lv' := [(3, .int y10), (2, .int f9), (0, .ref a0), (1, .int x1)]) X.1 X.2.1 dX12_gathered_35 hl (k := 3) rfl ey10.symm (by decide) rfl (fun ls hl => ?_)
          refine lv_goto (tgt := 4) X.1 X.2.1 dX12_gathered_38 (by decide) ?_
          exact ih1 _ _ f9 y10 hS (lv_sub hl [2, 3, 1, 0] rfl) (iv_of (iv_or 12 ef9 hz1_2 hw8_0 (by decide +kernel)) (a' := 0) (b' := 4095) (by decide +kernel)) (iv_of (iv_add (a' := 1) (b' := 12) ey10 (iv_lt (b' := 11) (iv_gt_of c3) hz1_3 hf2 (by decide +kernel)) (iv_c _ (a := 1) (b := 1) (by decide +kernel)) (by decide +kernel)) (a' := 0) (b' := 12) (by decide +kernel)) (iv_stepU ey10 (iv_lt (b' := 11) (iv_gt_of c3) hz1_3 hf2 (by decide +kernel)) (by decide +kernel) hN1)
        refine lv_if_eq (tgt := 32) X.1 X.2.1 dX12_gathered_23 (by decide) (fun c7 => ?_) (fun c7 => ?_)
        · refine lv_iconst (v := 0) X.1 X.2.1 dX12_gathered_32 (by decide +kernel) ?_
          exact B8_33 _ _ 0 hS (lv_sub hl [0, 1, 3] rfl) (iv_of (iv_c 0 (a := 0) (b := 0) (by decide +kernel)) (a' := 0) (b' := 2048) (by decide +kernel))
        · refine lv_iconst (v := 1) X.1 X.2.1 dX12_gathered_26 (by decide +kernel) ?_
          refine lv_iload_n X.1 X.2.1 dX12_gathered_27 rfl (lv_at hl 3 rfl) ?_
          refine lv_ishl X.1 X.2.1 dX12_gathered_28 ?_
          refine lv_topi (fun f11 ef11 => ?_)
          refine lv_goto (tgt := 33) X.1 X.2.1 dX12_gathered_29 (by decide) ?_
          exact B8_33 _ _ f11 hS (lv_sub hl [0, 1, 3] rfl) (iv_of (sg_shl1 ef11 (iv_lt (b' := 11) (iv_gt_of c3) hz1_3 hf2 (by decide +kernel)) (by decide +kernel)) (a' := 0) (b' := 2048) (by decide +kernel))
  exact B1_4 _ _ _ 0 0 hS (lv_sub hl [2, 3, 1, 0] rfl) (iv_of (iv_c 0 (a := 0) (b := 0) (by decide +kernel)) (a' := 0) (b' := 4095) (by decide +kernel)) (iv_of (iv_c 0 (a := 0) (b := 0) (by decide +kernel)) (a' := 0) (b' := 12) (by decide +kernel)) (Nat.le_refl _)

theorem ca_X12_gathered   (X : CallFix p m c cc nL s args sg_tbl own) (hK : va_K D vwCl tys s) (hG : sgG (KT P) D vwCl (fun q : Nat => base ≤ q) tys ad ks H) (hC : sgC base s) (hA : ∀ q : Nat, A q → base ≤ q) (hS : va_S A s.heap H locs) (hb : base ≤ s.heap.size) (a0 : Nat) (h0 : isK ad ks 12 a0) (x1 : Int32) (hl : Cond.methodLink own index yX12_gathered ∈ sg_tbl) (hsize : ls.size = nL) (hst : st0 = [.int x1].reverse ++ .ref a0 :: rest) (hW : (rest.map fun v => v.category).sum ≤ 8) (hR : 2 ≤ R.frames ∧ 44 ≤ R.locals) (hf : cells ≤ R.cells ∧ slots ≤ R.slots) (hdg : decode cc pc = .ok (.invokevirtual index, 3)) (kk : ∀ (r : Int32) (locs1 : List Loc), (fun r : Int32 => True) r → va_S A s.heap H locs1 → W p l e R s m args below meth c H locs1 cells slots Q (F0 m (pc + 3) ls (.int r :: rest))) : W p l e R s m args below meth c H locs cells slots Q (F0 m pc ls st0) :=
  sg_callPVi X hK hG hC hA hS hb (m_X12_gathered l a0 h0 x1) h0 (k := 12) (ci := 12) rfl (C := RX12) (T := TX12) (N := 53) rfl wl_9_70 wl_1_13 wl_9_69 wl_0_106 (n := 1) (by decide +kernel) rfl rfl rfl hl hsize hst hW hR hf hdg kk

set_option maxHeartbeats 8000000 in
set_option maxRecDepth 100000 in
theorem m_X12_alike_1 (l : Launch) {D : va_G} {base : Nat} {tys : List (ClassId × FieldType)} {ad ks : List Nat} {P : sgPm} (hp4 : P.2.2.2.2.1 = true) (a0 : Nat) (h0 : isK ad ks 12 a0) (x1 : Int32) : sgMi l (KT P) D vwCl base tys ad ks yX12_alike cX12_alike 6 (some .int) ({ frames := 3, cells := 0, slots := 0, locals := 70 }) [.ref a0, .int x1] (fun r : Int32 => True) := by
  refine sg_ofW (by decide +kernel) (Nat.le_of_ble_eq_true rfl) (fun p e s m below meth c X hr hlk hb hK hC hG ls hl => ?_)
  have hS : va_S (fun q : Nat => base ≤ q) s.heap s.heap [] := va_S.rf
  have hl : lv_has ls 6 [(0, .ref a0), (1, .int x1)] := hl
  refine lv_aload_n X.1 X.2.1 dX12_alike_0 rfl (lv_at hl 0 rfl) ?_
  refine lv_iconst (v := 0) X.1 X.2.1 dX12_alike_1 (by decide +kernel) ?_
  refine pf_X12_0 X hK hG hS h0 wl_6_178 ⟨_, rfl, (iv_top _)⟩ dX12_alike_2 (fun H locs hG hS ku1 ru1 => ?_)
  refine lv_aload_n X.1 X.2.1 dX12_alike_5 rfl (lv_at hl 0 rfl) ?_
  refine gf_X12_23s X hK hG h0 hp4 wl_6_201 dX12_alike_6 (fun f2 hf2 kf2 => ?_)
  refine lv_if_eq (tgt := 22) X.1 X.2.1 dX12_alike_9 (by decide) (fun c3 => ?_) (fun c3 => ?_)
  · exact ((iv_no (a := 1) (b := 0) (iv_eqm c3 hf2 (iv_c 0 (a := 0) (b := 0) (by decide +kernel)) (by decide +kernel)) (by decide +kernel))).elim
  · refine lv_iload_n X.1 X.2.1 dX12_alike_12 rfl (lv_at hl 1 rfl) ?_
    obtain ⟨g4, eg4⟩ : ∃ y : Int64, y = (x1 : Int32).toInt64 := ⟨_, rfl⟩
    refine lv_i2l (v := g4) X.1 X.2.1 dX12_alike_13 eg4.symm ?_
    refine lv_lconst (v := 0) X.1 X.2.1 dX12_alike_14 (by decide +kernel) ?_
    refine lv_lconst (v := 1) X.1 X.2.1 dX12_alike_15 (by decide +kernel) ?_
    refine ca_X12_isIn X hK hG hC (fun _ h => h) hS hb g4 0 1 wl_7_119 hl.1 (rest := []) rfl (Nat.le_of_ble_eq_true rfl) ⟨Nat.le_of_ble_eq_true rfl, Nat.le_of_ble_eq_true rfl⟩ ⟨Nat.le_of_ble_eq_true rfl, Nat.le_of_ble_eq_true rfl⟩ dX12_alike_16 (fun f5 locs hf5 hS => ?_)
    refine lv_if_ne (tgt := 24) X.1 X.2.1 dX12_alike_19 (by decide) (fun c6 => ?_) (fun c6 => ?_)
    · refine lv_iconst (v := 0) X.1 X.2.1 dX12_alike_24 (by decide +kernel) ?_
      refine lv_istore_n (lv' := [(2, .int 0), (0, .ref a0), (1, .int x1)]) X.1 X.2.1 dX12_alike_25 rfl hl (by decide) rfl (fun ls hl => ?_)
      refine lv_aload_n X.1 X.2.1 dX12_alike_26 rfl (lv_at hl 1 rfl) ?_
      refine gf_X12_32 X hK hG h0 wl_6_210 dX12_alike_27 (fun q7 hq7 kq7 => ?_)
      refine lv_iconst (v := 0) X.1 X.2.1 dX12_alike_30 (by decide +kernel) ?_
      refine al_54 X hK hG hq7 (iv_vpin (iv_c 0 (a := 0) (b := 0) (by decide +kernel)) (by decide +kernel)) dX12_alike_31 (fun f8 hf8 => ?_)
      have hf8 := sg_nw_now hf8
      have of8 := hf8
      have hf8 : iv (-2147483648) 2147483647 f8 := sg_sp_now hf8 (iv_c 0 (a := 0) (b := 0) (by decide +kernel)) (by decide +kernel) rfl
      refine lv_istore_n (lv' := [(3, .int f8), (2, .int 0), (0, .ref a0), (1, .int x1)]) X.1 X.2.1 dX12_alike_32 rfl hl (by decide) rfl (fun ls hl => ?_)
      refine lv_iconst (v := 0) X.1 X.2.1 dX12_alike_33 (by decide +kernel) ?_
      refine lv_istore (lv' := [(4, .int 0), (3, .int f8), (2, .int 0), (0, .ref a0), (1, .int x1)]) X.1 X.2.1 dX12_alike_34 hl (by decide) rfl (fun ls hl => ?_)
      have B9_36 : ∀ (N : Nat) (locs : List Loc) (ls : Array Slot) (z9_2 : Int32) (z9_3 : Int32) (z9_4 : Int32), va_S (fun q : Nat => base ≤ q) s.heap H locs → lv_has ls 6 [(0, .ref a0), (1, .int x1), (2, .int z9_2), (3, .int z9_3), (4, .int z9_4)] → iv 0 8 z9_4 → (9 - z9_4.toInt).toNat ≤ N → W p l e (headSpec (Cond.code yX12_alike cX12_alike 6 (some .int) :: sg_tbl) ({ frames := 3, cells := 0, slots := 0, locals := 70 })).room s m #[.ref a0, .int x1] below meth c H locs 0 0 (MQ below (va_Qi (fun r (_ : Unit) => (fun r : Int32 => True) r) (fun _ => sgB (KT P) D vwCl base tys ad ks) (fun q : Nat => base ≤ q)) #[.ref a0, .int x1] s 0 0 (fun q : Nat => base ≤ q)) (F0 m 36 ls []) := by
        intro N; induction N with
        | zero =>
          intro locs ls z9_2 z9_3 z9_4 hS hl hz9_4 hN
          exact absurd hN (by have := iv_up hz9_4; omega)
        | succ N ih9 =>
          intro locs ls z9_2 z9_3 z9_4 hS hl hz9_4 hN9
          refine lv_iload X.1 X.2.1 dX12_alike_36 (lv_at hl 4 rfl) ?_
          refine lv_aload_n X.1 X.2.1 dX12_alike_38 rfl (lv_at hl 0 rfl) ?_
          refine ca_X12_turns_1 X hK hG hC (fun _ h => h) hS hb hp4 a0 h0 wl_9_108 hl.1 (rest := [.int z9_4]) rfl (Nat.le_of_ble_eq_true rfl) ⟨Nat.le_of_ble_eq_true rfl, Nat.le_of_ble_eq_true rfl⟩ ⟨Nat.le_of_ble_eq_true rfl, Nat.le_of_ble_eq_true rfl⟩ dX12_alike_39 (fun f10 locs hf10 hS => ?_)
          refine lv_icmp_ge (tgt := 91) X.1 X.2.1 dX12_alike_42 (by decide) (fun c11 => ?_) (fun c11 => ?_)
          · refine lv_iload_n X.1 X.2.1 dX12_alike_91 rfl (lv_at hl 1 rfl) ?_
            refine lv_if_ne (tgt := 99) X.1 X.2.1 dX12_alike_92 (by decide) (fun c12 => ?_) (fun c12 => ?_)
            · refine lv_iload_n X.1 X.2.1 dX12_alike_99 rfl (lv_at hl 3 rfl) ?_
              exact sg_iret X hr hlk hb hK hC hG hS trivial dX12_alike_100
            · refine lv_iload_n X.1 X.2.1 dX12_alike_95 rfl (lv_at hl 2 rfl) ?_
              refine lv_goto (tgt := 100) X.1 X.2.1 dX12_alike_96 (by decide) ?_
              exact sg_iret X hr hlk hb hK hC hG hS trivial dX12_alike_100
          · refine lv_aload_n X.1 X.2.1 dX12_alike_45 rfl (lv_at hl 0 rfl) ?_
            refine lv_aload_n X.1 X.2.1 dX12_alike_46 rfl (lv_at hl 0 rfl) ?_
            refine gg_X12_32 X hK hG h0 wl_6_210 kq7 dX12_alike_47 ?_
            refine lv_iconst (v := 0) X.1 X.2.1 dX12_alike_50 (by decide +kernel) ?_
            refine al_54 X hK hG hq7 (iv_vpin (iv_c 0 (a := 0) (b := 0) (by decide +kernel)) (by decide +kernel)) dX12_alike_51 (fun f13 hf13 => ?_)
            have hf13 := sg_nw_now hf13
            have of13 := hf13
            have hf13 : iv (-2147483648) 2147483647 f13 := sg_sp_now hf13 (iv_c 0 (a := 0) (b := 0) (by decide +kernel)) (by decide +kernel) rfl
            refine lv_iload X.1 X.2.1 dX12_alike_52 (lv_at hl 4 rfl) ?_
            refine ca_X12_turnedSet_1 X hK hG hC (fun _ h => h) hS hb hp4 a0 h0 f13 z9_4 (iv_lt (b' := 7) (iv_gt_of c11) hz9_4 hf10 (by decide +kernel)) wl_9_112 hl.1 (rest := []) rfl (Nat.le_of_ble_eq_true rfl) ⟨Nat.le_of_ble_eq_true rfl, Nat.le_of_ble_eq_true rfl⟩ ⟨Nat.le_of_ble_eq_true rfl, Nat.le_of_ble_eq_true rfl⟩ dX12_alike_54 (fun f14 locs hf14 hS => ?_)
            refine lv_istore (lv' := [(5, .int f14), (0, .ref a0), (1, .int x1), (2, .int z9_2), (3, .int z9_3), (4, .int z9_4)]) X.1 X.2.1 dX12_alike_57 hl (by decide) rfl (fun ls hl => ?_)
            refine lv_iload_n X.1 X.2.1 dX12_alike_59 rfl (lv_at hl 3 rfl) ?_
            refine lv_iload X.1 X.2.1 dX12_alike_60 (lv_at hl 0 rfl) ?_
            refine lv_aload_n X.1 X.2.1 dX12_alike_62 rfl (lv_at hl 1 rfl) ?_
            refine gg_X12_32 X hK hG h0 wl_6_210 kq7 dX12_alike_63 ?_
            refine lv_iconst (v := 0) X.1 X.2.1 dX12_alike_66 (by decide +kernel) ?_
            refine al_54 X hK hG hq7 (iv_vpin (iv_c 0 (a := 0) (b := 0) (by decide +kernel)) (by decide +kernel)) dX12_alike_67 (fun f15 hf15 => ?_)
            have hf15 := sg_nw_now hf15
            have of15 := hf15
            have hf15 : iv (-2147483648) 2147483647 f15 := sg_sp_now hf15 (iv_c 0 (a := 0) (b := 0) (by decide +kernel)) (by decide +kernel) rfl
            have B17_76 : ∀ (locs : List Loc) (ls : Array Slot) (w17_0 : Int32), va_S (fun q : Nat => base ≤ q) s.heap H locs → lv_has ls 6 [(0, .ref a0), (1, .int x1), (3, .int z9_3), (4, .int z9_4), (5, .int f14)] → iv 0 1 w17_0 → W p l e (headSpec (Cond.code yX12_alike cX12_alike 6 (some .int) :: sg_tbl) ({ frames := 3, cells := 0, slots := 0, locals := 70 })).room s m #[.ref a0, .int x1] below meth c H locs 0 0 (MQ below (va_Qi (fun r (_ : Unit) => (fun r : Int32 => True) r) (fun _ => sgB (KT P) D vwCl base tys ad ks) (fun q : Nat => base ≤ q)) #[.ref a0, .int x1] s 0 0 (fun q : Nat => base ≤ q)) (F0 m 76 ls [.int w17_0, .int z9_2]) := by
              intro locs ls w17_0 hS hl hw17_0
              refine lv_iadd X.1 X.2.1 dX12_alike_76 ?_
              refine lv_topi (fun f18 ef18 => ?_)
              refine lv_istore_n (lv' := [(2, .int f18), (0, .ref a0), (1, .int x1), (3, .int z9_3), (4, .int z9_4), (5, .int f14)]) X.1 X.2.1 dX12_alike_77 rfl hl (by decide) rfl (fun ls hl => ?_)
              refine lv_iload_n X.1 X.2.1 dX12_alike_78 rfl (lv_at hl 3 rfl) ?_
              refine lv_iload X.1 X.2.1 dX12_alike_79 (lv_at hl 5 rfl) ?_
              refine va_mmin X.1 X.2.1 (X.2.2.1.trans hl.1.symm) X.2.2.2.1 (X.2.2.2.2 _ wl_9_71) (X.2.2.2.2 _ wl_3_64) (X.2.2.2.2 _ wl_1_15) (X.2.2.2.2 _ wl_3_65) (Nat.le_of_ble_eq_true rfl) (Nat.le_of_ble_eq_true rfl) (Nat.le_of_ble_eq_true rfl) (Nat.le_of_ble_eq_true rfl) dX12_alike_81 ?_
              refine lv_topi (fun f19 ef19 => ?_)
              refine lv_istore_n (lv' := [(3, .int f19), (2, .int f18), (0, .ref a0), (1, .int x1), (4, .int z9_4), (5, .int f14)]) X.1 X.2.1 dX12_alike_84 rfl hl (by decide) rfl (fun ls hl => ?_)
              obtain ⟨y20, ey20⟩ : ∃ y : Int32, y = z9_4 + Int32.ofInt 1 := ⟨_, rfl⟩
              refine lv_iinc (v := y20) (lv' := [(4, .int y20), (3, .int f19), (2, .int f18), (0, .ref a0), (1, .int x1), (5, .int f14)]) X.1 X.2.1 dX12_alike_85 hl (k := 4) rfl ey20.symm (by decide) rfl (fun ls hl => ?_)
              refine lv_goto (tgt := 36) X.1 X.2.1 dX12_alike_88 (by decide) ?_
              exact ih9 _ _ f18 f19 y20 hS (lv_sub hl [3, 4, 2, 1, 0] rfl) (iv_of (iv_add (a' := 1) (b' := 8) ey20 (iv_lt (b' := 7) (iv_gt_of c11) hz9_4 hf10 (by decide +kernel)) (iv_c _ (a := 1) (b := 1) (by decide +kernel)) (by decide +kernel)) (a' := 0) (b' := 8) (by decide +kernel)) (iv_stepU ey20 (iv_lt (b' := 7) (iv_gt_of c11) hz9_4 hf10 (by decide +kernel)) (by decide +kernel) hN9)
            refine lv_icmp_ne (tgt := 75) X.1 X.2.1 dX12_alike_68 (by decide) (fun c16 => ?_) (fun c16 => ?_)
            · refine lv_iconst (v := 0) X.1 X.2.1 dX12_alike_75 (by decide +kernel) ?_
              exact B17_76 _ _ 0 hS (lv_sub hl [1, 2, 4, 5, 0] rfl) (iv_of (iv_c 0 (a := 0) (b := 0) (by decide +kernel)) (a' := 0) (b' := 1) (by decide +kernel))
            · refine lv_iconst (v := 1) X.1 X.2.1 dX12_alike_71 (by decide +kernel) ?_
              refine lv_goto (tgt := 76) X.1 X.2.1 dX12_alike_72 (by decide) ?_
              exact B17_76 _ _ 1 hS (lv_sub hl [1, 2, 4, 5, 0] rfl) (iv_of (iv_c 1 (a := 1) (b := 1) (by decide +kernel)) (a' := 0) (b' := 1) (by decide +kernel))
      exact B9_36 _ _ _ 0 f8 0 hS (lv_sub hl [3, 4, 2, 1, 0] rfl) (iv_of (iv_c 0 (a := 0) (b := 0) (by decide +kernel)) (a' := 0) (b' := 8) (by decide +kernel)) (Nat.le_refl _)
    · refine lv_iconst (v := (-1)) X.1 X.2.1 dX12_alike_22 (by decide +kernel) ?_
      exact sg_iret X hr hlk hb hK hC hG hS trivial dX12_alike_23

theorem ca_X12_alike_1   (X : CallFix p m c cc nL s args sg_tbl own) (hK : va_K D vwCl tys s) (hG : sgG (KT P) D vwCl (fun q : Nat => base ≤ q) tys ad ks H) (hC : sgC base s) (hS : va_S (fun q : Nat => base ≤ q) s.heap H locs) (hb : base ≤ s.heap.size) (hp4 : P.2.2.2.2.1 = true) (a0 : Nat) (h0 : isK ad ks 12 a0) (x1 : Int32) (hl : Cond.methodLink own index yX12_alike ∈ sg_tbl) (hsize : ls.size = nL) (hst : st0 = [.int x1].reverse ++ .ref a0 :: rest) (hW : (rest.map fun v => v.category).sum ≤ 8) (hR : 4 ≤ R.frames ∧ 95 ≤ R.locals) (hf : cells ≤ R.cells ∧ slots ≤ R.slots) (hdg : decode cc pc = .ok (.invokevirtual index, 3)) (kk : ∀ (r : Int32) (H1 : Heap) (locs1 : List Loc), (fun r : Int32 => True) r → sgG (KT P) D vwCl (fun q : Nat => base ≤ q) tys ad ks H1 → va_S (fun q : Nat => base ≤ q) s.heap H1 locs1 → W p l e R s m args below meth c H1 locs1 cells slots Q (F0 m (pc + 3) ls (.int r :: rest))) : W p l e R s m args below meth c H locs cells slots Q (F0 m pc ls st0) :=
  sg_callVi X hK hG hC hS hb (m_X12_alike_1 l hp4 a0 h0 x1) h0 (k := 12) (ci := 12) rfl (C := RX12) (T := TX12) (N := 53) rfl wl_9_107 wl_1_13 wl_9_105 wl_9_106 (n := 1) (by decide +kernel) rfl rfl rfl hl hsize hst hW hR hf hdg kk
end
