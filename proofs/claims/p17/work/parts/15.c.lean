abbrev cX0_placeMole : ByteArray := prog_2_method_6_code
def yX0_placeMole : MethodName := ⟨RX0, "placeMole", "(LLawnAhead$State;)Z"⟩
abbrev cX10_fullBytes : ByteArray := prog_12_method_2_code
def yX10_fullBytes : MethodName := ⟨RX10, "fullBytes", "(I)I"⟩
abbrev cX11_isCell : ByteArray := prog_1_method_9_code
def yX11_isCell : MethodName := ⟨RX11, "isCell", "(I)Z"⟩
abbrev cX11_isGame : ByteArray := prog_1_method_10_code
def yX11_isGame : MethodName := ⟨RX11, "isGame", "(I)Z"⟩
abbrev cX11_kindOf : ByteArray := prog_1_method_13_code
def yX11_kindOf : MethodName := ⟨RX11, "kindOf", "(I)I"⟩
abbrev cX11_noLawn : ByteArray := prog_1_method_8_code
def yX11_noLawn : MethodName := ⟨RX11, "noLawn", "()Z"⟩
abbrev cX11_nthCell : ByteArray := prog_1_method_24_code
def yX11_nthCell : MethodName := ⟨RX11, "nthCell", "(II)I"⟩
abbrev cX2_allSmall : ByteArray := prog_4_method_6_code
def yX2_allSmall : MethodName := ⟨RX2, "allSmall", "()Z"⟩
abbrev cX2_findParts : ByteArray := prog_4_method_3_code
def yX2_findParts : MethodName := ⟨RX2, "findParts", "(I)V"⟩
abbrev cX2_forget : ByteArray := prog_4_method_2_code
def yX2_forget : MethodName := ⟨RX2, "forget", "()V"⟩
abbrev cX2_isSmall : ByteArray := prog_4_method_5_code
def yX2_isSmall : MethodName := ⟨RX2, "isSmall", "(I)Z"⟩
abbrev cX2_partWith : ByteArray := prog_4_method_13_code
def yX2_partWith : MethodName := ⟨RX2, "partWith", "(I)I"⟩
abbrev cX2_spread : ByteArray := prog_4_method_4_code
def yX2_spread : MethodName := ⟨RX2, "spread", "(II)I"⟩
theorem dX0_placeMole_0 : decode cX0_placeMole 0 = .ok (.aload_n 0, 1) := by decide +kernel
theorem dX0_placeMole_1 : decode cX0_placeMole 1 = .ok (.iconst (-1), 1) := by decide +kernel
theorem dX0_placeMole_2 : decode cX0_placeMole 2 = .ok (.putfield 56, 3) := by decide +kernel
theorem dX0_placeMole_5 : decode cX0_placeMole 5 = .ok (.iconst 0, 1) := by decide +kernel
theorem dX0_placeMole_6 : decode cX0_placeMole 6 = .ok (.istore_n 2, 1) := by decide +kernel
theorem dX0_placeMole_7 : decode cX0_placeMole 7 = .ok (.iload_n 2, 1) := by decide +kernel
theorem dX0_placeMole_8 : decode cX0_placeMole 8 = .ok (.aload_n 0, 1) := by decide +kernel
theorem dX0_placeMole_9 : decode cX0_placeMole 9 = .ok (.getfield 9, 3) := by decide +kernel
theorem dX0_placeMole_12 : decode cX0_placeMole 12 = .ok (.getfield 66, 3) := by decide +kernel
theorem dX0_placeMole_15 : decode cX0_placeMole 15 = .ok (.getfield 70, 3) := by decide +kernel
theorem dX0_placeMole_18 : decode cX0_placeMole 18 = .ok (.if_icmp .ge 95, 3) := by decide +kernel
theorem dX0_placeMole_21 : decode cX0_placeMole 21 = .ok (.iconst 1, 1) := by decide +kernel
theorem dX0_placeMole_22 : decode cX0_placeMole 22 = .ok (.iload_n 2, 1) := by decide +kernel
theorem dX0_placeMole_23 : decode cX0_placeMole 23 = .ok (.ishl, 1) := by decide +kernel
theorem dX0_placeMole_24 : decode cX0_placeMole 24 = .ok (.istore_n 3, 1) := by decide +kernel
theorem dX0_placeMole_25 : decode cX0_placeMole 25 = .ok (.aload_n 0, 1) := by decide +kernel
theorem dX0_placeMole_26 : decode cX0_placeMole 26 = .ok (.getfield 9, 3) := by decide +kernel
theorem dX0_placeMole_29 : decode cX0_placeMole 29 = .ok (.getfield 66, 3) := by decide +kernel
theorem dX0_placeMole_32 : decode cX0_placeMole 32 = .ok (.getfield 82, 3) := by decide +kernel
theorem dX0_placeMole_35 : decode cX0_placeMole 35 = .ok (.aload_n 1, 1) := by decide +kernel
theorem dX0_placeMole_36 : decode cX0_placeMole 36 = .ok (.getfield 34, 3) := by decide +kernel
theorem dX0_placeMole_39 : decode cX0_placeMole 39 = .ok (.ior, 1) := by decide +kernel
theorem dX0_placeMole_40 : decode cX0_placeMole 40 = .ok (.iload_n 3, 1) := by decide +kernel
theorem dX0_placeMole_41 : decode cX0_placeMole 41 = .ok (.iand, 1) := by decide +kernel
theorem dX0_placeMole_42 : decode cX0_placeMole 42 = .ok (.ifCond .ne 65, 3) := by decide +kernel
theorem dX0_placeMole_45 : decode cX0_placeMole 45 = .ok (.aload_n 0, 1) := by decide +kernel
theorem dX0_placeMole_46 : decode cX0_placeMole 46 = .ok (.getfield 9, 3) := by decide +kernel
theorem dX0_placeMole_49 : decode cX0_placeMole 49 = .ok (.aload_n 1, 1) := by decide +kernel
theorem dX0_placeMole_50 : decode cX0_placeMole 50 = .ok (.getfield 15, 3) := by decide +kernel
theorem dX0_placeMole_53 : decode cX0_placeMole 53 = .ok (.iload_n 3, 1) := by decide +kernel
theorem dX0_placeMole_54 : decode cX0_placeMole 54 = .ok (.iconst (-1), 1) := by decide +kernel
theorem dX0_placeMole_55 : decode cX0_placeMole 55 = .ok (.ixor, 1) := by decide +kernel
theorem dX0_placeMole_56 : decode cX0_placeMole 56 = .ok (.iand, 1) := by decide +kernel
theorem dX0_placeMole_57 : decode cX0_placeMole 57 = .ok (.aload_n 1, 1) := by decide +kernel
theorem dX0_placeMole_58 : decode cX0_placeMole 58 = .ok (.getfield 34, 3) := by decide +kernel
theorem dX0_placeMole_61 : decode cX0_placeMole 61 = .ok (.iload_n 3, 1) := by decide +kernel
theorem dX0_placeMole_62 : decode cX0_placeMole 62 = .ok (.ior, 1) := by decide +kernel
theorem dX0_placeMole_63 : decode cX0_placeMole 63 = .ok (.aload_n 1, 1) := by decide +kernel
theorem dX0_placeMole_64 : decode cX0_placeMole 64 = .ok (.getfield 37, 3) := by decide +kernel
theorem dX0_placeMole_67 : decode cX0_placeMole 67 = .ok (.invokevirtual 40, 3) := by decide +kernel
theorem dX0_placeMole_70 : decode cX0_placeMole 70 = .ok (.istore 4, 2) := by decide +kernel
theorem dX0_placeMole_72 : decode cX0_placeMole 72 = .ok (.iload 4, 2) := by decide +kernel
theorem dX0_placeMole_74 : decode cX0_placeMole 74 = .ok (.invokestatic 44, 3) := by decide +kernel
theorem dX0_placeMole_77 : decode cX0_placeMole 77 = .ok (.istore 5, 2) := by decide +kernel
theorem dX0_placeMole_79 : decode cX0_placeMole 79 = .ok (.aload_n 0, 1) := by decide +kernel
theorem dX0_placeMole_80 : decode cX0_placeMole 80 = .ok (.getfield 56, 3) := by decide +kernel
theorem dX0_placeMole_83 : decode cX0_placeMole 83 = .ok (.iconst (-1), 1) := by decide +kernel
theorem dX0_placeMole_84 : decode cX0_placeMole 84 = .ok (.if_icmp .eq 12, 3) := by decide +kernel
theorem dX0_placeMole_87 : decode cX0_placeMole 87 = .ok (.iload 5, 2) := by decide +kernel
theorem dX0_placeMole_89 : decode cX0_placeMole 89 = .ok (.aload_n 0, 1) := by decide +kernel
theorem dX0_placeMole_90 : decode cX0_placeMole 90 = .ok (.getfield 53, 3) := by decide +kernel
theorem dX0_placeMole_93 : decode cX0_placeMole 93 = .ok (.if_icmp .ge 14, 3) := by decide +kernel
theorem dX0_placeMole_96 : decode cX0_placeMole 96 = .ok (.aload_n 0, 1) := by decide +kernel
theorem dX0_placeMole_97 : decode cX0_placeMole 97 = .ok (.iload_n 2, 1) := by decide +kernel
theorem dX0_placeMole_98 : decode cX0_placeMole 98 = .ok (.putfield 56, 3) := by decide +kernel
theorem dX0_placeMole_101 : decode cX0_placeMole 101 = .ok (.aload_n 0, 1) := by decide +kernel
theorem dX0_placeMole_102 : decode cX0_placeMole 102 = .ok (.iload 5, 2) := by decide +kernel
theorem dX0_placeMole_104 : decode cX0_placeMole 104 = .ok (.putfield 53, 3) := by decide +kernel
theorem dX0_placeMole_107 : decode cX0_placeMole 107 = .ok (.iinc 2 1, 3) := by decide +kernel
theorem dX0_placeMole_110 : decode cX0_placeMole 110 = .ok (.goto (-103), 3) := by decide +kernel
theorem dX0_placeMole_113 : decode cX0_placeMole 113 = .ok (.aload_n 0, 1) := by decide +kernel
theorem dX0_placeMole_114 : decode cX0_placeMole 114 = .ok (.getfield 56, 3) := by decide +kernel
theorem dX0_placeMole_117 : decode cX0_placeMole 117 = .ok (.iconst (-1), 1) := by decide +kernel
theorem dX0_placeMole_118 : decode cX0_placeMole 118 = .ok (.if_icmp .eq 7, 3) := by decide +kernel
theorem dX0_placeMole_121 : decode cX0_placeMole 121 = .ok (.iconst 1, 1) := by decide +kernel
theorem dX0_placeMole_122 : decode cX0_placeMole 122 = .ok (.goto 4, 3) := by decide +kernel
theorem dX0_placeMole_125 : decode cX0_placeMole 125 = .ok (.iconst 0, 1) := by decide +kernel
theorem dX0_placeMole_126 : decode cX0_placeMole 126 = .ok (.ireturn, 1) := by decide +kernel
theorem dX10_fullBytes_0 : decode cX10_fullBytes 0 = .ok (.iconst 0, 1) := by decide +kernel
theorem dX10_fullBytes_1 : decode cX10_fullBytes 1 = .ok (.istore_n 1, 1) := by decide +kernel
theorem dX10_fullBytes_2 : decode cX10_fullBytes 2 = .ok (.bipush 24, 2) := by decide +kernel
theorem dX10_fullBytes_4 : decode cX10_fullBytes 4 = .ok (.istore_n 2, 1) := by decide +kernel
theorem dX10_fullBytes_5 : decode cX10_fullBytes 5 = .ok (.iload_n 2, 1) := by decide +kernel
theorem dX10_fullBytes_6 : decode cX10_fullBytes 6 = .ok (.ifCond .lt 22, 3) := by decide +kernel
theorem dX10_fullBytes_9 : decode cX10_fullBytes 9 = .ok (.iload_n 0, 1) := by decide +kernel
theorem dX10_fullBytes_10 : decode cX10_fullBytes 10 = .ok (.iload_n 2, 1) := by decide +kernel
theorem dX10_fullBytes_11 : decode cX10_fullBytes 11 = .ok (.iushr, 1) := by decide +kernel
theorem dX10_fullBytes_12 : decode cX10_fullBytes 12 = .ok (.sipush 255, 3) := by decide +kernel
theorem dX10_fullBytes_15 : decode cX10_fullBytes 15 = .ok (.iand, 1) := by decide +kernel
theorem dX10_fullBytes_16 : decode cX10_fullBytes 16 = .ok (.ifCond .eq 6, 3) := by decide +kernel
theorem dX10_fullBytes_19 : decode cX10_fullBytes 19 = .ok (.iinc 1 1, 3) := by decide +kernel
theorem dX10_fullBytes_22 : decode cX10_fullBytes 22 = .ok (.iinc 2 (-8), 3) := by decide +kernel
theorem dX10_fullBytes_25 : decode cX10_fullBytes 25 = .ok (.goto (-20), 3) := by decide +kernel
theorem dX10_fullBytes_28 : decode cX10_fullBytes 28 = .ok (.iload_n 1, 1) := by decide +kernel
theorem dX10_fullBytes_29 : decode cX10_fullBytes 29 = .ok (.ireturn, 1) := by decide +kernel
theorem dX11_isCell_0 : decode cX11_isCell 0 = .ok (.iload_n 1, 1) := by decide +kernel
theorem dX11_isCell_1 : decode cX11_isCell 1 = .ok (.ifCond .lt 18, 3) := by decide +kernel
theorem dX11_isCell_4 : decode cX11_isCell 4 = .ok (.iload_n 1, 1) := by decide +kernel
theorem dX11_isCell_5 : decode cX11_isCell 5 = .ok (.aload_n 0, 1) := by decide +kernel
theorem dX11_isCell_6 : decode cX11_isCell 6 = .ok (.getfield 47, 3) := by decide +kernel
theorem dX11_isCell_9 : decode cX11_isCell 9 = .ok (.getfield 148, 3) := by decide +kernel
theorem dX11_isCell_12 : decode cX11_isCell 12 = .ok (.if_icmp .ge 7, 3) := by decide +kernel
theorem dX11_isCell_15 : decode cX11_isCell 15 = .ok (.iconst 1, 1) := by decide +kernel
theorem dX11_isCell_16 : decode cX11_isCell 16 = .ok (.goto 4, 3) := by decide +kernel
theorem dX11_isCell_19 : decode cX11_isCell 19 = .ok (.iconst 0, 1) := by decide +kernel
theorem dX11_isCell_20 : decode cX11_isCell 20 = .ok (.ireturn, 1) := by decide +kernel
theorem dX11_isGame_0 : decode cX11_isGame 0 = .ok (.iload_n 1, 1) := by decide +kernel
theorem dX11_isGame_1 : decode cX11_isGame 1 = .ok (.ifCond .lt 15, 3) := by decide +kernel
theorem dX11_isGame_4 : decode cX11_isGame 4 = .ok (.iload_n 1, 1) := by decide +kernel
theorem dX11_isGame_5 : decode cX11_isGame 5 = .ok (.aload_n 0, 1) := by decide +kernel
theorem dX11_isGame_6 : decode cX11_isGame 6 = .ok (.getfield 119, 3) := by decide +kernel
theorem dX11_isGame_9 : decode cX11_isGame 9 = .ok (.if_icmp .ge 7, 3) := by decide +kernel
theorem dX11_isGame_12 : decode cX11_isGame 12 = .ok (.iconst 1, 1) := by decide +kernel
theorem dX11_isGame_13 : decode cX11_isGame 13 = .ok (.goto 4, 3) := by decide +kernel
theorem dX11_isGame_16 : decode cX11_isGame 16 = .ok (.iconst 0, 1) := by decide +kernel
theorem dX11_isGame_17 : decode cX11_isGame 17 = .ok (.ireturn, 1) := by decide +kernel
theorem dX11_kindOf_0 : decode cX11_kindOf 0 = .ok (.aload_n 0, 1) := by decide +kernel
theorem dX11_kindOf_1 : decode cX11_kindOf 1 = .ok (.getfield 33, 3) := by decide +kernel
theorem dX11_kindOf_4 : decode cX11_kindOf 4 = .ok (.getfield 169, 3) := by decide +kernel
theorem dX11_kindOf_7 : decode cX11_kindOf 7 = .ok (.iload_n 1, 1) := by decide +kernel
theorem dX11_kindOf_8 : decode cX11_kindOf 8 = .ok (.iand, 1) := by decide +kernel
theorem dX11_kindOf_9 : decode cX11_kindOf 9 = .ok (.ifCond .eq 5, 3) := by decide +kernel
theorem dX11_kindOf_12 : decode cX11_kindOf 12 = .ok (.iconst 1, 1) := by decide +kernel
theorem dX11_kindOf_13 : decode cX11_kindOf 13 = .ok (.ireturn, 1) := by decide +kernel
theorem dX11_kindOf_14 : decode cX11_kindOf 14 = .ok (.aload_n 0, 1) := by decide +kernel
theorem dX11_kindOf_15 : decode cX11_kindOf 15 = .ok (.getfield 47, 3) := by decide +kernel
theorem dX11_kindOf_18 : decode cX11_kindOf 18 = .ok (.getfield 184, 3) := by decide +kernel
theorem dX11_kindOf_21 : decode cX11_kindOf 21 = .ok (.iload_n 1, 1) := by decide +kernel
theorem dX11_kindOf_22 : decode cX11_kindOf 22 = .ok (.iand, 1) := by decide +kernel
theorem dX11_kindOf_23 : decode cX11_kindOf 23 = .ok (.ifCond .eq 5, 3) := by decide +kernel
theorem dX11_kindOf_26 : decode cX11_kindOf 26 = .ok (.iconst 2, 1) := by decide +kernel
theorem dX11_kindOf_27 : decode cX11_kindOf 27 = .ok (.ireturn, 1) := by decide +kernel
theorem dX11_kindOf_28 : decode cX11_kindOf 28 = .ok (.aload_n 0, 1) := by decide +kernel
theorem dX11_kindOf_29 : decode cX11_kindOf 29 = .ok (.getfield 33, 3) := by decide +kernel
theorem dX11_kindOf_32 : decode cX11_kindOf 32 = .ok (.getfield 174, 3) := by decide +kernel
theorem dX11_kindOf_35 : decode cX11_kindOf 35 = .ok (.iload_n 1, 1) := by decide +kernel
theorem dX11_kindOf_36 : decode cX11_kindOf 36 = .ok (.iand, 1) := by decide +kernel
theorem dX11_kindOf_37 : decode cX11_kindOf 37 = .ok (.ifCond .eq 7, 3) := by decide +kernel
theorem dX11_kindOf_40 : decode cX11_kindOf 40 = .ok (.iconst 3, 1) := by decide +kernel
theorem dX11_kindOf_41 : decode cX11_kindOf 41 = .ok (.goto 4, 3) := by decide +kernel
theorem dX11_kindOf_44 : decode cX11_kindOf 44 = .ok (.iconst 0, 1) := by decide +kernel
theorem dX11_kindOf_45 : decode cX11_kindOf 45 = .ok (.ireturn, 1) := by decide +kernel
theorem dX11_noLawn_0 : decode cX11_noLawn 0 = .ok (.aload_n 0, 1) := by decide +kernel
theorem dX11_noLawn_1 : decode cX11_noLawn 1 = .ok (.getfield 47, 3) := by decide +kernel
theorem dX11_noLawn_4 : decode cX11_noLawn 4 = .ok (.getfield 148, 3) := by decide +kernel
theorem dX11_noLawn_7 : decode cX11_noLawn 7 = .ok (.ifCond .ne 7, 3) := by decide +kernel
theorem dX11_noLawn_10 : decode cX11_noLawn 10 = .ok (.iconst 1, 1) := by decide +kernel
theorem dX11_noLawn_11 : decode cX11_noLawn 11 = .ok (.goto 4, 3) := by decide +kernel
theorem dX11_noLawn_14 : decode cX11_noLawn 14 = .ok (.iconst 0, 1) := by decide +kernel
theorem dX11_noLawn_15 : decode cX11_noLawn 15 = .ok (.ireturn, 1) := by decide +kernel
theorem dX11_nthCell_0 : decode cX11_nthCell 0 = .ok (.iload_n 1, 1) := by decide +kernel
theorem dX11_nthCell_1 : decode cX11_nthCell 1 = .ok (.istore_n 2, 1) := by decide +kernel
theorem dX11_nthCell_2 : decode cX11_nthCell 2 = .ok (.iconst 0, 1) := by decide +kernel
theorem dX11_nthCell_3 : decode cX11_nthCell 3 = .ok (.istore_n 3, 1) := by decide +kernel
theorem dX11_nthCell_4 : decode cX11_nthCell 4 = .ok (.iload_n 3, 1) := by decide +kernel
theorem dX11_nthCell_5 : decode cX11_nthCell 5 = .ok (.bipush 30, 2) := by decide +kernel
theorem dX11_nthCell_7 : decode cX11_nthCell 7 = .ok (.if_icmp .ge 26, 3) := by decide +kernel
theorem dX11_nthCell_10 : decode cX11_nthCell 10 = .ok (.iload_n 0, 1) := by decide +kernel
theorem dX11_nthCell_11 : decode cX11_nthCell 11 = .ok (.iload_n 3, 1) := by decide +kernel
theorem dX11_nthCell_12 : decode cX11_nthCell 12 = .ok (.ishr, 1) := by decide +kernel
theorem dX11_nthCell_13 : decode cX11_nthCell 13 = .ok (.iconst 1, 1) := by decide +kernel
theorem dX11_nthCell_14 : decode cX11_nthCell 14 = .ok (.iand, 1) := by decide +kernel
theorem dX11_nthCell_15 : decode cX11_nthCell 15 = .ok (.ifCond .eq 12, 3) := by decide +kernel
theorem dX11_nthCell_18 : decode cX11_nthCell 18 = .ok (.iload_n 2, 1) := by decide +kernel
theorem dX11_nthCell_19 : decode cX11_nthCell 19 = .ok (.ifCond .ne 5, 3) := by decide +kernel
theorem dX11_nthCell_22 : decode cX11_nthCell 22 = .ok (.iload_n 3, 1) := by decide +kernel
theorem dX11_nthCell_23 : decode cX11_nthCell 23 = .ok (.ireturn, 1) := by decide +kernel
theorem dX11_nthCell_24 : decode cX11_nthCell 24 = .ok (.iinc 2 (-1), 3) := by decide +kernel
theorem dX11_nthCell_27 : decode cX11_nthCell 27 = .ok (.iinc 3 1, 3) := by decide +kernel
theorem dX11_nthCell_30 : decode cX11_nthCell 30 = .ok (.goto (-26), 3) := by decide +kernel
theorem dX11_nthCell_33 : decode cX11_nthCell 33 = .ok (.iconst (-1), 1) := by decide +kernel
theorem dX11_nthCell_34 : decode cX11_nthCell 34 = .ok (.ireturn, 1) := by decide +kernel
theorem dX2_allSmall_0 : decode cX2_allSmall 0 = .ok (.iconst 0, 1) := by decide +kernel
theorem dX2_allSmall_1 : decode cX2_allSmall 1 = .ok (.istore_n 1, 1) := by decide +kernel
theorem dX2_allSmall_2 : decode cX2_allSmall 2 = .ok (.iload_n 1, 1) := by decide +kernel
theorem dX2_allSmall_3 : decode cX2_allSmall 3 = .ok (.aload_n 0, 1) := by decide +kernel
theorem dX2_allSmall_4 : decode cX2_allSmall 4 = .ok (.getfield 38, 3) := by decide +kernel
theorem dX2_allSmall_7 : decode cX2_allSmall 7 = .ok (.if_icmp .ge 19, 3) := by decide +kernel
theorem dX2_allSmall_10 : decode cX2_allSmall 10 = .ok (.aload_n 0, 1) := by decide +kernel
theorem dX2_allSmall_11 : decode cX2_allSmall 11 = .ok (.iload_n 1, 1) := by decide +kernel
theorem dX2_allSmall_12 : decode cX2_allSmall 12 = .ok (.invokevirtual 60, 3) := by decide +kernel
theorem dX2_allSmall_15 : decode cX2_allSmall 15 = .ok (.ifCond .ne 5, 3) := by decide +kernel
theorem dX2_allSmall_18 : decode cX2_allSmall 18 = .ok (.iconst 0, 1) := by decide +kernel
theorem dX2_allSmall_19 : decode cX2_allSmall 19 = .ok (.ireturn, 1) := by decide +kernel
theorem dX2_allSmall_20 : decode cX2_allSmall 20 = .ok (.iinc 1 1, 3) := by decide +kernel
theorem dX2_allSmall_23 : decode cX2_allSmall 23 = .ok (.goto (-21), 3) := by decide +kernel
theorem dX2_allSmall_26 : decode cX2_allSmall 26 = .ok (.iconst 1, 1) := by decide +kernel
theorem dX2_allSmall_27 : decode cX2_allSmall 27 = .ok (.ireturn, 1) := by decide +kernel
theorem dX2_findParts_0 : decode cX2_findParts 0 = .ok (.aload_n 0, 1) := by decide +kernel
theorem dX2_findParts_1 : decode cX2_findParts 1 = .ok (.getfield 27, 3) := by decide +kernel
theorem dX2_findParts_4 : decode cX2_findParts 4 = .ok (.ifCond .eq 12, 3) := by decide +kernel
theorem dX2_findParts_7 : decode cX2_findParts 7 = .ok (.aload_n 0, 1) := by decide +kernel
theorem dX2_findParts_8 : decode cX2_findParts 8 = .ok (.getfield 31, 3) := by decide +kernel
theorem dX2_findParts_11 : decode cX2_findParts 11 = .ok (.iload_n 1, 1) := by decide +kernel
theorem dX2_findParts_12 : decode cX2_findParts 12 = .ok (.if_icmp .ne 4, 3) := by decide +kernel
theorem dX2_findParts_15 : decode cX2_findParts 15 = .ok (.return_, 1) := by decide +kernel
theorem dX2_findParts_16 : decode cX2_findParts 16 = .ok (.aload_n 0, 1) := by decide +kernel
theorem dX2_findParts_17 : decode cX2_findParts 17 = .ok (.iconst 1, 1) := by decide +kernel
theorem dX2_findParts_18 : decode cX2_findParts 18 = .ok (.putfield 27, 3) := by decide +kernel
theorem dX2_findParts_21 : decode cX2_findParts 21 = .ok (.aload_n 0, 1) := by decide +kernel
theorem dX2_findParts_22 : decode cX2_findParts 22 = .ok (.iload_n 1, 1) := by decide +kernel
theorem dX2_findParts_23 : decode cX2_findParts 23 = .ok (.putfield 31, 3) := by decide +kernel
theorem dX2_findParts_26 : decode cX2_findParts 26 = .ok (.aload_n 0, 1) := by decide +kernel
theorem dX2_findParts_27 : decode cX2_findParts 27 = .ok (.iconst 0, 1) := by decide +kernel
theorem dX2_findParts_28 : decode cX2_findParts 28 = .ok (.putfield 35, 3) := by decide +kernel
theorem dX2_findParts_31 : decode cX2_findParts 31 = .ok (.aload_n 0, 1) := by decide +kernel
theorem dX2_findParts_32 : decode cX2_findParts 32 = .ok (.iconst 0, 1) := by decide +kernel
theorem dX2_findParts_33 : decode cX2_findParts 33 = .ok (.putfield 38, 3) := by decide +kernel
theorem dX2_findParts_36 : decode cX2_findParts 36 = .ok (.iload_n 1, 1) := by decide +kernel
theorem dX2_findParts_37 : decode cX2_findParts 37 = .ok (.istore_n 2, 1) := by decide +kernel
theorem dX2_findParts_38 : decode cX2_findParts 38 = .ok (.iconst 0, 1) := by decide +kernel
theorem dX2_findParts_39 : decode cX2_findParts 39 = .ok (.istore_n 3, 1) := by decide +kernel
theorem dX2_findParts_40 : decode cX2_findParts 40 = .ok (.iload_n 3, 1) := by decide +kernel
theorem dX2_findParts_41 : decode cX2_findParts 41 = .ok (.bipush 30, 2) := by decide +kernel
theorem dX2_findParts_43 : decode cX2_findParts 43 = .ok (.if_icmp .ge 46, 3) := by decide +kernel
theorem dX2_findParts_46 : decode cX2_findParts 46 = .ok (.iload_n 2, 1) := by decide +kernel
theorem dX2_findParts_47 : decode cX2_findParts 47 = .ok (.ifCond .eq 42, 3) := by decide +kernel
theorem dX2_findParts_50 : decode cX2_findParts 50 = .ok (.aload_n 0, 1) := by decide +kernel
theorem dX2_findParts_51 : decode cX2_findParts 51 = .ok (.getfield 9, 3) := by decide +kernel
theorem dX2_findParts_54 : decode cX2_findParts 54 = .ok (.iload_n 3, 1) := by decide +kernel
theorem dX2_findParts_55 : decode cX2_findParts 55 = .ok (.aload_n 0, 1) := by decide +kernel
theorem dX2_findParts_56 : decode cX2_findParts 56 = .ok (.iload_n 2, 1) := by decide +kernel
theorem dX2_findParts_57 : decode cX2_findParts 57 = .ok (.iload_n 2, 1) := by decide +kernel
theorem dX2_findParts_58 : decode cX2_findParts 58 = .ok (.ineg, 1) := by decide +kernel
theorem dX2_findParts_59 : decode cX2_findParts 59 = .ok (.iand, 1) := by decide +kernel
theorem dX2_findParts_60 : decode cX2_findParts 60 = .ok (.iload_n 1, 1) := by decide +kernel
theorem dX2_findParts_61 : decode cX2_findParts 61 = .ok (.invokevirtual 41, 3) := by decide +kernel
theorem dX2_findParts_64 : decode cX2_findParts 64 = .ok (.iastore, 1) := by decide +kernel
theorem dX2_findParts_65 : decode cX2_findParts 65 = .ok (.iload_n 2, 1) := by decide +kernel
theorem dX2_findParts_66 : decode cX2_findParts 66 = .ok (.aload_n 0, 1) := by decide +kernel
theorem dX2_findParts_67 : decode cX2_findParts 67 = .ok (.getfield 9, 3) := by decide +kernel
theorem dX2_findParts_70 : decode cX2_findParts 70 = .ok (.iload_n 3, 1) := by decide +kernel
theorem dX2_findParts_71 : decode cX2_findParts 71 = .ok (.iaload, 1) := by decide +kernel
theorem dX2_findParts_72 : decode cX2_findParts 72 = .ok (.iconst (-1), 1) := by decide +kernel
theorem dX2_findParts_73 : decode cX2_findParts 73 = .ok (.ixor, 1) := by decide +kernel
theorem dX2_findParts_74 : decode cX2_findParts 74 = .ok (.iand, 1) := by decide +kernel
theorem dX2_findParts_75 : decode cX2_findParts 75 = .ok (.istore_n 2, 1) := by decide +kernel
theorem dX2_findParts_76 : decode cX2_findParts 76 = .ok (.aload_n 0, 1) := by decide +kernel
theorem dX2_findParts_77 : decode cX2_findParts 77 = .ok (.iload_n 3, 1) := by decide +kernel
theorem dX2_findParts_78 : decode cX2_findParts 78 = .ok (.iconst 1, 1) := by decide +kernel
theorem dX2_findParts_79 : decode cX2_findParts 79 = .ok (.iadd, 1) := by decide +kernel
theorem dX2_findParts_80 : decode cX2_findParts 80 = .ok (.putfield 38, 3) := by decide +kernel
theorem dX2_findParts_83 : decode cX2_findParts 83 = .ok (.iinc 3 1, 3) := by decide +kernel
theorem dX2_findParts_86 : decode cX2_findParts 86 = .ok (.goto (-46), 3) := by decide +kernel
theorem dX2_findParts_89 : decode cX2_findParts 89 = .ok (.return_, 1) := by decide +kernel
theorem dX2_forget_0 : decode cX2_forget 0 = .ok (.aload_n 0, 1) := by decide +kernel
theorem dX2_forget_1 : decode cX2_forget 1 = .ok (.iconst 0, 1) := by decide +kernel
theorem dX2_forget_2 : decode cX2_forget 2 = .ok (.putfield 27, 3) := by decide +kernel
theorem dX2_forget_5 : decode cX2_forget 5 = .ok (.return_, 1) := by decide +kernel
theorem dX2_isSmall_0 : decode cX2_isSmall 0 = .ok (.aload_n 0, 1) := by decide +kernel
theorem dX2_isSmall_1 : decode cX2_isSmall 1 = .ok (.getfield 9, 3) := by decide +kernel
theorem dX2_isSmall_4 : decode cX2_isSmall 4 = .ok (.iload_n 1, 1) := by decide +kernel
theorem dX2_isSmall_5 : decode cX2_isSmall 5 = .ok (.iaload, 1) := by decide +kernel
theorem dX2_isSmall_6 : decode cX2_isSmall 6 = .ok (.invokestatic 55, 3) := by decide +kernel
theorem dX2_isSmall_9 : decode cX2_isSmall 9 = .ok (.bipush 12, 2) := by decide +kernel
theorem dX2_isSmall_11 : decode cX2_isSmall 11 = .ok (.if_icmp .gt 7, 3) := by decide +kernel
theorem dX2_isSmall_14 : decode cX2_isSmall 14 = .ok (.iconst 1, 1) := by decide +kernel
theorem dX2_isSmall_15 : decode cX2_isSmall 15 = .ok (.goto 4, 3) := by decide +kernel
theorem dX2_isSmall_18 : decode cX2_isSmall 18 = .ok (.iconst 0, 1) := by decide +kernel
theorem dX2_isSmall_19 : decode cX2_isSmall 19 = .ok (.ireturn, 1) := by decide +kernel
theorem dX2_partWith_0 : decode cX2_partWith 0 = .ok (.iconst 0, 1) := by decide +kernel
theorem dX2_partWith_1 : decode cX2_partWith 1 = .ok (.istore_n 2, 1) := by decide +kernel
theorem dX2_partWith_2 : decode cX2_partWith 2 = .ok (.iload_n 2, 1) := by decide +kernel
theorem dX2_partWith_3 : decode cX2_partWith 3 = .ok (.aload_n 0, 1) := by decide +kernel
theorem dX2_partWith_4 : decode cX2_partWith 4 = .ok (.getfield 38, 3) := by decide +kernel
theorem dX2_partWith_7 : decode cX2_partWith 7 = .ok (.if_icmp .ge 22, 3) := by decide +kernel
theorem dX2_partWith_10 : decode cX2_partWith 10 = .ok (.aload_n 0, 1) := by decide +kernel
theorem dX2_partWith_11 : decode cX2_partWith 11 = .ok (.getfield 9, 3) := by decide +kernel
theorem dX2_partWith_14 : decode cX2_partWith 14 = .ok (.iload_n 2, 1) := by decide +kernel
theorem dX2_partWith_15 : decode cX2_partWith 15 = .ok (.iaload, 1) := by decide +kernel
theorem dX2_partWith_16 : decode cX2_partWith 16 = .ok (.iload_n 1, 1) := by decide +kernel
theorem dX2_partWith_17 : decode cX2_partWith 17 = .ok (.iand, 1) := by decide +kernel
theorem dX2_partWith_18 : decode cX2_partWith 18 = .ok (.ifCond .eq 5, 3) := by decide +kernel
theorem dX2_partWith_21 : decode cX2_partWith 21 = .ok (.iload_n 2, 1) := by decide +kernel
theorem dX2_partWith_22 : decode cX2_partWith 22 = .ok (.ireturn, 1) := by decide +kernel
theorem dX2_partWith_23 : decode cX2_partWith 23 = .ok (.iinc 2 1, 3) := by decide +kernel
theorem dX2_partWith_26 : decode cX2_partWith 26 = .ok (.goto (-24), 3) := by decide +kernel
theorem dX2_partWith_29 : decode cX2_partWith 29 = .ok (.iconst 0, 1) := by decide +kernel
theorem dX2_partWith_30 : decode cX2_partWith 30 = .ok (.ireturn, 1) := by decide +kernel
theorem dX2_spread_0 : decode cX2_spread 0 = .ok (.iload_n 1, 1) := by decide +kernel
theorem dX2_spread_1 : decode cX2_spread 1 = .ok (.istore_n 3, 1) := by decide +kernel
theorem dX2_spread_2 : decode cX2_spread 2 = .ok (.iconst 0, 1) := by decide +kernel
theorem dX2_spread_3 : decode cX2_spread 3 = .ok (.istore 4, 2) := by decide +kernel
theorem dX2_spread_5 : decode cX2_spread 5 = .ok (.iload 4, 2) := by decide +kernel
theorem dX2_spread_7 : decode cX2_spread 7 = .ok (.bipush 30, 2) := by decide +kernel
theorem dX2_spread_9 : decode cX2_spread 9 = .ok (.if_icmp .ge 37, 3) := by decide +kernel
theorem dX2_spread_12 : decode cX2_spread 12 = .ok (.iload_n 3, 1) := by decide +kernel
theorem dX2_spread_13 : decode cX2_spread 13 = .ok (.aload_n 0, 1) := by decide +kernel
theorem dX2_spread_14 : decode cX2_spread 14 = .ok (.getfield 23, 3) := by decide +kernel
theorem dX2_spread_17 : decode cX2_spread 17 = .ok (.getfield 45, 3) := by decide +kernel
theorem dX2_spread_20 : decode cX2_spread 20 = .ok (.iload_n 3, 1) := by decide +kernel
theorem dX2_spread_21 : decode cX2_spread 21 = .ok (.invokevirtual 49, 3) := by decide +kernel
theorem dX2_spread_24 : decode cX2_spread 24 = .ok (.iload_n 2, 1) := by decide +kernel
theorem dX2_spread_25 : decode cX2_spread 25 = .ok (.iand, 1) := by decide +kernel
theorem dX2_spread_26 : decode cX2_spread 26 = .ok (.ior, 1) := by decide +kernel
theorem dX2_spread_27 : decode cX2_spread 27 = .ok (.istore 5, 2) := by decide +kernel
theorem dX2_spread_29 : decode cX2_spread 29 = .ok (.iload 5, 2) := by decide +kernel
theorem dX2_spread_31 : decode cX2_spread 31 = .ok (.iload_n 3, 1) := by decide +kernel
theorem dX2_spread_32 : decode cX2_spread 32 = .ok (.if_icmp .ne 5, 3) := by decide +kernel
theorem dX2_spread_35 : decode cX2_spread 35 = .ok (.iload_n 3, 1) := by decide +kernel
theorem dX2_spread_36 : decode cX2_spread 36 = .ok (.ireturn, 1) := by decide +kernel
theorem dX2_spread_37 : decode cX2_spread 37 = .ok (.iload 5, 2) := by decide +kernel
theorem dX2_spread_39 : decode cX2_spread 39 = .ok (.istore_n 3, 1) := by decide +kernel
theorem dX2_spread_40 : decode cX2_spread 40 = .ok (.iinc 4 1, 3) := by decide +kernel
theorem dX2_spread_43 : decode cX2_spread 43 = .ok (.goto (-38), 3) := by decide +kernel
theorem dX2_spread_46 : decode cX2_spread 46 = .ok (.iload_n 3, 1) := by decide +kernel
theorem dX2_spread_47 : decode cX2_spread 47 = .ok (.ireturn, 1) := by decide +kernel
theorem wl_1_232 : (.fieldLink RX0 82 "LawnAhead$Ground" "beds" "I" : Cond) ∈ sg_tbl := tb_1 _ (List.mem_of_getElem? (i := 232) (by decide +kernel)) (by decide +kernel)
theorem wl_2_154 : (.fieldLink RX2 27 "LawnAhead$Ends" "found" "Z" : Cond) ∈ sg_tbl := tb_2 _ (List.mem_of_getElem? (i := 154) (by decide +kernel)) (by decide +kernel)
theorem wl_2_144 : (.fieldLink RX2 23 "LawnAhead$Ends" "sight" "LLawnAhead$Sight;" : Cond) ∈ sg_tbl := tb_2 _ (List.mem_of_getElem? (i := 144) (by decide +kernel)) (by decide +kernel)
theorem wl_2_37 : (.fieldLink RX2 45 "LawnAhead$Sight" "ground" "LLawnAhead$Ground;" : Cond) ∈ sg_tbl := tb_2 _ (List.mem_of_getElem? (i := 37) (by decide +kernel)) (by decide +kernel)
theorem wl_5_144 : (.methodLink RX2 49 yX4_beside : Cond) ∈ sg_tbl := tb_5 _ (List.mem_of_getElem? (i := 144) (by decide +kernel)) (by decide +kernel)
theorem wl_2_153 : (.fieldLink RX2 31 "LawnAhead$Ends" "foundIn" "I" : Cond) ∈ sg_tbl := tb_2 _ (List.mem_of_getElem? (i := 153) (by decide +kernel)) (by decide +kernel)
theorem wl_2_155 : (.fieldLink RX2 35 "LawnAhead$Ends" "summed" "Z" : Cond) ∈ sg_tbl := tb_2 _ (List.mem_of_getElem? (i := 155) (by decide +kernel)) (by decide +kernel)
theorem wl_2_151 : (.fieldLink RX2 38 "LawnAhead$Ends" "partCount" "I" : Cond) ∈ sg_tbl := tb_2 _ (List.mem_of_getElem? (i := 151) (by decide +kernel)) (by decide +kernel)
theorem wl_2_145 : (.fieldLink RX2 9 "LawnAhead$Ends" "parts" "[I" : Cond) ∈ sg_tbl := tb_2 _ (List.mem_of_getElem? (i := 145) (by decide +kernel)) (by decide +kernel)
theorem wl_5_140 : (.methodLink RX2 41 yX2_spread : Cond) ∈ sg_tbl := tb_5 _ (List.mem_of_getElem? (i := 140) (by decide +kernel)) (by decide +kernel)
theorem wl_5_156 : (.methodLink RX2 55 yJ6_bitCount_0f7a4 : Cond) ∈ sg_tbl := tb_5 _ (List.mem_of_getElem? (i := 156) (by decide +kernel)) (by decide +kernel)
theorem wl_5_161 : (.methodLink RX2 60 yX2_isSmall : Cond) ∈ sg_tbl := tb_5 _ (List.mem_of_getElem? (i := 161) (by decide +kernel)) (by decide +kernel)
theorem wl_2_205 : (.fieldLink RX11 47 "LawnAhead" "ground" "LLawnAhead$Ground;" : Cond) ∈ sg_tbl := tb_2 _ (List.mem_of_getElem? (i := 205) (by decide +kernel)) (by decide +kernel)
theorem wl_1_220 : (.fieldLink RX11 148 "LawnAhead$Ground" "cells" "I" : Cond) ∈ sg_tbl := tb_1 _ (List.mem_of_getElem? (i := 220) (by decide +kernel)) (by decide +kernel)
theorem wl_2_208 : (.fieldLink RX11 119 "LawnAhead" "gameCount" "I" : Cond) ∈ sg_tbl := tb_2 _ (List.mem_of_getElem? (i := 208) (by decide +kernel)) (by decide +kernel)
theorem wl_2_198 : (.fieldLink RX11 33 "LawnAhead" "now" "LLawnAhead$State;" : Cond) ∈ sg_tbl := tb_2 _ (List.mem_of_getElem? (i := 198) (by decide +kernel)) (by decide +kernel)
theorem wl_1_118 : (.fieldLink RX11 169 "LawnAhead$State" "tufts" "I" : Cond) ∈ sg_tbl := tb_1 _ (List.mem_of_getElem? (i := 118) (by decide +kernel)) (by decide +kernel)
theorem wl_1_233 : (.fieldLink RX11 184 "LawnAhead$Ground" "beds" "I" : Cond) ∈ sg_tbl := tb_1 _ (List.mem_of_getElem? (i := 233) (by decide +kernel)) (by decide +kernel)
theorem wl_1_122 : (.fieldLink RX11 174 "LawnAhead$State" "earth" "I" : Cond) ∈ sg_tbl := tb_1 _ (List.mem_of_getElem? (i := 122) (by decide +kernel)) (by decide +kernel)
theorem wl_6_65 : (.code yX0_placeMole cX0_placeMole 6 (some .boolean) : Cond) ∈ sg_tbl := tb_6 _ (List.mem_of_getElem? (i := 65) (by decide +kernel)) (by decide +kernel)
theorem wl_6_63 : (.instanceMethod yX0_placeMole : Cond) ∈ sg_tbl := tb_6 _ (List.mem_of_getElem? (i := 63) (by decide +kernel)) (by decide +kernel)
theorem wl_6_64 : (.selects RX0 yX0_placeMole yX0_placeMole : Cond) ∈ sg_tbl := tb_6 _ (List.mem_of_getElem? (i := 64) (by decide +kernel)) (by decide +kernel)
theorem wl_1_11 : (.initialized RX2 : Cond) ∈ sg_tbl := tb_1 _ (List.mem_of_getElem? (i := 11) (by decide +kernel)) (by decide +kernel)
theorem wl_4_58 : (.code yX2_forget cX2_forget 1 none : Cond) ∈ sg_tbl := tb_4 _ (List.mem_of_getElem? (i := 58) (by decide +kernel)) (by decide +kernel)
theorem wl_4_56 : (.instanceMethod yX2_forget : Cond) ∈ sg_tbl := tb_4 _ (List.mem_of_getElem? (i := 56) (by decide +kernel)) (by decide +kernel)
theorem wl_4_57 : (.selects RX2 yX2_forget yX2_forget : Cond) ∈ sg_tbl := tb_4 _ (List.mem_of_getElem? (i := 57) (by decide +kernel)) (by decide +kernel)
theorem wl_5_143 : (.code yX2_spread cX2_spread 6 (some .int) : Cond) ∈ sg_tbl := tb_5 _ (List.mem_of_getElem? (i := 143) (by decide +kernel)) (by decide +kernel)
theorem wl_5_142 : (.instanceMethod yX2_spread : Cond) ∈ sg_tbl := tb_5 _ (List.mem_of_getElem? (i := 142) (by decide +kernel)) (by decide +kernel)
theorem wl_0_35 : (.selects RX2 yX2_spread yX2_spread : Cond) ∈ sg_tbl := tb_0 _ (List.mem_of_getElem? (i := 35) (by decide +kernel)) (by decide +kernel)
theorem wl_5_139 : (.code yX2_findParts cX2_findParts 4 none : Cond) ∈ sg_tbl := tb_5 _ (List.mem_of_getElem? (i := 139) (by decide +kernel)) (by decide +kernel)
theorem wl_5_137 : (.instanceMethod yX2_findParts : Cond) ∈ sg_tbl := tb_5 _ (List.mem_of_getElem? (i := 137) (by decide +kernel)) (by decide +kernel)
theorem wl_5_138 : (.selects RX2 yX2_findParts yX2_findParts : Cond) ∈ sg_tbl := tb_5 _ (List.mem_of_getElem? (i := 138) (by decide +kernel)) (by decide +kernel)
theorem wl_5_155 : (.code yX2_isSmall cX2_isSmall 2 (some .boolean) : Cond) ∈ sg_tbl := tb_5 _ (List.mem_of_getElem? (i := 155) (by decide +kernel)) (by decide +kernel)
theorem wl_5_153 : (.instanceMethod yX2_isSmall : Cond) ∈ sg_tbl := tb_5 _ (List.mem_of_getElem? (i := 153) (by decide +kernel)) (by decide +kernel)
theorem wl_5_154 : (.selects RX2 yX2_isSmall yX2_isSmall : Cond) ∈ sg_tbl := tb_5 _ (List.mem_of_getElem? (i := 154) (by decide +kernel)) (by decide +kernel)
theorem wl_5_190 : (.code yX2_allSmall cX2_allSmall 2 (some .boolean) : Cond) ∈ sg_tbl := tb_5 _ (List.mem_of_getElem? (i := 190) (by decide +kernel)) (by decide +kernel)
theorem wl_5_188 : (.instanceMethod yX2_allSmall : Cond) ∈ sg_tbl := tb_5 _ (List.mem_of_getElem? (i := 188) (by decide +kernel)) (by decide +kernel)
theorem wl_5_189 : (.selects RX2 yX2_allSmall yX2_allSmall : Cond) ∈ sg_tbl := tb_5 _ (List.mem_of_getElem? (i := 189) (by decide +kernel)) (by decide +kernel)
theorem wl_5_199 : (.code yX2_partWith cX2_partWith 3 (some .int) : Cond) ∈ sg_tbl := tb_5 _ (List.mem_of_getElem? (i := 199) (by decide +kernel)) (by decide +kernel)
theorem wl_5_198 : (.instanceMethod yX2_partWith : Cond) ∈ sg_tbl := tb_5 _ (List.mem_of_getElem? (i := 198) (by decide +kernel)) (by decide +kernel)
theorem wl_0_39 : (.selects RX2 yX2_partWith yX2_partWith : Cond) ∈ sg_tbl := tb_0 _ (List.mem_of_getElem? (i := 39) (by decide +kernel)) (by decide +kernel)
theorem wl_1_1 : (.initialized RX11 : Cond) ∈ sg_tbl := tb_1 _ (List.mem_of_getElem? (i := 1) (by decide +kernel)) (by decide +kernel)
theorem wl_4_77 : (.code yX11_noLawn cX11_noLawn 1 (some .boolean) : Cond) ∈ sg_tbl := tb_4 _ (List.mem_of_getElem? (i := 77) (by decide +kernel)) (by decide +kernel)
theorem wl_4_76 : (.instanceMethod yX11_noLawn : Cond) ∈ sg_tbl := tb_4 _ (List.mem_of_getElem? (i := 76) (by decide +kernel)) (by decide +kernel)
theorem wl_0_20 : (.selects RX11 yX11_noLawn yX11_noLawn : Cond) ∈ sg_tbl := tb_0 _ (List.mem_of_getElem? (i := 20) (by decide +kernel)) (by decide +kernel)
theorem wl_5_220 : (.code yX11_isCell cX11_isCell 2 (some .boolean) : Cond) ∈ sg_tbl := tb_5 _ (List.mem_of_getElem? (i := 220) (by decide +kernel)) (by decide +kernel)
theorem wl_5_219 : (.instanceMethod yX11_isCell : Cond) ∈ sg_tbl := tb_5 _ (List.mem_of_getElem? (i := 219) (by decide +kernel)) (by decide +kernel)
theorem wl_0_41 : (.selects RX11 yX11_isCell yX11_isCell : Cond) ∈ sg_tbl := tb_0 _ (List.mem_of_getElem? (i := 41) (by decide +kernel)) (by decide +kernel)
theorem wl_5_24 : (.code yX11_isGame cX11_isGame 2 (some .boolean) : Cond) ∈ sg_tbl := tb_5 _ (List.mem_of_getElem? (i := 24) (by decide +kernel)) (by decide +kernel)
theorem wl_5_23 : (.instanceMethod yX11_isGame : Cond) ∈ sg_tbl := tb_5 _ (List.mem_of_getElem? (i := 23) (by decide +kernel)) (by decide +kernel)
theorem wl_0_28 : (.selects RX11 yX11_isGame yX11_isGame : Cond) ∈ sg_tbl := tb_0 _ (List.mem_of_getElem? (i := 28) (by decide +kernel)) (by decide +kernel)
theorem wl_5_224 : (.code yX11_kindOf cX11_kindOf 2 (some .int) : Cond) ∈ sg_tbl := tb_5 _ (List.mem_of_getElem? (i := 224) (by decide +kernel)) (by decide +kernel)
theorem wl_5_223 : (.instanceMethod yX11_kindOf : Cond) ∈ sg_tbl := tb_5 _ (List.mem_of_getElem? (i := 223) (by decide +kernel)) (by decide +kernel)
theorem wl_0_42 : (.selects RX11 yX11_kindOf yX11_kindOf : Cond) ∈ sg_tbl := tb_0 _ (List.mem_of_getElem? (i := 42) (by decide +kernel)) (by decide +kernel)
theorem wl_4_214 : (.code yX11_nthCell cX11_nthCell 4 (some .int) : Cond) ∈ sg_tbl := tb_4 _ (List.mem_of_getElem? (i := 214) (by decide +kernel)) (by decide +kernel)
theorem wl_4_213 : (.static yX11_nthCell : Cond) ∈ sg_tbl := tb_4 _ (List.mem_of_getElem? (i := 213) (by decide +kernel)) (by decide +kernel)
theorem wl_1_2 : (.initialized RX10 : Cond) ∈ sg_tbl := tb_1 _ (List.mem_of_getElem? (i := 2) (by decide +kernel)) (by decide +kernel)
theorem wl_3_13 : (.code yX10_fullBytes cX10_fullBytes 3 (some .int) : Cond) ∈ sg_tbl := tb_3 _ (List.mem_of_getElem? (i := 13) (by decide +kernel)) (by decide +kernel)
theorem wl_3_12 : (.static yX10_fullBytes : Cond) ∈ sg_tbl := tb_3 _ (List.mem_of_getElem? (i := 12) (by decide +kernel)) (by decide +kernel)
section
variable {p : Program} {l : Launch} {e : Env} {R : Room} {s : State} {m : MethodId} {args : Array Value} {below : List Frame} {meth : Method} {c : Code} {H : Heap} {locs : List Loc} {cells slots : Nat} {Q : State → Prop} {cc : ByteArray} {nL pc : Nat} {ls : Array Slot} {rest : List Value} {own : String} {D : va_G} {A : Nat → Prop} {tys : List (ClassId × FieldType)} {ad ks : List Nat} {P : sgPm} {H0 : Heap} {index : Nat} {base : Nat} {st0 : List Value} {a : Nat}
theorem gf_X0_3   (X : CallFix p m c cc nL s args sg_tbl own) (hK : va_K D vwCl tys s) (hG : sgG (KT P) D vwCl A tys ad ks H) (ha : isK ad ks 0 a) (hl : Cond.fieldLink own index "LawnAhead$Ahead" "bestCode" "I" ∈ sg_tbl) (hdg : decode cc pc = .ok (.getfield index, 3)) (kk : ∀ x : Int32, iv (-2147483648) 2147483647 x → fld D H 0 a 3 (.int x) → W p l e R s m args below meth c H locs cells slots Q (F0 m (pc + 3) ls (.int x :: rest))) : W p l e R s m args below meth c H locs cells slots Q (F0 m pc ls (.ref a :: rest)) :=
  sg_get X hK hG ha (k := 0) (ci := 0) rfl (C := RX0) (T := TX0) (N := 5) rfl inL_X0 3 (by decide) rfl hl (fun _ h => h) hdg (fun v hv hf => by obtain ⟨x, rfl, hx⟩ := hv; exact kk x hx hf)
theorem gf_X11_10   (X : CallFix p m c cc nL s args sg_tbl own) (hK : va_K D vwCl tys s) (hG : sgG (KT P) D vwCl A tys ad ks H) (ha : isK ad ks 11 a) (hl : Cond.fieldLink own index "LawnAhead" "ground" "LLawnAhead$Ground;" ∈ sg_tbl) (hdg : decode cc pc = .ok (.getfield index, 3)) (kk : ∀ x : Nat, isK ad ks 4 x → fld D H 11 a 10 (.ref x) → W p l e R s m args below meth c H locs cells slots Q (F0 m (pc + 3) ls (.ref x :: rest))) : W p l e R s m args below meth c H locs cells slots Q (F0 m pc ls (.ref a :: rest)) :=
  sg_get X hK hG ha (k := 11) (ci := 11) rfl (C := RX11) (T := TX11) (N := 17) rfl inL_X11 10 (by decide) rfl hl (fun _ h => h) hdg (fun v hv hf => by
    obtain ⟨h1, -⟩ | ⟨x, rfl, hx⟩ := hv
    · cases h1
    · exact kk x hx hf)
theorem gf_X11_13   (X : CallFix p m c cc nL s args sg_tbl own) (hK : va_K D vwCl tys s) (hG : sgG (KT P) D vwCl A tys ad ks H) (ha : isK ad ks 11 a) (hl : Cond.fieldLink own index "LawnAhead" "gameCount" "I" ∈ sg_tbl) (hdg : decode cc pc = .ok (.getfield index, 3)) (kk : ∀ x : Int32, iv 0 4 x → iv (P.2.2.2.2.2.2.2.1.val : Int) (P.2.2.2.2.2.2.2.1.val : Int) x → fld D H 11 a 13 (.int x) → W p l e R s m args below meth c H locs cells slots Q (F0 m (pc + 3) ls (.int x :: rest))) : W p l e R s m args below meth c H locs cells slots Q (F0 m pc ls (.ref a :: rest)) :=
  sg_get X hK hG ha (k := 11) (ci := 11) rfl (C := RX11) (T := TX11) (N := 17) rfl inL_X11 13 (by decide) rfl hl (fun _ h => h) hdg (fun v hv hf => by obtain ⟨x, rfl, hx⟩ := hv; exact kk x (sg_pin4 hx) hx hf)
theorem gf_X11_3   (X : CallFix p m c cc nL s args sg_tbl own) (hK : va_K D vwCl tys s) (hG : sgG (KT P) D vwCl A tys ad ks H) (ha : isK ad ks 11 a) (hl : Cond.fieldLink own index "LawnAhead" "now" "LLawnAhead$State;" ∈ sg_tbl) (hdg : decode cc pc = .ok (.getfield index, 3)) (kk : ∀ x : Nat, isK ad ks 9 x → fld D H 11 a 3 (.ref x) → W p l e R s m args below meth c H locs cells slots Q (F0 m (pc + 3) ls (.ref x :: rest))) : W p l e R s m args below meth c H locs cells slots Q (F0 m pc ls (.ref a :: rest)) :=
  sg_get X hK hG ha (k := 11) (ci := 11) rfl (C := RX11) (T := TX11) (N := 17) rfl inL_X11 3 (by decide) rfl hl (fun _ h => h) hdg (fun v hv hf => by
    obtain ⟨h1, -⟩ | ⟨x, rfl, hx⟩ := hv
    · cases h1
    · exact kk x hx hf)
theorem gf_X2_0   (X : CallFix p m c cc nL s args sg_tbl own) (hK : va_K D vwCl tys s) (hG : sgG (KT P) D vwCl A tys ad ks H) (ha : isK ad ks 2 a) (hl : Cond.fieldLink own index "LawnAhead$Ends" "sight" "LLawnAhead$Sight;" ∈ sg_tbl) (hdg : decode cc pc = .ok (.getfield index, 3)) (kk : ∀ x : Nat, isK ad ks 8 x → fld D H 2 a 0 (.ref x) → W p l e R s m args below meth c H locs cells slots Q (F0 m (pc + 3) ls (.ref x :: rest))) : W p l e R s m args below meth c H locs cells slots Q (F0 m pc ls (.ref a :: rest)) :=
  sg_get X hK hG ha (k := 2) (ci := 2) rfl (C := RX2) (T := TX2) (N := 10) rfl inL_X2 0 (by decide) rfl hl (fun _ h => h) hdg (fun v hv hf => by
    obtain ⟨h1, -⟩ | ⟨x, rfl, hx⟩ := hv
    · cases h1
    · exact kk x hx hf)
theorem gf_X2_1   (X : CallFix p m c cc nL s args sg_tbl own) (hK : va_K D vwCl tys s) (hG : sgG (KT P) D vwCl A tys ad ks H) (ha : isK ad ks 2 a) (hl : Cond.fieldLink own index "LawnAhead$Ends" "parts" "[I" ∈ sg_tbl) (hdg : decode cc pc = .ok (.getfield index, 3)) (kk : ∀ x : Nat, isK ad ks 15 x → fld D H 2 a 1 (.ref x) → W p l e R s m args below meth c H locs cells slots Q (F0 m (pc + 3) ls (.ref x :: rest))) : W p l e R s m args below meth c H locs cells slots Q (F0 m pc ls (.ref a :: rest)) :=
  sg_get X hK hG ha (k := 2) (ci := 2) rfl (C := RX2) (T := TX2) (N := 10) rfl inL_X2 1 (by decide) rfl hl (fun _ h => h) hdg (fun v hv hf => by
    obtain ⟨h1, -⟩ | ⟨x, rfl, hx⟩ := hv
    · cases h1
    · exact kk x hx hf)
theorem gf_X2_6   (X : CallFix p m c cc nL s args sg_tbl own) (hK : va_K D vwCl tys s) (hG : sgG (KT P) D vwCl A tys ad ks H) (ha : isK ad ks 2 a) (hl : Cond.fieldLink own index "LawnAhead$Ends" "partCount" "I" ∈ sg_tbl) (hdg : decode cc pc = .ok (.getfield index, 3)) (kk : ∀ x : Int32, iv 0 30 x → fld D H 2 a 6 (.int x) → W p l e R s m args below meth c H locs cells slots Q (F0 m (pc + 3) ls (.int x :: rest))) : W p l e R s m args below meth c H locs cells slots Q (F0 m pc ls (.ref a :: rest)) :=
  sg_get X hK hG ha (k := 2) (ci := 2) rfl (C := RX2) (T := TX2) (N := 10) rfl inL_X2 6 (by decide) rfl hl (fun _ h => h) hdg (fun v hv hf => by obtain ⟨x, rfl, hx⟩ := hv; exact kk x hx hf)
theorem gf_X2_7   (X : CallFix p m c cc nL s args sg_tbl own) (hK : va_K D vwCl tys s) (hG : sgG (KT P) D vwCl A tys ad ks H) (ha : isK ad ks 2 a) (hl : Cond.fieldLink own index "LawnAhead$Ends" "foundIn" "I" ∈ sg_tbl) (hdg : decode cc pc = .ok (.getfield index, 3)) (kk : ∀ x : Int32, iv (-2147483648) 2147483647 x → fld D H 2 a 7 (.int x) → W p l e R s m args below meth c H locs cells slots Q (F0 m (pc + 3) ls (.int x :: rest))) : W p l e R s m args below meth c H locs cells slots Q (F0 m pc ls (.ref a :: rest)) :=
  sg_get X hK hG ha (k := 2) (ci := 2) rfl (C := RX2) (T := TX2) (N := 10) rfl inL_X2 7 (by decide) rfl hl (fun _ h => h) hdg (fun v hv hf => by obtain ⟨x, rfl, hx⟩ := hv; exact kk x hx hf)
theorem gf_X2_8   (X : CallFix p m c cc nL s args sg_tbl own) (hK : va_K D vwCl tys s) (hG : sgG (KT P) D vwCl A tys ad ks H) (ha : isK ad ks 2 a) (hl : Cond.fieldLink own index "LawnAhead$Ends" "found" "Z" ∈ sg_tbl) (hdg : decode cc pc = .ok (.getfield index, 3)) (kk : ∀ x : Int32, iv 0 1 x → fld D H 2 a 8 (.int x) → W p l e R s m args below meth c H locs cells slots Q (F0 m (pc + 3) ls (.int x :: rest))) : W p l e R s m args below meth c H locs cells slots Q (F0 m pc ls (.ref a :: rest)) :=
  sg_get X hK hG ha (k := 2) (ci := 2) rfl (C := RX2) (T := TX2) (N := 10) rfl inL_X2 8 (by decide) rfl hl (fun _ h => h) hdg (fun v hv hf => by obtain ⟨x, rfl, hx⟩ := hv; exact kk x hx hf)
theorem gg_X11_3   (X : CallFix p m c cc nL s args sg_tbl own) (hK : va_K D vwCl tys s) (hG : sgG (KT P) D vwCl A tys ad ks H) (ha : isK ad ks 11 a) (hl : Cond.fieldLink own index "LawnAhead" "now" "LLawnAhead$State;" ∈ sg_tbl) {v : Value} (hf : fld D H 11 a 3 v) (hdg : decode cc pc = .ok (.getfield index, 3)) (kk : W p l e R s m args below meth c H locs cells slots Q (F0 m (pc + 3) ls (v :: rest))) : W p l e R s m args below meth c H locs cells slots Q (F0 m pc ls (.ref a :: rest)) :=
  sg_getf X hK hG ha (k := 11) (ci := 11) rfl (C := RX11) (T := TX11) (N := 17) rfl inL_X11 3 (by decide) (show 3 < 17 by decide) hl (fun _ h => h) hf hdg kk
theorem gg_X2_1   (X : CallFix p m c cc nL s args sg_tbl own) (hK : va_K D vwCl tys s) (hG : sgG (KT P) D vwCl A tys ad ks H) (ha : isK ad ks 2 a) (hl : Cond.fieldLink own index "LawnAhead$Ends" "parts" "[I" ∈ sg_tbl) {v : Value} (hf : fld D H 2 a 1 v) (hdg : decode cc pc = .ok (.getfield index, 3)) (kk : W p l e R s m args below meth c H locs cells slots Q (F0 m (pc + 3) ls (v :: rest))) : W p l e R s m args below meth c H locs cells slots Q (F0 m pc ls (.ref a :: rest)) :=
  sg_getf X hK hG ha (k := 2) (ci := 2) rfl (C := RX2) (T := TX2) (N := 10) rfl inL_X2 1 (by decide) (show 1 < 10 by decide) hl (fun _ h => h) hf hdg kk
theorem gg_X9_1   (X : CallFix p m c cc nL s args sg_tbl own) (hK : va_K D vwCl tys s) (hG : sgG (KT P) D vwCl A tys ad ks H) (ha : isK ad ks 9 a) (hl : Cond.fieldLink own index "LawnAhead$State" "earth" "I" ∈ sg_tbl) {v : Value} (hf : fld D H 9 a 1 v) (hdg : decode cc pc = .ok (.getfield index, 3)) (kk : W p l e R s m args below meth c H locs cells slots Q (F0 m (pc + 3) ls (v :: rest))) : W p l e R s m args below meth c H locs cells slots Q (F0 m pc ls (.ref a :: rest)) :=
  sg_getf X hK hG ha (k := 9) (ci := 9) rfl (C := RX9) (T := TX9) (N := 8) rfl inL_X9 1 (by decide) (show 1 < 8 by decide) hl (fun _ h => h) hf hdg kk
theorem pf_X2_6  {x : Int32}  (X : CallFix p m c cc nL s args sg_tbl own) (hK : va_K D vwCl tys s) (hG : sgG (KT P) D vwCl A tys ad ks H) (hS : va_S A H0 H locs) (ha : isK ad ks 2 a) (hl : Cond.fieldLink own index "LawnAhead$Ends" "partCount" "I" ∈ sg_tbl) (hv : okV ad ks (.inl (0, 30)) (.int x)) (hdg : decode cc pc = .ok (.putfield index, 3)) (kk : ∀ (H1 : Heap) (locs1 : List Loc), sgG (KT P) D vwCl A tys ad ks H1 → va_S A H0 H1 locs1 → fld D H1 2 a 6 (.int x) → sgFr (KT P) D vwCl ad ks H H1 (fun a' j' => a' = a ∧ j' = 6) → W p l e R s m args below meth c H1 locs1 cells slots Q (F0 m (pc + 3) ls rest)) : W p l e R s m args below meth c H locs cells slots Q (F0 m pc ls (.int x :: .ref a :: rest)) :=
  sg_put X hK hG hS ha (k := 2) (ci := 2) rfl (C := RX2) (T := TX2) (N := 10) rfl inL_X2 tyX2 tyX2_ok nmX2 6 (by decide) rfl hl (fun _ h => h) rfl (ty := .int) rfl rfl rfl hv hdg kk
theorem pf_X2_7  {x : Int32}  (X : CallFix p m c cc nL s args sg_tbl own) (hK : va_K D vwCl tys s) (hG : sgG (KT P) D vwCl A tys ad ks H) (hS : va_S A H0 H locs) (ha : isK ad ks 2 a) (hl : Cond.fieldLink own index "LawnAhead$Ends" "foundIn" "I" ∈ sg_tbl) (hv : okV ad ks (.inl ((-2147483648), 2147483647)) (.int x)) (hdg : decode cc pc = .ok (.putfield index, 3)) (kk : ∀ (H1 : Heap) (locs1 : List Loc), sgG (KT P) D vwCl A tys ad ks H1 → va_S A H0 H1 locs1 → fld D H1 2 a 7 (.int x) → sgFr (KT P) D vwCl ad ks H H1 (fun a' j' => a' = a ∧ j' = 7) → W p l e R s m args below meth c H1 locs1 cells slots Q (F0 m (pc + 3) ls rest)) : W p l e R s m args below meth c H locs cells slots Q (F0 m pc ls (.int x :: .ref a :: rest)) :=
  sg_put X hK hG hS ha (k := 2) (ci := 2) rfl (C := RX2) (T := TX2) (N := 10) rfl inL_X2 tyX2 tyX2_ok nmX2 7 (by decide) rfl hl (fun _ h => h) rfl (ty := .int) rfl rfl rfl hv hdg kk
theorem pf_X2_8  {x : Int32}  (X : CallFix p m c cc nL s args sg_tbl own) (hK : va_K D vwCl tys s) (hG : sgG (KT P) D vwCl A tys ad ks H) (hS : va_S A H0 H locs) (ha : isK ad ks 2 a) (hl : Cond.fieldLink own index "LawnAhead$Ends" "found" "Z" ∈ sg_tbl) (hv : okV ad ks (.inl (0, 1)) (.int x)) (hdg : decode cc pc = .ok (.putfield index, 3)) (kk : ∀ (H1 : Heap) (locs1 : List Loc), sgG (KT P) D vwCl A tys ad ks H1 → va_S A H0 H1 locs1 → fld D H1 2 a 8 (.int x) → sgFr (KT P) D vwCl ad ks H H1 (fun a' j' => a' = a ∧ j' = 8) → W p l e R s m args below meth c H1 locs1 cells slots Q (F0 m (pc + 3) ls rest)) : W p l e R s m args below meth c H locs cells slots Q (F0 m pc ls (.int x :: .ref a :: rest)) :=
  sg_put X hK hG hS ha (k := 2) (ci := 2) rfl (C := RX2) (T := TX2) (N := 10) rfl inL_X2 tyX2 tyX2_ok nmX2 8 (by decide) rfl hl (fun _ h => h) rfl (ty := .boolean) rfl (by obtain ⟨y, h1, h2⟩ := hv; cases h1; exact sg_zn h2) (by obtain ⟨y, h1, h2⟩ := hv; cases h1; rcases iv_01 h2 with rfl | rfl <;> rfl) hv hdg kk
theorem pf_X2_9  {x : Int32}  (X : CallFix p m c cc nL s args sg_tbl own) (hK : va_K D vwCl tys s) (hG : sgG (KT P) D vwCl A tys ad ks H) (hS : va_S A H0 H locs) (ha : isK ad ks 2 a) (hl : Cond.fieldLink own index "LawnAhead$Ends" "summed" "Z" ∈ sg_tbl) (hv : okV ad ks (.inl (0, 1)) (.int x)) (hdg : decode cc pc = .ok (.putfield index, 3)) (kk : ∀ (H1 : Heap) (locs1 : List Loc), sgG (KT P) D vwCl A tys ad ks H1 → va_S A H0 H1 locs1 → fld D H1 2 a 9 (.int x) → sgFr (KT P) D vwCl ad ks H H1 (fun a' j' => a' = a ∧ j' = 9) → W p l e R s m args below meth c H1 locs1 cells slots Q (F0 m (pc + 3) ls rest)) : W p l e R s m args below meth c H locs cells slots Q (F0 m pc ls (.int x :: .ref a :: rest)) :=
  sg_put X hK hG hS ha (k := 2) (ci := 2) rfl (C := RX2) (T := TX2) (N := 10) rfl inL_X2 tyX2 tyX2_ok nmX2 9 (by decide) rfl hl (fun _ h => h) rfl (ty := .boolean) rfl (by obtain ⟨y, h1, h2⟩ := hv; cases h1; exact sg_zn h2) (by obtain ⟨y, h1, h2⟩ := hv; cases h1; rcases iv_01 h2 with rfl | rfl <;> rfl) hv hdg kk
theorem al_15  {i : Int32}  (X : CallFix p m c cc nL s args sg_tbl own) (hK : va_K D vwCl tys s) (hG : sgG (KT P) D vwCl A tys ad ks H) (ha : isK ad ks 15 a) (hin : vp_in i 30) (hdg : decode cc pc = .ok (.iaload, 1)) (kk : ∀ x : Int32, iv 0 1073741823 x → W p l e R s m args below meth c H locs cells slots Q (F0 m (pc + 1) ls (.int x :: rest))) : W p l e R s m args below meth c H locs cells slots Q (F0 m pc ls (.int i :: .ref a :: rest)) :=
  sg_iald X hK hG ha (k := 15) rfl hin hdg (fun x hx => by obtain ⟨y, h1, h2⟩ := hx; cases h1; exact kk _ h2)
theorem as_15  {i : Int32} {x : Int32}  (X : CallFix p m c cc nL s args sg_tbl own) (hK : va_K D vwCl tys s) (hG : sgG (KT P) D vwCl A tys ad ks H) (hS : va_S A H0 H locs) (ha : isK ad ks 15 a) (hin : vp_in i 30) (hv : okV ad ks (.inl (0, 1073741823)) (.int x)) (hdg : decode cc pc = .ok (.iastore, 1)) (kk : ∀ (H1 : Heap) (locs1 : List Loc), sgG (KT P) D vwCl A tys ad ks H1 → va_S A H0 H1 locs1 → sgFr (KT P) D vwCl ad ks H H1 (fun _ _ => False) → W p l e R s m args below meth c H1 locs1 cells slots Q (F0 m (pc + 1) ls rest)) : W p l e R s m args below meth c H locs cells slots Q (F0 m pc ls (.int x :: .int i :: .ref a :: rest)) :=
  sg_iast X hK hG hS ha (k := 15) rfl hin hv hdg kk
set_option maxHeartbeats 8000000 in
set_option maxRecDepth 100000 in
theorem m_X0_placeMole (l : Launch) {D : va_G} {base : Nat} {tys : List (ClassId × FieldType)} {ad ks : List Nat} {P : sgPm} (a0 : Nat) (h0 : isK ad ks 0 a0) (a1 : Nat) (h1 : isK ad ks 9 a1) : sgMi l (KT P) D vwCl base tys ad ks yX0_placeMole cX0_placeMole 6 (some .boolean) ({ frames := 5, cells := 0, slots := 0, locals := 130 }) [.ref a0, .ref a1] (fun r : Int32 => iv 0 1 r) := by
  refine sg_ofW (by decide +kernel) (Nat.le_of_ble_eq_true rfl) (fun p e s m below meth c X hr hlk hb hK hC hG ls hl => ?_)
  have hS : va_S (fun q : Nat => base ≤ q) s.heap s.heap [] := va_S.rf
  have hl : lv_has ls 6 [(0, .ref a0), (1, .ref a1)] := hl
  refine lv_aload_n X.1 X.2.1 dX0_placeMole_0 rfl (lv_at hl 0 rfl) ?_
  refine lv_iconst (v := (-1)) X.1 X.2.1 dX0_placeMole_1 (by decide +kernel) ?_
  refine pf_X0_3 X hK hG hS h0 wl_2_123 ⟨_, rfl, (iv_top _)⟩ dX0_placeMole_2 (fun H locs hG hS ku1 ru1 => ?_)
  refine lv_iconst (v := 0) X.1 X.2.1 dX0_placeMole_5 (by decide +kernel) ?_
  refine lv_istore_n (lv' := [(2, .int 0), (0, .ref a0), (1, .ref a1)]) X.1 X.2.1 dX0_placeMole_6 rfl hl (by decide) rfl (fun ls hl => ?_)
  have B2_7 : ∀ (N : Nat) (H : Heap) (locs : List Loc) (ls : Array Slot) (z2_2 : Int32), sgG (KT P) D vwCl (fun q : Nat => base ≤ q) tys ad ks H → va_S (fun q : Nat => base ≤ q) s.heap H locs → lv_has ls 6 [(0, .ref a0), (1, .ref a1), (2, .int z2_2)] → iv 0 30 z2_2 → (31 - z2_2.toInt).toNat ≤ N → W p l e (headSpec (Cond.code yX0_placeMole cX0_placeMole 6 (some .boolean) :: sg_tbl) ({ frames := 5, cells := 0, slots := 0, locals := 130 })).room s m #[.ref a0, .ref a1] below meth c H locs 0 0 (MQ below (va_Qi (fun r (_ : Unit) => (fun r : Int32 => iv 0 1 r) r) (fun _ => sgB (KT P) D vwCl base tys ad ks) (fun q : Nat => base ≤ q)) #[.ref a0, .ref a1] s 0 0 (fun q : Nat => base ≤ q)) (F0 m 7 ls []) := by
    intro N; induction N with
    | zero =>
      intro H locs ls z2_2 hG hS hl hz2_2 hN
      exact absurd hN (by have := iv_up hz2_2; omega)
    | succ N ih2 =>
      intro H locs ls z2_2 hG hS hl hz2_2 hN2
      refine lv_iload_n X.1 X.2.1 dX0_placeMole_7 rfl (lv_at hl 2 rfl) ?_
      refine lv_aload_n X.1 X.2.1 dX0_placeMole_8 rfl (lv_at hl 0 rfl) ?_
      refine gf_X0_0 X hK hG h0 wl_2_120 dX0_placeMole_9 (fun q3 hq3 kq3 => ?_)
      refine gf_X8_0 X hK hG hq3 wl_2_38 dX0_placeMole_12 (fun q4 hq4 kq4 => ?_)
      refine gf_X4_5 X hK hG hq4 wl_1_219 dX0_placeMole_15 (fun f5 hf5 kf5 => ?_)
      refine lv_icmp_ge (tgt := 113) X.1 X.2.1 dX0_placeMole_18 (by decide) (fun c6 => ?_) (fun c6 => ?_)
      · refine lv_aload_n X.1 X.2.1 dX0_placeMole_113 rfl (lv_at hl 0 rfl) ?_
        refine gf_X0_3 X hK hG h0 wl_2_123 dX0_placeMole_114 (fun f7 hf7 kf7 => ?_)
        refine lv_iconst (v := (-1)) X.1 X.2.1 dX0_placeMole_117 (by decide +kernel) ?_
        refine lv_icmp_eq (tgt := 125) X.1 X.2.1 dX0_placeMole_118 (by decide) (fun c8 => ?_) (fun c8 => ?_)
        · refine lv_iconst (v := 0) X.1 X.2.1 dX0_placeMole_125 (by decide +kernel) ?_
          exact sg_zret X hr (sg_zn (iv_of (iv_c 0 (a := 0) (b := 0) (by decide +kernel)) (a' := 0) (b' := 1) (by decide +kernel))) hlk hb hK hC hG hS (iv_of (iv_c 0 (a := 0) (b := 0) (by decide +kernel)) (a' := 0) (b' := 1) (by decide +kernel)) dX0_placeMole_126
        · refine lv_iconst (v := 1) X.1 X.2.1 dX0_placeMole_121 (by decide +kernel) ?_
          refine lv_goto (tgt := 126) X.1 X.2.1 dX0_placeMole_122 (by decide) ?_
          exact sg_zret X hr (sg_zn (iv_of (iv_c 1 (a := 1) (b := 1) (by decide +kernel)) (a' := 0) (b' := 1) (by decide +kernel))) hlk hb hK hC hG hS (iv_of (iv_c 1 (a := 1) (b := 1) (by decide +kernel)) (a' := 0) (b' := 1) (by decide +kernel)) dX0_placeMole_126
      · refine lv_iconst (v := 1) X.1 X.2.1 dX0_placeMole_21 (by decide +kernel) ?_
        refine lv_iload_n X.1 X.2.1 dX0_placeMole_22 rfl (lv_at hl 2 rfl) ?_
        refine lv_ishl X.1 X.2.1 dX0_placeMole_23 ?_
        refine lv_topi (fun f9 ef9 => ?_)
        refine lv_istore_n (lv' := [(3, .int f9), (0, .ref a0), (1, .ref a1), (2, .int z2_2)]) X.1 X.2.1 dX0_placeMole_24 rfl hl (by decide) rfl (fun ls hl => ?_)
        refine lv_aload_n X.1 X.2.1 dX0_placeMole_25 rfl (lv_at hl 1 rfl) ?_
        refine gg_X0_0 X hK hG h0 wl_2_120 kq3 dX0_placeMole_26 ?_
        refine gg_X8_0 X hK hG hq3 wl_2_38 kq4 dX0_placeMole_29 ?_
        refine gf_X4_10 X hK hG hq4 wl_1_232 dX0_placeMole_32 (fun f10 hf10 kf10 => ?_)
        refine lv_aload_n X.1 X.2.1 dX0_placeMole_35 rfl (lv_at hl 2 rfl) ?_
        refine gf_X9_1 X hK hG h1 wl_1_120 dX0_placeMole_36 (fun f11 hf11 kf11 => ?_)
        refine lv_ior X.1 X.2.1 dX0_placeMole_39 ?_
        refine lv_topi (fun f12 ef12 => ?_)
        refine lv_iload_n X.1 X.2.1 dX0_placeMole_40 rfl (lv_at hl 0 rfl) ?_
        refine lv_iand X.1 X.2.1 dX0_placeMole_41 ?_
        refine lv_topi (fun f13 ef13 => ?_)
        have B15_107 : ∀ (H : Heap) (locs : List Loc) (ls : Array Slot), sgG (KT P) D vwCl (fun q : Nat => base ≤ q) tys ad ks H → va_S (fun q : Nat => base ≤ q) s.heap H locs → lv_has ls 6 [(0, .ref a0), (1, .ref a1), (2, .int z2_2)] → W p l e (headSpec (Cond.code yX0_placeMole cX0_placeMole 6 (some .boolean) :: sg_tbl) ({ frames := 5, cells := 0, slots := 0, locals := 130 })).room s m #[.ref a0, .ref a1] below meth c H locs 0 0 (MQ below (va_Qi (fun r (_ : Unit) => (fun r : Int32 => iv 0 1 r) r) (fun _ => sgB (KT P) D vwCl base tys ad ks) (fun q : Nat => base ≤ q)) #[.ref a0, .ref a1] s 0 0 (fun q : Nat => base ≤ q)) (F0 m 107 ls []) := by
          intro H locs ls hG hS hl
          obtain ⟨y16, ey16⟩ : ∃ y : Int32, y = z2_2 + Int32.ofInt 1 := ⟨_, rfl⟩
          refine lv_iinc (v := y16) (lv' := [(2, .int y16), (0, .ref a0), (1, .ref a1)]) X.1 X.2.1 dX0_placeMole_107 hl (k := 2) rfl ey16.symm (by decide) rfl (fun ls hl => ?_)
          refine lv_goto (tgt := 7) X.1 X.2.1 dX0_placeMole_110 (by decide) ?_
          exact ih2 H _ _ y16 hG hS (lv_sub hl [1, 2, 0] rfl) (iv_of (iv_add (a' := 1) (b' := 30) ey16 (iv_lt (b' := 29) (iv_gt_of c6) hz2_2 hf5 (by decide +kernel)) (iv_c _ (a := 1) (b := 1) (by decide +kernel)) (by decide +kernel)) (a' := 0) (b' := 30) (by decide +kernel)) (iv_stepU ey16 (iv_lt (b' := 29) (iv_gt_of c6) hz2_2 hf5 (by decide +kernel)) (by decide +kernel) hN2)
        refine lv_if_ne (tgt := 107) X.1 X.2.1 dX0_placeMole_42 (by decide) (fun c14 => ?_) (fun c14 => ?_)
        · exact B15_107 H _ _ hG hS (lv_sub hl [1, 2, 3] rfl)
        · refine lv_aload_n X.1 X.2.1 dX0_placeMole_45 rfl (lv_at hl 1 rfl) ?_
          refine gg_X0_0 X hK hG h0 wl_2_120 kq3 dX0_placeMole_46 ?_
          refine lv_aload_n X.1 X.2.1 dX0_placeMole_49 rfl (lv_at hl 2 rfl) ?_
          refine gf_X9_0 X hK hG h1 wl_1_116 dX0_placeMole_50 (fun f17 hf17 kf17 => ?_)
          refine lv_iload_n X.1 X.2.1 dX0_placeMole_53 rfl (lv_at hl 0 rfl) ?_
          refine lv_iconst (v := (-1)) X.1 X.2.1 dX0_placeMole_54 (by decide +kernel) ?_
          refine lv_ixor X.1 X.2.1 dX0_placeMole_55 ?_
          refine lv_topi (fun f18 ef18 => ?_)
          refine lv_iand X.1 X.2.1 dX0_placeMole_56 ?_
          refine lv_topi (fun f19 ef19 => ?_)
          refine lv_aload_n X.1 X.2.1 dX0_placeMole_57 rfl (lv_at hl 2 rfl) ?_
          refine gg_X9_1 X hK hG h1 wl_1_120 kf11 dX0_placeMole_58 ?_
          refine lv_iload_n X.1 X.2.1 dX0_placeMole_61 rfl (lv_at hl 0 rfl) ?_
          refine lv_ior X.1 X.2.1 dX0_placeMole_62 ?_
          refine lv_topi (fun f20 ef20 => ?_)
          refine lv_aload_n X.1 X.2.1 dX0_placeMole_63 rfl (lv_at hl 2 rfl) ?_
          refine gf_X9_3 X hK hG h1 wl_1_128 dX0_placeMole_64 (fun f21 hf21 kf21 => ?_)
          refine ca_X8_threatBits X hK hG hC hS hb q3 hq3 f19 f20 f21 wl_4_228 hl.1 (rest := []) rfl (Nat.le_of_ble_eq_true rfl) ⟨Nat.le_of_ble_eq_true rfl, Nat.le_of_ble_eq_true rfl⟩ ⟨Nat.le_of_ble_eq_true rfl, Nat.le_of_ble_eq_true rfl⟩ dX0_placeMole_67 (fun f22 H locs hf22 hG hS => ?_)
          refine lv_istore (lv' := [(4, .int f22), (3, .int f9), (0, .ref a0), (1, .ref a1), (2, .int z2_2)]) X.1 X.2.1 dX0_placeMole_70 hl (by decide) rfl (fun ls hl => ?_)
          refine lv_iload X.1 X.2.1 dX0_placeMole_72 (lv_at hl 0 rfl) ?_
          refine ca_J6_bitCount_0f7a4 X hK hG hC (fun _ h => h) hS hb f22 wl_4_232 hl.1 (rest := []) rfl (Nat.le_of_ble_eq_true rfl) ⟨Nat.le_of_ble_eq_true rfl, Nat.le_of_ble_eq_true rfl⟩ ⟨Nat.le_of_ble_eq_true rfl, Nat.le_of_ble_eq_true rfl⟩ dX0_placeMole_74 (fun f23 locs hf23 hS => ?_)
          refine lv_istore (lv' := [(5, .int f23), (4, .int f22), (3, .int f9), (0, .ref a0), (1, .ref a1), (2, .int z2_2)]) X.1 X.2.1 dX0_placeMole_77 hl (by decide) rfl (fun ls hl => ?_)
          refine lv_aload_n X.1 X.2.1 dX0_placeMole_79 rfl (lv_at hl 3 rfl) ?_
          refine gf_X0_3 X hK hG h0 wl_2_123 dX0_placeMole_80 (fun f24 hf24 kf24 => ?_)
          refine lv_iconst (v := (-1)) X.1 X.2.1 dX0_placeMole_83 (by decide +kernel) ?_
          have B26_96 : ∀ (locs : List Loc) (ls : Array Slot), va_S (fun q : Nat => base ≤ q) s.heap H locs → lv_has ls 6 [(0, .ref a0), (1, .ref a1), (2, .int z2_2), (5, .int f23)] → W p l e (headSpec (Cond.code yX0_placeMole cX0_placeMole 6 (some .boolean) :: sg_tbl) ({ frames := 5, cells := 0, slots := 0, locals := 130 })).room s m #[.ref a0, .ref a1] below meth c H locs 0 0 (MQ below (va_Qi (fun r (_ : Unit) => (fun r : Int32 => iv 0 1 r) r) (fun _ => sgB (KT P) D vwCl base tys ad ks) (fun q : Nat => base ≤ q)) #[.ref a0, .ref a1] s 0 0 (fun q : Nat => base ≤ q)) (F0 m 96 ls []) := by
            intro locs ls hS hl
            refine lv_aload_n X.1 X.2.1 dX0_placeMole_96 rfl (lv_at hl 0 rfl) ?_
            refine lv_iload_n X.1 X.2.1 dX0_placeMole_97 rfl (lv_at hl 2 rfl) ?_
            refine pf_X0_3 X hK hG hS h0 wl_2_123 ⟨_, rfl, (iv_top _)⟩ dX0_placeMole_98 (fun H locs hG hS ku27 ru27 => ?_)
            refine lv_aload_n X.1 X.2.1 dX0_placeMole_101 rfl (lv_at hl 0 rfl) ?_
            refine lv_iload X.1 X.2.1 dX0_placeMole_102 (lv_at hl 3 rfl) ?_
            refine pf_X0_4 X hK hG hS h0 wl_2_125 ⟨_, rfl, (iv_top _)⟩ dX0_placeMole_104 (fun H locs hG hS ku28 ru28 => ?_)
            exact B15_107 H _ _ hG hS (lv_sub hl [0, 1, 2] rfl)
          refine lv_icmp_eq (tgt := 96) X.1 X.2.1 dX0_placeMole_84 (by decide) (fun c25 => ?_) (fun c25 => ?_)
          · exact B26_96 _ _ hS (lv_sub hl [3, 4, 5, 0] rfl)
          · refine lv_iload X.1 X.2.1 dX0_placeMole_87 (lv_at hl 0 rfl) ?_
            refine lv_aload_n X.1 X.2.1 dX0_placeMole_89 rfl (lv_at hl 3 rfl) ?_
            refine gf_X0_4 X hK hG h0 wl_2_125 dX0_placeMole_90 (fun f29 hf29 kf29 => ?_)
            refine lv_icmp_ge (tgt := 107) X.1 X.2.1 dX0_placeMole_93 (by decide) (fun c30 => ?_) (fun c30 => ?_)
            · exact B15_107 H _ _ hG hS (lv_sub hl [3, 4, 5] rfl)
            · exact B26_96 _ _ hS (lv_sub hl [3, 4, 5, 0] rfl)
  exact B2_7 _ H _ _ 0 hG hS (lv_sub hl [1, 2, 0] rfl) (iv_of (iv_c 0 (a := 0) (b := 0) (by decide +kernel)) (a' := 0) (b' := 30) (by decide +kernel)) (Nat.le_refl _)

theorem ca_X0_placeMole   (X : CallFix p m c cc nL s args sg_tbl own) (hK : va_K D vwCl tys s) (hG : sgG (KT P) D vwCl (fun q : Nat => base ≤ q) tys ad ks H) (hC : sgC base s) (hS : va_S (fun q : Nat => base ≤ q) s.heap H locs) (hb : base ≤ s.heap.size) (a0 : Nat) (h0 : isK ad ks 0 a0) (a1 : Nat) (h1 : isK ad ks 9 a1) (hl : Cond.methodLink own index yX0_placeMole ∈ sg_tbl) (hsize : ls.size = nL) (hst : st0 = [.ref a1].reverse ++ .ref a0 :: rest) (hW : (rest.map fun v => v.category).sum ≤ 8) (hR : 6 ≤ R.frames ∧ 155 ≤ R.locals) (hf : cells ≤ R.cells ∧ slots ≤ R.slots) (hdg : decode cc pc = .ok (.invokevirtual index, 3)) (kk : ∀ (r : Int32) (H1 : Heap) (locs1 : List Loc), (fun r : Int32 => iv 0 1 r) r → sgG (KT P) D vwCl (fun q : Nat => base ≤ q) tys ad ks H1 → va_S (fun q : Nat => base ≤ q) s.heap H1 locs1 → W p l e R s m args below meth c H1 locs1 cells slots Q (F0 m (pc + 3) ls (.int r :: rest))) : W p l e R s m args below meth c H locs cells slots Q (F0 m pc ls st0) :=
  sg_callVi X hK hG hC hS hb (m_X0_placeMole l a0 h0 a1 h1) h0 (k := 0) (ci := 0) rfl (C := RX0) (T := TX0) (N := 5) rfl wl_6_65 wl_1_10 wl_6_63 wl_6_64 (n := 1) (by decide +kernel) rfl rfl rfl hl hsize hst hW hR hf hdg kk

set_option maxHeartbeats 8000000 in
set_option maxRecDepth 100000 in
theorem m_X2_forget (l : Launch) {D : va_G} {base : Nat} {tys : List (ClassId × FieldType)} {ad ks : List Nat} {P : sgPm} (a0 : Nat) (h0 : isK ad ks 2 a0) : sgMv l (KT P) D vwCl base tys ad ks yX2_forget cX2_forget 1 none ({ frames := 0, cells := 0, slots := 0, locals := 0 }) [.ref a0] := by
  refine sg_ofW (by decide +kernel) (Nat.le_of_ble_eq_true rfl) (fun p e s m below meth c X hr hlk hb hK hC hG ls hl => ?_)
  have hS : va_S (fun q : Nat => base ≤ q) s.heap s.heap [] := va_S.rf
  have hl : lv_has ls 1 [(0, .ref a0)] := hl
  refine lv_aload_n X.1 X.2.1 dX2_forget_0 rfl (lv_at hl 0 rfl) ?_
  refine lv_iconst (v := 0) X.1 X.2.1 dX2_forget_1 (by decide +kernel) ?_
  refine pf_X2_8 X hK hG hS h0 wl_2_154 ⟨_, rfl, (iv_of (iv_c 0 (a := 0) (b := 0) (by decide +kernel)) (a' := 0) (b' := 1) (by decide +kernel))⟩ dX2_forget_2 (fun H locs hG hS ku1 ru1 => ?_)
  exact sg_vret X hr hlk hb hK hC hG hS dX2_forget_5

theorem ca_X2_forget   (X : CallFix p m c cc nL s args sg_tbl own) (hK : va_K D vwCl tys s) (hG : sgG (KT P) D vwCl (fun q : Nat => base ≤ q) tys ad ks H) (hC : sgC base s) (hS : va_S (fun q : Nat => base ≤ q) s.heap H locs) (hb : base ≤ s.heap.size) (a0 : Nat) (h0 : isK ad ks 2 a0) (hl : Cond.methodLink own index yX2_forget ∈ sg_tbl) (hsize : ls.size = nL) (hst : st0 = [].reverse ++ .ref a0 :: rest) (hW : (rest.map fun v => v.category).sum ≤ 8) (hR : 1 ≤ R.frames ∧ 20 ≤ R.locals) (hf : cells ≤ R.cells ∧ slots ≤ R.slots) (hdg : decode cc pc = .ok (.invokevirtual index, 3)) (kk : ∀ (H1 : Heap) (locs1 : List Loc), sgG (KT P) D vwCl (fun q : Nat => base ≤ q) tys ad ks H1 → va_S (fun q : Nat => base ≤ q) s.heap H1 locs1 → W p l e R s m args below meth c H1 locs1 cells slots Q (F0 m (pc + 3) ls rest)) : W p l e R s m args below meth c H locs cells slots Q (F0 m pc ls st0) :=
  sg_callVv X hK hG hC hS hb (m_X2_forget l a0 h0) h0 (k := 2) (ci := 2) rfl (C := RX2) (T := TX2) (N := 10) rfl wl_4_58 wl_1_11 wl_4_56 wl_4_57 (n := 0) (by decide +kernel) rfl rfl rfl hl hsize hst hW hR hf hdg kk

set_option maxHeartbeats 8000000 in
set_option maxRecDepth 100000 in
theorem m_X2_spread (l : Launch) {D : va_G} {base : Nat} {tys : List (ClassId × FieldType)} {ad ks : List Nat} {P : sgPm} {Hx : Heap} (a0 : Nat) (h0 : isK ad ks 2 a0) (x1 : Int32) (h1 : iv 0 1073741823 x1) (x2 : Int32) (h2 : iv 0 1073741823 x2) : sgPi l (KT P) D vwCl base tys ad ks Hx yX2_spread cX2_spread 6 (some .int) ({ frames := 1, cells := 0, slots := 0, locals := 22 }) [.ref a0, .int x1, .int x2] (fun r : Int32 => iv 0 1073741823 r) := by
  refine sg_ofP (Pq := fun Hx => va_Qi (fun r (_ : Unit) => (fun r : Int32 => iv 0 1073741823 r) r) (fun _ t => t.heap = Hx) (fun _ : Nat => False)) (by decide +kernel) (Nat.le_of_ble_eq_true rfl) (fun p e s m below meth c X hr hlk hb hK hC hG ls hl => ?_)
  have hS : va_S (fun _ : Nat => False) s.heap s.heap [] := va_S.rf
  have hl : lv_has ls 6 [(0, .ref a0), (1, .int x1), (2, .int x2)] := hl
  refine lv_iload_n X.1 X.2.1 dX2_spread_0 rfl (lv_at hl 1 rfl) ?_
  refine lv_istore_n (lv' := [(3, .int x1), (0, .ref a0), (1, .int x1), (2, .int x2)]) X.1 X.2.1 dX2_spread_1 rfl hl (by decide) rfl (fun ls hl => ?_)
  refine lv_iconst (v := 0) X.1 X.2.1 dX2_spread_2 (by decide +kernel) ?_
  refine lv_istore (lv' := [(4, .int 0), (3, .int x1), (0, .ref a0), (1, .int x1), (2, .int x2)]) X.1 X.2.1 dX2_spread_3 hl (by decide) rfl (fun ls hl => ?_)
  have B1_5 : ∀ (N : Nat) (locs : List Loc) (ls : Array Slot) (z1_3 : Int32) (z1_4 : Int32), va_S (fun _ : Nat => False) s.heap s.heap locs → lv_has ls 6 [(0, .ref a0), (2, .int x2), (3, .int z1_3), (4, .int z1_4)] → iv 0 1073741823 z1_3 → iv 0 30 z1_4 → (31 - z1_4.toInt).toNat ≤ N → W p l e (headSpec (Cond.code yX2_spread cX2_spread 6 (some .int) :: sg_tbl) ({ frames := 1, cells := 0, slots := 0, locals := 22 })).room s m #[.ref a0, .int x1, .int x2] below meth c s.heap locs 0 0 (MQ below (va_Qi (fun r (_ : Unit) => (fun r : Int32 => iv 0 1073741823 r) r) (fun _ t => t.heap = s.heap) (fun _ : Nat => False)) #[.ref a0, .int x1, .int x2] s 0 0 (fun _ : Nat => False)) (F0 m 5 ls []) := by
    intro N; induction N with
    | zero =>
      intro locs ls z1_3 z1_4 hS hl hz1_3 hz1_4 hN
      exact absurd hN (by have := iv_up hz1_4; omega)
    | succ N ih1 =>
      intro locs ls z1_3 z1_4 hS hl hz1_3 hz1_4 hN1
      refine lv_iload X.1 X.2.1 dX2_spread_5 (lv_at hl 3 rfl) ?_
      refine lv_bipush (v := 30) X.1 X.2.1 dX2_spread_7 (by decide +kernel) ?_
      refine lv_icmp_ge (tgt := 46) X.1 X.2.1 dX2_spread_9 (by decide) (fun c2 => ?_) (fun c2 => ?_)
      · refine lv_iload_n X.1 X.2.1 dX2_spread_46 rfl (lv_at hl 2 rfl) ?_
        exact sg_iretP X hr hlk hS hz1_3 dX2_spread_47
      · refine lv_iload_n X.1 X.2.1 dX2_spread_12 rfl (lv_at hl 2 rfl) ?_
        refine lv_aload_n X.1 X.2.1 dX2_spread_13 rfl (lv_at hl 0 rfl) ?_
        refine gf_X2_0 X hK hG h0 wl_2_144 dX2_spread_14 (fun q3 hq3 kq3 => ?_)
        refine gf_X8_0 X hK hG hq3 wl_2_37 dX2_spread_17 (fun q4 hq4 kq4 => ?_)
        refine lv_iload_n X.1 X.2.1 dX2_spread_20 rfl (lv_at hl 2 rfl) ?_
        refine ca_X4_beside X hK hG hC (fun _ h => h.elim) hS hb q4 hq4 z1_3 wl_5_144 hl.1 (rest := [.int z1_3]) rfl (Nat.le_of_ble_eq_true rfl) ⟨Nat.le_of_ble_eq_true rfl, Nat.le_of_ble_eq_true rfl⟩ ⟨Nat.le_of_ble_eq_true rfl, Nat.le_of_ble_eq_true rfl⟩ dX2_spread_21 (fun f5 locs hf5 hS => ?_)
        refine lv_iload_n X.1 X.2.1 dX2_spread_24 rfl (lv_at hl 1 rfl) ?_
        refine lv_iand X.1 X.2.1 dX2_spread_25 ?_
        refine lv_topi (fun f6 ef6 => ?_)
        refine lv_ior X.1 X.2.1 dX2_spread_26 ?_
        refine lv_topi (fun f7 ef7 => ?_)
        refine lv_istore (lv' := [(5, .int f7), (0, .ref a0), (2, .int x2), (3, .int z1_3), (4, .int z1_4)]) X.1 X.2.1 dX2_spread_27 hl (by decide) rfl (fun ls hl => ?_)
        refine lv_iload X.1 X.2.1 dX2_spread_29 (lv_at hl 0 rfl) ?_
        refine lv_iload_n X.1 X.2.1 dX2_spread_31 rfl (lv_at hl 3 rfl) ?_
        refine lv_icmp_ne (tgt := 37) X.1 X.2.1 dX2_spread_32 (by decide) (fun c8 => ?_) (fun c8 => ?_)
        · refine lv_iload X.1 X.2.1 dX2_spread_37 (lv_at hl 0 rfl) ?_
          refine lv_istore_n (lv' := [(3, .int f7), (5, .int f7), (0, .ref a0), (2, .int x2), (4, .int z1_4)]) X.1 X.2.1 dX2_spread_39 rfl hl (by decide) rfl (fun ls hl => ?_)
          obtain ⟨y9, ey9⟩ : ∃ y : Int32, y = z1_4 + Int32.ofInt 1 := ⟨_, rfl⟩
          refine lv_iinc (v := y9) (lv' := [(4, .int y9), (3, .int f7), (5, .int f7), (0, .ref a0), (2, .int x2)]) X.1 X.2.1 dX2_spread_40 hl (k := 4) rfl ey9.symm (by decide) rfl (fun ls hl => ?_)
          refine lv_goto (tgt := 5) X.1 X.2.1 dX2_spread_43 (by decide) ?_
          exact ih1 _ _ f7 y9 hS (lv_sub hl [3, 4, 1, 0] rfl) (iv_of (iv_or 30 ef7 hz1_3 (iv_and (b' := 1073741823) ef6 h2 (by decide +kernel)) (by decide +kernel)) (a' := 0) (b' := 1073741823) (by decide +kernel)) (iv_of (iv_add (a' := 1) (b' := 30) ey9 (iv_lt (b' := 29) (iv_gt_of c2) hz1_4 (iv_c 30 (a := 30) (b := 30) (by decide +kernel)) (by decide +kernel)) (iv_c _ (a := 1) (b := 1) (by decide +kernel)) (by decide +kernel)) (a' := 0) (b' := 30) (by decide +kernel)) (iv_stepU ey9 (iv_lt (b' := 29) (iv_gt_of c2) hz1_4 (iv_c 30 (a := 30) (b := 30) (by decide +kernel)) (by decide +kernel)) (by decide +kernel) hN1)
        · refine lv_iload_n X.1 X.2.1 dX2_spread_35 rfl (lv_at hl 3 rfl) ?_
          exact sg_iretP X hr hlk hS hz1_3 dX2_spread_36
  exact B1_5 _ _ _ x1 0 hS (lv_sub hl [2, 4, 1, 0] rfl) h1 (iv_of (iv_c 0 (a := 0) (b := 0) (by decide +kernel)) (a' := 0) (b' := 30) (by decide +kernel)) (Nat.le_refl _)

theorem ca_X2_spread   (X : CallFix p m c cc nL s args sg_tbl own) (hK : va_K D vwCl tys s) (hG : sgG (KT P) D vwCl (fun q : Nat => base ≤ q) tys ad ks H) (hC : sgC base s) (hA : ∀ q : Nat, A q → base ≤ q) (hS : va_S A s.heap H locs) (hb : base ≤ s.heap.size) (a0 : Nat) (h0 : isK ad ks 2 a0) (x1 : Int32) (h1 : iv 0 1073741823 x1) (x2 : Int32) (h2 : iv 0 1073741823 x2) (hl : Cond.methodLink own index yX2_spread ∈ sg_tbl) (hsize : ls.size = nL) (hst : st0 = [.int x1, .int x2].reverse ++ .ref a0 :: rest) (hW : (rest.map fun v => v.category).sum ≤ 8) (hR : 2 ≤ R.frames ∧ 47 ≤ R.locals) (hf : cells ≤ R.cells ∧ slots ≤ R.slots) (hdg : decode cc pc = .ok (.invokevirtual index, 3)) (kk : ∀ (r : Int32) (locs1 : List Loc), (fun r : Int32 => iv 0 1073741823 r) r → va_S A s.heap H locs1 → W p l e R s m args below meth c H locs1 cells slots Q (F0 m (pc + 3) ls (.int r :: rest))) : W p l e R s m args below meth c H locs cells slots Q (F0 m pc ls st0) :=
  sg_callPVi X hK hG hC hA hS hb (m_X2_spread l a0 h0 x1 h1 x2 h2) h0 (k := 2) (ci := 2) rfl (C := RX2) (T := TX2) (N := 10) rfl wl_5_143 wl_1_11 wl_5_142 wl_0_35 (n := 2) (by decide +kernel) rfl rfl rfl hl hsize hst hW hR hf hdg kk

set_option maxHeartbeats 8000000 in
set_option maxRecDepth 100000 in
theorem m_X2_findParts (l : Launch) {D : va_G} {base : Nat} {tys : List (ClassId × FieldType)} {ad ks : List Nat} {P : sgPm} (a0 : Nat) (h0 : isK ad ks 2 a0) (x1 : Int32) (h1 : iv 0 1073741823 x1) : sgMv l (KT P) D vwCl base tys ad ks yX2_findParts cX2_findParts 4 none ({ frames := 2, cells := 0, slots := 0, locals := 47 }) [.ref a0, .int x1] := by
  refine sg_ofW (by decide +kernel) (Nat.le_of_ble_eq_true rfl) (fun p e s m below meth c X hr hlk hb hK hC hG ls hl => ?_)
  have hS : va_S (fun q : Nat => base ≤ q) s.heap s.heap [] := va_S.rf
  have hl : lv_has ls 4 [(0, .ref a0), (1, .int x1)] := hl
  refine lv_aload_n X.1 X.2.1 dX2_findParts_0 rfl (lv_at hl 0 rfl) ?_
  refine gf_X2_8 X hK hG h0 wl_2_154 dX2_findParts_1 (fun f1 hf1 kf1 => ?_)
  have B3_16 : ∀ (locs : List Loc) (ls : Array Slot), va_S (fun q : Nat => base ≤ q) s.heap s.heap locs → lv_has ls 4 [(0, .ref a0), (1, .int x1)] → W p l e (headSpec (Cond.code yX2_findParts cX2_findParts 4 none :: sg_tbl) ({ frames := 2, cells := 0, slots := 0, locals := 47 })).room s m #[.ref a0, .int x1] below meth c s.heap locs 0 0 (MQ below (va_Qv (fun (_ : Unit) => True) (fun _ => sgB (KT P) D vwCl base tys ad ks) (fun q : Nat => base ≤ q)) #[.ref a0, .int x1] s 0 0 (fun q : Nat => base ≤ q)) (F0 m 16 ls []) := by
    intro locs ls hS hl
    refine lv_aload_n X.1 X.2.1 dX2_findParts_16 rfl (lv_at hl 0 rfl) ?_
    refine lv_iconst (v := 1) X.1 X.2.1 dX2_findParts_17 (by decide +kernel) ?_
    refine pf_X2_8 X hK hG hS h0 wl_2_154 ⟨_, rfl, (iv_of (iv_c 1 (a := 1) (b := 1) (by decide +kernel)) (a' := 0) (b' := 1) (by decide +kernel))⟩ dX2_findParts_18 (fun H locs hG hS ku4 ru4 => ?_)
    refine lv_aload_n X.1 X.2.1 dX2_findParts_21 rfl (lv_at hl 0 rfl) ?_
    refine lv_iload_n X.1 X.2.1 dX2_findParts_22 rfl (lv_at hl 1 rfl) ?_
    refine pf_X2_7 X hK hG hS h0 wl_2_153 ⟨_, rfl, (iv_top _)⟩ dX2_findParts_23 (fun H locs hG hS ku5 ru5 => ?_)
    refine lv_aload_n X.1 X.2.1 dX2_findParts_26 rfl (lv_at hl 0 rfl) ?_
    refine lv_iconst (v := 0) X.1 X.2.1 dX2_findParts_27 (by decide +kernel) ?_
    refine pf_X2_9 X hK hG hS h0 wl_2_155 ⟨_, rfl, (iv_of (iv_c 0 (a := 0) (b := 0) (by decide +kernel)) (a' := 0) (b' := 1) (by decide +kernel))⟩ dX2_findParts_28 (fun H locs hG hS ku6 ru6 => ?_)
    refine lv_aload_n X.1 X.2.1 dX2_findParts_31 rfl (lv_at hl 0 rfl) ?_
    refine lv_iconst (v := 0) X.1 X.2.1 dX2_findParts_32 (by decide +kernel) ?_
    refine pf_X2_6 X hK hG hS h0 wl_2_151 ⟨_, rfl, (iv_of (iv_c 0 (a := 0) (b := 0) (by decide +kernel)) (a' := 0) (b' := 30) (by decide +kernel))⟩ dX2_findParts_33 (fun H locs hG hS ku7 ru7 => ?_)
    refine lv_iload_n X.1 X.2.1 dX2_findParts_36 rfl (lv_at hl 1 rfl) ?_
    refine lv_istore_n (lv' := [(2, .int x1), (0, .ref a0), (1, .int x1)]) X.1 X.2.1 dX2_findParts_37 rfl hl (by decide) rfl (fun ls hl => ?_)
    refine lv_iconst (v := 0) X.1 X.2.1 dX2_findParts_38 (by decide +kernel) ?_
    refine lv_istore_n (lv' := [(3, .int 0), (2, .int x1), (0, .ref a0), (1, .int x1)]) X.1 X.2.1 dX2_findParts_39 rfl hl (by decide) rfl (fun ls hl => ?_)
    have B8_40 : ∀ (N : Nat) (H : Heap) (locs : List Loc) (ls : Array Slot) (z8_2 : Int32) (z8_3 : Int32), sgG (KT P) D vwCl (fun q : Nat => base ≤ q) tys ad ks H → va_S (fun q : Nat => base ≤ q) s.heap H locs → lv_has ls 4 [(0, .ref a0), (1, .int x1), (2, .int z8_2), (3, .int z8_3)] → iv 0 1073741823 z8_2 → iv 0 30 z8_3 → (31 - z8_3.toInt).toNat ≤ N → W p l e (headSpec (Cond.code yX2_findParts cX2_findParts 4 none :: sg_tbl) ({ frames := 2, cells := 0, slots := 0, locals := 47 })).room s m #[.ref a0, .int x1] below meth c H locs 0 0 (MQ below (va_Qv (fun (_ : Unit) => True) (fun _ => sgB (KT P) D vwCl base tys ad ks) (fun q : Nat => base ≤ q)) #[.ref a0, .int x1] s 0 0 (fun q : Nat => base ≤ q)) (F0 m 40 ls []) := by
      intro N; induction N with
      | zero =>
        intro H locs ls z8_2 z8_3 hG hS hl hz8_2 hz8_3 hN
        exact absurd hN (by have := iv_up hz8_3; omega)
      | succ N ih8 =>
        intro H locs ls z8_2 z8_3 hG hS hl hz8_2 hz8_3 hN8
        refine lv_iload_n X.1 X.2.1 dX2_findParts_40 rfl (lv_at hl 3 rfl) ?_
        refine lv_bipush (v := 30) X.1 X.2.1 dX2_findParts_41 (by decide +kernel) ?_
        refine lv_icmp_ge (tgt := 89) X.1 X.2.1 dX2_findParts_43 (by decide) (fun c9 => ?_) (fun c9 => ?_)
        · exact sg_vret X hr hlk hb hK hC hG hS dX2_findParts_89
        · refine lv_iload_n X.1 X.2.1 dX2_findParts_46 rfl (lv_at hl 2 rfl) ?_
          refine lv_if_eq (tgt := 89) X.1 X.2.1 dX2_findParts_47 (by decide) (fun c10 => ?_) (fun c10 => ?_)
          · exact sg_vret X hr hlk hb hK hC hG hS dX2_findParts_89
          · refine lv_aload_n X.1 X.2.1 dX2_findParts_50 rfl (lv_at hl 0 rfl) ?_
            refine gf_X2_1 X hK hG h0 wl_2_145 dX2_findParts_51 (fun q11 hq11 kq11 => ?_)
            refine lv_iload_n X.1 X.2.1 dX2_findParts_54 rfl (lv_at hl 3 rfl) ?_
            refine lv_aload_n X.1 X.2.1 dX2_findParts_55 rfl (lv_at hl 0 rfl) ?_
            refine lv_iload_n X.1 X.2.1 dX2_findParts_56 rfl (lv_at hl 2 rfl) ?_
            refine lv_iload_n X.1 X.2.1 dX2_findParts_57 rfl (lv_at hl 2 rfl) ?_
            refine lv_ineg X.1 X.2.1 dX2_findParts_58 ?_
            refine lv_topi (fun f12 ef12 => ?_)
            refine lv_iand X.1 X.2.1 dX2_findParts_59 ?_
            refine lv_topi (fun f13 ef13 => ?_)
            refine lv_iload_n X.1 X.2.1 dX2_findParts_60 rfl (lv_at hl 1 rfl) ?_
            refine ca_X2_spread X hK hG hC (fun _ h => h) hS hb a0 h0 f13 (iv_and' (b' := 1073741823) ef13 (iv_ne_lo (a' := 1) c10 hz8_2 (by decide +kernel)) (by decide +kernel)) x1 h1 wl_5_140 hl.1 (rest := [.int z8_3, .ref q11]) rfl (Nat.le_of_ble_eq_true rfl) ⟨Nat.le_of_ble_eq_true rfl, Nat.le_of_ble_eq_true rfl⟩ ⟨Nat.le_of_ble_eq_true rfl, Nat.le_of_ble_eq_true rfl⟩ dX2_findParts_61 (fun f14 locs hf14 hS => ?_)
            refine as_15 X hK hG hS hq11 (iv_vpin (iv_lt (b' := 29) (iv_gt_of c9) hz8_3 (iv_c 30 (a := 30) (b := 30) (by decide +kernel)) (by decide +kernel)) (by decide +kernel)) ⟨_, rfl, hf14⟩ dX2_findParts_64 (fun H locs hG hS ru15 => ?_)
            refine lv_iload_n X.1 X.2.1 dX2_findParts_65 rfl (lv_at hl 2 rfl) ?_
            refine lv_aload_n X.1 X.2.1 dX2_findParts_66 rfl (lv_at hl 0 rfl) ?_
            refine gg_X2_1 X hK hG h0 wl_2_145 (ru15 _ _ _ _ _ _ _ h0 rfl rfl (by decide) (fun z => z.elim) kq11) dX2_findParts_67 ?_
            refine lv_iload_n X.1 X.2.1 dX2_findParts_70 rfl (lv_at hl 3 rfl) ?_
            refine al_15 X hK hG hq11 (iv_vpin (iv_lt (b' := 29) (iv_gt_of c9) hz8_3 (iv_c 30 (a := 30) (b := 30) (by decide +kernel)) (by decide +kernel)) (by decide +kernel)) dX2_findParts_71 (fun f16 hf16 => ?_)
            refine lv_iconst (v := (-1)) X.1 X.2.1 dX2_findParts_72 (by decide +kernel) ?_
            refine lv_ixor X.1 X.2.1 dX2_findParts_73 ?_
            refine lv_topi (fun f17 ef17 => ?_)
            refine lv_iand X.1 X.2.1 dX2_findParts_74 ?_
            refine lv_topi (fun f18 ef18 => ?_)
            refine lv_istore_n (lv' := [(2, .int f18), (0, .ref a0), (1, .int x1), (3, .int z8_3)]) X.1 X.2.1 dX2_findParts_75 rfl hl (by decide) rfl (fun ls hl => ?_)
            refine lv_aload_n X.1 X.2.1 dX2_findParts_76 rfl (lv_at hl 1 rfl) ?_
            refine lv_iload_n X.1 X.2.1 dX2_findParts_77 rfl (lv_at hl 3 rfl) ?_
            refine lv_iconst (v := 1) X.1 X.2.1 dX2_findParts_78 (by decide +kernel) ?_
            refine lv_iadd X.1 X.2.1 dX2_findParts_79 ?_
            refine lv_topi (fun f19 ef19 => ?_)
            refine pf_X2_6 X hK hG hS h0 wl_2_151 ⟨_, rfl, (iv_of (iv_add (a' := 1) (b' := 30) ef19 (iv_lt (b' := 29) (iv_gt_of c9) hz8_3 (iv_c 30 (a := 30) (b := 30) (by decide +kernel)) (by decide +kernel)) (iv_c 1 (a := 1) (b := 1) (by decide +kernel)) (by decide +kernel)) (a' := 0) (b' := 30) (by decide +kernel))⟩ dX2_findParts_80 (fun H locs hG hS ku20 ru20 => ?_)
            obtain ⟨y21, ey21⟩ : ∃ y : Int32, y = z8_3 + Int32.ofInt 1 := ⟨_, rfl⟩
            refine lv_iinc (v := y21) (lv' := [(3, .int y21), (2, .int f18), (0, .ref a0), (1, .int x1)]) X.1 X.2.1 dX2_findParts_83 hl (k := 3) rfl ey21.symm (by decide) rfl (fun ls hl => ?_)
            refine lv_goto (tgt := 40) X.1 X.2.1 dX2_findParts_86 (by decide) ?_
            exact ih8 H _ _ f18 y21 hG hS (lv_sub hl [2, 3, 1, 0] rfl) (iv_and' (b' := 1073741823) ef18 (iv_ne_lo (a' := 1) c10 hz8_2 (by decide +kernel)) (by decide +kernel)) (iv_of (iv_add (a' := 1) (b' := 30) ey21 (iv_lt (b' := 29) (iv_gt_of c9) hz8_3 (iv_c 30 (a := 30) (b := 30) (by decide +kernel)) (by decide +kernel)) (iv_c _ (a := 1) (b := 1) (by decide +kernel)) (by decide +kernel)) (a' := 0) (b' := 30) (by decide +kernel)) (iv_stepU ey21 (iv_lt (b' := 29) (iv_gt_of c9) hz8_3 (iv_c 30 (a := 30) (b := 30) (by decide +kernel)) (by decide +kernel)) (by decide +kernel) hN8)
    exact B8_40 _ H _ _ x1 0 hG hS (lv_sub hl [2, 3, 1, 0] rfl) h1 (iv_of (iv_c 0 (a := 0) (b := 0) (by decide +kernel)) (a' := 0) (b' := 30) (by decide +kernel)) (Nat.le_refl _)
  refine lv_if_eq (tgt := 16) X.1 X.2.1 dX2_findParts_4 (by decide) (fun c2 => ?_) (fun c2 => ?_)
  · exact B3_16 _ _ hS (lv_sub hl [0, 1] rfl)
  · refine lv_aload_n X.1 X.2.1 dX2_findParts_7 rfl (lv_at hl 0 rfl) ?_
    refine gf_X2_7 X hK hG h0 wl_2_153 dX2_findParts_8 (fun f22 hf22 kf22 => ?_)
    refine lv_iload_n X.1 X.2.1 dX2_findParts_11 rfl (lv_at hl 1 rfl) ?_
    refine lv_icmp_ne (tgt := 16) X.1 X.2.1 dX2_findParts_12 (by decide) (fun c23 => ?_) (fun c23 => ?_)
    · exact B3_16 _ _ hS (lv_sub hl [0, 1] rfl)
    · exact sg_vret X hr hlk hb hK hC hG hS dX2_findParts_15

theorem ca_X2_findParts   (X : CallFix p m c cc nL s args sg_tbl own) (hK : va_K D vwCl tys s) (hG : sgG (KT P) D vwCl (fun q : Nat => base ≤ q) tys ad ks H) (hC : sgC base s) (hS : va_S (fun q : Nat => base ≤ q) s.heap H locs) (hb : base ≤ s.heap.size) (a0 : Nat) (h0 : isK ad ks 2 a0) (x1 : Int32) (h1 : iv 0 1073741823 x1) (hl : Cond.methodLink own index yX2_findParts ∈ sg_tbl) (hsize : ls.size = nL) (hst : st0 = [.int x1].reverse ++ .ref a0 :: rest) (hW : (rest.map fun v => v.category).sum ≤ 8) (hR : 3 ≤ R.frames ∧ 70 ≤ R.locals) (hf : cells ≤ R.cells ∧ slots ≤ R.slots) (hdg : decode cc pc = .ok (.invokevirtual index, 3)) (kk : ∀ (H1 : Heap) (locs1 : List Loc), sgG (KT P) D vwCl (fun q : Nat => base ≤ q) tys ad ks H1 → va_S (fun q : Nat => base ≤ q) s.heap H1 locs1 → W p l e R s m args below meth c H1 locs1 cells slots Q (F0 m (pc + 3) ls rest)) : W p l e R s m args below meth c H locs cells slots Q (F0 m pc ls st0) :=
  sg_callVv X hK hG hC hS hb (m_X2_findParts l a0 h0 x1 h1) h0 (k := 2) (ci := 2) rfl (C := RX2) (T := TX2) (N := 10) rfl wl_5_139 wl_1_11 wl_5_137 wl_5_138 (n := 1) (by decide +kernel) rfl rfl rfl hl hsize hst hW hR hf hdg kk

set_option maxHeartbeats 8000000 in
set_option maxRecDepth 100000 in
theorem m_X2_isSmall (l : Launch) {D : va_G} {base : Nat} {tys : List (ClassId × FieldType)} {ad ks : List Nat} {P : sgPm} {Hx : Heap} (a0 : Nat) (h0 : isK ad ks 2 a0) (x1 : Int32) (h1 : iv 0 29 x1) : sgPi l (KT P) D vwCl base tys ad ks Hx yX2_isSmall cX2_isSmall 2 (some .boolean) ({ frames := 1, cells := 0, slots := 0, locals := 20 }) [.ref a0, .int x1] (fun r : Int32 => iv 0 1 r) := by
  refine sg_ofP (Pq := fun Hx => va_Qi (fun r (_ : Unit) => (fun r : Int32 => iv 0 1 r) r) (fun _ t => t.heap = Hx) (fun _ : Nat => False)) (by decide +kernel) (Nat.le_of_ble_eq_true rfl) (fun p e s m below meth c X hr hlk hb hK hC hG ls hl => ?_)
  have hS : va_S (fun _ : Nat => False) s.heap s.heap [] := va_S.rf
  have hl : lv_has ls 2 [(0, .ref a0), (1, .int x1)] := hl
  refine lv_aload_n X.1 X.2.1 dX2_isSmall_0 rfl (lv_at hl 0 rfl) ?_
  refine gf_X2_1 X hK hG h0 wl_2_145 dX2_isSmall_1 (fun q1 hq1 kq1 => ?_)
  refine lv_iload_n X.1 X.2.1 dX2_isSmall_4 rfl (lv_at hl 1 rfl) ?_
  refine al_15 X hK hG hq1 (iv_vpin h1 (by decide +kernel)) dX2_isSmall_5 (fun f2 hf2 => ?_)
  refine ca_J6_bitCount_0f7a4 X hK hG hC (fun _ h => h.elim) hS hb f2 wl_5_156 hl.1 (rest := []) rfl (Nat.le_of_ble_eq_true rfl) ⟨Nat.le_of_ble_eq_true rfl, Nat.le_of_ble_eq_true rfl⟩ ⟨Nat.le_of_ble_eq_true rfl, Nat.le_of_ble_eq_true rfl⟩ dX2_isSmall_6 (fun f3 locs hf3 hS => ?_)
  refine lv_bipush (v := 12) X.1 X.2.1 dX2_isSmall_9 (by decide +kernel) ?_
  refine lv_icmp_gt (tgt := 18) X.1 X.2.1 dX2_isSmall_11 (by decide) (fun c4 => ?_) (fun c4 => ?_)
  · refine lv_iconst (v := 0) X.1 X.2.1 dX2_isSmall_18 (by decide +kernel) ?_
    exact sg_zretP X hr (sg_zn (iv_of (iv_c 0 (a := 0) (b := 0) (by decide +kernel)) (a' := 0) (b' := 1) (by decide +kernel))) hlk hS (iv_of (iv_c 0 (a := 0) (b := 0) (by decide +kernel)) (a' := 0) (b' := 1) (by decide +kernel)) dX2_isSmall_19
  · refine lv_iconst (v := 1) X.1 X.2.1 dX2_isSmall_14 (by decide +kernel) ?_
    refine lv_goto (tgt := 19) X.1 X.2.1 dX2_isSmall_15 (by decide) ?_
    exact sg_zretP X hr (sg_zn (iv_of (iv_c 1 (a := 1) (b := 1) (by decide +kernel)) (a' := 0) (b' := 1) (by decide +kernel))) hlk hS (iv_of (iv_c 1 (a := 1) (b := 1) (by decide +kernel)) (a' := 0) (b' := 1) (by decide +kernel)) dX2_isSmall_19

theorem ca_X2_isSmall   (X : CallFix p m c cc nL s args sg_tbl own) (hK : va_K D vwCl tys s) (hG : sgG (KT P) D vwCl (fun q : Nat => base ≤ q) tys ad ks H) (hC : sgC base s) (hA : ∀ q : Nat, A q → base ≤ q) (hS : va_S A s.heap H locs) (hb : base ≤ s.heap.size) (a0 : Nat) (h0 : isK ad ks 2 a0) (x1 : Int32) (h1 : iv 0 29 x1) (hl : Cond.methodLink own index yX2_isSmall ∈ sg_tbl) (hsize : ls.size = nL) (hst : st0 = [.int x1].reverse ++ .ref a0 :: rest) (hW : (rest.map fun v => v.category).sum ≤ 8) (hR : 2 ≤ R.frames ∧ 41 ≤ R.locals) (hf : cells ≤ R.cells ∧ slots ≤ R.slots) (hdg : decode cc pc = .ok (.invokevirtual index, 3)) (kk : ∀ (r : Int32) (locs1 : List Loc), (fun r : Int32 => iv 0 1 r) r → va_S A s.heap H locs1 → W p l e R s m args below meth c H locs1 cells slots Q (F0 m (pc + 3) ls (.int r :: rest))) : W p l e R s m args below meth c H locs cells slots Q (F0 m pc ls st0) :=
  sg_callPVi X hK hG hC hA hS hb (m_X2_isSmall l a0 h0 x1 h1) h0 (k := 2) (ci := 2) rfl (C := RX2) (T := TX2) (N := 10) rfl wl_5_155 wl_1_11 wl_5_153 wl_5_154 (n := 1) (by decide +kernel) rfl rfl rfl hl hsize hst hW hR hf hdg kk

set_option maxHeartbeats 8000000 in
set_option maxRecDepth 100000 in
theorem m_X2_allSmall (l : Launch) {D : va_G} {base : Nat} {tys : List (ClassId × FieldType)} {ad ks : List Nat} {P : sgPm} {Hx : Heap} (a0 : Nat) (h0 : isK ad ks 2 a0) : sgPi l (KT P) D vwCl base tys ad ks Hx yX2_allSmall cX2_allSmall 2 (some .boolean) ({ frames := 2, cells := 0, slots := 0, locals := 41 }) [.ref a0] (fun r : Int32 => iv 0 1 r) := by
  refine sg_ofP (Pq := fun Hx => va_Qi (fun r (_ : Unit) => (fun r : Int32 => iv 0 1 r) r) (fun _ t => t.heap = Hx) (fun _ : Nat => False)) (by decide +kernel) (Nat.le_of_ble_eq_true rfl) (fun p e s m below meth c X hr hlk hb hK hC hG ls hl => ?_)
  have hS : va_S (fun _ : Nat => False) s.heap s.heap [] := va_S.rf
  have hl : lv_has ls 2 [(0, .ref a0)] := hl
  refine lv_iconst (v := 0) X.1 X.2.1 dX2_allSmall_0 (by decide +kernel) ?_
  refine lv_istore_n (lv' := [(1, .int 0), (0, .ref a0)]) X.1 X.2.1 dX2_allSmall_1 rfl hl (by decide) rfl (fun ls hl => ?_)
  have B1_2 : ∀ (N : Nat) (locs : List Loc) (ls : Array Slot) (z1_1 : Int32), va_S (fun _ : Nat => False) s.heap s.heap locs → lv_has ls 2 [(0, .ref a0), (1, .int z1_1)] → iv 0 30 z1_1 → (31 - z1_1.toInt).toNat ≤ N → W p l e (headSpec (Cond.code yX2_allSmall cX2_allSmall 2 (some .boolean) :: sg_tbl) ({ frames := 2, cells := 0, slots := 0, locals := 41 })).room s m #[.ref a0] below meth c s.heap locs 0 0 (MQ below (va_Qi (fun r (_ : Unit) => (fun r : Int32 => iv 0 1 r) r) (fun _ t => t.heap = s.heap) (fun _ : Nat => False)) #[.ref a0] s 0 0 (fun _ : Nat => False)) (F0 m 2 ls []) := by
    intro N; induction N with
    | zero =>
      intro locs ls z1_1 hS hl hz1_1 hN
      exact absurd hN (by have := iv_up hz1_1; omega)
    | succ N ih1 =>
      intro locs ls z1_1 hS hl hz1_1 hN1
      refine lv_iload_n X.1 X.2.1 dX2_allSmall_2 rfl (lv_at hl 1 rfl) ?_
      refine lv_aload_n X.1 X.2.1 dX2_allSmall_3 rfl (lv_at hl 0 rfl) ?_
      refine gf_X2_6 X hK hG h0 wl_2_151 dX2_allSmall_4 (fun f2 hf2 kf2 => ?_)
      refine lv_icmp_ge (tgt := 26) X.1 X.2.1 dX2_allSmall_7 (by decide) (fun c3 => ?_) (fun c3 => ?_)
      · refine lv_iconst (v := 1) X.1 X.2.1 dX2_allSmall_26 (by decide +kernel) ?_
        exact sg_zretP X hr (sg_zn (iv_of (iv_c 1 (a := 1) (b := 1) (by decide +kernel)) (a' := 0) (b' := 1) (by decide +kernel))) hlk hS (iv_of (iv_c 1 (a := 1) (b := 1) (by decide +kernel)) (a' := 0) (b' := 1) (by decide +kernel)) dX2_allSmall_27
      · refine lv_aload_n X.1 X.2.1 dX2_allSmall_10 rfl (lv_at hl 0 rfl) ?_
        refine lv_iload_n X.1 X.2.1 dX2_allSmall_11 rfl (lv_at hl 1 rfl) ?_
        refine ca_X2_isSmall X hK hG hC (fun _ h => h.elim) hS hb a0 h0 z1_1 (iv_lt (b' := 29) (iv_gt_of c3) hz1_1 hf2 (by decide +kernel)) wl_5_161 hl.1 (rest := []) rfl (Nat.le_of_ble_eq_true rfl) ⟨Nat.le_of_ble_eq_true rfl, Nat.le_of_ble_eq_true rfl⟩ ⟨Nat.le_of_ble_eq_true rfl, Nat.le_of_ble_eq_true rfl⟩ dX2_allSmall_12 (fun f4 locs hf4 hS => ?_)
        refine lv_if_ne (tgt := 20) X.1 X.2.1 dX2_allSmall_15 (by decide) (fun c5 => ?_) (fun c5 => ?_)
        · obtain ⟨y6, ey6⟩ : ∃ y : Int32, y = z1_1 + Int32.ofInt 1 := ⟨_, rfl⟩
          refine lv_iinc (v := y6) (lv' := [(1, .int y6), (0, .ref a0)]) X.1 X.2.1 dX2_allSmall_20 hl (k := 1) rfl ey6.symm (by decide) rfl (fun ls hl => ?_)
          refine lv_goto (tgt := 2) X.1 X.2.1 dX2_allSmall_23 (by decide) ?_
          exact ih1 _ _ y6 hS (lv_sub hl [1, 0] rfl) (iv_of (iv_add (a' := 1) (b' := 30) ey6 (iv_lt (b' := 29) (iv_gt_of c3) hz1_1 hf2 (by decide +kernel)) (iv_c _ (a := 1) (b := 1) (by decide +kernel)) (by decide +kernel)) (a' := 0) (b' := 30) (by decide +kernel)) (iv_stepU ey6 (iv_lt (b' := 29) (iv_gt_of c3) hz1_1 hf2 (by decide +kernel)) (by decide +kernel) hN1)
        · refine lv_iconst (v := 0) X.1 X.2.1 dX2_allSmall_18 (by decide +kernel) ?_
          exact sg_zretP X hr (sg_zn (iv_of (iv_c 0 (a := 0) (b := 0) (by decide +kernel)) (a' := 0) (b' := 1) (by decide +kernel))) hlk hS (iv_of (iv_c 0 (a := 0) (b := 0) (by decide +kernel)) (a' := 0) (b' := 1) (by decide +kernel)) dX2_allSmall_19
  exact B1_2 _ _ _ 0 hS (lv_sub hl [1, 0] rfl) (iv_of (iv_c 0 (a := 0) (b := 0) (by decide +kernel)) (a' := 0) (b' := 30) (by decide +kernel)) (Nat.le_refl _)

theorem ca_X2_allSmall   (X : CallFix p m c cc nL s args sg_tbl own) (hK : va_K D vwCl tys s) (hG : sgG (KT P) D vwCl (fun q : Nat => base ≤ q) tys ad ks H) (hC : sgC base s) (hA : ∀ q : Nat, A q → base ≤ q) (hS : va_S A s.heap H locs) (hb : base ≤ s.heap.size) (a0 : Nat) (h0 : isK ad ks 2 a0) (hl : Cond.methodLink own index yX2_allSmall ∈ sg_tbl) (hsize : ls.size = nL) (hst : st0 = [].reverse ++ .ref a0 :: rest) (hW : (rest.map fun v => v.category).sum ≤ 8) (hR : 3 ≤ R.frames ∧ 62 ≤ R.locals) (hf : cells ≤ R.cells ∧ slots ≤ R.slots) (hdg : decode cc pc = .ok (.invokevirtual index, 3)) (kk : ∀ (r : Int32) (locs1 : List Loc), (fun r : Int32 => iv 0 1 r) r → va_S A s.heap H locs1 → W p l e R s m args below meth c H locs1 cells slots Q (F0 m (pc + 3) ls (.int r :: rest))) : W p l e R s m args below meth c H locs cells slots Q (F0 m pc ls st0) :=
  sg_callPVi X hK hG hC hA hS hb (m_X2_allSmall l a0 h0) h0 (k := 2) (ci := 2) rfl (C := RX2) (T := TX2) (N := 10) rfl wl_5_190 wl_1_11 wl_5_188 wl_5_189 (n := 0) (by decide +kernel) rfl rfl rfl hl hsize hst hW hR hf hdg kk

set_option maxHeartbeats 8000000 in
set_option maxRecDepth 100000 in
theorem m_X2_partWith (l : Launch) {D : va_G} {base : Nat} {tys : List (ClassId × FieldType)} {ad ks : List Nat} {P : sgPm} {Hx : Heap} (a0 : Nat) (h0 : isK ad ks 2 a0) (x1 : Int32) : sgPi l (KT P) D vwCl base tys ad ks Hx yX2_partWith cX2_partWith 3 (some .int) ({ frames := 0, cells := 0, slots := 0, locals := 0 }) [.ref a0, .int x1] (fun r : Int32 => iv 0 29 r) := by
  refine sg_ofP (Pq := fun Hx => va_Qi (fun r (_ : Unit) => (fun r : Int32 => iv 0 29 r) r) (fun _ t => t.heap = Hx) (fun _ : Nat => False)) (by decide +kernel) (Nat.le_of_ble_eq_true rfl) (fun p e s m below meth c X hr hlk hb hK hC hG ls hl => ?_)
  have hS : va_S (fun _ : Nat => False) s.heap s.heap [] := va_S.rf
  have hl : lv_has ls 3 [(0, .ref a0), (1, .int x1)] := hl
  refine lv_iconst (v := 0) X.1 X.2.1 dX2_partWith_0 (by decide +kernel) ?_
  refine lv_istore_n (lv' := [(2, .int 0), (0, .ref a0), (1, .int x1)]) X.1 X.2.1 dX2_partWith_1 rfl hl (by decide) rfl (fun ls hl => ?_)
  have B1_2 : ∀ (N : Nat) (locs : List Loc) (ls : Array Slot) (z1_2 : Int32), va_S (fun _ : Nat => False) s.heap s.heap locs → lv_has ls 3 [(0, .ref a0), (1, .int x1), (2, .int z1_2)] → iv 0 30 z1_2 → (31 - z1_2.toInt).toNat ≤ N → W p l e (headSpec (Cond.code yX2_partWith cX2_partWith 3 (some .int) :: sg_tbl) ({ frames := 0, cells := 0, slots := 0, locals := 0 })).room s m #[.ref a0, .int x1] below meth c s.heap locs 0 0 (MQ below (va_Qi (fun r (_ : Unit) => (fun r : Int32 => iv 0 29 r) r) (fun _ t => t.heap = s.heap) (fun _ : Nat => False)) #[.ref a0, .int x1] s 0 0 (fun _ : Nat => False)) (F0 m 2 ls []) := by
    intro N; induction N with
    | zero =>
      intro locs ls z1_2 hS hl hz1_2 hN
      exact absurd hN (by have := iv_up hz1_2; omega)
    | succ N ih1 =>
      intro locs ls z1_2 hS hl hz1_2 hN1
      refine lv_iload_n X.1 X.2.1 dX2_partWith_2 rfl (lv_at hl 2 rfl) ?_
      refine lv_aload_n X.1 X.2.1 dX2_partWith_3 rfl (lv_at hl 0 rfl) ?_
      refine gf_X2_6 X hK hG h0 wl_2_151 dX2_partWith_4 (fun f2 hf2 kf2 => ?_)
      refine lv_icmp_ge (tgt := 29) X.1 X.2.1 dX2_partWith_7 (by decide) (fun c3 => ?_) (fun c3 => ?_)
      · refine lv_iconst (v := 0) X.1 X.2.1 dX2_partWith_29 (by decide +kernel) ?_
        exact sg_iretP X hr hlk hS (iv_of (iv_c 0 (a := 0) (b := 0) (by decide +kernel)) (a' := 0) (b' := 29) (by decide +kernel)) dX2_partWith_30
      · refine lv_aload_n X.1 X.2.1 dX2_partWith_10 rfl (lv_at hl 0 rfl) ?_
        refine gf_X2_1 X hK hG h0 wl_2_145 dX2_partWith_11 (fun q4 hq4 kq4 => ?_)
        refine lv_iload_n X.1 X.2.1 dX2_partWith_14 rfl (lv_at hl 2 rfl) ?_
        refine al_15 X hK hG hq4 (iv_vpin (iv_lt (b' := 29) (iv_gt_of c3) hz1_2 hf2 (by decide +kernel)) (by decide +kernel)) dX2_partWith_15 (fun f5 hf5 => ?_)
        refine lv_iload_n X.1 X.2.1 dX2_partWith_16 rfl (lv_at hl 1 rfl) ?_
        refine lv_iand X.1 X.2.1 dX2_partWith_17 ?_
        refine lv_topi (fun f6 ef6 => ?_)
        refine lv_if_eq (tgt := 23) X.1 X.2.1 dX2_partWith_18 (by decide) (fun c7 => ?_) (fun c7 => ?_)
        · obtain ⟨y8, ey8⟩ : ∃ y : Int32, y = z1_2 + Int32.ofInt 1 := ⟨_, rfl⟩
          refine lv_iinc (v := y8) (lv' := [(2, .int y8), (0, .ref a0), (1, .int x1)]) X.1 X.2.1 dX2_partWith_23 hl (k := 2) rfl ey8.symm (by decide) rfl (fun ls hl => ?_)
          refine lv_goto (tgt := 2) X.1 X.2.1 dX2_partWith_26 (by decide) ?_
          exact ih1 _ _ y8 hS (lv_sub hl [1, 2, 0] rfl) (iv_of (iv_add (a' := 1) (b' := 30) ey8 (iv_lt (b' := 29) (iv_gt_of c3) hz1_2 hf2 (by decide +kernel)) (iv_c _ (a := 1) (b := 1) (by decide +kernel)) (by decide +kernel)) (a' := 0) (b' := 30) (by decide +kernel)) (iv_stepU ey8 (iv_lt (b' := 29) (iv_gt_of c3) hz1_2 hf2 (by decide +kernel)) (by decide +kernel) hN1)
        · refine lv_iload_n X.1 X.2.1 dX2_partWith_21 rfl (lv_at hl 2 rfl) ?_
          exact sg_iretP X hr hlk hS (iv_lt (b' := 29) (iv_gt_of c3) hz1_2 hf2 (by decide +kernel)) dX2_partWith_22
  exact B1_2 _ _ _ 0 hS (lv_sub hl [1, 2, 0] rfl) (iv_of (iv_c 0 (a := 0) (b := 0) (by decide +kernel)) (a' := 0) (b' := 30) (by decide +kernel)) (Nat.le_refl _)

theorem ca_X2_partWith   (X : CallFix p m c cc nL s args sg_tbl own) (hK : va_K D vwCl tys s) (hG : sgG (KT P) D vwCl (fun q : Nat => base ≤ q) tys ad ks H) (hC : sgC base s) (hA : ∀ q : Nat, A q → base ≤ q) (hS : va_S A s.heap H locs) (hb : base ≤ s.heap.size) (a0 : Nat) (h0 : isK ad ks 2 a0) (x1 : Int32) (hl : Cond.methodLink own index yX2_partWith ∈ sg_tbl) (hsize : ls.size = nL) (hst : st0 = [.int x1].reverse ++ .ref a0 :: rest) (hW : (rest.map fun v => v.category).sum ≤ 8) (hR : 1 ≤ R.frames ∧ 22 ≤ R.locals) (hf : cells ≤ R.cells ∧ slots ≤ R.slots) (hdg : decode cc pc = .ok (.invokevirtual index, 3)) (kk : ∀ (r : Int32) (locs1 : List Loc), (fun r : Int32 => iv 0 29 r) r → va_S A s.heap H locs1 → W p l e R s m args below meth c H locs1 cells slots Q (F0 m (pc + 3) ls (.int r :: rest))) : W p l e R s m args below meth c H locs cells slots Q (F0 m pc ls st0) :=
  sg_callPVi X hK hG hC hA hS hb (m_X2_partWith l a0 h0 x1) h0 (k := 2) (ci := 2) rfl (C := RX2) (T := TX2) (N := 10) rfl wl_5_199 wl_1_11 wl_5_198 wl_0_39 (n := 1) (by decide +kernel) rfl rfl rfl hl hsize hst hW hR hf hdg kk

set_option maxHeartbeats 8000000 in
set_option maxRecDepth 100000 in
theorem m_X11_noLawn (l : Launch) {D : va_G} {base : Nat} {tys : List (ClassId × FieldType)} {ad ks : List Nat} {P : sgPm} {Hx : Heap} (a0 : Nat) (h0 : isK ad ks 11 a0) : sgPi l (KT P) D vwCl base tys ad ks Hx yX11_noLawn cX11_noLawn 1 (some .boolean) ({ frames := 0, cells := 0, slots := 0, locals := 0 }) [.ref a0] (fun r : Int32 => iv 0 1 r) := by
  refine sg_ofP (Pq := fun Hx => va_Qi (fun r (_ : Unit) => (fun r : Int32 => iv 0 1 r) r) (fun _ t => t.heap = Hx) (fun _ : Nat => False)) (by decide +kernel) (Nat.le_of_ble_eq_true rfl) (fun p e s m below meth c X hr hlk hb hK hC hG ls hl => ?_)
  have hS : va_S (fun _ : Nat => False) s.heap s.heap [] := va_S.rf
  have hl : lv_has ls 1 [(0, .ref a0)] := hl
  refine lv_aload_n X.1 X.2.1 dX11_noLawn_0 rfl (lv_at hl 0 rfl) ?_
  refine gf_X11_10 X hK hG h0 wl_2_205 dX11_noLawn_1 (fun q1 hq1 kq1 => ?_)
  refine gf_X4_5 X hK hG hq1 wl_1_220 dX11_noLawn_4 (fun f2 hf2 kf2 => ?_)
  refine lv_if_ne (tgt := 14) X.1 X.2.1 dX11_noLawn_7 (by decide) (fun c3 => ?_) (fun c3 => ?_)
  · refine lv_iconst (v := 0) X.1 X.2.1 dX11_noLawn_14 (by decide +kernel) ?_
    exact sg_zretP X hr (sg_zn (iv_of (iv_c 0 (a := 0) (b := 0) (by decide +kernel)) (a' := 0) (b' := 1) (by decide +kernel))) hlk hS (iv_of (iv_c 0 (a := 0) (b := 0) (by decide +kernel)) (a' := 0) (b' := 1) (by decide +kernel)) dX11_noLawn_15
  · refine lv_iconst (v := 1) X.1 X.2.1 dX11_noLawn_10 (by decide +kernel) ?_
    refine lv_goto (tgt := 15) X.1 X.2.1 dX11_noLawn_11 (by decide) ?_
    exact sg_zretP X hr (sg_zn (iv_of (iv_c 1 (a := 1) (b := 1) (by decide +kernel)) (a' := 0) (b' := 1) (by decide +kernel))) hlk hS (iv_of (iv_c 1 (a := 1) (b := 1) (by decide +kernel)) (a' := 0) (b' := 1) (by decide +kernel)) dX11_noLawn_15

theorem ca_X11_noLawn   (X : CallFix p m c cc nL s args sg_tbl own) (hK : va_K D vwCl tys s) (hG : sgG (KT P) D vwCl (fun q : Nat => base ≤ q) tys ad ks H) (hC : sgC base s) (hA : ∀ q : Nat, A q → base ≤ q) (hS : va_S A s.heap H locs) (hb : base ≤ s.heap.size) (a0 : Nat) (h0 : isK ad ks 11 a0) (hl : Cond.methodLink own index yX11_noLawn ∈ sg_tbl) (hsize : ls.size = nL) (hst : st0 = [].reverse ++ .ref a0 :: rest) (hW : (rest.map fun v => v.category).sum ≤ 8) (hR : 1 ≤ R.frames ∧ 20 ≤ R.locals) (hf : cells ≤ R.cells ∧ slots ≤ R.slots) (hdg : decode cc pc = .ok (.invokevirtual index, 3)) (kk : ∀ (r : Int32) (locs1 : List Loc), (fun r : Int32 => iv 0 1 r) r → va_S A s.heap H locs1 → W p l e R s m args below meth c H locs1 cells slots Q (F0 m (pc + 3) ls (.int r :: rest))) : W p l e R s m args below meth c H locs cells slots Q (F0 m pc ls st0) :=
  sg_callPVi X hK hG hC hA hS hb (m_X11_noLawn l a0 h0) h0 (k := 11) (ci := 11) rfl (C := RX11) (T := TX11) (N := 17) rfl wl_4_77 wl_1_1 wl_4_76 wl_0_20 (n := 0) (by decide +kernel) rfl rfl rfl hl hsize hst hW hR hf hdg kk

set_option maxHeartbeats 8000000 in
set_option maxRecDepth 100000 in
theorem m_X11_isCell (l : Launch) {D : va_G} {base : Nat} {tys : List (ClassId × FieldType)} {ad ks : List Nat} {P : sgPm} {Hx : Heap} (a0 : Nat) (h0 : isK ad ks 11 a0) (x1 : Int32) : sgPi l (KT P) D vwCl base tys ad ks Hx yX11_isCell cX11_isCell 2 (some .boolean) ({ frames := 0, cells := 0, slots := 0, locals := 0 }) [.ref a0, .int x1] (fun r : Int32 => iv 0 1 r ∧ (¬ r = 0 → iv 0 29 x1)) := by
  refine sg_ofP (Pq := fun Hx => va_Qi (fun r (_ : Unit) => (fun r : Int32 => iv 0 1 r ∧ (¬ r = 0 → iv 0 29 x1)) r) (fun _ t => t.heap = Hx) (fun _ : Nat => False)) (by decide +kernel) (Nat.le_of_ble_eq_true rfl) (fun p e s m below meth c X hr hlk hb hK hC hG ls hl => ?_)
  have hS : va_S (fun _ : Nat => False) s.heap s.heap [] := va_S.rf
  have hl : lv_has ls 2 [(0, .ref a0), (1, .int x1)] := hl
  refine lv_iload_n X.1 X.2.1 dX11_isCell_0 rfl (lv_at hl 1 rfl) ?_
  have B2_19 : ∀ (locs : List Loc) (ls : Array Slot), va_S (fun _ : Nat => False) s.heap s.heap locs → lv_has ls 2 [] → W p l e (headSpec (Cond.code yX11_isCell cX11_isCell 2 (some .boolean) :: sg_tbl) ({ frames := 0, cells := 0, slots := 0, locals := 0 })).room s m #[.ref a0, .int x1] below meth c s.heap locs 0 0 (MQ below (va_Qi (fun r (_ : Unit) => (fun r : Int32 => iv 0 1 r ∧ (¬ r = 0 → iv 0 29 x1)) r) (fun _ t => t.heap = s.heap) (fun _ : Nat => False)) #[.ref a0, .int x1] s 0 0 (fun _ : Nat => False)) (F0 m 19 ls []) := by
    intro locs ls hS hl
    refine lv_iconst (v := 0) X.1 X.2.1 dX11_isCell_19 (by decide +kernel) ?_
    exact sg_zretP X hr (sg_zn (iv_of (iv_c 0 (a := 0) (b := 0) (by decide +kernel)) (a' := 0) (b' := 1) (by decide +kernel))) hlk hS ⟨(iv_of (iv_c 0 (a := 0) (b := 0) (by decide +kernel)) (a' := 0) (b' := 1) (by decide +kernel)), fun h => absurd rfl h⟩ dX11_isCell_20
  refine lv_if_lt (tgt := 19) X.1 X.2.1 dX11_isCell_1 (by decide) (fun c1 => ?_) (fun c1 => ?_)
  · exact B2_19 _ _ hS (lv_sub hl [] rfl)
  · refine lv_iload_n X.1 X.2.1 dX11_isCell_4 rfl (lv_at hl 1 rfl) ?_
    refine lv_aload_n X.1 X.2.1 dX11_isCell_5 rfl (lv_at hl 0 rfl) ?_
    refine gf_X11_10 X hK hG h0 wl_2_205 dX11_isCell_6 (fun q3 hq3 kq3 => ?_)
    refine gf_X4_5 X hK hG hq3 wl_1_220 dX11_isCell_9 (fun f4 hf4 kf4 => ?_)
    refine lv_icmp_ge (tgt := 19) X.1 X.2.1 dX11_isCell_12 (by decide) (fun c5 => ?_) (fun c5 => ?_)
    · exact B2_19 _ _ hS (lv_sub hl [] rfl)
    · refine lv_iconst (v := 1) X.1 X.2.1 dX11_isCell_15 (by decide +kernel) ?_
      refine lv_goto (tgt := 20) X.1 X.2.1 dX11_isCell_16 (by decide) ?_
      exact sg_zretP X hr (sg_zn (iv_of (iv_c 1 (a := 1) (b := 1) (by decide +kernel)) (a' := 0) (b' := 1) (by decide +kernel))) hlk hS ⟨(iv_of (iv_c 1 (a := 1) (b := 1) (by decide +kernel)) (a' := 0) (b' := 1) (by decide +kernel)), fun h => (iv_lt (b' := 29) (iv_gt_of c5) (iv_ler (c' := 0) (iv_ge_of c1) (iv_c 0 (a := 0) (b := 0) (by decide +kernel)) (iv_top x1) (by decide +kernel)) hf4 (by decide +kernel))⟩ dX11_isCell_20

theorem ca_X11_isCell   (X : CallFix p m c cc nL s args sg_tbl own) (hK : va_K D vwCl tys s) (hG : sgG (KT P) D vwCl (fun q : Nat => base ≤ q) tys ad ks H) (hC : sgC base s) (hA : ∀ q : Nat, A q → base ≤ q) (hS : va_S A s.heap H locs) (hb : base ≤ s.heap.size) (a0 : Nat) (h0 : isK ad ks 11 a0) (x1 : Int32) (hl : Cond.methodLink own index yX11_isCell ∈ sg_tbl) (hsize : ls.size = nL) (hst : st0 = [.int x1].reverse ++ .ref a0 :: rest) (hW : (rest.map fun v => v.category).sum ≤ 8) (hR : 1 ≤ R.frames ∧ 21 ≤ R.locals) (hf : cells ≤ R.cells ∧ slots ≤ R.slots) (hdg : decode cc pc = .ok (.invokevirtual index, 3)) (kk : ∀ (r : Int32) (locs1 : List Loc), (fun r : Int32 => iv 0 1 r ∧ (¬ r = 0 → iv 0 29 x1)) r → va_S A s.heap H locs1 → W p l e R s m args below meth c H locs1 cells slots Q (F0 m (pc + 3) ls (.int r :: rest))) : W p l e R s m args below meth c H locs cells slots Q (F0 m pc ls st0) :=
  sg_callPVi X hK hG hC hA hS hb (m_X11_isCell l a0 h0 x1) h0 (k := 11) (ci := 11) rfl (C := RX11) (T := TX11) (N := 17) rfl wl_5_220 wl_1_1 wl_5_219 wl_0_41 (n := 1) (by decide +kernel) rfl rfl rfl hl hsize hst hW hR hf hdg kk

set_option maxHeartbeats 8000000 in
set_option maxRecDepth 100000 in
theorem m_X11_isGame (l : Launch) {D : va_G} {base : Nat} {tys : List (ClassId × FieldType)} {ad ks : List Nat} {P : sgPm} {Hx : Heap} (a0 : Nat) (h0 : isK ad ks 11 a0) (x1 : Int32) : sgPi l (KT P) D vwCl base tys ad ks Hx yX11_isGame cX11_isGame 2 (some .boolean) ({ frames := 0, cells := 0, slots := 0, locals := 0 }) [.ref a0, .int x1] (fun r : Int32 => iv 0 1 r ∧ (¬ r = 0 → iv 0 3 x1)) := by
  refine sg_ofP (Pq := fun Hx => va_Qi (fun r (_ : Unit) => (fun r : Int32 => iv 0 1 r ∧ (¬ r = 0 → iv 0 3 x1)) r) (fun _ t => t.heap = Hx) (fun _ : Nat => False)) (by decide +kernel) (Nat.le_of_ble_eq_true rfl) (fun p e s m below meth c X hr hlk hb hK hC hG ls hl => ?_)
  have hS : va_S (fun _ : Nat => False) s.heap s.heap [] := va_S.rf
  have hl : lv_has ls 2 [(0, .ref a0), (1, .int x1)] := hl
  refine lv_iload_n X.1 X.2.1 dX11_isGame_0 rfl (lv_at hl 1 rfl) ?_
  have B2_16 : ∀ (locs : List Loc) (ls : Array Slot), va_S (fun _ : Nat => False) s.heap s.heap locs → lv_has ls 2 [] → W p l e (headSpec (Cond.code yX11_isGame cX11_isGame 2 (some .boolean) :: sg_tbl) ({ frames := 0, cells := 0, slots := 0, locals := 0 })).room s m #[.ref a0, .int x1] below meth c s.heap locs 0 0 (MQ below (va_Qi (fun r (_ : Unit) => (fun r : Int32 => iv 0 1 r ∧ (¬ r = 0 → iv 0 3 x1)) r) (fun _ t => t.heap = s.heap) (fun _ : Nat => False)) #[.ref a0, .int x1] s 0 0 (fun _ : Nat => False)) (F0 m 16 ls []) := by
    intro locs ls hS hl
    refine lv_iconst (v := 0) X.1 X.2.1 dX11_isGame_16 (by decide +kernel) ?_
    exact sg_zretP X hr (sg_zn (iv_of (iv_c 0 (a := 0) (b := 0) (by decide +kernel)) (a' := 0) (b' := 1) (by decide +kernel))) hlk hS ⟨(iv_of (iv_c 0 (a := 0) (b := 0) (by decide +kernel)) (a' := 0) (b' := 1) (by decide +kernel)), fun h => absurd rfl h⟩ dX11_isGame_17
  refine lv_if_lt (tgt := 16) X.1 X.2.1 dX11_isGame_1 (by decide) (fun c1 => ?_) (fun c1 => ?_)
  · exact B2_16 _ _ hS (lv_sub hl [] rfl)
  · refine lv_iload_n X.1 X.2.1 dX11_isGame_4 rfl (lv_at hl 1 rfl) ?_
    refine lv_aload_n X.1 X.2.1 dX11_isGame_5 rfl (lv_at hl 0 rfl) ?_
    refine gf_X11_13 X hK hG h0 wl_2_208 dX11_isGame_6 (fun f3 hf3 pf3 kf3 => ?_)
    refine lv_icmp_ge (tgt := 16) X.1 X.2.1 dX11_isGame_9 (by decide) (fun c4 => ?_) (fun c4 => ?_)
    · exact B2_16 _ _ hS (lv_sub hl [] rfl)
    · refine lv_iconst (v := 1) X.1 X.2.1 dX11_isGame_12 (by decide +kernel) ?_
      refine lv_goto (tgt := 17) X.1 X.2.1 dX11_isGame_13 (by decide) ?_
      exact sg_zretP X hr (sg_zn (iv_of (iv_c 1 (a := 1) (b := 1) (by decide +kernel)) (a' := 0) (b' := 1) (by decide +kernel))) hlk hS ⟨(iv_of (iv_c 1 (a := 1) (b := 1) (by decide +kernel)) (a' := 0) (b' := 1) (by decide +kernel)), fun h => (iv_lt (b' := 3) (iv_gt_of c4) (iv_ler (c' := 0) (iv_ge_of c1) (iv_c 0 (a := 0) (b := 0) (by decide +kernel)) (iv_top x1) (by decide +kernel)) hf3 (by decide +kernel))⟩ dX11_isGame_17

theorem ca_X11_isGame   (X : CallFix p m c cc nL s args sg_tbl own) (hK : va_K D vwCl tys s) (hG : sgG (KT P) D vwCl (fun q : Nat => base ≤ q) tys ad ks H) (hC : sgC base s) (hA : ∀ q : Nat, A q → base ≤ q) (hS : va_S A s.heap H locs) (hb : base ≤ s.heap.size) (a0 : Nat) (h0 : isK ad ks 11 a0) (x1 : Int32) (hl : Cond.methodLink own index yX11_isGame ∈ sg_tbl) (hsize : ls.size = nL) (hst : st0 = [.int x1].reverse ++ .ref a0 :: rest) (hW : (rest.map fun v => v.category).sum ≤ 8) (hR : 1 ≤ R.frames ∧ 21 ≤ R.locals) (hf : cells ≤ R.cells ∧ slots ≤ R.slots) (hdg : decode cc pc = .ok (.invokevirtual index, 3)) (kk : ∀ (r : Int32) (locs1 : List Loc), (fun r : Int32 => iv 0 1 r ∧ (¬ r = 0 → iv 0 3 x1)) r → va_S A s.heap H locs1 → W p l e R s m args below meth c H locs1 cells slots Q (F0 m (pc + 3) ls (.int r :: rest))) : W p l e R s m args below meth c H locs cells slots Q (F0 m pc ls st0) :=
  sg_callPVi X hK hG hC hA hS hb (m_X11_isGame l a0 h0 x1) h0 (k := 11) (ci := 11) rfl (C := RX11) (T := TX11) (N := 17) rfl wl_5_24 wl_1_1 wl_5_23 wl_0_28 (n := 1) (by decide +kernel) rfl rfl rfl hl hsize hst hW hR hf hdg kk

set_option maxHeartbeats 8000000 in
set_option maxRecDepth 100000 in
theorem m_X11_kindOf (l : Launch) {D : va_G} {base : Nat} {tys : List (ClassId × FieldType)} {ad ks : List Nat} {P : sgPm} {Hx : Heap} (a0 : Nat) (h0 : isK ad ks 11 a0) (x1 : Int32) : sgPi l (KT P) D vwCl base tys ad ks Hx yX11_kindOf cX11_kindOf 2 (some .int) ({ frames := 0, cells := 0, slots := 0, locals := 0 }) [.ref a0, .int x1] (fun r : Int32 => True) := by
  refine sg_ofP (Pq := fun Hx => va_Qi (fun r (_ : Unit) => (fun r : Int32 => True) r) (fun _ t => t.heap = Hx) (fun _ : Nat => False)) (by decide +kernel) (Nat.le_of_ble_eq_true rfl) (fun p e s m below meth c X hr hlk hb hK hC hG ls hl => ?_)
  have hS : va_S (fun _ : Nat => False) s.heap s.heap [] := va_S.rf
  have hl : lv_has ls 2 [(0, .ref a0), (1, .int x1)] := hl
  refine lv_aload_n X.1 X.2.1 dX11_kindOf_0 rfl (lv_at hl 0 rfl) ?_
  refine gf_X11_3 X hK hG h0 wl_2_198 dX11_kindOf_1 (fun q1 hq1 kq1 => ?_)
  refine gf_X9_0 X hK hG hq1 wl_1_118 dX11_kindOf_4 (fun f2 hf2 kf2 => ?_)
  refine lv_iload_n X.1 X.2.1 dX11_kindOf_7 rfl (lv_at hl 1 rfl) ?_
  refine lv_iand X.1 X.2.1 dX11_kindOf_8 ?_
  refine lv_topi (fun f3 ef3 => ?_)
  refine lv_if_eq (tgt := 14) X.1 X.2.1 dX11_kindOf_9 (by decide) (fun c4 => ?_) (fun c4 => ?_)
  · refine lv_aload_n X.1 X.2.1 dX11_kindOf_14 rfl (lv_at hl 0 rfl) ?_
    refine gf_X11_10 X hK hG h0 wl_2_205 dX11_kindOf_15 (fun q5 hq5 kq5 => ?_)
    refine gf_X4_10 X hK hG hq5 wl_1_233 dX11_kindOf_18 (fun f6 hf6 kf6 => ?_)
    refine lv_iload_n X.1 X.2.1 dX11_kindOf_21 rfl (lv_at hl 1 rfl) ?_
    refine lv_iand X.1 X.2.1 dX11_kindOf_22 ?_
    refine lv_topi (fun f7 ef7 => ?_)
    refine lv_if_eq (tgt := 28) X.1 X.2.1 dX11_kindOf_23 (by decide) (fun c8 => ?_) (fun c8 => ?_)
    · refine lv_aload_n X.1 X.2.1 dX11_kindOf_28 rfl (lv_at hl 0 rfl) ?_
      refine gg_X11_3 X hK hG h0 wl_2_198 kq1 dX11_kindOf_29 ?_
      refine gf_X9_1 X hK hG hq1 wl_1_122 dX11_kindOf_32 (fun f9 hf9 kf9 => ?_)
      refine lv_iload_n X.1 X.2.1 dX11_kindOf_35 rfl (lv_at hl 1 rfl) ?_
      refine lv_iand X.1 X.2.1 dX11_kindOf_36 ?_
      refine lv_topi (fun f10 ef10 => ?_)
      refine lv_if_eq (tgt := 44) X.1 X.2.1 dX11_kindOf_37 (by decide) (fun c11 => ?_) (fun c11 => ?_)
      · refine lv_iconst (v := 0) X.1 X.2.1 dX11_kindOf_44 (by decide +kernel) ?_
        exact sg_iretP X hr hlk hS trivial dX11_kindOf_45
      · refine lv_iconst (v := 3) X.1 X.2.1 dX11_kindOf_40 (by decide +kernel) ?_
        refine lv_goto (tgt := 45) X.1 X.2.1 dX11_kindOf_41 (by decide) ?_
        exact sg_iretP X hr hlk hS trivial dX11_kindOf_45
    · refine lv_iconst (v := 2) X.1 X.2.1 dX11_kindOf_26 (by decide +kernel) ?_
      exact sg_iretP X hr hlk hS trivial dX11_kindOf_27
  · refine lv_iconst (v := 1) X.1 X.2.1 dX11_kindOf_12 (by decide +kernel) ?_
    exact sg_iretP X hr hlk hS trivial dX11_kindOf_13

theorem ca_X11_kindOf   (X : CallFix p m c cc nL s args sg_tbl own) (hK : va_K D vwCl tys s) (hG : sgG (KT P) D vwCl (fun q : Nat => base ≤ q) tys ad ks H) (hC : sgC base s) (hA : ∀ q : Nat, A q → base ≤ q) (hS : va_S A s.heap H locs) (hb : base ≤ s.heap.size) (a0 : Nat) (h0 : isK ad ks 11 a0) (x1 : Int32) (hl : Cond.methodLink own index yX11_kindOf ∈ sg_tbl) (hsize : ls.size = nL) (hst : st0 = [.int x1].reverse ++ .ref a0 :: rest) (hW : (rest.map fun v => v.category).sum ≤ 8) (hR : 1 ≤ R.frames ∧ 21 ≤ R.locals) (hf : cells ≤ R.cells ∧ slots ≤ R.slots) (hdg : decode cc pc = .ok (.invokevirtual index, 3)) (kk : ∀ (r : Int32) (locs1 : List Loc), (fun r : Int32 => True) r → va_S A s.heap H locs1 → W p l e R s m args below meth c H locs1 cells slots Q (F0 m (pc + 3) ls (.int r :: rest))) : W p l e R s m args below meth c H locs cells slots Q (F0 m pc ls st0) :=
  sg_callPVi X hK hG hC hA hS hb (m_X11_kindOf l a0 h0 x1) h0 (k := 11) (ci := 11) rfl (C := RX11) (T := TX11) (N := 17) rfl wl_5_224 wl_1_1 wl_5_223 wl_0_42 (n := 1) (by decide +kernel) rfl rfl rfl hl hsize hst hW hR hf hdg kk

set_option maxHeartbeats 8000000 in
set_option maxRecDepth 100000 in
theorem m_X11_nthCell (l : Launch) {D : va_G} {base : Nat} {tys : List (ClassId × FieldType)} {ad ks : List Nat} {P : sgPm} {Hx : Heap} (x0 : Int32) (x1 : Int32) : sgPi l (KT P) D vwCl base tys ad ks Hx yX11_nthCell cX11_nthCell 4 (some .int) ({ frames := 0, cells := 0, slots := 0, locals := 0 }) [.int x0, .int x1] (fun r : Int32 => True) := by
  refine sg_ofP (Pq := fun Hx => va_Qi (fun r (_ : Unit) => (fun r : Int32 => True) r) (fun _ t => t.heap = Hx) (fun _ : Nat => False)) (by decide +kernel) (Nat.le_of_ble_eq_true rfl) (fun p e s m below meth c X hr hlk hb hK hC hG ls hl => ?_)
  have hS : va_S (fun _ : Nat => False) s.heap s.heap [] := va_S.rf
  have hl : lv_has ls 4 [(0, .int x0), (1, .int x1)] := hl
  refine lv_iload_n X.1 X.2.1 dX11_nthCell_0 rfl (lv_at hl 1 rfl) ?_
  refine lv_istore_n (lv' := [(2, .int x1), (0, .int x0), (1, .int x1)]) X.1 X.2.1 dX11_nthCell_1 rfl hl (by decide) rfl (fun ls hl => ?_)
  refine lv_iconst (v := 0) X.1 X.2.1 dX11_nthCell_2 (by decide +kernel) ?_
  refine lv_istore_n (lv' := [(3, .int 0), (2, .int x1), (0, .int x0), (1, .int x1)]) X.1 X.2.1 dX11_nthCell_3 rfl hl (by decide) rfl (fun ls hl => ?_)
  have B1_4 : ∀ (N : Nat) (locs : List Loc) (ls : Array Slot) (z1_2 : Int32) (z1_3 : Int32), va_S (fun _ : Nat => False) s.heap s.heap locs → lv_has ls 4 [(0, .int x0), (2, .int z1_2), (3, .int z1_3)] → iv 0 30 z1_3 → (31 - z1_3.toInt).toNat ≤ N → W p l e (headSpec (Cond.code yX11_nthCell cX11_nthCell 4 (some .int) :: sg_tbl) ({ frames := 0, cells := 0, slots := 0, locals := 0 })).room s m #[.int x0, .int x1] below meth c s.heap locs 0 0 (MQ below (va_Qi (fun r (_ : Unit) => (fun r : Int32 => True) r) (fun _ t => t.heap = s.heap) (fun _ : Nat => False)) #[.int x0, .int x1] s 0 0 (fun _ : Nat => False)) (F0 m 4 ls []) := by
    intro N; induction N with
    | zero =>
      intro locs ls z1_2 z1_3 hS hl hz1_3 hN
      exact absurd hN (by have := iv_up hz1_3; omega)
    | succ N ih1 =>
      intro locs ls z1_2 z1_3 hS hl hz1_3 hN1
      refine lv_iload_n X.1 X.2.1 dX11_nthCell_4 rfl (lv_at hl 2 rfl) ?_
      refine lv_bipush (v := 30) X.1 X.2.1 dX11_nthCell_5 (by decide +kernel) ?_
      refine lv_icmp_ge (tgt := 33) X.1 X.2.1 dX11_nthCell_7 (by decide) (fun c2 => ?_) (fun c2 => ?_)
      · refine lv_iconst (v := (-1)) X.1 X.2.1 dX11_nthCell_33 (by decide +kernel) ?_
        exact sg_iretP X hr hlk hS trivial dX11_nthCell_34
      · refine lv_iload_n X.1 X.2.1 dX11_nthCell_10 rfl (lv_at hl 0 rfl) ?_
        refine lv_iload_n X.1 X.2.1 dX11_nthCell_11 rfl (lv_at hl 2 rfl) ?_
        refine lv_ishr X.1 X.2.1 dX11_nthCell_12 ?_
        refine lv_topi (fun f3 ef3 => ?_)
        refine lv_iconst (v := 1) X.1 X.2.1 dX11_nthCell_13 (by decide +kernel) ?_
        refine lv_iand X.1 X.2.1 dX11_nthCell_14 ?_
        refine lv_topi (fun f4 ef4 => ?_)
        have B6_27 : ∀ (locs : List Loc) (ls : Array Slot) (z6_2 : Int32), va_S (fun _ : Nat => False) s.heap s.heap locs → lv_has ls 4 [(0, .int x0), (2, .int z6_2), (3, .int z1_3)] → W p l e (headSpec (Cond.code yX11_nthCell cX11_nthCell 4 (some .int) :: sg_tbl) ({ frames := 0, cells := 0, slots := 0, locals := 0 })).room s m #[.int x0, .int x1] below meth c s.heap locs 0 0 (MQ below (va_Qi (fun r (_ : Unit) => (fun r : Int32 => True) r) (fun _ t => t.heap = s.heap) (fun _ : Nat => False)) #[.int x0, .int x1] s 0 0 (fun _ : Nat => False)) (F0 m 27 ls []) := by
          intro locs ls z6_2 hS hl
          obtain ⟨y7, ey7⟩ : ∃ y : Int32, y = z1_3 + Int32.ofInt 1 := ⟨_, rfl⟩
          refine lv_iinc (v := y7) (lv' := [(3, .int y7), (0, .int x0), (2, .int z6_2)]) X.1 X.2.1 dX11_nthCell_27 hl (k := 2) rfl ey7.symm (by decide) rfl (fun ls hl => ?_)
          refine lv_goto (tgt := 4) X.1 X.2.1 dX11_nthCell_30 (by decide) ?_
          exact ih1 _ _ z6_2 y7 hS (lv_sub hl [1, 2, 0] rfl) (iv_of (iv_add (a' := 1) (b' := 30) ey7 (iv_lt (b' := 29) (iv_gt_of c2) hz1_3 (iv_c 30 (a := 30) (b := 30) (by decide +kernel)) (by decide +kernel)) (iv_c _ (a := 1) (b := 1) (by decide +kernel)) (by decide +kernel)) (a' := 0) (b' := 30) (by decide +kernel)) (iv_stepU ey7 (iv_lt (b' := 29) (iv_gt_of c2) hz1_3 (iv_c 30 (a := 30) (b := 30) (by decide +kernel)) (by decide +kernel)) (by decide +kernel) hN1)
        refine lv_if_eq (tgt := 27) X.1 X.2.1 dX11_nthCell_15 (by decide) (fun c5 => ?_) (fun c5 => ?_)
        · exact B6_27 _ _ z1_2 hS (lv_sub hl [0, 1, 2] rfl)
        · refine lv_iload_n X.1 X.2.1 dX11_nthCell_18 rfl (lv_at hl 1 rfl) ?_
          refine lv_if_ne (tgt := 24) X.1 X.2.1 dX11_nthCell_19 (by decide) (fun c8 => ?_) (fun c8 => ?_)
          · obtain ⟨y9, ey9⟩ : ∃ y : Int32, y = z1_2 + Int32.ofInt (-1) := ⟨_, rfl⟩
            refine lv_iinc (v := y9) (lv' := [(2, .int y9), (0, .int x0), (3, .int z1_3)]) X.1 X.2.1 dX11_nthCell_24 hl (k := 1) rfl ey9.symm (by decide) rfl (fun ls hl => ?_)
            exact B6_27 _ _ y9 hS (lv_sub hl [1, 0, 2] rfl)
          · refine lv_iload_n X.1 X.2.1 dX11_nthCell_22 rfl (lv_at hl 2 rfl) ?_
            exact sg_iretP X hr hlk hS trivial dX11_nthCell_23
  exact B1_4 _ _ _ x1 0 hS (lv_sub hl [2, 1, 0] rfl) (iv_of (iv_c 0 (a := 0) (b := 0) (by decide +kernel)) (a' := 0) (b' := 30) (by decide +kernel)) (Nat.le_refl _)

theorem ca_X11_nthCell   (X : CallFix p m c cc nL s args sg_tbl own) (hK : va_K D vwCl tys s) (hG : sgG (KT P) D vwCl (fun q : Nat => base ≤ q) tys ad ks H) (hC : sgC base s) (hA : ∀ q : Nat, A q → base ≤ q) (hS : va_S A s.heap H locs) (hb : base ≤ s.heap.size) (x0 : Int32) (x1 : Int32) (hl : Cond.methodLink own index yX11_nthCell ∈ sg_tbl) (hsize : ls.size = nL) (hst : st0 = [.int x0, .int x1].reverse ++ rest) (hW : (rest.map fun v => v.category).sum ≤ 8) (hR : 1 ≤ R.frames ∧ 23 ≤ R.locals) (hf : cells ≤ R.cells ∧ slots ≤ R.slots) (hdg : decode cc pc = .ok (.invokestatic index, 3)) (kk : ∀ (r : Int32) (locs1 : List Loc), (fun r : Int32 => True) r → va_S A s.heap H locs1 → W p l e R s m args below meth c H locs1 cells slots Q (F0 m (pc + 3) ls (.int r :: rest))) : W p l e R s m args below meth c H locs cells slots Q (F0 m pc ls st0) :=
  sg_callPSi X hK hG hC hA hS hb (m_X11_nthCell l x0 x1) wl_4_214 wl_1_1 wl_4_213 (n := 2) (by decide +kernel) rfl rfl rfl hl hsize hst hW hR hf hdg kk

set_option maxHeartbeats 8000000 in
set_option maxRecDepth 100000 in
theorem m_X10_fullBytes (l : Launch) {D : va_G} {base : Nat} {tys : List (ClassId × FieldType)} {ad ks : List Nat} {P : sgPm} {Hx : Heap} (x0 : Int32) : sgPi l (KT P) D vwCl base tys ad ks Hx yX10_fullBytes cX10_fullBytes 3 (some .int) ({ frames := 0, cells := 0, slots := 0, locals := 0 }) [.int x0] (fun r : Int32 => True) := by
  refine sg_ofP (Pq := fun Hx => va_Qi (fun r (_ : Unit) => (fun r : Int32 => True) r) (fun _ t => t.heap = Hx) (fun _ : Nat => False)) (by decide +kernel) (Nat.le_of_ble_eq_true rfl) (fun p e s m below meth c X hr hlk hb hK hC hG ls hl => ?_)
  have hS : va_S (fun _ : Nat => False) s.heap s.heap [] := va_S.rf
  have hl : lv_has ls 3 [(0, .int x0)] := hl
  refine lv_iconst (v := 0) X.1 X.2.1 dX10_fullBytes_0 (by decide +kernel) ?_
  refine lv_istore_n (lv' := [(1, .int 0), (0, .int x0)]) X.1 X.2.1 dX10_fullBytes_1 rfl hl (by decide) rfl (fun ls hl => ?_)
  refine lv_bipush (v := 24) X.1 X.2.1 dX10_fullBytes_2 (by decide +kernel) ?_
  refine lv_istore_n (lv' := [(2, .int 24), (1, .int 0), (0, .int x0)]) X.1 X.2.1 dX10_fullBytes_4 rfl hl (by decide) rfl (fun ls hl => ?_)
  have B1_5 : ∀ (N : Nat) (locs : List Loc) (ls : Array Slot) (z1_1 : Int32) (z1_2 : Int32), va_S (fun _ : Nat => False) s.heap s.heap locs → lv_has ls 3 [(0, .int x0), (1, .int z1_1), (2, .int z1_2)] → iv (-8) 24 z1_2 → (z1_2.toInt - (-9)).toNat ≤ N → W p l e (headSpec (Cond.code yX10_fullBytes cX10_fullBytes 3 (some .int) :: sg_tbl) ({ frames := 0, cells := 0, slots := 0, locals := 0 })).room s m #[.int x0] below meth c s.heap locs 0 0 (MQ below (va_Qi (fun r (_ : Unit) => (fun r : Int32 => True) r) (fun _ t => t.heap = s.heap) (fun _ : Nat => False)) #[.int x0] s 0 0 (fun _ : Nat => False)) (F0 m 5 ls []) := by
    intro N; induction N with
    | zero =>
      intro locs ls z1_1 z1_2 hS hl hz1_2 hN
      exact absurd hN (by have := iv_dn hz1_2; omega)
    | succ N ih1 =>
      intro locs ls z1_1 z1_2 hS hl hz1_2 hN1
      refine lv_iload_n X.1 X.2.1 dX10_fullBytes_5 rfl (lv_at hl 2 rfl) ?_
      refine lv_if_lt (tgt := 28) X.1 X.2.1 dX10_fullBytes_6 (by decide) (fun c2 => ?_) (fun c2 => ?_)
      · refine lv_iload_n X.1 X.2.1 dX10_fullBytes_28 rfl (lv_at hl 1 rfl) ?_
        exact sg_iretP X hr hlk hS trivial dX10_fullBytes_29
      · refine lv_iload_n X.1 X.2.1 dX10_fullBytes_9 rfl (lv_at hl 0 rfl) ?_
        refine lv_iload_n X.1 X.2.1 dX10_fullBytes_10 rfl (lv_at hl 2 rfl) ?_
        obtain ⟨f3, ef3⟩ : ∃ y : Int32, y = (x0.toUInt32 >>> ((z1_2 : Int32).toUInt32 &&& Int32.toUInt32 31)).toInt32 := ⟨_, rfl⟩
        refine lv_iushr (v := f3) X.1 X.2.1 dX10_fullBytes_11 ef3.symm ?_
        refine lv_sipush (v := 255) X.1 X.2.1 dX10_fullBytes_12 (by decide +kernel) ?_
        refine lv_iand X.1 X.2.1 dX10_fullBytes_15 ?_
        refine lv_topi (fun f4 ef4 => ?_)
        have B6_22 : ∀ (locs : List Loc) (ls : Array Slot) (z6_1 : Int32), va_S (fun _ : Nat => False) s.heap s.heap locs → lv_has ls 3 [(0, .int x0), (1, .int z6_1), (2, .int z1_2)] → W p l e (headSpec (Cond.code yX10_fullBytes cX10_fullBytes 3 (some .int) :: sg_tbl) ({ frames := 0, cells := 0, slots := 0, locals := 0 })).room s m #[.int x0] below meth c s.heap locs 0 0 (MQ below (va_Qi (fun r (_ : Unit) => (fun r : Int32 => True) r) (fun _ t => t.heap = s.heap) (fun _ : Nat => False)) #[.int x0] s 0 0 (fun _ : Nat => False)) (F0 m 22 ls []) := by
          intro locs ls z6_1 hS hl
          obtain ⟨y7, ey7⟩ : ∃ y : Int32, y = z1_2 + Int32.ofInt (-8) := ⟨_, rfl⟩
          refine lv_iinc (v := y7) (lv' := [(2, .int y7), (0, .int x0), (1, .int z6_1)]) X.1 X.2.1 dX10_fullBytes_22 hl (k := 2) rfl ey7.symm (by decide) rfl (fun ls hl => ?_)
          refine lv_goto (tgt := 5) X.1 X.2.1 dX10_fullBytes_25 (by decide) ?_
          exact ih1 _ _ z6_1 y7 hS (lv_sub hl [1, 2, 0] rfl) (iv_of (iv_add (a' := (-8)) (b' := 16) ey7 (iv_ler (c' := 0) (iv_ge_of c2) (iv_c 0 (a := 0) (b := 0) (by decide +kernel)) hz1_2 (by decide +kernel)) (iv_c _ (a := (-8)) (b := (-8)) (by decide +kernel)) (by decide +kernel)) (a' := (-8)) (b' := 24) (by decide +kernel)) (iv_stepD ey7 (iv_ler (c' := 0) (iv_ge_of c2) (iv_c 0 (a := 0) (b := 0) (by decide +kernel)) hz1_2 (by decide +kernel)) (by decide +kernel) hN1)
        refine lv_if_eq (tgt := 22) X.1 X.2.1 dX10_fullBytes_16 (by decide) (fun c5 => ?_) (fun c5 => ?_)
        · exact B6_22 _ _ z1_1 hS (lv_sub hl [0, 1, 2] rfl)
        · obtain ⟨y8, ey8⟩ : ∃ y : Int32, y = z1_1 + Int32.ofInt 1 := ⟨_, rfl⟩
          refine lv_iinc (v := y8) (lv' := [(1, .int y8), (0, .int x0), (2, .int z1_2)]) X.1 X.2.1 dX10_fullBytes_19 hl (k := 1) rfl ey8.symm (by decide) rfl (fun ls hl => ?_)
          exact B6_22 _ _ y8 hS (lv_sub hl [1, 0, 2] rfl)
  exact B1_5 _ _ _ 0 24 hS (lv_sub hl [2, 1, 0] rfl) (iv_of (iv_c 24 (a := 24) (b := 24) (by decide +kernel)) (a' := (-8)) (b' := 24) (by decide +kernel)) (Nat.le_refl _)

theorem ca_X10_fullBytes   (X : CallFix p m c cc nL s args sg_tbl own) (hK : va_K D vwCl tys s) (hG : sgG (KT P) D vwCl (fun q : Nat => base ≤ q) tys ad ks H) (hC : sgC base s) (hA : ∀ q : Nat, A q → base ≤ q) (hS : va_S A s.heap H locs) (hb : base ≤ s.heap.size) (x0 : Int32) (hl : Cond.methodLink own index yX10_fullBytes ∈ sg_tbl) (hsize : ls.size = nL) (hst : st0 = [.int x0].reverse ++ rest) (hW : (rest.map fun v => v.category).sum ≤ 8) (hR : 1 ≤ R.frames ∧ 22 ≤ R.locals) (hf : cells ≤ R.cells ∧ slots ≤ R.slots) (hdg : decode cc pc = .ok (.invokestatic index, 3)) (kk : ∀ (r : Int32) (locs1 : List Loc), (fun r : Int32 => True) r → va_S A s.heap H locs1 → W p l e R s m args below meth c H locs1 cells slots Q (F0 m (pc + 3) ls (.int r :: rest))) : W p l e R s m args below meth c H locs cells slots Q (F0 m pc ls st0) :=
  sg_callPSi X hK hG hC hA hS hb (m_X10_fullBytes l x0) wl_3_13 wl_1_2 wl_3_12 (n := 1) (by decide +kernel) rfl rfl rfl hl hsize hst hW hR hf hdg kk
end
